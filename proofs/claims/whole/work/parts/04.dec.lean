theorem dX6_init_0 : decode cX6_init 0 = .ok (.aload_n 0, 1) := by decide +kernel
theorem dX6_init_1 : decode cX6_init 1 = .ok (.invokespecial 1, 3) := by decide +kernel
theorem dX6_init_4 : decode cX6_init 4 = .ok (.aload_n 0, 1) := by decide +kernel
theorem dX6_init_5 : decode cX6_init 5 = .ok (.bipush 97, 2) := by decide +kernel
theorem dX6_init_7 : decode cX6_init 7 = .ok (.newarray .int, 2) := by decide +kernel
theorem dX6_init_9 : decode cX6_init 9 = .ok (.putfield 7, 3) := by decide +kernel
theorem dX6_init_12 : decode cX6_init 12 = .ok (.aload_n 0, 1) := by decide +kernel
theorem dX6_init_13 : decode cX6_init 13 = .ok (.sipush 485, 3) := by decide +kernel
theorem dX6_init_16 : decode cX6_init 16 = .ok (.newarray .int, 2) := by decide +kernel
theorem dX6_init_18 : decode cX6_init 18 = .ok (.putfield 13, 3) := by decide +kernel
theorem dX6_init_21 : decode cX6_init 21 = .ok (.aload_n 0, 1) := by decide +kernel
theorem dX6_init_22 : decode cX6_init 22 = .ok (.bipush 24, 2) := by decide +kernel
theorem dX6_init_24 : decode cX6_init 24 = .ok (.newarray .int, 2) := by decide +kernel
theorem dX6_init_26 : decode cX6_init 26 = .ok (.putfield 16, 3) := by decide +kernel
theorem dX6_init_29 : decode cX6_init 29 = .ok (.aload_n 0, 1) := by decide +kernel
theorem dX6_init_30 : decode cX6_init 30 = .ok (.bipush 24, 2) := by decide +kernel
theorem dX6_init_32 : decode cX6_init 32 = .ok (.newarray .int, 2) := by decide +kernel
theorem dX6_init_34 : decode cX6_init 34 = .ok (.putfield 19, 3) := by decide +kernel
theorem dX6_init_37 : decode cX6_init 37 = .ok (.aload_n 0, 1) := by decide +kernel
theorem dX6_init_38 : decode cX6_init 38 = .ok (.bipush 48, 2) := by decide +kernel
theorem dX6_init_40 : decode cX6_init 40 = .ok (.newarray .int, 2) := by decide +kernel
theorem dX6_init_42 : decode cX6_init 42 = .ok (.putfield 22, 3) := by decide +kernel
theorem dX6_init_45 : decode cX6_init 45 = .ok (.aload_n 0, 1) := by decide +kernel
theorem dX6_init_46 : decode cX6_init 46 = .ok (.bipush 48, 2) := by decide +kernel
theorem dX6_init_48 : decode cX6_init 48 = .ok (.newarray .int, 2) := by decide +kernel
theorem dX6_init_50 : decode cX6_init 50 = .ok (.putfield 25, 3) := by decide +kernel
theorem dX6_init_53 : decode cX6_init 53 = .ok (.aload_n 0, 1) := by decide +kernel
theorem dX6_init_54 : decode cX6_init 54 = .ok (.bipush 24, 2) := by decide +kernel
theorem dX6_init_56 : decode cX6_init 56 = .ok (.newarray .int, 2) := by decide +kernel
theorem dX6_init_58 : decode cX6_init 58 = .ok (.putfield 28, 3) := by decide +kernel
theorem dX6_init_61 : decode cX6_init 61 = .ok (.aload_n 0, 1) := by decide +kernel
theorem dX6_init_62 : decode cX6_init 62 = .ok (.bipush 24, 2) := by decide +kernel
theorem dX6_init_64 : decode cX6_init 64 = .ok (.newarray .int, 2) := by decide +kernel
theorem dX6_init_66 : decode cX6_init 66 = .ok (.putfield 31, 3) := by decide +kernel
theorem dX6_init_69 : decode cX6_init 69 = .ok (.aload_n 0, 1) := by decide +kernel
theorem dX6_init_70 : decode cX6_init 70 = .ok (.bipush 24, 2) := by decide +kernel
theorem dX6_init_72 : decode cX6_init 72 = .ok (.newarray .boolean, 2) := by decide +kernel
theorem dX6_init_74 : decode cX6_init 74 = .ok (.putfield 34, 3) := by decide +kernel
theorem dX6_init_77 : decode cX6_init 77 = .ok (.aload_n 0, 1) := by decide +kernel
theorem dX6_init_78 : decode cX6_init 78 = .ok (.bipush 20, 2) := by decide +kernel
theorem dX6_init_80 : decode cX6_init 80 = .ok (.newarray .int, 2) := by decide +kernel
theorem dX6_init_82 : decode cX6_init 82 = .ok (.putfield 38, 3) := by decide +kernel
theorem dX6_init_85 : decode cX6_init 85 = .ok (.return_, 1) := by decide +kernel
theorem dX6_in_0 : decode cX6_in 0 = .ok (.iload_n 0, 1) := by decide +kernel
theorem dX6_in_1 : decode cX6_in 1 = .ok (.iload_n 1, 1) := by decide +kernel
theorem dX6_in_2 : decode cX6_in 2 = .ok (.if_icmp .lt 12, 3) := by decide +kernel
theorem dX6_in_5 : decode cX6_in 5 = .ok (.iload_n 0, 1) := by decide +kernel
theorem dX6_in_6 : decode cX6_in 6 = .ok (.iload_n 2, 1) := by decide +kernel
theorem dX6_in_7 : decode cX6_in 7 = .ok (.if_icmp .gt 7, 3) := by decide +kernel
theorem dX6_in_10 : decode cX6_in 10 = .ok (.iconst 1, 1) := by decide +kernel
theorem dX6_in_11 : decode cX6_in 11 = .ok (.goto 4, 3) := by decide +kernel
theorem dX6_in_14 : decode cX6_in 14 = .ok (.iconst 0, 1) := by decide +kernel
theorem dX6_in_15 : decode cX6_in 15 = .ok (.ireturn, 1) := by decide +kernel
theorem dX6_edit_0 : decode cX6_edit 0 = .ok (.aload_n 0, 1) := by decide +kernel
theorem dX6_edit_1 : decode cX6_edit 1 = .ok (.getfield 41, 3) := by decide +kernel
theorem dX6_edit_4 : decode cX6_edit 4 = .ok (.iconst 5, 1) := by decide +kernel
theorem dX6_edit_5 : decode cX6_edit 5 = .ok (.if_icmp .ne 43, 3) := by decide +kernel
theorem dX6_edit_8 : decode cX6_edit 8 = .ok (.iconst 0, 1) := by decide +kernel
theorem dX6_edit_9 : decode cX6_edit 9 = .ok (.istore_n 1, 1) := by decide +kernel
theorem dX6_edit_10 : decode cX6_edit 10 = .ok (.iload_n 1, 1) := by decide +kernel
theorem dX6_edit_11 : decode cX6_edit 11 = .ok (.sipush 388, 3) := by decide +kernel
theorem dX6_edit_14 : decode cX6_edit 14 = .ok (.if_icmp .ge 24, 3) := by decide +kernel
theorem dX6_edit_17 : decode cX6_edit 17 = .ok (.aload_n 0, 1) := by decide +kernel
theorem dX6_edit_18 : decode cX6_edit 18 = .ok (.getfield 13, 3) := by decide +kernel
theorem dX6_edit_21 : decode cX6_edit 21 = .ok (.iload_n 1, 1) := by decide +kernel
theorem dX6_edit_22 : decode cX6_edit 22 = .ok (.aload_n 0, 1) := by decide +kernel
theorem dX6_edit_23 : decode cX6_edit 23 = .ok (.getfield 13, 3) := by decide +kernel
theorem dX6_edit_26 : decode cX6_edit 26 = .ok (.iload_n 1, 1) := by decide +kernel
theorem dX6_edit_27 : decode cX6_edit 27 = .ok (.bipush 97, 2) := by decide +kernel
theorem dX6_edit_29 : decode cX6_edit 29 = .ok (.iadd, 1) := by decide +kernel
theorem dX6_edit_30 : decode cX6_edit 30 = .ok (.iaload, 1) := by decide +kernel
theorem dX6_edit_31 : decode cX6_edit 31 = .ok (.iastore, 1) := by decide +kernel
theorem dX6_edit_32 : decode cX6_edit 32 = .ok (.iinc 1 1, 3) := by decide +kernel
theorem dX6_edit_35 : decode cX6_edit 35 = .ok (.goto (-25), 3) := by decide +kernel
theorem dX6_edit_38 : decode cX6_edit 38 = .ok (.aload_n 0, 1) := by decide +kernel
theorem dX6_edit_39 : decode cX6_edit 39 = .ok (.dup, 1) := by decide +kernel
theorem dX6_edit_40 : decode cX6_edit 40 = .ok (.getfield 41, 3) := by decide +kernel
theorem dX6_edit_43 : decode cX6_edit 43 = .ok (.iconst 1, 1) := by decide +kernel
theorem dX6_edit_44 : decode cX6_edit 44 = .ok (.isub, 1) := by decide +kernel
theorem dX6_edit_45 : decode cX6_edit 45 = .ok (.putfield 41, 3) := by decide +kernel
theorem dX6_edit_48 : decode cX6_edit 48 = .ok (.iconst 0, 1) := by decide +kernel
theorem dX6_edit_49 : decode cX6_edit 49 = .ok (.istore_n 1, 1) := by decide +kernel
theorem dX6_edit_50 : decode cX6_edit 50 = .ok (.iload_n 1, 1) := by decide +kernel
theorem dX6_edit_51 : decode cX6_edit 51 = .ok (.bipush 97, 2) := by decide +kernel
theorem dX6_edit_53 : decode cX6_edit 53 = .ok (.if_icmp .ge 29, 3) := by decide +kernel
theorem dX6_edit_56 : decode cX6_edit 56 = .ok (.aload_n 0, 1) := by decide +kernel
theorem dX6_edit_57 : decode cX6_edit 57 = .ok (.getfield 13, 3) := by decide +kernel
theorem dX6_edit_60 : decode cX6_edit 60 = .ok (.bipush 97, 2) := by decide +kernel
theorem dX6_edit_62 : decode cX6_edit 62 = .ok (.aload_n 0, 1) := by decide +kernel
theorem dX6_edit_63 : decode cX6_edit 63 = .ok (.getfield 41, 3) := by decide +kernel
theorem dX6_edit_66 : decode cX6_edit 66 = .ok (.imul, 1) := by decide +kernel
theorem dX6_edit_67 : decode cX6_edit 67 = .ok (.iload_n 1, 1) := by decide +kernel
theorem dX6_edit_68 : decode cX6_edit 68 = .ok (.iadd, 1) := by decide +kernel
theorem dX6_edit_69 : decode cX6_edit 69 = .ok (.aload_n 0, 1) := by decide +kernel
theorem dX6_edit_70 : decode cX6_edit 70 = .ok (.getfield 7, 3) := by decide +kernel
theorem dX6_edit_73 : decode cX6_edit 73 = .ok (.iload_n 1, 1) := by decide +kernel
theorem dX6_edit_74 : decode cX6_edit 74 = .ok (.iaload, 1) := by decide +kernel
theorem dX6_edit_75 : decode cX6_edit 75 = .ok (.iastore, 1) := by decide +kernel
theorem dX6_edit_76 : decode cX6_edit 76 = .ok (.iinc 1 1, 3) := by decide +kernel
theorem dX6_edit_79 : decode cX6_edit 79 = .ok (.goto (-29), 3) := by decide +kernel
theorem dX6_edit_82 : decode cX6_edit 82 = .ok (.aload_n 0, 1) := by decide +kernel
theorem dX6_edit_83 : decode cX6_edit 83 = .ok (.dup, 1) := by decide +kernel
theorem dX6_edit_84 : decode cX6_edit 84 = .ok (.getfield 41, 3) := by decide +kernel
theorem dX6_edit_87 : decode cX6_edit 87 = .ok (.iconst 1, 1) := by decide +kernel
theorem dX6_edit_88 : decode cX6_edit 88 = .ok (.iadd, 1) := by decide +kernel
theorem dX6_edit_89 : decode cX6_edit 89 = .ok (.putfield 41, 3) := by decide +kernel
theorem dX6_edit_92 : decode cX6_edit 92 = .ok (.return_, 1) := by decide +kernel
theorem dX6_undo_0 : decode cX6_undo 0 = .ok (.aload_n 0, 1) := by decide +kernel
theorem dX6_undo_1 : decode cX6_undo 1 = .ok (.getfield 41, 3) := by decide +kernel
theorem dX6_undo_4 : decode cX6_undo 4 = .ok (.ifCond .ne 6, 3) := by decide +kernel
theorem dX6_undo_7 : decode cX6_undo 7 = .ok (.bipush (-3), 2) := by decide +kernel
theorem dX6_undo_9 : decode cX6_undo 9 = .ok (.ireturn, 1) := by decide +kernel
theorem dX6_undo_10 : decode cX6_undo 10 = .ok (.aload_n 0, 1) := by decide +kernel
theorem dX6_undo_11 : decode cX6_undo 11 = .ok (.dup, 1) := by decide +kernel
theorem dX6_undo_12 : decode cX6_undo 12 = .ok (.getfield 41, 3) := by decide +kernel
theorem dX6_undo_15 : decode cX6_undo 15 = .ok (.iconst 1, 1) := by decide +kernel
theorem dX6_undo_16 : decode cX6_undo 16 = .ok (.isub, 1) := by decide +kernel
theorem dX6_undo_17 : decode cX6_undo 17 = .ok (.putfield 41, 3) := by decide +kernel
theorem dX6_undo_20 : decode cX6_undo 20 = .ok (.iconst 0, 1) := by decide +kernel
theorem dX6_undo_21 : decode cX6_undo 21 = .ok (.istore_n 1, 1) := by decide +kernel
theorem dX6_undo_22 : decode cX6_undo 22 = .ok (.iload_n 1, 1) := by decide +kernel
theorem dX6_undo_23 : decode cX6_undo 23 = .ok (.bipush 97, 2) := by decide +kernel
theorem dX6_undo_25 : decode cX6_undo 25 = .ok (.if_icmp .ge 29, 3) := by decide +kernel
theorem dX6_undo_28 : decode cX6_undo 28 = .ok (.aload_n 0, 1) := by decide +kernel
theorem dX6_undo_29 : decode cX6_undo 29 = .ok (.getfield 7, 3) := by decide +kernel
theorem dX6_undo_32 : decode cX6_undo 32 = .ok (.iload_n 1, 1) := by decide +kernel
theorem dX6_undo_33 : decode cX6_undo 33 = .ok (.aload_n 0, 1) := by decide +kernel
theorem dX6_undo_34 : decode cX6_undo 34 = .ok (.getfield 13, 3) := by decide +kernel
theorem dX6_undo_37 : decode cX6_undo 37 = .ok (.bipush 97, 2) := by decide +kernel
theorem dX6_undo_39 : decode cX6_undo 39 = .ok (.aload_n 0, 1) := by decide +kernel
theorem dX6_undo_40 : decode cX6_undo 40 = .ok (.getfield 41, 3) := by decide +kernel
theorem dX6_undo_43 : decode cX6_undo 43 = .ok (.imul, 1) := by decide +kernel
theorem dX6_undo_44 : decode cX6_undo 44 = .ok (.iload_n 1, 1) := by decide +kernel
theorem dX6_undo_45 : decode cX6_undo 45 = .ok (.iadd, 1) := by decide +kernel
theorem dX6_undo_46 : decode cX6_undo 46 = .ok (.iaload, 1) := by decide +kernel
theorem dX6_undo_47 : decode cX6_undo 47 = .ok (.iastore, 1) := by decide +kernel
theorem dX6_undo_48 : decode cX6_undo 48 = .ok (.iinc 1 1, 3) := by decide +kernel
theorem dX6_undo_51 : decode cX6_undo 51 = .ok (.goto (-29), 3) := by decide +kernel
theorem dX6_undo_54 : decode cX6_undo 54 = .ok (.aload_n 0, 1) := by decide +kernel
theorem dX6_undo_55 : decode cX6_undo 55 = .ok (.getfield 41, 3) := by decide +kernel
theorem dX6_undo_58 : decode cX6_undo 58 = .ok (.ireturn, 1) := by decide +kernel
theorem dX6_addSpecimen_0 : decode cX6_addSpecimen 0 = .ok (.iload_n 1, 1) := by decide +kernel
theorem dX6_addSpecimen_1 : decode cX6_addSpecimen 1 = .ok (.iconst 0, 1) := by decide +kernel
theorem dX6_addSpecimen_2 : decode cX6_addSpecimen 2 = .ok (.bipush 9, 2) := by decide +kernel
theorem dX6_addSpecimen_4 : decode cX6_addSpecimen 4 = .ok (.invokestatic 45, 3) := by decide +kernel
theorem dX6_addSpecimen_7 : decode cX6_addSpecimen 7 = .ok (.ifCond .eq 32, 3) := by decide +kernel
theorem dX6_addSpecimen_10 : decode cX6_addSpecimen 10 = .ok (.iload_n 2, 1) := by decide +kernel
theorem dX6_addSpecimen_11 : decode cX6_addSpecimen 11 = .ok (.iconst 0, 1) := by decide +kernel
theorem dX6_addSpecimen_12 : decode cX6_addSpecimen 12 = .ok (.bipush 9, 2) := by decide +kernel
theorem dX6_addSpecimen_14 : decode cX6_addSpecimen 14 = .ok (.invokestatic 45, 3) := by decide +kernel
theorem dX6_addSpecimen_17 : decode cX6_addSpecimen 17 = .ok (.ifCond .eq 22, 3) := by decide +kernel
theorem dX6_addSpecimen_20 : decode cX6_addSpecimen 20 = .ok (.iload_n 3, 1) := by decide +kernel
theorem dX6_addSpecimen_21 : decode cX6_addSpecimen 21 = .ok (.iconst 0, 1) := by decide +kernel
theorem dX6_addSpecimen_22 : decode cX6_addSpecimen 22 = .ok (.iconst 5, 1) := by decide +kernel
theorem dX6_addSpecimen_23 : decode cX6_addSpecimen 23 = .ok (.invokestatic 45, 3) := by decide +kernel
theorem dX6_addSpecimen_26 : decode cX6_addSpecimen 26 = .ok (.ifCond .eq 13, 3) := by decide +kernel
theorem dX6_addSpecimen_29 : decode cX6_addSpecimen 29 = .ok (.iload 4, 2) := by decide +kernel
theorem dX6_addSpecimen_31 : decode cX6_addSpecimen 31 = .ok (.iconst 0, 1) := by decide +kernel
theorem dX6_addSpecimen_32 : decode cX6_addSpecimen 32 = .ok (.iconst 5, 1) := by decide +kernel
theorem dX6_addSpecimen_33 : decode cX6_addSpecimen 33 = .ok (.invokestatic 45, 3) := by decide +kernel
theorem dX6_addSpecimen_36 : decode cX6_addSpecimen 36 = .ok (.ifCond .ne 5, 3) := by decide +kernel
theorem dX6_addSpecimen_39 : decode cX6_addSpecimen 39 = .ok (.iconst (-1), 1) := by decide +kernel
theorem dX6_addSpecimen_40 : decode cX6_addSpecimen 40 = .ok (.ireturn, 1) := by decide +kernel
theorem dX6_addSpecimen_41 : decode cX6_addSpecimen 41 = .ok (.aload_n 0, 1) := by decide +kernel
theorem dX6_addSpecimen_42 : decode cX6_addSpecimen 42 = .ok (.getfield 7, 3) := by decide +kernel
theorem dX6_addSpecimen_45 : decode cX6_addSpecimen 45 = .ok (.bipush 96, 2) := by decide +kernel
theorem dX6_addSpecimen_47 : decode cX6_addSpecimen 47 = .ok (.iaload, 1) := by decide +kernel
theorem dX6_addSpecimen_48 : decode cX6_addSpecimen 48 = .ok (.bipush 24, 2) := by decide +kernel
theorem dX6_addSpecimen_50 : decode cX6_addSpecimen 50 = .ok (.if_icmp .ne 6, 3) := by decide +kernel
theorem dX6_addSpecimen_53 : decode cX6_addSpecimen 53 = .ok (.bipush (-2), 2) := by decide +kernel
theorem dX6_addSpecimen_55 : decode cX6_addSpecimen 55 = .ok (.ireturn, 1) := by decide +kernel
theorem dX6_addSpecimen_56 : decode cX6_addSpecimen 56 = .ok (.aload_n 0, 1) := by decide +kernel
theorem dX6_addSpecimen_57 : decode cX6_addSpecimen 57 = .ok (.invokevirtual 49, 3) := by decide +kernel
theorem dX6_addSpecimen_60 : decode cX6_addSpecimen 60 = .ok (.iconst 4, 1) := by decide +kernel
theorem dX6_addSpecimen_61 : decode cX6_addSpecimen 61 = .ok (.aload_n 0, 1) := by decide +kernel
theorem dX6_addSpecimen_62 : decode cX6_addSpecimen 62 = .ok (.getfield 7, 3) := by decide +kernel
theorem dX6_addSpecimen_65 : decode cX6_addSpecimen 65 = .ok (.bipush 96, 2) := by decide +kernel
theorem dX6_addSpecimen_67 : decode cX6_addSpecimen 67 = .ok (.iaload, 1) := by decide +kernel
theorem dX6_addSpecimen_68 : decode cX6_addSpecimen 68 = .ok (.imul, 1) := by decide +kernel
theorem dX6_addSpecimen_69 : decode cX6_addSpecimen 69 = .ok (.istore 5, 2) := by decide +kernel
theorem dX6_addSpecimen_71 : decode cX6_addSpecimen 71 = .ok (.aload_n 0, 1) := by decide +kernel
theorem dX6_addSpecimen_72 : decode cX6_addSpecimen 72 = .ok (.getfield 7, 3) := by decide +kernel
theorem dX6_addSpecimen_75 : decode cX6_addSpecimen 75 = .ok (.iload 5, 2) := by decide +kernel
theorem dX6_addSpecimen_77 : decode cX6_addSpecimen 77 = .ok (.iload_n 1, 1) := by decide +kernel
theorem dX6_addSpecimen_78 : decode cX6_addSpecimen 78 = .ok (.iastore, 1) := by decide +kernel
theorem dX6_addSpecimen_79 : decode cX6_addSpecimen 79 = .ok (.aload_n 0, 1) := by decide +kernel
theorem dX6_addSpecimen_80 : decode cX6_addSpecimen 80 = .ok (.getfield 7, 3) := by decide +kernel
theorem dX6_addSpecimen_83 : decode cX6_addSpecimen 83 = .ok (.iload 5, 2) := by decide +kernel
theorem dX6_addSpecimen_85 : decode cX6_addSpecimen 85 = .ok (.iconst 1, 1) := by decide +kernel
theorem dX6_addSpecimen_86 : decode cX6_addSpecimen 86 = .ok (.iadd, 1) := by decide +kernel
theorem dX6_addSpecimen_87 : decode cX6_addSpecimen 87 = .ok (.iload_n 2, 1) := by decide +kernel
theorem dX6_addSpecimen_88 : decode cX6_addSpecimen 88 = .ok (.iastore, 1) := by decide +kernel
theorem dX6_addSpecimen_89 : decode cX6_addSpecimen 89 = .ok (.aload_n 0, 1) := by decide +kernel
theorem dX6_addSpecimen_90 : decode cX6_addSpecimen 90 = .ok (.getfield 7, 3) := by decide +kernel
theorem dX6_addSpecimen_93 : decode cX6_addSpecimen 93 = .ok (.iload 5, 2) := by decide +kernel
theorem dX6_addSpecimen_95 : decode cX6_addSpecimen 95 = .ok (.iconst 2, 1) := by decide +kernel
theorem dX6_addSpecimen_96 : decode cX6_addSpecimen 96 = .ok (.iadd, 1) := by decide +kernel
theorem dX6_addSpecimen_97 : decode cX6_addSpecimen 97 = .ok (.iload_n 3, 1) := by decide +kernel
theorem dX6_addSpecimen_98 : decode cX6_addSpecimen 98 = .ok (.iastore, 1) := by decide +kernel
theorem dX6_addSpecimen_99 : decode cX6_addSpecimen 99 = .ok (.aload_n 0, 1) := by decide +kernel
theorem dX6_addSpecimen_100 : decode cX6_addSpecimen 100 = .ok (.getfield 7, 3) := by decide +kernel
theorem dX6_addSpecimen_103 : decode cX6_addSpecimen 103 = .ok (.iload 5, 2) := by decide +kernel
theorem dX6_addSpecimen_105 : decode cX6_addSpecimen 105 = .ok (.iconst 3, 1) := by decide +kernel
theorem dX6_addSpecimen_106 : decode cX6_addSpecimen 106 = .ok (.iadd, 1) := by decide +kernel
theorem dX6_addSpecimen_107 : decode cX6_addSpecimen 107 = .ok (.iload 4, 2) := by decide +kernel
theorem dX6_addSpecimen_109 : decode cX6_addSpecimen 109 = .ok (.iastore, 1) := by decide +kernel
theorem dX6_addSpecimen_110 : decode cX6_addSpecimen 110 = .ok (.aload_n 0, 1) := by decide +kernel
theorem dX6_addSpecimen_111 : decode cX6_addSpecimen 111 = .ok (.getfield 7, 3) := by decide +kernel
theorem dX6_addSpecimen_114 : decode cX6_addSpecimen 114 = .ok (.bipush 96, 2) := by decide +kernel
theorem dX6_addSpecimen_116 : decode cX6_addSpecimen 116 = .ok (.dup2, 1) := by decide +kernel
theorem dX6_addSpecimen_117 : decode cX6_addSpecimen 117 = .ok (.iaload, 1) := by decide +kernel
theorem dX6_addSpecimen_118 : decode cX6_addSpecimen 118 = .ok (.iconst 1, 1) := by decide +kernel
theorem dX6_addSpecimen_119 : decode cX6_addSpecimen 119 = .ok (.iadd, 1) := by decide +kernel
theorem dX6_addSpecimen_120 : decode cX6_addSpecimen 120 = .ok (.iastore, 1) := by decide +kernel
theorem dX6_addSpecimen_121 : decode cX6_addSpecimen 121 = .ok (.aload_n 0, 1) := by decide +kernel
theorem dX6_addSpecimen_122 : decode cX6_addSpecimen 122 = .ok (.getfield 7, 3) := by decide +kernel
theorem dX6_addSpecimen_125 : decode cX6_addSpecimen 125 = .ok (.bipush 96, 2) := by decide +kernel
theorem dX6_addSpecimen_127 : decode cX6_addSpecimen 127 = .ok (.iaload, 1) := by decide +kernel
theorem dX6_addSpecimen_128 : decode cX6_addSpecimen 128 = .ok (.iconst 1, 1) := by decide +kernel
theorem dX6_addSpecimen_129 : decode cX6_addSpecimen 129 = .ok (.isub, 1) := by decide +kernel
theorem dX6_addSpecimen_130 : decode cX6_addSpecimen 130 = .ok (.ireturn, 1) := by decide +kernel
theorem dX6_isSpecimen_0 : decode cX6_isSpecimen 0 = .ok (.iload_n 1, 1) := by decide +kernel
theorem dX6_isSpecimen_1 : decode cX6_isSpecimen 1 = .ok (.iconst 0, 1) := by decide +kernel
theorem dX6_isSpecimen_2 : decode cX6_isSpecimen 2 = .ok (.aload_n 0, 1) := by decide +kernel
theorem dX6_isSpecimen_3 : decode cX6_isSpecimen 3 = .ok (.getfield 7, 3) := by decide +kernel
theorem dX6_isSpecimen_6 : decode cX6_isSpecimen 6 = .ok (.bipush 96, 2) := by decide +kernel
theorem dX6_isSpecimen_8 : decode cX6_isSpecimen 8 = .ok (.iaload, 1) := by decide +kernel
theorem dX6_isSpecimen_9 : decode cX6_isSpecimen 9 = .ok (.iconst 1, 1) := by decide +kernel
theorem dX6_isSpecimen_10 : decode cX6_isSpecimen 10 = .ok (.isub, 1) := by decide +kernel
theorem dX6_isSpecimen_11 : decode cX6_isSpecimen 11 = .ok (.invokestatic 45, 3) := by decide +kernel
theorem dX6_isSpecimen_14 : decode cX6_isSpecimen 14 = .ok (.ireturn, 1) := by decide +kernel
theorem dX6_removeSpecimen_0 : decode cX6_removeSpecimen 0 = .ok (.aload_n 0, 1) := by decide +kernel
theorem dX6_removeSpecimen_1 : decode cX6_removeSpecimen 1 = .ok (.iload_n 1, 1) := by decide +kernel
theorem dX6_removeSpecimen_2 : decode cX6_removeSpecimen 2 = .ok (.invokevirtual 52, 3) := by decide +kernel
theorem dX6_removeSpecimen_5 : decode cX6_removeSpecimen 5 = .ok (.ifCond .ne 5, 3) := by decide +kernel
theorem dX6_removeSpecimen_8 : decode cX6_removeSpecimen 8 = .ok (.iconst (-1), 1) := by decide +kernel
theorem dX6_removeSpecimen_9 : decode cX6_removeSpecimen 9 = .ok (.ireturn, 1) := by decide +kernel
theorem dX6_removeSpecimen_10 : decode cX6_removeSpecimen 10 = .ok (.aload_n 0, 1) := by decide +kernel
theorem dX6_removeSpecimen_11 : decode cX6_removeSpecimen 11 = .ok (.invokevirtual 49, 3) := by decide +kernel
theorem dX6_removeSpecimen_14 : decode cX6_removeSpecimen 14 = .ok (.aload_n 0, 1) := by decide +kernel
theorem dX6_removeSpecimen_15 : decode cX6_removeSpecimen 15 = .ok (.getfield 7, 3) := by decide +kernel
theorem dX6_removeSpecimen_18 : decode cX6_removeSpecimen 18 = .ok (.bipush 96, 2) := by decide +kernel
theorem dX6_removeSpecimen_20 : decode cX6_removeSpecimen 20 = .ok (.dup2, 1) := by decide +kernel
theorem dX6_removeSpecimen_21 : decode cX6_removeSpecimen 21 = .ok (.iaload, 1) := by decide +kernel
theorem dX6_removeSpecimen_22 : decode cX6_removeSpecimen 22 = .ok (.iconst 1, 1) := by decide +kernel
theorem dX6_removeSpecimen_23 : decode cX6_removeSpecimen 23 = .ok (.isub, 1) := by decide +kernel
theorem dX6_removeSpecimen_24 : decode cX6_removeSpecimen 24 = .ok (.iastore, 1) := by decide +kernel
theorem dX6_removeSpecimen_25 : decode cX6_removeSpecimen 25 = .ok (.iconst 4, 1) := by decide +kernel
theorem dX6_removeSpecimen_26 : decode cX6_removeSpecimen 26 = .ok (.iload_n 1, 1) := by decide +kernel
theorem dX6_removeSpecimen_27 : decode cX6_removeSpecimen 27 = .ok (.imul, 1) := by decide +kernel
theorem dX6_removeSpecimen_28 : decode cX6_removeSpecimen 28 = .ok (.istore_n 2, 1) := by decide +kernel
theorem dX6_removeSpecimen_29 : decode cX6_removeSpecimen 29 = .ok (.iload_n 2, 1) := by decide +kernel
theorem dX6_removeSpecimen_30 : decode cX6_removeSpecimen 30 = .ok (.iconst 4, 1) := by decide +kernel
theorem dX6_removeSpecimen_31 : decode cX6_removeSpecimen 31 = .ok (.aload_n 0, 1) := by decide +kernel
theorem dX6_removeSpecimen_32 : decode cX6_removeSpecimen 32 = .ok (.getfield 7, 3) := by decide +kernel
theorem dX6_removeSpecimen_35 : decode cX6_removeSpecimen 35 = .ok (.bipush 96, 2) := by decide +kernel
theorem dX6_removeSpecimen_37 : decode cX6_removeSpecimen 37 = .ok (.iaload, 1) := by decide +kernel
theorem dX6_removeSpecimen_38 : decode cX6_removeSpecimen 38 = .ok (.imul, 1) := by decide +kernel
theorem dX6_removeSpecimen_39 : decode cX6_removeSpecimen 39 = .ok (.if_icmp .ge 23, 3) := by decide +kernel
theorem dX6_removeSpecimen_42 : decode cX6_removeSpecimen 42 = .ok (.aload_n 0, 1) := by decide +kernel
theorem dX6_removeSpecimen_43 : decode cX6_removeSpecimen 43 = .ok (.getfield 7, 3) := by decide +kernel
theorem dX6_removeSpecimen_46 : decode cX6_removeSpecimen 46 = .ok (.iload_n 2, 1) := by decide +kernel
theorem dX6_removeSpecimen_47 : decode cX6_removeSpecimen 47 = .ok (.aload_n 0, 1) := by decide +kernel
theorem dX6_removeSpecimen_48 : decode cX6_removeSpecimen 48 = .ok (.getfield 7, 3) := by decide +kernel
theorem dX6_removeSpecimen_51 : decode cX6_removeSpecimen 51 = .ok (.iload_n 2, 1) := by decide +kernel
theorem dX6_removeSpecimen_52 : decode cX6_removeSpecimen 52 = .ok (.iconst 4, 1) := by decide +kernel
theorem dX6_removeSpecimen_53 : decode cX6_removeSpecimen 53 = .ok (.iadd, 1) := by decide +kernel
theorem dX6_removeSpecimen_54 : decode cX6_removeSpecimen 54 = .ok (.iaload, 1) := by decide +kernel
theorem dX6_removeSpecimen_55 : decode cX6_removeSpecimen 55 = .ok (.iastore, 1) := by decide +kernel
theorem dX6_removeSpecimen_56 : decode cX6_removeSpecimen 56 = .ok (.iinc 2 1, 3) := by decide +kernel
theorem dX6_removeSpecimen_59 : decode cX6_removeSpecimen 59 = .ok (.goto (-30), 3) := by decide +kernel
theorem dX6_removeSpecimen_62 : decode cX6_removeSpecimen 62 = .ok (.aload_n 0, 1) := by decide +kernel
theorem dX6_removeSpecimen_63 : decode cX6_removeSpecimen 63 = .ok (.getfield 7, 3) := by decide +kernel
theorem dX6_removeSpecimen_66 : decode cX6_removeSpecimen 66 = .ok (.bipush 96, 2) := by decide +kernel
theorem dX6_removeSpecimen_68 : decode cX6_removeSpecimen 68 = .ok (.iaload, 1) := by decide +kernel
theorem dX6_removeSpecimen_69 : decode cX6_removeSpecimen 69 = .ok (.ireturn, 1) := by decide +kernel
theorem dX6_isSide_0 : decode cX6_isSide 0 = .ok (.iload_n 0, 1) := by decide +kernel
theorem dX6_isSide_1 : decode cX6_isSide 1 = .ok (.iconst 0, 1) := by decide +kernel
theorem dX6_isSide_2 : decode cX6_isSide 2 = .ok (.iconst 1, 1) := by decide +kernel
theorem dX6_isSide_3 : decode cX6_isSide 3 = .ok (.invokestatic 45, 3) := by decide +kernel
theorem dX6_isSide_6 : decode cX6_isSide 6 = .ok (.ireturn, 1) := by decide +kernel
theorem dX6_setWear_0 : decode cX6_setWear 0 = .ok (.aload_n 0, 1) := by decide +kernel
theorem dX6_setWear_1 : decode cX6_setWear 1 = .ok (.iload_n 1, 1) := by decide +kernel
theorem dX6_setWear_2 : decode cX6_setWear 2 = .ok (.invokevirtual 52, 3) := by decide +kernel
theorem dX6_setWear_5 : decode cX6_setWear 5 = .ok (.ifCond .eq 19, 3) := by decide +kernel
theorem dX6_setWear_8 : decode cX6_setWear 8 = .ok (.iload_n 2, 1) := by decide +kernel
theorem dX6_setWear_9 : decode cX6_setWear 9 = .ok (.invokestatic 56, 3) := by decide +kernel
theorem dX6_setWear_12 : decode cX6_setWear 12 = .ok (.ifCond .eq 12, 3) := by decide +kernel
theorem dX6_setWear_15 : decode cX6_setWear 15 = .ok (.iload_n 3, 1) := by decide +kernel
theorem dX6_setWear_16 : decode cX6_setWear 16 = .ok (.iconst 0, 1) := by decide +kernel
theorem dX6_setWear_17 : decode cX6_setWear 17 = .ok (.iconst 5, 1) := by decide +kernel
theorem dX6_setWear_18 : decode cX6_setWear 18 = .ok (.invokestatic 45, 3) := by decide +kernel
theorem dX6_setWear_21 : decode cX6_setWear 21 = .ok (.ifCond .ne 5, 3) := by decide +kernel
theorem dX6_setWear_24 : decode cX6_setWear 24 = .ok (.iconst (-1), 1) := by decide +kernel
theorem dX6_setWear_25 : decode cX6_setWear 25 = .ok (.ireturn, 1) := by decide +kernel
theorem dX6_setWear_26 : decode cX6_setWear 26 = .ok (.aload_n 0, 1) := by decide +kernel
theorem dX6_setWear_27 : decode cX6_setWear 27 = .ok (.invokevirtual 49, 3) := by decide +kernel
theorem dX6_setWear_30 : decode cX6_setWear 30 = .ok (.aload_n 0, 1) := by decide +kernel
theorem dX6_setWear_31 : decode cX6_setWear 31 = .ok (.getfield 7, 3) := by decide +kernel
theorem dX6_setWear_34 : decode cX6_setWear 34 = .ok (.iconst 4, 1) := by decide +kernel
theorem dX6_setWear_35 : decode cX6_setWear 35 = .ok (.iload_n 1, 1) := by decide +kernel
theorem dX6_setWear_36 : decode cX6_setWear 36 = .ok (.imul, 1) := by decide +kernel
theorem dX6_setWear_37 : decode cX6_setWear 37 = .ok (.iconst 2, 1) := by decide +kernel
theorem dX6_setWear_38 : decode cX6_setWear 38 = .ok (.iadd, 1) := by decide +kernel
theorem dX6_setWear_39 : decode cX6_setWear 39 = .ok (.iload_n 2, 1) := by decide +kernel
theorem dX6_setWear_40 : decode cX6_setWear 40 = .ok (.iadd, 1) := by decide +kernel
theorem dX6_setWear_41 : decode cX6_setWear 41 = .ok (.iaload, 1) := by decide +kernel
theorem dX6_setWear_42 : decode cX6_setWear 42 = .ok (.istore 4, 2) := by decide +kernel
theorem dX6_setWear_44 : decode cX6_setWear 44 = .ok (.aload_n 0, 1) := by decide +kernel
theorem dX6_setWear_45 : decode cX6_setWear 45 = .ok (.getfield 7, 3) := by decide +kernel
theorem dX6_setWear_48 : decode cX6_setWear 48 = .ok (.iconst 4, 1) := by decide +kernel
theorem dX6_setWear_49 : decode cX6_setWear 49 = .ok (.iload_n 1, 1) := by decide +kernel
theorem dX6_setWear_50 : decode cX6_setWear 50 = .ok (.imul, 1) := by decide +kernel
theorem dX6_setWear_51 : decode cX6_setWear 51 = .ok (.iconst 2, 1) := by decide +kernel
theorem dX6_setWear_52 : decode cX6_setWear 52 = .ok (.iadd, 1) := by decide +kernel
theorem dX6_setWear_53 : decode cX6_setWear 53 = .ok (.iload_n 2, 1) := by decide +kernel
theorem dX6_setWear_54 : decode cX6_setWear 54 = .ok (.iadd, 1) := by decide +kernel
theorem dX6_setWear_55 : decode cX6_setWear 55 = .ok (.iload_n 3, 1) := by decide +kernel
theorem dX6_setWear_56 : decode cX6_setWear 56 = .ok (.iastore, 1) := by decide +kernel
theorem dX6_setWear_57 : decode cX6_setWear 57 = .ok (.iload 4, 2) := by decide +kernel
theorem dX6_setWear_59 : decode cX6_setWear 59 = .ok (.ireturn, 1) := by decide +kernel
theorem dX6_specimens_0 : decode cX6_specimens 0 = .ok (.iconst 0, 1) := by decide +kernel
theorem dX6_specimens_1 : decode cX6_specimens 1 = .ok (.istore_n 3, 1) := by decide +kernel
theorem dX6_specimens_2 : decode cX6_specimens 2 = .ok (.iconst 0, 1) := by decide +kernel
theorem dX6_specimens_3 : decode cX6_specimens 3 = .ok (.istore 4, 2) := by decide +kernel
theorem dX6_specimens_5 : decode cX6_specimens 5 = .ok (.iload 4, 2) := by decide +kernel
theorem dX6_specimens_7 : decode cX6_specimens 7 = .ok (.aload_n 0, 1) := by decide +kernel
theorem dX6_specimens_8 : decode cX6_specimens 8 = .ok (.getfield 7, 3) := by decide +kernel
theorem dX6_specimens_11 : decode cX6_specimens 11 = .ok (.bipush 96, 2) := by decide +kernel
theorem dX6_specimens_13 : decode cX6_specimens 13 = .ok (.iaload, 1) := by decide +kernel
theorem dX6_specimens_14 : decode cX6_specimens 14 = .ok (.if_icmp .ge 32, 3) := by decide +kernel
theorem dX6_specimens_17 : decode cX6_specimens 17 = .ok (.iload_n 3, 1) := by decide +kernel
theorem dX6_specimens_18 : decode cX6_specimens 18 = .ok (.aload_n 0, 1) := by decide +kernel
theorem dX6_specimens_19 : decode cX6_specimens 19 = .ok (.getfield 7, 3) := by decide +kernel
theorem dX6_specimens_22 : decode cX6_specimens 22 = .ok (.iconst 4, 1) := by decide +kernel
theorem dX6_specimens_23 : decode cX6_specimens 23 = .ok (.iload 4, 2) := by decide +kernel
theorem dX6_specimens_25 : decode cX6_specimens 25 = .ok (.imul, 1) := by decide +kernel
theorem dX6_specimens_26 : decode cX6_specimens 26 = .ok (.iload_n 1, 1) := by decide +kernel
theorem dX6_specimens_27 : decode cX6_specimens 27 = .ok (.iadd, 1) := by decide +kernel
theorem dX6_specimens_28 : decode cX6_specimens 28 = .ok (.iaload, 1) := by decide +kernel
theorem dX6_specimens_29 : decode cX6_specimens 29 = .ok (.iload_n 2, 1) := by decide +kernel
theorem dX6_specimens_30 : decode cX6_specimens 30 = .ok (.if_icmp .ne 7, 3) := by decide +kernel
theorem dX6_specimens_33 : decode cX6_specimens 33 = .ok (.iconst 1, 1) := by decide +kernel
theorem dX6_specimens_34 : decode cX6_specimens 34 = .ok (.goto 4, 3) := by decide +kernel
theorem dX6_specimens_37 : decode cX6_specimens 37 = .ok (.iconst 0, 1) := by decide +kernel
theorem dX6_specimens_38 : decode cX6_specimens 38 = .ok (.iadd, 1) := by decide +kernel
theorem dX6_specimens_39 : decode cX6_specimens 39 = .ok (.istore_n 3, 1) := by decide +kernel
theorem dX6_specimens_40 : decode cX6_specimens 40 = .ok (.iinc 4 1, 3) := by decide +kernel
theorem dX6_specimens_43 : decode cX6_specimens 43 = .ok (.goto (-38), 3) := by decide +kernel
theorem dX6_specimens_46 : decode cX6_specimens 46 = .ok (.iload_n 3, 1) := by decide +kernel
theorem dX6_specimens_47 : decode cX6_specimens 47 = .ok (.ireturn, 1) := by decide +kernel
theorem dX6_isDie_0 : decode cX6_isDie 0 = .ok (.iload_n 0, 1) := by decide +kernel
theorem dX6_isDie_1 : decode cX6_isDie 1 = .ok (.invokestatic 56, 3) := by decide +kernel
theorem dX6_isDie_4 : decode cX6_isDie 4 = .ok (.ifCond .eq 17, 3) := by decide +kernel
theorem dX6_isDie_7 : decode cX6_isDie 7 = .ok (.iload_n 1, 1) := by decide +kernel
theorem dX6_isDie_8 : decode cX6_isDie 8 = .ok (.iconst 0, 1) := by decide +kernel
theorem dX6_isDie_9 : decode cX6_isDie 9 = .ok (.bipush 9, 2) := by decide +kernel
theorem dX6_isDie_11 : decode cX6_isDie 11 = .ok (.invokestatic 45, 3) := by decide +kernel
theorem dX6_isDie_14 : decode cX6_isDie 14 = .ok (.ifCond .eq 7, 3) := by decide +kernel
theorem dX6_isDie_17 : decode cX6_isDie 17 = .ok (.iconst 1, 1) := by decide +kernel
theorem dX6_isDie_18 : decode cX6_isDie 18 = .ok (.goto 4, 3) := by decide +kernel
theorem dX6_isDie_21 : decode cX6_isDie 21 = .ok (.iconst 0, 1) := by decide +kernel
theorem dX6_isDie_22 : decode cX6_isDie 22 = .ok (.ireturn, 1) := by decide +kernel
theorem dX6_mergeDies_0 : decode cX6_mergeDies 0 = .ok (.iload_n 1, 1) := by decide +kernel
theorem dX6_mergeDies_1 : decode cX6_mergeDies 1 = .ok (.iload_n 2, 1) := by decide +kernel
theorem dX6_mergeDies_2 : decode cX6_mergeDies 2 = .ok (.invokestatic 59, 3) := by decide +kernel
theorem dX6_mergeDies_5 : decode cX6_mergeDies 5 = .ok (.ifCond .eq 13, 3) := by decide +kernel
theorem dX6_mergeDies_8 : decode cX6_mergeDies 8 = .ok (.iload_n 3, 1) := by decide +kernel
theorem dX6_mergeDies_9 : decode cX6_mergeDies 9 = .ok (.iconst 0, 1) := by decide +kernel
theorem dX6_mergeDies_10 : decode cX6_mergeDies 10 = .ok (.bipush 9, 2) := by decide +kernel
theorem dX6_mergeDies_12 : decode cX6_mergeDies 12 = .ok (.invokestatic 45, 3) := by decide +kernel
theorem dX6_mergeDies_15 : decode cX6_mergeDies 15 = .ok (.ifCond .ne 5, 3) := by decide +kernel
theorem dX6_mergeDies_18 : decode cX6_mergeDies 18 = .ok (.iconst (-1), 1) := by decide +kernel
theorem dX6_mergeDies_19 : decode cX6_mergeDies 19 = .ok (.ireturn, 1) := by decide +kernel
theorem dX6_mergeDies_20 : decode cX6_mergeDies 20 = .ok (.aload_n 0, 1) := by decide +kernel
theorem dX6_mergeDies_21 : decode cX6_mergeDies 21 = .ok (.iload_n 1, 1) := by decide +kernel
theorem dX6_mergeDies_22 : decode cX6_mergeDies 22 = .ok (.iload_n 2, 1) := by decide +kernel
theorem dX6_mergeDies_23 : decode cX6_mergeDies 23 = .ok (.invokevirtual 63, 3) := by decide +kernel
theorem dX6_mergeDies_26 : decode cX6_mergeDies 26 = .ok (.istore 4, 2) := by decide +kernel
theorem dX6_mergeDies_28 : decode cX6_mergeDies 28 = .ok (.iload 4, 2) := by decide +kernel
theorem dX6_mergeDies_30 : decode cX6_mergeDies 30 = .ok (.ifCond .ne 6, 3) := by decide +kernel
theorem dX6_mergeDies_33 : decode cX6_mergeDies 33 = .ok (.bipush (-3), 2) := by decide +kernel
theorem dX6_mergeDies_35 : decode cX6_mergeDies 35 = .ok (.ireturn, 1) := by decide +kernel
theorem dX6_mergeDies_36 : decode cX6_mergeDies 36 = .ok (.aload_n 0, 1) := by decide +kernel
theorem dX6_mergeDies_37 : decode cX6_mergeDies 37 = .ok (.invokevirtual 49, 3) := by decide +kernel
theorem dX6_mergeDies_40 : decode cX6_mergeDies 40 = .ok (.iconst 0, 1) := by decide +kernel
theorem dX6_mergeDies_41 : decode cX6_mergeDies 41 = .ok (.istore 5, 2) := by decide +kernel
theorem dX6_mergeDies_43 : decode cX6_mergeDies 43 = .ok (.iload 5, 2) := by decide +kernel
theorem dX6_mergeDies_45 : decode cX6_mergeDies 45 = .ok (.aload_n 0, 1) := by decide +kernel
theorem dX6_mergeDies_46 : decode cX6_mergeDies 46 = .ok (.getfield 7, 3) := by decide +kernel
theorem dX6_mergeDies_49 : decode cX6_mergeDies 49 = .ok (.bipush 96, 2) := by decide +kernel
theorem dX6_mergeDies_51 : decode cX6_mergeDies 51 = .ok (.iaload, 1) := by decide +kernel
theorem dX6_mergeDies_52 : decode cX6_mergeDies 52 = .ok (.if_icmp .ge 50, 3) := by decide +kernel
theorem dX6_mergeDies_55 : decode cX6_mergeDies 55 = .ok (.aload_n 0, 1) := by decide +kernel
theorem dX6_mergeDies_56 : decode cX6_mergeDies 56 = .ok (.getfield 7, 3) := by decide +kernel
theorem dX6_mergeDies_59 : decode cX6_mergeDies 59 = .ok (.iconst 4, 1) := by decide +kernel
theorem dX6_mergeDies_60 : decode cX6_mergeDies 60 = .ok (.iload 5, 2) := by decide +kernel
theorem dX6_mergeDies_62 : decode cX6_mergeDies 62 = .ok (.imul, 1) := by decide +kernel
theorem dX6_mergeDies_63 : decode cX6_mergeDies 63 = .ok (.iload_n 1, 1) := by decide +kernel
theorem dX6_mergeDies_64 : decode cX6_mergeDies 64 = .ok (.iadd, 1) := by decide +kernel
theorem dX6_mergeDies_65 : decode cX6_mergeDies 65 = .ok (.aload_n 0, 1) := by decide +kernel
theorem dX6_mergeDies_66 : decode cX6_mergeDies 66 = .ok (.getfield 7, 3) := by decide +kernel
theorem dX6_mergeDies_69 : decode cX6_mergeDies 69 = .ok (.iconst 4, 1) := by decide +kernel
theorem dX6_mergeDies_70 : decode cX6_mergeDies 70 = .ok (.iload 5, 2) := by decide +kernel
theorem dX6_mergeDies_72 : decode cX6_mergeDies 72 = .ok (.imul, 1) := by decide +kernel
theorem dX6_mergeDies_73 : decode cX6_mergeDies 73 = .ok (.iload_n 1, 1) := by decide +kernel
theorem dX6_mergeDies_74 : decode cX6_mergeDies 74 = .ok (.iadd, 1) := by decide +kernel
theorem dX6_mergeDies_75 : decode cX6_mergeDies 75 = .ok (.iaload, 1) := by decide +kernel
theorem dX6_mergeDies_76 : decode cX6_mergeDies 76 = .ok (.iload_n 2, 1) := by decide +kernel
theorem dX6_mergeDies_77 : decode cX6_mergeDies 77 = .ok (.if_icmp .ne 7, 3) := by decide +kernel
theorem dX6_mergeDies_80 : decode cX6_mergeDies 80 = .ok (.iload_n 3, 1) := by decide +kernel
theorem dX6_mergeDies_81 : decode cX6_mergeDies 81 = .ok (.goto 14, 3) := by decide +kernel
theorem dX6_mergeDies_84 : decode cX6_mergeDies 84 = .ok (.aload_n 0, 1) := by decide +kernel
theorem dX6_mergeDies_85 : decode cX6_mergeDies 85 = .ok (.getfield 7, 3) := by decide +kernel
theorem dX6_mergeDies_88 : decode cX6_mergeDies 88 = .ok (.iconst 4, 1) := by decide +kernel
theorem dX6_mergeDies_89 : decode cX6_mergeDies 89 = .ok (.iload 5, 2) := by decide +kernel
theorem dX6_mergeDies_91 : decode cX6_mergeDies 91 = .ok (.imul, 1) := by decide +kernel
theorem dX6_mergeDies_92 : decode cX6_mergeDies 92 = .ok (.iload_n 1, 1) := by decide +kernel
theorem dX6_mergeDies_93 : decode cX6_mergeDies 93 = .ok (.iadd, 1) := by decide +kernel
theorem dX6_mergeDies_94 : decode cX6_mergeDies 94 = .ok (.iaload, 1) := by decide +kernel
theorem dX6_mergeDies_95 : decode cX6_mergeDies 95 = .ok (.iastore, 1) := by decide +kernel
theorem dX6_mergeDies_96 : decode cX6_mergeDies 96 = .ok (.iinc 5 1, 3) := by decide +kernel
theorem dX6_mergeDies_99 : decode cX6_mergeDies 99 = .ok (.goto (-56), 3) := by decide +kernel
theorem dX6_mergeDies_102 : decode cX6_mergeDies 102 = .ok (.iload_n 2, 1) := by decide +kernel
theorem dX6_mergeDies_103 : decode cX6_mergeDies 103 = .ok (.iload_n 3, 1) := by decide +kernel
theorem dX6_mergeDies_104 : decode cX6_mergeDies 104 = .ok (.if_icmp .ne 7, 3) := by decide +kernel
theorem dX6_mergeDies_107 : decode cX6_mergeDies 107 = .ok (.iconst 0, 1) := by decide +kernel
theorem dX6_mergeDies_108 : decode cX6_mergeDies 108 = .ok (.goto 5, 3) := by decide +kernel
theorem dX6_mergeDies_111 : decode cX6_mergeDies 111 = .ok (.iload 4, 2) := by decide +kernel
theorem dX6_mergeDies_113 : decode cX6_mergeDies 113 = .ok (.ireturn, 1) := by decide +kernel
theorem dX6_specimenCount_0 : decode cX6_specimenCount 0 = .ok (.aload_n 0, 1) := by decide +kernel
theorem dX6_specimenCount_1 : decode cX6_specimenCount 1 = .ok (.getfield 7, 3) := by decide +kernel
theorem dX6_specimenCount_4 : decode cX6_specimenCount 4 = .ok (.bipush 96, 2) := by decide +kernel
theorem dX6_specimenCount_6 : decode cX6_specimenCount 6 = .ok (.iaload, 1) := by decide +kernel
theorem dX6_specimenCount_7 : decode cX6_specimenCount 7 = .ok (.ireturn, 1) := by decide +kernel
theorem dX6_dieOf_0 : decode cX6_dieOf 0 = .ok (.aload_n 0, 1) := by decide +kernel
theorem dX6_dieOf_1 : decode cX6_dieOf 1 = .ok (.iload_n 1, 1) := by decide +kernel
theorem dX6_dieOf_2 : decode cX6_dieOf 2 = .ok (.invokevirtual 52, 3) := by decide +kernel
theorem dX6_dieOf_5 : decode cX6_dieOf 5 = .ok (.ifCond .eq 23, 3) := by decide +kernel
theorem dX6_dieOf_8 : decode cX6_dieOf 8 = .ok (.iload_n 2, 1) := by decide +kernel
theorem dX6_dieOf_9 : decode cX6_dieOf 9 = .ok (.invokestatic 56, 3) := by decide +kernel
theorem dX6_dieOf_12 : decode cX6_dieOf 12 = .ok (.ifCond .eq 16, 3) := by decide +kernel
theorem dX6_dieOf_15 : decode cX6_dieOf 15 = .ok (.aload_n 0, 1) := by decide +kernel
theorem dX6_dieOf_16 : decode cX6_dieOf 16 = .ok (.getfield 7, 3) := by decide +kernel
theorem dX6_dieOf_19 : decode cX6_dieOf 19 = .ok (.iconst 4, 1) := by decide +kernel
theorem dX6_dieOf_20 : decode cX6_dieOf 20 = .ok (.iload_n 1, 1) := by decide +kernel
theorem dX6_dieOf_21 : decode cX6_dieOf 21 = .ok (.imul, 1) := by decide +kernel
theorem dX6_dieOf_22 : decode cX6_dieOf 22 = .ok (.iload_n 2, 1) := by decide +kernel
theorem dX6_dieOf_23 : decode cX6_dieOf 23 = .ok (.iadd, 1) := by decide +kernel
theorem dX6_dieOf_24 : decode cX6_dieOf 24 = .ok (.iaload, 1) := by decide +kernel
theorem dX6_dieOf_25 : decode cX6_dieOf 25 = .ok (.goto 4, 3) := by decide +kernel
theorem dX6_dieOf_28 : decode cX6_dieOf 28 = .ok (.iconst (-1), 1) := by decide +kernel
theorem dX6_dieOf_29 : decode cX6_dieOf 29 = .ok (.ireturn, 1) := by decide +kernel
theorem dX6_known_0 : decode cX6_known 0 = .ok (.iconst 0, 1) := by decide +kernel
theorem dX6_known_1 : decode cX6_known 1 = .ok (.istore_n 2, 1) := by decide +kernel
theorem dX6_known_2 : decode cX6_known 2 = .ok (.iconst 0, 1) := by decide +kernel
theorem dX6_known_3 : decode cX6_known 3 = .ok (.istore_n 3, 1) := by decide +kernel
theorem dX6_known_4 : decode cX6_known 4 = .ok (.iload_n 3, 1) := by decide +kernel
theorem dX6_known_5 : decode cX6_known 5 = .ok (.bipush 10, 2) := by decide +kernel
theorem dX6_known_7 : decode cX6_known 7 = .ok (.if_icmp .ge 26, 3) := by decide +kernel
theorem dX6_known_10 : decode cX6_known 10 = .ok (.iload_n 2, 1) := by decide +kernel
theorem dX6_known_11 : decode cX6_known 11 = .ok (.aload_n 0, 1) := by decide +kernel
theorem dX6_known_12 : decode cX6_known 12 = .ok (.iload_n 1, 1) := by decide +kernel
theorem dX6_known_13 : decode cX6_known 13 = .ok (.iload_n 3, 1) := by decide +kernel
theorem dX6_known_14 : decode cX6_known 14 = .ok (.invokevirtual 63, 3) := by decide +kernel
theorem dX6_known_17 : decode cX6_known 17 = .ok (.ifCond .le 7, 3) := by decide +kernel
theorem dX6_known_20 : decode cX6_known 20 = .ok (.iconst 1, 1) := by decide +kernel
theorem dX6_known_21 : decode cX6_known 21 = .ok (.goto 4, 3) := by decide +kernel
theorem dX6_known_24 : decode cX6_known 24 = .ok (.iconst 0, 1) := by decide +kernel
theorem dX6_known_25 : decode cX6_known 25 = .ok (.iadd, 1) := by decide +kernel
theorem dX6_known_26 : decode cX6_known 26 = .ok (.istore_n 2, 1) := by decide +kernel
theorem dX6_known_27 : decode cX6_known 27 = .ok (.iinc 3 1, 3) := by decide +kernel
theorem dX6_known_30 : decode cX6_known 30 = .ok (.goto (-26), 3) := by decide +kernel
theorem dX6_known_33 : decode cX6_known 33 = .ok (.iload_n 2, 1) := by decide +kernel
theorem dX6_known_34 : decode cX6_known 34 = .ok (.ireturn, 1) := by decide +kernel
theorem dX6_dieCount_0 : decode cX6_dieCount 0 = .ok (.iload_n 1, 1) := by decide +kernel
theorem dX6_dieCount_1 : decode cX6_dieCount 1 = .ok (.invokestatic 56, 3) := by decide +kernel
theorem dX6_dieCount_4 : decode cX6_dieCount 4 = .ok (.ifCond .eq 11, 3) := by decide +kernel
theorem dX6_dieCount_7 : decode cX6_dieCount 7 = .ok (.aload_n 0, 1) := by decide +kernel
theorem dX6_dieCount_8 : decode cX6_dieCount 8 = .ok (.iload_n 1, 1) := by decide +kernel
theorem dX6_dieCount_9 : decode cX6_dieCount 9 = .ok (.invokevirtual 67, 3) := by decide +kernel
theorem dX6_dieCount_12 : decode cX6_dieCount 12 = .ok (.goto 4, 3) := by decide +kernel
theorem dX6_dieCount_15 : decode cX6_dieCount 15 = .ok (.iconst (-1), 1) := by decide +kernel
theorem dX6_dieCount_16 : decode cX6_dieCount 16 = .ok (.ireturn, 1) := by decide +kernel
theorem dX6_frequency_0 : decode cX6_frequency 0 = .ok (.iload_n 1, 1) := by decide +kernel
theorem dX6_frequency_1 : decode cX6_frequency 1 = .ok (.iload_n 2, 1) := by decide +kernel
theorem dX6_frequency_2 : decode cX6_frequency 2 = .ok (.invokestatic 59, 3) := by decide +kernel
theorem dX6_frequency_5 : decode cX6_frequency 5 = .ok (.ifCond .eq 12, 3) := by decide +kernel
theorem dX6_frequency_8 : decode cX6_frequency 8 = .ok (.aload_n 0, 1) := by decide +kernel
theorem dX6_frequency_9 : decode cX6_frequency 9 = .ok (.iload_n 1, 1) := by decide +kernel
theorem dX6_frequency_10 : decode cX6_frequency 10 = .ok (.iload_n 2, 1) := by decide +kernel
theorem dX6_frequency_11 : decode cX6_frequency 11 = .ok (.invokevirtual 63, 3) := by decide +kernel
theorem dX6_frequency_14 : decode cX6_frequency 14 = .ok (.goto 4, 3) := by decide +kernel
theorem dX6_frequency_17 : decode cX6_frequency 17 = .ok (.iconst (-1), 1) := by decide +kernel
theorem dX6_frequency_18 : decode cX6_frequency 18 = .ok (.ireturn, 1) := by decide +kernel
theorem dX6_bits_0 : decode cX6_bits 0 = .ok (.iload_n 0, 1) := by decide +kernel
theorem dX6_bits_1 : decode cX6_bits 1 = .ok (.ifCond .ne 5, 3) := by decide +kernel
theorem dX6_bits_4 : decode cX6_bits 4 = .ok (.iconst 0, 1) := by decide +kernel
theorem dX6_bits_5 : decode cX6_bits 5 = .ok (.ireturn, 1) := by decide +kernel
theorem dX6_bits_6 : decode cX6_bits 6 = .ok (.iconst 0, 1) := by decide +kernel
theorem dX6_bits_7 : decode cX6_bits 7 = .ok (.istore_n 2, 1) := by decide +kernel
theorem dX6_bits_8 : decode cX6_bits 8 = .ok (.iload_n 0, 1) := by decide +kernel
theorem dX6_bits_9 : decode cX6_bits 9 = .ok (.iload_n 1, 1) := by decide +kernel
theorem dX6_bits_10 : decode cX6_bits 10 = .ok (.iload_n 2, 1) := by decide +kernel
theorem dX6_bits_11 : decode cX6_bits 11 = .ok (.iconst 1, 1) := by decide +kernel
theorem dX6_bits_12 : decode cX6_bits 12 = .ok (.iadd, 1) := by decide +kernel
theorem dX6_bits_13 : decode cX6_bits 13 = .ok (.ishl, 1) := by decide +kernel
theorem dX6_bits_14 : decode cX6_bits 14 = .ok (.if_icmp .lt 9, 3) := by decide +kernel
theorem dX6_bits_17 : decode cX6_bits 17 = .ok (.iinc 2 1, 3) := by decide +kernel
theorem dX6_bits_20 : decode cX6_bits 20 = .ok (.goto (-12), 3) := by decide +kernel
theorem dX6_bits_23 : decode cX6_bits 23 = .ok (.iload_n 2, 1) := by decide +kernel
theorem dX6_bits_24 : decode cX6_bits 24 = .ok (.ifCond .gt 17, 3) := by decide +kernel
theorem dX6_bits_27 : decode cX6_bits 27 = .ok (.iload_n 0, 1) := by decide +kernel
theorem dX6_bits_28 : decode cX6_bits 28 = .ok (.iload_n 2, 1) := by decide +kernel
theorem dX6_bits_29 : decode cX6_bits 29 = .ok (.ineg, 1) := by decide +kernel
theorem dX6_bits_30 : decode cX6_bits 30 = .ok (.ishl, 1) := by decide +kernel
theorem dX6_bits_31 : decode cX6_bits 31 = .ok (.iload_n 1, 1) := by decide +kernel
theorem dX6_bits_32 : decode cX6_bits 32 = .ok (.if_icmp .ge 9, 3) := by decide +kernel
theorem dX6_bits_35 : decode cX6_bits 35 = .ok (.iinc 2 (-1), 3) := by decide +kernel
theorem dX6_bits_38 : decode cX6_bits 38 = .ok (.goto (-15), 3) := by decide +kernel
theorem dX6_bits_41 : decode cX6_bits 41 = .ok (.iload_n 0, 1) := by decide +kernel
theorem dX6_bits_42 : decode cX6_bits 42 = .ok (.i2l, 1) := by decide +kernel
theorem dX6_bits_43 : decode cX6_bits 43 = .ok (.bipush 23, 2) := by decide +kernel
theorem dX6_bits_45 : decode cX6_bits 45 = .ok (.iload_n 2, 1) := by decide +kernel
theorem dX6_bits_46 : decode cX6_bits 46 = .ok (.isub, 1) := by decide +kernel
theorem dX6_bits_47 : decode cX6_bits 47 = .ok (.lshl, 1) := by decide +kernel
theorem dX6_bits_48 : decode cX6_bits 48 = .ok (.lstore_n 3, 1) := by decide +kernel
theorem dX6_bits_49 : decode cX6_bits 49 = .ok (.lload_n 3, 1) := by decide +kernel
theorem dX6_bits_50 : decode cX6_bits 50 = .ok (.iload_n 1, 1) := by decide +kernel
theorem dX6_bits_51 : decode cX6_bits 51 = .ok (.i2l, 1) := by decide +kernel
theorem dX6_bits_52 : decode cX6_bits 52 = .ok (.ldiv, 1) := by decide +kernel
theorem dX6_bits_53 : decode cX6_bits 53 = .ok (.lstore 5, 2) := by decide +kernel
theorem dX6_bits_55 : decode cX6_bits 55 = .ok (.ldc2_w 71, 3) := by decide +kernel
theorem dX6_bits_58 : decode cX6_bits 58 = .ok (.lload_n 3, 1) := by decide +kernel
theorem dX6_bits_59 : decode cX6_bits 59 = .ok (.iload_n 1, 1) := by decide +kernel
theorem dX6_bits_60 : decode cX6_bits 60 = .ok (.i2l, 1) := by decide +kernel
theorem dX6_bits_61 : decode cX6_bits 61 = .ok (.lrem, 1) := by decide +kernel
theorem dX6_bits_62 : decode cX6_bits 62 = .ok (.lmul, 1) := by decide +kernel
theorem dX6_bits_63 : decode cX6_bits 63 = .ok (.lstore 7, 2) := by decide +kernel
theorem dX6_bits_65 : decode cX6_bits 65 = .ok (.lload 5, 2) := by decide +kernel
theorem dX6_bits_67 : decode cX6_bits 67 = .ok (.lload 7, 2) := by decide +kernel
theorem dX6_bits_69 : decode cX6_bits 69 = .ok (.iload_n 1, 1) := by decide +kernel
theorem dX6_bits_70 : decode cX6_bits 70 = .ok (.i2l, 1) := by decide +kernel
theorem dX6_bits_71 : decode cX6_bits 71 = .ok (.lcmp, 1) := by decide +kernel
theorem dX6_bits_72 : decode cX6_bits 72 = .ok (.ifCond .gt 22, 3) := by decide +kernel
theorem dX6_bits_75 : decode cX6_bits 75 = .ok (.lload 7, 2) := by decide +kernel
theorem dX6_bits_77 : decode cX6_bits 77 = .ok (.iload_n 1, 1) := by decide +kernel
theorem dX6_bits_78 : decode cX6_bits 78 = .ok (.i2l, 1) := by decide +kernel
theorem dX6_bits_79 : decode cX6_bits 79 = .ok (.lcmp, 1) := by decide +kernel
theorem dX6_bits_80 : decode cX6_bits 80 = .ok (.ifCond .ne 18, 3) := by decide +kernel
theorem dX6_bits_83 : decode cX6_bits 83 = .ok (.lload 5, 2) := by decide +kernel
theorem dX6_bits_85 : decode cX6_bits 85 = .ok (.ldc2_w 71, 3) := by decide +kernel
theorem dX6_bits_88 : decode cX6_bits 88 = .ok (.lrem, 1) := by decide +kernel
theorem dX6_bits_89 : decode cX6_bits 89 = .ok (.lconst 1, 1) := by decide +kernel
theorem dX6_bits_90 : decode cX6_bits 90 = .ok (.lcmp, 1) := by decide +kernel
theorem dX6_bits_91 : decode cX6_bits 91 = .ok (.ifCond .ne 7, 3) := by decide +kernel
theorem dX6_bits_94 : decode cX6_bits 94 = .ok (.lconst 1, 1) := by decide +kernel
theorem dX6_bits_95 : decode cX6_bits 95 = .ok (.goto 4, 3) := by decide +kernel
theorem dX6_bits_98 : decode cX6_bits 98 = .ok (.lconst 0, 1) := by decide +kernel
theorem dX6_bits_99 : decode cX6_bits 99 = .ok (.ladd, 1) := by decide +kernel
theorem dX6_bits_100 : decode cX6_bits 100 = .ok (.lstore 5, 2) := by decide +kernel
theorem dX6_bits_102 : decode cX6_bits 102 = .ok (.bipush 126, 2) := by decide +kernel
theorem dX6_bits_104 : decode cX6_bits 104 = .ok (.iload_n 2, 1) := by decide +kernel
theorem dX6_bits_105 : decode cX6_bits 105 = .ok (.iadd, 1) := by decide +kernel
theorem dX6_bits_106 : decode cX6_bits 106 = .ok (.bipush 23, 2) := by decide +kernel
theorem dX6_bits_108 : decode cX6_bits 108 = .ok (.ishl, 1) := by decide +kernel
theorem dX6_bits_109 : decode cX6_bits 109 = .ok (.lload 5, 2) := by decide +kernel
theorem dX6_bits_111 : decode cX6_bits 111 = .ok (.l2i, 1) := by decide +kernel
theorem dX6_bits_112 : decode cX6_bits 112 = .ok (.iadd, 1) := by decide +kernel
theorem dX6_bits_113 : decode cX6_bits 113 = .ok (.ireturn, 1) := by decide +kernel
theorem dX6_meanWearBits_0 : decode cX6_meanWearBits 0 = .ok (.iload_n 1, 1) := by decide +kernel
theorem dX6_meanWearBits_1 : decode cX6_meanWearBits 1 = .ok (.iload_n 2, 1) := by decide +kernel
theorem dX6_meanWearBits_2 : decode cX6_meanWearBits 2 = .ok (.invokestatic 59, 3) := by decide +kernel
theorem dX6_meanWearBits_5 : decode cX6_meanWearBits 5 = .ok (.ifCond .ne 5, 3) := by decide +kernel
theorem dX6_meanWearBits_8 : decode cX6_meanWearBits 8 = .ok (.iconst (-1), 1) := by decide +kernel
theorem dX6_meanWearBits_9 : decode cX6_meanWearBits 9 = .ok (.ireturn, 1) := by decide +kernel
theorem dX6_meanWearBits_10 : decode cX6_meanWearBits 10 = .ok (.aload_n 0, 1) := by decide +kernel
theorem dX6_meanWearBits_11 : decode cX6_meanWearBits 11 = .ok (.iload_n 1, 1) := by decide +kernel
theorem dX6_meanWearBits_12 : decode cX6_meanWearBits 12 = .ok (.iload_n 2, 1) := by decide +kernel
theorem dX6_meanWearBits_13 : decode cX6_meanWearBits 13 = .ok (.invokevirtual 63, 3) := by decide +kernel
theorem dX6_meanWearBits_16 : decode cX6_meanWearBits 16 = .ok (.istore_n 3, 1) := by decide +kernel
theorem dX6_meanWearBits_17 : decode cX6_meanWearBits 17 = .ok (.iload_n 3, 1) := by decide +kernel
theorem dX6_meanWearBits_18 : decode cX6_meanWearBits 18 = .ok (.ifCond .ne 6, 3) := by decide +kernel
theorem dX6_meanWearBits_21 : decode cX6_meanWearBits 21 = .ok (.bipush (-3), 2) := by decide +kernel
theorem dX6_meanWearBits_23 : decode cX6_meanWearBits 23 = .ok (.ireturn, 1) := by decide +kernel
theorem dX6_meanWearBits_24 : decode cX6_meanWearBits 24 = .ok (.iconst 0, 1) := by decide +kernel
theorem dX6_meanWearBits_25 : decode cX6_meanWearBits 25 = .ok (.istore 4, 2) := by decide +kernel
theorem dX6_meanWearBits_27 : decode cX6_meanWearBits 27 = .ok (.iconst 0, 1) := by decide +kernel
theorem dX6_meanWearBits_28 : decode cX6_meanWearBits 28 = .ok (.istore 5, 2) := by decide +kernel
theorem dX6_meanWearBits_30 : decode cX6_meanWearBits 30 = .ok (.iload 5, 2) := by decide +kernel
theorem dX6_meanWearBits_32 : decode cX6_meanWearBits 32 = .ok (.aload_n 0, 1) := by decide +kernel
theorem dX6_meanWearBits_33 : decode cX6_meanWearBits 33 = .ok (.getfield 7, 3) := by decide +kernel
theorem dX6_meanWearBits_36 : decode cX6_meanWearBits 36 = .ok (.bipush 96, 2) := by decide +kernel
theorem dX6_meanWearBits_38 : decode cX6_meanWearBits 38 = .ok (.iaload, 1) := by decide +kernel
theorem dX6_meanWearBits_39 : decode cX6_meanWearBits 39 = .ok (.if_icmp .ge 46, 3) := by decide +kernel
theorem dX6_meanWearBits_42 : decode cX6_meanWearBits 42 = .ok (.iload 4, 2) := by decide +kernel
theorem dX6_meanWearBits_44 : decode cX6_meanWearBits 44 = .ok (.aload_n 0, 1) := by decide +kernel
theorem dX6_meanWearBits_45 : decode cX6_meanWearBits 45 = .ok (.getfield 7, 3) := by decide +kernel
theorem dX6_meanWearBits_48 : decode cX6_meanWearBits 48 = .ok (.iconst 4, 1) := by decide +kernel
theorem dX6_meanWearBits_49 : decode cX6_meanWearBits 49 = .ok (.iload 5, 2) := by decide +kernel
theorem dX6_meanWearBits_51 : decode cX6_meanWearBits 51 = .ok (.imul, 1) := by decide +kernel
theorem dX6_meanWearBits_52 : decode cX6_meanWearBits 52 = .ok (.iload_n 1, 1) := by decide +kernel
theorem dX6_meanWearBits_53 : decode cX6_meanWearBits 53 = .ok (.iadd, 1) := by decide +kernel
theorem dX6_meanWearBits_54 : decode cX6_meanWearBits 54 = .ok (.iaload, 1) := by decide +kernel
theorem dX6_meanWearBits_55 : decode cX6_meanWearBits 55 = .ok (.iload_n 2, 1) := by decide +kernel
theorem dX6_meanWearBits_56 : decode cX6_meanWearBits 56 = .ok (.if_icmp .ne 19, 3) := by decide +kernel
theorem dX6_meanWearBits_59 : decode cX6_meanWearBits 59 = .ok (.aload_n 0, 1) := by decide +kernel
theorem dX6_meanWearBits_60 : decode cX6_meanWearBits 60 = .ok (.getfield 7, 3) := by decide +kernel
theorem dX6_meanWearBits_63 : decode cX6_meanWearBits 63 = .ok (.iconst 4, 1) := by decide +kernel
theorem dX6_meanWearBits_64 : decode cX6_meanWearBits 64 = .ok (.iload 5, 2) := by decide +kernel
theorem dX6_meanWearBits_66 : decode cX6_meanWearBits 66 = .ok (.imul, 1) := by decide +kernel
theorem dX6_meanWearBits_67 : decode cX6_meanWearBits 67 = .ok (.iconst 2, 1) := by decide +kernel
theorem dX6_meanWearBits_68 : decode cX6_meanWearBits 68 = .ok (.iadd, 1) := by decide +kernel
theorem dX6_meanWearBits_69 : decode cX6_meanWearBits 69 = .ok (.iload_n 1, 1) := by decide +kernel
theorem dX6_meanWearBits_70 : decode cX6_meanWearBits 70 = .ok (.iadd, 1) := by decide +kernel
theorem dX6_meanWearBits_71 : decode cX6_meanWearBits 71 = .ok (.iaload, 1) := by decide +kernel
theorem dX6_meanWearBits_72 : decode cX6_meanWearBits 72 = .ok (.goto 4, 3) := by decide +kernel
theorem dX6_meanWearBits_75 : decode cX6_meanWearBits 75 = .ok (.iconst 0, 1) := by decide +kernel
theorem dX6_meanWearBits_76 : decode cX6_meanWearBits 76 = .ok (.iadd, 1) := by decide +kernel
theorem dX6_meanWearBits_77 : decode cX6_meanWearBits 77 = .ok (.istore 4, 2) := by decide +kernel
theorem dX6_meanWearBits_79 : decode cX6_meanWearBits 79 = .ok (.iinc 5 1, 3) := by decide +kernel
theorem dX6_meanWearBits_82 : decode cX6_meanWearBits 82 = .ok (.goto (-52), 3) := by decide +kernel
theorem dX6_meanWearBits_85 : decode cX6_meanWearBits 85 = .ok (.iload 4, 2) := by decide +kernel
theorem dX6_meanWearBits_87 : decode cX6_meanWearBits 87 = .ok (.iload_n 3, 1) := by decide +kernel
theorem dX6_meanWearBits_88 : decode cX6_meanWearBits 88 = .ok (.invokestatic 73, 3) := by decide +kernel
theorem dX6_meanWearBits_91 : decode cX6_meanWearBits 91 = .ok (.ireturn, 1) := by decide +kernel
theorem dX6_isCouple_0 : decode cX6_isCouple 0 = .ok (.aload_n 0, 1) := by decide +kernel
theorem dX6_isCouple_1 : decode cX6_isCouple 1 = .ok (.getfield 7, 3) := by decide +kernel
theorem dX6_isCouple_4 : decode cX6_isCouple 4 = .ok (.iconst 4, 1) := by decide +kernel
theorem dX6_isCouple_5 : decode cX6_isCouple 5 = .ok (.iload_n 1, 1) := by decide +kernel
theorem dX6_isCouple_6 : decode cX6_isCouple 6 = .ok (.imul, 1) := by decide +kernel
theorem dX6_isCouple_7 : decode cX6_isCouple 7 = .ok (.iaload, 1) := by decide +kernel
theorem dX6_isCouple_8 : decode cX6_isCouple 8 = .ok (.iload_n 2, 1) := by decide +kernel
theorem dX6_isCouple_9 : decode cX6_isCouple 9 = .ok (.if_icmp .ne 21, 3) := by decide +kernel
theorem dX6_isCouple_12 : decode cX6_isCouple 12 = .ok (.aload_n 0, 1) := by decide +kernel
theorem dX6_isCouple_13 : decode cX6_isCouple 13 = .ok (.getfield 7, 3) := by decide +kernel
theorem dX6_isCouple_16 : decode cX6_isCouple 16 = .ok (.iconst 4, 1) := by decide +kernel
theorem dX6_isCouple_17 : decode cX6_isCouple 17 = .ok (.iload_n 1, 1) := by decide +kernel
theorem dX6_isCouple_18 : decode cX6_isCouple 18 = .ok (.imul, 1) := by decide +kernel
theorem dX6_isCouple_19 : decode cX6_isCouple 19 = .ok (.iconst 1, 1) := by decide +kernel
theorem dX6_isCouple_20 : decode cX6_isCouple 20 = .ok (.iadd, 1) := by decide +kernel
theorem dX6_isCouple_21 : decode cX6_isCouple 21 = .ok (.iaload, 1) := by decide +kernel
theorem dX6_isCouple_22 : decode cX6_isCouple 22 = .ok (.iload_n 3, 1) := by decide +kernel
theorem dX6_isCouple_23 : decode cX6_isCouple 23 = .ok (.if_icmp .ne 7, 3) := by decide +kernel
theorem dX6_isCouple_26 : decode cX6_isCouple 26 = .ok (.iconst 1, 1) := by decide +kernel
theorem dX6_isCouple_27 : decode cX6_isCouple 27 = .ok (.goto 4, 3) := by decide +kernel
theorem dX6_isCouple_30 : decode cX6_isCouple 30 = .ok (.iconst 0, 1) := by decide +kernel
theorem dX6_isCouple_31 : decode cX6_isCouple 31 = .ok (.ireturn, 1) := by decide +kernel
theorem dX6_finds_0 : decode cX6_finds 0 = .ok (.aload_n 0, 1) := by decide +kernel
theorem dX6_finds_1 : decode cX6_finds 1 = .ok (.iconst 0, 1) := by decide +kernel
theorem dX6_finds_2 : decode cX6_finds 2 = .ok (.putfield 76, 3) := by decide +kernel
theorem dX6_finds_5 : decode cX6_finds 5 = .ok (.iconst 0, 1) := by decide +kernel
theorem dX6_finds_6 : decode cX6_finds 6 = .ok (.istore_n 1, 1) := by decide +kernel
theorem dX6_finds_7 : decode cX6_finds 7 = .ok (.iload_n 1, 1) := by decide +kernel
theorem dX6_finds_8 : decode cX6_finds 8 = .ok (.bipush 100, 2) := by decide +kernel
theorem dX6_finds_10 : decode cX6_finds 10 = .ok (.if_icmp .ge 200, 3) := by decide +kernel
theorem dX6_finds_13 : decode cX6_finds 13 = .ok (.iconst 0, 1) := by decide +kernel
theorem dX6_finds_14 : decode cX6_finds 14 = .ok (.istore_n 2, 1) := by decide +kernel
theorem dX6_finds_15 : decode cX6_finds 15 = .ok (.iconst 0, 1) := by decide +kernel
theorem dX6_finds_16 : decode cX6_finds 16 = .ok (.istore_n 3, 1) := by decide +kernel
theorem dX6_finds_17 : decode cX6_finds 17 = .ok (.iload_n 3, 1) := by decide +kernel
theorem dX6_finds_18 : decode cX6_finds 18 = .ok (.aload_n 0, 1) := by decide +kernel
theorem dX6_finds_19 : decode cX6_finds 19 = .ok (.getfield 7, 3) := by decide +kernel
theorem dX6_finds_22 : decode cX6_finds 22 = .ok (.bipush 96, 2) := by decide +kernel
theorem dX6_finds_24 : decode cX6_finds 24 = .ok (.iaload, 1) := by decide +kernel
theorem dX6_finds_25 : decode cX6_finds 25 = .ok (.if_icmp .ge 139, 3) := by decide +kernel
theorem dX6_finds_28 : decode cX6_finds 28 = .ok (.aload_n 0, 1) := by decide +kernel
theorem dX6_finds_29 : decode cX6_finds 29 = .ok (.iload_n 3, 1) := by decide +kernel
theorem dX6_finds_30 : decode cX6_finds 30 = .ok (.iload_n 1, 1) := by decide +kernel
theorem dX6_finds_31 : decode cX6_finds 31 = .ok (.bipush 10, 2) := by decide +kernel
theorem dX6_finds_33 : decode cX6_finds 33 = .ok (.idiv, 1) := by decide +kernel
theorem dX6_finds_34 : decode cX6_finds 34 = .ok (.iload_n 1, 1) := by decide +kernel
theorem dX6_finds_35 : decode cX6_finds 35 = .ok (.bipush 10, 2) := by decide +kernel
theorem dX6_finds_37 : decode cX6_finds 37 = .ok (.irem, 1) := by decide +kernel
theorem dX6_finds_38 : decode cX6_finds 38 = .ok (.invokevirtual 79, 3) := by decide +kernel
theorem dX6_finds_41 : decode cX6_finds 41 = .ok (.ifCond .eq 117, 3) := by decide +kernel
theorem dX6_finds_44 : decode cX6_finds 44 = .ok (.iconst 0, 1) := by decide +kernel
theorem dX6_finds_45 : decode cX6_finds 45 = .ok (.istore 4, 2) := by decide +kernel
theorem dX6_finds_47 : decode cX6_finds 47 = .ok (.iload 4, 2) := by decide +kernel
theorem dX6_finds_49 : decode cX6_finds 49 = .ok (.iconst 2, 1) := by decide +kernel
theorem dX6_finds_50 : decode cX6_finds 50 = .ok (.if_icmp .ge 106, 3) := by decide +kernel
theorem dX6_finds_53 : decode cX6_finds 53 = .ok (.aload_n 0, 1) := by decide +kernel
theorem dX6_finds_54 : decode cX6_finds 54 = .ok (.getfield 7, 3) := by decide +kernel
theorem dX6_finds_57 : decode cX6_finds 57 = .ok (.iconst 4, 1) := by decide +kernel
theorem dX6_finds_58 : decode cX6_finds 58 = .ok (.iload_n 3, 1) := by decide +kernel
theorem dX6_finds_59 : decode cX6_finds 59 = .ok (.imul, 1) := by decide +kernel
theorem dX6_finds_60 : decode cX6_finds 60 = .ok (.iconst 2, 1) := by decide +kernel
theorem dX6_finds_61 : decode cX6_finds 61 = .ok (.iadd, 1) := by decide +kernel
theorem dX6_finds_62 : decode cX6_finds 62 = .ok (.iload 4, 2) := by decide +kernel
theorem dX6_finds_64 : decode cX6_finds 64 = .ok (.iadd, 1) := by decide +kernel
theorem dX6_finds_65 : decode cX6_finds 65 = .ok (.iaload, 1) := by decide +kernel
theorem dX6_finds_66 : decode cX6_finds 66 = .ok (.istore 5, 2) := by decide +kernel
theorem dX6_finds_68 : decode cX6_finds 68 = .ok (.bipush 24, 2) := by decide +kernel
theorem dX6_finds_70 : decode cX6_finds 70 = .ok (.iload 4, 2) := by decide +kernel
theorem dX6_finds_72 : decode cX6_finds 72 = .ok (.imul, 1) := by decide +kernel
theorem dX6_finds_73 : decode cX6_finds 73 = .ok (.aload_n 0, 1) := by decide +kernel
theorem dX6_finds_74 : decode cX6_finds 74 = .ok (.getfield 76, 3) := by decide +kernel
theorem dX6_finds_77 : decode cX6_finds 77 = .ok (.iadd, 1) := by decide +kernel
theorem dX6_finds_78 : decode cX6_finds 78 = .ok (.istore 6, 2) := by decide +kernel
theorem dX6_finds_80 : decode cX6_finds 80 = .ok (.aload_n 0, 1) := by decide +kernel
theorem dX6_finds_81 : decode cX6_finds 81 = .ok (.getfield 22, 3) := by decide +kernel
theorem dX6_finds_84 : decode cX6_finds 84 = .ok (.iload 6, 2) := by decide +kernel
theorem dX6_finds_86 : decode cX6_finds 86 = .ok (.iload_n 2, 1) := by decide +kernel
theorem dX6_finds_87 : decode cX6_finds 87 = .ok (.ifCond .eq 15, 3) := by decide +kernel
theorem dX6_finds_90 : decode cX6_finds 90 = .ok (.iload 5, 2) := by decide +kernel
theorem dX6_finds_92 : decode cX6_finds 92 = .ok (.aload_n 0, 1) := by decide +kernel
theorem dX6_finds_93 : decode cX6_finds 93 = .ok (.getfield 22, 3) := by decide +kernel
theorem dX6_finds_96 : decode cX6_finds 96 = .ok (.iload 6, 2) := by decide +kernel
theorem dX6_finds_98 : decode cX6_finds 98 = .ok (.iaload, 1) := by decide +kernel
theorem dX6_finds_99 : decode cX6_finds 99 = .ok (.if_icmp .ge 8, 3) := by decide +kernel
theorem dX6_finds_102 : decode cX6_finds 102 = .ok (.iload 5, 2) := by decide +kernel
theorem dX6_finds_104 : decode cX6_finds 104 = .ok (.goto 10, 3) := by decide +kernel
theorem dX6_finds_107 : decode cX6_finds 107 = .ok (.aload_n 0, 1) := by decide +kernel
theorem dX6_finds_108 : decode cX6_finds 108 = .ok (.getfield 22, 3) := by decide +kernel
theorem dX6_finds_111 : decode cX6_finds 111 = .ok (.iload 6, 2) := by decide +kernel
theorem dX6_finds_113 : decode cX6_finds 113 = .ok (.iaload, 1) := by decide +kernel
theorem dX6_finds_114 : decode cX6_finds 114 = .ok (.iastore, 1) := by decide +kernel
theorem dX6_finds_115 : decode cX6_finds 115 = .ok (.aload_n 0, 1) := by decide +kernel
theorem dX6_finds_116 : decode cX6_finds 116 = .ok (.getfield 25, 3) := by decide +kernel
theorem dX6_finds_119 : decode cX6_finds 119 = .ok (.iload 6, 2) := by decide +kernel
theorem dX6_finds_121 : decode cX6_finds 121 = .ok (.iload_n 2, 1) := by decide +kernel
theorem dX6_finds_122 : decode cX6_finds 122 = .ok (.ifCond .eq 15, 3) := by decide +kernel
theorem dX6_finds_125 : decode cX6_finds 125 = .ok (.iload 5, 2) := by decide +kernel
theorem dX6_finds_127 : decode cX6_finds 127 = .ok (.aload_n 0, 1) := by decide +kernel
theorem dX6_finds_128 : decode cX6_finds 128 = .ok (.getfield 25, 3) := by decide +kernel
theorem dX6_finds_131 : decode cX6_finds 131 = .ok (.iload 6, 2) := by decide +kernel
theorem dX6_finds_133 : decode cX6_finds 133 = .ok (.iaload, 1) := by decide +kernel
theorem dX6_finds_134 : decode cX6_finds 134 = .ok (.if_icmp .le 8, 3) := by decide +kernel
theorem dX6_finds_137 : decode cX6_finds 137 = .ok (.iload 5, 2) := by decide +kernel
theorem dX6_finds_139 : decode cX6_finds 139 = .ok (.goto 10, 3) := by decide +kernel
theorem dX6_finds_142 : decode cX6_finds 142 = .ok (.aload_n 0, 1) := by decide +kernel
theorem dX6_finds_143 : decode cX6_finds 143 = .ok (.getfield 25, 3) := by decide +kernel
theorem dX6_finds_146 : decode cX6_finds 146 = .ok (.iload 6, 2) := by decide +kernel
theorem dX6_finds_148 : decode cX6_finds 148 = .ok (.iaload, 1) := by decide +kernel
theorem dX6_finds_149 : decode cX6_finds 149 = .ok (.iastore, 1) := by decide +kernel
theorem dX6_finds_150 : decode cX6_finds 150 = .ok (.iinc 4 1, 3) := by decide +kernel
theorem dX6_finds_153 : decode cX6_finds 153 = .ok (.goto (-106), 3) := by decide +kernel
theorem dX6_finds_156 : decode cX6_finds 156 = .ok (.iconst 1, 1) := by decide +kernel
theorem dX6_finds_157 : decode cX6_finds 157 = .ok (.istore_n 2, 1) := by decide +kernel
theorem dX6_finds_158 : decode cX6_finds 158 = .ok (.iinc 3 1, 3) := by decide +kernel
theorem dX6_finds_161 : decode cX6_finds 161 = .ok (.goto (-144), 3) := by decide +kernel
theorem dX6_finds_164 : decode cX6_finds 164 = .ok (.iload_n 2, 1) := by decide +kernel
theorem dX6_finds_165 : decode cX6_finds 165 = .ok (.ifCond .eq 39, 3) := by decide +kernel
theorem dX6_finds_168 : decode cX6_finds 168 = .ok (.aload_n 0, 1) := by decide +kernel
theorem dX6_finds_169 : decode cX6_finds 169 = .ok (.getfield 16, 3) := by decide +kernel
theorem dX6_finds_172 : decode cX6_finds 172 = .ok (.aload_n 0, 1) := by decide +kernel
theorem dX6_finds_173 : decode cX6_finds 173 = .ok (.getfield 76, 3) := by decide +kernel
theorem dX6_finds_176 : decode cX6_finds 176 = .ok (.iload_n 1, 1) := by decide +kernel
theorem dX6_finds_177 : decode cX6_finds 177 = .ok (.bipush 10, 2) := by decide +kernel
theorem dX6_finds_179 : decode cX6_finds 179 = .ok (.idiv, 1) := by decide +kernel
theorem dX6_finds_180 : decode cX6_finds 180 = .ok (.iastore, 1) := by decide +kernel
theorem dX6_finds_181 : decode cX6_finds 181 = .ok (.aload_n 0, 1) := by decide +kernel
theorem dX6_finds_182 : decode cX6_finds 182 = .ok (.getfield 19, 3) := by decide +kernel
theorem dX6_finds_185 : decode cX6_finds 185 = .ok (.aload_n 0, 1) := by decide +kernel
theorem dX6_finds_186 : decode cX6_finds 186 = .ok (.getfield 76, 3) := by decide +kernel
theorem dX6_finds_189 : decode cX6_finds 189 = .ok (.iload_n 1, 1) := by decide +kernel
theorem dX6_finds_190 : decode cX6_finds 190 = .ok (.bipush 10, 2) := by decide +kernel
theorem dX6_finds_192 : decode cX6_finds 192 = .ok (.irem, 1) := by decide +kernel
theorem dX6_finds_193 : decode cX6_finds 193 = .ok (.iastore, 1) := by decide +kernel
theorem dX6_finds_194 : decode cX6_finds 194 = .ok (.aload_n 0, 1) := by decide +kernel
theorem dX6_finds_195 : decode cX6_finds 195 = .ok (.dup, 1) := by decide +kernel
theorem dX6_finds_196 : decode cX6_finds 196 = .ok (.getfield 76, 3) := by decide +kernel
theorem dX6_finds_199 : decode cX6_finds 199 = .ok (.iconst 1, 1) := by decide +kernel
theorem dX6_finds_200 : decode cX6_finds 200 = .ok (.iadd, 1) := by decide +kernel
theorem dX6_finds_201 : decode cX6_finds 201 = .ok (.putfield 76, 3) := by decide +kernel
theorem dX6_finds_204 : decode cX6_finds 204 = .ok (.iinc 1 1, 3) := by decide +kernel
theorem dX6_finds_207 : decode cX6_finds 207 = .ok (.goto (-200), 3) := by decide +kernel
theorem dX6_finds_210 : decode cX6_finds 210 = .ok (.return_, 1) := by decide +kernel
theorem dX6_coupleCount_0 : decode cX6_coupleCount 0 = .ok (.aload_n 0, 1) := by decide +kernel
theorem dX6_coupleCount_1 : decode cX6_coupleCount 1 = .ok (.invokevirtual 82, 3) := by decide +kernel
theorem dX6_coupleCount_4 : decode cX6_coupleCount 4 = .ok (.aload_n 0, 1) := by decide +kernel
theorem dX6_coupleCount_5 : decode cX6_coupleCount 5 = .ok (.getfield 76, 3) := by decide +kernel
theorem dX6_coupleCount_8 : decode cX6_coupleCount 8 = .ok (.ireturn, 1) := by decide +kernel
theorem dX6_coupleAt_0 : decode cX6_coupleAt 0 = .ok (.iload_n 1, 1) := by decide +kernel
theorem dX6_coupleAt_1 : decode cX6_coupleAt 1 = .ok (.ifCond .ge 5, 3) := by decide +kernel
theorem dX6_coupleAt_4 : decode cX6_coupleAt 4 = .ok (.iconst (-1), 1) := by decide +kernel
theorem dX6_coupleAt_5 : decode cX6_coupleAt 5 = .ok (.ireturn, 1) := by decide +kernel
theorem dX6_coupleAt_6 : decode cX6_coupleAt 6 = .ok (.aload_n 0, 1) := by decide +kernel
theorem dX6_coupleAt_7 : decode cX6_coupleAt 7 = .ok (.invokevirtual 82, 3) := by decide +kernel
theorem dX6_coupleAt_10 : decode cX6_coupleAt 10 = .ok (.iload_n 1, 1) := by decide +kernel
theorem dX6_coupleAt_11 : decode cX6_coupleAt 11 = .ok (.aload_n 0, 1) := by decide +kernel
theorem dX6_coupleAt_12 : decode cX6_coupleAt 12 = .ok (.getfield 76, 3) := by decide +kernel
theorem dX6_coupleAt_15 : decode cX6_coupleAt 15 = .ok (.if_icmp .ge 22, 3) := by decide +kernel
theorem dX6_coupleAt_18 : decode cX6_coupleAt 18 = .ok (.bipush 10, 2) := by decide +kernel
theorem dX6_coupleAt_20 : decode cX6_coupleAt 20 = .ok (.aload_n 0, 1) := by decide +kernel
theorem dX6_coupleAt_21 : decode cX6_coupleAt 21 = .ok (.getfield 16, 3) := by decide +kernel
theorem dX6_coupleAt_24 : decode cX6_coupleAt 24 = .ok (.iload_n 1, 1) := by decide +kernel
theorem dX6_coupleAt_25 : decode cX6_coupleAt 25 = .ok (.iaload, 1) := by decide +kernel
theorem dX6_coupleAt_26 : decode cX6_coupleAt 26 = .ok (.imul, 1) := by decide +kernel
theorem dX6_coupleAt_27 : decode cX6_coupleAt 27 = .ok (.aload_n 0, 1) := by decide +kernel
theorem dX6_coupleAt_28 : decode cX6_coupleAt 28 = .ok (.getfield 19, 3) := by decide +kernel
theorem dX6_coupleAt_31 : decode cX6_coupleAt 31 = .ok (.iload_n 1, 1) := by decide +kernel
theorem dX6_coupleAt_32 : decode cX6_coupleAt 32 = .ok (.iaload, 1) := by decide +kernel
theorem dX6_coupleAt_33 : decode cX6_coupleAt 33 = .ok (.iadd, 1) := by decide +kernel
theorem dX6_coupleAt_34 : decode cX6_coupleAt 34 = .ok (.goto 5, 3) := by decide +kernel
theorem dX6_coupleAt_37 : decode cX6_coupleAt 37 = .ok (.bipush (-3), 2) := by decide +kernel
theorem dX6_coupleAt_39 : decode cX6_coupleAt 39 = .ok (.ireturn, 1) := by decide +kernel
theorem dX6_nets_0 : decode cX6_nets 0 = .ok (.iconst 0, 1) := by decide +kernel
theorem dX6_nets_1 : decode cX6_nets 1 = .ok (.istore_n 2, 1) := by decide +kernel
theorem dX6_nets_2 : decode cX6_nets 2 = .ok (.iload_n 2, 1) := by decide +kernel
theorem dX6_nets_3 : decode cX6_nets 3 = .ok (.bipush 20, 2) := by decide +kernel
theorem dX6_nets_5 : decode cX6_nets 5 = .ok (.if_icmp .ge 16, 3) := by decide +kernel
theorem dX6_nets_8 : decode cX6_nets 8 = .ok (.aload_n 0, 1) := by decide +kernel
theorem dX6_nets_9 : decode cX6_nets 9 = .ok (.getfield 38, 3) := by decide +kernel
theorem dX6_nets_12 : decode cX6_nets 12 = .ok (.iload_n 2, 1) := by decide +kernel
theorem dX6_nets_13 : decode cX6_nets 13 = .ok (.iload_n 2, 1) := by decide +kernel
theorem dX6_nets_14 : decode cX6_nets 14 = .ok (.iastore, 1) := by decide +kernel
theorem dX6_nets_15 : decode cX6_nets 15 = .ok (.iinc 2 1, 3) := by decide +kernel
theorem dX6_nets_18 : decode cX6_nets 18 = .ok (.goto (-16), 3) := by decide +kernel
theorem dX6_nets_21 : decode cX6_nets 21 = .ok (.iconst 0, 1) := by decide +kernel
theorem dX6_nets_22 : decode cX6_nets 22 = .ok (.istore_n 2, 1) := by decide +kernel
theorem dX6_nets_23 : decode cX6_nets 23 = .ok (.iload_n 2, 1) := by decide +kernel
theorem dX6_nets_24 : decode cX6_nets 24 = .ok (.aload_n 0, 1) := by decide +kernel
theorem dX6_nets_25 : decode cX6_nets 25 = .ok (.getfield 76, 3) := by decide +kernel
theorem dX6_nets_28 : decode cX6_nets 28 = .ok (.if_icmp .ge 88, 3) := by decide +kernel
theorem dX6_nets_31 : decode cX6_nets 31 = .ok (.aload_n 0, 1) := by decide +kernel
theorem dX6_nets_32 : decode cX6_nets 32 = .ok (.getfield 38, 3) := by decide +kernel
theorem dX6_nets_35 : decode cX6_nets 35 = .ok (.aload_n 0, 1) := by decide +kernel
theorem dX6_nets_36 : decode cX6_nets 36 = .ok (.getfield 16, 3) := by decide +kernel
theorem dX6_nets_39 : decode cX6_nets 39 = .ok (.iload_n 2, 1) := by decide +kernel
theorem dX6_nets_40 : decode cX6_nets 40 = .ok (.iaload, 1) := by decide +kernel
theorem dX6_nets_41 : decode cX6_nets 41 = .ok (.iaload, 1) := by decide +kernel
theorem dX6_nets_42 : decode cX6_nets 42 = .ok (.istore_n 3, 1) := by decide +kernel
theorem dX6_nets_43 : decode cX6_nets 43 = .ok (.aload_n 0, 1) := by decide +kernel
theorem dX6_nets_44 : decode cX6_nets 44 = .ok (.getfield 38, 3) := by decide +kernel
theorem dX6_nets_47 : decode cX6_nets 47 = .ok (.bipush 10, 2) := by decide +kernel
theorem dX6_nets_49 : decode cX6_nets 49 = .ok (.aload_n 0, 1) := by decide +kernel
theorem dX6_nets_50 : decode cX6_nets 50 = .ok (.getfield 19, 3) := by decide +kernel
theorem dX6_nets_53 : decode cX6_nets 53 = .ok (.iload_n 2, 1) := by decide +kernel
theorem dX6_nets_54 : decode cX6_nets 54 = .ok (.iaload, 1) := by decide +kernel
theorem dX6_nets_55 : decode cX6_nets 55 = .ok (.iadd, 1) := by decide +kernel
theorem dX6_nets_56 : decode cX6_nets 56 = .ok (.iaload, 1) := by decide +kernel
theorem dX6_nets_57 : decode cX6_nets 57 = .ok (.istore 4, 2) := by decide +kernel
theorem dX6_nets_59 : decode cX6_nets 59 = .ok (.iconst 0, 1) := by decide +kernel
theorem dX6_nets_60 : decode cX6_nets 60 = .ok (.istore 5, 2) := by decide +kernel
theorem dX6_nets_62 : decode cX6_nets 62 = .ok (.iload 5, 2) := by decide +kernel
theorem dX6_nets_64 : decode cX6_nets 64 = .ok (.bipush 20, 2) := by decide +kernel
theorem dX6_nets_66 : decode cX6_nets 66 = .ok (.if_icmp .ge 44, 3) := by decide +kernel
theorem dX6_nets_69 : decode cX6_nets 69 = .ok (.aload_n 0, 1) := by decide +kernel
theorem dX6_nets_70 : decode cX6_nets 70 = .ok (.getfield 38, 3) := by decide +kernel
theorem dX6_nets_73 : decode cX6_nets 73 = .ok (.iload 5, 2) := by decide +kernel
theorem dX6_nets_75 : decode cX6_nets 75 = .ok (.iload_n 2, 1) := by decide +kernel
theorem dX6_nets_76 : decode cX6_nets 76 = .ok (.iload_n 1, 1) := by decide +kernel
theorem dX6_nets_77 : decode cX6_nets 77 = .ok (.if_icmp .eq 19, 3) := by decide +kernel
theorem dX6_nets_80 : decode cX6_nets 80 = .ok (.aload_n 0, 1) := by decide +kernel
theorem dX6_nets_81 : decode cX6_nets 81 = .ok (.getfield 38, 3) := by decide +kernel
theorem dX6_nets_84 : decode cX6_nets 84 = .ok (.iload 5, 2) := by decide +kernel
theorem dX6_nets_86 : decode cX6_nets 86 = .ok (.iaload, 1) := by decide +kernel
theorem dX6_nets_87 : decode cX6_nets 87 = .ok (.iload_n 3, 1) := by decide +kernel
theorem dX6_nets_88 : decode cX6_nets 88 = .ok (.if_icmp .ne 8, 3) := by decide +kernel
theorem dX6_nets_91 : decode cX6_nets 91 = .ok (.iload 4, 2) := by decide +kernel
theorem dX6_nets_93 : decode cX6_nets 93 = .ok (.goto 10, 3) := by decide +kernel
theorem dX6_nets_96 : decode cX6_nets 96 = .ok (.aload_n 0, 1) := by decide +kernel
theorem dX6_nets_97 : decode cX6_nets 97 = .ok (.getfield 38, 3) := by decide +kernel
theorem dX6_nets_100 : decode cX6_nets 100 = .ok (.iload 5, 2) := by decide +kernel
theorem dX6_nets_102 : decode cX6_nets 102 = .ok (.iaload, 1) := by decide +kernel
theorem dX6_nets_103 : decode cX6_nets 103 = .ok (.iastore, 1) := by decide +kernel
theorem dX6_nets_104 : decode cX6_nets 104 = .ok (.iinc 5 1, 3) := by decide +kernel
theorem dX6_nets_107 : decode cX6_nets 107 = .ok (.goto (-45), 3) := by decide +kernel
theorem dX6_nets_110 : decode cX6_nets 110 = .ok (.iinc 2 1, 3) := by decide +kernel
theorem dX6_nets_113 : decode cX6_nets 113 = .ok (.goto (-90), 3) := by decide +kernel
theorem dX6_nets_116 : decode cX6_nets 116 = .ok (.iconst 0, 1) := by decide +kernel
theorem dX6_nets_117 : decode cX6_nets 117 = .ok (.istore_n 2, 1) := by decide +kernel
theorem dX6_nets_118 : decode cX6_nets 118 = .ok (.iconst 0, 1) := by decide +kernel
theorem dX6_nets_119 : decode cX6_nets 119 = .ok (.istore_n 3, 1) := by decide +kernel
theorem dX6_nets_120 : decode cX6_nets 120 = .ok (.iload_n 3, 1) := by decide +kernel
theorem dX6_nets_121 : decode cX6_nets 121 = .ok (.bipush 20, 2) := by decide +kernel
theorem dX6_nets_123 : decode cX6_nets 123 = .ok (.if_icmp .ge 87, 3) := by decide +kernel
theorem dX6_nets_126 : decode cX6_nets 126 = .ok (.aload_n 0, 1) := by decide +kernel
theorem dX6_nets_127 : decode cX6_nets 127 = .ok (.iload_n 3, 1) := by decide +kernel
theorem dX6_nets_128 : decode cX6_nets 128 = .ok (.bipush 10, 2) := by decide +kernel
theorem dX6_nets_130 : decode cX6_nets 130 = .ok (.idiv, 1) := by decide +kernel
theorem dX6_nets_131 : decode cX6_nets 131 = .ok (.iload_n 3, 1) := by decide +kernel
theorem dX6_nets_132 : decode cX6_nets 132 = .ok (.bipush 10, 2) := by decide +kernel
theorem dX6_nets_134 : decode cX6_nets 134 = .ok (.irem, 1) := by decide +kernel
theorem dX6_nets_135 : decode cX6_nets 135 = .ok (.invokevirtual 63, 3) := by decide +kernel
theorem dX6_nets_138 : decode cX6_nets 138 = .ok (.ifCond .le 7, 3) := by decide +kernel
theorem dX6_nets_141 : decode cX6_nets 141 = .ok (.iconst 1, 1) := by decide +kernel
theorem dX6_nets_142 : decode cX6_nets 142 = .ok (.goto 4, 3) := by decide +kernel
theorem dX6_nets_145 : decode cX6_nets 145 = .ok (.iconst 0, 1) := by decide +kernel
theorem dX6_nets_146 : decode cX6_nets 146 = .ok (.istore 4, 2) := by decide +kernel
theorem dX6_nets_148 : decode cX6_nets 148 = .ok (.iconst 0, 1) := by decide +kernel
theorem dX6_nets_149 : decode cX6_nets 149 = .ok (.istore 5, 2) := by decide +kernel
theorem dX6_nets_151 : decode cX6_nets 151 = .ok (.iload 5, 2) := by decide +kernel
theorem dX6_nets_153 : decode cX6_nets 153 = .ok (.iload_n 3, 1) := by decide +kernel
theorem dX6_nets_154 : decode cX6_nets 154 = .ok (.if_icmp .ge 37, 3) := by decide +kernel
theorem dX6_nets_157 : decode cX6_nets 157 = .ok (.iload 4, 2) := by decide +kernel
theorem dX6_nets_159 : decode cX6_nets 159 = .ok (.ifCond .eq 23, 3) := by decide +kernel
theorem dX6_nets_162 : decode cX6_nets 162 = .ok (.aload_n 0, 1) := by decide +kernel
theorem dX6_nets_163 : decode cX6_nets 163 = .ok (.getfield 38, 3) := by decide +kernel
theorem dX6_nets_166 : decode cX6_nets 166 = .ok (.iload 5, 2) := by decide +kernel
theorem dX6_nets_168 : decode cX6_nets 168 = .ok (.iaload, 1) := by decide +kernel
theorem dX6_nets_169 : decode cX6_nets 169 = .ok (.aload_n 0, 1) := by decide +kernel
theorem dX6_nets_170 : decode cX6_nets 170 = .ok (.getfield 38, 3) := by decide +kernel
theorem dX6_nets_173 : decode cX6_nets 173 = .ok (.iload_n 3, 1) := by decide +kernel
theorem dX6_nets_174 : decode cX6_nets 174 = .ok (.iaload, 1) := by decide +kernel
theorem dX6_nets_175 : decode cX6_nets 175 = .ok (.if_icmp .eq 7, 3) := by decide +kernel
theorem dX6_nets_178 : decode cX6_nets 178 = .ok (.iconst 1, 1) := by decide +kernel
theorem dX6_nets_179 : decode cX6_nets 179 = .ok (.goto 4, 3) := by decide +kernel
theorem dX6_nets_182 : decode cX6_nets 182 = .ok (.iconst 0, 1) := by decide +kernel
theorem dX6_nets_183 : decode cX6_nets 183 = .ok (.istore 4, 2) := by decide +kernel
theorem dX6_nets_185 : decode cX6_nets 185 = .ok (.iinc 5 1, 3) := by decide +kernel
theorem dX6_nets_188 : decode cX6_nets 188 = .ok (.goto (-37), 3) := by decide +kernel
theorem dX6_nets_191 : decode cX6_nets 191 = .ok (.iload_n 2, 1) := by decide +kernel
theorem dX6_nets_192 : decode cX6_nets 192 = .ok (.iload 4, 2) := by decide +kernel
theorem dX6_nets_194 : decode cX6_nets 194 = .ok (.ifCond .eq 7, 3) := by decide +kernel
theorem dX6_nets_197 : decode cX6_nets 197 = .ok (.iconst 1, 1) := by decide +kernel
theorem dX6_nets_198 : decode cX6_nets 198 = .ok (.goto 4, 3) := by decide +kernel
theorem dX6_nets_201 : decode cX6_nets 201 = .ok (.iconst 0, 1) := by decide +kernel
theorem dX6_nets_202 : decode cX6_nets 202 = .ok (.iadd, 1) := by decide +kernel
theorem dX6_nets_203 : decode cX6_nets 203 = .ok (.istore_n 2, 1) := by decide +kernel
theorem dX6_nets_204 : decode cX6_nets 204 = .ok (.iinc 3 1, 3) := by decide +kernel
theorem dX6_nets_207 : decode cX6_nets 207 = .ok (.goto (-87), 3) := by decide +kernel
theorem dX6_nets_210 : decode cX6_nets 210 = .ok (.iload_n 2, 1) := by decide +kernel
theorem dX6_nets_211 : decode cX6_nets 211 = .ok (.ireturn, 1) := by decide +kernel
theorem dX6_componentCount_0 : decode cX6_componentCount 0 = .ok (.aload_n 0, 1) := by decide +kernel
theorem dX6_componentCount_1 : decode cX6_componentCount 1 = .ok (.invokevirtual 82, 3) := by decide +kernel
theorem dX6_componentCount_4 : decode cX6_componentCount 4 = .ok (.aload_n 0, 1) := by decide +kernel
theorem dX6_componentCount_5 : decode cX6_componentCount 5 = .ok (.iconst (-1), 1) := by decide +kernel
theorem dX6_componentCount_6 : decode cX6_componentCount 6 = .ok (.invokevirtual 85, 3) := by decide +kernel
theorem dX6_componentCount_9 : decode cX6_componentCount 9 = .ok (.ireturn, 1) := by decide +kernel
theorem dX6_componentSize_0 : decode cX6_componentSize 0 = .ok (.iload_n 1, 1) := by decide +kernel
theorem dX6_componentSize_1 : decode cX6_componentSize 1 = .ok (.iload_n 2, 1) := by decide +kernel
theorem dX6_componentSize_2 : decode cX6_componentSize 2 = .ok (.invokestatic 59, 3) := by decide +kernel
theorem dX6_componentSize_5 : decode cX6_componentSize 5 = .ok (.ifCond .ne 5, 3) := by decide +kernel
theorem dX6_componentSize_8 : decode cX6_componentSize 8 = .ok (.iconst (-1), 1) := by decide +kernel
theorem dX6_componentSize_9 : decode cX6_componentSize 9 = .ok (.ireturn, 1) := by decide +kernel
theorem dX6_componentSize_10 : decode cX6_componentSize 10 = .ok (.aload_n 0, 1) := by decide +kernel
theorem dX6_componentSize_11 : decode cX6_componentSize 11 = .ok (.iload_n 1, 1) := by decide +kernel
theorem dX6_componentSize_12 : decode cX6_componentSize 12 = .ok (.iload_n 2, 1) := by decide +kernel
theorem dX6_componentSize_13 : decode cX6_componentSize 13 = .ok (.invokevirtual 63, 3) := by decide +kernel
theorem dX6_componentSize_16 : decode cX6_componentSize 16 = .ok (.ifCond .ne 6, 3) := by decide +kernel
theorem dX6_componentSize_19 : decode cX6_componentSize 19 = .ok (.bipush (-3), 2) := by decide +kernel
theorem dX6_componentSize_21 : decode cX6_componentSize 21 = .ok (.ireturn, 1) := by decide +kernel
theorem dX6_componentSize_22 : decode cX6_componentSize 22 = .ok (.aload_n 0, 1) := by decide +kernel
theorem dX6_componentSize_23 : decode cX6_componentSize 23 = .ok (.invokevirtual 82, 3) := by decide +kernel
theorem dX6_componentSize_26 : decode cX6_componentSize 26 = .ok (.aload_n 0, 1) := by decide +kernel
theorem dX6_componentSize_27 : decode cX6_componentSize 27 = .ok (.iconst (-1), 1) := by decide +kernel
theorem dX6_componentSize_28 : decode cX6_componentSize 28 = .ok (.invokevirtual 85, 3) := by decide +kernel
theorem dX6_componentSize_31 : decode cX6_componentSize 31 = .ok (.pop, 1) := by decide +kernel
theorem dX6_componentSize_32 : decode cX6_componentSize 32 = .ok (.iconst 0, 1) := by decide +kernel
theorem dX6_componentSize_33 : decode cX6_componentSize 33 = .ok (.istore_n 3, 1) := by decide +kernel
theorem dX6_componentSize_34 : decode cX6_componentSize 34 = .ok (.iconst 0, 1) := by decide +kernel
theorem dX6_componentSize_35 : decode cX6_componentSize 35 = .ok (.istore 4, 2) := by decide +kernel
theorem dX6_componentSize_37 : decode cX6_componentSize 37 = .ok (.iload 4, 2) := by decide +kernel
theorem dX6_componentSize_39 : decode cX6_componentSize 39 = .ok (.bipush 20, 2) := by decide +kernel
theorem dX6_componentSize_41 : decode cX6_componentSize 41 = .ok (.if_icmp .ge 38, 3) := by decide +kernel
theorem dX6_componentSize_44 : decode cX6_componentSize 44 = .ok (.iload_n 3, 1) := by decide +kernel
theorem dX6_componentSize_45 : decode cX6_componentSize 45 = .ok (.aload_n 0, 1) := by decide +kernel
theorem dX6_componentSize_46 : decode cX6_componentSize 46 = .ok (.getfield 38, 3) := by decide +kernel
theorem dX6_componentSize_49 : decode cX6_componentSize 49 = .ok (.iload 4, 2) := by decide +kernel
theorem dX6_componentSize_51 : decode cX6_componentSize 51 = .ok (.iaload, 1) := by decide +kernel
theorem dX6_componentSize_52 : decode cX6_componentSize 52 = .ok (.aload_n 0, 1) := by decide +kernel
theorem dX6_componentSize_53 : decode cX6_componentSize 53 = .ok (.getfield 38, 3) := by decide +kernel
theorem dX6_componentSize_56 : decode cX6_componentSize 56 = .ok (.bipush 10, 2) := by decide +kernel
theorem dX6_componentSize_58 : decode cX6_componentSize 58 = .ok (.iload_n 1, 1) := by decide +kernel
theorem dX6_componentSize_59 : decode cX6_componentSize 59 = .ok (.imul, 1) := by decide +kernel
theorem dX6_componentSize_60 : decode cX6_componentSize 60 = .ok (.iload_n 2, 1) := by decide +kernel
theorem dX6_componentSize_61 : decode cX6_componentSize 61 = .ok (.iadd, 1) := by decide +kernel
theorem dX6_componentSize_62 : decode cX6_componentSize 62 = .ok (.iaload, 1) := by decide +kernel
theorem dX6_componentSize_63 : decode cX6_componentSize 63 = .ok (.if_icmp .ne 7, 3) := by decide +kernel
theorem dX6_componentSize_66 : decode cX6_componentSize 66 = .ok (.iconst 1, 1) := by decide +kernel
theorem dX6_componentSize_67 : decode cX6_componentSize 67 = .ok (.goto 4, 3) := by decide +kernel
theorem dX6_componentSize_70 : decode cX6_componentSize 70 = .ok (.iconst 0, 1) := by decide +kernel
theorem dX6_componentSize_71 : decode cX6_componentSize 71 = .ok (.iadd, 1) := by decide +kernel
theorem dX6_componentSize_72 : decode cX6_componentSize 72 = .ok (.istore_n 3, 1) := by decide +kernel
theorem dX6_componentSize_73 : decode cX6_componentSize 73 = .ok (.iinc 4 1, 3) := by decide +kernel
theorem dX6_componentSize_76 : decode cX6_componentSize 76 = .ok (.goto (-39), 3) := by decide +kernel
theorem dX6_componentSize_79 : decode cX6_componentSize 79 = .ok (.iload_n 3, 1) := by decide +kernel
theorem dX6_componentSize_80 : decode cX6_componentSize 80 = .ok (.ireturn, 1) := by decide +kernel
theorem dX6_cycleRank_0 : decode cX6_cycleRank 0 = .ok (.aload_n 0, 1) := by decide +kernel
theorem dX6_cycleRank_1 : decode cX6_cycleRank 1 = .ok (.invokevirtual 82, 3) := by decide +kernel
theorem dX6_cycleRank_4 : decode cX6_cycleRank 4 = .ok (.aload_n 0, 1) := by decide +kernel
theorem dX6_cycleRank_5 : decode cX6_cycleRank 5 = .ok (.getfield 76, 3) := by decide +kernel
theorem dX6_cycleRank_8 : decode cX6_cycleRank 8 = .ok (.aload_n 0, 1) := by decide +kernel
theorem dX6_cycleRank_9 : decode cX6_cycleRank 9 = .ok (.iconst 0, 1) := by decide +kernel
theorem dX6_cycleRank_10 : decode cX6_cycleRank 10 = .ok (.invokevirtual 67, 3) := by decide +kernel
theorem dX6_cycleRank_13 : decode cX6_cycleRank 13 = .ok (.isub, 1) := by decide +kernel
theorem dX6_cycleRank_14 : decode cX6_cycleRank 14 = .ok (.aload_n 0, 1) := by decide +kernel
theorem dX6_cycleRank_15 : decode cX6_cycleRank 15 = .ok (.iconst 1, 1) := by decide +kernel
theorem dX6_cycleRank_16 : decode cX6_cycleRank 16 = .ok (.invokevirtual 67, 3) := by decide +kernel
theorem dX6_cycleRank_19 : decode cX6_cycleRank 19 = .ok (.isub, 1) := by decide +kernel
theorem dX6_cycleRank_20 : decode cX6_cycleRank 20 = .ok (.aload_n 0, 1) := by decide +kernel
theorem dX6_cycleRank_21 : decode cX6_cycleRank 21 = .ok (.iconst (-1), 1) := by decide +kernel
theorem dX6_cycleRank_22 : decode cX6_cycleRank 22 = .ok (.invokevirtual 85, 3) := by decide +kernel
theorem dX6_cycleRank_25 : decode cX6_cycleRank 25 = .ok (.iadd, 1) := by decide +kernel
theorem dX6_cycleRank_26 : decode cX6_cycleRank 26 = .ok (.ireturn, 1) := by decide +kernel
theorem dX6_bridgeCount_0 : decode cX6_bridgeCount 0 = .ok (.aload_n 0, 1) := by decide +kernel
theorem dX6_bridgeCount_1 : decode cX6_bridgeCount 1 = .ok (.invokevirtual 82, 3) := by decide +kernel
theorem dX6_bridgeCount_4 : decode cX6_bridgeCount 4 = .ok (.aload_n 0, 1) := by decide +kernel
theorem dX6_bridgeCount_5 : decode cX6_bridgeCount 5 = .ok (.iconst (-1), 1) := by decide +kernel
theorem dX6_bridgeCount_6 : decode cX6_bridgeCount 6 = .ok (.invokevirtual 85, 3) := by decide +kernel
theorem dX6_bridgeCount_9 : decode cX6_bridgeCount 9 = .ok (.istore_n 1, 1) := by decide +kernel
theorem dX6_bridgeCount_10 : decode cX6_bridgeCount 10 = .ok (.iconst 0, 1) := by decide +kernel
theorem dX6_bridgeCount_11 : decode cX6_bridgeCount 11 = .ok (.istore_n 2, 1) := by decide +kernel
theorem dX6_bridgeCount_12 : decode cX6_bridgeCount 12 = .ok (.iconst 0, 1) := by decide +kernel
theorem dX6_bridgeCount_13 : decode cX6_bridgeCount 13 = .ok (.istore_n 3, 1) := by decide +kernel
theorem dX6_bridgeCount_14 : decode cX6_bridgeCount 14 = .ok (.iload_n 3, 1) := by decide +kernel
theorem dX6_bridgeCount_15 : decode cX6_bridgeCount 15 = .ok (.aload_n 0, 1) := by decide +kernel
theorem dX6_bridgeCount_16 : decode cX6_bridgeCount 16 = .ok (.getfield 76, 3) := by decide +kernel
theorem dX6_bridgeCount_19 : decode cX6_bridgeCount 19 = .ok (.if_icmp .ge 26, 3) := by decide +kernel
theorem dX6_bridgeCount_22 : decode cX6_bridgeCount 22 = .ok (.iload_n 2, 1) := by decide +kernel
theorem dX6_bridgeCount_23 : decode cX6_bridgeCount 23 = .ok (.aload_n 0, 1) := by decide +kernel
theorem dX6_bridgeCount_24 : decode cX6_bridgeCount 24 = .ok (.iload_n 3, 1) := by decide +kernel
theorem dX6_bridgeCount_25 : decode cX6_bridgeCount 25 = .ok (.invokevirtual 85, 3) := by decide +kernel
theorem dX6_bridgeCount_28 : decode cX6_bridgeCount 28 = .ok (.iload_n 1, 1) := by decide +kernel
theorem dX6_bridgeCount_29 : decode cX6_bridgeCount 29 = .ok (.if_icmp .le 7, 3) := by decide +kernel
theorem dX6_bridgeCount_32 : decode cX6_bridgeCount 32 = .ok (.iconst 1, 1) := by decide +kernel
theorem dX6_bridgeCount_33 : decode cX6_bridgeCount 33 = .ok (.goto 4, 3) := by decide +kernel
theorem dX6_bridgeCount_36 : decode cX6_bridgeCount 36 = .ok (.iconst 0, 1) := by decide +kernel
theorem dX6_bridgeCount_37 : decode cX6_bridgeCount 37 = .ok (.iadd, 1) := by decide +kernel
theorem dX6_bridgeCount_38 : decode cX6_bridgeCount 38 = .ok (.istore_n 2, 1) := by decide +kernel
theorem dX6_bridgeCount_39 : decode cX6_bridgeCount 39 = .ok (.iinc 3 1, 3) := by decide +kernel
theorem dX6_bridgeCount_42 : decode cX6_bridgeCount 42 = .ok (.goto (-28), 3) := by decide +kernel
theorem dX6_bridgeCount_45 : decode cX6_bridgeCount 45 = .ok (.iload_n 2, 1) := by decide +kernel
theorem dX6_bridgeCount_46 : decode cX6_bridgeCount 46 = .ok (.ireturn, 1) := by decide +kernel
theorem dX6_isBridge_0 : decode cX6_isBridge 0 = .ok (.iload_n 1, 1) := by decide +kernel
theorem dX6_isBridge_1 : decode cX6_isBridge 1 = .ok (.ifCond .ge 5, 3) := by decide +kernel
theorem dX6_isBridge_4 : decode cX6_isBridge 4 = .ok (.iconst (-1), 1) := by decide +kernel
theorem dX6_isBridge_5 : decode cX6_isBridge 5 = .ok (.ireturn, 1) := by decide +kernel
theorem dX6_isBridge_6 : decode cX6_isBridge 6 = .ok (.aload_n 0, 1) := by decide +kernel
theorem dX6_isBridge_7 : decode cX6_isBridge 7 = .ok (.invokevirtual 82, 3) := by decide +kernel
theorem dX6_isBridge_10 : decode cX6_isBridge 10 = .ok (.iload_n 1, 1) := by decide +kernel
theorem dX6_isBridge_11 : decode cX6_isBridge 11 = .ok (.aload_n 0, 1) := by decide +kernel
theorem dX6_isBridge_12 : decode cX6_isBridge 12 = .ok (.getfield 76, 3) := by decide +kernel
theorem dX6_isBridge_15 : decode cX6_isBridge 15 = .ok (.if_icmp .lt 8, 3) := by decide +kernel
theorem dX6_isBridge_18 : decode cX6_isBridge 18 = .ok (.bipush (-3), 2) := by decide +kernel
theorem dX6_isBridge_20 : decode cX6_isBridge 20 = .ok (.goto 21, 3) := by decide +kernel
theorem dX6_isBridge_23 : decode cX6_isBridge 23 = .ok (.aload_n 0, 1) := by decide +kernel
theorem dX6_isBridge_24 : decode cX6_isBridge 24 = .ok (.iload_n 1, 1) := by decide +kernel
theorem dX6_isBridge_25 : decode cX6_isBridge 25 = .ok (.invokevirtual 85, 3) := by decide +kernel
theorem dX6_isBridge_28 : decode cX6_isBridge 28 = .ok (.aload_n 0, 1) := by decide +kernel
theorem dX6_isBridge_29 : decode cX6_isBridge 29 = .ok (.iconst (-1), 1) := by decide +kernel
theorem dX6_isBridge_30 : decode cX6_isBridge 30 = .ok (.invokevirtual 85, 3) := by decide +kernel
theorem dX6_isBridge_33 : decode cX6_isBridge 33 = .ok (.if_icmp .le 7, 3) := by decide +kernel
theorem dX6_isBridge_36 : decode cX6_isBridge 36 = .ok (.iconst 1, 1) := by decide +kernel
theorem dX6_isBridge_37 : decode cX6_isBridge 37 = .ok (.goto 4, 3) := by decide +kernel
theorem dX6_isBridge_40 : decode cX6_isBridge 40 = .ok (.iconst 0, 1) := by decide +kernel
theorem dX6_isBridge_41 : decode cX6_isBridge 41 = .ok (.ireturn, 1) := by decide +kernel
theorem dX6_isBy_0 : decode cX6_isBy 0 = .ok (.aload_n 0, 1) := by decide +kernel
theorem dX6_isBy_1 : decode cX6_isBy 1 = .ok (.getfield 25, 3) := by decide +kernel
theorem dX6_isBy_4 : decode cX6_isBy 4 = .ok (.bipush 24, 2) := by decide +kernel
theorem dX6_isBy_6 : decode cX6_isBy 6 = .ok (.iload_n 3, 1) := by decide +kernel
theorem dX6_isBy_7 : decode cX6_isBy 7 = .ok (.imul, 1) := by decide +kernel
theorem dX6_isBy_8 : decode cX6_isBy 8 = .ok (.iload_n 1, 1) := by decide +kernel
theorem dX6_isBy_9 : decode cX6_isBy 9 = .ok (.iadd, 1) := by decide +kernel
theorem dX6_isBy_10 : decode cX6_isBy 10 = .ok (.iaload, 1) := by decide +kernel
theorem dX6_isBy_11 : decode cX6_isBy 11 = .ok (.aload_n 0, 1) := by decide +kernel
theorem dX6_isBy_12 : decode cX6_isBy 12 = .ok (.getfield 22, 3) := by decide +kernel
theorem dX6_isBy_15 : decode cX6_isBy 15 = .ok (.bipush 24, 2) := by decide +kernel
theorem dX6_isBy_17 : decode cX6_isBy 17 = .ok (.iload_n 3, 1) := by decide +kernel
theorem dX6_isBy_18 : decode cX6_isBy 18 = .ok (.imul, 1) := by decide +kernel
theorem dX6_isBy_19 : decode cX6_isBy 19 = .ok (.iload_n 2, 1) := by decide +kernel
theorem dX6_isBy_20 : decode cX6_isBy 20 = .ok (.iadd, 1) := by decide +kernel
theorem dX6_isBy_21 : decode cX6_isBy 21 = .ok (.iaload, 1) := by decide +kernel
theorem dX6_isBy_22 : decode cX6_isBy 22 = .ok (.if_icmp .gt 32, 3) := by decide +kernel
theorem dX6_isBy_25 : decode cX6_isBy 25 = .ok (.aload_n 0, 1) := by decide +kernel
theorem dX6_isBy_26 : decode cX6_isBy 26 = .ok (.getfield 22, 3) := by decide +kernel
theorem dX6_isBy_29 : decode cX6_isBy 29 = .ok (.bipush 24, 2) := by decide +kernel
theorem dX6_isBy_31 : decode cX6_isBy 31 = .ok (.iload_n 3, 1) := by decide +kernel
theorem dX6_isBy_32 : decode cX6_isBy 32 = .ok (.imul, 1) := by decide +kernel
theorem dX6_isBy_33 : decode cX6_isBy 33 = .ok (.iload_n 1, 1) := by decide +kernel
theorem dX6_isBy_34 : decode cX6_isBy 34 = .ok (.iadd, 1) := by decide +kernel
theorem dX6_isBy_35 : decode cX6_isBy 35 = .ok (.iaload, 1) := by decide +kernel
theorem dX6_isBy_36 : decode cX6_isBy 36 = .ok (.aload_n 0, 1) := by decide +kernel
theorem dX6_isBy_37 : decode cX6_isBy 37 = .ok (.getfield 25, 3) := by decide +kernel
theorem dX6_isBy_40 : decode cX6_isBy 40 = .ok (.bipush 24, 2) := by decide +kernel
theorem dX6_isBy_42 : decode cX6_isBy 42 = .ok (.iload_n 3, 1) := by decide +kernel
theorem dX6_isBy_43 : decode cX6_isBy 43 = .ok (.imul, 1) := by decide +kernel
theorem dX6_isBy_44 : decode cX6_isBy 44 = .ok (.iload_n 2, 1) := by decide +kernel
theorem dX6_isBy_45 : decode cX6_isBy 45 = .ok (.iadd, 1) := by decide +kernel
theorem dX6_isBy_46 : decode cX6_isBy 46 = .ok (.iaload, 1) := by decide +kernel
theorem dX6_isBy_47 : decode cX6_isBy 47 = .ok (.if_icmp .ge 7, 3) := by decide +kernel
theorem dX6_isBy_50 : decode cX6_isBy 50 = .ok (.iconst 1, 1) := by decide +kernel
theorem dX6_isBy_51 : decode cX6_isBy 51 = .ok (.goto 4, 3) := by decide +kernel
theorem dX6_isBy_54 : decode cX6_isBy 54 = .ok (.iconst 0, 1) := by decide +kernel
theorem dX6_isBy_55 : decode cX6_isBy 55 = .ok (.ireturn, 1) := by decide +kernel
theorem dX6_isEarlier_0 : decode cX6_isEarlier 0 = .ok (.iload_n 1, 1) := by decide +kernel
theorem dX6_isEarlier_1 : decode cX6_isEarlier 1 = .ok (.iload_n 2, 1) := by decide +kernel
theorem dX6_isEarlier_2 : decode cX6_isEarlier 2 = .ok (.if_icmp .ne 5, 3) := by decide +kernel
theorem dX6_isEarlier_5 : decode cX6_isEarlier 5 = .ok (.iconst 0, 1) := by decide +kernel
theorem dX6_isEarlier_6 : decode cX6_isEarlier 6 = .ok (.ireturn, 1) := by decide +kernel
theorem dX6_isEarlier_7 : decode cX6_isEarlier 7 = .ok (.aload_n 0, 1) := by decide +kernel
theorem dX6_isEarlier_8 : decode cX6_isEarlier 8 = .ok (.getfield 16, 3) := by decide +kernel
theorem dX6_isEarlier_11 : decode cX6_isEarlier 11 = .ok (.iload_n 1, 1) := by decide +kernel
theorem dX6_isEarlier_12 : decode cX6_isEarlier 12 = .ok (.iaload, 1) := by decide +kernel
theorem dX6_isEarlier_13 : decode cX6_isEarlier 13 = .ok (.aload_n 0, 1) := by decide +kernel
theorem dX6_isEarlier_14 : decode cX6_isEarlier 14 = .ok (.getfield 16, 3) := by decide +kernel
theorem dX6_isEarlier_17 : decode cX6_isEarlier 17 = .ok (.iload_n 2, 1) := by decide +kernel
theorem dX6_isEarlier_18 : decode cX6_isEarlier 18 = .ok (.iaload, 1) := by decide +kernel
theorem dX6_isEarlier_19 : decode cX6_isEarlier 19 = .ok (.if_icmp .ne 13, 3) := by decide +kernel
theorem dX6_isEarlier_22 : decode cX6_isEarlier 22 = .ok (.aload_n 0, 1) := by decide +kernel
theorem dX6_isEarlier_23 : decode cX6_isEarlier 23 = .ok (.iload_n 1, 1) := by decide +kernel
theorem dX6_isEarlier_24 : decode cX6_isEarlier 24 = .ok (.iload_n 2, 1) := by decide +kernel
theorem dX6_isEarlier_25 : decode cX6_isEarlier 25 = .ok (.iconst 0, 1) := by decide +kernel
theorem dX6_isEarlier_26 : decode cX6_isEarlier 26 = .ok (.invokevirtual 88, 3) := by decide +kernel
theorem dX6_isEarlier_29 : decode cX6_isEarlier 29 = .ok (.goto 33, 3) := by decide +kernel
theorem dX6_isEarlier_32 : decode cX6_isEarlier 32 = .ok (.aload_n 0, 1) := by decide +kernel
theorem dX6_isEarlier_33 : decode cX6_isEarlier 33 = .ok (.getfield 19, 3) := by decide +kernel
theorem dX6_isEarlier_36 : decode cX6_isEarlier 36 = .ok (.iload_n 1, 1) := by decide +kernel
theorem dX6_isEarlier_37 : decode cX6_isEarlier 37 = .ok (.iaload, 1) := by decide +kernel
theorem dX6_isEarlier_38 : decode cX6_isEarlier 38 = .ok (.aload_n 0, 1) := by decide +kernel
theorem dX6_isEarlier_39 : decode cX6_isEarlier 39 = .ok (.getfield 19, 3) := by decide +kernel
theorem dX6_isEarlier_42 : decode cX6_isEarlier 42 = .ok (.iload_n 2, 1) := by decide +kernel
theorem dX6_isEarlier_43 : decode cX6_isEarlier 43 = .ok (.iaload, 1) := by decide +kernel
theorem dX6_isEarlier_44 : decode cX6_isEarlier 44 = .ok (.if_icmp .ne 17, 3) := by decide +kernel
theorem dX6_isEarlier_47 : decode cX6_isEarlier 47 = .ok (.aload_n 0, 1) := by decide +kernel
theorem dX6_isEarlier_48 : decode cX6_isEarlier 48 = .ok (.iload_n 1, 1) := by decide +kernel
theorem dX6_isEarlier_49 : decode cX6_isEarlier 49 = .ok (.iload_n 2, 1) := by decide +kernel
theorem dX6_isEarlier_50 : decode cX6_isEarlier 50 = .ok (.iconst 1, 1) := by decide +kernel
theorem dX6_isEarlier_51 : decode cX6_isEarlier 51 = .ok (.invokevirtual 88, 3) := by decide +kernel
theorem dX6_isEarlier_54 : decode cX6_isEarlier 54 = .ok (.ifCond .eq 7, 3) := by decide +kernel
theorem dX6_isEarlier_57 : decode cX6_isEarlier 57 = .ok (.iconst 1, 1) := by decide +kernel
theorem dX6_isEarlier_58 : decode cX6_isEarlier 58 = .ok (.goto 4, 3) := by decide +kernel
theorem dX6_isEarlier_61 : decode cX6_isEarlier 61 = .ok (.iconst 0, 1) := by decide +kernel
theorem dX6_isEarlier_62 : decode cX6_isEarlier 62 = .ok (.ireturn, 1) := by decide +kernel
theorem dX6_compareCouples_0 : decode cX6_compareCouples 0 = .ok (.aload_n 0, 1) := by decide +kernel
theorem dX6_compareCouples_1 : decode cX6_compareCouples 1 = .ok (.invokevirtual 82, 3) := by decide +kernel
theorem dX6_compareCouples_4 : decode cX6_compareCouples 4 = .ok (.iload_n 1, 1) := by decide +kernel
theorem dX6_compareCouples_5 : decode cX6_compareCouples 5 = .ok (.iconst 0, 1) := by decide +kernel
theorem dX6_compareCouples_6 : decode cX6_compareCouples 6 = .ok (.aload_n 0, 1) := by decide +kernel
theorem dX6_compareCouples_7 : decode cX6_compareCouples 7 = .ok (.getfield 76, 3) := by decide +kernel
theorem dX6_compareCouples_10 : decode cX6_compareCouples 10 = .ok (.iconst 1, 1) := by decide +kernel
theorem dX6_compareCouples_11 : decode cX6_compareCouples 11 = .ok (.isub, 1) := by decide +kernel
theorem dX6_compareCouples_12 : decode cX6_compareCouples 12 = .ok (.invokestatic 45, 3) := by decide +kernel
theorem dX6_compareCouples_15 : decode cX6_compareCouples 15 = .ok (.ifCond .eq 22, 3) := by decide +kernel
theorem dX6_compareCouples_18 : decode cX6_compareCouples 18 = .ok (.iload_n 2, 1) := by decide +kernel
theorem dX6_compareCouples_19 : decode cX6_compareCouples 19 = .ok (.iconst 0, 1) := by decide +kernel
theorem dX6_compareCouples_20 : decode cX6_compareCouples 20 = .ok (.aload_n 0, 1) := by decide +kernel
theorem dX6_compareCouples_21 : decode cX6_compareCouples 21 = .ok (.getfield 76, 3) := by decide +kernel
theorem dX6_compareCouples_24 : decode cX6_compareCouples 24 = .ok (.iconst 1, 1) := by decide +kernel
theorem dX6_compareCouples_25 : decode cX6_compareCouples 25 = .ok (.isub, 1) := by decide +kernel
theorem dX6_compareCouples_26 : decode cX6_compareCouples 26 = .ok (.invokestatic 45, 3) := by decide +kernel
theorem dX6_compareCouples_29 : decode cX6_compareCouples 29 = .ok (.ifCond .eq 8, 3) := by decide +kernel
theorem dX6_compareCouples_32 : decode cX6_compareCouples 32 = .ok (.iload_n 1, 1) := by decide +kernel
theorem dX6_compareCouples_33 : decode cX6_compareCouples 33 = .ok (.iload_n 2, 1) := by decide +kernel
theorem dX6_compareCouples_34 : decode cX6_compareCouples 34 = .ok (.if_icmp .ne 5, 3) := by decide +kernel
theorem dX6_compareCouples_37 : decode cX6_compareCouples 37 = .ok (.iconst (-1), 1) := by decide +kernel
theorem dX6_compareCouples_38 : decode cX6_compareCouples 38 = .ok (.ireturn, 1) := by decide +kernel
theorem dX6_compareCouples_39 : decode cX6_compareCouples 39 = .ok (.aload_n 0, 1) := by decide +kernel
theorem dX6_compareCouples_40 : decode cX6_compareCouples 40 = .ok (.iload_n 1, 1) := by decide +kernel
theorem dX6_compareCouples_41 : decode cX6_compareCouples 41 = .ok (.iload_n 2, 1) := by decide +kernel
theorem dX6_compareCouples_42 : decode cX6_compareCouples 42 = .ok (.invokevirtual 91, 3) := by decide +kernel
theorem dX6_compareCouples_45 : decode cX6_compareCouples 45 = .ok (.ifCond .eq 7, 3) := by decide +kernel
theorem dX6_compareCouples_48 : decode cX6_compareCouples 48 = .ok (.iconst 1, 1) := by decide +kernel
theorem dX6_compareCouples_49 : decode cX6_compareCouples 49 = .ok (.goto 17, 3) := by decide +kernel
theorem dX6_compareCouples_52 : decode cX6_compareCouples 52 = .ok (.aload_n 0, 1) := by decide +kernel
theorem dX6_compareCouples_53 : decode cX6_compareCouples 53 = .ok (.iload_n 2, 1) := by decide +kernel
theorem dX6_compareCouples_54 : decode cX6_compareCouples 54 = .ok (.iload_n 1, 1) := by decide +kernel
theorem dX6_compareCouples_55 : decode cX6_compareCouples 55 = .ok (.invokevirtual 91, 3) := by decide +kernel
theorem dX6_compareCouples_58 : decode cX6_compareCouples 58 = .ok (.ifCond .eq 7, 3) := by decide +kernel
theorem dX6_compareCouples_61 : decode cX6_compareCouples 61 = .ok (.iconst 2, 1) := by decide +kernel
theorem dX6_compareCouples_62 : decode cX6_compareCouples 62 = .ok (.goto 4, 3) := by decide +kernel
theorem dX6_compareCouples_65 : decode cX6_compareCouples 65 = .ok (.iconst 0, 1) := by decide +kernel
theorem dX6_compareCouples_66 : decode cX6_compareCouples 66 = .ok (.ireturn, 1) := by decide +kernel
theorem dX6_places_0 : decode cX6_places 0 = .ok (.iconst 0, 1) := by decide +kernel
theorem dX6_places_1 : decode cX6_places 1 = .ok (.istore_n 1, 1) := by decide +kernel
theorem dX6_places_2 : decode cX6_places 2 = .ok (.iload_n 1, 1) := by decide +kernel
theorem dX6_places_3 : decode cX6_places 3 = .ok (.aload_n 0, 1) := by decide +kernel
theorem dX6_places_4 : decode cX6_places 4 = .ok (.getfield 76, 3) := by decide +kernel
theorem dX6_places_7 : decode cX6_places 7 = .ok (.if_icmp .ge 23, 3) := by decide +kernel
theorem dX6_places_10 : decode cX6_places 10 = .ok (.aload_n 0, 1) := by decide +kernel
theorem dX6_places_11 : decode cX6_places 11 = .ok (.getfield 34, 3) := by decide +kernel
theorem dX6_places_14 : decode cX6_places 14 = .ok (.iload_n 1, 1) := by decide +kernel
theorem dX6_places_15 : decode cX6_places 15 = .ok (.iconst 0, 1) := by decide +kernel
theorem dX6_places_16 : decode cX6_places 16 = .ok (.bastore, 1) := by decide +kernel
theorem dX6_places_17 : decode cX6_places 17 = .ok (.aload_n 0, 1) := by decide +kernel
theorem dX6_places_18 : decode cX6_places 18 = .ok (.getfield 31, 3) := by decide +kernel
theorem dX6_places_21 : decode cX6_places 21 = .ok (.iload_n 1, 1) := by decide +kernel
theorem dX6_places_22 : decode cX6_places 22 = .ok (.iconst 0, 1) := by decide +kernel
theorem dX6_places_23 : decode cX6_places 23 = .ok (.iastore, 1) := by decide +kernel
theorem dX6_places_24 : decode cX6_places 24 = .ok (.iinc 1 1, 3) := by decide +kernel
theorem dX6_places_27 : decode cX6_places 27 = .ok (.goto (-25), 3) := by decide +kernel
theorem dX6_places_30 : decode cX6_places 30 = .ok (.iconst 0, 1) := by decide +kernel
theorem dX6_places_31 : decode cX6_places 31 = .ok (.istore_n 1, 1) := by decide +kernel
theorem dX6_places_32 : decode cX6_places 32 = .ok (.iload_n 1, 1) := by decide +kernel
theorem dX6_places_33 : decode cX6_places 33 = .ok (.aload_n 0, 1) := by decide +kernel
theorem dX6_places_34 : decode cX6_places 34 = .ok (.getfield 76, 3) := by decide +kernel
theorem dX6_places_37 : decode cX6_places 37 = .ok (.if_icmp .ge 192, 3) := by decide +kernel
theorem dX6_places_40 : decode cX6_places 40 = .ok (.iconst (-1), 1) := by decide +kernel
theorem dX6_places_41 : decode cX6_places 41 = .ok (.istore_n 2, 1) := by decide +kernel
theorem dX6_places_42 : decode cX6_places 42 = .ok (.aload_n 0, 1) := by decide +kernel
theorem dX6_places_43 : decode cX6_places 43 = .ok (.getfield 76, 3) := by decide +kernel
theorem dX6_places_46 : decode cX6_places 46 = .ok (.iconst 1, 1) := by decide +kernel
theorem dX6_places_47 : decode cX6_places 47 = .ok (.isub, 1) := by decide +kernel
theorem dX6_places_48 : decode cX6_places 48 = .ok (.istore_n 3, 1) := by decide +kernel
theorem dX6_places_49 : decode cX6_places 49 = .ok (.iload_n 3, 1) := by decide +kernel
theorem dX6_places_50 : decode cX6_places 50 = .ok (.ifCond .lt 86, 3) := by decide +kernel
theorem dX6_places_53 : decode cX6_places 53 = .ok (.aload_n 0, 1) := by decide +kernel
theorem dX6_places_54 : decode cX6_places 54 = .ok (.getfield 34, 3) := by decide +kernel
theorem dX6_places_57 : decode cX6_places 57 = .ok (.iload_n 3, 1) := by decide +kernel
theorem dX6_places_58 : decode cX6_places 58 = .ok (.baload, 1) := by decide +kernel
theorem dX6_places_59 : decode cX6_places 59 = .ok (.ifCond .ne 7, 3) := by decide +kernel
theorem dX6_places_62 : decode cX6_places 62 = .ok (.iconst 1, 1) := by decide +kernel
theorem dX6_places_63 : decode cX6_places 63 = .ok (.goto 4, 3) := by decide +kernel
theorem dX6_places_66 : decode cX6_places 66 = .ok (.iconst 0, 1) := by decide +kernel
theorem dX6_places_67 : decode cX6_places 67 = .ok (.istore 4, 2) := by decide +kernel
theorem dX6_places_69 : decode cX6_places 69 = .ok (.iconst 0, 1) := by decide +kernel
theorem dX6_places_70 : decode cX6_places 70 = .ok (.istore 5, 2) := by decide +kernel
theorem dX6_places_72 : decode cX6_places 72 = .ok (.iload 5, 2) := by decide +kernel
theorem dX6_places_74 : decode cX6_places 74 = .ok (.aload_n 0, 1) := by decide +kernel
theorem dX6_places_75 : decode cX6_places 75 = .ok (.getfield 76, 3) := by decide +kernel
theorem dX6_places_78 : decode cX6_places 78 = .ok (.if_icmp .ge 41, 3) := by decide +kernel
theorem dX6_places_81 : decode cX6_places 81 = .ok (.iload 4, 2) := by decide +kernel
theorem dX6_places_83 : decode cX6_places 83 = .ok (.ifCond .eq 27, 3) := by decide +kernel
theorem dX6_places_86 : decode cX6_places 86 = .ok (.aload_n 0, 1) := by decide +kernel
theorem dX6_places_87 : decode cX6_places 87 = .ok (.getfield 34, 3) := by decide +kernel
theorem dX6_places_90 : decode cX6_places 90 = .ok (.iload 5, 2) := by decide +kernel
theorem dX6_places_92 : decode cX6_places 92 = .ok (.baload, 1) := by decide +kernel
theorem dX6_places_93 : decode cX6_places 93 = .ok (.ifCond .ne 13, 3) := by decide +kernel
theorem dX6_places_96 : decode cX6_places 96 = .ok (.aload_n 0, 1) := by decide +kernel
theorem dX6_places_97 : decode cX6_places 97 = .ok (.iload 5, 2) := by decide +kernel
theorem dX6_places_99 : decode cX6_places 99 = .ok (.iload_n 3, 1) := by decide +kernel
theorem dX6_places_100 : decode cX6_places 100 = .ok (.invokevirtual 91, 3) := by decide +kernel
theorem dX6_places_103 : decode cX6_places 103 = .ok (.ifCond .ne 7, 3) := by decide +kernel
theorem dX6_places_106 : decode cX6_places 106 = .ok (.iconst 1, 1) := by decide +kernel
theorem dX6_places_107 : decode cX6_places 107 = .ok (.goto 4, 3) := by decide +kernel
theorem dX6_places_110 : decode cX6_places 110 = .ok (.iconst 0, 1) := by decide +kernel
theorem dX6_places_111 : decode cX6_places 111 = .ok (.istore 4, 2) := by decide +kernel
theorem dX6_places_113 : decode cX6_places 113 = .ok (.iinc 5 1, 3) := by decide +kernel
theorem dX6_places_116 : decode cX6_places 116 = .ok (.goto (-44), 3) := by decide +kernel
theorem dX6_places_119 : decode cX6_places 119 = .ok (.iload 4, 2) := by decide +kernel
theorem dX6_places_121 : decode cX6_places 121 = .ok (.ifCond .eq 7, 3) := by decide +kernel
theorem dX6_places_124 : decode cX6_places 124 = .ok (.iload_n 3, 1) := by decide +kernel
theorem dX6_places_125 : decode cX6_places 125 = .ok (.goto 4, 3) := by decide +kernel
theorem dX6_places_128 : decode cX6_places 128 = .ok (.iload_n 2, 1) := by decide +kernel
theorem dX6_places_129 : decode cX6_places 129 = .ok (.istore_n 2, 1) := by decide +kernel
theorem dX6_places_130 : decode cX6_places 130 = .ok (.iinc 3 (-1), 3) := by decide +kernel
theorem dX6_places_133 : decode cX6_places 133 = .ok (.goto (-84), 3) := by decide +kernel
theorem dX6_places_136 : decode cX6_places 136 = .ok (.iload_n 2, 1) := by decide +kernel
theorem dX6_places_137 : decode cX6_places 137 = .ok (.ifCond .ge 5, 3) := by decide +kernel
theorem dX6_places_140 : decode cX6_places 140 = .ok (.iconst 0, 1) := by decide +kernel
theorem dX6_places_141 : decode cX6_places 141 = .ok (.ireturn, 1) := by decide +kernel
theorem dX6_places_142 : decode cX6_places 142 = .ok (.iconst 0, 1) := by decide +kernel
theorem dX6_places_143 : decode cX6_places 143 = .ok (.istore_n 3, 1) := by decide +kernel
theorem dX6_places_144 : decode cX6_places 144 = .ok (.iload_n 3, 1) := by decide +kernel
theorem dX6_places_145 : decode cX6_places 145 = .ok (.aload_n 0, 1) := by decide +kernel
theorem dX6_places_146 : decode cX6_places 146 = .ok (.getfield 76, 3) := by decide +kernel
theorem dX6_places_149 : decode cX6_places 149 = .ok (.if_icmp .ge 60, 3) := by decide +kernel
theorem dX6_places_152 : decode cX6_places 152 = .ok (.aload_n 0, 1) := by decide +kernel
theorem dX6_places_153 : decode cX6_places 153 = .ok (.iload_n 3, 1) := by decide +kernel
theorem dX6_places_154 : decode cX6_places 154 = .ok (.iload_n 2, 1) := by decide +kernel
theorem dX6_places_155 : decode cX6_places 155 = .ok (.invokevirtual 91, 3) := by decide +kernel
theorem dX6_places_158 : decode cX6_places 158 = .ok (.ifCond .eq 14, 3) := by decide +kernel
theorem dX6_places_161 : decode cX6_places 161 = .ok (.aload_n 0, 1) := by decide +kernel
theorem dX6_places_162 : decode cX6_places 162 = .ok (.getfield 31, 3) := by decide +kernel
theorem dX6_places_165 : decode cX6_places 165 = .ok (.iload_n 3, 1) := by decide +kernel
theorem dX6_places_166 : decode cX6_places 166 = .ok (.iaload, 1) := by decide +kernel
theorem dX6_places_167 : decode cX6_places 167 = .ok (.iconst 1, 1) := by decide +kernel
theorem dX6_places_168 : decode cX6_places 168 = .ok (.iadd, 1) := by decide +kernel
theorem dX6_places_169 : decode cX6_places 169 = .ok (.goto 4, 3) := by decide +kernel
theorem dX6_places_172 : decode cX6_places 172 = .ok (.iconst 0, 1) := by decide +kernel
theorem dX6_places_173 : decode cX6_places 173 = .ok (.istore 4, 2) := by decide +kernel
theorem dX6_places_175 : decode cX6_places 175 = .ok (.aload_n 0, 1) := by decide +kernel
theorem dX6_places_176 : decode cX6_places 176 = .ok (.getfield 31, 3) := by decide +kernel
theorem dX6_places_179 : decode cX6_places 179 = .ok (.iload_n 2, 1) := by decide +kernel
theorem dX6_places_180 : decode cX6_places 180 = .ok (.iload 4, 2) := by decide +kernel
theorem dX6_places_182 : decode cX6_places 182 = .ok (.aload_n 0, 1) := by decide +kernel
theorem dX6_places_183 : decode cX6_places 183 = .ok (.getfield 31, 3) := by decide +kernel
theorem dX6_places_186 : decode cX6_places 186 = .ok (.iload_n 2, 1) := by decide +kernel
theorem dX6_places_187 : decode cX6_places 187 = .ok (.iaload, 1) := by decide +kernel
theorem dX6_places_188 : decode cX6_places 188 = .ok (.if_icmp .le 8, 3) := by decide +kernel
theorem dX6_places_191 : decode cX6_places 191 = .ok (.iload 4, 2) := by decide +kernel
theorem dX6_places_193 : decode cX6_places 193 = .ok (.goto 9, 3) := by decide +kernel
theorem dX6_places_196 : decode cX6_places 196 = .ok (.aload_n 0, 1) := by decide +kernel
theorem dX6_places_197 : decode cX6_places 197 = .ok (.getfield 31, 3) := by decide +kernel
theorem dX6_places_200 : decode cX6_places 200 = .ok (.iload_n 2, 1) := by decide +kernel
theorem dX6_places_201 : decode cX6_places 201 = .ok (.iaload, 1) := by decide +kernel
theorem dX6_places_202 : decode cX6_places 202 = .ok (.iastore, 1) := by decide +kernel
theorem dX6_places_203 : decode cX6_places 203 = .ok (.iinc 3 1, 3) := by decide +kernel
theorem dX6_places_206 : decode cX6_places 206 = .ok (.goto (-62), 3) := by decide +kernel
theorem dX6_places_209 : decode cX6_places 209 = .ok (.aload_n 0, 1) := by decide +kernel
theorem dX6_places_210 : decode cX6_places 210 = .ok (.getfield 34, 3) := by decide +kernel
theorem dX6_places_213 : decode cX6_places 213 = .ok (.iload_n 2, 1) := by decide +kernel
theorem dX6_places_214 : decode cX6_places 214 = .ok (.iconst 1, 1) := by decide +kernel
theorem dX6_places_215 : decode cX6_places 215 = .ok (.bastore, 1) := by decide +kernel
theorem dX6_places_216 : decode cX6_places 216 = .ok (.aload_n 0, 1) := by decide +kernel
theorem dX6_places_217 : decode cX6_places 217 = .ok (.getfield 28, 3) := by decide +kernel
theorem dX6_places_220 : decode cX6_places 220 = .ok (.iload_n 1, 1) := by decide +kernel
theorem dX6_places_221 : decode cX6_places 221 = .ok (.iload_n 2, 1) := by decide +kernel
theorem dX6_places_222 : decode cX6_places 222 = .ok (.iastore, 1) := by decide +kernel
theorem dX6_places_223 : decode cX6_places 223 = .ok (.iinc 1 1, 3) := by decide +kernel
theorem dX6_places_226 : decode cX6_places 226 = .ok (.goto (-194), 3) := by decide +kernel
theorem dX6_places_229 : decode cX6_places 229 = .ok (.iconst 1, 1) := by decide +kernel
theorem dX6_places_230 : decode cX6_places 230 = .ok (.ireturn, 1) := by decide +kernel
theorem dX6_isConsistent_0 : decode cX6_isConsistent 0 = .ok (.aload_n 0, 1) := by decide +kernel
theorem dX6_isConsistent_1 : decode cX6_isConsistent 1 = .ok (.invokevirtual 82, 3) := by decide +kernel
theorem dX6_isConsistent_4 : decode cX6_isConsistent 4 = .ok (.aload_n 0, 1) := by decide +kernel
theorem dX6_isConsistent_5 : decode cX6_isConsistent 5 = .ok (.invokevirtual 94, 3) := by decide +kernel
theorem dX6_isConsistent_8 : decode cX6_isConsistent 8 = .ok (.ifCond .eq 7, 3) := by decide +kernel
theorem dX6_isConsistent_11 : decode cX6_isConsistent 11 = .ok (.iconst 1, 1) := by decide +kernel
theorem dX6_isConsistent_12 : decode cX6_isConsistent 12 = .ok (.goto 4, 3) := by decide +kernel
theorem dX6_isConsistent_15 : decode cX6_isConsistent 15 = .ok (.iconst 0, 1) := by decide +kernel
theorem dX6_isConsistent_16 : decode cX6_isConsistent 16 = .ok (.ireturn, 1) := by decide +kernel
theorem dX6_coupleInOrder_0 : decode cX6_coupleInOrder 0 = .ok (.iload_n 1, 1) := by decide +kernel
theorem dX6_coupleInOrder_1 : decode cX6_coupleInOrder 1 = .ok (.ifCond .ge 5, 3) := by decide +kernel
theorem dX6_coupleInOrder_4 : decode cX6_coupleInOrder 4 = .ok (.iconst (-1), 1) := by decide +kernel
theorem dX6_coupleInOrder_5 : decode cX6_coupleInOrder 5 = .ok (.ireturn, 1) := by decide +kernel
theorem dX6_coupleInOrder_6 : decode cX6_coupleInOrder 6 = .ok (.aload_n 0, 1) := by decide +kernel
theorem dX6_coupleInOrder_7 : decode cX6_coupleInOrder 7 = .ok (.invokevirtual 82, 3) := by decide +kernel
theorem dX6_coupleInOrder_10 : decode cX6_coupleInOrder 10 = .ok (.iload_n 1, 1) := by decide +kernel
theorem dX6_coupleInOrder_11 : decode cX6_coupleInOrder 11 = .ok (.aload_n 0, 1) := by decide +kernel
theorem dX6_coupleInOrder_12 : decode cX6_coupleInOrder 12 = .ok (.getfield 76, 3) := by decide +kernel
theorem dX6_coupleInOrder_15 : decode cX6_coupleInOrder 15 = .ok (.if_icmp .lt 6, 3) := by decide +kernel
theorem dX6_coupleInOrder_18 : decode cX6_coupleInOrder 18 = .ok (.bipush (-3), 2) := by decide +kernel
theorem dX6_coupleInOrder_20 : decode cX6_coupleInOrder 20 = .ok (.ireturn, 1) := by decide +kernel
theorem dX6_coupleInOrder_21 : decode cX6_coupleInOrder 21 = .ok (.aload_n 0, 1) := by decide +kernel
theorem dX6_coupleInOrder_22 : decode cX6_coupleInOrder 22 = .ok (.invokevirtual 94, 3) := by decide +kernel
theorem dX6_coupleInOrder_25 : decode cX6_coupleInOrder 25 = .ok (.ifCond .eq 12, 3) := by decide +kernel
theorem dX6_coupleInOrder_28 : decode cX6_coupleInOrder 28 = .ok (.aload_n 0, 1) := by decide +kernel
theorem dX6_coupleInOrder_29 : decode cX6_coupleInOrder 29 = .ok (.getfield 28, 3) := by decide +kernel
theorem dX6_coupleInOrder_32 : decode cX6_coupleInOrder 32 = .ok (.iload_n 1, 1) := by decide +kernel
theorem dX6_coupleInOrder_33 : decode cX6_coupleInOrder 33 = .ok (.iaload, 1) := by decide +kernel
theorem dX6_coupleInOrder_34 : decode cX6_coupleInOrder 34 = .ok (.goto 5, 3) := by decide +kernel
theorem dX6_coupleInOrder_37 : decode cX6_coupleInOrder 37 = .ok (.bipush (-4), 2) := by decide +kernel
theorem dX6_coupleInOrder_39 : decode cX6_coupleInOrder 39 = .ok (.ireturn, 1) := by decide +kernel
theorem dX6_generation_0 : decode cX6_generation 0 = .ok (.iload_n 1, 1) := by decide +kernel
theorem dX6_generation_1 : decode cX6_generation 1 = .ok (.ifCond .ge 5, 3) := by decide +kernel
theorem dX6_generation_4 : decode cX6_generation 4 = .ok (.iconst (-1), 1) := by decide +kernel
theorem dX6_generation_5 : decode cX6_generation 5 = .ok (.ireturn, 1) := by decide +kernel
theorem dX6_generation_6 : decode cX6_generation 6 = .ok (.aload_n 0, 1) := by decide +kernel
theorem dX6_generation_7 : decode cX6_generation 7 = .ok (.invokevirtual 82, 3) := by decide +kernel
theorem dX6_generation_10 : decode cX6_generation 10 = .ok (.iload_n 1, 1) := by decide +kernel
theorem dX6_generation_11 : decode cX6_generation 11 = .ok (.aload_n 0, 1) := by decide +kernel
theorem dX6_generation_12 : decode cX6_generation 12 = .ok (.getfield 76, 3) := by decide +kernel
theorem dX6_generation_15 : decode cX6_generation 15 = .ok (.if_icmp .lt 6, 3) := by decide +kernel
theorem dX6_generation_18 : decode cX6_generation 18 = .ok (.bipush (-3), 2) := by decide +kernel
theorem dX6_generation_20 : decode cX6_generation 20 = .ok (.ireturn, 1) := by decide +kernel
theorem dX6_generation_21 : decode cX6_generation 21 = .ok (.aload_n 0, 1) := by decide +kernel
theorem dX6_generation_22 : decode cX6_generation 22 = .ok (.invokevirtual 94, 3) := by decide +kernel
theorem dX6_generation_25 : decode cX6_generation 25 = .ok (.ifCond .eq 12, 3) := by decide +kernel
theorem dX6_generation_28 : decode cX6_generation 28 = .ok (.aload_n 0, 1) := by decide +kernel
theorem dX6_generation_29 : decode cX6_generation 29 = .ok (.getfield 31, 3) := by decide +kernel
theorem dX6_generation_32 : decode cX6_generation 32 = .ok (.iload_n 1, 1) := by decide +kernel
theorem dX6_generation_33 : decode cX6_generation 33 = .ok (.iaload, 1) := by decide +kernel
theorem dX6_generation_34 : decode cX6_generation 34 = .ok (.goto 5, 3) := by decide +kernel
theorem dX6_generation_37 : decode cX6_generation 37 = .ok (.bipush (-4), 2) := by decide +kernel
theorem dX6_generation_39 : decode cX6_generation 39 = .ok (.ireturn, 1) := by decide +kernel
theorem dX6_single_0 : decode cX6_single 0 = .ok (.iconst 0, 1) := by decide +kernel
theorem dX6_single_1 : decode cX6_single 1 = .ok (.istore_n 2, 1) := by decide +kernel
theorem dX6_single_2 : decode cX6_single 2 = .ok (.iconst 0, 1) := by decide +kernel
theorem dX6_single_3 : decode cX6_single 3 = .ok (.istore_n 3, 1) := by decide +kernel
theorem dX6_single_4 : decode cX6_single 4 = .ok (.iload_n 3, 1) := by decide +kernel
theorem dX6_single_5 : decode cX6_single 5 = .ok (.bipush 10, 2) := by decide +kernel
theorem dX6_single_7 : decode cX6_single 7 = .ok (.if_icmp .ge 27, 3) := by decide +kernel
theorem dX6_single_10 : decode cX6_single 10 = .ok (.iload_n 2, 1) := by decide +kernel
theorem dX6_single_11 : decode cX6_single 11 = .ok (.aload_n 0, 1) := by decide +kernel
theorem dX6_single_12 : decode cX6_single 12 = .ok (.iload_n 1, 1) := by decide +kernel
theorem dX6_single_13 : decode cX6_single 13 = .ok (.iload_n 3, 1) := by decide +kernel
theorem dX6_single_14 : decode cX6_single 14 = .ok (.invokevirtual 63, 3) := by decide +kernel
theorem dX6_single_17 : decode cX6_single 17 = .ok (.iconst 1, 1) := by decide +kernel
theorem dX6_single_18 : decode cX6_single 18 = .ok (.if_icmp .ne 7, 3) := by decide +kernel
theorem dX6_single_21 : decode cX6_single 21 = .ok (.iconst 1, 1) := by decide +kernel
theorem dX6_single_22 : decode cX6_single 22 = .ok (.goto 4, 3) := by decide +kernel
theorem dX6_single_25 : decode cX6_single 25 = .ok (.iconst 0, 1) := by decide +kernel
theorem dX6_single_26 : decode cX6_single 26 = .ok (.iadd, 1) := by decide +kernel
theorem dX6_single_27 : decode cX6_single 27 = .ok (.istore_n 2, 1) := by decide +kernel
theorem dX6_single_28 : decode cX6_single 28 = .ok (.iinc 3 1, 3) := by decide +kernel
theorem dX6_single_31 : decode cX6_single 31 = .ok (.goto (-27), 3) := by decide +kernel
theorem dX6_single_34 : decode cX6_single 34 = .ok (.iload_n 2, 1) := by decide +kernel
theorem dX6_single_35 : decode cX6_single 35 = .ok (.ireturn, 1) := by decide +kernel
theorem dX6_singletons_0 : decode cX6_singletons 0 = .ok (.iload_n 1, 1) := by decide +kernel
theorem dX6_singletons_1 : decode cX6_singletons 1 = .ok (.invokestatic 56, 3) := by decide +kernel
theorem dX6_singletons_4 : decode cX6_singletons 4 = .ok (.ifCond .eq 11, 3) := by decide +kernel
theorem dX6_singletons_7 : decode cX6_singletons 7 = .ok (.aload_n 0, 1) := by decide +kernel
theorem dX6_singletons_8 : decode cX6_singletons 8 = .ok (.iload_n 1, 1) := by decide +kernel
theorem dX6_singletons_9 : decode cX6_singletons 9 = .ok (.invokevirtual 98, 3) := by decide +kernel
theorem dX6_singletons_12 : decode cX6_singletons 12 = .ok (.goto 4, 3) := by decide +kernel
theorem dX6_singletons_15 : decode cX6_singletons 15 = .ok (.iconst (-1), 1) := by decide +kernel
theorem dX6_singletons_16 : decode cX6_singletons 16 = .ok (.ireturn, 1) := by decide +kernel
theorem dX6_coverageEstimate_0 : decode cX6_coverageEstimate 0 = .ok (.iload_n 1, 1) := by decide +kernel
theorem dX6_coverageEstimate_1 : decode cX6_coverageEstimate 1 = .ok (.invokestatic 56, 3) := by decide +kernel
theorem dX6_coverageEstimate_4 : decode cX6_coverageEstimate 4 = .ok (.ifCond .ne 5, 3) := by decide +kernel
theorem dX6_coverageEstimate_7 : decode cX6_coverageEstimate 7 = .ok (.iconst (-1), 1) := by decide +kernel
theorem dX6_coverageEstimate_8 : decode cX6_coverageEstimate 8 = .ok (.ireturn, 1) := by decide +kernel
theorem dX6_coverageEstimate_9 : decode cX6_coverageEstimate 9 = .ok (.aload_n 0, 1) := by decide +kernel
theorem dX6_coverageEstimate_10 : decode cX6_coverageEstimate 10 = .ok (.getfield 7, 3) := by decide +kernel
theorem dX6_coverageEstimate_13 : decode cX6_coverageEstimate 13 = .ok (.bipush 96, 2) := by decide +kernel
theorem dX6_coverageEstimate_15 : decode cX6_coverageEstimate 15 = .ok (.iaload, 1) := by decide +kernel
theorem dX6_coverageEstimate_16 : decode cX6_coverageEstimate 16 = .ok (.istore_n 2, 1) := by decide +kernel
theorem dX6_coverageEstimate_17 : decode cX6_coverageEstimate 17 = .ok (.aload_n 0, 1) := by decide +kernel
theorem dX6_coverageEstimate_18 : decode cX6_coverageEstimate 18 = .ok (.iload_n 1, 1) := by decide +kernel
theorem dX6_coverageEstimate_19 : decode cX6_coverageEstimate 19 = .ok (.invokevirtual 98, 3) := by decide +kernel
theorem dX6_coverageEstimate_22 : decode cX6_coverageEstimate 22 = .ok (.istore_n 3, 1) := by decide +kernel
theorem dX6_coverageEstimate_23 : decode cX6_coverageEstimate 23 = .ok (.iload_n 3, 1) := by decide +kernel
theorem dX6_coverageEstimate_24 : decode cX6_coverageEstimate 24 = .ok (.iload_n 2, 1) := by decide +kernel
theorem dX6_coverageEstimate_25 : decode cX6_coverageEstimate 25 = .ok (.if_icmp .ne 8, 3) := by decide +kernel
theorem dX6_coverageEstimate_28 : decode cX6_coverageEstimate 28 = .ok (.bipush (-3), 2) := by decide +kernel
theorem dX6_coverageEstimate_30 : decode cX6_coverageEstimate 30 = .ok (.goto 18, 3) := by decide +kernel
theorem dX6_coverageEstimate_33 : decode cX6_coverageEstimate 33 = .ok (.sipush 1000, 3) := by decide +kernel
theorem dX6_coverageEstimate_36 : decode cX6_coverageEstimate 36 = .ok (.aload_n 0, 1) := by decide +kernel
theorem dX6_coverageEstimate_37 : decode cX6_coverageEstimate 37 = .ok (.iload_n 1, 1) := by decide +kernel
theorem dX6_coverageEstimate_38 : decode cX6_coverageEstimate 38 = .ok (.invokevirtual 67, 3) := by decide +kernel
theorem dX6_coverageEstimate_41 : decode cX6_coverageEstimate 41 = .ok (.imul, 1) := by decide +kernel
theorem dX6_coverageEstimate_42 : decode cX6_coverageEstimate 42 = .ok (.iload_n 2, 1) := by decide +kernel
theorem dX6_coverageEstimate_43 : decode cX6_coverageEstimate 43 = .ok (.imul, 1) := by decide +kernel
theorem dX6_coverageEstimate_44 : decode cX6_coverageEstimate 44 = .ok (.iload_n 2, 1) := by decide +kernel
theorem dX6_coverageEstimate_45 : decode cX6_coverageEstimate 45 = .ok (.iload_n 3, 1) := by decide +kernel
theorem dX6_coverageEstimate_46 : decode cX6_coverageEstimate 46 = .ok (.isub, 1) := by decide +kernel
theorem dX6_coverageEstimate_47 : decode cX6_coverageEstimate 47 = .ok (.idiv, 1) := by decide +kernel
theorem dX6_coverageEstimate_48 : decode cX6_coverageEstimate 48 = .ok (.ireturn, 1) := by decide +kernel
theorem dX6_frequencyEstimate_0 : decode cX6_frequencyEstimate 0 = .ok (.iload_n 1, 1) := by decide +kernel
theorem dX6_frequencyEstimate_1 : decode cX6_frequencyEstimate 1 = .ok (.invokestatic 56, 3) := by decide +kernel
theorem dX6_frequencyEstimate_4 : decode cX6_frequencyEstimate 4 = .ok (.ifCond .ne 5, 3) := by decide +kernel
theorem dX6_frequencyEstimate_7 : decode cX6_frequencyEstimate 7 = .ok (.iconst (-1), 1) := by decide +kernel
theorem dX6_frequencyEstimate_8 : decode cX6_frequencyEstimate 8 = .ok (.ireturn, 1) := by decide +kernel
theorem dX6_frequencyEstimate_9 : decode cX6_frequencyEstimate 9 = .ok (.aload_n 0, 1) := by decide +kernel
theorem dX6_frequencyEstimate_10 : decode cX6_frequencyEstimate 10 = .ok (.getfield 7, 3) := by decide +kernel
theorem dX6_frequencyEstimate_13 : decode cX6_frequencyEstimate 13 = .ok (.bipush 96, 2) := by decide +kernel
theorem dX6_frequencyEstimate_15 : decode cX6_frequencyEstimate 15 = .ok (.iaload, 1) := by decide +kernel
theorem dX6_frequencyEstimate_16 : decode cX6_frequencyEstimate 16 = .ok (.istore_n 2, 1) := by decide +kernel
theorem dX6_frequencyEstimate_17 : decode cX6_frequencyEstimate 17 = .ok (.aload_n 0, 1) := by decide +kernel
theorem dX6_frequencyEstimate_18 : decode cX6_frequencyEstimate 18 = .ok (.iload_n 1, 1) := by decide +kernel
theorem dX6_frequencyEstimate_19 : decode cX6_frequencyEstimate 19 = .ok (.invokevirtual 67, 3) := by decide +kernel
theorem dX6_frequencyEstimate_22 : decode cX6_frequencyEstimate 22 = .ok (.istore_n 3, 1) := by decide +kernel
theorem dX6_frequencyEstimate_23 : decode cX6_frequencyEstimate 23 = .ok (.iload_n 2, 1) := by decide +kernel
theorem dX6_frequencyEstimate_24 : decode cX6_frequencyEstimate 24 = .ok (.iconst 2, 1) := by decide +kernel
theorem dX6_frequencyEstimate_25 : decode cX6_frequencyEstimate 25 = .ok (.if_icmp .lt 8, 3) := by decide +kernel
theorem dX6_frequencyEstimate_28 : decode cX6_frequencyEstimate 28 = .ok (.iload_n 2, 1) := by decide +kernel
theorem dX6_frequencyEstimate_29 : decode cX6_frequencyEstimate 29 = .ok (.iload_n 3, 1) := by decide +kernel
theorem dX6_frequencyEstimate_30 : decode cX6_frequencyEstimate 30 = .ok (.if_icmp .ne 6, 3) := by decide +kernel
theorem dX6_frequencyEstimate_33 : decode cX6_frequencyEstimate 33 = .ok (.bipush (-3), 2) := by decide +kernel
theorem dX6_frequencyEstimate_35 : decode cX6_frequencyEstimate 35 = .ok (.ireturn, 1) := by decide +kernel
theorem dX6_frequencyEstimate_36 : decode cX6_frequencyEstimate 36 = .ok (.iload_n 2, 1) := by decide +kernel
theorem dX6_frequencyEstimate_37 : decode cX6_frequencyEstimate 37 = .ok (.iconst 2, 1) := by decide +kernel
theorem dX6_frequencyEstimate_38 : decode cX6_frequencyEstimate 38 = .ok (.iload_n 3, 1) := by decide +kernel
theorem dX6_frequencyEstimate_39 : decode cX6_frequencyEstimate 39 = .ok (.imul, 1) := by decide +kernel
theorem dX6_frequencyEstimate_40 : decode cX6_frequencyEstimate 40 = .ok (.if_icmp .ge 17, 3) := by decide +kernel
theorem dX6_frequencyEstimate_43 : decode cX6_frequencyEstimate 43 = .ok (.sipush 1124, 3) := by decide +kernel
theorem dX6_frequencyEstimate_46 : decode cX6_frequencyEstimate 46 = .ok (.iload_n 2, 1) := by decide +kernel
theorem dX6_frequencyEstimate_47 : decode cX6_frequencyEstimate 47 = .ok (.imul, 1) := by decide +kernel
theorem dX6_frequencyEstimate_48 : decode cX6_frequencyEstimate 48 = .ok (.sipush 1016, 3) := by decide +kernel
theorem dX6_frequencyEstimate_51 : decode cX6_frequencyEstimate 51 = .ok (.iload_n 3, 1) := by decide +kernel
theorem dX6_frequencyEstimate_52 : decode cX6_frequencyEstimate 52 = .ok (.imul, 1) := by decide +kernel
theorem dX6_frequencyEstimate_53 : decode cX6_frequencyEstimate 53 = .ok (.isub, 1) := by decide +kernel
theorem dX6_frequencyEstimate_54 : decode cX6_frequencyEstimate 54 = .ok (.goto 35, 3) := by decide +kernel
theorem dX6_frequencyEstimate_57 : decode cX6_frequencyEstimate 57 = .ok (.iload_n 2, 1) := by decide +kernel
theorem dX6_frequencyEstimate_58 : decode cX6_frequencyEstimate 58 = .ok (.iconst 3, 1) := by decide +kernel
theorem dX6_frequencyEstimate_59 : decode cX6_frequencyEstimate 59 = .ok (.iload_n 3, 1) := by decide +kernel
theorem dX6_frequencyEstimate_60 : decode cX6_frequencyEstimate 60 = .ok (.imul, 1) := by decide +kernel
theorem dX6_frequencyEstimate_61 : decode cX6_frequencyEstimate 61 = .ok (.if_icmp .ge 17, 3) := by decide +kernel
theorem dX6_frequencyEstimate_64 : decode cX6_frequencyEstimate 64 = .ok (.sipush 1069, 3) := by decide +kernel
theorem dX6_frequencyEstimate_67 : decode cX6_frequencyEstimate 67 = .ok (.iload_n 2, 1) := by decide +kernel
theorem dX6_frequencyEstimate_68 : decode cX6_frequencyEstimate 68 = .ok (.imul, 1) := by decide +kernel
theorem dX6_frequencyEstimate_69 : decode cX6_frequencyEstimate 69 = .ok (.sipush 843, 3) := by decide +kernel
theorem dX6_frequencyEstimate_72 : decode cX6_frequencyEstimate 72 = .ok (.iload_n 3, 1) := by decide +kernel
theorem dX6_frequencyEstimate_73 : decode cX6_frequencyEstimate 73 = .ok (.imul, 1) := by decide +kernel
theorem dX6_frequencyEstimate_74 : decode cX6_frequencyEstimate 74 = .ok (.isub, 1) := by decide +kernel
theorem dX6_frequencyEstimate_75 : decode cX6_frequencyEstimate 75 = .ok (.goto 14, 3) := by decide +kernel
theorem dX6_frequencyEstimate_78 : decode cX6_frequencyEstimate 78 = .ok (.sipush 1016, 3) := by decide +kernel
theorem dX6_frequencyEstimate_81 : decode cX6_frequencyEstimate 81 = .ok (.iload_n 2, 1) := by decide +kernel
theorem dX6_frequencyEstimate_82 : decode cX6_frequencyEstimate 82 = .ok (.imul, 1) := by decide +kernel
theorem dX6_frequencyEstimate_83 : decode cX6_frequencyEstimate 83 = .ok (.sipush 197, 3) := by decide +kernel
theorem dX6_frequencyEstimate_86 : decode cX6_frequencyEstimate 86 = .ok (.iload_n 3, 1) := by decide +kernel
theorem dX6_frequencyEstimate_87 : decode cX6_frequencyEstimate 87 = .ok (.imul, 1) := by decide +kernel
theorem dX6_frequencyEstimate_88 : decode cX6_frequencyEstimate 88 = .ok (.isub, 1) := by decide +kernel
theorem dX6_frequencyEstimate_89 : decode cX6_frequencyEstimate 89 = .ok (.istore 4, 2) := by decide +kernel
theorem dX6_frequencyEstimate_91 : decode cX6_frequencyEstimate 91 = .ok (.ldc 101, 2) := by decide +kernel
theorem dX6_frequencyEstimate_93 : decode cX6_frequencyEstimate 93 = .ok (.iload_n 2, 1) := by decide +kernel
theorem dX6_frequencyEstimate_94 : decode cX6_frequencyEstimate 94 = .ok (.imul, 1) := by decide +kernel
theorem dX6_frequencyEstimate_95 : decode cX6_frequencyEstimate 95 = .ok (.iload_n 3, 1) := by decide +kernel
theorem dX6_frequencyEstimate_96 : decode cX6_frequencyEstimate 96 = .ok (.imul, 1) := by decide +kernel
theorem dX6_frequencyEstimate_97 : decode cX6_frequencyEstimate 97 = .ok (.iload 4, 2) := by decide +kernel
theorem dX6_frequencyEstimate_99 : decode cX6_frequencyEstimate 99 = .ok (.idiv, 1) := by decide +kernel
theorem dX6_frequencyEstimate_100 : decode cX6_frequencyEstimate 100 = .ok (.ireturn, 1) := by decide +kernel
theorem dL_law_0 : decode cL_law 0 = .ok (.new 7, 3) := by decide +kernel
theorem dL_law_3 : decode cL_law 3 = .ok (.dup, 1) := by decide +kernel
theorem dL_law_4 : decode cL_law 4 = .ok (.invokespecial 9, 3) := by decide +kernel
theorem dL_law_7 : decode cL_law 7 = .ok (.astore_n 1, 1) := by decide +kernel
theorem dL_law_8 : decode cL_law 8 = .ok (.new 10, 3) := by decide +kernel
theorem dL_law_11 : decode cL_law 11 = .ok (.dup, 1) := by decide +kernel
theorem dL_law_12 : decode cL_law 12 = .ok (.invokespecial 12, 3) := by decide +kernel
theorem dL_law_15 : decode cL_law 15 = .ok (.astore_n 2, 1) := by decide +kernel
theorem dL_law_16 : decode cL_law 16 = .ok (.iconst 0, 1) := by decide +kernel
theorem dL_law_17 : decode cL_law 17 = .ok (.istore_n 3, 1) := by decide +kernel
theorem dL_law_18 : decode cL_law 18 = .ok (.iload_n 3, 1) := by decide +kernel
theorem dL_law_19 : decode cL_law 19 = .ok (.aload_n 0, 1) := by decide +kernel
theorem dL_law_20 : decode cL_law 20 = .ok (.arraylength, 1) := by decide +kernel
theorem dL_law_21 : decode cL_law 21 = .ok (.iconst 5, 1) := by decide +kernel
theorem dL_law_22 : decode cL_law 22 = .ok (.isub, 1) := by decide +kernel
theorem dL_law_23 : decode cL_law 23 = .ok (.if_icmp .gt 729, 3) := by decide +kernel
theorem dL_law_26 : decode cL_law 26 = .ok (.aload_n 0, 1) := by decide +kernel
theorem dL_law_27 : decode cL_law 27 = .ok (.iload_n 3, 1) := by decide +kernel
theorem dL_law_28 : decode cL_law 28 = .ok (.iaload, 1) := by decide +kernel
theorem dL_law_29 : decode cL_law 29 = .ok (.bipush 31, 2) := by decide +kernel
theorem dL_law_31 : decode cL_law 31 = .ok (.iand, 1) := by decide +kernel
theorem dL_law_32 : decode cL_law 32 = .ok (.tableswitch 714 0 23 #[112, 165, 188, 231, 274, 287, 320, 343, 376, 409, 422, 445, 458, 491, 504, 517, 540, 573, 586, 609, 632, 655, 678, 701], 112) := by decide +kernel
theorem dL_law_144 : decode cL_law 144 = .ok (.aload_n 1, 1) := by decide +kernel
theorem dL_law_145 : decode cL_law 145 = .ok (.aload_n 0, 1) := by decide +kernel
theorem dL_law_146 : decode cL_law 146 = .ok (.iload_n 3, 1) := by decide +kernel
theorem dL_law_147 : decode cL_law 147 = .ok (.iconst 1, 1) := by decide +kernel
theorem dL_law_148 : decode cL_law 148 = .ok (.iadd, 1) := by decide +kernel
theorem dL_law_149 : decode cL_law 149 = .ok (.iaload, 1) := by decide +kernel
theorem dL_law_150 : decode cL_law 150 = .ok (.aload_n 0, 1) := by decide +kernel
theorem dL_law_151 : decode cL_law 151 = .ok (.iload_n 3, 1) := by decide +kernel
theorem dL_law_152 : decode cL_law 152 = .ok (.iconst 2, 1) := by decide +kernel
theorem dL_law_153 : decode cL_law 153 = .ok (.iadd, 1) := by decide +kernel
theorem dL_law_154 : decode cL_law 154 = .ok (.iaload, 1) := by decide +kernel
theorem dL_law_155 : decode cL_law 155 = .ok (.aload_n 0, 1) := by decide +kernel
theorem dL_law_156 : decode cL_law 156 = .ok (.iload_n 3, 1) := by decide +kernel
theorem dL_law_157 : decode cL_law 157 = .ok (.iconst 3, 1) := by decide +kernel
theorem dL_law_158 : decode cL_law 158 = .ok (.iadd, 1) := by decide +kernel
theorem dL_law_159 : decode cL_law 159 = .ok (.iaload, 1) := by decide +kernel
theorem dL_law_160 : decode cL_law 160 = .ok (.aload_n 0, 1) := by decide +kernel
theorem dL_law_161 : decode cL_law 161 = .ok (.iload_n 3, 1) := by decide +kernel
theorem dL_law_162 : decode cL_law 162 = .ok (.iconst 4, 1) := by decide +kernel
theorem dL_law_163 : decode cL_law 163 = .ok (.iadd, 1) := by decide +kernel
theorem dL_law_164 : decode cL_law 164 = .ok (.iaload, 1) := by decide +kernel
theorem dL_law_165 : decode cL_law 165 = .ok (.invokevirtual 13, 3) := by decide +kernel
theorem dL_law_168 : decode cL_law 168 = .ok (.aload_n 2, 1) := by decide +kernel
theorem dL_law_169 : decode cL_law 169 = .ok (.aload_n 0, 1) := by decide +kernel
theorem dL_law_170 : decode cL_law 170 = .ok (.iload_n 3, 1) := by decide +kernel
theorem dL_law_171 : decode cL_law 171 = .ok (.iconst 1, 1) := by decide +kernel
theorem dL_law_172 : decode cL_law 172 = .ok (.iadd, 1) := by decide +kernel
theorem dL_law_173 : decode cL_law 173 = .ok (.iaload, 1) := by decide +kernel
theorem dL_law_174 : decode cL_law 174 = .ok (.aload_n 0, 1) := by decide +kernel
theorem dL_law_175 : decode cL_law 175 = .ok (.iload_n 3, 1) := by decide +kernel
theorem dL_law_176 : decode cL_law 176 = .ok (.iconst 2, 1) := by decide +kernel
theorem dL_law_177 : decode cL_law 177 = .ok (.iadd, 1) := by decide +kernel
theorem dL_law_178 : decode cL_law 178 = .ok (.iaload, 1) := by decide +kernel
theorem dL_law_179 : decode cL_law 179 = .ok (.aload_n 0, 1) := by decide +kernel
theorem dL_law_180 : decode cL_law 180 = .ok (.iload_n 3, 1) := by decide +kernel
theorem dL_law_181 : decode cL_law 181 = .ok (.iconst 3, 1) := by decide +kernel
theorem dL_law_182 : decode cL_law 182 = .ok (.iadd, 1) := by decide +kernel
theorem dL_law_183 : decode cL_law 183 = .ok (.iaload, 1) := by decide +kernel
theorem dL_law_184 : decode cL_law 184 = .ok (.aload_n 0, 1) := by decide +kernel
theorem dL_law_185 : decode cL_law 185 = .ok (.iload_n 3, 1) := by decide +kernel
theorem dL_law_186 : decode cL_law 186 = .ok (.iconst 4, 1) := by decide +kernel
theorem dL_law_187 : decode cL_law 187 = .ok (.iadd, 1) := by decide +kernel
theorem dL_law_188 : decode cL_law 188 = .ok (.iaload, 1) := by decide +kernel
theorem dL_law_189 : decode cL_law 189 = .ok (.invokevirtual 17, 3) := by decide +kernel
theorem dL_law_192 : decode cL_law 192 = .ok (.if_icmp .eq 554, 3) := by decide +kernel
theorem dL_law_195 : decode cL_law 195 = .ok (.iconst 0, 1) := by decide +kernel
theorem dL_law_196 : decode cL_law 196 = .ok (.ireturn, 1) := by decide +kernel
theorem dL_law_197 : decode cL_law 197 = .ok (.aload_n 1, 1) := by decide +kernel
theorem dL_law_198 : decode cL_law 198 = .ok (.aload_n 0, 1) := by decide +kernel
theorem dL_law_199 : decode cL_law 199 = .ok (.iload_n 3, 1) := by decide +kernel
theorem dL_law_200 : decode cL_law 200 = .ok (.iconst 1, 1) := by decide +kernel
theorem dL_law_201 : decode cL_law 201 = .ok (.iadd, 1) := by decide +kernel
theorem dL_law_202 : decode cL_law 202 = .ok (.iaload, 1) := by decide +kernel
theorem dL_law_203 : decode cL_law 203 = .ok (.invokevirtual 18, 3) := by decide +kernel
theorem dL_law_206 : decode cL_law 206 = .ok (.aload_n 2, 1) := by decide +kernel
theorem dL_law_207 : decode cL_law 207 = .ok (.aload_n 0, 1) := by decide +kernel
theorem dL_law_208 : decode cL_law 208 = .ok (.iload_n 3, 1) := by decide +kernel
theorem dL_law_209 : decode cL_law 209 = .ok (.iconst 1, 1) := by decide +kernel
theorem dL_law_210 : decode cL_law 210 = .ok (.iadd, 1) := by decide +kernel
theorem dL_law_211 : decode cL_law 211 = .ok (.iaload, 1) := by decide +kernel
theorem dL_law_212 : decode cL_law 212 = .ok (.invokevirtual 22, 3) := by decide +kernel
theorem dL_law_215 : decode cL_law 215 = .ok (.if_icmp .eq 531, 3) := by decide +kernel
theorem dL_law_218 : decode cL_law 218 = .ok (.iconst 0, 1) := by decide +kernel
theorem dL_law_219 : decode cL_law 219 = .ok (.ireturn, 1) := by decide +kernel
theorem dL_law_220 : decode cL_law 220 = .ok (.aload_n 1, 1) := by decide +kernel
theorem dL_law_221 : decode cL_law 221 = .ok (.aload_n 0, 1) := by decide +kernel
theorem dL_law_222 : decode cL_law 222 = .ok (.iload_n 3, 1) := by decide +kernel
theorem dL_law_223 : decode cL_law 223 = .ok (.iconst 1, 1) := by decide +kernel
theorem dL_law_224 : decode cL_law 224 = .ok (.iadd, 1) := by decide +kernel
theorem dL_law_225 : decode cL_law 225 = .ok (.iaload, 1) := by decide +kernel
theorem dL_law_226 : decode cL_law 226 = .ok (.aload_n 0, 1) := by decide +kernel
theorem dL_law_227 : decode cL_law 227 = .ok (.iload_n 3, 1) := by decide +kernel
theorem dL_law_228 : decode cL_law 228 = .ok (.iconst 2, 1) := by decide +kernel
theorem dL_law_229 : decode cL_law 229 = .ok (.iadd, 1) := by decide +kernel
theorem dL_law_230 : decode cL_law 230 = .ok (.iaload, 1) := by decide +kernel
theorem dL_law_231 : decode cL_law 231 = .ok (.aload_n 0, 1) := by decide +kernel
theorem dL_law_232 : decode cL_law 232 = .ok (.iload_n 3, 1) := by decide +kernel
theorem dL_law_233 : decode cL_law 233 = .ok (.iconst 3, 1) := by decide +kernel
theorem dL_law_234 : decode cL_law 234 = .ok (.iadd, 1) := by decide +kernel
theorem dL_law_235 : decode cL_law 235 = .ok (.iaload, 1) := by decide +kernel
theorem dL_law_236 : decode cL_law 236 = .ok (.invokevirtual 23, 3) := by decide +kernel
theorem dL_law_239 : decode cL_law 239 = .ok (.aload_n 2, 1) := by decide +kernel
theorem dL_law_240 : decode cL_law 240 = .ok (.aload_n 0, 1) := by decide +kernel
theorem dL_law_241 : decode cL_law 241 = .ok (.iload_n 3, 1) := by decide +kernel
theorem dL_law_242 : decode cL_law 242 = .ok (.iconst 1, 1) := by decide +kernel
theorem dL_law_243 : decode cL_law 243 = .ok (.iadd, 1) := by decide +kernel
theorem dL_law_244 : decode cL_law 244 = .ok (.iaload, 1) := by decide +kernel
theorem dL_law_245 : decode cL_law 245 = .ok (.aload_n 0, 1) := by decide +kernel
theorem dL_law_246 : decode cL_law 246 = .ok (.iload_n 3, 1) := by decide +kernel
theorem dL_law_247 : decode cL_law 247 = .ok (.iconst 2, 1) := by decide +kernel
theorem dL_law_248 : decode cL_law 248 = .ok (.iadd, 1) := by decide +kernel
theorem dL_law_249 : decode cL_law 249 = .ok (.iaload, 1) := by decide +kernel
theorem dL_law_250 : decode cL_law 250 = .ok (.aload_n 0, 1) := by decide +kernel
theorem dL_law_251 : decode cL_law 251 = .ok (.iload_n 3, 1) := by decide +kernel
theorem dL_law_252 : decode cL_law 252 = .ok (.iconst 3, 1) := by decide +kernel
theorem dL_law_253 : decode cL_law 253 = .ok (.iadd, 1) := by decide +kernel
theorem dL_law_254 : decode cL_law 254 = .ok (.iaload, 1) := by decide +kernel
theorem dL_law_255 : decode cL_law 255 = .ok (.invokevirtual 27, 3) := by decide +kernel
theorem dL_law_258 : decode cL_law 258 = .ok (.if_icmp .eq 488, 3) := by decide +kernel
theorem dL_law_261 : decode cL_law 261 = .ok (.iconst 0, 1) := by decide +kernel
theorem dL_law_262 : decode cL_law 262 = .ok (.ireturn, 1) := by decide +kernel
theorem dL_law_263 : decode cL_law 263 = .ok (.aload_n 1, 1) := by decide +kernel
theorem dL_law_264 : decode cL_law 264 = .ok (.aload_n 0, 1) := by decide +kernel
theorem dL_law_265 : decode cL_law 265 = .ok (.iload_n 3, 1) := by decide +kernel
theorem dL_law_266 : decode cL_law 266 = .ok (.iconst 1, 1) := by decide +kernel
theorem dL_law_267 : decode cL_law 267 = .ok (.iadd, 1) := by decide +kernel
theorem dL_law_268 : decode cL_law 268 = .ok (.iaload, 1) := by decide +kernel
theorem dL_law_269 : decode cL_law 269 = .ok (.aload_n 0, 1) := by decide +kernel
theorem dL_law_270 : decode cL_law 270 = .ok (.iload_n 3, 1) := by decide +kernel
theorem dL_law_271 : decode cL_law 271 = .ok (.iconst 2, 1) := by decide +kernel
theorem dL_law_272 : decode cL_law 272 = .ok (.iadd, 1) := by decide +kernel
theorem dL_law_273 : decode cL_law 273 = .ok (.iaload, 1) := by decide +kernel
theorem dL_law_274 : decode cL_law 274 = .ok (.aload_n 0, 1) := by decide +kernel
theorem dL_law_275 : decode cL_law 275 = .ok (.iload_n 3, 1) := by decide +kernel
theorem dL_law_276 : decode cL_law 276 = .ok (.iconst 3, 1) := by decide +kernel
theorem dL_law_277 : decode cL_law 277 = .ok (.iadd, 1) := by decide +kernel
theorem dL_law_278 : decode cL_law 278 = .ok (.iaload, 1) := by decide +kernel
theorem dL_law_279 : decode cL_law 279 = .ok (.invokevirtual 28, 3) := by decide +kernel
theorem dL_law_282 : decode cL_law 282 = .ok (.aload_n 2, 1) := by decide +kernel
theorem dL_law_283 : decode cL_law 283 = .ok (.aload_n 0, 1) := by decide +kernel
theorem dL_law_284 : decode cL_law 284 = .ok (.iload_n 3, 1) := by decide +kernel
theorem dL_law_285 : decode cL_law 285 = .ok (.iconst 1, 1) := by decide +kernel
theorem dL_law_286 : decode cL_law 286 = .ok (.iadd, 1) := by decide +kernel
theorem dL_law_287 : decode cL_law 287 = .ok (.iaload, 1) := by decide +kernel
theorem dL_law_288 : decode cL_law 288 = .ok (.aload_n 0, 1) := by decide +kernel
theorem dL_law_289 : decode cL_law 289 = .ok (.iload_n 3, 1) := by decide +kernel
theorem dL_law_290 : decode cL_law 290 = .ok (.iconst 2, 1) := by decide +kernel
theorem dL_law_291 : decode cL_law 291 = .ok (.iadd, 1) := by decide +kernel
theorem dL_law_292 : decode cL_law 292 = .ok (.iaload, 1) := by decide +kernel
theorem dL_law_293 : decode cL_law 293 = .ok (.aload_n 0, 1) := by decide +kernel
theorem dL_law_294 : decode cL_law 294 = .ok (.iload_n 3, 1) := by decide +kernel
theorem dL_law_295 : decode cL_law 295 = .ok (.iconst 3, 1) := by decide +kernel
theorem dL_law_296 : decode cL_law 296 = .ok (.iadd, 1) := by decide +kernel
theorem dL_law_297 : decode cL_law 297 = .ok (.iaload, 1) := by decide +kernel
theorem dL_law_298 : decode cL_law 298 = .ok (.invokevirtual 31, 3) := by decide +kernel
theorem dL_law_301 : decode cL_law 301 = .ok (.if_icmp .eq 445, 3) := by decide +kernel
theorem dL_law_304 : decode cL_law 304 = .ok (.iconst 0, 1) := by decide +kernel
theorem dL_law_305 : decode cL_law 305 = .ok (.ireturn, 1) := by decide +kernel
theorem dL_law_306 : decode cL_law 306 = .ok (.aload_n 1, 1) := by decide +kernel
theorem dL_law_307 : decode cL_law 307 = .ok (.invokevirtual 32, 3) := by decide +kernel
theorem dL_law_310 : decode cL_law 310 = .ok (.aload_n 2, 1) := by decide +kernel
theorem dL_law_311 : decode cL_law 311 = .ok (.invokevirtual 36, 3) := by decide +kernel
theorem dL_law_314 : decode cL_law 314 = .ok (.if_icmp .eq 432, 3) := by decide +kernel
theorem dL_law_317 : decode cL_law 317 = .ok (.iconst 0, 1) := by decide +kernel
theorem dL_law_318 : decode cL_law 318 = .ok (.ireturn, 1) := by decide +kernel
theorem dL_law_319 : decode cL_law 319 = .ok (.aload_n 1, 1) := by decide +kernel
theorem dL_law_320 : decode cL_law 320 = .ok (.aload_n 0, 1) := by decide +kernel
theorem dL_law_321 : decode cL_law 321 = .ok (.iload_n 3, 1) := by decide +kernel
theorem dL_law_322 : decode cL_law 322 = .ok (.iconst 1, 1) := by decide +kernel
theorem dL_law_323 : decode cL_law 323 = .ok (.iadd, 1) := by decide +kernel
theorem dL_law_324 : decode cL_law 324 = .ok (.iaload, 1) := by decide +kernel
theorem dL_law_325 : decode cL_law 325 = .ok (.aload_n 0, 1) := by decide +kernel
theorem dL_law_326 : decode cL_law 326 = .ok (.iload_n 3, 1) := by decide +kernel
theorem dL_law_327 : decode cL_law 327 = .ok (.iconst 2, 1) := by decide +kernel
theorem dL_law_328 : decode cL_law 328 = .ok (.iadd, 1) := by decide +kernel
theorem dL_law_329 : decode cL_law 329 = .ok (.iaload, 1) := by decide +kernel
theorem dL_law_330 : decode cL_law 330 = .ok (.invokevirtual 37, 3) := by decide +kernel
theorem dL_law_333 : decode cL_law 333 = .ok (.aload_n 2, 1) := by decide +kernel
theorem dL_law_334 : decode cL_law 334 = .ok (.aload_n 0, 1) := by decide +kernel
theorem dL_law_335 : decode cL_law 335 = .ok (.iload_n 3, 1) := by decide +kernel
theorem dL_law_336 : decode cL_law 336 = .ok (.iconst 1, 1) := by decide +kernel
theorem dL_law_337 : decode cL_law 337 = .ok (.iadd, 1) := by decide +kernel
theorem dL_law_338 : decode cL_law 338 = .ok (.iaload, 1) := by decide +kernel
theorem dL_law_339 : decode cL_law 339 = .ok (.aload_n 0, 1) := by decide +kernel
theorem dL_law_340 : decode cL_law 340 = .ok (.iload_n 3, 1) := by decide +kernel
theorem dL_law_341 : decode cL_law 341 = .ok (.iconst 2, 1) := by decide +kernel
theorem dL_law_342 : decode cL_law 342 = .ok (.iadd, 1) := by decide +kernel
theorem dL_law_343 : decode cL_law 343 = .ok (.iaload, 1) := by decide +kernel
theorem dL_law_344 : decode cL_law 344 = .ok (.invokevirtual 41, 3) := by decide +kernel
theorem dL_law_347 : decode cL_law 347 = .ok (.if_icmp .eq 399, 3) := by decide +kernel
theorem dL_law_350 : decode cL_law 350 = .ok (.iconst 0, 1) := by decide +kernel
theorem dL_law_351 : decode cL_law 351 = .ok (.ireturn, 1) := by decide +kernel
theorem dL_law_352 : decode cL_law 352 = .ok (.aload_n 1, 1) := by decide +kernel
theorem dL_law_353 : decode cL_law 353 = .ok (.aload_n 0, 1) := by decide +kernel
theorem dL_law_354 : decode cL_law 354 = .ok (.iload_n 3, 1) := by decide +kernel
theorem dL_law_355 : decode cL_law 355 = .ok (.iconst 1, 1) := by decide +kernel
theorem dL_law_356 : decode cL_law 356 = .ok (.iadd, 1) := by decide +kernel
theorem dL_law_357 : decode cL_law 357 = .ok (.iaload, 1) := by decide +kernel
theorem dL_law_358 : decode cL_law 358 = .ok (.invokevirtual 42, 3) := by decide +kernel
theorem dL_law_361 : decode cL_law 361 = .ok (.aload_n 2, 1) := by decide +kernel
theorem dL_law_362 : decode cL_law 362 = .ok (.aload_n 0, 1) := by decide +kernel
theorem dL_law_363 : decode cL_law 363 = .ok (.iload_n 3, 1) := by decide +kernel
theorem dL_law_364 : decode cL_law 364 = .ok (.iconst 1, 1) := by decide +kernel
theorem dL_law_365 : decode cL_law 365 = .ok (.iadd, 1) := by decide +kernel
theorem dL_law_366 : decode cL_law 366 = .ok (.iaload, 1) := by decide +kernel
theorem dL_law_367 : decode cL_law 367 = .ok (.invokevirtual 45, 3) := by decide +kernel
theorem dL_law_370 : decode cL_law 370 = .ok (.if_icmp .eq 376, 3) := by decide +kernel
theorem dL_law_373 : decode cL_law 373 = .ok (.iconst 0, 1) := by decide +kernel
theorem dL_law_374 : decode cL_law 374 = .ok (.ireturn, 1) := by decide +kernel
theorem dL_law_375 : decode cL_law 375 = .ok (.aload_n 1, 1) := by decide +kernel
theorem dL_law_376 : decode cL_law 376 = .ok (.aload_n 0, 1) := by decide +kernel
theorem dL_law_377 : decode cL_law 377 = .ok (.iload_n 3, 1) := by decide +kernel
theorem dL_law_378 : decode cL_law 378 = .ok (.iconst 1, 1) := by decide +kernel
theorem dL_law_379 : decode cL_law 379 = .ok (.iadd, 1) := by decide +kernel
theorem dL_law_380 : decode cL_law 380 = .ok (.iaload, 1) := by decide +kernel
theorem dL_law_381 : decode cL_law 381 = .ok (.aload_n 0, 1) := by decide +kernel
theorem dL_law_382 : decode cL_law 382 = .ok (.iload_n 3, 1) := by decide +kernel
theorem dL_law_383 : decode cL_law 383 = .ok (.iconst 2, 1) := by decide +kernel
theorem dL_law_384 : decode cL_law 384 = .ok (.iadd, 1) := by decide +kernel
theorem dL_law_385 : decode cL_law 385 = .ok (.iaload, 1) := by decide +kernel
theorem dL_law_386 : decode cL_law 386 = .ok (.invokevirtual 46, 3) := by decide +kernel
theorem dL_law_389 : decode cL_law 389 = .ok (.aload_n 2, 1) := by decide +kernel
theorem dL_law_390 : decode cL_law 390 = .ok (.aload_n 0, 1) := by decide +kernel
theorem dL_law_391 : decode cL_law 391 = .ok (.iload_n 3, 1) := by decide +kernel
theorem dL_law_392 : decode cL_law 392 = .ok (.iconst 1, 1) := by decide +kernel
theorem dL_law_393 : decode cL_law 393 = .ok (.iadd, 1) := by decide +kernel
theorem dL_law_394 : decode cL_law 394 = .ok (.iaload, 1) := by decide +kernel
theorem dL_law_395 : decode cL_law 395 = .ok (.aload_n 0, 1) := by decide +kernel
theorem dL_law_396 : decode cL_law 396 = .ok (.iload_n 3, 1) := by decide +kernel
theorem dL_law_397 : decode cL_law 397 = .ok (.iconst 2, 1) := by decide +kernel
theorem dL_law_398 : decode cL_law 398 = .ok (.iadd, 1) := by decide +kernel
theorem dL_law_399 : decode cL_law 399 = .ok (.iaload, 1) := by decide +kernel
theorem dL_law_400 : decode cL_law 400 = .ok (.invokevirtual 49, 3) := by decide +kernel
theorem dL_law_403 : decode cL_law 403 = .ok (.if_icmp .eq 343, 3) := by decide +kernel
theorem dL_law_406 : decode cL_law 406 = .ok (.iconst 0, 1) := by decide +kernel
theorem dL_law_407 : decode cL_law 407 = .ok (.ireturn, 1) := by decide +kernel
theorem dL_law_408 : decode cL_law 408 = .ok (.aload_n 1, 1) := by decide +kernel
theorem dL_law_409 : decode cL_law 409 = .ok (.aload_n 0, 1) := by decide +kernel
theorem dL_law_410 : decode cL_law 410 = .ok (.iload_n 3, 1) := by decide +kernel
theorem dL_law_411 : decode cL_law 411 = .ok (.iconst 1, 1) := by decide +kernel
theorem dL_law_412 : decode cL_law 412 = .ok (.iadd, 1) := by decide +kernel
theorem dL_law_413 : decode cL_law 413 = .ok (.iaload, 1) := by decide +kernel
theorem dL_law_414 : decode cL_law 414 = .ok (.aload_n 0, 1) := by decide +kernel
theorem dL_law_415 : decode cL_law 415 = .ok (.iload_n 3, 1) := by decide +kernel
theorem dL_law_416 : decode cL_law 416 = .ok (.iconst 2, 1) := by decide +kernel
theorem dL_law_417 : decode cL_law 417 = .ok (.iadd, 1) := by decide +kernel
theorem dL_law_418 : decode cL_law 418 = .ok (.iaload, 1) := by decide +kernel
theorem dL_law_419 : decode cL_law 419 = .ok (.invokevirtual 50, 3) := by decide +kernel
theorem dL_law_422 : decode cL_law 422 = .ok (.aload_n 2, 1) := by decide +kernel
theorem dL_law_423 : decode cL_law 423 = .ok (.aload_n 0, 1) := by decide +kernel
theorem dL_law_424 : decode cL_law 424 = .ok (.iload_n 3, 1) := by decide +kernel
theorem dL_law_425 : decode cL_law 425 = .ok (.iconst 1, 1) := by decide +kernel
theorem dL_law_426 : decode cL_law 426 = .ok (.iadd, 1) := by decide +kernel
theorem dL_law_427 : decode cL_law 427 = .ok (.iaload, 1) := by decide +kernel
theorem dL_law_428 : decode cL_law 428 = .ok (.aload_n 0, 1) := by decide +kernel
theorem dL_law_429 : decode cL_law 429 = .ok (.iload_n 3, 1) := by decide +kernel
theorem dL_law_430 : decode cL_law 430 = .ok (.iconst 2, 1) := by decide +kernel
theorem dL_law_431 : decode cL_law 431 = .ok (.iadd, 1) := by decide +kernel
theorem dL_law_432 : decode cL_law 432 = .ok (.iaload, 1) := by decide +kernel
theorem dL_law_433 : decode cL_law 433 = .ok (.invokevirtual 53, 3) := by decide +kernel
theorem dL_law_436 : decode cL_law 436 = .ok (.if_icmp .eq 310, 3) := by decide +kernel
theorem dL_law_439 : decode cL_law 439 = .ok (.iconst 0, 1) := by decide +kernel
theorem dL_law_440 : decode cL_law 440 = .ok (.ireturn, 1) := by decide +kernel
theorem dL_law_441 : decode cL_law 441 = .ok (.aload_n 1, 1) := by decide +kernel
theorem dL_law_442 : decode cL_law 442 = .ok (.invokevirtual 54, 3) := by decide +kernel
theorem dL_law_445 : decode cL_law 445 = .ok (.aload_n 2, 1) := by decide +kernel
theorem dL_law_446 : decode cL_law 446 = .ok (.invokevirtual 57, 3) := by decide +kernel
theorem dL_law_449 : decode cL_law 449 = .ok (.if_icmp .eq 297, 3) := by decide +kernel
theorem dL_law_452 : decode cL_law 452 = .ok (.iconst 0, 1) := by decide +kernel
theorem dL_law_453 : decode cL_law 453 = .ok (.ireturn, 1) := by decide +kernel
theorem dL_law_454 : decode cL_law 454 = .ok (.aload_n 1, 1) := by decide +kernel
theorem dL_law_455 : decode cL_law 455 = .ok (.aload_n 0, 1) := by decide +kernel
theorem dL_law_456 : decode cL_law 456 = .ok (.iload_n 3, 1) := by decide +kernel
theorem dL_law_457 : decode cL_law 457 = .ok (.iconst 1, 1) := by decide +kernel
theorem dL_law_458 : decode cL_law 458 = .ok (.iadd, 1) := by decide +kernel
theorem dL_law_459 : decode cL_law 459 = .ok (.iaload, 1) := by decide +kernel
theorem dL_law_460 : decode cL_law 460 = .ok (.invokevirtual 58, 3) := by decide +kernel
theorem dL_law_463 : decode cL_law 463 = .ok (.aload_n 2, 1) := by decide +kernel
theorem dL_law_464 : decode cL_law 464 = .ok (.aload_n 0, 1) := by decide +kernel
theorem dL_law_465 : decode cL_law 465 = .ok (.iload_n 3, 1) := by decide +kernel
theorem dL_law_466 : decode cL_law 466 = .ok (.iconst 1, 1) := by decide +kernel
theorem dL_law_467 : decode cL_law 467 = .ok (.iadd, 1) := by decide +kernel
theorem dL_law_468 : decode cL_law 468 = .ok (.iaload, 1) := by decide +kernel
theorem dL_law_469 : decode cL_law 469 = .ok (.invokevirtual 61, 3) := by decide +kernel
theorem dL_law_472 : decode cL_law 472 = .ok (.if_icmp .eq 274, 3) := by decide +kernel
theorem dL_law_475 : decode cL_law 475 = .ok (.iconst 0, 1) := by decide +kernel
theorem dL_law_476 : decode cL_law 476 = .ok (.ireturn, 1) := by decide +kernel
theorem dL_law_477 : decode cL_law 477 = .ok (.aload_n 1, 1) := by decide +kernel
theorem dL_law_478 : decode cL_law 478 = .ok (.invokevirtual 62, 3) := by decide +kernel
theorem dL_law_481 : decode cL_law 481 = .ok (.aload_n 2, 1) := by decide +kernel
theorem dL_law_482 : decode cL_law 482 = .ok (.invokevirtual 65, 3) := by decide +kernel
theorem dL_law_485 : decode cL_law 485 = .ok (.if_icmp .eq 261, 3) := by decide +kernel
theorem dL_law_488 : decode cL_law 488 = .ok (.iconst 0, 1) := by decide +kernel
theorem dL_law_489 : decode cL_law 489 = .ok (.ireturn, 1) := by decide +kernel
theorem dL_law_490 : decode cL_law 490 = .ok (.aload_n 1, 1) := by decide +kernel
theorem dL_law_491 : decode cL_law 491 = .ok (.aload_n 0, 1) := by decide +kernel
theorem dL_law_492 : decode cL_law 492 = .ok (.iload_n 3, 1) := by decide +kernel
theorem dL_law_493 : decode cL_law 493 = .ok (.iconst 1, 1) := by decide +kernel
theorem dL_law_494 : decode cL_law 494 = .ok (.iadd, 1) := by decide +kernel
theorem dL_law_495 : decode cL_law 495 = .ok (.iaload, 1) := by decide +kernel
theorem dL_law_496 : decode cL_law 496 = .ok (.aload_n 0, 1) := by decide +kernel
theorem dL_law_497 : decode cL_law 497 = .ok (.iload_n 3, 1) := by decide +kernel
theorem dL_law_498 : decode cL_law 498 = .ok (.iconst 2, 1) := by decide +kernel
theorem dL_law_499 : decode cL_law 499 = .ok (.iadd, 1) := by decide +kernel
theorem dL_law_500 : decode cL_law 500 = .ok (.iaload, 1) := by decide +kernel
theorem dL_law_501 : decode cL_law 501 = .ok (.invokevirtual 66, 3) := by decide +kernel
theorem dL_law_504 : decode cL_law 504 = .ok (.aload_n 2, 1) := by decide +kernel
theorem dL_law_505 : decode cL_law 505 = .ok (.aload_n 0, 1) := by decide +kernel
theorem dL_law_506 : decode cL_law 506 = .ok (.iload_n 3, 1) := by decide +kernel
theorem dL_law_507 : decode cL_law 507 = .ok (.iconst 1, 1) := by decide +kernel
theorem dL_law_508 : decode cL_law 508 = .ok (.iadd, 1) := by decide +kernel
theorem dL_law_509 : decode cL_law 509 = .ok (.iaload, 1) := by decide +kernel
theorem dL_law_510 : decode cL_law 510 = .ok (.aload_n 0, 1) := by decide +kernel
theorem dL_law_511 : decode cL_law 511 = .ok (.iload_n 3, 1) := by decide +kernel
theorem dL_law_512 : decode cL_law 512 = .ok (.iconst 2, 1) := by decide +kernel
theorem dL_law_513 : decode cL_law 513 = .ok (.iadd, 1) := by decide +kernel
theorem dL_law_514 : decode cL_law 514 = .ok (.iaload, 1) := by decide +kernel
theorem dL_law_515 : decode cL_law 515 = .ok (.invokevirtual 69, 3) := by decide +kernel
theorem dL_law_518 : decode cL_law 518 = .ok (.if_icmp .eq 228, 3) := by decide +kernel
theorem dL_law_521 : decode cL_law 521 = .ok (.iconst 0, 1) := by decide +kernel
theorem dL_law_522 : decode cL_law 522 = .ok (.ireturn, 1) := by decide +kernel
theorem dL_law_523 : decode cL_law 523 = .ok (.aload_n 1, 1) := by decide +kernel
theorem dL_law_524 : decode cL_law 524 = .ok (.invokevirtual 70, 3) := by decide +kernel
theorem dL_law_527 : decode cL_law 527 = .ok (.aload_n 2, 1) := by decide +kernel
theorem dL_law_528 : decode cL_law 528 = .ok (.invokevirtual 73, 3) := by decide +kernel
theorem dL_law_531 : decode cL_law 531 = .ok (.if_icmp .eq 215, 3) := by decide +kernel
theorem dL_law_534 : decode cL_law 534 = .ok (.iconst 0, 1) := by decide +kernel
theorem dL_law_535 : decode cL_law 535 = .ok (.ireturn, 1) := by decide +kernel
theorem dL_law_536 : decode cL_law 536 = .ok (.aload_n 1, 1) := by decide +kernel
theorem dL_law_537 : decode cL_law 537 = .ok (.invokevirtual 74, 3) := by decide +kernel
theorem dL_law_540 : decode cL_law 540 = .ok (.aload_n 2, 1) := by decide +kernel
theorem dL_law_541 : decode cL_law 541 = .ok (.invokevirtual 77, 3) := by decide +kernel
theorem dL_law_544 : decode cL_law 544 = .ok (.if_icmp .eq 202, 3) := by decide +kernel
theorem dL_law_547 : decode cL_law 547 = .ok (.iconst 0, 1) := by decide +kernel
theorem dL_law_548 : decode cL_law 548 = .ok (.ireturn, 1) := by decide +kernel
theorem dL_law_549 : decode cL_law 549 = .ok (.aload_n 1, 1) := by decide +kernel
theorem dL_law_550 : decode cL_law 550 = .ok (.aload_n 0, 1) := by decide +kernel
theorem dL_law_551 : decode cL_law 551 = .ok (.iload_n 3, 1) := by decide +kernel
theorem dL_law_552 : decode cL_law 552 = .ok (.iconst 1, 1) := by decide +kernel
theorem dL_law_553 : decode cL_law 553 = .ok (.iadd, 1) := by decide +kernel
theorem dL_law_554 : decode cL_law 554 = .ok (.iaload, 1) := by decide +kernel
theorem dL_law_555 : decode cL_law 555 = .ok (.invokevirtual 78, 3) := by decide +kernel
theorem dL_law_558 : decode cL_law 558 = .ok (.aload_n 2, 1) := by decide +kernel
theorem dL_law_559 : decode cL_law 559 = .ok (.aload_n 0, 1) := by decide +kernel
theorem dL_law_560 : decode cL_law 560 = .ok (.iload_n 3, 1) := by decide +kernel
theorem dL_law_561 : decode cL_law 561 = .ok (.iconst 1, 1) := by decide +kernel
theorem dL_law_562 : decode cL_law 562 = .ok (.iadd, 1) := by decide +kernel
theorem dL_law_563 : decode cL_law 563 = .ok (.iaload, 1) := by decide +kernel
theorem dL_law_564 : decode cL_law 564 = .ok (.invokevirtual 81, 3) := by decide +kernel
theorem dL_law_567 : decode cL_law 567 = .ok (.if_icmp .eq 179, 3) := by decide +kernel
theorem dL_law_570 : decode cL_law 570 = .ok (.iconst 0, 1) := by decide +kernel
theorem dL_law_571 : decode cL_law 571 = .ok (.ireturn, 1) := by decide +kernel
theorem dL_law_572 : decode cL_law 572 = .ok (.aload_n 1, 1) := by decide +kernel
theorem dL_law_573 : decode cL_law 573 = .ok (.aload_n 0, 1) := by decide +kernel
theorem dL_law_574 : decode cL_law 574 = .ok (.iload_n 3, 1) := by decide +kernel
theorem dL_law_575 : decode cL_law 575 = .ok (.iconst 1, 1) := by decide +kernel
theorem dL_law_576 : decode cL_law 576 = .ok (.iadd, 1) := by decide +kernel
theorem dL_law_577 : decode cL_law 577 = .ok (.iaload, 1) := by decide +kernel
theorem dL_law_578 : decode cL_law 578 = .ok (.aload_n 0, 1) := by decide +kernel
theorem dL_law_579 : decode cL_law 579 = .ok (.iload_n 3, 1) := by decide +kernel
theorem dL_law_580 : decode cL_law 580 = .ok (.iconst 2, 1) := by decide +kernel
theorem dL_law_581 : decode cL_law 581 = .ok (.iadd, 1) := by decide +kernel
theorem dL_law_582 : decode cL_law 582 = .ok (.iaload, 1) := by decide +kernel
theorem dL_law_583 : decode cL_law 583 = .ok (.invokevirtual 82, 3) := by decide +kernel
theorem dL_law_586 : decode cL_law 586 = .ok (.aload_n 2, 1) := by decide +kernel
theorem dL_law_587 : decode cL_law 587 = .ok (.aload_n 0, 1) := by decide +kernel
theorem dL_law_588 : decode cL_law 588 = .ok (.iload_n 3, 1) := by decide +kernel
theorem dL_law_589 : decode cL_law 589 = .ok (.iconst 1, 1) := by decide +kernel
theorem dL_law_590 : decode cL_law 590 = .ok (.iadd, 1) := by decide +kernel
theorem dL_law_591 : decode cL_law 591 = .ok (.iaload, 1) := by decide +kernel
theorem dL_law_592 : decode cL_law 592 = .ok (.aload_n 0, 1) := by decide +kernel
theorem dL_law_593 : decode cL_law 593 = .ok (.iload_n 3, 1) := by decide +kernel
theorem dL_law_594 : decode cL_law 594 = .ok (.iconst 2, 1) := by decide +kernel
theorem dL_law_595 : decode cL_law 595 = .ok (.iadd, 1) := by decide +kernel
theorem dL_law_596 : decode cL_law 596 = .ok (.iaload, 1) := by decide +kernel
theorem dL_law_597 : decode cL_law 597 = .ok (.invokevirtual 85, 3) := by decide +kernel
theorem dL_law_600 : decode cL_law 600 = .ok (.if_icmp .eq 146, 3) := by decide +kernel
theorem dL_law_603 : decode cL_law 603 = .ok (.iconst 0, 1) := by decide +kernel
theorem dL_law_604 : decode cL_law 604 = .ok (.ireturn, 1) := by decide +kernel
theorem dL_law_605 : decode cL_law 605 = .ok (.aload_n 1, 1) := by decide +kernel
theorem dL_law_606 : decode cL_law 606 = .ok (.invokevirtual 86, 3) := by decide +kernel
theorem dL_law_609 : decode cL_law 609 = .ok (.aload_n 2, 1) := by decide +kernel
theorem dL_law_610 : decode cL_law 610 = .ok (.invokevirtual 89, 3) := by decide +kernel
theorem dL_law_613 : decode cL_law 613 = .ok (.if_icmp .eq 133, 3) := by decide +kernel
theorem dL_law_616 : decode cL_law 616 = .ok (.iconst 0, 1) := by decide +kernel
theorem dL_law_617 : decode cL_law 617 = .ok (.ireturn, 1) := by decide +kernel
theorem dL_law_618 : decode cL_law 618 = .ok (.aload_n 1, 1) := by decide +kernel
theorem dL_law_619 : decode cL_law 619 = .ok (.aload_n 0, 1) := by decide +kernel
theorem dL_law_620 : decode cL_law 620 = .ok (.iload_n 3, 1) := by decide +kernel
theorem dL_law_621 : decode cL_law 621 = .ok (.iconst 1, 1) := by decide +kernel
theorem dL_law_622 : decode cL_law 622 = .ok (.iadd, 1) := by decide +kernel
theorem dL_law_623 : decode cL_law 623 = .ok (.iaload, 1) := by decide +kernel
theorem dL_law_624 : decode cL_law 624 = .ok (.invokevirtual 90, 3) := by decide +kernel
theorem dL_law_627 : decode cL_law 627 = .ok (.aload_n 2, 1) := by decide +kernel
theorem dL_law_628 : decode cL_law 628 = .ok (.aload_n 0, 1) := by decide +kernel
theorem dL_law_629 : decode cL_law 629 = .ok (.iload_n 3, 1) := by decide +kernel
theorem dL_law_630 : decode cL_law 630 = .ok (.iconst 1, 1) := by decide +kernel
theorem dL_law_631 : decode cL_law 631 = .ok (.iadd, 1) := by decide +kernel
theorem dL_law_632 : decode cL_law 632 = .ok (.iaload, 1) := by decide +kernel
theorem dL_law_633 : decode cL_law 633 = .ok (.invokevirtual 93, 3) := by decide +kernel
theorem dL_law_636 : decode cL_law 636 = .ok (.if_icmp .eq 110, 3) := by decide +kernel
theorem dL_law_639 : decode cL_law 639 = .ok (.iconst 0, 1) := by decide +kernel
theorem dL_law_640 : decode cL_law 640 = .ok (.ireturn, 1) := by decide +kernel
theorem dL_law_641 : decode cL_law 641 = .ok (.aload_n 1, 1) := by decide +kernel
theorem dL_law_642 : decode cL_law 642 = .ok (.aload_n 0, 1) := by decide +kernel
theorem dL_law_643 : decode cL_law 643 = .ok (.iload_n 3, 1) := by decide +kernel
theorem dL_law_644 : decode cL_law 644 = .ok (.iconst 1, 1) := by decide +kernel
theorem dL_law_645 : decode cL_law 645 = .ok (.iadd, 1) := by decide +kernel
theorem dL_law_646 : decode cL_law 646 = .ok (.iaload, 1) := by decide +kernel
theorem dL_law_647 : decode cL_law 647 = .ok (.invokevirtual 94, 3) := by decide +kernel
theorem dL_law_650 : decode cL_law 650 = .ok (.aload_n 2, 1) := by decide +kernel
theorem dL_law_651 : decode cL_law 651 = .ok (.aload_n 0, 1) := by decide +kernel
theorem dL_law_652 : decode cL_law 652 = .ok (.iload_n 3, 1) := by decide +kernel
theorem dL_law_653 : decode cL_law 653 = .ok (.iconst 1, 1) := by decide +kernel
theorem dL_law_654 : decode cL_law 654 = .ok (.iadd, 1) := by decide +kernel
theorem dL_law_655 : decode cL_law 655 = .ok (.iaload, 1) := by decide +kernel
theorem dL_law_656 : decode cL_law 656 = .ok (.invokevirtual 97, 3) := by decide +kernel
theorem dL_law_659 : decode cL_law 659 = .ok (.if_icmp .eq 87, 3) := by decide +kernel
theorem dL_law_662 : decode cL_law 662 = .ok (.iconst 0, 1) := by decide +kernel
theorem dL_law_663 : decode cL_law 663 = .ok (.ireturn, 1) := by decide +kernel
theorem dL_law_664 : decode cL_law 664 = .ok (.aload_n 1, 1) := by decide +kernel
theorem dL_law_665 : decode cL_law 665 = .ok (.aload_n 0, 1) := by decide +kernel
theorem dL_law_666 : decode cL_law 666 = .ok (.iload_n 3, 1) := by decide +kernel
theorem dL_law_667 : decode cL_law 667 = .ok (.iconst 1, 1) := by decide +kernel
theorem dL_law_668 : decode cL_law 668 = .ok (.iadd, 1) := by decide +kernel
theorem dL_law_669 : decode cL_law 669 = .ok (.iaload, 1) := by decide +kernel
theorem dL_law_670 : decode cL_law 670 = .ok (.invokevirtual 98, 3) := by decide +kernel
theorem dL_law_673 : decode cL_law 673 = .ok (.aload_n 2, 1) := by decide +kernel
theorem dL_law_674 : decode cL_law 674 = .ok (.aload_n 0, 1) := by decide +kernel
theorem dL_law_675 : decode cL_law 675 = .ok (.iload_n 3, 1) := by decide +kernel
theorem dL_law_676 : decode cL_law 676 = .ok (.iconst 1, 1) := by decide +kernel
theorem dL_law_677 : decode cL_law 677 = .ok (.iadd, 1) := by decide +kernel
theorem dL_law_678 : decode cL_law 678 = .ok (.iaload, 1) := by decide +kernel
theorem dL_law_679 : decode cL_law 679 = .ok (.invokevirtual 101, 3) := by decide +kernel
theorem dL_law_682 : decode cL_law 682 = .ok (.if_icmp .eq 64, 3) := by decide +kernel
theorem dL_law_685 : decode cL_law 685 = .ok (.iconst 0, 1) := by decide +kernel
theorem dL_law_686 : decode cL_law 686 = .ok (.ireturn, 1) := by decide +kernel
theorem dL_law_687 : decode cL_law 687 = .ok (.aload_n 1, 1) := by decide +kernel
theorem dL_law_688 : decode cL_law 688 = .ok (.aload_n 0, 1) := by decide +kernel
theorem dL_law_689 : decode cL_law 689 = .ok (.iload_n 3, 1) := by decide +kernel
theorem dL_law_690 : decode cL_law 690 = .ok (.iconst 1, 1) := by decide +kernel
theorem dL_law_691 : decode cL_law 691 = .ok (.iadd, 1) := by decide +kernel
theorem dL_law_692 : decode cL_law 692 = .ok (.iaload, 1) := by decide +kernel
theorem dL_law_693 : decode cL_law 693 = .ok (.invokevirtual 102, 3) := by decide +kernel
theorem dL_law_696 : decode cL_law 696 = .ok (.aload_n 2, 1) := by decide +kernel
theorem dL_law_697 : decode cL_law 697 = .ok (.aload_n 0, 1) := by decide +kernel
theorem dL_law_698 : decode cL_law 698 = .ok (.iload_n 3, 1) := by decide +kernel
theorem dL_law_699 : decode cL_law 699 = .ok (.iconst 1, 1) := by decide +kernel
theorem dL_law_700 : decode cL_law 700 = .ok (.iadd, 1) := by decide +kernel
theorem dL_law_701 : decode cL_law 701 = .ok (.iaload, 1) := by decide +kernel
theorem dL_law_702 : decode cL_law 702 = .ok (.invokevirtual 105, 3) := by decide +kernel
theorem dL_law_705 : decode cL_law 705 = .ok (.if_icmp .eq 41, 3) := by decide +kernel
theorem dL_law_708 : decode cL_law 708 = .ok (.iconst 0, 1) := by decide +kernel
theorem dL_law_709 : decode cL_law 709 = .ok (.ireturn, 1) := by decide +kernel
theorem dL_law_710 : decode cL_law 710 = .ok (.aload_n 1, 1) := by decide +kernel
theorem dL_law_711 : decode cL_law 711 = .ok (.aload_n 0, 1) := by decide +kernel
theorem dL_law_712 : decode cL_law 712 = .ok (.iload_n 3, 1) := by decide +kernel
theorem dL_law_713 : decode cL_law 713 = .ok (.iconst 1, 1) := by decide +kernel
theorem dL_law_714 : decode cL_law 714 = .ok (.iadd, 1) := by decide +kernel
theorem dL_law_715 : decode cL_law 715 = .ok (.iaload, 1) := by decide +kernel
theorem dL_law_716 : decode cL_law 716 = .ok (.invokevirtual 106, 3) := by decide +kernel
theorem dL_law_719 : decode cL_law 719 = .ok (.aload_n 2, 1) := by decide +kernel
theorem dL_law_720 : decode cL_law 720 = .ok (.aload_n 0, 1) := by decide +kernel
theorem dL_law_721 : decode cL_law 721 = .ok (.iload_n 3, 1) := by decide +kernel
theorem dL_law_722 : decode cL_law 722 = .ok (.iconst 1, 1) := by decide +kernel
theorem dL_law_723 : decode cL_law 723 = .ok (.iadd, 1) := by decide +kernel
theorem dL_law_724 : decode cL_law 724 = .ok (.iaload, 1) := by decide +kernel
theorem dL_law_725 : decode cL_law 725 = .ok (.invokevirtual 109, 3) := by decide +kernel
theorem dL_law_728 : decode cL_law 728 = .ok (.if_icmp .eq 18, 3) := by decide +kernel
theorem dL_law_731 : decode cL_law 731 = .ok (.iconst 0, 1) := by decide +kernel
theorem dL_law_732 : decode cL_law 732 = .ok (.ireturn, 1) := by decide +kernel
theorem dL_law_733 : decode cL_law 733 = .ok (.aload_n 1, 1) := by decide +kernel
theorem dL_law_734 : decode cL_law 734 = .ok (.invokevirtual 110, 3) := by decide +kernel
theorem dL_law_737 : decode cL_law 737 = .ok (.aload_n 2, 1) := by decide +kernel
theorem dL_law_738 : decode cL_law 738 = .ok (.invokevirtual 113, 3) := by decide +kernel
theorem dL_law_741 : decode cL_law 741 = .ok (.if_icmp .eq 5, 3) := by decide +kernel
theorem dL_law_744 : decode cL_law 744 = .ok (.iconst 0, 1) := by decide +kernel
theorem dL_law_745 : decode cL_law 745 = .ok (.ireturn, 1) := by decide +kernel
theorem dL_law_746 : decode cL_law 746 = .ok (.iinc 3 5, 3) := by decide +kernel
theorem dL_law_749 : decode cL_law 749 = .ok (.goto (-731), 3) := by decide +kernel
theorem dL_law_752 : decode cL_law 752 = .ok (.iconst 1, 1) := by decide +kernel
theorem dL_law_753 : decode cL_law 753 = .ok (.ireturn, 1) := by decide +kernel
