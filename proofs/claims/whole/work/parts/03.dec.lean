theorem dX0_init_0 : decode cX0_init 0 = .ok (.aload_n 0, 1) := by decide +kernel
theorem dX0_init_1 : decode cX0_init 1 = .ok (.invokespecial 3, 3) := by decide +kernel
theorem dX0_init_4 : decode cX0_init 4 = .ok (.aload_n 0, 1) := by decide +kernel
theorem dX0_init_5 : decode cX0_init 5 = .ok (.bipush 24, 2) := by decide +kernel
theorem dX0_init_7 : decode cX0_init 7 = .ok (.newarray .int, 2) := by decide +kernel
theorem dX0_init_9 : decode cX0_init 9 = .ok (.putfield 9, 3) := by decide +kernel
theorem dX0_init_12 : decode cX0_init 12 = .ok (.aload_n 0, 1) := by decide +kernel
theorem dX0_init_13 : decode cX0_init 13 = .ok (.bipush 24, 2) := by decide +kernel
theorem dX0_init_15 : decode cX0_init 15 = .ok (.newarray .int, 2) := by decide +kernel
theorem dX0_init_17 : decode cX0_init 17 = .ok (.putfield 15, 3) := by decide +kernel
theorem dX0_init_20 : decode cX0_init 20 = .ok (.aload_n 0, 1) := by decide +kernel
theorem dX0_init_21 : decode cX0_init 21 = .ok (.bipush 24, 2) := by decide +kernel
theorem dX0_init_23 : decode cX0_init 23 = .ok (.newarray .int, 2) := by decide +kernel
theorem dX0_init_25 : decode cX0_init 25 = .ok (.putfield 18, 3) := by decide +kernel
theorem dX0_init_28 : decode cX0_init 28 = .ok (.return_, 1) := by decide +kernel
theorem dX0_arrange_0 : decode cX0_arrange 0 = .ok (.aload_n 0, 1) := by decide +kernel
theorem dX0_arrange_1 : decode cX0_arrange 1 = .ok (.aload_n 1, 1) := by decide +kernel
theorem dX0_arrange_2 : decode cX0_arrange 2 = .ok (.invokevirtual 21, 3) := by decide +kernel
theorem dX0_arrange_5 : decode cX0_arrange 5 = .ok (.iconst 0, 1) := by decide +kernel
theorem dX0_arrange_6 : decode cX0_arrange 6 = .ok (.istore_n 2, 1) := by decide +kernel
theorem dX0_arrange_7 : decode cX0_arrange 7 = .ok (.iload_n 2, 1) := by decide +kernel
theorem dX0_arrange_8 : decode cX0_arrange 8 = .ok (.aload_n 1, 1) := by decide +kernel
theorem dX0_arrange_9 : decode cX0_arrange 9 = .ok (.getfield 25, 3) := by decide +kernel
theorem dX0_arrange_12 : decode cX0_arrange 12 = .ok (.if_icmp .ge 45, 3) := by decide +kernel
theorem dX0_arrange_15 : decode cX0_arrange 15 = .ok (.aload_n 0, 1) := by decide +kernel
theorem dX0_arrange_16 : decode cX0_arrange 16 = .ok (.aload_n 1, 1) := by decide +kernel
theorem dX0_arrange_17 : decode cX0_arrange 17 = .ok (.getfield 25, 3) := by decide +kernel
theorem dX0_arrange_20 : decode cX0_arrange 20 = .ok (.invokevirtual 31, 3) := by decide +kernel
theorem dX0_arrange_23 : decode cX0_arrange 23 = .ok (.istore_n 3, 1) := by decide +kernel
theorem dX0_arrange_24 : decode cX0_arrange 24 = .ok (.iload_n 3, 1) := by decide +kernel
theorem dX0_arrange_25 : decode cX0_arrange 25 = .ok (.iconst (-1), 1) := by decide +kernel
theorem dX0_arrange_26 : decode cX0_arrange 26 = .ok (.if_icmp .ne 5, 3) := by decide +kernel
theorem dX0_arrange_29 : decode cX0_arrange 29 = .ok (.iconst 0, 1) := by decide +kernel
theorem dX0_arrange_30 : decode cX0_arrange 30 = .ok (.ireturn, 1) := by decide +kernel
theorem dX0_arrange_31 : decode cX0_arrange 31 = .ok (.aload_n 0, 1) := by decide +kernel
theorem dX0_arrange_32 : decode cX0_arrange 32 = .ok (.getfield 9, 3) := by decide +kernel
theorem dX0_arrange_35 : decode cX0_arrange 35 = .ok (.iload_n 2, 1) := by decide +kernel
theorem dX0_arrange_36 : decode cX0_arrange 36 = .ok (.iload_n 3, 1) := by decide +kernel
theorem dX0_arrange_37 : decode cX0_arrange 37 = .ok (.iastore, 1) := by decide +kernel
theorem dX0_arrange_38 : decode cX0_arrange 38 = .ok (.aload_n 0, 1) := by decide +kernel
theorem dX0_arrange_39 : decode cX0_arrange 39 = .ok (.getfield 18, 3) := by decide +kernel
theorem dX0_arrange_42 : decode cX0_arrange 42 = .ok (.iload_n 3, 1) := by decide +kernel
theorem dX0_arrange_43 : decode cX0_arrange 43 = .ok (.iconst (-1), 1) := by decide +kernel
theorem dX0_arrange_44 : decode cX0_arrange 44 = .ok (.iastore, 1) := by decide +kernel
theorem dX0_arrange_45 : decode cX0_arrange 45 = .ok (.aload_n 0, 1) := by decide +kernel
theorem dX0_arrange_46 : decode cX0_arrange 46 = .ok (.aload_n 1, 1) := by decide +kernel
theorem dX0_arrange_47 : decode cX0_arrange 47 = .ok (.iload_n 3, 1) := by decide +kernel
theorem dX0_arrange_48 : decode cX0_arrange 48 = .ok (.invokevirtual 35, 3) := by decide +kernel
theorem dX0_arrange_51 : decode cX0_arrange 51 = .ok (.iinc 2 1, 3) := by decide +kernel
theorem dX0_arrange_54 : decode cX0_arrange 54 = .ok (.goto (-47), 3) := by decide +kernel
theorem dX0_arrange_57 : decode cX0_arrange 57 = .ok (.iconst 1, 1) := by decide +kernel
theorem dX0_arrange_58 : decode cX0_arrange 58 = .ok (.ireturn, 1) := by decide +kernel
theorem dX0_countEarlier_0 : decode cX0_countEarlier 0 = .ok (.aload_n 0, 1) := by decide +kernel
theorem dX0_countEarlier_1 : decode cX0_countEarlier 1 = .ok (.getfield 18, 3) := by decide +kernel
theorem dX0_countEarlier_4 : decode cX0_countEarlier 4 = .ok (.iconst 0, 1) := by decide +kernel
theorem dX0_countEarlier_5 : decode cX0_countEarlier 5 = .ok (.invokestatic 39, 3) := by decide +kernel
theorem dX0_countEarlier_8 : decode cX0_countEarlier 8 = .ok (.aload_n 0, 1) := by decide +kernel
theorem dX0_countEarlier_9 : decode cX0_countEarlier 9 = .ok (.getfield 15, 3) := by decide +kernel
theorem dX0_countEarlier_12 : decode cX0_countEarlier 12 = .ok (.iconst 0, 1) := by decide +kernel
theorem dX0_countEarlier_13 : decode cX0_countEarlier 13 = .ok (.invokestatic 39, 3) := by decide +kernel
theorem dX0_countEarlier_16 : decode cX0_countEarlier 16 = .ok (.iconst 0, 1) := by decide +kernel
theorem dX0_countEarlier_17 : decode cX0_countEarlier 17 = .ok (.istore_n 2, 1) := by decide +kernel
theorem dX0_countEarlier_18 : decode cX0_countEarlier 18 = .ok (.iload_n 2, 1) := by decide +kernel
theorem dX0_countEarlier_19 : decode cX0_countEarlier 19 = .ok (.aload_n 1, 1) := by decide +kernel
theorem dX0_countEarlier_20 : decode cX0_countEarlier 20 = .ok (.getfield 25, 3) := by decide +kernel
theorem dX0_countEarlier_23 : decode cX0_countEarlier 23 = .ok (.if_icmp .ge 49, 3) := by decide +kernel
theorem dX0_countEarlier_26 : decode cX0_countEarlier 26 = .ok (.iconst 0, 1) := by decide +kernel
theorem dX0_countEarlier_27 : decode cX0_countEarlier 27 = .ok (.istore_n 3, 1) := by decide +kernel
theorem dX0_countEarlier_28 : decode cX0_countEarlier 28 = .ok (.iload_n 3, 1) := by decide +kernel
theorem dX0_countEarlier_29 : decode cX0_countEarlier 29 = .ok (.aload_n 1, 1) := by decide +kernel
theorem dX0_countEarlier_30 : decode cX0_countEarlier 30 = .ok (.getfield 25, 3) := by decide +kernel
theorem dX0_countEarlier_33 : decode cX0_countEarlier 33 = .ok (.if_icmp .ge 33, 3) := by decide +kernel
theorem dX0_countEarlier_36 : decode cX0_countEarlier 36 = .ok (.iload_n 3, 1) := by decide +kernel
theorem dX0_countEarlier_37 : decode cX0_countEarlier 37 = .ok (.iload_n 2, 1) := by decide +kernel
theorem dX0_countEarlier_38 : decode cX0_countEarlier 38 = .ok (.if_icmp .eq 22, 3) := by decide +kernel
theorem dX0_countEarlier_41 : decode cX0_countEarlier 41 = .ok (.aload_n 1, 1) := by decide +kernel
theorem dX0_countEarlier_42 : decode cX0_countEarlier 42 = .ok (.iload_n 3, 1) := by decide +kernel
theorem dX0_countEarlier_43 : decode cX0_countEarlier 43 = .ok (.iload_n 2, 1) := by decide +kernel
theorem dX0_countEarlier_44 : decode cX0_countEarlier 44 = .ok (.invokevirtual 45, 3) := by decide +kernel
theorem dX0_countEarlier_47 : decode cX0_countEarlier 47 = .ok (.ifCond .eq 13, 3) := by decide +kernel
theorem dX0_countEarlier_50 : decode cX0_countEarlier 50 = .ok (.aload_n 0, 1) := by decide +kernel
theorem dX0_countEarlier_51 : decode cX0_countEarlier 51 = .ok (.getfield 18, 3) := by decide +kernel
theorem dX0_countEarlier_54 : decode cX0_countEarlier 54 = .ok (.iload_n 2, 1) := by decide +kernel
theorem dX0_countEarlier_55 : decode cX0_countEarlier 55 = .ok (.dup2, 1) := by decide +kernel
theorem dX0_countEarlier_56 : decode cX0_countEarlier 56 = .ok (.iaload, 1) := by decide +kernel
theorem dX0_countEarlier_57 : decode cX0_countEarlier 57 = .ok (.iconst 1, 1) := by decide +kernel
theorem dX0_countEarlier_58 : decode cX0_countEarlier 58 = .ok (.iadd, 1) := by decide +kernel
theorem dX0_countEarlier_59 : decode cX0_countEarlier 59 = .ok (.iastore, 1) := by decide +kernel
theorem dX0_countEarlier_60 : decode cX0_countEarlier 60 = .ok (.iinc 3 1, 3) := by decide +kernel
theorem dX0_countEarlier_63 : decode cX0_countEarlier 63 = .ok (.goto (-35), 3) := by decide +kernel
theorem dX0_countEarlier_66 : decode cX0_countEarlier 66 = .ok (.iinc 2 1, 3) := by decide +kernel
theorem dX0_countEarlier_69 : decode cX0_countEarlier 69 = .ok (.goto (-51), 3) := by decide +kernel
theorem dX0_countEarlier_72 : decode cX0_countEarlier 72 = .ok (.return_, 1) := by decide +kernel
theorem dX0_lowestThatWaitsForNone_0 : decode cX0_lowestThatWaitsForNone 0 = .ok (.iconst 0, 1) := by decide +kernel
theorem dX0_lowestThatWaitsForNone_1 : decode cX0_lowestThatWaitsForNone 1 = .ok (.istore_n 2, 1) := by decide +kernel
theorem dX0_lowestThatWaitsForNone_2 : decode cX0_lowestThatWaitsForNone 2 = .ok (.iload_n 2, 1) := by decide +kernel
theorem dX0_lowestThatWaitsForNone_3 : decode cX0_lowestThatWaitsForNone 3 = .ok (.iload_n 1, 1) := by decide +kernel
theorem dX0_lowestThatWaitsForNone_4 : decode cX0_lowestThatWaitsForNone 4 = .ok (.if_icmp .ge 20, 3) := by decide +kernel
theorem dX0_lowestThatWaitsForNone_7 : decode cX0_lowestThatWaitsForNone 7 = .ok (.aload_n 0, 1) := by decide +kernel
theorem dX0_lowestThatWaitsForNone_8 : decode cX0_lowestThatWaitsForNone 8 = .ok (.getfield 18, 3) := by decide +kernel
theorem dX0_lowestThatWaitsForNone_11 : decode cX0_lowestThatWaitsForNone 11 = .ok (.iload_n 2, 1) := by decide +kernel
theorem dX0_lowestThatWaitsForNone_12 : decode cX0_lowestThatWaitsForNone 12 = .ok (.iaload, 1) := by decide +kernel
theorem dX0_lowestThatWaitsForNone_13 : decode cX0_lowestThatWaitsForNone 13 = .ok (.ifCond .ne 5, 3) := by decide +kernel
theorem dX0_lowestThatWaitsForNone_16 : decode cX0_lowestThatWaitsForNone 16 = .ok (.iload_n 2, 1) := by decide +kernel
theorem dX0_lowestThatWaitsForNone_17 : decode cX0_lowestThatWaitsForNone 17 = .ok (.ireturn, 1) := by decide +kernel
theorem dX0_lowestThatWaitsForNone_18 : decode cX0_lowestThatWaitsForNone 18 = .ok (.iinc 2 1, 3) := by decide +kernel
theorem dX0_lowestThatWaitsForNone_21 : decode cX0_lowestThatWaitsForNone 21 = .ok (.goto (-19), 3) := by decide +kernel
theorem dX0_lowestThatWaitsForNone_24 : decode cX0_lowestThatWaitsForNone 24 = .ok (.iconst (-1), 1) := by decide +kernel
theorem dX0_lowestThatWaitsForNone_25 : decode cX0_lowestThatWaitsForNone 25 = .ok (.ireturn, 1) := by decide +kernel
theorem dX0_releaseLater_0 : decode cX0_releaseLater 0 = .ok (.iconst 0, 1) := by decide +kernel
theorem dX0_releaseLater_1 : decode cX0_releaseLater 1 = .ok (.istore_n 3, 1) := by decide +kernel
theorem dX0_releaseLater_2 : decode cX0_releaseLater 2 = .ok (.iload_n 3, 1) := by decide +kernel
theorem dX0_releaseLater_3 : decode cX0_releaseLater 3 = .ok (.aload_n 1, 1) := by decide +kernel
theorem dX0_releaseLater_4 : decode cX0_releaseLater 4 = .ok (.getfield 25, 3) := by decide +kernel
theorem dX0_releaseLater_7 : decode cX0_releaseLater 7 = .ok (.if_icmp .ge 61, 3) := by decide +kernel
theorem dX0_releaseLater_10 : decode cX0_releaseLater 10 = .ok (.aload_n 0, 1) := by decide +kernel
theorem dX0_releaseLater_11 : decode cX0_releaseLater 11 = .ok (.getfield 18, 3) := by decide +kernel
theorem dX0_releaseLater_14 : decode cX0_releaseLater 14 = .ok (.iload_n 3, 1) := by decide +kernel
theorem dX0_releaseLater_15 : decode cX0_releaseLater 15 = .ok (.iaload, 1) := by decide +kernel
theorem dX0_releaseLater_16 : decode cX0_releaseLater 16 = .ok (.iconst (-1), 1) := by decide +kernel
theorem dX0_releaseLater_17 : decode cX0_releaseLater 17 = .ok (.if_icmp .eq 45, 3) := by decide +kernel
theorem dX0_releaseLater_20 : decode cX0_releaseLater 20 = .ok (.aload_n 1, 1) := by decide +kernel
theorem dX0_releaseLater_21 : decode cX0_releaseLater 21 = .ok (.iload_n 2, 1) := by decide +kernel
theorem dX0_releaseLater_22 : decode cX0_releaseLater 22 = .ok (.iload_n 3, 1) := by decide +kernel
theorem dX0_releaseLater_23 : decode cX0_releaseLater 23 = .ok (.invokevirtual 45, 3) := by decide +kernel
theorem dX0_releaseLater_26 : decode cX0_releaseLater 26 = .ok (.ifCond .eq 36, 3) := by decide +kernel
theorem dX0_releaseLater_29 : decode cX0_releaseLater 29 = .ok (.aload_n 0, 1) := by decide +kernel
theorem dX0_releaseLater_30 : decode cX0_releaseLater 30 = .ok (.getfield 18, 3) := by decide +kernel
theorem dX0_releaseLater_33 : decode cX0_releaseLater 33 = .ok (.iload_n 3, 1) := by decide +kernel
theorem dX0_releaseLater_34 : decode cX0_releaseLater 34 = .ok (.dup2, 1) := by decide +kernel
theorem dX0_releaseLater_35 : decode cX0_releaseLater 35 = .ok (.iaload, 1) := by decide +kernel
theorem dX0_releaseLater_36 : decode cX0_releaseLater 36 = .ok (.iconst 1, 1) := by decide +kernel
theorem dX0_releaseLater_37 : decode cX0_releaseLater 37 = .ok (.isub, 1) := by decide +kernel
theorem dX0_releaseLater_38 : decode cX0_releaseLater 38 = .ok (.iastore, 1) := by decide +kernel
theorem dX0_releaseLater_39 : decode cX0_releaseLater 39 = .ok (.aload_n 0, 1) := by decide +kernel
theorem dX0_releaseLater_40 : decode cX0_releaseLater 40 = .ok (.getfield 15, 3) := by decide +kernel
theorem dX0_releaseLater_43 : decode cX0_releaseLater 43 = .ok (.iload_n 3, 1) := by decide +kernel
theorem dX0_releaseLater_44 : decode cX0_releaseLater 44 = .ok (.aload_n 0, 1) := by decide +kernel
theorem dX0_releaseLater_45 : decode cX0_releaseLater 45 = .ok (.getfield 15, 3) := by decide +kernel
theorem dX0_releaseLater_48 : decode cX0_releaseLater 48 = .ok (.iload_n 3, 1) := by decide +kernel
theorem dX0_releaseLater_49 : decode cX0_releaseLater 49 = .ok (.iaload, 1) := by decide +kernel
theorem dX0_releaseLater_50 : decode cX0_releaseLater 50 = .ok (.aload_n 0, 1) := by decide +kernel
theorem dX0_releaseLater_51 : decode cX0_releaseLater 51 = .ok (.getfield 15, 3) := by decide +kernel
theorem dX0_releaseLater_54 : decode cX0_releaseLater 54 = .ok (.iload_n 2, 1) := by decide +kernel
theorem dX0_releaseLater_55 : decode cX0_releaseLater 55 = .ok (.iaload, 1) := by decide +kernel
theorem dX0_releaseLater_56 : decode cX0_releaseLater 56 = .ok (.iconst 1, 1) := by decide +kernel
theorem dX0_releaseLater_57 : decode cX0_releaseLater 57 = .ok (.iadd, 1) := by decide +kernel
theorem dX0_releaseLater_58 : decode cX0_releaseLater 58 = .ok (.invokestatic 49, 3) := by decide +kernel
theorem dX0_releaseLater_61 : decode cX0_releaseLater 61 = .ok (.iastore, 1) := by decide +kernel
theorem dX0_releaseLater_62 : decode cX0_releaseLater 62 = .ok (.iinc 3 1, 3) := by decide +kernel
theorem dX0_releaseLater_65 : decode cX0_releaseLater 65 = .ok (.goto (-63), 3) := by decide +kernel
theorem dX0_releaseLater_68 : decode cX0_releaseLater 68 = .ok (.return_, 1) := by decide +kernel
theorem dX1_init_0 : decode cX1_init 0 = .ok (.aload_n 0, 1) := by decide +kernel
theorem dX1_init_1 : decode cX1_init 1 = .ok (.invokespecial 3, 3) := by decide +kernel
theorem dX1_init_4 : decode cX1_init 4 = .ok (.aload_n 0, 1) := by decide +kernel
theorem dX1_init_5 : decode cX1_init 5 = .ok (.bipush 100, 2) := by decide +kernel
theorem dX1_init_7 : decode cX1_init 7 = .ok (.newarray .int, 2) := by decide +kernel
theorem dX1_init_9 : decode cX1_init 9 = .ok (.putfield 11, 3) := by decide +kernel
theorem dX1_init_12 : decode cX1_init 12 = .ok (.aload_n 0, 1) := by decide +kernel
theorem dX1_init_13 : decode cX1_init 13 = .ok (.iconst 2, 1) := by decide +kernel
theorem dX1_init_14 : decode cX1_init 14 = .ok (.bipush 24, 2) := by decide +kernel
theorem dX1_init_16 : decode cX1_init 16 = .ok (.multianewarray 15 2, 4) := by decide +kernel
theorem dX1_init_20 : decode cX1_init 20 = .ok (.putfield 17, 3) := by decide +kernel
theorem dX1_init_23 : decode cX1_init 23 = .ok (.aload_n 0, 1) := by decide +kernel
theorem dX1_init_24 : decode cX1_init 24 = .ok (.iconst 2, 1) := by decide +kernel
theorem dX1_init_25 : decode cX1_init 25 = .ok (.bipush 24, 2) := by decide +kernel
theorem dX1_init_27 : decode cX1_init 27 = .ok (.multianewarray 15 2, 4) := by decide +kernel
theorem dX1_init_31 : decode cX1_init 31 = .ok (.putfield 20, 3) := by decide +kernel
theorem dX1_init_34 : decode cX1_init 34 = .ok (.aload_n 0, 1) := by decide +kernel
theorem dX1_init_35 : decode cX1_init 35 = .ok (.iconst 2, 1) := by decide +kernel
theorem dX1_init_36 : decode cX1_init 36 = .ok (.bipush 24, 2) := by decide +kernel
theorem dX1_init_38 : decode cX1_init 38 = .ok (.multianewarray 15 2, 4) := by decide +kernel
theorem dX1_init_42 : decode cX1_init 42 = .ok (.putfield 23, 3) := by decide +kernel
theorem dX1_init_45 : decode cX1_init 45 = .ok (.aload_n 0, 1) := by decide +kernel
theorem dX1_init_46 : decode cX1_init 46 = .ok (.iconst 0, 1) := by decide +kernel
theorem dX1_init_47 : decode cX1_init 47 = .ok (.putfield 26, 3) := by decide +kernel
theorem dX1_init_50 : decode cX1_init 50 = .ok (.return_, 1) := by decide +kernel
theorem dX1_has_0 : decode cX1_has 0 = .ok (.iload_n 1, 1) := by decide +kernel
theorem dX1_has_1 : decode cX1_has 1 = .ok (.ifCond .lt 15, 3) := by decide +kernel
theorem dX1_has_4 : decode cX1_has 4 = .ok (.iload_n 1, 1) := by decide +kernel
theorem dX1_has_5 : decode cX1_has 5 = .ok (.aload_n 0, 1) := by decide +kernel
theorem dX1_has_6 : decode cX1_has 6 = .ok (.getfield 26, 3) := by decide +kernel
theorem dX1_has_9 : decode cX1_has 9 = .ok (.if_icmp .ge 7, 3) := by decide +kernel
theorem dX1_has_12 : decode cX1_has 12 = .ok (.iconst 1, 1) := by decide +kernel
theorem dX1_has_13 : decode cX1_has 13 = .ok (.goto 4, 3) := by decide +kernel
theorem dX1_has_16 : decode cX1_has 16 = .ok (.iconst 0, 1) := by decide +kernel
theorem dX1_has_17 : decode cX1_has 17 = .ok (.ireturn, 1) := by decide +kernel
theorem dX1_list_0 : decode cX1_list 0 = .ok (.aload_n 0, 1) := by decide +kernel
theorem dX1_list_1 : decode cX1_list 1 = .ok (.aload_n 1, 1) := by decide +kernel
theorem dX1_list_2 : decode cX1_list 2 = .ok (.invokevirtual 30, 3) := by decide +kernel
theorem dX1_list_5 : decode cX1_list 5 = .ok (.aload_n 0, 1) := by decide +kernel
theorem dX1_list_6 : decode cX1_list 6 = .ok (.invokevirtual 34, 3) := by decide +kernel
theorem dX1_list_9 : decode cX1_list 9 = .ok (.iconst 0, 1) := by decide +kernel
theorem dX1_list_10 : decode cX1_list 10 = .ok (.istore_n 2, 1) := by decide +kernel
theorem dX1_list_11 : decode cX1_list 11 = .ok (.iload_n 2, 1) := by decide +kernel
theorem dX1_list_12 : decode cX1_list 12 = .ok (.aload_n 1, 1) := by decide +kernel
theorem dX1_list_13 : decode cX1_list 13 = .ok (.getfield 37, 3) := by decide +kernel
theorem dX1_list_16 : decode cX1_list 16 = .ok (.if_icmp .ge 52, 3) := by decide +kernel
theorem dX1_list_19 : decode cX1_list 19 = .ok (.aload_n 0, 1) := by decide +kernel
theorem dX1_list_20 : decode cX1_list 20 = .ok (.getfield 11, 3) := by decide +kernel
theorem dX1_list_23 : decode cX1_list 23 = .ok (.aload_n 1, 1) := by decide +kernel
theorem dX1_list_24 : decode cX1_list 24 = .ok (.iload_n 2, 1) := by decide +kernel
theorem dX1_list_25 : decode cX1_list 25 = .ok (.invokestatic 40, 3) := by decide +kernel
theorem dX1_list_28 : decode cX1_list 28 = .ok (.iaload, 1) := by decide +kernel
theorem dX1_list_29 : decode cX1_list 29 = .ok (.istore_n 3, 1) := by decide +kernel
theorem dX1_list_30 : decode cX1_list 30 = .ok (.aload_n 0, 1) := by decide +kernel
theorem dX1_list_31 : decode cX1_list 31 = .ok (.iload_n 3, 1) := by decide +kernel
theorem dX1_list_32 : decode cX1_list 32 = .ok (.invokevirtual 44, 3) := by decide +kernel
theorem dX1_list_35 : decode cX1_list 35 = .ok (.ifCond .eq 27, 3) := by decide +kernel
theorem dX1_list_38 : decode cX1_list 38 = .ok (.aload_n 0, 1) := by decide +kernel
theorem dX1_list_39 : decode cX1_list 39 = .ok (.iload_n 3, 1) := by decide +kernel
theorem dX1_list_40 : decode cX1_list 40 = .ok (.iconst 0, 1) := by decide +kernel
theorem dX1_list_41 : decode cX1_list 41 = .ok (.aload_n 1, 1) := by decide +kernel
theorem dX1_list_42 : decode cX1_list 42 = .ok (.iload_n 2, 1) := by decide +kernel
theorem dX1_list_43 : decode cX1_list 43 = .ok (.iconst 0, 1) := by decide +kernel
theorem dX1_list_44 : decode cX1_list 44 = .ok (.invokevirtual 48, 3) := by decide +kernel
theorem dX1_list_47 : decode cX1_list 47 = .ok (.invokevirtual 52, 3) := by decide +kernel
theorem dX1_list_50 : decode cX1_list 50 = .ok (.aload_n 0, 1) := by decide +kernel
theorem dX1_list_51 : decode cX1_list 51 = .ok (.iload_n 3, 1) := by decide +kernel
theorem dX1_list_52 : decode cX1_list 52 = .ok (.iconst 1, 1) := by decide +kernel
theorem dX1_list_53 : decode cX1_list 53 = .ok (.aload_n 1, 1) := by decide +kernel
theorem dX1_list_54 : decode cX1_list 54 = .ok (.iload_n 2, 1) := by decide +kernel
theorem dX1_list_55 : decode cX1_list 55 = .ok (.iconst 1, 1) := by decide +kernel
theorem dX1_list_56 : decode cX1_list 56 = .ok (.invokevirtual 48, 3) := by decide +kernel
theorem dX1_list_59 : decode cX1_list 59 = .ok (.invokevirtual 52, 3) := by decide +kernel
theorem dX1_list_62 : decode cX1_list 62 = .ok (.iinc 2 1, 3) := by decide +kernel
theorem dX1_list_65 : decode cX1_list 65 = .ok (.goto (-54), 3) := by decide +kernel
theorem dX1_list_68 : decode cX1_list 68 = .ok (.return_, 1) := by decide +kernel
theorem dX1_pairOf_0 : decode cX1_pairOf 0 = .ok (.bipush 10, 2) := by decide +kernel
theorem dX1_pairOf_2 : decode cX1_pairOf 2 = .ok (.aload_n 0, 1) := by decide +kernel
theorem dX1_pairOf_3 : decode cX1_pairOf 3 = .ok (.iload_n 1, 1) := by decide +kernel
theorem dX1_pairOf_4 : decode cX1_pairOf 4 = .ok (.iconst 0, 1) := by decide +kernel
theorem dX1_pairOf_5 : decode cX1_pairOf 5 = .ok (.invokevirtual 56, 3) := by decide +kernel
theorem dX1_pairOf_8 : decode cX1_pairOf 8 = .ok (.imul, 1) := by decide +kernel
theorem dX1_pairOf_9 : decode cX1_pairOf 9 = .ok (.aload_n 0, 1) := by decide +kernel
theorem dX1_pairOf_10 : decode cX1_pairOf 10 = .ok (.iload_n 1, 1) := by decide +kernel
theorem dX1_pairOf_11 : decode cX1_pairOf 11 = .ok (.iconst 1, 1) := by decide +kernel
theorem dX1_pairOf_12 : decode cX1_pairOf 12 = .ok (.invokevirtual 56, 3) := by decide +kernel
theorem dX1_pairOf_15 : decode cX1_pairOf 15 = .ok (.iadd, 1) := by decide +kernel
theorem dX1_pairOf_16 : decode cX1_pairOf 16 = .ok (.ireturn, 1) := by decide +kernel
theorem dX1_markPairs_0 : decode cX1_markPairs 0 = .ok (.aload_n 0, 1) := by decide +kernel
theorem dX1_markPairs_1 : decode cX1_markPairs 1 = .ok (.getfield 11, 3) := by decide +kernel
theorem dX1_markPairs_4 : decode cX1_markPairs 4 = .ok (.iconst (-1), 1) := by decide +kernel
theorem dX1_markPairs_5 : decode cX1_markPairs 5 = .ok (.invokestatic 58, 3) := by decide +kernel
theorem dX1_markPairs_8 : decode cX1_markPairs 8 = .ok (.iconst 0, 1) := by decide +kernel
theorem dX1_markPairs_9 : decode cX1_markPairs 9 = .ok (.istore_n 2, 1) := by decide +kernel
theorem dX1_markPairs_10 : decode cX1_markPairs 10 = .ok (.iload_n 2, 1) := by decide +kernel
theorem dX1_markPairs_11 : decode cX1_markPairs 11 = .ok (.aload_n 1, 1) := by decide +kernel
theorem dX1_markPairs_12 : decode cX1_markPairs 12 = .ok (.getfield 37, 3) := by decide +kernel
theorem dX1_markPairs_15 : decode cX1_markPairs 15 = .ok (.if_icmp .ge 20, 3) := by decide +kernel
theorem dX1_markPairs_18 : decode cX1_markPairs 18 = .ok (.aload_n 0, 1) := by decide +kernel
theorem dX1_markPairs_19 : decode cX1_markPairs 19 = .ok (.getfield 11, 3) := by decide +kernel
theorem dX1_markPairs_22 : decode cX1_markPairs 22 = .ok (.aload_n 1, 1) := by decide +kernel
theorem dX1_markPairs_23 : decode cX1_markPairs 23 = .ok (.iload_n 2, 1) := by decide +kernel
theorem dX1_markPairs_24 : decode cX1_markPairs 24 = .ok (.invokestatic 40, 3) := by decide +kernel
theorem dX1_markPairs_27 : decode cX1_markPairs 27 = .ok (.iconst 0, 1) := by decide +kernel
theorem dX1_markPairs_28 : decode cX1_markPairs 28 = .ok (.iastore, 1) := by decide +kernel
theorem dX1_markPairs_29 : decode cX1_markPairs 29 = .ok (.iinc 2 1, 3) := by decide +kernel
theorem dX1_markPairs_32 : decode cX1_markPairs 32 = .ok (.goto (-22), 3) := by decide +kernel
theorem dX1_markPairs_35 : decode cX1_markPairs 35 = .ok (.return_, 1) := by decide +kernel
theorem dX1_numberPairs_0 : decode cX1_numberPairs 0 = .ok (.aload_n 0, 1) := by decide +kernel
theorem dX1_numberPairs_1 : decode cX1_numberPairs 1 = .ok (.iconst 0, 1) := by decide +kernel
theorem dX1_numberPairs_2 : decode cX1_numberPairs 2 = .ok (.putfield 26, 3) := by decide +kernel
theorem dX1_numberPairs_5 : decode cX1_numberPairs 5 = .ok (.iconst 0, 1) := by decide +kernel
theorem dX1_numberPairs_6 : decode cX1_numberPairs 6 = .ok (.istore_n 1, 1) := by decide +kernel
theorem dX1_numberPairs_7 : decode cX1_numberPairs 7 = .ok (.iload_n 1, 1) := by decide +kernel
theorem dX1_numberPairs_8 : decode cX1_numberPairs 8 = .ok (.bipush 100, 2) := by decide +kernel
theorem dX1_numberPairs_10 : decode cX1_numberPairs 10 = .ok (.if_icmp .ge 50, 3) := by decide +kernel
theorem dX1_numberPairs_13 : decode cX1_numberPairs 13 = .ok (.aload_n 0, 1) := by decide +kernel
theorem dX1_numberPairs_14 : decode cX1_numberPairs 14 = .ok (.getfield 26, 3) := by decide +kernel
theorem dX1_numberPairs_17 : decode cX1_numberPairs 17 = .ok (.bipush 24, 2) := by decide +kernel
theorem dX1_numberPairs_19 : decode cX1_numberPairs 19 = .ok (.if_icmp .ge 41, 3) := by decide +kernel
theorem dX1_numberPairs_22 : decode cX1_numberPairs 22 = .ok (.aload_n 0, 1) := by decide +kernel
theorem dX1_numberPairs_23 : decode cX1_numberPairs 23 = .ok (.getfield 11, 3) := by decide +kernel
theorem dX1_numberPairs_26 : decode cX1_numberPairs 26 = .ok (.iload_n 1, 1) := by decide +kernel
theorem dX1_numberPairs_27 : decode cX1_numberPairs 27 = .ok (.iaload, 1) := by decide +kernel
theorem dX1_numberPairs_28 : decode cX1_numberPairs 28 = .ok (.iconst (-1), 1) := by decide +kernel
theorem dX1_numberPairs_29 : decode cX1_numberPairs 29 = .ok (.if_icmp .eq 25, 3) := by decide +kernel
theorem dX1_numberPairs_32 : decode cX1_numberPairs 32 = .ok (.aload_n 0, 1) := by decide +kernel
theorem dX1_numberPairs_33 : decode cX1_numberPairs 33 = .ok (.getfield 11, 3) := by decide +kernel
theorem dX1_numberPairs_36 : decode cX1_numberPairs 36 = .ok (.iload_n 1, 1) := by decide +kernel
theorem dX1_numberPairs_37 : decode cX1_numberPairs 37 = .ok (.aload_n 0, 1) := by decide +kernel
theorem dX1_numberPairs_38 : decode cX1_numberPairs 38 = .ok (.getfield 26, 3) := by decide +kernel
theorem dX1_numberPairs_41 : decode cX1_numberPairs 41 = .ok (.iastore, 1) := by decide +kernel
theorem dX1_numberPairs_42 : decode cX1_numberPairs 42 = .ok (.aload_n 0, 1) := by decide +kernel
theorem dX1_numberPairs_43 : decode cX1_numberPairs 43 = .ok (.iload_n 1, 1) := by decide +kernel
theorem dX1_numberPairs_44 : decode cX1_numberPairs 44 = .ok (.bipush 10, 2) := by decide +kernel
theorem dX1_numberPairs_46 : decode cX1_numberPairs 46 = .ok (.idiv, 1) := by decide +kernel
theorem dX1_numberPairs_47 : decode cX1_numberPairs 47 = .ok (.iload_n 1, 1) := by decide +kernel
theorem dX1_numberPairs_48 : decode cX1_numberPairs 48 = .ok (.bipush 10, 2) := by decide +kernel
theorem dX1_numberPairs_50 : decode cX1_numberPairs 50 = .ok (.irem, 1) := by decide +kernel
theorem dX1_numberPairs_51 : decode cX1_numberPairs 51 = .ok (.invokevirtual 64, 3) := by decide +kernel
theorem dX1_numberPairs_54 : decode cX1_numberPairs 54 = .ok (.iinc 1 1, 3) := by decide +kernel
theorem dX1_numberPairs_57 : decode cX1_numberPairs 57 = .ok (.goto (-50), 3) := by decide +kernel
theorem dX1_numberPairs_60 : decode cX1_numberPairs 60 = .ok (.return_, 1) := by decide +kernel
theorem dX1_enter_0 : decode cX1_enter 0 = .ok (.aload_n 0, 1) := by decide +kernel
theorem dX1_enter_1 : decode cX1_enter 1 = .ok (.getfield 17, 3) := by decide +kernel
theorem dX1_enter_4 : decode cX1_enter 4 = .ok (.iconst 0, 1) := by decide +kernel
theorem dX1_enter_5 : decode cX1_enter 5 = .ok (.aaload, 1) := by decide +kernel
theorem dX1_enter_6 : decode cX1_enter 6 = .ok (.aload_n 0, 1) := by decide +kernel
theorem dX1_enter_7 : decode cX1_enter 7 = .ok (.getfield 26, 3) := by decide +kernel
theorem dX1_enter_10 : decode cX1_enter 10 = .ok (.iload_n 1, 1) := by decide +kernel
theorem dX1_enter_11 : decode cX1_enter 11 = .ok (.iastore, 1) := by decide +kernel
theorem dX1_enter_12 : decode cX1_enter 12 = .ok (.aload_n 0, 1) := by decide +kernel
theorem dX1_enter_13 : decode cX1_enter 13 = .ok (.getfield 17, 3) := by decide +kernel
theorem dX1_enter_16 : decode cX1_enter 16 = .ok (.iconst 1, 1) := by decide +kernel
theorem dX1_enter_17 : decode cX1_enter 17 = .ok (.aaload, 1) := by decide +kernel
theorem dX1_enter_18 : decode cX1_enter 18 = .ok (.aload_n 0, 1) := by decide +kernel
theorem dX1_enter_19 : decode cX1_enter 19 = .ok (.getfield 26, 3) := by decide +kernel
theorem dX1_enter_22 : decode cX1_enter 22 = .ok (.iload_n 2, 1) := by decide +kernel
theorem dX1_enter_23 : decode cX1_enter 23 = .ok (.iastore, 1) := by decide +kernel
theorem dX1_enter_24 : decode cX1_enter 24 = .ok (.iconst 0, 1) := by decide +kernel
theorem dX1_enter_25 : decode cX1_enter 25 = .ok (.istore_n 3, 1) := by decide +kernel
theorem dX1_enter_26 : decode cX1_enter 26 = .ok (.iload_n 3, 1) := by decide +kernel
theorem dX1_enter_27 : decode cX1_enter 27 = .ok (.iconst 2, 1) := by decide +kernel
theorem dX1_enter_28 : decode cX1_enter 28 = .ok (.if_icmp .ge 33, 3) := by decide +kernel
theorem dX1_enter_31 : decode cX1_enter 31 = .ok (.aload_n 0, 1) := by decide +kernel
theorem dX1_enter_32 : decode cX1_enter 32 = .ok (.getfield 20, 3) := by decide +kernel
theorem dX1_enter_35 : decode cX1_enter 35 = .ok (.iload_n 3, 1) := by decide +kernel
theorem dX1_enter_36 : decode cX1_enter 36 = .ok (.aaload, 1) := by decide +kernel
theorem dX1_enter_37 : decode cX1_enter 37 = .ok (.aload_n 0, 1) := by decide +kernel
theorem dX1_enter_38 : decode cX1_enter 38 = .ok (.getfield 26, 3) := by decide +kernel
theorem dX1_enter_41 : decode cX1_enter 41 = .ok (.iconst 5, 1) := by decide +kernel
theorem dX1_enter_42 : decode cX1_enter 42 = .ok (.iastore, 1) := by decide +kernel
theorem dX1_enter_43 : decode cX1_enter 43 = .ok (.aload_n 0, 1) := by decide +kernel
theorem dX1_enter_44 : decode cX1_enter 44 = .ok (.getfield 23, 3) := by decide +kernel
theorem dX1_enter_47 : decode cX1_enter 47 = .ok (.iload_n 3, 1) := by decide +kernel
theorem dX1_enter_48 : decode cX1_enter 48 = .ok (.aaload, 1) := by decide +kernel
theorem dX1_enter_49 : decode cX1_enter 49 = .ok (.aload_n 0, 1) := by decide +kernel
theorem dX1_enter_50 : decode cX1_enter 50 = .ok (.getfield 26, 3) := by decide +kernel
theorem dX1_enter_53 : decode cX1_enter 53 = .ok (.iconst 0, 1) := by decide +kernel
theorem dX1_enter_54 : decode cX1_enter 54 = .ok (.iastore, 1) := by decide +kernel
theorem dX1_enter_55 : decode cX1_enter 55 = .ok (.iinc 3 1, 3) := by decide +kernel
theorem dX1_enter_58 : decode cX1_enter 58 = .ok (.goto (-32), 3) := by decide +kernel
theorem dX1_enter_61 : decode cX1_enter 61 = .ok (.aload_n 0, 1) := by decide +kernel
theorem dX1_enter_62 : decode cX1_enter 62 = .ok (.dup, 1) := by decide +kernel
theorem dX1_enter_63 : decode cX1_enter 63 = .ok (.getfield 26, 3) := by decide +kernel
theorem dX1_enter_66 : decode cX1_enter 66 = .ok (.iconst 1, 1) := by decide +kernel
theorem dX1_enter_67 : decode cX1_enter 67 = .ok (.iadd, 1) := by decide +kernel
theorem dX1_enter_68 : decode cX1_enter 68 = .ok (.putfield 26, 3) := by decide +kernel
theorem dX1_enter_71 : decode cX1_enter 71 = .ok (.return_, 1) := by decide +kernel
theorem dX1_spanWear_0 : decode cX1_spanWear 0 = .ok (.aload_n 0, 1) := by decide +kernel
theorem dX1_spanWear_1 : decode cX1_spanWear 1 = .ok (.getfield 20, 3) := by decide +kernel
theorem dX1_spanWear_4 : decode cX1_spanWear 4 = .ok (.iload_n 2, 1) := by decide +kernel
theorem dX1_spanWear_5 : decode cX1_spanWear 5 = .ok (.aaload, 1) := by decide +kernel
theorem dX1_spanWear_6 : decode cX1_spanWear 6 = .ok (.iload_n 1, 1) := by decide +kernel
theorem dX1_spanWear_7 : decode cX1_spanWear 7 = .ok (.aload_n 0, 1) := by decide +kernel
theorem dX1_spanWear_8 : decode cX1_spanWear 8 = .ok (.getfield 20, 3) := by decide +kernel
theorem dX1_spanWear_11 : decode cX1_spanWear 11 = .ok (.iload_n 2, 1) := by decide +kernel
theorem dX1_spanWear_12 : decode cX1_spanWear 12 = .ok (.aaload, 1) := by decide +kernel
theorem dX1_spanWear_13 : decode cX1_spanWear 13 = .ok (.iload_n 1, 1) := by decide +kernel
theorem dX1_spanWear_14 : decode cX1_spanWear 14 = .ok (.iaload, 1) := by decide +kernel
theorem dX1_spanWear_15 : decode cX1_spanWear 15 = .ok (.iload_n 3, 1) := by decide +kernel
theorem dX1_spanWear_16 : decode cX1_spanWear 16 = .ok (.invokestatic 68, 3) := by decide +kernel
theorem dX1_spanWear_19 : decode cX1_spanWear 19 = .ok (.iastore, 1) := by decide +kernel
theorem dX1_spanWear_20 : decode cX1_spanWear 20 = .ok (.aload_n 0, 1) := by decide +kernel
theorem dX1_spanWear_21 : decode cX1_spanWear 21 = .ok (.getfield 23, 3) := by decide +kernel
theorem dX1_spanWear_24 : decode cX1_spanWear 24 = .ok (.iload_n 2, 1) := by decide +kernel
theorem dX1_spanWear_25 : decode cX1_spanWear 25 = .ok (.aaload, 1) := by decide +kernel
theorem dX1_spanWear_26 : decode cX1_spanWear 26 = .ok (.iload_n 1, 1) := by decide +kernel
theorem dX1_spanWear_27 : decode cX1_spanWear 27 = .ok (.aload_n 0, 1) := by decide +kernel
theorem dX1_spanWear_28 : decode cX1_spanWear 28 = .ok (.getfield 23, 3) := by decide +kernel
theorem dX1_spanWear_31 : decode cX1_spanWear 31 = .ok (.iload_n 2, 1) := by decide +kernel
theorem dX1_spanWear_32 : decode cX1_spanWear 32 = .ok (.aaload, 1) := by decide +kernel
theorem dX1_spanWear_33 : decode cX1_spanWear 33 = .ok (.iload_n 1, 1) := by decide +kernel
theorem dX1_spanWear_34 : decode cX1_spanWear 34 = .ok (.iaload, 1) := by decide +kernel
theorem dX1_spanWear_35 : decode cX1_spanWear 35 = .ok (.iload_n 3, 1) := by decide +kernel
theorem dX1_spanWear_36 : decode cX1_spanWear 36 = .ok (.invokestatic 73, 3) := by decide +kernel
theorem dX1_spanWear_39 : decode cX1_spanWear 39 = .ok (.iastore, 1) := by decide +kernel
theorem dX1_spanWear_40 : decode cX1_spanWear 40 = .ok (.return_, 1) := by decide +kernel
theorem dX1_isEarlier_0 : decode cX1_isEarlier 0 = .ok (.aload_n 0, 1) := by decide +kernel
theorem dX1_isEarlier_1 : decode cX1_isEarlier 1 = .ok (.iconst 0, 1) := by decide +kernel
theorem dX1_isEarlier_2 : decode cX1_isEarlier 2 = .ok (.iload_n 1, 1) := by decide +kernel
theorem dX1_isEarlier_3 : decode cX1_isEarlier 3 = .ok (.iload_n 2, 1) := by decide +kernel
theorem dX1_isEarlier_4 : decode cX1_isEarlier 4 = .ok (.invokevirtual 76, 3) := by decide +kernel
theorem dX1_isEarlier_7 : decode cX1_isEarlier 7 = .ok (.ifCond .ne 13, 3) := by decide +kernel
theorem dX1_isEarlier_10 : decode cX1_isEarlier 10 = .ok (.aload_n 0, 1) := by decide +kernel
theorem dX1_isEarlier_11 : decode cX1_isEarlier 11 = .ok (.iconst 1, 1) := by decide +kernel
theorem dX1_isEarlier_12 : decode cX1_isEarlier 12 = .ok (.iload_n 1, 1) := by decide +kernel
theorem dX1_isEarlier_13 : decode cX1_isEarlier 13 = .ok (.iload_n 2, 1) := by decide +kernel
theorem dX1_isEarlier_14 : decode cX1_isEarlier 14 = .ok (.invokevirtual 76, 3) := by decide +kernel
theorem dX1_isEarlier_17 : decode cX1_isEarlier 17 = .ok (.ifCond .eq 7, 3) := by decide +kernel
theorem dX1_isEarlier_20 : decode cX1_isEarlier 20 = .ok (.iconst 1, 1) := by decide +kernel
theorem dX1_isEarlier_21 : decode cX1_isEarlier 21 = .ok (.goto 4, 3) := by decide +kernel
theorem dX1_isEarlier_24 : decode cX1_isEarlier 24 = .ok (.iconst 0, 1) := by decide +kernel
theorem dX1_isEarlier_25 : decode cX1_isEarlier 25 = .ok (.ireturn, 1) := by decide +kernel
theorem dX1_isEarlierBy_0 : decode cX1_isEarlierBy 0 = .ok (.aload_n 0, 1) := by decide +kernel
theorem dX1_isEarlierBy_1 : decode cX1_isEarlierBy 1 = .ok (.getfield 17, 3) := by decide +kernel
theorem dX1_isEarlierBy_4 : decode cX1_isEarlierBy 4 = .ok (.iload_n 1, 1) := by decide +kernel
theorem dX1_isEarlierBy_5 : decode cX1_isEarlierBy 5 = .ok (.aaload, 1) := by decide +kernel
theorem dX1_isEarlierBy_6 : decode cX1_isEarlierBy 6 = .ok (.iload_n 2, 1) := by decide +kernel
theorem dX1_isEarlierBy_7 : decode cX1_isEarlierBy 7 = .ok (.iaload, 1) := by decide +kernel
theorem dX1_isEarlierBy_8 : decode cX1_isEarlierBy 8 = .ok (.aload_n 0, 1) := by decide +kernel
theorem dX1_isEarlierBy_9 : decode cX1_isEarlierBy 9 = .ok (.getfield 17, 3) := by decide +kernel
theorem dX1_isEarlierBy_12 : decode cX1_isEarlierBy 12 = .ok (.iload_n 1, 1) := by decide +kernel
theorem dX1_isEarlierBy_13 : decode cX1_isEarlierBy 13 = .ok (.aaload, 1) := by decide +kernel
theorem dX1_isEarlierBy_14 : decode cX1_isEarlierBy 14 = .ok (.iload_n 3, 1) := by decide +kernel
theorem dX1_isEarlierBy_15 : decode cX1_isEarlierBy 15 = .ok (.iaload, 1) := by decide +kernel
theorem dX1_isEarlierBy_16 : decode cX1_isEarlierBy 16 = .ok (.if_icmp .ne 45, 3) := by decide +kernel
theorem dX1_isEarlierBy_19 : decode cX1_isEarlierBy 19 = .ok (.aload_n 0, 1) := by decide +kernel
theorem dX1_isEarlierBy_20 : decode cX1_isEarlierBy 20 = .ok (.getfield 23, 3) := by decide +kernel
theorem dX1_isEarlierBy_23 : decode cX1_isEarlierBy 23 = .ok (.iload_n 1, 1) := by decide +kernel
theorem dX1_isEarlierBy_24 : decode cX1_isEarlierBy 24 = .ok (.aaload, 1) := by decide +kernel
theorem dX1_isEarlierBy_25 : decode cX1_isEarlierBy 25 = .ok (.iload_n 2, 1) := by decide +kernel
theorem dX1_isEarlierBy_26 : decode cX1_isEarlierBy 26 = .ok (.iaload, 1) := by decide +kernel
theorem dX1_isEarlierBy_27 : decode cX1_isEarlierBy 27 = .ok (.aload_n 0, 1) := by decide +kernel
theorem dX1_isEarlierBy_28 : decode cX1_isEarlierBy 28 = .ok (.getfield 20, 3) := by decide +kernel
theorem dX1_isEarlierBy_31 : decode cX1_isEarlierBy 31 = .ok (.iload_n 1, 1) := by decide +kernel
theorem dX1_isEarlierBy_32 : decode cX1_isEarlierBy 32 = .ok (.aaload, 1) := by decide +kernel
theorem dX1_isEarlierBy_33 : decode cX1_isEarlierBy 33 = .ok (.iload_n 3, 1) := by decide +kernel
theorem dX1_isEarlierBy_34 : decode cX1_isEarlierBy 34 = .ok (.iaload, 1) := by decide +kernel
theorem dX1_isEarlierBy_35 : decode cX1_isEarlierBy 35 = .ok (.if_icmp .gt 26, 3) := by decide +kernel
theorem dX1_isEarlierBy_38 : decode cX1_isEarlierBy 38 = .ok (.aload_n 0, 1) := by decide +kernel
theorem dX1_isEarlierBy_39 : decode cX1_isEarlierBy 39 = .ok (.getfield 20, 3) := by decide +kernel
theorem dX1_isEarlierBy_42 : decode cX1_isEarlierBy 42 = .ok (.iload_n 1, 1) := by decide +kernel
theorem dX1_isEarlierBy_43 : decode cX1_isEarlierBy 43 = .ok (.aaload, 1) := by decide +kernel
theorem dX1_isEarlierBy_44 : decode cX1_isEarlierBy 44 = .ok (.iload_n 2, 1) := by decide +kernel
theorem dX1_isEarlierBy_45 : decode cX1_isEarlierBy 45 = .ok (.iaload, 1) := by decide +kernel
theorem dX1_isEarlierBy_46 : decode cX1_isEarlierBy 46 = .ok (.aload_n 0, 1) := by decide +kernel
theorem dX1_isEarlierBy_47 : decode cX1_isEarlierBy 47 = .ok (.getfield 23, 3) := by decide +kernel
theorem dX1_isEarlierBy_50 : decode cX1_isEarlierBy 50 = .ok (.iload_n 1, 1) := by decide +kernel
theorem dX1_isEarlierBy_51 : decode cX1_isEarlierBy 51 = .ok (.aaload, 1) := by decide +kernel
theorem dX1_isEarlierBy_52 : decode cX1_isEarlierBy 52 = .ok (.iload_n 3, 1) := by decide +kernel
theorem dX1_isEarlierBy_53 : decode cX1_isEarlierBy 53 = .ok (.iaload, 1) := by decide +kernel
theorem dX1_isEarlierBy_54 : decode cX1_isEarlierBy 54 = .ok (.if_icmp .ge 7, 3) := by decide +kernel
theorem dX1_isEarlierBy_57 : decode cX1_isEarlierBy 57 = .ok (.iconst 1, 1) := by decide +kernel
theorem dX1_isEarlierBy_58 : decode cX1_isEarlierBy 58 = .ok (.goto 4, 3) := by decide +kernel
theorem dX1_isEarlierBy_61 : decode cX1_isEarlierBy 61 = .ok (.iconst 0, 1) := by decide +kernel
theorem dX1_isEarlierBy_62 : decode cX1_isEarlierBy 62 = .ok (.ireturn, 1) := by decide +kernel
theorem dX2_init_0 : decode cX2_init 0 = .ok (.aload_n 0, 1) := by decide +kernel
theorem dX2_init_1 : decode cX2_init 1 = .ok (.invokespecial 3, 3) := by decide +kernel
theorem dX2_init_4 : decode cX2_init 4 = .ok (.aload_n 0, 1) := by decide +kernel
theorem dX2_init_5 : decode cX2_init 5 = .ok (.sipush 480, 3) := by decide +kernel
theorem dX2_init_8 : decode cX2_init 8 = .ok (.newarray .int, 2) := by decide +kernel
theorem dX2_init_10 : decode cX2_init 10 = .ok (.putfield 11, 3) := by decide +kernel
theorem dX2_init_13 : decode cX2_init 13 = .ok (.aload_n 0, 1) := by decide +kernel
theorem dX2_init_14 : decode cX2_init 14 = .ok (.iconst 5, 1) := by decide +kernel
theorem dX2_init_15 : decode cX2_init 15 = .ok (.newarray .int, 2) := by decide +kernel
theorem dX2_init_17 : decode cX2_init 17 = .ok (.putfield 17, 3) := by decide +kernel
theorem dX2_init_20 : decode cX2_init 20 = .ok (.aload_n 0, 1) := by decide +kernel
theorem dX2_init_21 : decode cX2_init 21 = .ok (.iconst 0, 1) := by decide +kernel
theorem dX2_init_22 : decode cX2_init 22 = .ok (.putfield 20, 3) := by decide +kernel
theorem dX2_init_25 : decode cX2_init 25 = .ok (.aload_n 0, 1) := by decide +kernel
theorem dX2_init_26 : decode cX2_init 26 = .ok (.iconst 0, 1) := by decide +kernel
theorem dX2_init_27 : decode cX2_init 27 = .ok (.putfield 24, 3) := by decide +kernel
theorem dX2_init_30 : decode cX2_init 30 = .ok (.return_, 1) := by decide +kernel
theorem dX2_save_0 : decode cX2_save 0 = .ok (.aload_n 1, 1) := by decide +kernel
theorem dX2_save_1 : decode cX2_save 1 = .ok (.getfield 27, 3) := by decide +kernel
theorem dX2_save_4 : decode cX2_save 4 = .ok (.iconst 0, 1) := by decide +kernel
theorem dX2_save_5 : decode cX2_save 5 = .ok (.aload_n 0, 1) := by decide +kernel
theorem dX2_save_6 : decode cX2_save 6 = .ok (.getfield 11, 3) := by decide +kernel
theorem dX2_save_9 : decode cX2_save 9 = .ok (.aload_n 0, 1) := by decide +kernel
theorem dX2_save_10 : decode cX2_save 10 = .ok (.getfield 24, 3) := by decide +kernel
theorem dX2_save_13 : decode cX2_save 13 = .ok (.bipush 96, 2) := by decide +kernel
theorem dX2_save_15 : decode cX2_save 15 = .ok (.imul, 1) := by decide +kernel
theorem dX2_save_16 : decode cX2_save 16 = .ok (.bipush 96, 2) := by decide +kernel
theorem dX2_save_18 : decode cX2_save 18 = .ok (.invokestatic 28, 3) := by decide +kernel
theorem dX2_save_21 : decode cX2_save 21 = .ok (.aload_n 0, 1) := by decide +kernel
theorem dX2_save_22 : decode cX2_save 22 = .ok (.getfield 17, 3) := by decide +kernel
theorem dX2_save_25 : decode cX2_save 25 = .ok (.aload_n 0, 1) := by decide +kernel
theorem dX2_save_26 : decode cX2_save 26 = .ok (.getfield 24, 3) := by decide +kernel
theorem dX2_save_29 : decode cX2_save 29 = .ok (.aload_n 1, 1) := by decide +kernel
theorem dX2_save_30 : decode cX2_save 30 = .ok (.getfield 34, 3) := by decide +kernel
theorem dX2_save_33 : decode cX2_save 33 = .ok (.iastore, 1) := by decide +kernel
theorem dX2_save_34 : decode cX2_save 34 = .ok (.aload_n 0, 1) := by decide +kernel
theorem dX2_save_35 : decode cX2_save 35 = .ok (.aload_n 0, 1) := by decide +kernel
theorem dX2_save_36 : decode cX2_save 36 = .ok (.getfield 24, 3) := by decide +kernel
theorem dX2_save_39 : decode cX2_save 39 = .ok (.iconst 1, 1) := by decide +kernel
theorem dX2_save_40 : decode cX2_save 40 = .ok (.iadd, 1) := by decide +kernel
theorem dX2_save_41 : decode cX2_save 41 = .ok (.iconst 5, 1) := by decide +kernel
theorem dX2_save_42 : decode cX2_save 42 = .ok (.if_icmp .ge 12, 3) := by decide +kernel
theorem dX2_save_45 : decode cX2_save 45 = .ok (.aload_n 0, 1) := by decide +kernel
theorem dX2_save_46 : decode cX2_save 46 = .ok (.getfield 24, 3) := by decide +kernel
theorem dX2_save_49 : decode cX2_save 49 = .ok (.iconst 1, 1) := by decide +kernel
theorem dX2_save_50 : decode cX2_save 50 = .ok (.iadd, 1) := by decide +kernel
theorem dX2_save_51 : decode cX2_save 51 = .ok (.goto 4, 3) := by decide +kernel
theorem dX2_save_54 : decode cX2_save 54 = .ok (.iconst 0, 1) := by decide +kernel
theorem dX2_save_55 : decode cX2_save 55 = .ok (.putfield 24, 3) := by decide +kernel
theorem dX2_save_58 : decode cX2_save 58 = .ok (.aload_n 0, 1) := by decide +kernel
theorem dX2_save_59 : decode cX2_save 59 = .ok (.getfield 20, 3) := by decide +kernel
theorem dX2_save_62 : decode cX2_save 62 = .ok (.iconst 5, 1) := by decide +kernel
theorem dX2_save_63 : decode cX2_save 63 = .ok (.if_icmp .ge 13, 3) := by decide +kernel
theorem dX2_save_66 : decode cX2_save 66 = .ok (.aload_n 0, 1) := by decide +kernel
theorem dX2_save_67 : decode cX2_save 67 = .ok (.dup, 1) := by decide +kernel
theorem dX2_save_68 : decode cX2_save 68 = .ok (.getfield 20, 3) := by decide +kernel
theorem dX2_save_71 : decode cX2_save 71 = .ok (.iconst 1, 1) := by decide +kernel
theorem dX2_save_72 : decode cX2_save 72 = .ok (.iadd, 1) := by decide +kernel
theorem dX2_save_73 : decode cX2_save 73 = .ok (.putfield 20, 3) := by decide +kernel
theorem dX2_save_76 : decode cX2_save 76 = .ok (.return_, 1) := by decide +kernel
theorem dX2_restore_0 : decode cX2_restore 0 = .ok (.aload_n 0, 1) := by decide +kernel
theorem dX2_restore_1 : decode cX2_restore 1 = .ok (.aload_n 0, 1) := by decide +kernel
theorem dX2_restore_2 : decode cX2_restore 2 = .ok (.getfield 24, 3) := by decide +kernel
theorem dX2_restore_5 : decode cX2_restore 5 = .ok (.ifCond .le 12, 3) := by decide +kernel
theorem dX2_restore_8 : decode cX2_restore 8 = .ok (.aload_n 0, 1) := by decide +kernel
theorem dX2_restore_9 : decode cX2_restore 9 = .ok (.getfield 24, 3) := by decide +kernel
theorem dX2_restore_12 : decode cX2_restore 12 = .ok (.iconst 1, 1) := by decide +kernel
theorem dX2_restore_13 : decode cX2_restore 13 = .ok (.isub, 1) := by decide +kernel
theorem dX2_restore_14 : decode cX2_restore 14 = .ok (.goto 4, 3) := by decide +kernel
theorem dX2_restore_17 : decode cX2_restore 17 = .ok (.iconst 4, 1) := by decide +kernel
theorem dX2_restore_18 : decode cX2_restore 18 = .ok (.putfield 24, 3) := by decide +kernel
theorem dX2_restore_21 : decode cX2_restore 21 = .ok (.aload_n 0, 1) := by decide +kernel
theorem dX2_restore_22 : decode cX2_restore 22 = .ok (.getfield 11, 3) := by decide +kernel
theorem dX2_restore_25 : decode cX2_restore 25 = .ok (.aload_n 0, 1) := by decide +kernel
theorem dX2_restore_26 : decode cX2_restore 26 = .ok (.getfield 24, 3) := by decide +kernel
theorem dX2_restore_29 : decode cX2_restore 29 = .ok (.bipush 96, 2) := by decide +kernel
theorem dX2_restore_31 : decode cX2_restore 31 = .ok (.imul, 1) := by decide +kernel
theorem dX2_restore_32 : decode cX2_restore 32 = .ok (.aload_n 1, 1) := by decide +kernel
theorem dX2_restore_33 : decode cX2_restore 33 = .ok (.getfield 27, 3) := by decide +kernel
theorem dX2_restore_36 : decode cX2_restore 36 = .ok (.iconst 0, 1) := by decide +kernel
theorem dX2_restore_37 : decode cX2_restore 37 = .ok (.bipush 96, 2) := by decide +kernel
theorem dX2_restore_39 : decode cX2_restore 39 = .ok (.invokestatic 28, 3) := by decide +kernel
theorem dX2_restore_42 : decode cX2_restore 42 = .ok (.aload_n 1, 1) := by decide +kernel
theorem dX2_restore_43 : decode cX2_restore 43 = .ok (.aload_n 0, 1) := by decide +kernel
theorem dX2_restore_44 : decode cX2_restore 44 = .ok (.getfield 17, 3) := by decide +kernel
theorem dX2_restore_47 : decode cX2_restore 47 = .ok (.aload_n 0, 1) := by decide +kernel
theorem dX2_restore_48 : decode cX2_restore 48 = .ok (.getfield 24, 3) := by decide +kernel
theorem dX2_restore_51 : decode cX2_restore 51 = .ok (.iaload, 1) := by decide +kernel
theorem dX2_restore_52 : decode cX2_restore 52 = .ok (.putfield 34, 3) := by decide +kernel
theorem dX2_restore_55 : decode cX2_restore 55 = .ok (.aload_n 0, 1) := by decide +kernel
theorem dX2_restore_56 : decode cX2_restore 56 = .ok (.dup, 1) := by decide +kernel
theorem dX2_restore_57 : decode cX2_restore 57 = .ok (.getfield 20, 3) := by decide +kernel
theorem dX2_restore_60 : decode cX2_restore 60 = .ok (.iconst 1, 1) := by decide +kernel
theorem dX2_restore_61 : decode cX2_restore 61 = .ok (.isub, 1) := by decide +kernel
theorem dX2_restore_62 : decode cX2_restore 62 = .ok (.putfield 20, 3) := by decide +kernel
theorem dX2_restore_65 : decode cX2_restore 65 = .ok (.return_, 1) := by decide +kernel
theorem dX3_init_0 : decode cX3_init 0 = .ok (.aload_n 0, 1) := by decide +kernel
theorem dX3_init_1 : decode cX3_init 1 = .ok (.invokespecial 3, 3) := by decide +kernel
theorem dX3_init_4 : decode cX3_init 4 = .ok (.aload_n 0, 1) := by decide +kernel
theorem dX3_init_5 : decode cX3_init 5 = .ok (.bipush 20, 2) := by decide +kernel
theorem dX3_init_7 : decode cX3_init 7 = .ok (.newarray .int, 2) := by decide +kernel
theorem dX3_init_9 : decode cX3_init 9 = .ok (.putfield 11, 3) := by decide +kernel
theorem dX3_init_12 : decode cX3_init 12 = .ok (.aload_n 0, 1) := by decide +kernel
theorem dX3_init_13 : decode cX3_init 13 = .ok (.iconst 0, 1) := by decide +kernel
theorem dX3_init_14 : decode cX3_init 14 = .ok (.putfield 15, 3) := by decide +kernel
theorem dX3_init_17 : decode cX3_init 17 = .ok (.aload_n 0, 1) := by decide +kernel
theorem dX3_init_18 : decode cX3_init 18 = .ok (.iconst 0, 1) := by decide +kernel
theorem dX3_init_19 : decode cX3_init 19 = .ok (.putfield 19, 3) := by decide +kernel
theorem dX3_init_22 : decode cX3_init 22 = .ok (.return_, 1) := by decide +kernel
theorem dX3_vertexOf_0 : decode cX3_vertexOf 0 = .ok (.iload_n 0, 1) := by decide +kernel
theorem dX3_vertexOf_1 : decode cX3_vertexOf 1 = .ok (.bipush 10, 2) := by decide +kernel
theorem dX3_vertexOf_3 : decode cX3_vertexOf 3 = .ok (.imul, 1) := by decide +kernel
theorem dX3_vertexOf_4 : decode cX3_vertexOf 4 = .ok (.iload_n 1, 1) := by decide +kernel
theorem dX3_vertexOf_5 : decode cX3_vertexOf 5 = .ok (.iadd, 1) := by decide +kernel
theorem dX3_vertexOf_6 : decode cX3_vertexOf 6 = .ok (.ireturn, 1) := by decide +kernel
theorem dX3_connect_0 : decode cX3_connect 0 = .ok (.aload_n 0, 1) := by decide +kernel
theorem dX3_connect_1 : decode cX3_connect 1 = .ok (.aload_n 1, 1) := by decide +kernel
theorem dX3_connect_2 : decode cX3_connect 2 = .ok (.invokevirtual 22, 3) := by decide +kernel
theorem dX3_connect_5 : decode cX3_connect 5 = .ok (.aload_n 0, 1) := by decide +kernel
theorem dX3_connect_6 : decode cX3_connect 6 = .ok (.aload_n 0, 1) := by decide +kernel
theorem dX3_connect_7 : decode cX3_connect 7 = .ok (.getfield 15, 3) := by decide +kernel
theorem dX3_connect_10 : decode cX3_connect 10 = .ok (.putfield 19, 3) := by decide +kernel
theorem dX3_connect_13 : decode cX3_connect 13 = .ok (.iconst 0, 1) := by decide +kernel
theorem dX3_connect_14 : decode cX3_connect 14 = .ok (.istore_n 3, 1) := by decide +kernel
theorem dX3_connect_15 : decode cX3_connect 15 = .ok (.iload_n 3, 1) := by decide +kernel
theorem dX3_connect_16 : decode cX3_connect 16 = .ok (.aload_n 1, 1) := by decide +kernel
theorem dX3_connect_17 : decode cX3_connect 17 = .ok (.getfield 26, 3) := by decide +kernel
theorem dX3_connect_20 : decode cX3_connect 20 = .ok (.if_icmp .ge 28, 3) := by decide +kernel
theorem dX3_connect_23 : decode cX3_connect 23 = .ok (.iload_n 3, 1) := by decide +kernel
theorem dX3_connect_24 : decode cX3_connect 24 = .ok (.iload_n 2, 1) := by decide +kernel
theorem dX3_connect_25 : decode cX3_connect 25 = .ok (.if_icmp .eq 17, 3) := by decide +kernel
theorem dX3_connect_28 : decode cX3_connect 28 = .ok (.aload_n 0, 1) := by decide +kernel
theorem dX3_connect_29 : decode cX3_connect 29 = .ok (.aload_n 1, 1) := by decide +kernel
theorem dX3_connect_30 : decode cX3_connect 30 = .ok (.iload_n 3, 1) := by decide +kernel
theorem dX3_connect_31 : decode cX3_connect 31 = .ok (.invokestatic 31, 3) := by decide +kernel
theorem dX3_connect_34 : decode cX3_connect 34 = .ok (.aload_n 1, 1) := by decide +kernel
theorem dX3_connect_35 : decode cX3_connect 35 = .ok (.iload_n 3, 1) := by decide +kernel
theorem dX3_connect_36 : decode cX3_connect 36 = .ok (.invokestatic 35, 3) := by decide +kernel
theorem dX3_connect_39 : decode cX3_connect 39 = .ok (.invokevirtual 38, 3) := by decide +kernel
theorem dX3_connect_42 : decode cX3_connect 42 = .ok (.iinc 3 1, 3) := by decide +kernel
theorem dX3_connect_45 : decode cX3_connect 45 = .ok (.goto (-30), 3) := by decide +kernel
theorem dX3_connect_48 : decode cX3_connect 48 = .ok (.return_, 1) := by decide +kernel
theorem dX3_obverseOf_0 : decode cX3_obverseOf 0 = .ok (.iconst 0, 1) := by decide +kernel
theorem dX3_obverseOf_1 : decode cX3_obverseOf 1 = .ok (.aload_n 0, 1) := by decide +kernel
theorem dX3_obverseOf_2 : decode cX3_obverseOf 2 = .ok (.getfield 42, 3) := by decide +kernel
theorem dX3_obverseOf_5 : decode cX3_obverseOf 5 = .ok (.iconst 0, 1) := by decide +kernel
theorem dX3_obverseOf_6 : decode cX3_obverseOf 6 = .ok (.aaload, 1) := by decide +kernel
theorem dX3_obverseOf_7 : decode cX3_obverseOf 7 = .ok (.iload_n 1, 1) := by decide +kernel
theorem dX3_obverseOf_8 : decode cX3_obverseOf 8 = .ok (.iaload, 1) := by decide +kernel
theorem dX3_obverseOf_9 : decode cX3_obverseOf 9 = .ok (.invokestatic 46, 3) := by decide +kernel
theorem dX3_obverseOf_12 : decode cX3_obverseOf 12 = .ok (.ireturn, 1) := by decide +kernel
theorem dX3_reverseOf_0 : decode cX3_reverseOf 0 = .ok (.iconst 1, 1) := by decide +kernel
theorem dX3_reverseOf_1 : decode cX3_reverseOf 1 = .ok (.aload_n 0, 1) := by decide +kernel
theorem dX3_reverseOf_2 : decode cX3_reverseOf 2 = .ok (.getfield 42, 3) := by decide +kernel
theorem dX3_reverseOf_5 : decode cX3_reverseOf 5 = .ok (.iconst 1, 1) := by decide +kernel
theorem dX3_reverseOf_6 : decode cX3_reverseOf 6 = .ok (.aaload, 1) := by decide +kernel
theorem dX3_reverseOf_7 : decode cX3_reverseOf 7 = .ok (.iload_n 1, 1) := by decide +kernel
theorem dX3_reverseOf_8 : decode cX3_reverseOf 8 = .ok (.iaload, 1) := by decide +kernel
theorem dX3_reverseOf_9 : decode cX3_reverseOf 9 = .ok (.invokestatic 46, 3) := by decide +kernel
theorem dX3_reverseOf_12 : decode cX3_reverseOf 12 = .ok (.ireturn, 1) := by decide +kernel
theorem dX3_enterDies_0 : decode cX3_enterDies 0 = .ok (.aload_n 0, 1) := by decide +kernel
theorem dX3_enterDies_1 : decode cX3_enterDies 1 = .ok (.getfield 11, 3) := by decide +kernel
theorem dX3_enterDies_4 : decode cX3_enterDies 4 = .ok (.iconst (-1), 1) := by decide +kernel
theorem dX3_enterDies_5 : decode cX3_enterDies 5 = .ok (.invokestatic 50, 3) := by decide +kernel
theorem dX3_enterDies_8 : decode cX3_enterDies 8 = .ok (.aload_n 0, 1) := by decide +kernel
theorem dX3_enterDies_9 : decode cX3_enterDies 9 = .ok (.iconst 0, 1) := by decide +kernel
theorem dX3_enterDies_10 : decode cX3_enterDies 10 = .ok (.putfield 15, 3) := by decide +kernel
theorem dX3_enterDies_13 : decode cX3_enterDies 13 = .ok (.iconst 0, 1) := by decide +kernel
theorem dX3_enterDies_14 : decode cX3_enterDies 14 = .ok (.istore_n 2, 1) := by decide +kernel
theorem dX3_enterDies_15 : decode cX3_enterDies 15 = .ok (.iload_n 2, 1) := by decide +kernel
theorem dX3_enterDies_16 : decode cX3_enterDies 16 = .ok (.aload_n 1, 1) := by decide +kernel
theorem dX3_enterDies_17 : decode cX3_enterDies 17 = .ok (.getfield 26, 3) := by decide +kernel
theorem dX3_enterDies_20 : decode cX3_enterDies 20 = .ok (.if_icmp .ge 27, 3) := by decide +kernel
theorem dX3_enterDies_23 : decode cX3_enterDies 23 = .ok (.aload_n 0, 1) := by decide +kernel
theorem dX3_enterDies_24 : decode cX3_enterDies 24 = .ok (.aload_n 1, 1) := by decide +kernel
theorem dX3_enterDies_25 : decode cX3_enterDies 25 = .ok (.iload_n 2, 1) := by decide +kernel
theorem dX3_enterDies_26 : decode cX3_enterDies 26 = .ok (.invokestatic 31, 3) := by decide +kernel
theorem dX3_enterDies_29 : decode cX3_enterDies 29 = .ok (.invokevirtual 56, 3) := by decide +kernel
theorem dX3_enterDies_32 : decode cX3_enterDies 32 = .ok (.aload_n 0, 1) := by decide +kernel
theorem dX3_enterDies_33 : decode cX3_enterDies 33 = .ok (.aload_n 1, 1) := by decide +kernel
theorem dX3_enterDies_34 : decode cX3_enterDies 34 = .ok (.iload_n 2, 1) := by decide +kernel
theorem dX3_enterDies_35 : decode cX3_enterDies 35 = .ok (.invokestatic 35, 3) := by decide +kernel
theorem dX3_enterDies_38 : decode cX3_enterDies 38 = .ok (.invokevirtual 56, 3) := by decide +kernel
theorem dX3_enterDies_41 : decode cX3_enterDies 41 = .ok (.iinc 2 1, 3) := by decide +kernel
theorem dX3_enterDies_44 : decode cX3_enterDies 44 = .ok (.goto (-29), 3) := by decide +kernel
theorem dX3_enterDies_47 : decode cX3_enterDies 47 = .ok (.return_, 1) := by decide +kernel
theorem dX3_enterDie_0 : decode cX3_enterDie 0 = .ok (.aload_n 0, 1) := by decide +kernel
theorem dX3_enterDie_1 : decode cX3_enterDie 1 = .ok (.getfield 11, 3) := by decide +kernel
theorem dX3_enterDie_4 : decode cX3_enterDie 4 = .ok (.iload_n 1, 1) := by decide +kernel
theorem dX3_enterDie_5 : decode cX3_enterDie 5 = .ok (.iaload, 1) := by decide +kernel
theorem dX3_enterDie_6 : decode cX3_enterDie 6 = .ok (.iconst (-1), 1) := by decide +kernel
theorem dX3_enterDie_7 : decode cX3_enterDie 7 = .ok (.if_icmp .ne 20, 3) := by decide +kernel
theorem dX3_enterDie_10 : decode cX3_enterDie 10 = .ok (.aload_n 0, 1) := by decide +kernel
theorem dX3_enterDie_11 : decode cX3_enterDie 11 = .ok (.getfield 11, 3) := by decide +kernel
theorem dX3_enterDie_14 : decode cX3_enterDie 14 = .ok (.iload_n 1, 1) := by decide +kernel
theorem dX3_enterDie_15 : decode cX3_enterDie 15 = .ok (.iload_n 1, 1) := by decide +kernel
theorem dX3_enterDie_16 : decode cX3_enterDie 16 = .ok (.iastore, 1) := by decide +kernel
theorem dX3_enterDie_17 : decode cX3_enterDie 17 = .ok (.aload_n 0, 1) := by decide +kernel
theorem dX3_enterDie_18 : decode cX3_enterDie 18 = .ok (.dup, 1) := by decide +kernel
theorem dX3_enterDie_19 : decode cX3_enterDie 19 = .ok (.getfield 15, 3) := by decide +kernel
theorem dX3_enterDie_22 : decode cX3_enterDie 22 = .ok (.iconst 1, 1) := by decide +kernel
theorem dX3_enterDie_23 : decode cX3_enterDie 23 = .ok (.iadd, 1) := by decide +kernel
theorem dX3_enterDie_24 : decode cX3_enterDie 24 = .ok (.putfield 15, 3) := by decide +kernel
theorem dX3_enterDie_27 : decode cX3_enterDie 27 = .ok (.return_, 1) := by decide +kernel
theorem dX3_join_0 : decode cX3_join 0 = .ok (.aload_n 0, 1) := by decide +kernel
theorem dX3_join_1 : decode cX3_join 1 = .ok (.getfield 11, 3) := by decide +kernel
theorem dX3_join_4 : decode cX3_join 4 = .ok (.iload_n 1, 1) := by decide +kernel
theorem dX3_join_5 : decode cX3_join 5 = .ok (.iaload, 1) := by decide +kernel
theorem dX3_join_6 : decode cX3_join 6 = .ok (.istore_n 3, 1) := by decide +kernel
theorem dX3_join_7 : decode cX3_join 7 = .ok (.aload_n 0, 1) := by decide +kernel
theorem dX3_join_8 : decode cX3_join 8 = .ok (.getfield 11, 3) := by decide +kernel
theorem dX3_join_11 : decode cX3_join 11 = .ok (.iload_n 2, 1) := by decide +kernel
theorem dX3_join_12 : decode cX3_join 12 = .ok (.iaload, 1) := by decide +kernel
theorem dX3_join_13 : decode cX3_join 13 = .ok (.istore 4, 2) := by decide +kernel
theorem dX3_join_15 : decode cX3_join 15 = .ok (.iload_n 3, 1) := by decide +kernel
theorem dX3_join_16 : decode cX3_join 16 = .ok (.iload 4, 2) := by decide +kernel
theorem dX3_join_18 : decode cX3_join 18 = .ok (.if_icmp .ne 4, 3) := by decide +kernel
theorem dX3_join_21 : decode cX3_join 21 = .ok (.return_, 1) := by decide +kernel
theorem dX3_join_22 : decode cX3_join 22 = .ok (.iconst 0, 1) := by decide +kernel
theorem dX3_join_23 : decode cX3_join 23 = .ok (.istore 5, 2) := by decide +kernel
theorem dX3_join_25 : decode cX3_join 25 = .ok (.iload 5, 2) := by decide +kernel
theorem dX3_join_27 : decode cX3_join 27 = .ok (.bipush 20, 2) := by decide +kernel
theorem dX3_join_29 : decode cX3_join 29 = .ok (.if_icmp .ge 29, 3) := by decide +kernel
theorem dX3_join_32 : decode cX3_join 32 = .ok (.aload_n 0, 1) := by decide +kernel
theorem dX3_join_33 : decode cX3_join 33 = .ok (.getfield 11, 3) := by decide +kernel
theorem dX3_join_36 : decode cX3_join 36 = .ok (.iload 5, 2) := by decide +kernel
theorem dX3_join_38 : decode cX3_join 38 = .ok (.iaload, 1) := by decide +kernel
theorem dX3_join_39 : decode cX3_join 39 = .ok (.iload 4, 2) := by decide +kernel
theorem dX3_join_41 : decode cX3_join 41 = .ok (.if_icmp .ne 11, 3) := by decide +kernel
theorem dX3_join_44 : decode cX3_join 44 = .ok (.aload_n 0, 1) := by decide +kernel
theorem dX3_join_45 : decode cX3_join 45 = .ok (.getfield 11, 3) := by decide +kernel
theorem dX3_join_48 : decode cX3_join 48 = .ok (.iload 5, 2) := by decide +kernel
theorem dX3_join_50 : decode cX3_join 50 = .ok (.iload_n 3, 1) := by decide +kernel
theorem dX3_join_51 : decode cX3_join 51 = .ok (.iastore, 1) := by decide +kernel
theorem dX3_join_52 : decode cX3_join 52 = .ok (.iinc 5 1, 3) := by decide +kernel
theorem dX3_join_55 : decode cX3_join 55 = .ok (.goto (-30), 3) := by decide +kernel
theorem dX3_join_58 : decode cX3_join 58 = .ok (.aload_n 0, 1) := by decide +kernel
theorem dX3_join_59 : decode cX3_join 59 = .ok (.dup, 1) := by decide +kernel
theorem dX3_join_60 : decode cX3_join 60 = .ok (.getfield 19, 3) := by decide +kernel
theorem dX3_join_63 : decode cX3_join 63 = .ok (.iconst 1, 1) := by decide +kernel
theorem dX3_join_64 : decode cX3_join 64 = .ok (.isub, 1) := by decide +kernel
theorem dX3_join_65 : decode cX3_join 65 = .ok (.putfield 19, 3) := by decide +kernel
theorem dX3_join_68 : decode cX3_join 68 = .ok (.return_, 1) := by decide +kernel
theorem dX3_fallsApartWithout_0 : decode cX3_fallsApartWithout 0 = .ok (.aload_n 0, 1) := by decide +kernel
theorem dX3_fallsApartWithout_1 : decode cX3_fallsApartWithout 1 = .ok (.aload_n 1, 1) := by decide +kernel
theorem dX3_fallsApartWithout_2 : decode cX3_fallsApartWithout 2 = .ok (.iload_n 2, 1) := by decide +kernel
theorem dX3_fallsApartWithout_3 : decode cX3_fallsApartWithout 3 = .ok (.invokevirtual 60, 3) := by decide +kernel
theorem dX3_fallsApartWithout_6 : decode cX3_fallsApartWithout 6 = .ok (.aload_n 0, 1) := by decide +kernel
theorem dX3_fallsApartWithout_7 : decode cX3_fallsApartWithout 7 = .ok (.getfield 11, 3) := by decide +kernel
theorem dX3_fallsApartWithout_10 : decode cX3_fallsApartWithout 10 = .ok (.aload_n 1, 1) := by decide +kernel
theorem dX3_fallsApartWithout_11 : decode cX3_fallsApartWithout 11 = .ok (.iload_n 2, 1) := by decide +kernel
theorem dX3_fallsApartWithout_12 : decode cX3_fallsApartWithout 12 = .ok (.invokestatic 31, 3) := by decide +kernel
theorem dX3_fallsApartWithout_15 : decode cX3_fallsApartWithout 15 = .ok (.iaload, 1) := by decide +kernel
theorem dX3_fallsApartWithout_16 : decode cX3_fallsApartWithout 16 = .ok (.aload_n 0, 1) := by decide +kernel
theorem dX3_fallsApartWithout_17 : decode cX3_fallsApartWithout 17 = .ok (.getfield 11, 3) := by decide +kernel
theorem dX3_fallsApartWithout_20 : decode cX3_fallsApartWithout 20 = .ok (.aload_n 1, 1) := by decide +kernel
theorem dX3_fallsApartWithout_21 : decode cX3_fallsApartWithout 21 = .ok (.iload_n 2, 1) := by decide +kernel
theorem dX3_fallsApartWithout_22 : decode cX3_fallsApartWithout 22 = .ok (.invokestatic 35, 3) := by decide +kernel
theorem dX3_fallsApartWithout_25 : decode cX3_fallsApartWithout 25 = .ok (.iaload, 1) := by decide +kernel
theorem dX3_fallsApartWithout_26 : decode cX3_fallsApartWithout 26 = .ok (.if_icmp .eq 7, 3) := by decide +kernel
theorem dX3_fallsApartWithout_29 : decode cX3_fallsApartWithout 29 = .ok (.iconst 1, 1) := by decide +kernel
theorem dX3_fallsApartWithout_30 : decode cX3_fallsApartWithout 30 = .ok (.goto 4, 3) := by decide +kernel
theorem dX3_fallsApartWithout_33 : decode cX3_fallsApartWithout 33 = .ok (.iconst 0, 1) := by decide +kernel
theorem dX3_fallsApartWithout_34 : decode cX3_fallsApartWithout 34 = .ok (.ireturn, 1) := by decide +kernel
theorem dX3_diesAround_0 : decode cX3_diesAround 0 = .ok (.aload_n 0, 1) := by decide +kernel
theorem dX3_diesAround_1 : decode cX3_diesAround 1 = .ok (.getfield 11, 3) := by decide +kernel
theorem dX3_diesAround_4 : decode cX3_diesAround 4 = .ok (.iload_n 1, 1) := by decide +kernel
theorem dX3_diesAround_5 : decode cX3_diesAround 5 = .ok (.iload_n 2, 1) := by decide +kernel
theorem dX3_diesAround_6 : decode cX3_diesAround 6 = .ok (.invokestatic 46, 3) := by decide +kernel
theorem dX3_diesAround_9 : decode cX3_diesAround 9 = .ok (.iaload, 1) := by decide +kernel
theorem dX3_diesAround_10 : decode cX3_diesAround 10 = .ok (.istore_n 3, 1) := by decide +kernel
theorem dX3_diesAround_11 : decode cX3_diesAround 11 = .ok (.iload_n 3, 1) := by decide +kernel
theorem dX3_diesAround_12 : decode cX3_diesAround 12 = .ok (.iconst (-1), 1) := by decide +kernel
theorem dX3_diesAround_13 : decode cX3_diesAround 13 = .ok (.if_icmp .ne 5, 3) := by decide +kernel
theorem dX3_diesAround_16 : decode cX3_diesAround 16 = .ok (.iconst 0, 1) := by decide +kernel
theorem dX3_diesAround_17 : decode cX3_diesAround 17 = .ok (.ireturn, 1) := by decide +kernel
theorem dX3_diesAround_18 : decode cX3_diesAround 18 = .ok (.iconst 0, 1) := by decide +kernel
theorem dX3_diesAround_19 : decode cX3_diesAround 19 = .ok (.istore 4, 2) := by decide +kernel
theorem dX3_diesAround_21 : decode cX3_diesAround 21 = .ok (.iconst 0, 1) := by decide +kernel
theorem dX3_diesAround_22 : decode cX3_diesAround 22 = .ok (.istore 5, 2) := by decide +kernel
theorem dX3_diesAround_24 : decode cX3_diesAround 24 = .ok (.iload 5, 2) := by decide +kernel
theorem dX3_diesAround_26 : decode cX3_diesAround 26 = .ok (.bipush 20, 2) := by decide +kernel
theorem dX3_diesAround_28 : decode cX3_diesAround 28 = .ok (.if_icmp .ge 23, 3) := by decide +kernel
theorem dX3_diesAround_31 : decode cX3_diesAround 31 = .ok (.aload_n 0, 1) := by decide +kernel
theorem dX3_diesAround_32 : decode cX3_diesAround 32 = .ok (.getfield 11, 3) := by decide +kernel
theorem dX3_diesAround_35 : decode cX3_diesAround 35 = .ok (.iload 5, 2) := by decide +kernel
theorem dX3_diesAround_37 : decode cX3_diesAround 37 = .ok (.iaload, 1) := by decide +kernel
theorem dX3_diesAround_38 : decode cX3_diesAround 38 = .ok (.iload_n 3, 1) := by decide +kernel
theorem dX3_diesAround_39 : decode cX3_diesAround 39 = .ok (.if_icmp .ne 6, 3) := by decide +kernel
theorem dX3_diesAround_42 : decode cX3_diesAround 42 = .ok (.iinc 4 1, 3) := by decide +kernel
theorem dX3_diesAround_45 : decode cX3_diesAround 45 = .ok (.iinc 5 1, 3) := by decide +kernel
theorem dX3_diesAround_48 : decode cX3_diesAround 48 = .ok (.goto (-24), 3) := by decide +kernel
theorem dX3_diesAround_51 : decode cX3_diesAround 51 = .ok (.iload 4, 2) := by decide +kernel
theorem dX3_diesAround_53 : decode cX3_diesAround 53 = .ok (.ireturn, 1) := by decide +kernel
theorem dX4_init_0 : decode cX4_init 0 = .ok (.aload_n 0, 1) := by decide +kernel
theorem dX4_init_1 : decode cX4_init 1 = .ok (.invokespecial 5, 3) := by decide +kernel
theorem dX4_init_4 : decode cX4_init 4 = .ok (.aload_n 0, 1) := by decide +kernel
theorem dX4_init_5 : decode cX4_init 5 = .ok (.bipush 96, 2) := by decide +kernel
theorem dX4_init_7 : decode cX4_init 7 = .ok (.newarray .int, 2) := by decide +kernel
theorem dX4_init_9 : decode cX4_init 9 = .ok (.putfield 11, 3) := by decide +kernel
theorem dX4_init_12 : decode cX4_init 12 = .ok (.aload_n 0, 1) := by decide +kernel
theorem dX4_init_13 : decode cX4_init 13 = .ok (.iconst 0, 1) := by decide +kernel
theorem dX4_init_14 : decode cX4_init 14 = .ok (.putfield 15, 3) := by decide +kernel
theorem dX4_init_17 : decode cX4_init 17 = .ok (.return_, 1) := by decide +kernel
theorem dX4_has_0 : decode cX4_has 0 = .ok (.iload_n 1, 1) := by decide +kernel
theorem dX4_has_1 : decode cX4_has 1 = .ok (.ifCond .lt 15, 3) := by decide +kernel
theorem dX4_has_4 : decode cX4_has 4 = .ok (.iload_n 1, 1) := by decide +kernel
theorem dX4_has_5 : decode cX4_has 5 = .ok (.aload_n 0, 1) := by decide +kernel
theorem dX4_has_6 : decode cX4_has 6 = .ok (.getfield 15, 3) := by decide +kernel
theorem dX4_has_9 : decode cX4_has 9 = .ok (.if_icmp .ge 7, 3) := by decide +kernel
theorem dX4_has_12 : decode cX4_has 12 = .ok (.iconst 1, 1) := by decide +kernel
theorem dX4_has_13 : decode cX4_has 13 = .ok (.goto 4, 3) := by decide +kernel
theorem dX4_has_16 : decode cX4_has 16 = .ok (.iconst 0, 1) := by decide +kernel
theorem dX4_has_17 : decode cX4_has 17 = .ok (.ireturn, 1) := by decide +kernel
theorem dX4_die_0 : decode cX4_die 0 = .ok (.aload_n 0, 1) := by decide +kernel
theorem dX4_die_1 : decode cX4_die 1 = .ok (.getfield 11, 3) := by decide +kernel
theorem dX4_die_4 : decode cX4_die 4 = .ok (.iload_n 1, 1) := by decide +kernel
theorem dX4_die_5 : decode cX4_die 5 = .ok (.iconst 4, 1) := by decide +kernel
theorem dX4_die_6 : decode cX4_die 6 = .ok (.imul, 1) := by decide +kernel
theorem dX4_die_7 : decode cX4_die 7 = .ok (.iload_n 2, 1) := by decide +kernel
theorem dX4_die_8 : decode cX4_die 8 = .ok (.iadd, 1) := by decide +kernel
theorem dX4_die_9 : decode cX4_die 9 = .ok (.iaload, 1) := by decide +kernel
theorem dX4_die_10 : decode cX4_die 10 = .ok (.ireturn, 1) := by decide +kernel
theorem dX4_putDie_0 : decode cX4_putDie 0 = .ok (.aload_n 0, 1) := by decide +kernel
theorem dX4_putDie_1 : decode cX4_putDie 1 = .ok (.getfield 11, 3) := by decide +kernel
theorem dX4_putDie_4 : decode cX4_putDie 4 = .ok (.iload_n 1, 1) := by decide +kernel
theorem dX4_putDie_5 : decode cX4_putDie 5 = .ok (.iconst 4, 1) := by decide +kernel
theorem dX4_putDie_6 : decode cX4_putDie 6 = .ok (.imul, 1) := by decide +kernel
theorem dX4_putDie_7 : decode cX4_putDie 7 = .ok (.iload_n 2, 1) := by decide +kernel
theorem dX4_putDie_8 : decode cX4_putDie 8 = .ok (.iadd, 1) := by decide +kernel
theorem dX4_putDie_9 : decode cX4_putDie 9 = .ok (.iload_n 3, 1) := by decide +kernel
theorem dX4_putDie_10 : decode cX4_putDie 10 = .ok (.iastore, 1) := by decide +kernel
theorem dX4_putDie_11 : decode cX4_putDie 11 = .ok (.return_, 1) := by decide +kernel
theorem dX4_wear_0 : decode cX4_wear 0 = .ok (.aload_n 0, 1) := by decide +kernel
theorem dX4_wear_1 : decode cX4_wear 1 = .ok (.getfield 11, 3) := by decide +kernel
theorem dX4_wear_4 : decode cX4_wear 4 = .ok (.iload_n 1, 1) := by decide +kernel
theorem dX4_wear_5 : decode cX4_wear 5 = .ok (.iconst 4, 1) := by decide +kernel
theorem dX4_wear_6 : decode cX4_wear 6 = .ok (.imul, 1) := by decide +kernel
theorem dX4_wear_7 : decode cX4_wear 7 = .ok (.iconst 2, 1) := by decide +kernel
theorem dX4_wear_8 : decode cX4_wear 8 = .ok (.iadd, 1) := by decide +kernel
theorem dX4_wear_9 : decode cX4_wear 9 = .ok (.iload_n 2, 1) := by decide +kernel
theorem dX4_wear_10 : decode cX4_wear 10 = .ok (.iadd, 1) := by decide +kernel
theorem dX4_wear_11 : decode cX4_wear 11 = .ok (.iaload, 1) := by decide +kernel
theorem dX4_wear_12 : decode cX4_wear 12 = .ok (.ireturn, 1) := by decide +kernel
theorem dX4_putWear_0 : decode cX4_putWear 0 = .ok (.aload_n 0, 1) := by decide +kernel
theorem dX4_putWear_1 : decode cX4_putWear 1 = .ok (.getfield 11, 3) := by decide +kernel
theorem dX4_putWear_4 : decode cX4_putWear 4 = .ok (.iload_n 1, 1) := by decide +kernel
theorem dX4_putWear_5 : decode cX4_putWear 5 = .ok (.iconst 4, 1) := by decide +kernel
theorem dX4_putWear_6 : decode cX4_putWear 6 = .ok (.imul, 1) := by decide +kernel
theorem dX4_putWear_7 : decode cX4_putWear 7 = .ok (.iconst 2, 1) := by decide +kernel
theorem dX4_putWear_8 : decode cX4_putWear 8 = .ok (.iadd, 1) := by decide +kernel
theorem dX4_putWear_9 : decode cX4_putWear 9 = .ok (.iload_n 2, 1) := by decide +kernel
theorem dX4_putWear_10 : decode cX4_putWear 10 = .ok (.iadd, 1) := by decide +kernel
theorem dX4_putWear_11 : decode cX4_putWear 11 = .ok (.iload_n 3, 1) := by decide +kernel
theorem dX4_putWear_12 : decode cX4_putWear 12 = .ok (.iastore, 1) := by decide +kernel
theorem dX4_putWear_13 : decode cX4_putWear 13 = .ok (.return_, 1) := by decide +kernel
theorem dX4_close_0 : decode cX4_close 0 = .ok (.iload_n 1, 1) := by decide +kernel
theorem dX4_close_1 : decode cX4_close 1 = .ok (.iconst 4, 1) := by decide +kernel
theorem dX4_close_2 : decode cX4_close 2 = .ok (.imul, 1) := by decide +kernel
theorem dX4_close_3 : decode cX4_close 3 = .ok (.istore_n 2, 1) := by decide +kernel
theorem dX4_close_4 : decode cX4_close 4 = .ok (.iload_n 2, 1) := by decide +kernel
theorem dX4_close_5 : decode cX4_close 5 = .ok (.iconst 4, 1) := by decide +kernel
theorem dX4_close_6 : decode cX4_close 6 = .ok (.iadd, 1) := by decide +kernel
theorem dX4_close_7 : decode cX4_close 7 = .ok (.istore_n 3, 1) := by decide +kernel
theorem dX4_close_8 : decode cX4_close 8 = .ok (.aload_n 0, 1) := by decide +kernel
theorem dX4_close_9 : decode cX4_close 9 = .ok (.getfield 11, 3) := by decide +kernel
theorem dX4_close_12 : decode cX4_close 12 = .ok (.iload_n 3, 1) := by decide +kernel
theorem dX4_close_13 : decode cX4_close 13 = .ok (.aload_n 0, 1) := by decide +kernel
theorem dX4_close_14 : decode cX4_close 14 = .ok (.getfield 11, 3) := by decide +kernel
theorem dX4_close_17 : decode cX4_close 17 = .ok (.iload_n 2, 1) := by decide +kernel
theorem dX4_close_18 : decode cX4_close 18 = .ok (.aload_n 0, 1) := by decide +kernel
theorem dX4_close_19 : decode cX4_close 19 = .ok (.getfield 15, 3) := by decide +kernel
theorem dX4_close_22 : decode cX4_close 22 = .ok (.iconst 4, 1) := by decide +kernel
theorem dX4_close_23 : decode cX4_close 23 = .ok (.imul, 1) := by decide +kernel
theorem dX4_close_24 : decode cX4_close 24 = .ok (.iload_n 3, 1) := by decide +kernel
theorem dX4_close_25 : decode cX4_close 25 = .ok (.isub, 1) := by decide +kernel
theorem dX4_close_26 : decode cX4_close 26 = .ok (.invokestatic 19, 3) := by decide +kernel
theorem dX4_close_29 : decode cX4_close 29 = .ok (.aload_n 0, 1) := by decide +kernel
theorem dX4_close_30 : decode cX4_close 30 = .ok (.dup, 1) := by decide +kernel
theorem dX4_close_31 : decode cX4_close 31 = .ok (.getfield 15, 3) := by decide +kernel
theorem dX4_close_34 : decode cX4_close 34 = .ok (.iconst 1, 1) := by decide +kernel
theorem dX4_close_35 : decode cX4_close 35 = .ok (.isub, 1) := by decide +kernel
theorem dX4_close_36 : decode cX4_close 36 = .ok (.putfield 15, 3) := by decide +kernel
theorem dX4_close_39 : decode cX4_close 39 = .ok (.return_, 1) := by decide +kernel
theorem dX4_replaceDie_0 : decode cX4_replaceDie 0 = .ok (.iconst 0, 1) := by decide +kernel
theorem dX4_replaceDie_1 : decode cX4_replaceDie 1 = .ok (.istore 4, 2) := by decide +kernel
theorem dX4_replaceDie_3 : decode cX4_replaceDie 3 = .ok (.iconst 0, 1) := by decide +kernel
theorem dX4_replaceDie_4 : decode cX4_replaceDie 4 = .ok (.istore 5, 2) := by decide +kernel
theorem dX4_replaceDie_6 : decode cX4_replaceDie 6 = .ok (.iload 5, 2) := by decide +kernel
theorem dX4_replaceDie_8 : decode cX4_replaceDie 8 = .ok (.aload_n 0, 1) := by decide +kernel
theorem dX4_replaceDie_9 : decode cX4_replaceDie 9 = .ok (.getfield 15, 3) := by decide +kernel
theorem dX4_replaceDie_12 : decode cX4_replaceDie 12 = .ok (.if_icmp .ge 31, 3) := by decide +kernel
theorem dX4_replaceDie_15 : decode cX4_replaceDie 15 = .ok (.aload_n 0, 1) := by decide +kernel
theorem dX4_replaceDie_16 : decode cX4_replaceDie 16 = .ok (.iload 5, 2) := by decide +kernel
theorem dX4_replaceDie_18 : decode cX4_replaceDie 18 = .ok (.iload_n 1, 1) := by decide +kernel
theorem dX4_replaceDie_19 : decode cX4_replaceDie 19 = .ok (.invokevirtual 25, 3) := by decide +kernel
theorem dX4_replaceDie_22 : decode cX4_replaceDie 22 = .ok (.iload_n 2, 1) := by decide +kernel
theorem dX4_replaceDie_23 : decode cX4_replaceDie 23 = .ok (.if_icmp .ne 14, 3) := by decide +kernel
theorem dX4_replaceDie_26 : decode cX4_replaceDie 26 = .ok (.aload_n 0, 1) := by decide +kernel
theorem dX4_replaceDie_27 : decode cX4_replaceDie 27 = .ok (.iload 5, 2) := by decide +kernel
theorem dX4_replaceDie_29 : decode cX4_replaceDie 29 = .ok (.iload_n 1, 1) := by decide +kernel
theorem dX4_replaceDie_30 : decode cX4_replaceDie 30 = .ok (.iload_n 3, 1) := by decide +kernel
theorem dX4_replaceDie_31 : decode cX4_replaceDie 31 = .ok (.invokevirtual 29, 3) := by decide +kernel
theorem dX4_replaceDie_34 : decode cX4_replaceDie 34 = .ok (.iinc 4 1, 3) := by decide +kernel
theorem dX4_replaceDie_37 : decode cX4_replaceDie 37 = .ok (.iinc 5 1, 3) := by decide +kernel
theorem dX4_replaceDie_40 : decode cX4_replaceDie 40 = .ok (.goto (-34), 3) := by decide +kernel
theorem dX4_replaceDie_43 : decode cX4_replaceDie 43 = .ok (.iload 4, 2) := by decide +kernel
theorem dX4_replaceDie_45 : decode cX4_replaceDie 45 = .ok (.ireturn, 1) := by decide +kernel
theorem dX4_struckWith_0 : decode cX4_struckWith 0 = .ok (.iconst 0, 1) := by decide +kernel
theorem dX4_struckWith_1 : decode cX4_struckWith 1 = .ok (.istore_n 3, 1) := by decide +kernel
theorem dX4_struckWith_2 : decode cX4_struckWith 2 = .ok (.iconst 0, 1) := by decide +kernel
theorem dX4_struckWith_3 : decode cX4_struckWith 3 = .ok (.istore 4, 2) := by decide +kernel
theorem dX4_struckWith_5 : decode cX4_struckWith 5 = .ok (.iload 4, 2) := by decide +kernel
theorem dX4_struckWith_7 : decode cX4_struckWith 7 = .ok (.aload_n 0, 1) := by decide +kernel
theorem dX4_struckWith_8 : decode cX4_struckWith 8 = .ok (.getfield 15, 3) := by decide +kernel
theorem dX4_struckWith_11 : decode cX4_struckWith 11 = .ok (.if_icmp .ge 23, 3) := by decide +kernel
theorem dX4_struckWith_14 : decode cX4_struckWith 14 = .ok (.aload_n 0, 1) := by decide +kernel
theorem dX4_struckWith_15 : decode cX4_struckWith 15 = .ok (.iload 4, 2) := by decide +kernel
theorem dX4_struckWith_17 : decode cX4_struckWith 17 = .ok (.iload_n 1, 1) := by decide +kernel
theorem dX4_struckWith_18 : decode cX4_struckWith 18 = .ok (.invokevirtual 25, 3) := by decide +kernel
theorem dX4_struckWith_21 : decode cX4_struckWith 21 = .ok (.iload_n 2, 1) := by decide +kernel
theorem dX4_struckWith_22 : decode cX4_struckWith 22 = .ok (.if_icmp .ne 6, 3) := by decide +kernel
theorem dX4_struckWith_25 : decode cX4_struckWith 25 = .ok (.iinc 3 1, 3) := by decide +kernel
theorem dX4_struckWith_28 : decode cX4_struckWith 28 = .ok (.iinc 4 1, 3) := by decide +kernel
theorem dX4_struckWith_31 : decode cX4_struckWith 31 = .ok (.goto (-26), 3) := by decide +kernel
theorem dX4_struckWith_34 : decode cX4_struckWith 34 = .ok (.iload_n 3, 1) := by decide +kernel
theorem dX4_struckWith_35 : decode cX4_struckWith 35 = .ok (.ireturn, 1) := by decide +kernel
theorem dX4_wearSum_0 : decode cX4_wearSum 0 = .ok (.iconst 0, 1) := by decide +kernel
theorem dX4_wearSum_1 : decode cX4_wearSum 1 = .ok (.istore_n 3, 1) := by decide +kernel
theorem dX4_wearSum_2 : decode cX4_wearSum 2 = .ok (.iconst 0, 1) := by decide +kernel
theorem dX4_wearSum_3 : decode cX4_wearSum 3 = .ok (.istore 4, 2) := by decide +kernel
theorem dX4_wearSum_5 : decode cX4_wearSum 5 = .ok (.iload 4, 2) := by decide +kernel
theorem dX4_wearSum_7 : decode cX4_wearSum 7 = .ok (.aload_n 0, 1) := by decide +kernel
theorem dX4_wearSum_8 : decode cX4_wearSum 8 = .ok (.getfield 15, 3) := by decide +kernel
theorem dX4_wearSum_11 : decode cX4_wearSum 11 = .ok (.if_icmp .ge 30, 3) := by decide +kernel
theorem dX4_wearSum_14 : decode cX4_wearSum 14 = .ok (.aload_n 0, 1) := by decide +kernel
theorem dX4_wearSum_15 : decode cX4_wearSum 15 = .ok (.iload 4, 2) := by decide +kernel
theorem dX4_wearSum_17 : decode cX4_wearSum 17 = .ok (.iload_n 1, 1) := by decide +kernel
theorem dX4_wearSum_18 : decode cX4_wearSum 18 = .ok (.invokevirtual 25, 3) := by decide +kernel
theorem dX4_wearSum_21 : decode cX4_wearSum 21 = .ok (.iload_n 2, 1) := by decide +kernel
theorem dX4_wearSum_22 : decode cX4_wearSum 22 = .ok (.if_icmp .ne 13, 3) := by decide +kernel
theorem dX4_wearSum_25 : decode cX4_wearSum 25 = .ok (.iload_n 3, 1) := by decide +kernel
theorem dX4_wearSum_26 : decode cX4_wearSum 26 = .ok (.aload_n 0, 1) := by decide +kernel
theorem dX4_wearSum_27 : decode cX4_wearSum 27 = .ok (.iload 4, 2) := by decide +kernel
theorem dX4_wearSum_29 : decode cX4_wearSum 29 = .ok (.iload_n 1, 1) := by decide +kernel
theorem dX4_wearSum_30 : decode cX4_wearSum 30 = .ok (.invokevirtual 33, 3) := by decide +kernel
theorem dX4_wearSum_33 : decode cX4_wearSum 33 = .ok (.iadd, 1) := by decide +kernel
theorem dX4_wearSum_34 : decode cX4_wearSum 34 = .ok (.istore_n 3, 1) := by decide +kernel
theorem dX4_wearSum_35 : decode cX4_wearSum 35 = .ok (.iinc 4 1, 3) := by decide +kernel
theorem dX4_wearSum_38 : decode cX4_wearSum 38 = .ok (.goto (-33), 3) := by decide +kernel
theorem dX4_wearSum_41 : decode cX4_wearSum 41 = .ok (.iload_n 3, 1) := by decide +kernel
theorem dX4_wearSum_42 : decode cX4_wearSum 42 = .ok (.ireturn, 1) := by decide +kernel
theorem dX4_knownDies_0 : decode cX4_knownDies 0 = .ok (.iconst 0, 1) := by decide +kernel
theorem dX4_knownDies_1 : decode cX4_knownDies 1 = .ok (.istore_n 2, 1) := by decide +kernel
theorem dX4_knownDies_2 : decode cX4_knownDies 2 = .ok (.iconst 0, 1) := by decide +kernel
theorem dX4_knownDies_3 : decode cX4_knownDies 3 = .ok (.istore_n 3, 1) := by decide +kernel
theorem dX4_knownDies_4 : decode cX4_knownDies 4 = .ok (.iload_n 3, 1) := by decide +kernel
theorem dX4_knownDies_5 : decode cX4_knownDies 5 = .ok (.bipush 10, 2) := by decide +kernel
theorem dX4_knownDies_7 : decode cX4_knownDies 7 = .ok (.if_icmp .ge 21, 3) := by decide +kernel
theorem dX4_knownDies_10 : decode cX4_knownDies 10 = .ok (.aload_n 0, 1) := by decide +kernel
theorem dX4_knownDies_11 : decode cX4_knownDies 11 = .ok (.iload_n 1, 1) := by decide +kernel
theorem dX4_knownDies_12 : decode cX4_knownDies 12 = .ok (.iload_n 3, 1) := by decide +kernel
theorem dX4_knownDies_13 : decode cX4_knownDies 13 = .ok (.invokevirtual 36, 3) := by decide +kernel
theorem dX4_knownDies_16 : decode cX4_knownDies 16 = .ok (.ifCond .le 6, 3) := by decide +kernel
theorem dX4_knownDies_19 : decode cX4_knownDies 19 = .ok (.iinc 2 1, 3) := by decide +kernel
theorem dX4_knownDies_22 : decode cX4_knownDies 22 = .ok (.iinc 3 1, 3) := by decide +kernel
theorem dX4_knownDies_25 : decode cX4_knownDies 25 = .ok (.goto (-21), 3) := by decide +kernel
theorem dX4_knownDies_28 : decode cX4_knownDies 28 = .ok (.iload_n 2, 1) := by decide +kernel
theorem dX4_knownDies_29 : decode cX4_knownDies 29 = .ok (.ireturn, 1) := by decide +kernel
theorem dX4_diesStruckOnce_0 : decode cX4_diesStruckOnce 0 = .ok (.iconst 0, 1) := by decide +kernel
theorem dX4_diesStruckOnce_1 : decode cX4_diesStruckOnce 1 = .ok (.istore_n 2, 1) := by decide +kernel
theorem dX4_diesStruckOnce_2 : decode cX4_diesStruckOnce 2 = .ok (.iconst 0, 1) := by decide +kernel
theorem dX4_diesStruckOnce_3 : decode cX4_diesStruckOnce 3 = .ok (.istore_n 3, 1) := by decide +kernel
theorem dX4_diesStruckOnce_4 : decode cX4_diesStruckOnce 4 = .ok (.iload_n 3, 1) := by decide +kernel
theorem dX4_diesStruckOnce_5 : decode cX4_diesStruckOnce 5 = .ok (.bipush 10, 2) := by decide +kernel
theorem dX4_diesStruckOnce_7 : decode cX4_diesStruckOnce 7 = .ok (.if_icmp .ge 22, 3) := by decide +kernel
theorem dX4_diesStruckOnce_10 : decode cX4_diesStruckOnce 10 = .ok (.aload_n 0, 1) := by decide +kernel
theorem dX4_diesStruckOnce_11 : decode cX4_diesStruckOnce 11 = .ok (.iload_n 1, 1) := by decide +kernel
theorem dX4_diesStruckOnce_12 : decode cX4_diesStruckOnce 12 = .ok (.iload_n 3, 1) := by decide +kernel
theorem dX4_diesStruckOnce_13 : decode cX4_diesStruckOnce 13 = .ok (.invokevirtual 36, 3) := by decide +kernel
theorem dX4_diesStruckOnce_16 : decode cX4_diesStruckOnce 16 = .ok (.iconst 1, 1) := by decide +kernel
theorem dX4_diesStruckOnce_17 : decode cX4_diesStruckOnce 17 = .ok (.if_icmp .ne 6, 3) := by decide +kernel
theorem dX4_diesStruckOnce_20 : decode cX4_diesStruckOnce 20 = .ok (.iinc 2 1, 3) := by decide +kernel
theorem dX4_diesStruckOnce_23 : decode cX4_diesStruckOnce 23 = .ok (.iinc 3 1, 3) := by decide +kernel
theorem dX4_diesStruckOnce_26 : decode cX4_diesStruckOnce 26 = .ok (.goto (-22), 3) := by decide +kernel
theorem dX4_diesStruckOnce_29 : decode cX4_diesStruckOnce 29 = .ok (.iload_n 2, 1) := by decide +kernel
theorem dX4_diesStruckOnce_30 : decode cX4_diesStruckOnce 30 = .ok (.ireturn, 1) := by decide +kernel
theorem dX5_init_0 : decode cX5_init 0 = .ok (.aload_n 0, 1) := by decide +kernel
theorem dX5_init_1 : decode cX5_init 1 = .ok (.invokespecial 1, 3) := by decide +kernel
theorem dX5_init_4 : decode cX5_init 4 = .ok (.aload_n 0, 1) := by decide +kernel
theorem dX5_init_5 : decode cX5_init 5 = .ok (.new 7, 3) := by decide +kernel
theorem dX5_init_8 : decode cX5_init 8 = .ok (.dup, 1) := by decide +kernel
theorem dX5_init_9 : decode cX5_init 9 = .ok (.invokespecial 9, 3) := by decide +kernel
theorem dX5_init_12 : decode cX5_init 12 = .ok (.putfield 10, 3) := by decide +kernel
theorem dX5_init_15 : decode cX5_init 15 = .ok (.aload_n 0, 1) := by decide +kernel
theorem dX5_init_16 : decode cX5_init 16 = .ok (.new 16, 3) := by decide +kernel
theorem dX5_init_19 : decode cX5_init 19 = .ok (.dup, 1) := by decide +kernel
theorem dX5_init_20 : decode cX5_init 20 = .ok (.invokespecial 18, 3) := by decide +kernel
theorem dX5_init_23 : decode cX5_init 23 = .ok (.putfield 19, 3) := by decide +kernel
theorem dX5_init_26 : decode cX5_init 26 = .ok (.aload_n 0, 1) := by decide +kernel
theorem dX5_init_27 : decode cX5_init 27 = .ok (.new 23, 3) := by decide +kernel
theorem dX5_init_30 : decode cX5_init 30 = .ok (.dup, 1) := by decide +kernel
theorem dX5_init_31 : decode cX5_init 31 = .ok (.invokespecial 25, 3) := by decide +kernel
theorem dX5_init_34 : decode cX5_init 34 = .ok (.putfield 26, 3) := by decide +kernel
theorem dX5_init_37 : decode cX5_init 37 = .ok (.aload_n 0, 1) := by decide +kernel
theorem dX5_init_38 : decode cX5_init 38 = .ok (.new 30, 3) := by decide +kernel
theorem dX5_init_41 : decode cX5_init 41 = .ok (.dup, 1) := by decide +kernel
theorem dX5_init_42 : decode cX5_init 42 = .ok (.invokespecial 32, 3) := by decide +kernel
theorem dX5_init_45 : decode cX5_init 45 = .ok (.putfield 33, 3) := by decide +kernel
theorem dX5_init_48 : decode cX5_init 48 = .ok (.aload_n 0, 1) := by decide +kernel
theorem dX5_init_49 : decode cX5_init 49 = .ok (.new 37, 3) := by decide +kernel
theorem dX5_init_52 : decode cX5_init 52 = .ok (.dup, 1) := by decide +kernel
theorem dX5_init_53 : decode cX5_init 53 = .ok (.invokespecial 39, 3) := by decide +kernel
theorem dX5_init_56 : decode cX5_init 56 = .ok (.putfield 40, 3) := by decide +kernel
theorem dX5_init_59 : decode cX5_init 59 = .ok (.return_, 1) := by decide +kernel
theorem dX5_addSpecimen_0 : decode cX5_addSpecimen 0 = .ok (.iload_n 1, 1) := by decide +kernel
theorem dX5_addSpecimen_1 : decode cX5_addSpecimen 1 = .ok (.invokestatic 44, 3) := by decide +kernel
theorem dX5_addSpecimen_4 : decode cX5_addSpecimen 4 = .ok (.ifCond .eq 25, 3) := by decide +kernel
theorem dX5_addSpecimen_7 : decode cX5_addSpecimen 7 = .ok (.iload_n 2, 1) := by decide +kernel
theorem dX5_addSpecimen_8 : decode cX5_addSpecimen 8 = .ok (.invokestatic 44, 3) := by decide +kernel
theorem dX5_addSpecimen_11 : decode cX5_addSpecimen 11 = .ok (.ifCond .eq 18, 3) := by decide +kernel
theorem dX5_addSpecimen_14 : decode cX5_addSpecimen 14 = .ok (.iload_n 3, 1) := by decide +kernel
theorem dX5_addSpecimen_15 : decode cX5_addSpecimen 15 = .ok (.invokestatic 48, 3) := by decide +kernel
theorem dX5_addSpecimen_18 : decode cX5_addSpecimen 18 = .ok (.ifCond .eq 11, 3) := by decide +kernel
theorem dX5_addSpecimen_21 : decode cX5_addSpecimen 21 = .ok (.iload 4, 2) := by decide +kernel
theorem dX5_addSpecimen_23 : decode cX5_addSpecimen 23 = .ok (.invokestatic 48, 3) := by decide +kernel
theorem dX5_addSpecimen_26 : decode cX5_addSpecimen 26 = .ok (.ifCond .ne 5, 3) := by decide +kernel
theorem dX5_addSpecimen_29 : decode cX5_addSpecimen 29 = .ok (.iconst (-1), 1) := by decide +kernel
theorem dX5_addSpecimen_30 : decode cX5_addSpecimen 30 = .ok (.ireturn, 1) := by decide +kernel
theorem dX5_addSpecimen_31 : decode cX5_addSpecimen 31 = .ok (.aload_n 0, 1) := by decide +kernel
theorem dX5_addSpecimen_32 : decode cX5_addSpecimen 32 = .ok (.getfield 10, 3) := by decide +kernel
theorem dX5_addSpecimen_35 : decode cX5_addSpecimen 35 = .ok (.getfield 51, 3) := by decide +kernel
theorem dX5_addSpecimen_38 : decode cX5_addSpecimen 38 = .ok (.bipush 24, 2) := by decide +kernel
theorem dX5_addSpecimen_40 : decode cX5_addSpecimen 40 = .ok (.if_icmp .lt 6, 3) := by decide +kernel
theorem dX5_addSpecimen_43 : decode cX5_addSpecimen 43 = .ok (.bipush (-2), 2) := by decide +kernel
theorem dX5_addSpecimen_45 : decode cX5_addSpecimen 45 = .ok (.ireturn, 1) := by decide +kernel
theorem dX5_addSpecimen_46 : decode cX5_addSpecimen 46 = .ok (.aload_n 0, 1) := by decide +kernel
theorem dX5_addSpecimen_47 : decode cX5_addSpecimen 47 = .ok (.getfield 19, 3) := by decide +kernel
theorem dX5_addSpecimen_50 : decode cX5_addSpecimen 50 = .ok (.aload_n 0, 1) := by decide +kernel
theorem dX5_addSpecimen_51 : decode cX5_addSpecimen 51 = .ok (.getfield 10, 3) := by decide +kernel
theorem dX5_addSpecimen_54 : decode cX5_addSpecimen 54 = .ok (.invokevirtual 55, 3) := by decide +kernel
theorem dX5_addSpecimen_57 : decode cX5_addSpecimen 57 = .ok (.aload_n 0, 1) := by decide +kernel
theorem dX5_addSpecimen_58 : decode cX5_addSpecimen 58 = .ok (.getfield 10, 3) := by decide +kernel
theorem dX5_addSpecimen_61 : decode cX5_addSpecimen 61 = .ok (.getfield 51, 3) := by decide +kernel
theorem dX5_addSpecimen_64 : decode cX5_addSpecimen 64 = .ok (.istore 5, 2) := by decide +kernel
theorem dX5_addSpecimen_66 : decode cX5_addSpecimen 66 = .ok (.aload_n 0, 1) := by decide +kernel
theorem dX5_addSpecimen_67 : decode cX5_addSpecimen 67 = .ok (.getfield 10, 3) := by decide +kernel
theorem dX5_addSpecimen_70 : decode cX5_addSpecimen 70 = .ok (.iload 5, 2) := by decide +kernel
theorem dX5_addSpecimen_72 : decode cX5_addSpecimen 72 = .ok (.iconst 1, 1) := by decide +kernel
theorem dX5_addSpecimen_73 : decode cX5_addSpecimen 73 = .ok (.iadd, 1) := by decide +kernel
theorem dX5_addSpecimen_74 : decode cX5_addSpecimen 74 = .ok (.putfield 51, 3) := by decide +kernel
theorem dX5_addSpecimen_77 : decode cX5_addSpecimen 77 = .ok (.aload_n 0, 1) := by decide +kernel
theorem dX5_addSpecimen_78 : decode cX5_addSpecimen 78 = .ok (.getfield 10, 3) := by decide +kernel
theorem dX5_addSpecimen_81 : decode cX5_addSpecimen 81 = .ok (.iload 5, 2) := by decide +kernel
theorem dX5_addSpecimen_83 : decode cX5_addSpecimen 83 = .ok (.iconst 0, 1) := by decide +kernel
theorem dX5_addSpecimen_84 : decode cX5_addSpecimen 84 = .ok (.iload_n 1, 1) := by decide +kernel
theorem dX5_addSpecimen_85 : decode cX5_addSpecimen 85 = .ok (.invokevirtual 59, 3) := by decide +kernel
theorem dX5_addSpecimen_88 : decode cX5_addSpecimen 88 = .ok (.aload_n 0, 1) := by decide +kernel
theorem dX5_addSpecimen_89 : decode cX5_addSpecimen 89 = .ok (.getfield 10, 3) := by decide +kernel
theorem dX5_addSpecimen_92 : decode cX5_addSpecimen 92 = .ok (.iload 5, 2) := by decide +kernel
theorem dX5_addSpecimen_94 : decode cX5_addSpecimen 94 = .ok (.iconst 1, 1) := by decide +kernel
theorem dX5_addSpecimen_95 : decode cX5_addSpecimen 95 = .ok (.iload_n 2, 1) := by decide +kernel
theorem dX5_addSpecimen_96 : decode cX5_addSpecimen 96 = .ok (.invokevirtual 59, 3) := by decide +kernel
theorem dX5_addSpecimen_99 : decode cX5_addSpecimen 99 = .ok (.aload_n 0, 1) := by decide +kernel
theorem dX5_addSpecimen_100 : decode cX5_addSpecimen 100 = .ok (.getfield 10, 3) := by decide +kernel
theorem dX5_addSpecimen_103 : decode cX5_addSpecimen 103 = .ok (.iload 5, 2) := by decide +kernel
theorem dX5_addSpecimen_105 : decode cX5_addSpecimen 105 = .ok (.iconst 0, 1) := by decide +kernel
theorem dX5_addSpecimen_106 : decode cX5_addSpecimen 106 = .ok (.iload_n 3, 1) := by decide +kernel
theorem dX5_addSpecimen_107 : decode cX5_addSpecimen 107 = .ok (.invokevirtual 63, 3) := by decide +kernel
theorem dX5_addSpecimen_110 : decode cX5_addSpecimen 110 = .ok (.aload_n 0, 1) := by decide +kernel
theorem dX5_addSpecimen_111 : decode cX5_addSpecimen 111 = .ok (.getfield 10, 3) := by decide +kernel
theorem dX5_addSpecimen_114 : decode cX5_addSpecimen 114 = .ok (.iload 5, 2) := by decide +kernel
theorem dX5_addSpecimen_116 : decode cX5_addSpecimen 116 = .ok (.iconst 1, 1) := by decide +kernel
theorem dX5_addSpecimen_117 : decode cX5_addSpecimen 117 = .ok (.iload 4, 2) := by decide +kernel
theorem dX5_addSpecimen_119 : decode cX5_addSpecimen 119 = .ok (.invokevirtual 63, 3) := by decide +kernel
theorem dX5_addSpecimen_122 : decode cX5_addSpecimen 122 = .ok (.iload 5, 2) := by decide +kernel
theorem dX5_addSpecimen_124 : decode cX5_addSpecimen 124 = .ok (.ireturn, 1) := by decide +kernel
theorem dX5_removeSpecimen_0 : decode cX5_removeSpecimen 0 = .ok (.aload_n 0, 1) := by decide +kernel
theorem dX5_removeSpecimen_1 : decode cX5_removeSpecimen 1 = .ok (.getfield 10, 3) := by decide +kernel
theorem dX5_removeSpecimen_4 : decode cX5_removeSpecimen 4 = .ok (.iload_n 1, 1) := by decide +kernel
theorem dX5_removeSpecimen_5 : decode cX5_removeSpecimen 5 = .ok (.invokevirtual 66, 3) := by decide +kernel
theorem dX5_removeSpecimen_8 : decode cX5_removeSpecimen 8 = .ok (.ifCond .ne 5, 3) := by decide +kernel
theorem dX5_removeSpecimen_11 : decode cX5_removeSpecimen 11 = .ok (.iconst (-1), 1) := by decide +kernel
theorem dX5_removeSpecimen_12 : decode cX5_removeSpecimen 12 = .ok (.ireturn, 1) := by decide +kernel
theorem dX5_removeSpecimen_13 : decode cX5_removeSpecimen 13 = .ok (.aload_n 0, 1) := by decide +kernel
theorem dX5_removeSpecimen_14 : decode cX5_removeSpecimen 14 = .ok (.getfield 19, 3) := by decide +kernel
theorem dX5_removeSpecimen_17 : decode cX5_removeSpecimen 17 = .ok (.aload_n 0, 1) := by decide +kernel
theorem dX5_removeSpecimen_18 : decode cX5_removeSpecimen 18 = .ok (.getfield 10, 3) := by decide +kernel
theorem dX5_removeSpecimen_21 : decode cX5_removeSpecimen 21 = .ok (.invokevirtual 55, 3) := by decide +kernel
theorem dX5_removeSpecimen_24 : decode cX5_removeSpecimen 24 = .ok (.aload_n 0, 1) := by decide +kernel
theorem dX5_removeSpecimen_25 : decode cX5_removeSpecimen 25 = .ok (.getfield 10, 3) := by decide +kernel
theorem dX5_removeSpecimen_28 : decode cX5_removeSpecimen 28 = .ok (.iload_n 1, 1) := by decide +kernel
theorem dX5_removeSpecimen_29 : decode cX5_removeSpecimen 29 = .ok (.invokevirtual 69, 3) := by decide +kernel
theorem dX5_removeSpecimen_32 : decode cX5_removeSpecimen 32 = .ok (.aload_n 0, 1) := by decide +kernel
theorem dX5_removeSpecimen_33 : decode cX5_removeSpecimen 33 = .ok (.getfield 10, 3) := by decide +kernel
theorem dX5_removeSpecimen_36 : decode cX5_removeSpecimen 36 = .ok (.getfield 51, 3) := by decide +kernel
theorem dX5_removeSpecimen_39 : decode cX5_removeSpecimen 39 = .ok (.ireturn, 1) := by decide +kernel
theorem dX5_setWear_0 : decode cX5_setWear 0 = .ok (.aload_n 0, 1) := by decide +kernel
theorem dX5_setWear_1 : decode cX5_setWear 1 = .ok (.getfield 10, 3) := by decide +kernel
theorem dX5_setWear_4 : decode cX5_setWear 4 = .ok (.iload_n 1, 1) := by decide +kernel
theorem dX5_setWear_5 : decode cX5_setWear 5 = .ok (.invokevirtual 66, 3) := by decide +kernel
theorem dX5_setWear_8 : decode cX5_setWear 8 = .ok (.ifCond .eq 17, 3) := by decide +kernel
theorem dX5_setWear_11 : decode cX5_setWear 11 = .ok (.iload_n 2, 1) := by decide +kernel
theorem dX5_setWear_12 : decode cX5_setWear 12 = .ok (.invokestatic 73, 3) := by decide +kernel
theorem dX5_setWear_15 : decode cX5_setWear 15 = .ok (.ifCond .eq 10, 3) := by decide +kernel
theorem dX5_setWear_18 : decode cX5_setWear 18 = .ok (.iload_n 3, 1) := by decide +kernel
theorem dX5_setWear_19 : decode cX5_setWear 19 = .ok (.invokestatic 48, 3) := by decide +kernel
theorem dX5_setWear_22 : decode cX5_setWear 22 = .ok (.ifCond .ne 5, 3) := by decide +kernel
theorem dX5_setWear_25 : decode cX5_setWear 25 = .ok (.iconst (-1), 1) := by decide +kernel
theorem dX5_setWear_26 : decode cX5_setWear 26 = .ok (.ireturn, 1) := by decide +kernel
theorem dX5_setWear_27 : decode cX5_setWear 27 = .ok (.aload_n 0, 1) := by decide +kernel
theorem dX5_setWear_28 : decode cX5_setWear 28 = .ok (.getfield 19, 3) := by decide +kernel
theorem dX5_setWear_31 : decode cX5_setWear 31 = .ok (.aload_n 0, 1) := by decide +kernel
theorem dX5_setWear_32 : decode cX5_setWear 32 = .ok (.getfield 10, 3) := by decide +kernel
theorem dX5_setWear_35 : decode cX5_setWear 35 = .ok (.invokevirtual 55, 3) := by decide +kernel
theorem dX5_setWear_38 : decode cX5_setWear 38 = .ok (.aload_n 0, 1) := by decide +kernel
theorem dX5_setWear_39 : decode cX5_setWear 39 = .ok (.getfield 10, 3) := by decide +kernel
theorem dX5_setWear_42 : decode cX5_setWear 42 = .ok (.iload_n 1, 1) := by decide +kernel
theorem dX5_setWear_43 : decode cX5_setWear 43 = .ok (.iload_n 2, 1) := by decide +kernel
theorem dX5_setWear_44 : decode cX5_setWear 44 = .ok (.invokevirtual 76, 3) := by decide +kernel
theorem dX5_setWear_47 : decode cX5_setWear 47 = .ok (.istore 4, 2) := by decide +kernel
theorem dX5_setWear_49 : decode cX5_setWear 49 = .ok (.aload_n 0, 1) := by decide +kernel
theorem dX5_setWear_50 : decode cX5_setWear 50 = .ok (.getfield 10, 3) := by decide +kernel
theorem dX5_setWear_53 : decode cX5_setWear 53 = .ok (.iload_n 1, 1) := by decide +kernel
theorem dX5_setWear_54 : decode cX5_setWear 54 = .ok (.iload_n 2, 1) := by decide +kernel
theorem dX5_setWear_55 : decode cX5_setWear 55 = .ok (.iload_n 3, 1) := by decide +kernel
theorem dX5_setWear_56 : decode cX5_setWear 56 = .ok (.invokevirtual 63, 3) := by decide +kernel
theorem dX5_setWear_59 : decode cX5_setWear 59 = .ok (.iload 4, 2) := by decide +kernel
theorem dX5_setWear_61 : decode cX5_setWear 61 = .ok (.ireturn, 1) := by decide +kernel
theorem dX5_mergeDies_0 : decode cX5_mergeDies 0 = .ok (.iload_n 1, 1) := by decide +kernel
theorem dX5_mergeDies_1 : decode cX5_mergeDies 1 = .ok (.invokestatic 73, 3) := by decide +kernel
theorem dX5_mergeDies_4 : decode cX5_mergeDies 4 = .ok (.ifCond .eq 17, 3) := by decide +kernel
theorem dX5_mergeDies_7 : decode cX5_mergeDies 7 = .ok (.iload_n 2, 1) := by decide +kernel
theorem dX5_mergeDies_8 : decode cX5_mergeDies 8 = .ok (.invokestatic 44, 3) := by decide +kernel
theorem dX5_mergeDies_11 : decode cX5_mergeDies 11 = .ok (.ifCond .eq 10, 3) := by decide +kernel
theorem dX5_mergeDies_14 : decode cX5_mergeDies 14 = .ok (.iload_n 3, 1) := by decide +kernel
theorem dX5_mergeDies_15 : decode cX5_mergeDies 15 = .ok (.invokestatic 44, 3) := by decide +kernel
theorem dX5_mergeDies_18 : decode cX5_mergeDies 18 = .ok (.ifCond .ne 5, 3) := by decide +kernel
theorem dX5_mergeDies_21 : decode cX5_mergeDies 21 = .ok (.iconst (-1), 1) := by decide +kernel
theorem dX5_mergeDies_22 : decode cX5_mergeDies 22 = .ok (.ireturn, 1) := by decide +kernel
theorem dX5_mergeDies_23 : decode cX5_mergeDies 23 = .ok (.aload_n 0, 1) := by decide +kernel
theorem dX5_mergeDies_24 : decode cX5_mergeDies 24 = .ok (.getfield 10, 3) := by decide +kernel
theorem dX5_mergeDies_27 : decode cX5_mergeDies 27 = .ok (.iload_n 1, 1) := by decide +kernel
theorem dX5_mergeDies_28 : decode cX5_mergeDies 28 = .ok (.iload_n 2, 1) := by decide +kernel
theorem dX5_mergeDies_29 : decode cX5_mergeDies 29 = .ok (.invokevirtual 80, 3) := by decide +kernel
theorem dX5_mergeDies_32 : decode cX5_mergeDies 32 = .ok (.ifCond .ne 6, 3) := by decide +kernel
theorem dX5_mergeDies_35 : decode cX5_mergeDies 35 = .ok (.bipush (-3), 2) := by decide +kernel
theorem dX5_mergeDies_37 : decode cX5_mergeDies 37 = .ok (.ireturn, 1) := by decide +kernel
theorem dX5_mergeDies_38 : decode cX5_mergeDies 38 = .ok (.aload_n 0, 1) := by decide +kernel
theorem dX5_mergeDies_39 : decode cX5_mergeDies 39 = .ok (.getfield 19, 3) := by decide +kernel
theorem dX5_mergeDies_42 : decode cX5_mergeDies 42 = .ok (.aload_n 0, 1) := by decide +kernel
theorem dX5_mergeDies_43 : decode cX5_mergeDies 43 = .ok (.getfield 10, 3) := by decide +kernel
theorem dX5_mergeDies_46 : decode cX5_mergeDies 46 = .ok (.invokevirtual 55, 3) := by decide +kernel
theorem dX5_mergeDies_49 : decode cX5_mergeDies 49 = .ok (.iload_n 2, 1) := by decide +kernel
theorem dX5_mergeDies_50 : decode cX5_mergeDies 50 = .ok (.iload_n 3, 1) := by decide +kernel
theorem dX5_mergeDies_51 : decode cX5_mergeDies 51 = .ok (.if_icmp .ne 7, 3) := by decide +kernel
theorem dX5_mergeDies_54 : decode cX5_mergeDies 54 = .ok (.iconst 0, 1) := by decide +kernel
theorem dX5_mergeDies_55 : decode cX5_mergeDies 55 = .ok (.goto 13, 3) := by decide +kernel
theorem dX5_mergeDies_58 : decode cX5_mergeDies 58 = .ok (.aload_n 0, 1) := by decide +kernel
theorem dX5_mergeDies_59 : decode cX5_mergeDies 59 = .ok (.getfield 10, 3) := by decide +kernel
theorem dX5_mergeDies_62 : decode cX5_mergeDies 62 = .ok (.iload_n 1, 1) := by decide +kernel
theorem dX5_mergeDies_63 : decode cX5_mergeDies 63 = .ok (.iload_n 2, 1) := by decide +kernel
theorem dX5_mergeDies_64 : decode cX5_mergeDies 64 = .ok (.iload_n 3, 1) := by decide +kernel
theorem dX5_mergeDies_65 : decode cX5_mergeDies 65 = .ok (.invokevirtual 83, 3) := by decide +kernel
theorem dX5_mergeDies_68 : decode cX5_mergeDies 68 = .ok (.ireturn, 1) := by decide +kernel
theorem dX5_specimenCount_0 : decode cX5_specimenCount 0 = .ok (.aload_n 0, 1) := by decide +kernel
theorem dX5_specimenCount_1 : decode cX5_specimenCount 1 = .ok (.getfield 10, 3) := by decide +kernel
theorem dX5_specimenCount_4 : decode cX5_specimenCount 4 = .ok (.getfield 51, 3) := by decide +kernel
theorem dX5_specimenCount_7 : decode cX5_specimenCount 7 = .ok (.ireturn, 1) := by decide +kernel
theorem dX5_dieOf_0 : decode cX5_dieOf 0 = .ok (.aload_n 0, 1) := by decide +kernel
theorem dX5_dieOf_1 : decode cX5_dieOf 1 = .ok (.getfield 10, 3) := by decide +kernel
theorem dX5_dieOf_4 : decode cX5_dieOf 4 = .ok (.iload_n 1, 1) := by decide +kernel
theorem dX5_dieOf_5 : decode cX5_dieOf 5 = .ok (.invokevirtual 66, 3) := by decide +kernel
theorem dX5_dieOf_8 : decode cX5_dieOf 8 = .ok (.ifCond .eq 10, 3) := by decide +kernel
theorem dX5_dieOf_11 : decode cX5_dieOf 11 = .ok (.iload_n 2, 1) := by decide +kernel
theorem dX5_dieOf_12 : decode cX5_dieOf 12 = .ok (.invokestatic 73, 3) := by decide +kernel
theorem dX5_dieOf_15 : decode cX5_dieOf 15 = .ok (.ifCond .ne 5, 3) := by decide +kernel
theorem dX5_dieOf_18 : decode cX5_dieOf 18 = .ok (.iconst (-1), 1) := by decide +kernel
theorem dX5_dieOf_19 : decode cX5_dieOf 19 = .ok (.ireturn, 1) := by decide +kernel
theorem dX5_dieOf_20 : decode cX5_dieOf 20 = .ok (.aload_n 0, 1) := by decide +kernel
theorem dX5_dieOf_21 : decode cX5_dieOf 21 = .ok (.getfield 10, 3) := by decide +kernel
theorem dX5_dieOf_24 : decode cX5_dieOf 24 = .ok (.iload_n 1, 1) := by decide +kernel
theorem dX5_dieOf_25 : decode cX5_dieOf 25 = .ok (.iload_n 2, 1) := by decide +kernel
theorem dX5_dieOf_26 : decode cX5_dieOf 26 = .ok (.invokevirtual 87, 3) := by decide +kernel
theorem dX5_dieOf_29 : decode cX5_dieOf 29 = .ok (.ireturn, 1) := by decide +kernel
theorem dX5_dieCount_0 : decode cX5_dieCount 0 = .ok (.iload_n 1, 1) := by decide +kernel
theorem dX5_dieCount_1 : decode cX5_dieCount 1 = .ok (.invokestatic 73, 3) := by decide +kernel
theorem dX5_dieCount_4 : decode cX5_dieCount 4 = .ok (.ifCond .eq 14, 3) := by decide +kernel
theorem dX5_dieCount_7 : decode cX5_dieCount 7 = .ok (.aload_n 0, 1) := by decide +kernel
theorem dX5_dieCount_8 : decode cX5_dieCount 8 = .ok (.getfield 10, 3) := by decide +kernel
theorem dX5_dieCount_11 : decode cX5_dieCount 11 = .ok (.iload_n 1, 1) := by decide +kernel
theorem dX5_dieCount_12 : decode cX5_dieCount 12 = .ok (.invokevirtual 90, 3) := by decide +kernel
theorem dX5_dieCount_15 : decode cX5_dieCount 15 = .ok (.goto 4, 3) := by decide +kernel
theorem dX5_dieCount_18 : decode cX5_dieCount 18 = .ok (.iconst (-1), 1) := by decide +kernel
theorem dX5_dieCount_19 : decode cX5_dieCount 19 = .ok (.ireturn, 1) := by decide +kernel
theorem dX5_frequency_0 : decode cX5_frequency 0 = .ok (.iload_n 1, 1) := by decide +kernel
theorem dX5_frequency_1 : decode cX5_frequency 1 = .ok (.invokestatic 73, 3) := by decide +kernel
theorem dX5_frequency_4 : decode cX5_frequency 4 = .ok (.ifCond .eq 10, 3) := by decide +kernel
theorem dX5_frequency_7 : decode cX5_frequency 7 = .ok (.iload_n 2, 1) := by decide +kernel
theorem dX5_frequency_8 : decode cX5_frequency 8 = .ok (.invokestatic 44, 3) := by decide +kernel
theorem dX5_frequency_11 : decode cX5_frequency 11 = .ok (.ifCond .ne 5, 3) := by decide +kernel
theorem dX5_frequency_14 : decode cX5_frequency 14 = .ok (.iconst (-1), 1) := by decide +kernel
theorem dX5_frequency_15 : decode cX5_frequency 15 = .ok (.ireturn, 1) := by decide +kernel
theorem dX5_frequency_16 : decode cX5_frequency 16 = .ok (.aload_n 0, 1) := by decide +kernel
theorem dX5_frequency_17 : decode cX5_frequency 17 = .ok (.getfield 10, 3) := by decide +kernel
theorem dX5_frequency_20 : decode cX5_frequency 20 = .ok (.iload_n 1, 1) := by decide +kernel
theorem dX5_frequency_21 : decode cX5_frequency 21 = .ok (.iload_n 2, 1) := by decide +kernel
theorem dX5_frequency_22 : decode cX5_frequency 22 = .ok (.invokevirtual 80, 3) := by decide +kernel
theorem dX5_frequency_25 : decode cX5_frequency 25 = .ok (.ireturn, 1) := by decide +kernel
theorem dX5_meanWearBits_0 : decode cX5_meanWearBits 0 = .ok (.iload_n 1, 1) := by decide +kernel
theorem dX5_meanWearBits_1 : decode cX5_meanWearBits 1 = .ok (.invokestatic 73, 3) := by decide +kernel
theorem dX5_meanWearBits_4 : decode cX5_meanWearBits 4 = .ok (.ifCond .eq 10, 3) := by decide +kernel
theorem dX5_meanWearBits_7 : decode cX5_meanWearBits 7 = .ok (.iload_n 2, 1) := by decide +kernel
theorem dX5_meanWearBits_8 : decode cX5_meanWearBits 8 = .ok (.invokestatic 44, 3) := by decide +kernel
theorem dX5_meanWearBits_11 : decode cX5_meanWearBits 11 = .ok (.ifCond .ne 5, 3) := by decide +kernel
theorem dX5_meanWearBits_14 : decode cX5_meanWearBits 14 = .ok (.iconst (-1), 1) := by decide +kernel
theorem dX5_meanWearBits_15 : decode cX5_meanWearBits 15 = .ok (.ireturn, 1) := by decide +kernel
theorem dX5_meanWearBits_16 : decode cX5_meanWearBits 16 = .ok (.aload_n 0, 1) := by decide +kernel
theorem dX5_meanWearBits_17 : decode cX5_meanWearBits 17 = .ok (.getfield 10, 3) := by decide +kernel
theorem dX5_meanWearBits_20 : decode cX5_meanWearBits 20 = .ok (.iload_n 1, 1) := by decide +kernel
theorem dX5_meanWearBits_21 : decode cX5_meanWearBits 21 = .ok (.iload_n 2, 1) := by decide +kernel
theorem dX5_meanWearBits_22 : decode cX5_meanWearBits 22 = .ok (.invokevirtual 80, 3) := by decide +kernel
theorem dX5_meanWearBits_25 : decode cX5_meanWearBits 25 = .ok (.istore_n 3, 1) := by decide +kernel
theorem dX5_meanWearBits_26 : decode cX5_meanWearBits 26 = .ok (.iload_n 3, 1) := by decide +kernel
theorem dX5_meanWearBits_27 : decode cX5_meanWearBits 27 = .ok (.ifCond .ne 6, 3) := by decide +kernel
theorem dX5_meanWearBits_30 : decode cX5_meanWearBits 30 = .ok (.bipush (-3), 2) := by decide +kernel
theorem dX5_meanWearBits_32 : decode cX5_meanWearBits 32 = .ok (.ireturn, 1) := by decide +kernel
theorem dX5_meanWearBits_33 : decode cX5_meanWearBits 33 = .ok (.aload_n 0, 1) := by decide +kernel
theorem dX5_meanWearBits_34 : decode cX5_meanWearBits 34 = .ok (.getfield 10, 3) := by decide +kernel
theorem dX5_meanWearBits_37 : decode cX5_meanWearBits 37 = .ok (.iload_n 1, 1) := by decide +kernel
theorem dX5_meanWearBits_38 : decode cX5_meanWearBits 38 = .ok (.iload_n 2, 1) := by decide +kernel
theorem dX5_meanWearBits_39 : decode cX5_meanWearBits 39 = .ok (.invokevirtual 94, 3) := by decide +kernel
theorem dX5_meanWearBits_42 : decode cX5_meanWearBits 42 = .ok (.i2f, 1) := by decide +kernel
theorem dX5_meanWearBits_43 : decode cX5_meanWearBits 43 = .ok (.iload_n 3, 1) := by decide +kernel
theorem dX5_meanWearBits_44 : decode cX5_meanWearBits 44 = .ok (.i2f, 1) := by decide +kernel
theorem dX5_meanWearBits_45 : decode cX5_meanWearBits 45 = .ok (.fdiv, 1) := by decide +kernel
theorem dX5_meanWearBits_46 : decode cX5_meanWearBits 46 = .ok (.invokestatic 97, 3) := by decide +kernel
theorem dX5_meanWearBits_49 : decode cX5_meanWearBits 49 = .ok (.ireturn, 1) := by decide +kernel
theorem dX5_coupleCount_0 : decode cX5_coupleCount 0 = .ok (.aload_n 0, 1) := by decide +kernel
theorem dX5_coupleCount_1 : decode cX5_coupleCount 1 = .ok (.getfield 26, 3) := by decide +kernel
theorem dX5_coupleCount_4 : decode cX5_coupleCount 4 = .ok (.aload_n 0, 1) := by decide +kernel
theorem dX5_coupleCount_5 : decode cX5_coupleCount 5 = .ok (.getfield 10, 3) := by decide +kernel
theorem dX5_coupleCount_8 : decode cX5_coupleCount 8 = .ok (.invokevirtual 101, 3) := by decide +kernel
theorem dX5_coupleCount_11 : decode cX5_coupleCount 11 = .ok (.aload_n 0, 1) := by decide +kernel
theorem dX5_coupleCount_12 : decode cX5_coupleCount 12 = .ok (.getfield 26, 3) := by decide +kernel
theorem dX5_coupleCount_15 : decode cX5_coupleCount 15 = .ok (.getfield 104, 3) := by decide +kernel
theorem dX5_coupleCount_18 : decode cX5_coupleCount 18 = .ok (.ireturn, 1) := by decide +kernel
theorem dX5_coupleAt_0 : decode cX5_coupleAt 0 = .ok (.aload_n 0, 1) := by decide +kernel
theorem dX5_coupleAt_1 : decode cX5_coupleAt 1 = .ok (.getfield 26, 3) := by decide +kernel
theorem dX5_coupleAt_4 : decode cX5_coupleAt 4 = .ok (.aload_n 0, 1) := by decide +kernel
theorem dX5_coupleAt_5 : decode cX5_coupleAt 5 = .ok (.getfield 10, 3) := by decide +kernel
theorem dX5_coupleAt_8 : decode cX5_coupleAt 8 = .ok (.invokevirtual 101, 3) := by decide +kernel
theorem dX5_coupleAt_11 : decode cX5_coupleAt 11 = .ok (.aload_n 0, 1) := by decide +kernel
theorem dX5_coupleAt_12 : decode cX5_coupleAt 12 = .ok (.iload_n 1, 1) := by decide +kernel
theorem dX5_coupleAt_13 : decode cX5_coupleAt 13 = .ok (.invokevirtual 105, 3) := by decide +kernel
theorem dX5_coupleAt_16 : decode cX5_coupleAt 16 = .ok (.istore_n 2, 1) := by decide +kernel
theorem dX5_coupleAt_17 : decode cX5_coupleAt 17 = .ok (.iload_n 2, 1) := by decide +kernel
theorem dX5_coupleAt_18 : decode cX5_coupleAt 18 = .ok (.ifCond .eq 5, 3) := by decide +kernel
theorem dX5_coupleAt_21 : decode cX5_coupleAt 21 = .ok (.iload_n 2, 1) := by decide +kernel
theorem dX5_coupleAt_22 : decode cX5_coupleAt 22 = .ok (.ireturn, 1) := by decide +kernel
theorem dX5_coupleAt_23 : decode cX5_coupleAt 23 = .ok (.bipush 10, 2) := by decide +kernel
theorem dX5_coupleAt_25 : decode cX5_coupleAt 25 = .ok (.aload_n 0, 1) := by decide +kernel
theorem dX5_coupleAt_26 : decode cX5_coupleAt 26 = .ok (.getfield 26, 3) := by decide +kernel
theorem dX5_coupleAt_29 : decode cX5_coupleAt 29 = .ok (.getfield 108, 3) := by decide +kernel
theorem dX5_coupleAt_32 : decode cX5_coupleAt 32 = .ok (.iconst 0, 1) := by decide +kernel
theorem dX5_coupleAt_33 : decode cX5_coupleAt 33 = .ok (.aaload, 1) := by decide +kernel
theorem dX5_coupleAt_34 : decode cX5_coupleAt 34 = .ok (.iload_n 1, 1) := by decide +kernel
theorem dX5_coupleAt_35 : decode cX5_coupleAt 35 = .ok (.iaload, 1) := by decide +kernel
theorem dX5_coupleAt_36 : decode cX5_coupleAt 36 = .ok (.imul, 1) := by decide +kernel
theorem dX5_coupleAt_37 : decode cX5_coupleAt 37 = .ok (.aload_n 0, 1) := by decide +kernel
theorem dX5_coupleAt_38 : decode cX5_coupleAt 38 = .ok (.getfield 26, 3) := by decide +kernel
theorem dX5_coupleAt_41 : decode cX5_coupleAt 41 = .ok (.getfield 108, 3) := by decide +kernel
theorem dX5_coupleAt_44 : decode cX5_coupleAt 44 = .ok (.iconst 1, 1) := by decide +kernel
theorem dX5_coupleAt_45 : decode cX5_coupleAt 45 = .ok (.aaload, 1) := by decide +kernel
theorem dX5_coupleAt_46 : decode cX5_coupleAt 46 = .ok (.iload_n 1, 1) := by decide +kernel
theorem dX5_coupleAt_47 : decode cX5_coupleAt 47 = .ok (.iaload, 1) := by decide +kernel
theorem dX5_coupleAt_48 : decode cX5_coupleAt 48 = .ok (.iadd, 1) := by decide +kernel
theorem dX5_coupleAt_49 : decode cX5_coupleAt 49 = .ok (.ireturn, 1) := by decide +kernel
theorem dX5_componentCount_0 : decode cX5_componentCount 0 = .ok (.aload_n 0, 1) := by decide +kernel
theorem dX5_componentCount_1 : decode cX5_componentCount 1 = .ok (.getfield 26, 3) := by decide +kernel
theorem dX5_componentCount_4 : decode cX5_componentCount 4 = .ok (.aload_n 0, 1) := by decide +kernel
theorem dX5_componentCount_5 : decode cX5_componentCount 5 = .ok (.getfield 10, 3) := by decide +kernel
theorem dX5_componentCount_8 : decode cX5_componentCount 8 = .ok (.invokevirtual 101, 3) := by decide +kernel
theorem dX5_componentCount_11 : decode cX5_componentCount 11 = .ok (.aload_n 0, 1) := by decide +kernel
theorem dX5_componentCount_12 : decode cX5_componentCount 12 = .ok (.getfield 33, 3) := by decide +kernel
theorem dX5_componentCount_15 : decode cX5_componentCount 15 = .ok (.aload_n 0, 1) := by decide +kernel
theorem dX5_componentCount_16 : decode cX5_componentCount 16 = .ok (.getfield 26, 3) := by decide +kernel
theorem dX5_componentCount_19 : decode cX5_componentCount 19 = .ok (.iconst (-1), 1) := by decide +kernel
theorem dX5_componentCount_20 : decode cX5_componentCount 20 = .ok (.invokevirtual 111, 3) := by decide +kernel
theorem dX5_componentCount_23 : decode cX5_componentCount 23 = .ok (.aload_n 0, 1) := by decide +kernel
theorem dX5_componentCount_24 : decode cX5_componentCount 24 = .ok (.getfield 33, 3) := by decide +kernel
theorem dX5_componentCount_27 : decode cX5_componentCount 27 = .ok (.getfield 115, 3) := by decide +kernel
theorem dX5_componentCount_30 : decode cX5_componentCount 30 = .ok (.ireturn, 1) := by decide +kernel
theorem dX5_componentSize_0 : decode cX5_componentSize 0 = .ok (.iload_n 1, 1) := by decide +kernel
theorem dX5_componentSize_1 : decode cX5_componentSize 1 = .ok (.invokestatic 73, 3) := by decide +kernel
theorem dX5_componentSize_4 : decode cX5_componentSize 4 = .ok (.ifCond .eq 10, 3) := by decide +kernel
theorem dX5_componentSize_7 : decode cX5_componentSize 7 = .ok (.iload_n 2, 1) := by decide +kernel
theorem dX5_componentSize_8 : decode cX5_componentSize 8 = .ok (.invokestatic 44, 3) := by decide +kernel
theorem dX5_componentSize_11 : decode cX5_componentSize 11 = .ok (.ifCond .ne 5, 3) := by decide +kernel
theorem dX5_componentSize_14 : decode cX5_componentSize 14 = .ok (.iconst (-1), 1) := by decide +kernel
theorem dX5_componentSize_15 : decode cX5_componentSize 15 = .ok (.ireturn, 1) := by decide +kernel
theorem dX5_componentSize_16 : decode cX5_componentSize 16 = .ok (.aload_n 0, 1) := by decide +kernel
theorem dX5_componentSize_17 : decode cX5_componentSize 17 = .ok (.getfield 26, 3) := by decide +kernel
theorem dX5_componentSize_20 : decode cX5_componentSize 20 = .ok (.aload_n 0, 1) := by decide +kernel
theorem dX5_componentSize_21 : decode cX5_componentSize 21 = .ok (.getfield 10, 3) := by decide +kernel
theorem dX5_componentSize_24 : decode cX5_componentSize 24 = .ok (.invokevirtual 101, 3) := by decide +kernel
theorem dX5_componentSize_27 : decode cX5_componentSize 27 = .ok (.aload_n 0, 1) := by decide +kernel
theorem dX5_componentSize_28 : decode cX5_componentSize 28 = .ok (.getfield 33, 3) := by decide +kernel
theorem dX5_componentSize_31 : decode cX5_componentSize 31 = .ok (.aload_n 0, 1) := by decide +kernel
theorem dX5_componentSize_32 : decode cX5_componentSize 32 = .ok (.getfield 26, 3) := by decide +kernel
theorem dX5_componentSize_35 : decode cX5_componentSize 35 = .ok (.iconst (-1), 1) := by decide +kernel
theorem dX5_componentSize_36 : decode cX5_componentSize 36 = .ok (.invokevirtual 111, 3) := by decide +kernel
theorem dX5_componentSize_39 : decode cX5_componentSize 39 = .ok (.aload_n 0, 1) := by decide +kernel
theorem dX5_componentSize_40 : decode cX5_componentSize 40 = .ok (.getfield 33, 3) := by decide +kernel
theorem dX5_componentSize_43 : decode cX5_componentSize 43 = .ok (.iload_n 1, 1) := by decide +kernel
theorem dX5_componentSize_44 : decode cX5_componentSize 44 = .ok (.iload_n 2, 1) := by decide +kernel
theorem dX5_componentSize_45 : decode cX5_componentSize 45 = .ok (.invokevirtual 118, 3) := by decide +kernel
theorem dX5_componentSize_48 : decode cX5_componentSize 48 = .ok (.istore_n 3, 1) := by decide +kernel
theorem dX5_componentSize_49 : decode cX5_componentSize 49 = .ok (.iload_n 3, 1) := by decide +kernel
theorem dX5_componentSize_50 : decode cX5_componentSize 50 = .ok (.ifCond .ne 8, 3) := by decide +kernel
theorem dX5_componentSize_53 : decode cX5_componentSize 53 = .ok (.bipush (-3), 2) := by decide +kernel
theorem dX5_componentSize_55 : decode cX5_componentSize 55 = .ok (.goto 4, 3) := by decide +kernel
theorem dX5_componentSize_58 : decode cX5_componentSize 58 = .ok (.iload_n 3, 1) := by decide +kernel
theorem dX5_componentSize_59 : decode cX5_componentSize 59 = .ok (.ireturn, 1) := by decide +kernel
theorem dX5_cycleRank_0 : decode cX5_cycleRank 0 = .ok (.aload_n 0, 1) := by decide +kernel
theorem dX5_cycleRank_1 : decode cX5_cycleRank 1 = .ok (.getfield 26, 3) := by decide +kernel
theorem dX5_cycleRank_4 : decode cX5_cycleRank 4 = .ok (.aload_n 0, 1) := by decide +kernel
theorem dX5_cycleRank_5 : decode cX5_cycleRank 5 = .ok (.getfield 10, 3) := by decide +kernel
theorem dX5_cycleRank_8 : decode cX5_cycleRank 8 = .ok (.invokevirtual 101, 3) := by decide +kernel
theorem dX5_cycleRank_11 : decode cX5_cycleRank 11 = .ok (.aload_n 0, 1) := by decide +kernel
theorem dX5_cycleRank_12 : decode cX5_cycleRank 12 = .ok (.getfield 33, 3) := by decide +kernel
theorem dX5_cycleRank_15 : decode cX5_cycleRank 15 = .ok (.aload_n 0, 1) := by decide +kernel
theorem dX5_cycleRank_16 : decode cX5_cycleRank 16 = .ok (.getfield 26, 3) := by decide +kernel
theorem dX5_cycleRank_19 : decode cX5_cycleRank 19 = .ok (.iconst (-1), 1) := by decide +kernel
theorem dX5_cycleRank_20 : decode cX5_cycleRank 20 = .ok (.invokevirtual 111, 3) := by decide +kernel
theorem dX5_cycleRank_23 : decode cX5_cycleRank 23 = .ok (.aload_n 0, 1) := by decide +kernel
theorem dX5_cycleRank_24 : decode cX5_cycleRank 24 = .ok (.getfield 26, 3) := by decide +kernel
theorem dX5_cycleRank_27 : decode cX5_cycleRank 27 = .ok (.getfield 104, 3) := by decide +kernel
theorem dX5_cycleRank_30 : decode cX5_cycleRank 30 = .ok (.aload_n 0, 1) := by decide +kernel
theorem dX5_cycleRank_31 : decode cX5_cycleRank 31 = .ok (.getfield 33, 3) := by decide +kernel
theorem dX5_cycleRank_34 : decode cX5_cycleRank 34 = .ok (.getfield 121, 3) := by decide +kernel
theorem dX5_cycleRank_37 : decode cX5_cycleRank 37 = .ok (.isub, 1) := by decide +kernel
theorem dX5_cycleRank_38 : decode cX5_cycleRank 38 = .ok (.aload_n 0, 1) := by decide +kernel
theorem dX5_cycleRank_39 : decode cX5_cycleRank 39 = .ok (.getfield 33, 3) := by decide +kernel
theorem dX5_cycleRank_42 : decode cX5_cycleRank 42 = .ok (.getfield 115, 3) := by decide +kernel
theorem dX5_cycleRank_45 : decode cX5_cycleRank 45 = .ok (.iadd, 1) := by decide +kernel
theorem dX5_cycleRank_46 : decode cX5_cycleRank 46 = .ok (.ireturn, 1) := by decide +kernel
theorem dX5_bridgeCount_0 : decode cX5_bridgeCount 0 = .ok (.aload_n 0, 1) := by decide +kernel
theorem dX5_bridgeCount_1 : decode cX5_bridgeCount 1 = .ok (.getfield 26, 3) := by decide +kernel
theorem dX5_bridgeCount_4 : decode cX5_bridgeCount 4 = .ok (.aload_n 0, 1) := by decide +kernel
theorem dX5_bridgeCount_5 : decode cX5_bridgeCount 5 = .ok (.getfield 10, 3) := by decide +kernel
theorem dX5_bridgeCount_8 : decode cX5_bridgeCount 8 = .ok (.invokevirtual 101, 3) := by decide +kernel
theorem dX5_bridgeCount_11 : decode cX5_bridgeCount 11 = .ok (.iconst 0, 1) := by decide +kernel
theorem dX5_bridgeCount_12 : decode cX5_bridgeCount 12 = .ok (.istore_n 1, 1) := by decide +kernel
theorem dX5_bridgeCount_13 : decode cX5_bridgeCount 13 = .ok (.iconst 0, 1) := by decide +kernel
theorem dX5_bridgeCount_14 : decode cX5_bridgeCount 14 = .ok (.istore_n 2, 1) := by decide +kernel
theorem dX5_bridgeCount_15 : decode cX5_bridgeCount 15 = .ok (.iload_n 2, 1) := by decide +kernel
theorem dX5_bridgeCount_16 : decode cX5_bridgeCount 16 = .ok (.aload_n 0, 1) := by decide +kernel
theorem dX5_bridgeCount_17 : decode cX5_bridgeCount 17 = .ok (.getfield 26, 3) := by decide +kernel
theorem dX5_bridgeCount_20 : decode cX5_bridgeCount 20 = .ok (.getfield 104, 3) := by decide +kernel
theorem dX5_bridgeCount_23 : decode cX5_bridgeCount 23 = .ok (.if_icmp .ge 27, 3) := by decide +kernel
theorem dX5_bridgeCount_26 : decode cX5_bridgeCount 26 = .ok (.aload_n 0, 1) := by decide +kernel
theorem dX5_bridgeCount_27 : decode cX5_bridgeCount 27 = .ok (.getfield 33, 3) := by decide +kernel
theorem dX5_bridgeCount_30 : decode cX5_bridgeCount 30 = .ok (.aload_n 0, 1) := by decide +kernel
theorem dX5_bridgeCount_31 : decode cX5_bridgeCount 31 = .ok (.getfield 26, 3) := by decide +kernel
theorem dX5_bridgeCount_34 : decode cX5_bridgeCount 34 = .ok (.iload_n 2, 1) := by decide +kernel
theorem dX5_bridgeCount_35 : decode cX5_bridgeCount 35 = .ok (.invokevirtual 124, 3) := by decide +kernel
theorem dX5_bridgeCount_38 : decode cX5_bridgeCount 38 = .ok (.ifCond .eq 6, 3) := by decide +kernel
theorem dX5_bridgeCount_41 : decode cX5_bridgeCount 41 = .ok (.iinc 1 1, 3) := by decide +kernel
theorem dX5_bridgeCount_44 : decode cX5_bridgeCount 44 = .ok (.iinc 2 1, 3) := by decide +kernel
theorem dX5_bridgeCount_47 : decode cX5_bridgeCount 47 = .ok (.goto (-32), 3) := by decide +kernel
theorem dX5_bridgeCount_50 : decode cX5_bridgeCount 50 = .ok (.iload_n 1, 1) := by decide +kernel
theorem dX5_bridgeCount_51 : decode cX5_bridgeCount 51 = .ok (.ireturn, 1) := by decide +kernel
theorem dX5_isBridge_0 : decode cX5_isBridge 0 = .ok (.aload_n 0, 1) := by decide +kernel
theorem dX5_isBridge_1 : decode cX5_isBridge 1 = .ok (.getfield 26, 3) := by decide +kernel
theorem dX5_isBridge_4 : decode cX5_isBridge 4 = .ok (.aload_n 0, 1) := by decide +kernel
theorem dX5_isBridge_5 : decode cX5_isBridge 5 = .ok (.getfield 10, 3) := by decide +kernel
theorem dX5_isBridge_8 : decode cX5_isBridge 8 = .ok (.invokevirtual 101, 3) := by decide +kernel
theorem dX5_isBridge_11 : decode cX5_isBridge 11 = .ok (.aload_n 0, 1) := by decide +kernel
theorem dX5_isBridge_12 : decode cX5_isBridge 12 = .ok (.iload_n 1, 1) := by decide +kernel
theorem dX5_isBridge_13 : decode cX5_isBridge 13 = .ok (.invokevirtual 105, 3) := by decide +kernel
theorem dX5_isBridge_16 : decode cX5_isBridge 16 = .ok (.istore_n 2, 1) := by decide +kernel
theorem dX5_isBridge_17 : decode cX5_isBridge 17 = .ok (.iload_n 2, 1) := by decide +kernel
theorem dX5_isBridge_18 : decode cX5_isBridge 18 = .ok (.ifCond .eq 5, 3) := by decide +kernel
theorem dX5_isBridge_21 : decode cX5_isBridge 21 = .ok (.iload_n 2, 1) := by decide +kernel
theorem dX5_isBridge_22 : decode cX5_isBridge 22 = .ok (.ireturn, 1) := by decide +kernel
theorem dX5_isBridge_23 : decode cX5_isBridge 23 = .ok (.aload_n 0, 1) := by decide +kernel
theorem dX5_isBridge_24 : decode cX5_isBridge 24 = .ok (.getfield 33, 3) := by decide +kernel
theorem dX5_isBridge_27 : decode cX5_isBridge 27 = .ok (.aload_n 0, 1) := by decide +kernel
theorem dX5_isBridge_28 : decode cX5_isBridge 28 = .ok (.getfield 26, 3) := by decide +kernel
theorem dX5_isBridge_31 : decode cX5_isBridge 31 = .ok (.iload_n 1, 1) := by decide +kernel
theorem dX5_isBridge_32 : decode cX5_isBridge 32 = .ok (.invokevirtual 124, 3) := by decide +kernel
theorem dX5_isBridge_35 : decode cX5_isBridge 35 = .ok (.ifCond .eq 7, 3) := by decide +kernel
theorem dX5_isBridge_38 : decode cX5_isBridge 38 = .ok (.iconst 1, 1) := by decide +kernel
theorem dX5_isBridge_39 : decode cX5_isBridge 39 = .ok (.goto 4, 3) := by decide +kernel
theorem dX5_isBridge_42 : decode cX5_isBridge 42 = .ok (.iconst 0, 1) := by decide +kernel
theorem dX5_isBridge_43 : decode cX5_isBridge 43 = .ok (.ireturn, 1) := by decide +kernel
theorem dX5_compareCouples_0 : decode cX5_compareCouples 0 = .ok (.aload_n 0, 1) := by decide +kernel
theorem dX5_compareCouples_1 : decode cX5_compareCouples 1 = .ok (.getfield 26, 3) := by decide +kernel
theorem dX5_compareCouples_4 : decode cX5_compareCouples 4 = .ok (.aload_n 0, 1) := by decide +kernel
theorem dX5_compareCouples_5 : decode cX5_compareCouples 5 = .ok (.getfield 10, 3) := by decide +kernel
theorem dX5_compareCouples_8 : decode cX5_compareCouples 8 = .ok (.invokevirtual 101, 3) := by decide +kernel
theorem dX5_compareCouples_11 : decode cX5_compareCouples 11 = .ok (.aload_n 0, 1) := by decide +kernel
theorem dX5_compareCouples_12 : decode cX5_compareCouples 12 = .ok (.getfield 26, 3) := by decide +kernel
theorem dX5_compareCouples_15 : decode cX5_compareCouples 15 = .ok (.iload_n 1, 1) := by decide +kernel
theorem dX5_compareCouples_16 : decode cX5_compareCouples 16 = .ok (.invokevirtual 128, 3) := by decide +kernel
theorem dX5_compareCouples_19 : decode cX5_compareCouples 19 = .ok (.ifCond .eq 19, 3) := by decide +kernel
theorem dX5_compareCouples_22 : decode cX5_compareCouples 22 = .ok (.aload_n 0, 1) := by decide +kernel
theorem dX5_compareCouples_23 : decode cX5_compareCouples 23 = .ok (.getfield 26, 3) := by decide +kernel
theorem dX5_compareCouples_26 : decode cX5_compareCouples 26 = .ok (.iload_n 2, 1) := by decide +kernel
theorem dX5_compareCouples_27 : decode cX5_compareCouples 27 = .ok (.invokevirtual 128, 3) := by decide +kernel
theorem dX5_compareCouples_30 : decode cX5_compareCouples 30 = .ok (.ifCond .eq 8, 3) := by decide +kernel
theorem dX5_compareCouples_33 : decode cX5_compareCouples 33 = .ok (.iload_n 1, 1) := by decide +kernel
theorem dX5_compareCouples_34 : decode cX5_compareCouples 34 = .ok (.iload_n 2, 1) := by decide +kernel
theorem dX5_compareCouples_35 : decode cX5_compareCouples 35 = .ok (.if_icmp .ne 5, 3) := by decide +kernel
theorem dX5_compareCouples_38 : decode cX5_compareCouples 38 = .ok (.iconst (-1), 1) := by decide +kernel
theorem dX5_compareCouples_39 : decode cX5_compareCouples 39 = .ok (.ireturn, 1) := by decide +kernel
theorem dX5_compareCouples_40 : decode cX5_compareCouples 40 = .ok (.aload_n 0, 1) := by decide +kernel
theorem dX5_compareCouples_41 : decode cX5_compareCouples 41 = .ok (.getfield 26, 3) := by decide +kernel
theorem dX5_compareCouples_44 : decode cX5_compareCouples 44 = .ok (.iload_n 1, 1) := by decide +kernel
theorem dX5_compareCouples_45 : decode cX5_compareCouples 45 = .ok (.iload_n 2, 1) := by decide +kernel
theorem dX5_compareCouples_46 : decode cX5_compareCouples 46 = .ok (.invokevirtual 129, 3) := by decide +kernel
theorem dX5_compareCouples_49 : decode cX5_compareCouples 49 = .ok (.ifCond .eq 5, 3) := by decide +kernel
theorem dX5_compareCouples_52 : decode cX5_compareCouples 52 = .ok (.iconst 1, 1) := by decide +kernel
theorem dX5_compareCouples_53 : decode cX5_compareCouples 53 = .ok (.ireturn, 1) := by decide +kernel
theorem dX5_compareCouples_54 : decode cX5_compareCouples 54 = .ok (.aload_n 0, 1) := by decide +kernel
theorem dX5_compareCouples_55 : decode cX5_compareCouples 55 = .ok (.getfield 26, 3) := by decide +kernel
theorem dX5_compareCouples_58 : decode cX5_compareCouples 58 = .ok (.iload_n 2, 1) := by decide +kernel
theorem dX5_compareCouples_59 : decode cX5_compareCouples 59 = .ok (.iload_n 1, 1) := by decide +kernel
theorem dX5_compareCouples_60 : decode cX5_compareCouples 60 = .ok (.invokevirtual 129, 3) := by decide +kernel
theorem dX5_compareCouples_63 : decode cX5_compareCouples 63 = .ok (.ifCond .eq 7, 3) := by decide +kernel
theorem dX5_compareCouples_66 : decode cX5_compareCouples 66 = .ok (.iconst 2, 1) := by decide +kernel
theorem dX5_compareCouples_67 : decode cX5_compareCouples 67 = .ok (.goto 4, 3) := by decide +kernel
theorem dX5_compareCouples_70 : decode cX5_compareCouples 70 = .ok (.iconst 0, 1) := by decide +kernel
theorem dX5_compareCouples_71 : decode cX5_compareCouples 71 = .ok (.ireturn, 1) := by decide +kernel
theorem dX5_isConsistent_0 : decode cX5_isConsistent 0 = .ok (.aload_n 0, 1) := by decide +kernel
theorem dX5_isConsistent_1 : decode cX5_isConsistent 1 = .ok (.getfield 26, 3) := by decide +kernel
theorem dX5_isConsistent_4 : decode cX5_isConsistent 4 = .ok (.aload_n 0, 1) := by decide +kernel
theorem dX5_isConsistent_5 : decode cX5_isConsistent 5 = .ok (.getfield 10, 3) := by decide +kernel
theorem dX5_isConsistent_8 : decode cX5_isConsistent 8 = .ok (.invokevirtual 101, 3) := by decide +kernel
theorem dX5_isConsistent_11 : decode cX5_isConsistent 11 = .ok (.aload_n 0, 1) := by decide +kernel
theorem dX5_isConsistent_12 : decode cX5_isConsistent 12 = .ok (.getfield 40, 3) := by decide +kernel
theorem dX5_isConsistent_15 : decode cX5_isConsistent 15 = .ok (.aload_n 0, 1) := by decide +kernel
theorem dX5_isConsistent_16 : decode cX5_isConsistent 16 = .ok (.getfield 26, 3) := by decide +kernel
theorem dX5_isConsistent_19 : decode cX5_isConsistent 19 = .ok (.invokevirtual 133, 3) := by decide +kernel
theorem dX5_isConsistent_22 : decode cX5_isConsistent 22 = .ok (.ifCond .eq 7, 3) := by decide +kernel
theorem dX5_isConsistent_25 : decode cX5_isConsistent 25 = .ok (.iconst 1, 1) := by decide +kernel
theorem dX5_isConsistent_26 : decode cX5_isConsistent 26 = .ok (.goto 4, 3) := by decide +kernel
theorem dX5_isConsistent_29 : decode cX5_isConsistent 29 = .ok (.iconst 0, 1) := by decide +kernel
theorem dX5_isConsistent_30 : decode cX5_isConsistent 30 = .ok (.ireturn, 1) := by decide +kernel
theorem dX5_coupleInOrder_0 : decode cX5_coupleInOrder 0 = .ok (.aload_n 0, 1) := by decide +kernel
theorem dX5_coupleInOrder_1 : decode cX5_coupleInOrder 1 = .ok (.getfield 26, 3) := by decide +kernel
theorem dX5_coupleInOrder_4 : decode cX5_coupleInOrder 4 = .ok (.aload_n 0, 1) := by decide +kernel
theorem dX5_coupleInOrder_5 : decode cX5_coupleInOrder 5 = .ok (.getfield 10, 3) := by decide +kernel
theorem dX5_coupleInOrder_8 : decode cX5_coupleInOrder 8 = .ok (.invokevirtual 101, 3) := by decide +kernel
theorem dX5_coupleInOrder_11 : decode cX5_coupleInOrder 11 = .ok (.aload_n 0, 1) := by decide +kernel
theorem dX5_coupleInOrder_12 : decode cX5_coupleInOrder 12 = .ok (.iload_n 1, 1) := by decide +kernel
theorem dX5_coupleInOrder_13 : decode cX5_coupleInOrder 13 = .ok (.invokevirtual 105, 3) := by decide +kernel
theorem dX5_coupleInOrder_16 : decode cX5_coupleInOrder 16 = .ok (.istore_n 2, 1) := by decide +kernel
theorem dX5_coupleInOrder_17 : decode cX5_coupleInOrder 17 = .ok (.iload_n 2, 1) := by decide +kernel
theorem dX5_coupleInOrder_18 : decode cX5_coupleInOrder 18 = .ok (.ifCond .eq 5, 3) := by decide +kernel
theorem dX5_coupleInOrder_21 : decode cX5_coupleInOrder 21 = .ok (.iload_n 2, 1) := by decide +kernel
theorem dX5_coupleInOrder_22 : decode cX5_coupleInOrder 22 = .ok (.ireturn, 1) := by decide +kernel
theorem dX5_coupleInOrder_23 : decode cX5_coupleInOrder 23 = .ok (.aload_n 0, 1) := by decide +kernel
theorem dX5_coupleInOrder_24 : decode cX5_coupleInOrder 24 = .ok (.getfield 40, 3) := by decide +kernel
theorem dX5_coupleInOrder_27 : decode cX5_coupleInOrder 27 = .ok (.aload_n 0, 1) := by decide +kernel
theorem dX5_coupleInOrder_28 : decode cX5_coupleInOrder 28 = .ok (.getfield 26, 3) := by decide +kernel
theorem dX5_coupleInOrder_31 : decode cX5_coupleInOrder 31 = .ok (.invokevirtual 133, 3) := by decide +kernel
theorem dX5_coupleInOrder_34 : decode cX5_coupleInOrder 34 = .ok (.ifCond .eq 15, 3) := by decide +kernel
theorem dX5_coupleInOrder_37 : decode cX5_coupleInOrder 37 = .ok (.aload_n 0, 1) := by decide +kernel
theorem dX5_coupleInOrder_38 : decode cX5_coupleInOrder 38 = .ok (.getfield 40, 3) := by decide +kernel
theorem dX5_coupleInOrder_41 : decode cX5_coupleInOrder 41 = .ok (.getfield 137, 3) := by decide +kernel
theorem dX5_coupleInOrder_44 : decode cX5_coupleInOrder 44 = .ok (.iload_n 1, 1) := by decide +kernel
theorem dX5_coupleInOrder_45 : decode cX5_coupleInOrder 45 = .ok (.iaload, 1) := by decide +kernel
theorem dX5_coupleInOrder_46 : decode cX5_coupleInOrder 46 = .ok (.goto 5, 3) := by decide +kernel
theorem dX5_coupleInOrder_49 : decode cX5_coupleInOrder 49 = .ok (.bipush (-4), 2) := by decide +kernel
theorem dX5_coupleInOrder_51 : decode cX5_coupleInOrder 51 = .ok (.ireturn, 1) := by decide +kernel
theorem dX5_generation_0 : decode cX5_generation 0 = .ok (.aload_n 0, 1) := by decide +kernel
theorem dX5_generation_1 : decode cX5_generation 1 = .ok (.getfield 26, 3) := by decide +kernel
theorem dX5_generation_4 : decode cX5_generation 4 = .ok (.aload_n 0, 1) := by decide +kernel
theorem dX5_generation_5 : decode cX5_generation 5 = .ok (.getfield 10, 3) := by decide +kernel
theorem dX5_generation_8 : decode cX5_generation 8 = .ok (.invokevirtual 101, 3) := by decide +kernel
theorem dX5_generation_11 : decode cX5_generation 11 = .ok (.aload_n 0, 1) := by decide +kernel
theorem dX5_generation_12 : decode cX5_generation 12 = .ok (.iload_n 1, 1) := by decide +kernel
theorem dX5_generation_13 : decode cX5_generation 13 = .ok (.invokevirtual 105, 3) := by decide +kernel
theorem dX5_generation_16 : decode cX5_generation 16 = .ok (.istore_n 2, 1) := by decide +kernel
theorem dX5_generation_17 : decode cX5_generation 17 = .ok (.iload_n 2, 1) := by decide +kernel
theorem dX5_generation_18 : decode cX5_generation 18 = .ok (.ifCond .eq 5, 3) := by decide +kernel
theorem dX5_generation_21 : decode cX5_generation 21 = .ok (.iload_n 2, 1) := by decide +kernel
theorem dX5_generation_22 : decode cX5_generation 22 = .ok (.ireturn, 1) := by decide +kernel
theorem dX5_generation_23 : decode cX5_generation 23 = .ok (.aload_n 0, 1) := by decide +kernel
theorem dX5_generation_24 : decode cX5_generation 24 = .ok (.getfield 40, 3) := by decide +kernel
theorem dX5_generation_27 : decode cX5_generation 27 = .ok (.aload_n 0, 1) := by decide +kernel
theorem dX5_generation_28 : decode cX5_generation 28 = .ok (.getfield 26, 3) := by decide +kernel
theorem dX5_generation_31 : decode cX5_generation 31 = .ok (.invokevirtual 133, 3) := by decide +kernel
theorem dX5_generation_34 : decode cX5_generation 34 = .ok (.ifCond .eq 15, 3) := by decide +kernel
theorem dX5_generation_37 : decode cX5_generation 37 = .ok (.aload_n 0, 1) := by decide +kernel
theorem dX5_generation_38 : decode cX5_generation 38 = .ok (.getfield 40, 3) := by decide +kernel
theorem dX5_generation_41 : decode cX5_generation 41 = .ok (.getfield 141, 3) := by decide +kernel
theorem dX5_generation_44 : decode cX5_generation 44 = .ok (.iload_n 1, 1) := by decide +kernel
theorem dX5_generation_45 : decode cX5_generation 45 = .ok (.iaload, 1) := by decide +kernel
theorem dX5_generation_46 : decode cX5_generation 46 = .ok (.goto 5, 3) := by decide +kernel
theorem dX5_generation_49 : decode cX5_generation 49 = .ok (.bipush (-4), 2) := by decide +kernel
theorem dX5_generation_51 : decode cX5_generation 51 = .ok (.ireturn, 1) := by decide +kernel
theorem dX5_singletons_0 : decode cX5_singletons 0 = .ok (.iload_n 1, 1) := by decide +kernel
theorem dX5_singletons_1 : decode cX5_singletons 1 = .ok (.invokestatic 73, 3) := by decide +kernel
theorem dX5_singletons_4 : decode cX5_singletons 4 = .ok (.ifCond .eq 14, 3) := by decide +kernel
theorem dX5_singletons_7 : decode cX5_singletons 7 = .ok (.aload_n 0, 1) := by decide +kernel
theorem dX5_singletons_8 : decode cX5_singletons 8 = .ok (.getfield 10, 3) := by decide +kernel
theorem dX5_singletons_11 : decode cX5_singletons 11 = .ok (.iload_n 1, 1) := by decide +kernel
theorem dX5_singletons_12 : decode cX5_singletons 12 = .ok (.invokevirtual 144, 3) := by decide +kernel
theorem dX5_singletons_15 : decode cX5_singletons 15 = .ok (.goto 4, 3) := by decide +kernel
theorem dX5_singletons_18 : decode cX5_singletons 18 = .ok (.iconst (-1), 1) := by decide +kernel
theorem dX5_singletons_19 : decode cX5_singletons 19 = .ok (.ireturn, 1) := by decide +kernel
theorem dX5_coverageEstimate_0 : decode cX5_coverageEstimate 0 = .ok (.iload_n 1, 1) := by decide +kernel
theorem dX5_coverageEstimate_1 : decode cX5_coverageEstimate 1 = .ok (.invokestatic 73, 3) := by decide +kernel
theorem dX5_coverageEstimate_4 : decode cX5_coverageEstimate 4 = .ok (.ifCond .ne 5, 3) := by decide +kernel
theorem dX5_coverageEstimate_7 : decode cX5_coverageEstimate 7 = .ok (.iconst (-1), 1) := by decide +kernel
theorem dX5_coverageEstimate_8 : decode cX5_coverageEstimate 8 = .ok (.ireturn, 1) := by decide +kernel
theorem dX5_coverageEstimate_9 : decode cX5_coverageEstimate 9 = .ok (.aload_n 0, 1) := by decide +kernel
theorem dX5_coverageEstimate_10 : decode cX5_coverageEstimate 10 = .ok (.getfield 10, 3) := by decide +kernel
theorem dX5_coverageEstimate_13 : decode cX5_coverageEstimate 13 = .ok (.getfield 51, 3) := by decide +kernel
theorem dX5_coverageEstimate_16 : decode cX5_coverageEstimate 16 = .ok (.istore_n 2, 1) := by decide +kernel
theorem dX5_coverageEstimate_17 : decode cX5_coverageEstimate 17 = .ok (.iload_n 2, 1) := by decide +kernel
theorem dX5_coverageEstimate_18 : decode cX5_coverageEstimate 18 = .ok (.aload_n 0, 1) := by decide +kernel
theorem dX5_coverageEstimate_19 : decode cX5_coverageEstimate 19 = .ok (.getfield 10, 3) := by decide +kernel
theorem dX5_coverageEstimate_22 : decode cX5_coverageEstimate 22 = .ok (.iload_n 1, 1) := by decide +kernel
theorem dX5_coverageEstimate_23 : decode cX5_coverageEstimate 23 = .ok (.invokevirtual 144, 3) := by decide +kernel
theorem dX5_coverageEstimate_26 : decode cX5_coverageEstimate 26 = .ok (.isub, 1) := by decide +kernel
theorem dX5_coverageEstimate_27 : decode cX5_coverageEstimate 27 = .ok (.istore_n 3, 1) := by decide +kernel
theorem dX5_coverageEstimate_28 : decode cX5_coverageEstimate 28 = .ok (.iload_n 3, 1) := by decide +kernel
theorem dX5_coverageEstimate_29 : decode cX5_coverageEstimate 29 = .ok (.ifCond .le 22, 3) := by decide +kernel
theorem dX5_coverageEstimate_32 : decode cX5_coverageEstimate 32 = .ok (.sipush 1000, 3) := by decide +kernel
theorem dX5_coverageEstimate_35 : decode cX5_coverageEstimate 35 = .ok (.iload_n 2, 1) := by decide +kernel
theorem dX5_coverageEstimate_36 : decode cX5_coverageEstimate 36 = .ok (.imul, 1) := by decide +kernel
theorem dX5_coverageEstimate_37 : decode cX5_coverageEstimate 37 = .ok (.aload_n 0, 1) := by decide +kernel
theorem dX5_coverageEstimate_38 : decode cX5_coverageEstimate 38 = .ok (.getfield 10, 3) := by decide +kernel
theorem dX5_coverageEstimate_41 : decode cX5_coverageEstimate 41 = .ok (.iload_n 1, 1) := by decide +kernel
theorem dX5_coverageEstimate_42 : decode cX5_coverageEstimate 42 = .ok (.invokevirtual 90, 3) := by decide +kernel
theorem dX5_coverageEstimate_45 : decode cX5_coverageEstimate 45 = .ok (.imul, 1) := by decide +kernel
theorem dX5_coverageEstimate_46 : decode cX5_coverageEstimate 46 = .ok (.iload_n 3, 1) := by decide +kernel
theorem dX5_coverageEstimate_47 : decode cX5_coverageEstimate 47 = .ok (.idiv, 1) := by decide +kernel
theorem dX5_coverageEstimate_48 : decode cX5_coverageEstimate 48 = .ok (.goto 5, 3) := by decide +kernel
theorem dX5_coverageEstimate_51 : decode cX5_coverageEstimate 51 = .ok (.bipush (-3), 2) := by decide +kernel
theorem dX5_coverageEstimate_53 : decode cX5_coverageEstimate 53 = .ok (.ireturn, 1) := by decide +kernel
theorem dX5_frequencyEstimate_0 : decode cX5_frequencyEstimate 0 = .ok (.iload_n 1, 1) := by decide +kernel
theorem dX5_frequencyEstimate_1 : decode cX5_frequencyEstimate 1 = .ok (.invokestatic 73, 3) := by decide +kernel
theorem dX5_frequencyEstimate_4 : decode cX5_frequencyEstimate 4 = .ok (.ifCond .ne 5, 3) := by decide +kernel
theorem dX5_frequencyEstimate_7 : decode cX5_frequencyEstimate 7 = .ok (.iconst (-1), 1) := by decide +kernel
theorem dX5_frequencyEstimate_8 : decode cX5_frequencyEstimate 8 = .ok (.ireturn, 1) := by decide +kernel
theorem dX5_frequencyEstimate_9 : decode cX5_frequencyEstimate 9 = .ok (.aload_n 0, 1) := by decide +kernel
theorem dX5_frequencyEstimate_10 : decode cX5_frequencyEstimate 10 = .ok (.getfield 10, 3) := by decide +kernel
theorem dX5_frequencyEstimate_13 : decode cX5_frequencyEstimate 13 = .ok (.getfield 51, 3) := by decide +kernel
theorem dX5_frequencyEstimate_16 : decode cX5_frequencyEstimate 16 = .ok (.istore_n 2, 1) := by decide +kernel
theorem dX5_frequencyEstimate_17 : decode cX5_frequencyEstimate 17 = .ok (.aload_n 0, 1) := by decide +kernel
theorem dX5_frequencyEstimate_18 : decode cX5_frequencyEstimate 18 = .ok (.getfield 10, 3) := by decide +kernel
theorem dX5_frequencyEstimate_21 : decode cX5_frequencyEstimate 21 = .ok (.iload_n 1, 1) := by decide +kernel
theorem dX5_frequencyEstimate_22 : decode cX5_frequencyEstimate 22 = .ok (.invokevirtual 90, 3) := by decide +kernel
theorem dX5_frequencyEstimate_25 : decode cX5_frequencyEstimate 25 = .ok (.istore_n 3, 1) := by decide +kernel
theorem dX5_frequencyEstimate_26 : decode cX5_frequencyEstimate 26 = .ok (.iload_n 2, 1) := by decide +kernel
theorem dX5_frequencyEstimate_27 : decode cX5_frequencyEstimate 27 = .ok (.iconst 2, 1) := by decide +kernel
theorem dX5_frequencyEstimate_28 : decode cX5_frequencyEstimate 28 = .ok (.if_icmp .lt 8, 3) := by decide +kernel
theorem dX5_frequencyEstimate_31 : decode cX5_frequencyEstimate 31 = .ok (.iload_n 2, 1) := by decide +kernel
theorem dX5_frequencyEstimate_32 : decode cX5_frequencyEstimate 32 = .ok (.iload_n 3, 1) := by decide +kernel
theorem dX5_frequencyEstimate_33 : decode cX5_frequencyEstimate 33 = .ok (.if_icmp .ne 6, 3) := by decide +kernel
theorem dX5_frequencyEstimate_36 : decode cX5_frequencyEstimate 36 = .ok (.bipush (-3), 2) := by decide +kernel
theorem dX5_frequencyEstimate_38 : decode cX5_frequencyEstimate 38 = .ok (.ireturn, 1) := by decide +kernel
theorem dX5_frequencyEstimate_39 : decode cX5_frequencyEstimate 39 = .ok (.iload_n 2, 1) := by decide +kernel
theorem dX5_frequencyEstimate_40 : decode cX5_frequencyEstimate 40 = .ok (.iload_n 3, 1) := by decide +kernel
theorem dX5_frequencyEstimate_41 : decode cX5_frequencyEstimate 41 = .ok (.invokestatic 147, 3) := by decide +kernel
theorem dX5_frequencyEstimate_44 : decode cX5_frequencyEstimate 44 = .ok (.istore 4, 2) := by decide +kernel
theorem dX5_frequencyEstimate_46 : decode cX5_frequencyEstimate 46 = .ok (.iload 4, 2) := by decide +kernel
theorem dX5_frequencyEstimate_48 : decode cX5_frequencyEstimate 48 = .ok (.ifCond .le 20, 3) := by decide +kernel
theorem dX5_frequencyEstimate_51 : decode cX5_frequencyEstimate 51 = .ok (.iload_n 2, 1) := by decide +kernel
theorem dX5_frequencyEstimate_52 : decode cX5_frequencyEstimate 52 = .ok (.iload_n 3, 1) := by decide +kernel
theorem dX5_frequencyEstimate_53 : decode cX5_frequencyEstimate 53 = .ok (.imul, 1) := by decide +kernel
theorem dX5_frequencyEstimate_54 : decode cX5_frequencyEstimate 54 = .ok (.sipush 1000, 3) := by decide +kernel
theorem dX5_frequencyEstimate_57 : decode cX5_frequencyEstimate 57 = .ok (.imul, 1) := by decide +kernel
theorem dX5_frequencyEstimate_58 : decode cX5_frequencyEstimate 58 = .ok (.sipush 1000, 3) := by decide +kernel
theorem dX5_frequencyEstimate_61 : decode cX5_frequencyEstimate 61 = .ok (.imul, 1) := by decide +kernel
theorem dX5_frequencyEstimate_62 : decode cX5_frequencyEstimate 62 = .ok (.iload 4, 2) := by decide +kernel
theorem dX5_frequencyEstimate_64 : decode cX5_frequencyEstimate 64 = .ok (.idiv, 1) := by decide +kernel
theorem dX5_frequencyEstimate_65 : decode cX5_frequencyEstimate 65 = .ok (.goto 5, 3) := by decide +kernel
theorem dX5_frequencyEstimate_68 : decode cX5_frequencyEstimate 68 = .ok (.bipush (-3), 2) := by decide +kernel
theorem dX5_frequencyEstimate_70 : decode cX5_frequencyEstimate 70 = .ok (.ireturn, 1) := by decide +kernel
theorem dX5_undo_0 : decode cX5_undo 0 = .ok (.aload_n 0, 1) := by decide +kernel
theorem dX5_undo_1 : decode cX5_undo 1 = .ok (.getfield 19, 3) := by decide +kernel
theorem dX5_undo_4 : decode cX5_undo 4 = .ok (.getfield 150, 3) := by decide +kernel
theorem dX5_undo_7 : decode cX5_undo 7 = .ok (.ifCond .ne 6, 3) := by decide +kernel
theorem dX5_undo_10 : decode cX5_undo 10 = .ok (.bipush (-3), 2) := by decide +kernel
theorem dX5_undo_12 : decode cX5_undo 12 = .ok (.ireturn, 1) := by decide +kernel
theorem dX5_undo_13 : decode cX5_undo 13 = .ok (.aload_n 0, 1) := by decide +kernel
theorem dX5_undo_14 : decode cX5_undo 14 = .ok (.getfield 19, 3) := by decide +kernel
theorem dX5_undo_17 : decode cX5_undo 17 = .ok (.aload_n 0, 1) := by decide +kernel
theorem dX5_undo_18 : decode cX5_undo 18 = .ok (.getfield 10, 3) := by decide +kernel
theorem dX5_undo_21 : decode cX5_undo 21 = .ok (.invokevirtual 153, 3) := by decide +kernel
theorem dX5_undo_24 : decode cX5_undo 24 = .ok (.aload_n 0, 1) := by decide +kernel
theorem dX5_undo_25 : decode cX5_undo 25 = .ok (.getfield 19, 3) := by decide +kernel
theorem dX5_undo_28 : decode cX5_undo 28 = .ok (.getfield 150, 3) := by decide +kernel
theorem dX5_undo_31 : decode cX5_undo 31 = .ok (.ireturn, 1) := by decide +kernel
theorem dX5_isSide_0 : decode cX5_isSide 0 = .ok (.iload_n 0, 1) := by decide +kernel
theorem dX5_isSide_1 : decode cX5_isSide 1 = .ok (.ifCond .lt 12, 3) := by decide +kernel
theorem dX5_isSide_4 : decode cX5_isSide 4 = .ok (.iload_n 0, 1) := by decide +kernel
theorem dX5_isSide_5 : decode cX5_isSide 5 = .ok (.iconst 2, 1) := by decide +kernel
theorem dX5_isSide_6 : decode cX5_isSide 6 = .ok (.if_icmp .ge 7, 3) := by decide +kernel
theorem dX5_isSide_9 : decode cX5_isSide 9 = .ok (.iconst 1, 1) := by decide +kernel
theorem dX5_isSide_10 : decode cX5_isSide 10 = .ok (.goto 4, 3) := by decide +kernel
theorem dX5_isSide_13 : decode cX5_isSide 13 = .ok (.iconst 0, 1) := by decide +kernel
theorem dX5_isSide_14 : decode cX5_isSide 14 = .ok (.ireturn, 1) := by decide +kernel
theorem dX5_isDie_0 : decode cX5_isDie 0 = .ok (.iload_n 0, 1) := by decide +kernel
theorem dX5_isDie_1 : decode cX5_isDie 1 = .ok (.ifCond .lt 13, 3) := by decide +kernel
theorem dX5_isDie_4 : decode cX5_isDie 4 = .ok (.iload_n 0, 1) := by decide +kernel
theorem dX5_isDie_5 : decode cX5_isDie 5 = .ok (.bipush 10, 2) := by decide +kernel
theorem dX5_isDie_7 : decode cX5_isDie 7 = .ok (.if_icmp .ge 7, 3) := by decide +kernel
theorem dX5_isDie_10 : decode cX5_isDie 10 = .ok (.iconst 1, 1) := by decide +kernel
theorem dX5_isDie_11 : decode cX5_isDie 11 = .ok (.goto 4, 3) := by decide +kernel
theorem dX5_isDie_14 : decode cX5_isDie 14 = .ok (.iconst 0, 1) := by decide +kernel
theorem dX5_isDie_15 : decode cX5_isDie 15 = .ok (.ireturn, 1) := by decide +kernel
theorem dX5_isWear_0 : decode cX5_isWear 0 = .ok (.iload_n 0, 1) := by decide +kernel
theorem dX5_isWear_1 : decode cX5_isWear 1 = .ok (.ifCond .lt 12, 3) := by decide +kernel
theorem dX5_isWear_4 : decode cX5_isWear 4 = .ok (.iload_n 0, 1) := by decide +kernel
theorem dX5_isWear_5 : decode cX5_isWear 5 = .ok (.iconst 5, 1) := by decide +kernel
theorem dX5_isWear_6 : decode cX5_isWear 6 = .ok (.if_icmp .gt 7, 3) := by decide +kernel
theorem dX5_isWear_9 : decode cX5_isWear 9 = .ok (.iconst 1, 1) := by decide +kernel
theorem dX5_isWear_10 : decode cX5_isWear 10 = .ok (.goto 4, 3) := by decide +kernel
theorem dX5_isWear_13 : decode cX5_isWear 13 = .ok (.iconst 0, 1) := by decide +kernel
theorem dX5_isWear_14 : decode cX5_isWear 14 = .ok (.ireturn, 1) := by decide +kernel
theorem dX5_errorOfPlace_0 : decode cX5_errorOfPlace 0 = .ok (.iload_n 1, 1) := by decide +kernel
theorem dX5_errorOfPlace_1 : decode cX5_errorOfPlace 1 = .ok (.ifCond .ge 5, 3) := by decide +kernel
theorem dX5_errorOfPlace_4 : decode cX5_errorOfPlace 4 = .ok (.iconst (-1), 1) := by decide +kernel
theorem dX5_errorOfPlace_5 : decode cX5_errorOfPlace 5 = .ok (.ireturn, 1) := by decide +kernel
theorem dX5_errorOfPlace_6 : decode cX5_errorOfPlace 6 = .ok (.aload_n 0, 1) := by decide +kernel
theorem dX5_errorOfPlace_7 : decode cX5_errorOfPlace 7 = .ok (.getfield 26, 3) := by decide +kernel
theorem dX5_errorOfPlace_10 : decode cX5_errorOfPlace 10 = .ok (.iload_n 1, 1) := by decide +kernel
theorem dX5_errorOfPlace_11 : decode cX5_errorOfPlace 11 = .ok (.invokevirtual 128, 3) := by decide +kernel
theorem dX5_errorOfPlace_14 : decode cX5_errorOfPlace 14 = .ok (.ifCond .eq 7, 3) := by decide +kernel
theorem dX5_errorOfPlace_17 : decode cX5_errorOfPlace 17 = .ok (.iconst 0, 1) := by decide +kernel
theorem dX5_errorOfPlace_18 : decode cX5_errorOfPlace 18 = .ok (.goto 5, 3) := by decide +kernel
theorem dX5_errorOfPlace_21 : decode cX5_errorOfPlace 21 = .ok (.bipush (-3), 2) := by decide +kernel
theorem dX5_errorOfPlace_23 : decode cX5_errorOfPlace 23 = .ok (.ireturn, 1) := by decide +kernel
theorem dX5_divisorOfFrequencyEstimate_0 : decode cX5_divisorOfFrequencyEstimate 0 = .ok (.iload_n 0, 1) := by decide +kernel
theorem dX5_divisorOfFrequencyEstimate_1 : decode cX5_divisorOfFrequencyEstimate 1 = .ok (.iconst 2, 1) := by decide +kernel
theorem dX5_divisorOfFrequencyEstimate_2 : decode cX5_divisorOfFrequencyEstimate 2 = .ok (.iload_n 1, 1) := by decide +kernel
theorem dX5_divisorOfFrequencyEstimate_3 : decode cX5_divisorOfFrequencyEstimate 3 = .ok (.imul, 1) := by decide +kernel
theorem dX5_divisorOfFrequencyEstimate_4 : decode cX5_divisorOfFrequencyEstimate 4 = .ok (.if_icmp .ge 15, 3) := by decide +kernel
theorem dX5_divisorOfFrequencyEstimate_7 : decode cX5_divisorOfFrequencyEstimate 7 = .ok (.sipush 1124, 3) := by decide +kernel
theorem dX5_divisorOfFrequencyEstimate_10 : decode cX5_divisorOfFrequencyEstimate 10 = .ok (.iload_n 0, 1) := by decide +kernel
theorem dX5_divisorOfFrequencyEstimate_11 : decode cX5_divisorOfFrequencyEstimate 11 = .ok (.imul, 1) := by decide +kernel
theorem dX5_divisorOfFrequencyEstimate_12 : decode cX5_divisorOfFrequencyEstimate 12 = .ok (.sipush 1016, 3) := by decide +kernel
theorem dX5_divisorOfFrequencyEstimate_15 : decode cX5_divisorOfFrequencyEstimate 15 = .ok (.iload_n 1, 1) := by decide +kernel
theorem dX5_divisorOfFrequencyEstimate_16 : decode cX5_divisorOfFrequencyEstimate 16 = .ok (.imul, 1) := by decide +kernel
theorem dX5_divisorOfFrequencyEstimate_17 : decode cX5_divisorOfFrequencyEstimate 17 = .ok (.isub, 1) := by decide +kernel
theorem dX5_divisorOfFrequencyEstimate_18 : decode cX5_divisorOfFrequencyEstimate 18 = .ok (.ireturn, 1) := by decide +kernel
theorem dX5_divisorOfFrequencyEstimate_19 : decode cX5_divisorOfFrequencyEstimate 19 = .ok (.iload_n 0, 1) := by decide +kernel
theorem dX5_divisorOfFrequencyEstimate_20 : decode cX5_divisorOfFrequencyEstimate 20 = .ok (.iconst 3, 1) := by decide +kernel
theorem dX5_divisorOfFrequencyEstimate_21 : decode cX5_divisorOfFrequencyEstimate 21 = .ok (.iload_n 1, 1) := by decide +kernel
theorem dX5_divisorOfFrequencyEstimate_22 : decode cX5_divisorOfFrequencyEstimate 22 = .ok (.imul, 1) := by decide +kernel
theorem dX5_divisorOfFrequencyEstimate_23 : decode cX5_divisorOfFrequencyEstimate 23 = .ok (.if_icmp .ge 15, 3) := by decide +kernel
theorem dX5_divisorOfFrequencyEstimate_26 : decode cX5_divisorOfFrequencyEstimate 26 = .ok (.sipush 1069, 3) := by decide +kernel
theorem dX5_divisorOfFrequencyEstimate_29 : decode cX5_divisorOfFrequencyEstimate 29 = .ok (.iload_n 0, 1) := by decide +kernel
theorem dX5_divisorOfFrequencyEstimate_30 : decode cX5_divisorOfFrequencyEstimate 30 = .ok (.imul, 1) := by decide +kernel
theorem dX5_divisorOfFrequencyEstimate_31 : decode cX5_divisorOfFrequencyEstimate 31 = .ok (.sipush 843, 3) := by decide +kernel
theorem dX5_divisorOfFrequencyEstimate_34 : decode cX5_divisorOfFrequencyEstimate 34 = .ok (.iload_n 1, 1) := by decide +kernel
theorem dX5_divisorOfFrequencyEstimate_35 : decode cX5_divisorOfFrequencyEstimate 35 = .ok (.imul, 1) := by decide +kernel
theorem dX5_divisorOfFrequencyEstimate_36 : decode cX5_divisorOfFrequencyEstimate 36 = .ok (.isub, 1) := by decide +kernel
theorem dX5_divisorOfFrequencyEstimate_37 : decode cX5_divisorOfFrequencyEstimate 37 = .ok (.ireturn, 1) := by decide +kernel
theorem dX5_divisorOfFrequencyEstimate_38 : decode cX5_divisorOfFrequencyEstimate 38 = .ok (.sipush 1016, 3) := by decide +kernel
theorem dX5_divisorOfFrequencyEstimate_41 : decode cX5_divisorOfFrequencyEstimate 41 = .ok (.iload_n 0, 1) := by decide +kernel
theorem dX5_divisorOfFrequencyEstimate_42 : decode cX5_divisorOfFrequencyEstimate 42 = .ok (.imul, 1) := by decide +kernel
theorem dX5_divisorOfFrequencyEstimate_43 : decode cX5_divisorOfFrequencyEstimate 43 = .ok (.sipush 197, 3) := by decide +kernel
theorem dX5_divisorOfFrequencyEstimate_46 : decode cX5_divisorOfFrequencyEstimate 46 = .ok (.iload_n 1, 1) := by decide +kernel
theorem dX5_divisorOfFrequencyEstimate_47 : decode cX5_divisorOfFrequencyEstimate 47 = .ok (.imul, 1) := by decide +kernel
theorem dX5_divisorOfFrequencyEstimate_48 : decode cX5_divisorOfFrequencyEstimate 48 = .ok (.isub, 1) := by decide +kernel
theorem dX5_divisorOfFrequencyEstimate_49 : decode cX5_divisorOfFrequencyEstimate 49 = .ok (.ireturn, 1) := by decide +kernel
theorem dX5_bitsOf_0 : decode cX5_bitsOf 0 = .ok (.fload_n 0, 1) := by decide +kernel
theorem dX5_bitsOf_1 : decode cX5_bitsOf 1 = .ok (.fconst 0, 1) := by decide +kernel
theorem dX5_bitsOf_2 : decode cX5_bitsOf 2 = .ok (.fcmp .g, 1) := by decide +kernel
theorem dX5_bitsOf_3 : decode cX5_bitsOf 3 = .ok (.ifCond .gt 5, 3) := by decide +kernel
theorem dX5_bitsOf_6 : decode cX5_bitsOf 6 = .ok (.iconst 0, 1) := by decide +kernel
theorem dX5_bitsOf_7 : decode cX5_bitsOf 7 = .ok (.ireturn, 1) := by decide +kernel
theorem dX5_bitsOf_8 : decode cX5_bitsOf 8 = .ok (.fload_n 0, 1) := by decide +kernel
theorem dX5_bitsOf_9 : decode cX5_bitsOf 9 = .ok (.fstore_n 1, 1) := by decide +kernel
theorem dX5_bitsOf_10 : decode cX5_bitsOf 10 = .ok (.bipush 127, 2) := by decide +kernel
theorem dX5_bitsOf_12 : decode cX5_bitsOf 12 = .ok (.istore_n 2, 1) := by decide +kernel
theorem dX5_bitsOf_13 : decode cX5_bitsOf 13 = .ok (.iconst 0, 1) := by decide +kernel
theorem dX5_bitsOf_14 : decode cX5_bitsOf 14 = .ok (.istore_n 3, 1) := by decide +kernel
theorem dX5_bitsOf_15 : decode cX5_bitsOf 15 = .ok (.iload_n 3, 1) := by decide +kernel
theorem dX5_bitsOf_16 : decode cX5_bitsOf 16 = .ok (.bipush 8, 2) := by decide +kernel
theorem dX5_bitsOf_18 : decode cX5_bitsOf 18 = .ok (.if_icmp .ge 22, 3) := by decide +kernel
theorem dX5_bitsOf_21 : decode cX5_bitsOf 21 = .ok (.fload_n 1, 1) := by decide +kernel
theorem dX5_bitsOf_22 : decode cX5_bitsOf 22 = .ok (.fconst 2, 1) := by decide +kernel
theorem dX5_bitsOf_23 : decode cX5_bitsOf 23 = .ok (.fcmp .l, 1) := by decide +kernel
theorem dX5_bitsOf_24 : decode cX5_bitsOf 24 = .ok (.ifCond .lt 16, 3) := by decide +kernel
theorem dX5_bitsOf_27 : decode cX5_bitsOf 27 = .ok (.fload_n 1, 1) := by decide +kernel
theorem dX5_bitsOf_28 : decode cX5_bitsOf 28 = .ok (.fconst 2, 1) := by decide +kernel
theorem dX5_bitsOf_29 : decode cX5_bitsOf 29 = .ok (.fdiv, 1) := by decide +kernel
theorem dX5_bitsOf_30 : decode cX5_bitsOf 30 = .ok (.fstore_n 1, 1) := by decide +kernel
theorem dX5_bitsOf_31 : decode cX5_bitsOf 31 = .ok (.iinc 2 1, 3) := by decide +kernel
theorem dX5_bitsOf_34 : decode cX5_bitsOf 34 = .ok (.iinc 3 1, 3) := by decide +kernel
theorem dX5_bitsOf_37 : decode cX5_bitsOf 37 = .ok (.goto (-22), 3) := by decide +kernel
theorem dX5_bitsOf_40 : decode cX5_bitsOf 40 = .ok (.iconst 0, 1) := by decide +kernel
theorem dX5_bitsOf_41 : decode cX5_bitsOf 41 = .ok (.istore_n 3, 1) := by decide +kernel
theorem dX5_bitsOf_42 : decode cX5_bitsOf 42 = .ok (.iload_n 3, 1) := by decide +kernel
theorem dX5_bitsOf_43 : decode cX5_bitsOf 43 = .ok (.bipush 8, 2) := by decide +kernel
theorem dX5_bitsOf_45 : decode cX5_bitsOf 45 = .ok (.if_icmp .ge 22, 3) := by decide +kernel
theorem dX5_bitsOf_48 : decode cX5_bitsOf 48 = .ok (.fload_n 1, 1) := by decide +kernel
theorem dX5_bitsOf_49 : decode cX5_bitsOf 49 = .ok (.fconst 1, 1) := by decide +kernel
theorem dX5_bitsOf_50 : decode cX5_bitsOf 50 = .ok (.fcmp .g, 1) := by decide +kernel
theorem dX5_bitsOf_51 : decode cX5_bitsOf 51 = .ok (.ifCond .ge 16, 3) := by decide +kernel
theorem dX5_bitsOf_54 : decode cX5_bitsOf 54 = .ok (.fload_n 1, 1) := by decide +kernel
theorem dX5_bitsOf_55 : decode cX5_bitsOf 55 = .ok (.fconst 2, 1) := by decide +kernel
theorem dX5_bitsOf_56 : decode cX5_bitsOf 56 = .ok (.fmul, 1) := by decide +kernel
theorem dX5_bitsOf_57 : decode cX5_bitsOf 57 = .ok (.fstore_n 1, 1) := by decide +kernel
theorem dX5_bitsOf_58 : decode cX5_bitsOf 58 = .ok (.iinc 2 (-1), 3) := by decide +kernel
theorem dX5_bitsOf_61 : decode cX5_bitsOf 61 = .ok (.iinc 3 1, 3) := by decide +kernel
theorem dX5_bitsOf_64 : decode cX5_bitsOf 64 = .ok (.goto (-22), 3) := by decide +kernel
theorem dX5_bitsOf_67 : decode cX5_bitsOf 67 = .ok (.iload_n 2, 1) := by decide +kernel
theorem dX5_bitsOf_68 : decode cX5_bitsOf 68 = .ok (.bipush 23, 2) := by decide +kernel
theorem dX5_bitsOf_70 : decode cX5_bitsOf 70 = .ok (.ishl, 1) := by decide +kernel
theorem dX5_bitsOf_71 : decode cX5_bitsOf 71 = .ok (.fload_n 1, 1) := by decide +kernel
theorem dX5_bitsOf_72 : decode cX5_bitsOf 72 = .ok (.fconst 1, 1) := by decide +kernel
theorem dX5_bitsOf_73 : decode cX5_bitsOf 73 = .ok (.fsub, 1) := by decide +kernel
theorem dX5_bitsOf_74 : decode cX5_bitsOf 74 = .ok (.ldc 156, 2) := by decide +kernel
theorem dX5_bitsOf_76 : decode cX5_bitsOf 76 = .ok (.fmul, 1) := by decide +kernel
theorem dX5_bitsOf_77 : decode cX5_bitsOf 77 = .ok (.f2i, 1) := by decide +kernel
theorem dX5_bitsOf_78 : decode cX5_bitsOf 78 = .ok (.iadd, 1) := by decide +kernel
theorem dX5_bitsOf_79 : decode cX5_bitsOf 79 = .ok (.ireturn, 1) := by decide +kernel
theorem dJ9_max_7cf53_0 : decode cJ9_max_7cf53 0 = .ok (.iload_n 0, 1) := by decide +kernel
theorem dJ9_max_7cf53_1 : decode cJ9_max_7cf53 1 = .ok (.iload_n 1, 1) := by decide +kernel
theorem dJ9_max_7cf53_2 : decode cJ9_max_7cf53 2 = .ok (.if_icmp .lt 7, 3) := by decide +kernel
theorem dJ9_max_7cf53_5 : decode cJ9_max_7cf53 5 = .ok (.iload_n 0, 1) := by decide +kernel
theorem dJ9_max_7cf53_6 : decode cJ9_max_7cf53 6 = .ok (.goto 4, 3) := by decide +kernel
theorem dJ9_max_7cf53_9 : decode cJ9_max_7cf53 9 = .ok (.iload_n 1, 1) := by decide +kernel
theorem dJ9_max_7cf53_10 : decode cJ9_max_7cf53 10 = .ok (.ireturn, 1) := by decide +kernel
theorem dJ9_min_7cf53_0 : decode cJ9_min_7cf53 0 = .ok (.iload_n 0, 1) := by decide +kernel
theorem dJ9_min_7cf53_1 : decode cJ9_min_7cf53 1 = .ok (.iload_n 1, 1) := by decide +kernel
theorem dJ9_min_7cf53_2 : decode cJ9_min_7cf53 2 = .ok (.if_icmp .gt 7, 3) := by decide +kernel
theorem dJ9_min_7cf53_5 : decode cJ9_min_7cf53 5 = .ok (.iload_n 0, 1) := by decide +kernel
theorem dJ9_min_7cf53_6 : decode cJ9_min_7cf53 6 = .ok (.goto 4, 3) := by decide +kernel
theorem dJ9_min_7cf53_9 : decode cJ9_min_7cf53 9 = .ok (.iload_n 1, 1) := by decide +kernel
theorem dJ9_min_7cf53_10 : decode cJ9_min_7cf53 10 = .ok (.ireturn, 1) := by decide +kernel
theorem dJ7_fill_53178_0 : decode cJ7_fill_53178 0 = .ok (.iconst 0, 1) := by decide +kernel
theorem dJ7_fill_53178_1 : decode cJ7_fill_53178 1 = .ok (.istore_n 2, 1) := by decide +kernel
theorem dJ7_fill_53178_2 : decode cJ7_fill_53178 2 = .ok (.aload_n 0, 1) := by decide +kernel
theorem dJ7_fill_53178_3 : decode cJ7_fill_53178 3 = .ok (.arraylength, 1) := by decide +kernel
theorem dJ7_fill_53178_4 : decode cJ7_fill_53178 4 = .ok (.istore_n 3, 1) := by decide +kernel
theorem dJ7_fill_53178_5 : decode cJ7_fill_53178 5 = .ok (.iload_n 2, 1) := by decide +kernel
theorem dJ7_fill_53178_6 : decode cJ7_fill_53178 6 = .ok (.iload_n 3, 1) := by decide +kernel
theorem dJ7_fill_53178_7 : decode cJ7_fill_53178 7 = .ok (.if_icmp .ge 13, 3) := by decide +kernel
theorem dJ7_fill_53178_10 : decode cJ7_fill_53178 10 = .ok (.aload_n 0, 1) := by decide +kernel
theorem dJ7_fill_53178_11 : decode cJ7_fill_53178 11 = .ok (.iload_n 2, 1) := by decide +kernel
theorem dJ7_fill_53178_12 : decode cJ7_fill_53178 12 = .ok (.iload_n 1, 1) := by decide +kernel
theorem dJ7_fill_53178_13 : decode cJ7_fill_53178 13 = .ok (.iastore, 1) := by decide +kernel
theorem dJ7_fill_53178_14 : decode cJ7_fill_53178 14 = .ok (.iinc 2 1, 3) := by decide +kernel
theorem dJ7_fill_53178_17 : decode cJ7_fill_53178 17 = .ok (.goto (-12), 3) := by decide +kernel
theorem dJ7_fill_53178_20 : decode cJ7_fill_53178 20 = .ok (.return_, 1) := by decide +kernel
