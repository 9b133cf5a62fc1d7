theorem dMO_init_0 : decode cMO_init 0 = .ok (.aload_n 0, 1) := by decide +kernel
theorem dMO_init_1 : decode cMO_init 1 = .ok (.invokespecial 1, 3) := by decide +kernel
theorem dMO_init_4 : decode cMO_init 4 = .ok (.aload_n 0, 1) := by decide +kernel
theorem dMO_init_5 : decode cMO_init 5 = .ok (.bipush 8, 2) := by decide +kernel
theorem dMO_init_7 : decode cMO_init 7 = .ok (.newarray .int, 2) := by decide +kernel
theorem dMO_init_9 : decode cMO_init 9 = .ok (.putfield 7, 3) := by decide +kernel
theorem dMO_init_12 : decode cMO_init 12 = .ok (.aload_n 0, 1) := by decide +kernel
theorem dMO_init_13 : decode cMO_init 13 = .ok (.sipush 320, 3) := by decide +kernel
theorem dMO_init_16 : decode cMO_init 16 = .ok (.newarray .boolean, 2) := by decide +kernel
theorem dMO_init_18 : decode cMO_init 18 = .ok (.putfield 13, 3) := by decide +kernel
theorem dMO_init_21 : decode cMO_init 21 = .ok (.aload_n 0, 1) := by decide +kernel
theorem dMO_init_22 : decode cMO_init 22 = .ok (.bipush 12, 2) := by decide +kernel
theorem dMO_init_24 : decode cMO_init 24 = .ok (.newarray .long, 2) := by decide +kernel
theorem dMO_init_26 : decode cMO_init 26 = .ok (.putfield 17, 3) := by decide +kernel
theorem dMO_init_29 : decode cMO_init 29 = .ok (.aload_n 0, 1) := by decide +kernel
theorem dMO_init_30 : decode cMO_init 30 = .ok (.bipush 24, 2) := by decide +kernel
theorem dMO_init_32 : decode cMO_init 32 = .ok (.newarray .int, 2) := by decide +kernel
theorem dMO_init_34 : decode cMO_init 34 = .ok (.putfield 21, 3) := by decide +kernel
theorem dMO_init_37 : decode cMO_init 37 = .ok (.aload_n 0, 1) := by decide +kernel
theorem dMO_init_38 : decode cMO_init 38 = .ok (.bipush 24, 2) := by decide +kernel
theorem dMO_init_40 : decode cMO_init 40 = .ok (.newarray .long, 2) := by decide +kernel
theorem dMO_init_42 : decode cMO_init 42 = .ok (.putfield 24, 3) := by decide +kernel
theorem dMO_init_45 : decode cMO_init 45 = .ok (.aload_n 0, 1) := by decide +kernel
theorem dMO_init_46 : decode cMO_init 46 = .ok (.iconst 2, 1) := by decide +kernel
theorem dMO_init_47 : decode cMO_init 47 = .ok (.newarray .int, 2) := by decide +kernel
theorem dMO_init_49 : decode cMO_init 49 = .ok (.putfield 27, 3) := by decide +kernel
theorem dMO_init_52 : decode cMO_init 52 = .ok (.aload_n 0, 1) := by decide +kernel
theorem dMO_init_53 : decode cMO_init 53 = .ok (.sipush 128, 3) := by decide +kernel
theorem dMO_init_56 : decode cMO_init 56 = .ok (.newarray .long, 2) := by decide +kernel
theorem dMO_init_58 : decode cMO_init 58 = .ok (.putfield 30, 3) := by decide +kernel
theorem dMO_init_61 : decode cMO_init 61 = .ok (.aload_n 0, 1) := by decide +kernel
theorem dMO_init_62 : decode cMO_init 62 = .ok (.bipush 16, 2) := by decide +kernel
theorem dMO_init_64 : decode cMO_init 64 = .ok (.newarray .long, 2) := by decide +kernel
theorem dMO_init_66 : decode cMO_init 66 = .ok (.putfield 33, 3) := by decide +kernel
theorem dMO_init_69 : decode cMO_init 69 = .ok (.aload_n 0, 1) := by decide +kernel
theorem dMO_init_70 : decode cMO_init 70 = .ok (.iconst 4, 1) := by decide +kernel
theorem dMO_init_71 : decode cMO_init 71 = .ok (.newarray .int, 2) := by decide +kernel
theorem dMO_init_73 : decode cMO_init 73 = .ok (.putfield 36, 3) := by decide +kernel
theorem dMO_init_76 : decode cMO_init 76 = .ok (.aload_n 0, 1) := by decide +kernel
theorem dMO_init_77 : decode cMO_init 77 = .ok (.sipush 400, 3) := by decide +kernel
theorem dMO_init_80 : decode cMO_init 80 = .ok (.newarray .long, 2) := by decide +kernel
theorem dMO_init_82 : decode cMO_init 82 = .ok (.putfield 39, 3) := by decide +kernel
theorem dMO_init_85 : decode cMO_init 85 = .ok (.aload_n 0, 1) := by decide +kernel
theorem dMO_init_86 : decode cMO_init 86 = .ok (.getfield 33, 3) := by decide +kernel
theorem dMO_init_89 : decode cMO_init 89 = .ok (.bipush 6, 2) := by decide +kernel
theorem dMO_init_91 : decode cMO_init 91 = .ok (.ldc2_w 42, 3) := by decide +kernel
theorem dMO_init_94 : decode cMO_init 94 = .ok (.lastore, 1) := by decide +kernel
theorem dMO_init_95 : decode cMO_init 95 = .ok (.aload_n 0, 1) := by decide +kernel
theorem dMO_init_96 : decode cMO_init 96 = .ok (.getfield 33, 3) := by decide +kernel
theorem dMO_init_99 : decode cMO_init 99 = .ok (.bipush 14, 2) := by decide +kernel
theorem dMO_init_101 : decode cMO_init 101 = .ok (.ldc2_w 42, 3) := by decide +kernel
theorem dMO_init_104 : decode cMO_init 104 = .ok (.lastore, 1) := by decide +kernel
theorem dMO_init_105 : decode cMO_init 105 = .ok (.return_, 1) := by decide +kernel
theorem dMO_thrown_0 : decode cMO_thrown 0 = .ok (.aload_n 0, 1) := by decide +kernel
theorem dMO_thrown_1 : decode cMO_thrown 1 = .ok (.getfield 44, 3) := by decide +kernel
theorem dMO_thrown_4 : decode cMO_thrown 4 = .ok (.ireturn, 1) := by decide +kernel
theorem dMO_collect_0 : decode cMO_collect 0 = .ok (.aload_n 0, 1) := by decide +kernel
theorem dMO_collect_1 : decode cMO_collect 1 = .ok (.iconst 0, 1) := by decide +kernel
theorem dMO_collect_2 : decode cMO_collect 2 = .ok (.putfield 44, 3) := by decide +kernel
theorem dMO_collect_5 : decode cMO_collect 5 = .ok (.iload_n 1, 1) := by decide +kernel
theorem dMO_collect_6 : decode cMO_collect 6 = .ok (.i2l, 1) := by decide +kernel
theorem dMO_collect_7 : decode cMO_collect 7 = .ok (.lconst 0, 1) := by decide +kernel
theorem dMO_collect_8 : decode cMO_collect 8 = .ok (.ldc2_w 60, 3) := by decide +kernel
theorem dMO_collect_11 : decode cMO_collect 11 = .ok (.invokestatic 52, 3) := by decide +kernel
theorem dMO_collect_14 : decode cMO_collect 14 = .ok (.ifCond .eq 22, 3) := by decide +kernel
theorem dMO_collect_17 : decode cMO_collect 17 = .ok (.iload_n 1, 1) := by decide +kernel
theorem dMO_collect_18 : decode cMO_collect 18 = .ok (.lload_n 2, 1) := by decide +kernel
theorem dMO_collect_19 : decode cMO_collect 19 = .ok (.invokestatic 62, 3) := by decide +kernel
theorem dMO_collect_22 : decode cMO_collect 22 = .ok (.ifCond .eq 14, 3) := by decide +kernel
theorem dMO_collect_25 : decode cMO_collect 25 = .ok (.aload_n 0, 1) := by decide +kernel
theorem dMO_collect_26 : decode cMO_collect 26 = .ok (.getfield 36, 3) := by decide +kernel
theorem dMO_collect_29 : decode cMO_collect 29 = .ok (.iload_n 1, 1) := by decide +kernel
theorem dMO_collect_30 : decode cMO_collect 30 = .ok (.iaload, 1) := by decide +kernel
theorem dMO_collect_31 : decode cMO_collect 31 = .ok (.bipush 100, 2) := by decide +kernel
theorem dMO_collect_33 : decode cMO_collect 33 = .ok (.if_icmp .ne 5, 3) := by decide +kernel
theorem dMO_collect_36 : decode cMO_collect 36 = .ok (.iconst (-1), 1) := by decide +kernel
theorem dMO_collect_37 : decode cMO_collect 37 = .ok (.ireturn, 1) := by decide +kernel
theorem dMO_collect_38 : decode cMO_collect 38 = .ok (.aload_n 0, 1) := by decide +kernel
theorem dMO_collect_39 : decode cMO_collect 39 = .ok (.getfield 39, 3) := by decide +kernel
theorem dMO_collect_42 : decode cMO_collect 42 = .ok (.bipush 100, 2) := by decide +kernel
theorem dMO_collect_44 : decode cMO_collect 44 = .ok (.iload_n 1, 1) := by decide +kernel
theorem dMO_collect_45 : decode cMO_collect 45 = .ok (.imul, 1) := by decide +kernel
theorem dMO_collect_46 : decode cMO_collect 46 = .ok (.aload_n 0, 1) := by decide +kernel
theorem dMO_collect_47 : decode cMO_collect 47 = .ok (.getfield 36, 3) := by decide +kernel
theorem dMO_collect_50 : decode cMO_collect 50 = .ok (.iload_n 1, 1) := by decide +kernel
theorem dMO_collect_51 : decode cMO_collect 51 = .ok (.iaload, 1) := by decide +kernel
theorem dMO_collect_52 : decode cMO_collect 52 = .ok (.iadd, 1) := by decide +kernel
theorem dMO_collect_53 : decode cMO_collect 53 = .ok (.lload_n 2, 1) := by decide +kernel
theorem dMO_collect_54 : decode cMO_collect 54 = .ok (.lastore, 1) := by decide +kernel
theorem dMO_collect_55 : decode cMO_collect 55 = .ok (.aload_n 0, 1) := by decide +kernel
theorem dMO_collect_56 : decode cMO_collect 56 = .ok (.getfield 36, 3) := by decide +kernel
theorem dMO_collect_59 : decode cMO_collect 59 = .ok (.iload_n 1, 1) := by decide +kernel
theorem dMO_collect_60 : decode cMO_collect 60 = .ok (.dup2, 1) := by decide +kernel
theorem dMO_collect_61 : decode cMO_collect 61 = .ok (.iaload, 1) := by decide +kernel
theorem dMO_collect_62 : decode cMO_collect 62 = .ok (.iconst 1, 1) := by decide +kernel
theorem dMO_collect_63 : decode cMO_collect 63 = .ok (.iadd, 1) := by decide +kernel
theorem dMO_collect_64 : decode cMO_collect 64 = .ok (.iastore, 1) := by decide +kernel
theorem dMO_collect_65 : decode cMO_collect 65 = .ok (.iload_n 1, 1) := by decide +kernel
theorem dMO_collect_66 : decode cMO_collect 66 = .ok (.iconst 3, 1) := by decide +kernel
theorem dMO_collect_67 : decode cMO_collect 67 = .ok (.if_icmp .ne 30, 3) := by decide +kernel
theorem dMO_collect_70 : decode cMO_collect 70 = .ok (.aload_n 0, 1) := by decide +kernel
theorem dMO_collect_71 : decode cMO_collect 71 = .ok (.getfield 7, 3) := by decide +kernel
theorem dMO_collect_74 : decode cMO_collect 74 = .ok (.lload_n 2, 1) := by decide +kernel
theorem dMO_collect_75 : decode cMO_collect 75 = .ok (.l2i, 1) := by decide +kernel
theorem dMO_collect_76 : decode cMO_collect 76 = .ok (.dup2, 1) := by decide +kernel
theorem dMO_collect_77 : decode cMO_collect 77 = .ok (.iaload, 1) := by decide +kernel
theorem dMO_collect_78 : decode cMO_collect 78 = .ok (.aload_n 0, 1) := by decide +kernel
theorem dMO_collect_79 : decode cMO_collect 79 = .ok (.getfield 7, 3) := by decide +kernel
theorem dMO_collect_82 : decode cMO_collect 82 = .ok (.lload_n 2, 1) := by decide +kernel
theorem dMO_collect_83 : decode cMO_collect 83 = .ok (.l2i, 1) := by decide +kernel
theorem dMO_collect_84 : decode cMO_collect 84 = .ok (.iaload, 1) := by decide +kernel
theorem dMO_collect_85 : decode cMO_collect 85 = .ok (.bipush 40, 2) := by decide +kernel
theorem dMO_collect_87 : decode cMO_collect 87 = .ok (.if_icmp .ge 7, 3) := by decide +kernel
theorem dMO_collect_90 : decode cMO_collect 90 = .ok (.iconst 1, 1) := by decide +kernel
theorem dMO_collect_91 : decode cMO_collect 91 = .ok (.goto 4, 3) := by decide +kernel
theorem dMO_collect_94 : decode cMO_collect 94 = .ok (.iconst 0, 1) := by decide +kernel
theorem dMO_collect_95 : decode cMO_collect 95 = .ok (.iadd, 1) := by decide +kernel
theorem dMO_collect_96 : decode cMO_collect 96 = .ok (.iastore, 1) := by decide +kernel
theorem dMO_collect_97 : decode cMO_collect 97 = .ok (.aload_n 0, 1) := by decide +kernel
theorem dMO_collect_98 : decode cMO_collect 98 = .ok (.getfield 36, 3) := by decide +kernel
theorem dMO_collect_101 : decode cMO_collect 101 = .ok (.iload_n 1, 1) := by decide +kernel
theorem dMO_collect_102 : decode cMO_collect 102 = .ok (.iaload, 1) := by decide +kernel
theorem dMO_collect_103 : decode cMO_collect 103 = .ok (.ireturn, 1) := by decide +kernel
theorem dMO_in_0 : decode cMO_in 0 = .ok (.lload_n 0, 1) := by decide +kernel
theorem dMO_in_1 : decode cMO_in 1 = .ok (.lload_n 2, 1) := by decide +kernel
theorem dMO_in_2 : decode cMO_in 2 = .ok (.lcmp, 1) := by decide +kernel
theorem dMO_in_3 : decode cMO_in 3 = .ok (.ifCond .lt 14, 3) := by decide +kernel
theorem dMO_in_6 : decode cMO_in 6 = .ok (.lload_n 0, 1) := by decide +kernel
theorem dMO_in_7 : decode cMO_in 7 = .ok (.lload 4, 2) := by decide +kernel
theorem dMO_in_9 : decode cMO_in 9 = .ok (.lcmp, 1) := by decide +kernel
theorem dMO_in_10 : decode cMO_in 10 = .ok (.ifCond .gt 7, 3) := by decide +kernel
theorem dMO_in_13 : decode cMO_in 13 = .ok (.iconst 1, 1) := by decide +kernel
theorem dMO_in_14 : decode cMO_in 14 = .ok (.goto 4, 3) := by decide +kernel
theorem dMO_in_17 : decode cMO_in 17 = .ok (.iconst 0, 1) := by decide +kernel
theorem dMO_in_18 : decode cMO_in 18 = .ok (.ireturn, 1) := by decide +kernel
theorem dMO_fits_0 : decode cMO_fits 0 = .ok (.iload_n 0, 1) := by decide +kernel
theorem dMO_fits_1 : decode cMO_fits 1 = .ok (.ifCond .ne 16, 3) := by decide +kernel
theorem dMO_fits_4 : decode cMO_fits 4 = .ok (.lload_n 1, 1) := by decide +kernel
theorem dMO_fits_5 : decode cMO_fits 5 = .ok (.ldc2_w 48, 3) := by decide +kernel
theorem dMO_fits_8 : decode cMO_fits 8 = .ok (.ldc2_w 50, 3) := by decide +kernel
theorem dMO_fits_11 : decode cMO_fits 11 = .ok (.invokestatic 52, 3) := by decide +kernel
theorem dMO_fits_14 : decode cMO_fits 14 = .ok (.goto 45, 3) := by decide +kernel
theorem dMO_fits_17 : decode cMO_fits 17 = .ok (.iload_n 0, 1) := by decide +kernel
theorem dMO_fits_18 : decode cMO_fits 18 = .ok (.iconst 1, 1) := by decide +kernel
theorem dMO_fits_19 : decode cMO_fits 19 = .ok (.if_icmp .ne 14, 3) := by decide +kernel
theorem dMO_fits_22 : decode cMO_fits 22 = .ok (.lload_n 1, 1) := by decide +kernel
theorem dMO_fits_23 : decode cMO_fits 23 = .ok (.lconst 0, 1) := by decide +kernel
theorem dMO_fits_24 : decode cMO_fits 24 = .ok (.ldc2_w 56, 3) := by decide +kernel
theorem dMO_fits_27 : decode cMO_fits 27 = .ok (.invokestatic 52, 3) := by decide +kernel
theorem dMO_fits_30 : decode cMO_fits 30 = .ok (.goto 29, 3) := by decide +kernel
theorem dMO_fits_33 : decode cMO_fits 33 = .ok (.iload_n 0, 1) := by decide +kernel
theorem dMO_fits_34 : decode cMO_fits 34 = .ok (.iconst 2, 1) := by decide +kernel
theorem dMO_fits_35 : decode cMO_fits 35 = .ok (.if_icmp .eq 19, 3) := by decide +kernel
theorem dMO_fits_38 : decode cMO_fits 38 = .ok (.iload_n 0, 1) := by decide +kernel
theorem dMO_fits_39 : decode cMO_fits 39 = .ok (.iconst 3, 1) := by decide +kernel
theorem dMO_fits_40 : decode cMO_fits 40 = .ok (.if_icmp .ne 18, 3) := by decide +kernel
theorem dMO_fits_43 : decode cMO_fits 43 = .ok (.lload_n 1, 1) := by decide +kernel
theorem dMO_fits_44 : decode cMO_fits 44 = .ok (.lconst 0, 1) := by decide +kernel
theorem dMO_fits_45 : decode cMO_fits 45 = .ok (.ldc2_w 58, 3) := by decide +kernel
theorem dMO_fits_48 : decode cMO_fits 48 = .ok (.invokestatic 52, 3) := by decide +kernel
theorem dMO_fits_51 : decode cMO_fits 51 = .ok (.ifCond .eq 7, 3) := by decide +kernel
theorem dMO_fits_54 : decode cMO_fits 54 = .ok (.iconst 1, 1) := by decide +kernel
theorem dMO_fits_55 : decode cMO_fits 55 = .ok (.goto 4, 3) := by decide +kernel
theorem dMO_fits_58 : decode cMO_fits 58 = .ok (.iconst 0, 1) := by decide +kernel
theorem dMO_fits_59 : decode cMO_fits 59 = .ok (.ireturn, 1) := by decide +kernel
theorem dMO_answer_0 : decode cMO_answer 0 = .ok (.aload_n 0, 1) := by decide +kernel
theorem dMO_answer_1 : decode cMO_answer 1 = .ok (.iconst 0, 1) := by decide +kernel
theorem dMO_answer_2 : decode cMO_answer 2 = .ok (.putfield 44, 3) := by decide +kernel
theorem dMO_answer_5 : decode cMO_answer 5 = .ok (.iload_n 1, 1) := by decide +kernel
theorem dMO_answer_6 : decode cMO_answer 6 = .ok (.invokestatic 66, 3) := by decide +kernel
theorem dMO_answer_9 : decode cMO_answer 9 = .ok (.ifCond .ne 5, 3) := by decide +kernel
theorem dMO_answer_12 : decode cMO_answer 12 = .ok (.iconst 0, 1) := by decide +kernel
theorem dMO_answer_13 : decode cMO_answer 13 = .ok (.ireturn, 1) := by decide +kernel
theorem dMO_answer_14 : decode cMO_answer 14 = .ok (.aload_n 0, 1) := by decide +kernel
theorem dMO_answer_15 : decode cMO_answer 15 = .ok (.getfield 17, 3) := by decide +kernel
theorem dMO_answer_18 : decode cMO_answer 18 = .ok (.iload_n 1, 1) := by decide +kernel
theorem dMO_answer_19 : decode cMO_answer 19 = .ok (.lload_n 2, 1) := by decide +kernel
theorem dMO_answer_20 : decode cMO_answer 20 = .ok (.lastore, 1) := by decide +kernel
theorem dMO_answer_21 : decode cMO_answer 21 = .ok (.iconst 1, 1) := by decide +kernel
theorem dMO_answer_22 : decode cMO_answer 22 = .ok (.ireturn, 1) := by decide +kernel
theorem dMO_isPart_0 : decode cMO_isPart 0 = .ok (.iload_n 0, 1) := by decide +kernel
theorem dMO_isPart_1 : decode cMO_isPart 1 = .ok (.ifCond .lt 13, 3) := by decide +kernel
theorem dMO_isPart_4 : decode cMO_isPart 4 = .ok (.iload_n 0, 1) := by decide +kernel
theorem dMO_isPart_5 : decode cMO_isPart 5 = .ok (.bipush 12, 2) := by decide +kernel
theorem dMO_isPart_7 : decode cMO_isPart 7 = .ok (.if_icmp .ge 7, 3) := by decide +kernel
theorem dMO_isPart_10 : decode cMO_isPart 10 = .ok (.iconst 1, 1) := by decide +kernel
theorem dMO_isPart_11 : decode cMO_isPart 11 = .ok (.goto 4, 3) := by decide +kernel
theorem dMO_isPart_14 : decode cMO_isPart 14 = .ok (.iconst 0, 1) := by decide +kernel
theorem dMO_isPart_15 : decode cMO_isPart 15 = .ok (.ireturn, 1) := by decide +kernel
theorem dMO_fails_0 : decode cMO_fails 0 = .ok (.aload_n 0, 1) := by decide +kernel
theorem dMO_fails_1 : decode cMO_fails 1 = .ok (.iconst 0, 1) := by decide +kernel
theorem dMO_fails_2 : decode cMO_fails 2 = .ok (.putfield 44, 3) := by decide +kernel
theorem dMO_fails_5 : decode cMO_fails 5 = .ok (.iload_n 1, 1) := by decide +kernel
theorem dMO_fails_6 : decode cMO_fails 6 = .ok (.invokestatic 66, 3) := by decide +kernel
theorem dMO_fails_9 : decode cMO_fails 9 = .ok (.ifCond .eq 15, 3) := by decide +kernel
theorem dMO_fails_12 : decode cMO_fails 12 = .ok (.iload_n 2, 1) := by decide +kernel
theorem dMO_fails_13 : decode cMO_fails 13 = .ok (.i2l, 1) := by decide +kernel
theorem dMO_fails_14 : decode cMO_fails 14 = .ok (.lconst 0, 1) := by decide +kernel
theorem dMO_fails_15 : decode cMO_fails 15 = .ok (.ldc2_w 70, 3) := by decide +kernel
theorem dMO_fails_18 : decode cMO_fails 18 = .ok (.invokestatic 52, 3) := by decide +kernel
theorem dMO_fails_21 : decode cMO_fails 21 = .ok (.ifCond .ne 5, 3) := by decide +kernel
theorem dMO_fails_24 : decode cMO_fails 24 = .ok (.iconst 0, 1) := by decide +kernel
theorem dMO_fails_25 : decode cMO_fails 25 = .ok (.ireturn, 1) := by decide +kernel
theorem dMO_fails_26 : decode cMO_fails 26 = .ok (.aload_n 0, 1) := by decide +kernel
theorem dMO_fails_27 : decode cMO_fails 27 = .ok (.getfield 21, 3) := by decide +kernel
theorem dMO_fails_30 : decode cMO_fails 30 = .ok (.iload_n 1, 1) := by decide +kernel
theorem dMO_fails_31 : decode cMO_fails 31 = .ok (.iload_n 2, 1) := by decide +kernel
theorem dMO_fails_32 : decode cMO_fails 32 = .ok (.iastore, 1) := by decide +kernel
theorem dMO_fails_33 : decode cMO_fails 33 = .ok (.aload_n 0, 1) := by decide +kernel
theorem dMO_fails_34 : decode cMO_fails 34 = .ok (.getfield 21, 3) := by decide +kernel
theorem dMO_fails_37 : decode cMO_fails 37 = .ok (.bipush 12, 2) := by decide +kernel
theorem dMO_fails_39 : decode cMO_fails 39 = .ok (.iload_n 1, 1) := by decide +kernel
theorem dMO_fails_40 : decode cMO_fails 40 = .ok (.iadd, 1) := by decide +kernel
theorem dMO_fails_41 : decode cMO_fails 41 = .ok (.iload_n 2, 1) := by decide +kernel
theorem dMO_fails_42 : decode cMO_fails 42 = .ok (.iastore, 1) := by decide +kernel
theorem dMO_fails_43 : decode cMO_fails 43 = .ok (.iconst 1, 1) := by decide +kernel
theorem dMO_fails_44 : decode cMO_fails 44 = .ok (.ireturn, 1) := by decide +kernel
theorem dMO_make_0 : decode cMO_make 0 = .ok (.iload_n 1, 1) := by decide +kernel
theorem dMO_make_1 : decode cMO_make 1 = .ok (.invokestatic 72, 3) := by decide +kernel
theorem dMO_make_4 : decode cMO_make 4 = .ok (.ifCond .ne 9, 3) := by decide +kernel
theorem dMO_make_7 : decode cMO_make 7 = .ok (.aload_n 0, 1) := by decide +kernel
theorem dMO_make_8 : decode cMO_make 8 = .ok (.iconst 1, 1) := by decide +kernel
theorem dMO_make_9 : decode cMO_make 9 = .ok (.invokevirtual 75, 3) := by decide +kernel
theorem dMO_make_12 : decode cMO_make 12 = .ok (.ireturn, 1) := by decide +kernel
theorem dMO_make_13 : decode cMO_make 13 = .ok (.aload_n 0, 1) := by decide +kernel
theorem dMO_make_14 : decode cMO_make 14 = .ok (.getfield 7, 3) := by decide +kernel
theorem dMO_make_17 : decode cMO_make 17 = .ok (.iload_n 1, 1) := by decide +kernel
theorem dMO_make_18 : decode cMO_make 18 = .ok (.iaload, 1) := by decide +kernel
theorem dMO_make_19 : decode cMO_make 19 = .ok (.bipush 40, 2) := by decide +kernel
theorem dMO_make_21 : decode cMO_make 21 = .ok (.if_icmp .ne 9, 3) := by decide +kernel
theorem dMO_make_24 : decode cMO_make 24 = .ok (.aload_n 0, 1) := by decide +kernel
theorem dMO_make_25 : decode cMO_make 25 = .ok (.iconst 2, 1) := by decide +kernel
theorem dMO_make_26 : decode cMO_make 26 = .ok (.invokevirtual 75, 3) := by decide +kernel
theorem dMO_make_29 : decode cMO_make 29 = .ok (.ireturn, 1) := by decide +kernel
theorem dMO_make_30 : decode cMO_make 30 = .ok (.aload_n 0, 1) := by decide +kernel
theorem dMO_make_31 : decode cMO_make 31 = .ok (.iconst 0, 1) := by decide +kernel
theorem dMO_make_32 : decode cMO_make 32 = .ok (.putfield 44, 3) := by decide +kernel
theorem dMO_make_35 : decode cMO_make 35 = .ok (.aload_n 0, 1) := by decide +kernel
theorem dMO_make_36 : decode cMO_make 36 = .ok (.getfield 7, 3) := by decide +kernel
theorem dMO_make_39 : decode cMO_make 39 = .ok (.iload_n 1, 1) := by decide +kernel
theorem dMO_make_40 : decode cMO_make 40 = .ok (.dup2, 1) := by decide +kernel
theorem dMO_make_41 : decode cMO_make 41 = .ok (.iaload, 1) := by decide +kernel
theorem dMO_make_42 : decode cMO_make 42 = .ok (.iconst 1, 1) := by decide +kernel
theorem dMO_make_43 : decode cMO_make 43 = .ok (.iadd, 1) := by decide +kernel
theorem dMO_make_44 : decode cMO_make 44 = .ok (.iastore, 1) := by decide +kernel
theorem dMO_make_45 : decode cMO_make 45 = .ok (.aload_n 0, 1) := by decide +kernel
theorem dMO_make_46 : decode cMO_make 46 = .ok (.getfield 7, 3) := by decide +kernel
theorem dMO_make_49 : decode cMO_make 49 = .ok (.iload_n 1, 1) := by decide +kernel
theorem dMO_make_50 : decode cMO_make 50 = .ok (.iaload, 1) := by decide +kernel
theorem dMO_make_51 : decode cMO_make 51 = .ok (.ireturn, 1) := by decide +kernel
theorem dMO_isKind_0 : decode cMO_isKind 0 = .ok (.iload_n 0, 1) := by decide +kernel
theorem dMO_isKind_1 : decode cMO_isKind 1 = .ok (.ifCond .lt 13, 3) := by decide +kernel
theorem dMO_isKind_4 : decode cMO_isKind 4 = .ok (.iload_n 0, 1) := by decide +kernel
theorem dMO_isKind_5 : decode cMO_isKind 5 = .ok (.bipush 8, 2) := by decide +kernel
theorem dMO_isKind_7 : decode cMO_isKind 7 = .ok (.if_icmp .ge 7, 3) := by decide +kernel
theorem dMO_isKind_10 : decode cMO_isKind 10 = .ok (.iconst 1, 1) := by decide +kernel
theorem dMO_isKind_11 : decode cMO_isKind 11 = .ok (.goto 4, 3) := by decide +kernel
theorem dMO_isKind_14 : decode cMO_isKind 14 = .ok (.iconst 0, 1) := by decide +kernel
theorem dMO_isKind_15 : decode cMO_isKind 15 = .ok (.ireturn, 1) := by decide +kernel
theorem dMO_refuse_0 : decode cMO_refuse 0 = .ok (.aload_n 0, 1) := by decide +kernel
theorem dMO_refuse_1 : decode cMO_refuse 1 = .ok (.iload_n 1, 1) := by decide +kernel
theorem dMO_refuse_2 : decode cMO_refuse 2 = .ok (.putfield 44, 3) := by decide +kernel
theorem dMO_refuse_5 : decode cMO_refuse 5 = .ok (.iconst 0, 1) := by decide +kernel
theorem dMO_refuse_6 : decode cMO_refuse 6 = .ok (.ireturn, 1) := by decide +kernel
theorem dMO_drop_0 : decode cMO_drop 0 = .ok (.aload_n 0, 1) := by decide +kernel
theorem dMO_drop_1 : decode cMO_drop 1 = .ok (.iconst 0, 1) := by decide +kernel
theorem dMO_drop_2 : decode cMO_drop 2 = .ok (.putfield 44, 3) := by decide +kernel
theorem dMO_drop_5 : decode cMO_drop 5 = .ok (.iload_n 1, 1) := by decide +kernel
theorem dMO_drop_6 : decode cMO_drop 6 = .ok (.invokestatic 72, 3) := by decide +kernel
theorem dMO_drop_9 : decode cMO_drop 9 = .ok (.ifCond .eq 12, 3) := by decide +kernel
theorem dMO_drop_12 : decode cMO_drop 12 = .ok (.aload_n 0, 1) := by decide +kernel
theorem dMO_drop_13 : decode cMO_drop 13 = .ok (.iload_n 1, 1) := by decide +kernel
theorem dMO_drop_14 : decode cMO_drop 14 = .ok (.iload_n 2, 1) := by decide +kernel
theorem dMO_drop_15 : decode cMO_drop 15 = .ok (.invokevirtual 79, 3) := by decide +kernel
theorem dMO_drop_18 : decode cMO_drop 18 = .ok (.ifCond .ne 5, 3) := by decide +kernel
theorem dMO_drop_21 : decode cMO_drop 21 = .ok (.iconst 0, 1) := by decide +kernel
theorem dMO_drop_22 : decode cMO_drop 22 = .ok (.ireturn, 1) := by decide +kernel
theorem dMO_drop_23 : decode cMO_drop 23 = .ok (.aload_n 0, 1) := by decide +kernel
theorem dMO_drop_24 : decode cMO_drop 24 = .ok (.getfield 13, 3) := by decide +kernel
theorem dMO_drop_27 : decode cMO_drop 27 = .ok (.bipush 40, 2) := by decide +kernel
theorem dMO_drop_29 : decode cMO_drop 29 = .ok (.iload_n 1, 1) := by decide +kernel
theorem dMO_drop_30 : decode cMO_drop 30 = .ok (.imul, 1) := by decide +kernel
theorem dMO_drop_31 : decode cMO_drop 31 = .ok (.iload_n 2, 1) := by decide +kernel
theorem dMO_drop_32 : decode cMO_drop 32 = .ok (.iadd, 1) := by decide +kernel
theorem dMO_drop_33 : decode cMO_drop 33 = .ok (.iconst 1, 1) := by decide +kernel
theorem dMO_drop_34 : decode cMO_drop 34 = .ok (.isub, 1) := by decide +kernel
theorem dMO_drop_35 : decode cMO_drop 35 = .ok (.iconst 1, 1) := by decide +kernel
theorem dMO_drop_36 : decode cMO_drop 36 = .ok (.bastore, 1) := by decide +kernel
theorem dMO_drop_37 : decode cMO_drop 37 = .ok (.iconst 1, 1) := by decide +kernel
theorem dMO_drop_38 : decode cMO_drop 38 = .ok (.ireturn, 1) := by decide +kernel
theorem dMO_isKnown_0 : decode cMO_isKnown 0 = .ok (.iload_n 2, 1) := by decide +kernel
theorem dMO_isKnown_1 : decode cMO_isKnown 1 = .ok (.iconst 1, 1) := by decide +kernel
theorem dMO_isKnown_2 : decode cMO_isKnown 2 = .ok (.if_icmp .lt 52, 3) := by decide +kernel
theorem dMO_isKnown_5 : decode cMO_isKnown 5 = .ok (.iload_n 2, 1) := by decide +kernel
theorem dMO_isKnown_6 : decode cMO_isKnown 6 = .ok (.aload_n 0, 1) := by decide +kernel
theorem dMO_isKnown_7 : decode cMO_isKnown 7 = .ok (.getfield 7, 3) := by decide +kernel
theorem dMO_isKnown_10 : decode cMO_isKnown 10 = .ok (.iload_n 1, 1) := by decide +kernel
theorem dMO_isKnown_11 : decode cMO_isKnown 11 = .ok (.iaload, 1) := by decide +kernel
theorem dMO_isKnown_12 : decode cMO_isKnown 12 = .ok (.if_icmp .gt 42, 3) := by decide +kernel
theorem dMO_isKnown_15 : decode cMO_isKnown 15 = .ok (.aload_n 0, 1) := by decide +kernel
theorem dMO_isKnown_16 : decode cMO_isKnown 16 = .ok (.getfield 13, 3) := by decide +kernel
theorem dMO_isKnown_19 : decode cMO_isKnown 19 = .ok (.bipush 40, 2) := by decide +kernel
theorem dMO_isKnown_21 : decode cMO_isKnown 21 = .ok (.iload_n 1, 1) := by decide +kernel
theorem dMO_isKnown_22 : decode cMO_isKnown 22 = .ok (.imul, 1) := by decide +kernel
theorem dMO_isKnown_23 : decode cMO_isKnown 23 = .ok (.iload_n 2, 1) := by decide +kernel
theorem dMO_isKnown_24 : decode cMO_isKnown 24 = .ok (.iconst 1, 1) := by decide +kernel
theorem dMO_isKnown_25 : decode cMO_isKnown 25 = .ok (.if_icmp .lt 17, 3) := by decide +kernel
theorem dMO_isKnown_28 : decode cMO_isKnown 28 = .ok (.iload_n 2, 1) := by decide +kernel
theorem dMO_isKnown_29 : decode cMO_isKnown 29 = .ok (.aload_n 0, 1) := by decide +kernel
theorem dMO_isKnown_30 : decode cMO_isKnown 30 = .ok (.getfield 7, 3) := by decide +kernel
theorem dMO_isKnown_33 : decode cMO_isKnown 33 = .ok (.iload_n 1, 1) := by decide +kernel
theorem dMO_isKnown_34 : decode cMO_isKnown 34 = .ok (.iaload, 1) := by decide +kernel
theorem dMO_isKnown_35 : decode cMO_isKnown 35 = .ok (.if_icmp .gt 7, 3) := by decide +kernel
theorem dMO_isKnown_38 : decode cMO_isKnown 38 = .ok (.iload_n 2, 1) := by decide +kernel
theorem dMO_isKnown_39 : decode cMO_isKnown 39 = .ok (.goto 4, 3) := by decide +kernel
theorem dMO_isKnown_42 : decode cMO_isKnown 42 = .ok (.iconst 1, 1) := by decide +kernel
theorem dMO_isKnown_43 : decode cMO_isKnown 43 = .ok (.iadd, 1) := by decide +kernel
theorem dMO_isKnown_44 : decode cMO_isKnown 44 = .ok (.iconst 1, 1) := by decide +kernel
theorem dMO_isKnown_45 : decode cMO_isKnown 45 = .ok (.isub, 1) := by decide +kernel
theorem dMO_isKnown_46 : decode cMO_isKnown 46 = .ok (.baload, 1) := by decide +kernel
theorem dMO_isKnown_47 : decode cMO_isKnown 47 = .ok (.ifCond .ne 7, 3) := by decide +kernel
theorem dMO_isKnown_50 : decode cMO_isKnown 50 = .ok (.iconst 1, 1) := by decide +kernel
theorem dMO_isKnown_51 : decode cMO_isKnown 51 = .ok (.goto 4, 3) := by decide +kernel
theorem dMO_isKnown_54 : decode cMO_isKnown 54 = .ok (.iconst 0, 1) := by decide +kernel
theorem dMO_isKnown_55 : decode cMO_isKnown 55 = .ok (.ireturn, 1) := by decide +kernel
theorem dMO_call_0 : decode cMO_call 0 = .ok (.aload_n 0, 1) := by decide +kernel
theorem dMO_call_1 : decode cMO_call 1 = .ok (.iconst 0, 1) := by decide +kernel
theorem dMO_call_2 : decode cMO_call 2 = .ok (.putfield 44, 3) := by decide +kernel
theorem dMO_call_5 : decode cMO_call 5 = .ok (.aload_n 0, 1) := by decide +kernel
theorem dMO_call_6 : decode cMO_call 6 = .ok (.iconst 1, 1) := by decide +kernel
theorem dMO_call_7 : decode cMO_call 7 = .ok (.iload_n 1, 1) := by decide +kernel
theorem dMO_call_8 : decode cMO_call 8 = .ok (.iload_n 2, 1) := by decide +kernel
theorem dMO_call_9 : decode cMO_call 9 = .ok (.lload_n 3, 1) := by decide +kernel
theorem dMO_call_10 : decode cMO_call 10 = .ok (.invokevirtual 93, 3) := by decide +kernel
theorem dMO_call_13 : decode cMO_call 13 = .ok (.lstore 5, 2) := by decide +kernel
theorem dMO_call_15 : decode cMO_call 15 = .ok (.aload_n 0, 1) := by decide +kernel
theorem dMO_call_16 : decode cMO_call 16 = .ok (.iconst 0, 1) := by decide +kernel
theorem dMO_call_17 : decode cMO_call 17 = .ok (.iload_n 1, 1) := by decide +kernel
theorem dMO_call_18 : decode cMO_call 18 = .ok (.iload_n 2, 1) := by decide +kernel
theorem dMO_call_19 : decode cMO_call 19 = .ok (.lload_n 3, 1) := by decide +kernel
theorem dMO_call_20 : decode cMO_call 20 = .ok (.invokevirtual 93, 3) := by decide +kernel
theorem dMO_call_23 : decode cMO_call 23 = .ok (.lstore 7, 2) := by decide +kernel
theorem dMO_call_25 : decode cMO_call 25 = .ok (.lload 7, 2) := by decide +kernel
theorem dMO_call_27 : decode cMO_call 27 = .ok (.lload 5, 2) := by decide +kernel
theorem dMO_call_29 : decode cMO_call 29 = .ok (.lcmp, 1) := by decide +kernel
theorem dMO_call_30 : decode cMO_call 30 = .ok (.ifCond .ne 8, 3) := by decide +kernel
theorem dMO_call_33 : decode cMO_call 33 = .ok (.lload 5, 2) := by decide +kernel
theorem dMO_call_35 : decode cMO_call 35 = .ok (.goto 5, 3) := by decide +kernel
theorem dMO_call_38 : decode cMO_call 38 = .ok (.lload 7, 2) := by decide +kernel
theorem dMO_call_40 : decode cMO_call 40 = .ok (.lreturn, 1) := by decide +kernel
theorem dMO_goes_0 : decode cMO_goes 0 = .ok (.iload_n 2, 1) := by decide +kernel
theorem dMO_goes_1 : decode cMO_goes 1 = .ok (.invokestatic 66, 3) := by decide +kernel
theorem dMO_goes_4 : decode cMO_goes 4 = .ok (.ifCond .ne 13, 3) := by decide +kernel
theorem dMO_goes_7 : decode cMO_goes 7 = .ok (.aload_n 0, 1) := by decide +kernel
theorem dMO_goes_8 : decode cMO_goes 8 = .ok (.iload_n 1, 1) := by decide +kernel
theorem dMO_goes_9 : decode cMO_goes 9 = .ok (.ldc2_w 42, 3) := by decide +kernel
theorem dMO_goes_12 : decode cMO_goes 12 = .ok (.iconst 1, 1) := by decide +kernel
theorem dMO_goes_13 : decode cMO_goes 13 = .ok (.invokevirtual 83, 3) := by decide +kernel
theorem dMO_goes_16 : decode cMO_goes 16 = .ok (.lreturn, 1) := by decide +kernel
theorem dMO_goes_17 : decode cMO_goes 17 = .ok (.iload_n 2, 1) := by decide +kernel
theorem dMO_goes_18 : decode cMO_goes 18 = .ok (.bipush 8, 2) := by decide +kernel
theorem dMO_goes_20 : decode cMO_goes 20 = .ok (.irem, 1) := by decide +kernel
theorem dMO_goes_21 : decode cMO_goes 21 = .ok (.istore 6, 2) := by decide +kernel
theorem dMO_goes_23 : decode cMO_goes 23 = .ok (.aload_n 0, 1) := by decide +kernel
theorem dMO_goes_24 : decode cMO_goes 24 = .ok (.iload 6, 2) := by decide +kernel
theorem dMO_goes_26 : decode cMO_goes 26 = .ok (.iload_n 3, 1) := by decide +kernel
theorem dMO_goes_27 : decode cMO_goes 27 = .ok (.invokevirtual 79, 3) := by decide +kernel
theorem dMO_goes_30 : decode cMO_goes 30 = .ok (.ifCond .ne 41, 3) := by decide +kernel
theorem dMO_goes_33 : decode cMO_goes 33 = .ok (.iload_n 3, 1) := by decide +kernel
theorem dMO_goes_34 : decode cMO_goes 34 = .ok (.iconst 1, 1) := by decide +kernel
theorem dMO_goes_35 : decode cMO_goes 35 = .ok (.if_icmp .lt 14, 3) := by decide +kernel
theorem dMO_goes_38 : decode cMO_goes 38 = .ok (.iload_n 3, 1) := by decide +kernel
theorem dMO_goes_39 : decode cMO_goes 39 = .ok (.aload_n 0, 1) := by decide +kernel
theorem dMO_goes_40 : decode cMO_goes 40 = .ok (.getfield 7, 3) := by decide +kernel
theorem dMO_goes_43 : decode cMO_goes 43 = .ok (.iload 6, 2) := by decide +kernel
theorem dMO_goes_45 : decode cMO_goes 45 = .ok (.iaload, 1) := by decide +kernel
theorem dMO_goes_46 : decode cMO_goes 46 = .ok (.if_icmp .le 15, 3) := by decide +kernel
theorem dMO_goes_49 : decode cMO_goes 49 = .ok (.aload_n 0, 1) := by decide +kernel
theorem dMO_goes_50 : decode cMO_goes 50 = .ok (.iload_n 1, 1) := by decide +kernel
theorem dMO_goes_51 : decode cMO_goes 51 = .ok (.ldc2_w 87, 3) := by decide +kernel
theorem dMO_goes_54 : decode cMO_goes 54 = .ok (.iconst 2, 1) := by decide +kernel
theorem dMO_goes_55 : decode cMO_goes 55 = .ok (.invokevirtual 83, 3) := by decide +kernel
theorem dMO_goes_58 : decode cMO_goes 58 = .ok (.goto 12, 3) := by decide +kernel
theorem dMO_goes_61 : decode cMO_goes 61 = .ok (.aload_n 0, 1) := by decide +kernel
theorem dMO_goes_62 : decode cMO_goes 62 = .ok (.iload_n 1, 1) := by decide +kernel
theorem dMO_goes_63 : decode cMO_goes 63 = .ok (.ldc2_w 89, 3) := by decide +kernel
theorem dMO_goes_66 : decode cMO_goes 66 = .ok (.iconst 3, 1) := by decide +kernel
theorem dMO_goes_67 : decode cMO_goes 67 = .ok (.invokevirtual 83, 3) := by decide +kernel
theorem dMO_goes_70 : decode cMO_goes 70 = .ok (.lreturn, 1) := by decide +kernel
theorem dMO_goes_71 : decode cMO_goes 71 = .ok (.bipush 12, 2) := by decide +kernel
theorem dMO_goes_73 : decode cMO_goes 73 = .ok (.iload_n 1, 1) := by decide +kernel
theorem dMO_goes_74 : decode cMO_goes 74 = .ok (.imul, 1) := by decide +kernel
theorem dMO_goes_75 : decode cMO_goes 75 = .ok (.iload_n 2, 1) := by decide +kernel
theorem dMO_goes_76 : decode cMO_goes 76 = .ok (.iadd, 1) := by decide +kernel
theorem dMO_goes_77 : decode cMO_goes 77 = .ok (.istore 7, 2) := by decide +kernel
theorem dMO_goes_79 : decode cMO_goes 79 = .ok (.aload_n 0, 1) := by decide +kernel
theorem dMO_goes_80 : decode cMO_goes 80 = .ok (.getfield 21, 3) := by decide +kernel
theorem dMO_goes_83 : decode cMO_goes 83 = .ok (.iload 7, 2) := by decide +kernel
theorem dMO_goes_85 : decode cMO_goes 85 = .ok (.iaload, 1) := by decide +kernel
theorem dMO_goes_86 : decode cMO_goes 86 = .ok (.istore 8, 2) := by decide +kernel
theorem dMO_goes_88 : decode cMO_goes 88 = .ok (.iload 8, 2) := by decide +kernel
theorem dMO_goes_90 : decode cMO_goes 90 = .ok (.ifCond .le 67, 3) := by decide +kernel
theorem dMO_goes_93 : decode cMO_goes 93 = .ok (.aload_n 0, 1) := by decide +kernel
theorem dMO_goes_94 : decode cMO_goes 94 = .ok (.getfield 21, 3) := by decide +kernel
theorem dMO_goes_97 : decode cMO_goes 97 = .ok (.iload 7, 2) := by decide +kernel
theorem dMO_goes_99 : decode cMO_goes 99 = .ok (.iconst 0, 1) := by decide +kernel
theorem dMO_goes_100 : decode cMO_goes 100 = .ok (.iastore, 1) := by decide +kernel
theorem dMO_goes_101 : decode cMO_goes 101 = .ok (.aload_n 0, 1) := by decide +kernel
theorem dMO_goes_102 : decode cMO_goes 102 = .ok (.getfield 33, 3) := by decide +kernel
theorem dMO_goes_105 : decode cMO_goes 105 = .ok (.bipush 8, 2) := by decide +kernel
theorem dMO_goes_107 : decode cMO_goes 107 = .ok (.iload_n 1, 1) := by decide +kernel
theorem dMO_goes_108 : decode cMO_goes 108 = .ok (.imul, 1) := by decide +kernel
theorem dMO_goes_109 : decode cMO_goes 109 = .ok (.iconst 5, 1) := by decide +kernel
theorem dMO_goes_110 : decode cMO_goes 110 = .ok (.iadd, 1) := by decide +kernel
theorem dMO_goes_111 : decode cMO_goes 111 = .ok (.iload 8, 2) := by decide +kernel
theorem dMO_goes_113 : decode cMO_goes 113 = .ok (.i2l, 1) := by decide +kernel
theorem dMO_goes_114 : decode cMO_goes 114 = .ok (.lastore, 1) := by decide +kernel
theorem dMO_goes_115 : decode cMO_goes 115 = .ok (.aload_n 0, 1) := by decide +kernel
theorem dMO_goes_116 : decode cMO_goes 116 = .ok (.getfield 33, 3) := by decide +kernel
theorem dMO_goes_119 : decode cMO_goes 119 = .ok (.bipush 8, 2) := by decide +kernel
theorem dMO_goes_121 : decode cMO_goes 121 = .ok (.iload_n 1, 1) := by decide +kernel
theorem dMO_goes_122 : decode cMO_goes 122 = .ok (.imul, 1) := by decide +kernel
theorem dMO_goes_123 : decode cMO_goes 123 = .ok (.bipush 6, 2) := by decide +kernel
theorem dMO_goes_125 : decode cMO_goes 125 = .ok (.iadd, 1) := by decide +kernel
theorem dMO_goes_126 : decode cMO_goes 126 = .ok (.iload_n 2, 1) := by decide +kernel
theorem dMO_goes_127 : decode cMO_goes 127 = .ok (.i2l, 1) := by decide +kernel
theorem dMO_goes_128 : decode cMO_goes 128 = .ok (.lastore, 1) := by decide +kernel
theorem dMO_goes_129 : decode cMO_goes 129 = .ok (.aload_n 0, 1) := by decide +kernel
theorem dMO_goes_130 : decode cMO_goes 130 = .ok (.getfield 33, 3) := by decide +kernel
theorem dMO_goes_133 : decode cMO_goes 133 = .ok (.bipush 8, 2) := by decide +kernel
theorem dMO_goes_135 : decode cMO_goes 135 = .ok (.iload_n 1, 1) := by decide +kernel
theorem dMO_goes_136 : decode cMO_goes 136 = .ok (.imul, 1) := by decide +kernel
theorem dMO_goes_137 : decode cMO_goes 137 = .ok (.bipush 7, 2) := by decide +kernel
theorem dMO_goes_139 : decode cMO_goes 139 = .ok (.iadd, 1) := by decide +kernel
theorem dMO_goes_140 : decode cMO_goes 140 = .ok (.iload_n 3, 1) := by decide +kernel
theorem dMO_goes_141 : decode cMO_goes 141 = .ok (.i2l, 1) := by decide +kernel
theorem dMO_goes_142 : decode cMO_goes 142 = .ok (.lastore, 1) := by decide +kernel
theorem dMO_goes_143 : decode cMO_goes 143 = .ok (.aload_n 0, 1) := by decide +kernel
theorem dMO_goes_144 : decode cMO_goes 144 = .ok (.iload_n 1, 1) := by decide +kernel
theorem dMO_goes_145 : decode cMO_goes 145 = .ok (.ldc2_w 91, 3) := by decide +kernel
theorem dMO_goes_148 : decode cMO_goes 148 = .ok (.iload 8, 2) := by decide +kernel
theorem dMO_goes_150 : decode cMO_goes 150 = .ok (.i2l, 1) := by decide +kernel
theorem dMO_goes_151 : decode cMO_goes 151 = .ok (.lsub, 1) := by decide +kernel
theorem dMO_goes_152 : decode cMO_goes 152 = .ok (.iconst 4, 1) := by decide +kernel
theorem dMO_goes_153 : decode cMO_goes 153 = .ok (.invokevirtual 83, 3) := by decide +kernel
theorem dMO_goes_156 : decode cMO_goes 156 = .ok (.lreturn, 1) := by decide +kernel
theorem dMO_goes_157 : decode cMO_goes 157 = .ok (.aload_n 0, 1) := by decide +kernel
theorem dMO_goes_158 : decode cMO_goes 158 = .ok (.getfield 24, 3) := by decide +kernel
theorem dMO_goes_161 : decode cMO_goes 161 = .ok (.iload 7, 2) := by decide +kernel
theorem dMO_goes_163 : decode cMO_goes 163 = .ok (.dup2, 1) := by decide +kernel
theorem dMO_goes_164 : decode cMO_goes 164 = .ok (.laload, 1) := by decide +kernel
theorem dMO_goes_165 : decode cMO_goes 165 = .ok (.lload 4, 2) := by decide +kernel
theorem dMO_goes_167 : decode cMO_goes 167 = .ok (.ladd, 1) := by decide +kernel
theorem dMO_goes_168 : decode cMO_goes 168 = .ok (.lastore, 1) := by decide +kernel
theorem dMO_goes_169 : decode cMO_goes 169 = .ok (.aload_n 0, 1) := by decide +kernel
theorem dMO_goes_170 : decode cMO_goes 170 = .ok (.iload_n 1, 1) := by decide +kernel
theorem dMO_goes_171 : decode cMO_goes 171 = .ok (.aload_n 0, 1) := by decide +kernel
theorem dMO_goes_172 : decode cMO_goes 172 = .ok (.getfield 17, 3) := by decide +kernel
theorem dMO_goes_175 : decode cMO_goes 175 = .ok (.iload_n 2, 1) := by decide +kernel
theorem dMO_goes_176 : decode cMO_goes 176 = .ok (.laload, 1) := by decide +kernel
theorem dMO_goes_177 : decode cMO_goes 177 = .ok (.ldc2_w 60, 3) := by decide +kernel
theorem dMO_goes_180 : decode cMO_goes 180 = .ok (.iload_n 3, 1) := by decide +kernel
theorem dMO_goes_181 : decode cMO_goes 181 = .ok (.i2l, 1) := by decide +kernel
theorem dMO_goes_182 : decode cMO_goes 182 = .ok (.lmul, 1) := by decide +kernel
theorem dMO_goes_183 : decode cMO_goes 183 = .ok (.ladd, 1) := by decide +kernel
theorem dMO_goes_184 : decode cMO_goes 184 = .ok (.aload_n 0, 1) := by decide +kernel
theorem dMO_goes_185 : decode cMO_goes 185 = .ok (.getfield 24, 3) := by decide +kernel
theorem dMO_goes_188 : decode cMO_goes 188 = .ok (.iload 7, 2) := by decide +kernel
theorem dMO_goes_190 : decode cMO_goes 190 = .ok (.laload, 1) := by decide +kernel
theorem dMO_goes_191 : decode cMO_goes 191 = .ok (.ladd, 1) := by decide +kernel
theorem dMO_goes_192 : decode cMO_goes 192 = .ok (.iconst 0, 1) := by decide +kernel
theorem dMO_goes_193 : decode cMO_goes 193 = .ok (.invokevirtual 83, 3) := by decide +kernel
theorem dMO_goes_196 : decode cMO_goes 196 = .ok (.lreturn, 1) := by decide +kernel
theorem dMO_writes_0 : decode cMO_writes 0 = .ok (.bipush 64, 2) := by decide +kernel
theorem dMO_writes_2 : decode cMO_writes 2 = .ok (.iload_n 1, 1) := by decide +kernel
theorem dMO_writes_3 : decode cMO_writes 3 = .ok (.imul, 1) := by decide +kernel
theorem dMO_writes_4 : decode cMO_writes 4 = .ok (.istore 5, 2) := by decide +kernel
theorem dMO_writes_6 : decode cMO_writes 6 = .ok (.aload_n 0, 1) := by decide +kernel
theorem dMO_writes_7 : decode cMO_writes 7 = .ok (.getfield 27, 3) := by decide +kernel
theorem dMO_writes_10 : decode cMO_writes 10 = .ok (.iload_n 1, 1) := by decide +kernel
theorem dMO_writes_11 : decode cMO_writes 11 = .ok (.iaload, 1) := by decide +kernel
theorem dMO_writes_12 : decode cMO_writes 12 = .ok (.bipush 64, 2) := by decide +kernel
theorem dMO_writes_14 : decode cMO_writes 14 = .ok (.if_icmp .ne 51, 3) := by decide +kernel
theorem dMO_writes_17 : decode cMO_writes 17 = .ok (.iconst 1, 1) := by decide +kernel
theorem dMO_writes_18 : decode cMO_writes 18 = .ok (.istore 6, 2) := by decide +kernel
theorem dMO_writes_20 : decode cMO_writes 20 = .ok (.iload 6, 2) := by decide +kernel
theorem dMO_writes_22 : decode cMO_writes 22 = .ok (.bipush 64, 2) := by decide +kernel
theorem dMO_writes_24 : decode cMO_writes 24 = .ok (.if_icmp .ge 31, 3) := by decide +kernel
theorem dMO_writes_27 : decode cMO_writes 27 = .ok (.aload_n 0, 1) := by decide +kernel
theorem dMO_writes_28 : decode cMO_writes 28 = .ok (.getfield 30, 3) := by decide +kernel
theorem dMO_writes_31 : decode cMO_writes 31 = .ok (.iload 5, 2) := by decide +kernel
theorem dMO_writes_33 : decode cMO_writes 33 = .ok (.iload 6, 2) := by decide +kernel
theorem dMO_writes_35 : decode cMO_writes 35 = .ok (.iadd, 1) := by decide +kernel
theorem dMO_writes_36 : decode cMO_writes 36 = .ok (.iconst 1, 1) := by decide +kernel
theorem dMO_writes_37 : decode cMO_writes 37 = .ok (.isub, 1) := by decide +kernel
theorem dMO_writes_38 : decode cMO_writes 38 = .ok (.aload_n 0, 1) := by decide +kernel
theorem dMO_writes_39 : decode cMO_writes 39 = .ok (.getfield 30, 3) := by decide +kernel
theorem dMO_writes_42 : decode cMO_writes 42 = .ok (.iload 5, 2) := by decide +kernel
theorem dMO_writes_44 : decode cMO_writes 44 = .ok (.iload 6, 2) := by decide +kernel
theorem dMO_writes_46 : decode cMO_writes 46 = .ok (.iadd, 1) := by decide +kernel
theorem dMO_writes_47 : decode cMO_writes 47 = .ok (.laload, 1) := by decide +kernel
theorem dMO_writes_48 : decode cMO_writes 48 = .ok (.lastore, 1) := by decide +kernel
theorem dMO_writes_49 : decode cMO_writes 49 = .ok (.iinc 6 1, 3) := by decide +kernel
theorem dMO_writes_52 : decode cMO_writes 52 = .ok (.goto (-32), 3) := by decide +kernel
theorem dMO_writes_55 : decode cMO_writes 55 = .ok (.aload_n 0, 1) := by decide +kernel
theorem dMO_writes_56 : decode cMO_writes 56 = .ok (.getfield 27, 3) := by decide +kernel
theorem dMO_writes_59 : decode cMO_writes 59 = .ok (.iload_n 1, 1) := by decide +kernel
theorem dMO_writes_60 : decode cMO_writes 60 = .ok (.dup2, 1) := by decide +kernel
theorem dMO_writes_61 : decode cMO_writes 61 = .ok (.iaload, 1) := by decide +kernel
theorem dMO_writes_62 : decode cMO_writes 62 = .ok (.iconst 1, 1) := by decide +kernel
theorem dMO_writes_63 : decode cMO_writes 63 = .ok (.isub, 1) := by decide +kernel
theorem dMO_writes_64 : decode cMO_writes 64 = .ok (.iastore, 1) := by decide +kernel
theorem dMO_writes_65 : decode cMO_writes 65 = .ok (.aload_n 0, 1) := by decide +kernel
theorem dMO_writes_66 : decode cMO_writes 66 = .ok (.getfield 30, 3) := by decide +kernel
theorem dMO_writes_69 : decode cMO_writes 69 = .ok (.iload 5, 2) := by decide +kernel
theorem dMO_writes_71 : decode cMO_writes 71 = .ok (.aload_n 0, 1) := by decide +kernel
theorem dMO_writes_72 : decode cMO_writes 72 = .ok (.getfield 27, 3) := by decide +kernel
theorem dMO_writes_75 : decode cMO_writes 75 = .ok (.iload_n 1, 1) := by decide +kernel
theorem dMO_writes_76 : decode cMO_writes 76 = .ok (.iaload, 1) := by decide +kernel
theorem dMO_writes_77 : decode cMO_writes 77 = .ok (.iadd, 1) := by decide +kernel
theorem dMO_writes_78 : decode cMO_writes 78 = .ok (.lload_n 2, 1) := by decide +kernel
theorem dMO_writes_79 : decode cMO_writes 79 = .ok (.lastore, 1) := by decide +kernel
theorem dMO_writes_80 : decode cMO_writes 80 = .ok (.aload_n 0, 1) := by decide +kernel
theorem dMO_writes_81 : decode cMO_writes 81 = .ok (.getfield 27, 3) := by decide +kernel
theorem dMO_writes_84 : decode cMO_writes 84 = .ok (.iload_n 1, 1) := by decide +kernel
theorem dMO_writes_85 : decode cMO_writes 85 = .ok (.dup2, 1) := by decide +kernel
theorem dMO_writes_86 : decode cMO_writes 86 = .ok (.iaload, 1) := by decide +kernel
theorem dMO_writes_87 : decode cMO_writes 87 = .ok (.iconst 1, 1) := by decide +kernel
theorem dMO_writes_88 : decode cMO_writes 88 = .ok (.iadd, 1) := by decide +kernel
theorem dMO_writes_89 : decode cMO_writes 89 = .ok (.iastore, 1) := by decide +kernel
theorem dMO_writes_90 : decode cMO_writes 90 = .ok (.aload_n 0, 1) := by decide +kernel
theorem dMO_writes_91 : decode cMO_writes 91 = .ok (.getfield 33, 3) := by decide +kernel
theorem dMO_writes_94 : decode cMO_writes 94 = .ok (.bipush 8, 2) := by decide +kernel
theorem dMO_writes_96 : decode cMO_writes 96 = .ok (.iload_n 1, 1) := by decide +kernel
theorem dMO_writes_97 : decode cMO_writes 97 = .ok (.imul, 1) := by decide +kernel
theorem dMO_writes_98 : decode cMO_writes 98 = .ok (.iload 4, 2) := by decide +kernel
theorem dMO_writes_100 : decode cMO_writes 100 = .ok (.iadd, 1) := by decide +kernel
theorem dMO_writes_101 : decode cMO_writes 101 = .ok (.dup2, 1) := by decide +kernel
theorem dMO_writes_102 : decode cMO_writes 102 = .ok (.laload, 1) := by decide +kernel
theorem dMO_writes_103 : decode cMO_writes 103 = .ok (.lconst 1, 1) := by decide +kernel
theorem dMO_writes_104 : decode cMO_writes 104 = .ok (.ladd, 1) := by decide +kernel
theorem dMO_writes_105 : decode cMO_writes 105 = .ok (.lastore, 1) := by decide +kernel
theorem dMO_writes_106 : decode cMO_writes 106 = .ok (.lload_n 2, 1) := by decide +kernel
theorem dMO_writes_107 : decode cMO_writes 107 = .ok (.lreturn, 1) := by decide +kernel
theorem dMO_again_0 : decode cMO_again 0 = .ok (.aload_n 0, 1) := by decide +kernel
theorem dMO_again_1 : decode cMO_again 1 = .ok (.iconst 0, 1) := by decide +kernel
theorem dMO_again_2 : decode cMO_again 2 = .ok (.putfield 44, 3) := by decide +kernel
theorem dMO_again_5 : decode cMO_again 5 = .ok (.aload_n 0, 1) := by decide +kernel
theorem dMO_again_6 : decode cMO_again 6 = .ok (.iconst 1, 1) := by decide +kernel
theorem dMO_again_7 : decode cMO_again 7 = .ok (.iload_n 1, 1) := by decide +kernel
theorem dMO_again_8 : decode cMO_again 8 = .ok (.iload_n 2, 1) := by decide +kernel
theorem dMO_again_9 : decode cMO_again 9 = .ok (.lload_n 3, 1) := by decide +kernel
theorem dMO_again_10 : decode cMO_again 10 = .ok (.invokevirtual 93, 3) := by decide +kernel
theorem dMO_again_13 : decode cMO_again 13 = .ok (.lreturn, 1) := by decide +kernel
theorem dMO_told_0 : decode cMO_told 0 = .ok (.aload_n 0, 1) := by decide +kernel
theorem dMO_told_1 : decode cMO_told 1 = .ok (.iload_n 1, 1) := by decide +kernel
theorem dMO_told_2 : decode cMO_told 2 = .ok (.i2l, 1) := by decide +kernel
theorem dMO_told_3 : decode cMO_told 3 = .ok (.lconst 0, 1) := by decide +kernel
theorem dMO_told_4 : decode cMO_told 4 = .ok (.ldc2_w 58, 3) := by decide +kernel
theorem dMO_told_7 : decode cMO_told 7 = .ok (.invokestatic 52, 3) := by decide +kernel
theorem dMO_told_10 : decode cMO_told 10 = .ok (.ifCond .eq 7, 3) := by decide +kernel
theorem dMO_told_13 : decode cMO_told 13 = .ok (.iconst 0, 1) := by decide +kernel
theorem dMO_told_14 : decode cMO_told 14 = .ok (.goto 4, 3) := by decide +kernel
theorem dMO_told_17 : decode cMO_told 17 = .ok (.iconst 1, 1) := by decide +kernel
theorem dMO_told_18 : decode cMO_told 18 = .ok (.putfield 44, 3) := by decide +kernel
theorem dMO_told_21 : decode cMO_told 21 = .ok (.aload_n 0, 1) := by decide +kernel
theorem dMO_told_22 : decode cMO_told 22 = .ok (.getfield 44, 3) := by decide +kernel
theorem dMO_told_25 : decode cMO_told 25 = .ok (.ifCond .le 7, 3) := by decide +kernel
theorem dMO_told_28 : decode cMO_told 28 = .ok (.lconst 0, 1) := by decide +kernel
theorem dMO_told_29 : decode cMO_told 29 = .ok (.goto 9, 3) := by decide +kernel
theorem dMO_told_32 : decode cMO_told 32 = .ok (.aload_n 0, 1) := by decide +kernel
theorem dMO_told_33 : decode cMO_told 33 = .ok (.getfield 33, 3) := by decide +kernel
theorem dMO_told_36 : decode cMO_told 36 = .ok (.iload_n 1, 1) := by decide +kernel
theorem dMO_told_37 : decode cMO_told 37 = .ok (.laload, 1) := by decide +kernel
theorem dMO_told_38 : decode cMO_told 38 = .ok (.lreturn, 1) := by decide +kernel
theorem dMO_numbers_0 : decode cMO_numbers 0 = .ok (.aload_n 0, 1) := by decide +kernel
theorem dMO_numbers_1 : decode cMO_numbers 1 = .ok (.iconst 0, 1) := by decide +kernel
theorem dMO_numbers_2 : decode cMO_numbers 2 = .ok (.putfield 44, 3) := by decide +kernel
theorem dMO_numbers_5 : decode cMO_numbers 5 = .ok (.iconst 0, 1) := by decide +kernel
theorem dMO_numbers_6 : decode cMO_numbers 6 = .ok (.istore_n 2, 1) := by decide +kernel
theorem dMO_numbers_7 : decode cMO_numbers 7 = .ok (.iconst 1, 1) := by decide +kernel
theorem dMO_numbers_8 : decode cMO_numbers 8 = .ok (.istore_n 3, 1) := by decide +kernel
theorem dMO_numbers_9 : decode cMO_numbers 9 = .ok (.iload_n 1, 1) := by decide +kernel
theorem dMO_numbers_10 : decode cMO_numbers 10 = .ok (.invokestatic 72, 3) := by decide +kernel
theorem dMO_numbers_13 : decode cMO_numbers 13 = .ok (.ifCond .eq 36, 3) := by decide +kernel
theorem dMO_numbers_16 : decode cMO_numbers 16 = .ok (.iload_n 3, 1) := by decide +kernel
theorem dMO_numbers_17 : decode cMO_numbers 17 = .ok (.aload_n 0, 1) := by decide +kernel
theorem dMO_numbers_18 : decode cMO_numbers 18 = .ok (.getfield 7, 3) := by decide +kernel
theorem dMO_numbers_21 : decode cMO_numbers 21 = .ok (.iload_n 1, 1) := by decide +kernel
theorem dMO_numbers_22 : decode cMO_numbers 22 = .ok (.iaload, 1) := by decide +kernel
theorem dMO_numbers_23 : decode cMO_numbers 23 = .ok (.if_icmp .gt 26, 3) := by decide +kernel
theorem dMO_numbers_26 : decode cMO_numbers 26 = .ok (.iload_n 2, 1) := by decide +kernel
theorem dMO_numbers_27 : decode cMO_numbers 27 = .ok (.aload_n 0, 1) := by decide +kernel
theorem dMO_numbers_28 : decode cMO_numbers 28 = .ok (.iload_n 1, 1) := by decide +kernel
theorem dMO_numbers_29 : decode cMO_numbers 29 = .ok (.iload_n 3, 1) := by decide +kernel
theorem dMO_numbers_30 : decode cMO_numbers 30 = .ok (.invokevirtual 79, 3) := by decide +kernel
theorem dMO_numbers_33 : decode cMO_numbers 33 = .ok (.ifCond .eq 7, 3) := by decide +kernel
theorem dMO_numbers_36 : decode cMO_numbers 36 = .ok (.iconst 1, 1) := by decide +kernel
theorem dMO_numbers_37 : decode cMO_numbers 37 = .ok (.goto 4, 3) := by decide +kernel
theorem dMO_numbers_40 : decode cMO_numbers 40 = .ok (.iconst 0, 1) := by decide +kernel
theorem dMO_numbers_41 : decode cMO_numbers 41 = .ok (.iadd, 1) := by decide +kernel
theorem dMO_numbers_42 : decode cMO_numbers 42 = .ok (.istore_n 2, 1) := by decide +kernel
theorem dMO_numbers_43 : decode cMO_numbers 43 = .ok (.iinc 3 1, 3) := by decide +kernel
theorem dMO_numbers_46 : decode cMO_numbers 46 = .ok (.goto (-37), 3) := by decide +kernel
theorem dMO_numbers_49 : decode cMO_numbers 49 = .ok (.iload_n 1, 1) := by decide +kernel
theorem dMO_numbers_50 : decode cMO_numbers 50 = .ok (.invokestatic 72, 3) := by decide +kernel
theorem dMO_numbers_53 : decode cMO_numbers 53 = .ok (.ifCond .eq 7, 3) := by decide +kernel
theorem dMO_numbers_56 : decode cMO_numbers 56 = .ok (.iload_n 2, 1) := by decide +kernel
theorem dMO_numbers_57 : decode cMO_numbers 57 = .ok (.goto 4, 3) := by decide +kernel
theorem dMO_numbers_60 : decode cMO_numbers 60 = .ok (.iconst (-1), 1) := by decide +kernel
theorem dMO_numbers_61 : decode cMO_numbers 61 = .ok (.ireturn, 1) := by decide +kernel
theorem dMO_number_0 : decode cMO_number 0 = .ok (.iload_n 1, 1) := by decide +kernel
theorem dMO_number_1 : decode cMO_number 1 = .ok (.invokestatic 72, 3) := by decide +kernel
theorem dMO_number_4 : decode cMO_number 4 = .ok (.ifCond .ne 9, 3) := by decide +kernel
theorem dMO_number_7 : decode cMO_number 7 = .ok (.aload_n 0, 1) := by decide +kernel
theorem dMO_number_8 : decode cMO_number 8 = .ok (.iconst 1, 1) := by decide +kernel
theorem dMO_number_9 : decode cMO_number 9 = .ok (.invokevirtual 75, 3) := by decide +kernel
theorem dMO_number_12 : decode cMO_number 12 = .ok (.ireturn, 1) := by decide +kernel
theorem dMO_number_13 : decode cMO_number 13 = .ok (.aload_n 0, 1) := by decide +kernel
theorem dMO_number_14 : decode cMO_number 14 = .ok (.iconst 0, 1) := by decide +kernel
theorem dMO_number_15 : decode cMO_number 15 = .ok (.putfield 44, 3) := by decide +kernel
theorem dMO_number_18 : decode cMO_number 18 = .ok (.iload_n 2, 1) := by decide +kernel
theorem dMO_number_19 : decode cMO_number 19 = .ok (.istore_n 3, 1) := by decide +kernel
theorem dMO_number_20 : decode cMO_number 20 = .ok (.iconst 1, 1) := by decide +kernel
theorem dMO_number_21 : decode cMO_number 21 = .ok (.istore 4, 2) := by decide +kernel
theorem dMO_number_23 : decode cMO_number 23 = .ok (.iload 4, 2) := by decide +kernel
theorem dMO_number_25 : decode cMO_number 25 = .ok (.aload_n 0, 1) := by decide +kernel
theorem dMO_number_26 : decode cMO_number 26 = .ok (.getfield 7, 3) := by decide +kernel
theorem dMO_number_29 : decode cMO_number 29 = .ok (.iload_n 1, 1) := by decide +kernel
theorem dMO_number_30 : decode cMO_number 30 = .ok (.iaload, 1) := by decide +kernel
theorem dMO_number_31 : decode cMO_number 31 = .ok (.if_icmp .gt 43, 3) := by decide +kernel
theorem dMO_number_34 : decode cMO_number 34 = .ok (.aload_n 0, 1) := by decide +kernel
theorem dMO_number_35 : decode cMO_number 35 = .ok (.iload_n 1, 1) := by decide +kernel
theorem dMO_number_36 : decode cMO_number 36 = .ok (.iload 4, 2) := by decide +kernel
theorem dMO_number_38 : decode cMO_number 38 = .ok (.invokevirtual 79, 3) := by decide +kernel
theorem dMO_number_41 : decode cMO_number 41 = .ok (.istore 5, 2) := by decide +kernel
theorem dMO_number_43 : decode cMO_number 43 = .ok (.iload 5, 2) := by decide +kernel
theorem dMO_number_45 : decode cMO_number 45 = .ok (.ifCond .eq 10, 3) := by decide +kernel
theorem dMO_number_48 : decode cMO_number 48 = .ok (.iload_n 3, 1) := by decide +kernel
theorem dMO_number_49 : decode cMO_number 49 = .ok (.ifCond .ne 6, 3) := by decide +kernel
theorem dMO_number_52 : decode cMO_number 52 = .ok (.iload 4, 2) := by decide +kernel
theorem dMO_number_54 : decode cMO_number 54 = .ok (.ireturn, 1) := by decide +kernel
theorem dMO_number_55 : decode cMO_number 55 = .ok (.iload_n 3, 1) := by decide +kernel
theorem dMO_number_56 : decode cMO_number 56 = .ok (.iload 5, 2) := by decide +kernel
theorem dMO_number_58 : decode cMO_number 58 = .ok (.ifCond .eq 7, 3) := by decide +kernel
theorem dMO_number_61 : decode cMO_number 61 = .ok (.iconst 1, 1) := by decide +kernel
theorem dMO_number_62 : decode cMO_number 62 = .ok (.goto 4, 3) := by decide +kernel
theorem dMO_number_65 : decode cMO_number 65 = .ok (.iconst 0, 1) := by decide +kernel
theorem dMO_number_66 : decode cMO_number 66 = .ok (.isub, 1) := by decide +kernel
theorem dMO_number_67 : decode cMO_number 67 = .ok (.istore_n 3, 1) := by decide +kernel
theorem dMO_number_68 : decode cMO_number 68 = .ok (.iinc 4 1, 3) := by decide +kernel
theorem dMO_number_71 : decode cMO_number 71 = .ok (.goto (-48), 3) := by decide +kernel
theorem dMO_number_74 : decode cMO_number 74 = .ok (.iconst (-1), 1) := by decide +kernel
theorem dMO_number_75 : decode cMO_number 75 = .ok (.ireturn, 1) := by decide +kernel
theorem dMO_collected_0 : decode cMO_collected 0 = .ok (.iload_n 1, 1) := by decide +kernel
theorem dMO_collected_1 : decode cMO_collected 1 = .ok (.i2l, 1) := by decide +kernel
theorem dMO_collected_2 : decode cMO_collected 2 = .ok (.lconst 0, 1) := by decide +kernel
theorem dMO_collected_3 : decode cMO_collected 3 = .ok (.ldc2_w 60, 3) := by decide +kernel
theorem dMO_collected_6 : decode cMO_collected 6 = .ok (.invokestatic 52, 3) := by decide +kernel
theorem dMO_collected_9 : decode cMO_collected 9 = .ok (.ifCond .eq 37, 3) := by decide +kernel
theorem dMO_collected_12 : decode cMO_collected 12 = .ok (.iload_n 2, 1) := by decide +kernel
theorem dMO_collected_13 : decode cMO_collected 13 = .ok (.ifCond .lt 33, 3) := by decide +kernel
theorem dMO_collected_16 : decode cMO_collected 16 = .ok (.iload_n 2, 1) := by decide +kernel
theorem dMO_collected_17 : decode cMO_collected 17 = .ok (.aload_n 0, 1) := by decide +kernel
theorem dMO_collected_18 : decode cMO_collected 18 = .ok (.getfield 36, 3) := by decide +kernel
theorem dMO_collected_21 : decode cMO_collected 21 = .ok (.iload_n 1, 1) := by decide +kernel
theorem dMO_collected_22 : decode cMO_collected 22 = .ok (.i2l, 1) := by decide +kernel
theorem dMO_collected_23 : decode cMO_collected 23 = .ok (.lconst 0, 1) := by decide +kernel
theorem dMO_collected_24 : decode cMO_collected 24 = .ok (.ldc2_w 60, 3) := by decide +kernel
theorem dMO_collected_27 : decode cMO_collected 27 = .ok (.invokestatic 52, 3) := by decide +kernel
theorem dMO_collected_30 : decode cMO_collected 30 = .ok (.ifCond .eq 7, 3) := by decide +kernel
theorem dMO_collected_33 : decode cMO_collected 33 = .ok (.iload_n 1, 1) := by decide +kernel
theorem dMO_collected_34 : decode cMO_collected 34 = .ok (.goto 4, 3) := by decide +kernel
theorem dMO_collected_37 : decode cMO_collected 37 = .ok (.iconst 0, 1) := by decide +kernel
theorem dMO_collected_38 : decode cMO_collected 38 = .ok (.iaload, 1) := by decide +kernel
theorem dMO_collected_39 : decode cMO_collected 39 = .ok (.if_icmp .ge 7, 3) := by decide +kernel
theorem dMO_collected_42 : decode cMO_collected 42 = .ok (.iconst 1, 1) := by decide +kernel
theorem dMO_collected_43 : decode cMO_collected 43 = .ok (.goto 4, 3) := by decide +kernel
theorem dMO_collected_46 : decode cMO_collected 46 = .ok (.iconst 0, 1) := by decide +kernel
theorem dMO_collected_47 : decode cMO_collected 47 = .ok (.istore_n 3, 1) := by decide +kernel
theorem dMO_collected_48 : decode cMO_collected 48 = .ok (.aload_n 0, 1) := by decide +kernel
theorem dMO_collected_49 : decode cMO_collected 49 = .ok (.iload_n 3, 1) := by decide +kernel
theorem dMO_collected_50 : decode cMO_collected 50 = .ok (.ifCond .eq 7, 3) := by decide +kernel
theorem dMO_collected_53 : decode cMO_collected 53 = .ok (.iconst 0, 1) := by decide +kernel
theorem dMO_collected_54 : decode cMO_collected 54 = .ok (.goto 4, 3) := by decide +kernel
theorem dMO_collected_57 : decode cMO_collected 57 = .ok (.iconst 1, 1) := by decide +kernel
theorem dMO_collected_58 : decode cMO_collected 58 = .ok (.putfield 44, 3) := by decide +kernel
theorem dMO_collected_61 : decode cMO_collected 61 = .ok (.iload_n 3, 1) := by decide +kernel
theorem dMO_collected_62 : decode cMO_collected 62 = .ok (.ifCond .eq 17, 3) := by decide +kernel
theorem dMO_collected_65 : decode cMO_collected 65 = .ok (.aload_n 0, 1) := by decide +kernel
theorem dMO_collected_66 : decode cMO_collected 66 = .ok (.getfield 39, 3) := by decide +kernel
theorem dMO_collected_69 : decode cMO_collected 69 = .ok (.bipush 100, 2) := by decide +kernel
theorem dMO_collected_71 : decode cMO_collected 71 = .ok (.iload_n 1, 1) := by decide +kernel
theorem dMO_collected_72 : decode cMO_collected 72 = .ok (.imul, 1) := by decide +kernel
theorem dMO_collected_73 : decode cMO_collected 73 = .ok (.iload_n 2, 1) := by decide +kernel
theorem dMO_collected_74 : decode cMO_collected 74 = .ok (.iadd, 1) := by decide +kernel
theorem dMO_collected_75 : decode cMO_collected 75 = .ok (.laload, 1) := by decide +kernel
theorem dMO_collected_76 : decode cMO_collected 76 = .ok (.goto 4, 3) := by decide +kernel
theorem dMO_collected_79 : decode cMO_collected 79 = .ok (.lconst 0, 1) := by decide +kernel
theorem dMO_collected_80 : decode cMO_collected 80 = .ok (.lreturn, 1) := by decide +kernel
theorem dMO_log_0 : decode cMO_log 0 = .ok (.iload_n 1, 1) := by decide +kernel
theorem dMO_log_1 : decode cMO_log 1 = .ok (.i2l, 1) := by decide +kernel
theorem dMO_log_2 : decode cMO_log 2 = .ok (.lconst 0, 1) := by decide +kernel
theorem dMO_log_3 : decode cMO_log 3 = .ok (.lconst 1, 1) := by decide +kernel
theorem dMO_log_4 : decode cMO_log 4 = .ok (.invokestatic 52, 3) := by decide +kernel
theorem dMO_log_7 : decode cMO_log 7 = .ok (.ifCond .eq 35, 3) := by decide +kernel
theorem dMO_log_10 : decode cMO_log 10 = .ok (.iload_n 2, 1) := by decide +kernel
theorem dMO_log_11 : decode cMO_log 11 = .ok (.ifCond .lt 31, 3) := by decide +kernel
theorem dMO_log_14 : decode cMO_log 14 = .ok (.iload_n 2, 1) := by decide +kernel
theorem dMO_log_15 : decode cMO_log 15 = .ok (.aload_n 0, 1) := by decide +kernel
theorem dMO_log_16 : decode cMO_log 16 = .ok (.getfield 27, 3) := by decide +kernel
theorem dMO_log_19 : decode cMO_log 19 = .ok (.iload_n 1, 1) := by decide +kernel
theorem dMO_log_20 : decode cMO_log 20 = .ok (.i2l, 1) := by decide +kernel
theorem dMO_log_21 : decode cMO_log 21 = .ok (.lconst 0, 1) := by decide +kernel
theorem dMO_log_22 : decode cMO_log 22 = .ok (.lconst 1, 1) := by decide +kernel
theorem dMO_log_23 : decode cMO_log 23 = .ok (.invokestatic 52, 3) := by decide +kernel
theorem dMO_log_26 : decode cMO_log 26 = .ok (.ifCond .eq 7, 3) := by decide +kernel
theorem dMO_log_29 : decode cMO_log 29 = .ok (.iload_n 1, 1) := by decide +kernel
theorem dMO_log_30 : decode cMO_log 30 = .ok (.goto 4, 3) := by decide +kernel
theorem dMO_log_33 : decode cMO_log 33 = .ok (.iconst 0, 1) := by decide +kernel
theorem dMO_log_34 : decode cMO_log 34 = .ok (.iaload, 1) := by decide +kernel
theorem dMO_log_35 : decode cMO_log 35 = .ok (.if_icmp .ge 7, 3) := by decide +kernel
theorem dMO_log_38 : decode cMO_log 38 = .ok (.iconst 1, 1) := by decide +kernel
theorem dMO_log_39 : decode cMO_log 39 = .ok (.goto 4, 3) := by decide +kernel
theorem dMO_log_42 : decode cMO_log 42 = .ok (.iconst 0, 1) := by decide +kernel
theorem dMO_log_43 : decode cMO_log 43 = .ok (.istore_n 3, 1) := by decide +kernel
theorem dMO_log_44 : decode cMO_log 44 = .ok (.aload_n 0, 1) := by decide +kernel
theorem dMO_log_45 : decode cMO_log 45 = .ok (.iload_n 3, 1) := by decide +kernel
theorem dMO_log_46 : decode cMO_log 46 = .ok (.ifCond .eq 7, 3) := by decide +kernel
theorem dMO_log_49 : decode cMO_log 49 = .ok (.iconst 0, 1) := by decide +kernel
theorem dMO_log_50 : decode cMO_log 50 = .ok (.goto 4, 3) := by decide +kernel
theorem dMO_log_53 : decode cMO_log 53 = .ok (.iconst 1, 1) := by decide +kernel
theorem dMO_log_54 : decode cMO_log 54 = .ok (.putfield 44, 3) := by decide +kernel
theorem dMO_log_57 : decode cMO_log 57 = .ok (.iload_n 3, 1) := by decide +kernel
theorem dMO_log_58 : decode cMO_log 58 = .ok (.ifCond .eq 17, 3) := by decide +kernel
theorem dMO_log_61 : decode cMO_log 61 = .ok (.aload_n 0, 1) := by decide +kernel
theorem dMO_log_62 : decode cMO_log 62 = .ok (.getfield 30, 3) := by decide +kernel
theorem dMO_log_65 : decode cMO_log 65 = .ok (.bipush 64, 2) := by decide +kernel
theorem dMO_log_67 : decode cMO_log 67 = .ok (.iload_n 1, 1) := by decide +kernel
theorem dMO_log_68 : decode cMO_log 68 = .ok (.imul, 1) := by decide +kernel
theorem dMO_log_69 : decode cMO_log 69 = .ok (.iload_n 2, 1) := by decide +kernel
theorem dMO_log_70 : decode cMO_log 70 = .ok (.iadd, 1) := by decide +kernel
theorem dMO_log_71 : decode cMO_log 71 = .ok (.laload, 1) := by decide +kernel
theorem dMO_log_72 : decode cMO_log 72 = .ok (.goto 4, 3) := by decide +kernel
theorem dMO_log_75 : decode cMO_log 75 = .ok (.lconst 0, 1) := by decide +kernel
theorem dMO_log_76 : decode cMO_log 76 = .ok (.lreturn, 1) := by decide +kernel
theorem dMO_sum_0 : decode cMO_sum 0 = .ok (.iload_n 1, 1) := by decide +kernel
theorem dMO_sum_1 : decode cMO_sum 1 = .ok (.i2l, 1) := by decide +kernel
theorem dMO_sum_2 : decode cMO_sum 2 = .ok (.lconst 0, 1) := by decide +kernel
theorem dMO_sum_3 : decode cMO_sum 3 = .ok (.lconst 1, 1) := by decide +kernel
theorem dMO_sum_4 : decode cMO_sum 4 = .ok (.invokestatic 52, 3) := by decide +kernel
theorem dMO_sum_7 : decode cMO_sum 7 = .ok (.ifCond .eq 14, 3) := by decide +kernel
theorem dMO_sum_10 : decode cMO_sum 10 = .ok (.iload_n 2, 1) := by decide +kernel
theorem dMO_sum_11 : decode cMO_sum 11 = .ok (.invokestatic 66, 3) := by decide +kernel
theorem dMO_sum_14 : decode cMO_sum 14 = .ok (.ifCond .eq 7, 3) := by decide +kernel
theorem dMO_sum_17 : decode cMO_sum 17 = .ok (.iconst 1, 1) := by decide +kernel
theorem dMO_sum_18 : decode cMO_sum 18 = .ok (.goto 4, 3) := by decide +kernel
theorem dMO_sum_21 : decode cMO_sum 21 = .ok (.iconst 0, 1) := by decide +kernel
theorem dMO_sum_22 : decode cMO_sum 22 = .ok (.istore_n 3, 1) := by decide +kernel
theorem dMO_sum_23 : decode cMO_sum 23 = .ok (.aload_n 0, 1) := by decide +kernel
theorem dMO_sum_24 : decode cMO_sum 24 = .ok (.iload_n 3, 1) := by decide +kernel
theorem dMO_sum_25 : decode cMO_sum 25 = .ok (.ifCond .eq 7, 3) := by decide +kernel
theorem dMO_sum_28 : decode cMO_sum 28 = .ok (.iconst 0, 1) := by decide +kernel
theorem dMO_sum_29 : decode cMO_sum 29 = .ok (.goto 4, 3) := by decide +kernel
theorem dMO_sum_32 : decode cMO_sum 32 = .ok (.iconst 1, 1) := by decide +kernel
theorem dMO_sum_33 : decode cMO_sum 33 = .ok (.putfield 44, 3) := by decide +kernel
theorem dMO_sum_36 : decode cMO_sum 36 = .ok (.iload_n 3, 1) := by decide +kernel
theorem dMO_sum_37 : decode cMO_sum 37 = .ok (.ifCond .eq 17, 3) := by decide +kernel
theorem dMO_sum_40 : decode cMO_sum 40 = .ok (.aload_n 0, 1) := by decide +kernel
theorem dMO_sum_41 : decode cMO_sum 41 = .ok (.getfield 24, 3) := by decide +kernel
theorem dMO_sum_44 : decode cMO_sum 44 = .ok (.bipush 12, 2) := by decide +kernel
theorem dMO_sum_46 : decode cMO_sum 46 = .ok (.iload_n 1, 1) := by decide +kernel
theorem dMO_sum_47 : decode cMO_sum 47 = .ok (.imul, 1) := by decide +kernel
theorem dMO_sum_48 : decode cMO_sum 48 = .ok (.iload_n 2, 1) := by decide +kernel
theorem dMO_sum_49 : decode cMO_sum 49 = .ok (.iadd, 1) := by decide +kernel
theorem dMO_sum_50 : decode cMO_sum 50 = .ok (.laload, 1) := by decide +kernel
theorem dMO_sum_51 : decode cMO_sum 51 = .ok (.goto 4, 3) := by decide +kernel
theorem dMO_sum_54 : decode cMO_sum 54 = .ok (.lconst 0, 1) := by decide +kernel
theorem dMO_sum_55 : decode cMO_sum 55 = .ok (.lreturn, 1) := by decide +kernel
theorem dMO_same_0 : decode cMO_same 0 = .ok (.aload_n 0, 1) := by decide +kernel
theorem dMO_same_1 : decode cMO_same 1 = .ok (.iconst 0, 1) := by decide +kernel
theorem dMO_same_2 : decode cMO_same 2 = .ok (.putfield 44, 3) := by decide +kernel
theorem dMO_same_5 : decode cMO_same 5 = .ok (.aload_n 0, 1) := by decide +kernel
theorem dMO_same_6 : decode cMO_same 6 = .ok (.getfield 27, 3) := by decide +kernel
theorem dMO_same_9 : decode cMO_same 9 = .ok (.iconst 0, 1) := by decide +kernel
theorem dMO_same_10 : decode cMO_same 10 = .ok (.iaload, 1) := by decide +kernel
theorem dMO_same_11 : decode cMO_same 11 = .ok (.aload_n 0, 1) := by decide +kernel
theorem dMO_same_12 : decode cMO_same 12 = .ok (.getfield 27, 3) := by decide +kernel
theorem dMO_same_15 : decode cMO_same 15 = .ok (.iconst 1, 1) := by decide +kernel
theorem dMO_same_16 : decode cMO_same 16 = .ok (.iaload, 1) := by decide +kernel
theorem dMO_same_17 : decode cMO_same 17 = .ok (.if_icmp .ne 7, 3) := by decide +kernel
theorem dMO_same_20 : decode cMO_same 20 = .ok (.iconst 1, 1) := by decide +kernel
theorem dMO_same_21 : decode cMO_same 21 = .ok (.goto 4, 3) := by decide +kernel
theorem dMO_same_24 : decode cMO_same 24 = .ok (.iconst 0, 1) := by decide +kernel
theorem dMO_same_25 : decode cMO_same 25 = .ok (.istore_n 1, 1) := by decide +kernel
theorem dMO_same_26 : decode cMO_same 26 = .ok (.iconst 0, 1) := by decide +kernel
theorem dMO_same_27 : decode cMO_same 27 = .ok (.istore_n 2, 1) := by decide +kernel
theorem dMO_same_28 : decode cMO_same 28 = .ok (.iload_n 2, 1) := by decide +kernel
theorem dMO_same_29 : decode cMO_same 29 = .ok (.bipush 64, 2) := by decide +kernel
theorem dMO_same_31 : decode cMO_same 31 = .ok (.if_icmp .ge 48, 3) := by decide +kernel
theorem dMO_same_34 : decode cMO_same 34 = .ok (.iload_n 1, 1) := by decide +kernel
theorem dMO_same_35 : decode cMO_same 35 = .ok (.ifCond .eq 36, 3) := by decide +kernel
theorem dMO_same_38 : decode cMO_same 38 = .ok (.iload_n 2, 1) := by decide +kernel
theorem dMO_same_39 : decode cMO_same 39 = .ok (.aload_n 0, 1) := by decide +kernel
theorem dMO_same_40 : decode cMO_same 40 = .ok (.getfield 27, 3) := by decide +kernel
theorem dMO_same_43 : decode cMO_same 43 = .ok (.iconst 0, 1) := by decide +kernel
theorem dMO_same_44 : decode cMO_same 44 = .ok (.iaload, 1) := by decide +kernel
theorem dMO_same_45 : decode cMO_same 45 = .ok (.if_icmp .ge 22, 3) := by decide +kernel
theorem dMO_same_48 : decode cMO_same 48 = .ok (.aload_n 0, 1) := by decide +kernel
theorem dMO_same_49 : decode cMO_same 49 = .ok (.getfield 30, 3) := by decide +kernel
theorem dMO_same_52 : decode cMO_same 52 = .ok (.iload_n 2, 1) := by decide +kernel
theorem dMO_same_53 : decode cMO_same 53 = .ok (.laload, 1) := by decide +kernel
theorem dMO_same_54 : decode cMO_same 54 = .ok (.aload_n 0, 1) := by decide +kernel
theorem dMO_same_55 : decode cMO_same 55 = .ok (.getfield 30, 3) := by decide +kernel
theorem dMO_same_58 : decode cMO_same 58 = .ok (.bipush 64, 2) := by decide +kernel
theorem dMO_same_60 : decode cMO_same 60 = .ok (.iload_n 2, 1) := by decide +kernel
theorem dMO_same_61 : decode cMO_same 61 = .ok (.iadd, 1) := by decide +kernel
theorem dMO_same_62 : decode cMO_same 62 = .ok (.laload, 1) := by decide +kernel
theorem dMO_same_63 : decode cMO_same 63 = .ok (.lcmp, 1) := by decide +kernel
theorem dMO_same_64 : decode cMO_same 64 = .ok (.ifCond .ne 7, 3) := by decide +kernel
theorem dMO_same_67 : decode cMO_same 67 = .ok (.iconst 1, 1) := by decide +kernel
theorem dMO_same_68 : decode cMO_same 68 = .ok (.goto 4, 3) := by decide +kernel
theorem dMO_same_71 : decode cMO_same 71 = .ok (.iconst 0, 1) := by decide +kernel
theorem dMO_same_72 : decode cMO_same 72 = .ok (.istore_n 1, 1) := by decide +kernel
theorem dMO_same_73 : decode cMO_same 73 = .ok (.iinc 2 1, 3) := by decide +kernel
theorem dMO_same_76 : decode cMO_same 76 = .ok (.goto (-48), 3) := by decide +kernel
theorem dMO_same_79 : decode cMO_same 79 = .ok (.iconst 0, 1) := by decide +kernel
theorem dMO_same_80 : decode cMO_same 80 = .ok (.istore_n 2, 1) := by decide +kernel
theorem dMO_same_81 : decode cMO_same 81 = .ok (.iload_n 2, 1) := by decide +kernel
theorem dMO_same_82 : decode cMO_same 82 = .ok (.bipush 12, 2) := by decide +kernel
theorem dMO_same_84 : decode cMO_same 84 = .ok (.if_icmp .ge 38, 3) := by decide +kernel
theorem dMO_same_87 : decode cMO_same 87 = .ok (.iload_n 1, 1) := by decide +kernel
theorem dMO_same_88 : decode cMO_same 88 = .ok (.ifCond .eq 26, 3) := by decide +kernel
theorem dMO_same_91 : decode cMO_same 91 = .ok (.aload_n 0, 1) := by decide +kernel
theorem dMO_same_92 : decode cMO_same 92 = .ok (.getfield 24, 3) := by decide +kernel
theorem dMO_same_95 : decode cMO_same 95 = .ok (.iload_n 2, 1) := by decide +kernel
theorem dMO_same_96 : decode cMO_same 96 = .ok (.laload, 1) := by decide +kernel
theorem dMO_same_97 : decode cMO_same 97 = .ok (.aload_n 0, 1) := by decide +kernel
theorem dMO_same_98 : decode cMO_same 98 = .ok (.getfield 24, 3) := by decide +kernel
theorem dMO_same_101 : decode cMO_same 101 = .ok (.bipush 12, 2) := by decide +kernel
theorem dMO_same_103 : decode cMO_same 103 = .ok (.iload_n 2, 1) := by decide +kernel
theorem dMO_same_104 : decode cMO_same 104 = .ok (.iadd, 1) := by decide +kernel
theorem dMO_same_105 : decode cMO_same 105 = .ok (.laload, 1) := by decide +kernel
theorem dMO_same_106 : decode cMO_same 106 = .ok (.lcmp, 1) := by decide +kernel
theorem dMO_same_107 : decode cMO_same 107 = .ok (.ifCond .ne 7, 3) := by decide +kernel
theorem dMO_same_110 : decode cMO_same 110 = .ok (.iconst 1, 1) := by decide +kernel
theorem dMO_same_111 : decode cMO_same 111 = .ok (.goto 4, 3) := by decide +kernel
theorem dMO_same_114 : decode cMO_same 114 = .ok (.iconst 0, 1) := by decide +kernel
theorem dMO_same_115 : decode cMO_same 115 = .ok (.istore_n 1, 1) := by decide +kernel
theorem dMO_same_116 : decode cMO_same 116 = .ok (.iinc 2 1, 3) := by decide +kernel
theorem dMO_same_119 : decode cMO_same 119 = .ok (.goto (-38), 3) := by decide +kernel
theorem dMO_same_122 : decode cMO_same 122 = .ok (.iconst 0, 1) := by decide +kernel
theorem dMO_same_123 : decode cMO_same 123 = .ok (.istore_n 2, 1) := by decide +kernel
theorem dMO_same_124 : decode cMO_same 124 = .ok (.iload_n 2, 1) := by decide +kernel
theorem dMO_same_125 : decode cMO_same 125 = .ok (.bipush 8, 2) := by decide +kernel
theorem dMO_same_127 : decode cMO_same 127 = .ok (.if_icmp .ge 38, 3) := by decide +kernel
theorem dMO_same_130 : decode cMO_same 130 = .ok (.iload_n 1, 1) := by decide +kernel
theorem dMO_same_131 : decode cMO_same 131 = .ok (.ifCond .eq 26, 3) := by decide +kernel
theorem dMO_same_134 : decode cMO_same 134 = .ok (.aload_n 0, 1) := by decide +kernel
theorem dMO_same_135 : decode cMO_same 135 = .ok (.getfield 33, 3) := by decide +kernel
theorem dMO_same_138 : decode cMO_same 138 = .ok (.iload_n 2, 1) := by decide +kernel
theorem dMO_same_139 : decode cMO_same 139 = .ok (.laload, 1) := by decide +kernel
theorem dMO_same_140 : decode cMO_same 140 = .ok (.aload_n 0, 1) := by decide +kernel
theorem dMO_same_141 : decode cMO_same 141 = .ok (.getfield 33, 3) := by decide +kernel
theorem dMO_same_144 : decode cMO_same 144 = .ok (.bipush 8, 2) := by decide +kernel
theorem dMO_same_146 : decode cMO_same 146 = .ok (.iload_n 2, 1) := by decide +kernel
theorem dMO_same_147 : decode cMO_same 147 = .ok (.iadd, 1) := by decide +kernel
theorem dMO_same_148 : decode cMO_same 148 = .ok (.laload, 1) := by decide +kernel
theorem dMO_same_149 : decode cMO_same 149 = .ok (.lcmp, 1) := by decide +kernel
theorem dMO_same_150 : decode cMO_same 150 = .ok (.ifCond .ne 7, 3) := by decide +kernel
theorem dMO_same_153 : decode cMO_same 153 = .ok (.iconst 1, 1) := by decide +kernel
theorem dMO_same_154 : decode cMO_same 154 = .ok (.goto 4, 3) := by decide +kernel
theorem dMO_same_157 : decode cMO_same 157 = .ok (.iconst 0, 1) := by decide +kernel
theorem dMO_same_158 : decode cMO_same 158 = .ok (.istore_n 1, 1) := by decide +kernel
theorem dMO_same_159 : decode cMO_same 159 = .ok (.iinc 2 1, 3) := by decide +kernel
theorem dMO_same_162 : decode cMO_same 162 = .ok (.goto (-38), 3) := by decide +kernel
theorem dMO_same_165 : decode cMO_same 165 = .ok (.iload_n 1, 1) := by decide +kernel
theorem dMO_same_166 : decode cMO_same 166 = .ok (.ireturn, 1) := by decide +kernel
