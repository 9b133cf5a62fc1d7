theorem dPD_init_0 : decode cPD_init 0 = .ok (.aload_n 0, 1) := by decide +kernel
theorem dPD_init_1 : decode cPD_init 1 = .ok (.invokespecial 1, 3) := by decide +kernel
theorem dPD_init_4 : decode cPD_init 4 = .ok (.aload_n 0, 1) := by decide +kernel
theorem dPD_init_5 : decode cPD_init 5 = .ok (.new 7, 3) := by decide +kernel
theorem dPD_init_8 : decode cPD_init 8 = .ok (.dup, 1) := by decide +kernel
theorem dPD_init_9 : decode cPD_init 9 = .ok (.invokespecial 9, 3) := by decide +kernel
theorem dPD_init_12 : decode cPD_init 12 = .ok (.putfield 10, 3) := by decide +kernel
theorem dPD_init_15 : decode cPD_init 15 = .ok (.aload_n 0, 1) := by decide +kernel
theorem dPD_init_16 : decode cPD_init 16 = .ok (.new 7, 3) := by decide +kernel
theorem dPD_init_19 : decode cPD_init 19 = .ok (.dup, 1) := by decide +kernel
theorem dPD_init_20 : decode cPD_init 20 = .ok (.invokespecial 9, 3) := by decide +kernel
theorem dPD_init_23 : decode cPD_init 23 = .ok (.putfield 16, 3) := by decide +kernel
theorem dPD_init_26 : decode cPD_init 26 = .ok (.return_, 1) := by decide +kernel
theorem dDK_init_0 : decode cDK_init 0 = .ok (.aload_n 0, 1) := by decide +kernel
theorem dDK_init_1 : decode cDK_init 1 = .ok (.invokespecial 3, 3) := by decide +kernel
theorem dDK_init_4 : decode cDK_init 4 = .ok (.aload_n 0, 1) := by decide +kernel
theorem dDK_init_5 : decode cDK_init 5 = .ok (.new 9, 3) := by decide +kernel
theorem dDK_init_8 : decode cDK_init 8 = .ok (.dup, 1) := by decide +kernel
theorem dDK_init_9 : decode cDK_init 9 = .ok (.invokespecial 11, 3) := by decide +kernel
theorem dDK_init_12 : decode cDK_init 12 = .ok (.putfield 12, 3) := by decide +kernel
theorem dDK_init_15 : decode cDK_init 15 = .ok (.aload_n 0, 1) := by decide +kernel
theorem dDK_init_16 : decode cDK_init 16 = .ok (.new 18, 3) := by decide +kernel
theorem dDK_init_19 : decode cDK_init 19 = .ok (.dup, 1) := by decide +kernel
theorem dDK_init_20 : decode cDK_init 20 = .ok (.invokespecial 20, 3) := by decide +kernel
theorem dDK_init_23 : decode cDK_init 23 = .ok (.putfield 21, 3) := by decide +kernel
theorem dDK_init_26 : decode cDK_init 26 = .ok (.aload_n 0, 1) := by decide +kernel
theorem dDK_init_27 : decode cDK_init 27 = .ok (.new 25, 3) := by decide +kernel
theorem dDK_init_30 : decode cDK_init 30 = .ok (.dup, 1) := by decide +kernel
theorem dDK_init_31 : decode cDK_init 31 = .ok (.invokespecial 27, 3) := by decide +kernel
theorem dDK_init_34 : decode cDK_init 34 = .ok (.putfield 28, 3) := by decide +kernel
theorem dDK_init_37 : decode cDK_init 37 = .ok (.aload_n 0, 1) := by decide +kernel
theorem dDK_init_38 : decode cDK_init 38 = .ok (.new 32, 3) := by decide +kernel
theorem dDK_init_41 : decode cDK_init 41 = .ok (.dup, 1) := by decide +kernel
theorem dDK_init_42 : decode cDK_init 42 = .ok (.invokespecial 34, 3) := by decide +kernel
theorem dDK_init_45 : decode cDK_init 45 = .ok (.putfield 35, 3) := by decide +kernel
theorem dDK_init_48 : decode cDK_init 48 = .ok (.aload_n 0, 1) := by decide +kernel
theorem dDK_init_49 : decode cDK_init 49 = .ok (.new 39, 3) := by decide +kernel
theorem dDK_init_52 : decode cDK_init 52 = .ok (.dup, 1) := by decide +kernel
theorem dDK_init_53 : decode cDK_init 53 = .ok (.invokespecial 41, 3) := by decide +kernel
theorem dDK_init_56 : decode cDK_init 56 = .ok (.putfield 42, 3) := by decide +kernel
theorem dDK_init_59 : decode cDK_init 59 = .ok (.return_, 1) := by decide +kernel
theorem dNU_init_0 : decode cNU_init 0 = .ok (.aload_n 0, 1) := by decide +kernel
theorem dNU_init_1 : decode cNU_init 1 = .ok (.invokespecial 3, 3) := by decide +kernel
theorem dNU_init_4 : decode cNU_init 4 = .ok (.aload_n 0, 1) := by decide +kernel
theorem dNU_init_5 : decode cNU_init 5 = .ok (.bipush 8, 2) := by decide +kernel
theorem dNU_init_7 : decode cNU_init 7 = .ok (.newarray .int, 2) := by decide +kernel
theorem dNU_init_9 : decode cNU_init 9 = .ok (.putfield 9, 3) := by decide +kernel
theorem dNU_init_12 : decode cNU_init 12 = .ok (.aload_n 0, 1) := by decide +kernel
theorem dNU_init_13 : decode cNU_init 13 = .ok (.bipush 8, 2) := by decide +kernel
theorem dNU_init_15 : decode cNU_init 15 = .ok (.newarray .long, 2) := by decide +kernel
theorem dNU_init_17 : decode cNU_init 17 = .ok (.putfield 15, 3) := by decide +kernel
theorem dNU_init_20 : decode cNU_init 20 = .ok (.return_, 1) := by decide +kernel
theorem dPT_init_0 : decode cPT_init 0 = .ok (.aload_n 0, 1) := by decide +kernel
theorem dPT_init_1 : decode cPT_init 1 = .ok (.invokespecial 3, 3) := by decide +kernel
theorem dPT_init_4 : decode cPT_init 4 = .ok (.aload_n 0, 1) := by decide +kernel
theorem dPT_init_5 : decode cPT_init 5 = .ok (.bipush 12, 2) := by decide +kernel
theorem dPT_init_7 : decode cPT_init 7 = .ok (.newarray .long, 2) := by decide +kernel
theorem dPT_init_9 : decode cPT_init 9 = .ok (.putfield 9, 3) := by decide +kernel
theorem dPT_init_12 : decode cPT_init 12 = .ok (.aload_n 0, 1) := by decide +kernel
theorem dPT_init_13 : decode cPT_init 13 = .ok (.bipush 12, 2) := by decide +kernel
theorem dPT_init_15 : decode cPT_init 15 = .ok (.newarray .long, 2) := by decide +kernel
theorem dPT_init_17 : decode cPT_init 17 = .ok (.putfield 15, 3) := by decide +kernel
theorem dPT_init_20 : decode cPT_init 20 = .ok (.aload_n 0, 1) := by decide +kernel
theorem dPT_init_21 : decode cPT_init 21 = .ok (.bipush 12, 2) := by decide +kernel
theorem dPT_init_23 : decode cPT_init 23 = .ok (.newarray .int, 2) := by decide +kernel
theorem dPT_init_25 : decode cPT_init 25 = .ok (.putfield 18, 3) := by decide +kernel
theorem dPT_init_28 : decode cPT_init 28 = .ok (.return_, 1) := by decide +kernel
theorem dTL_init_0 : decode cTL_init 0 = .ok (.aload_n 0, 1) := by decide +kernel
theorem dTL_init_1 : decode cTL_init 1 = .ok (.invokespecial 3, 3) := by decide +kernel
theorem dTL_init_4 : decode cTL_init 4 = .ok (.aload_n 0, 1) := by decide +kernel
theorem dTL_init_5 : decode cTL_init 5 = .ok (.bipush 8, 2) := by decide +kernel
theorem dTL_init_7 : decode cTL_init 7 = .ok (.newarray .long, 2) := by decide +kernel
theorem dTL_init_9 : decode cTL_init 9 = .ok (.putfield 9, 3) := by decide +kernel
theorem dTL_init_12 : decode cTL_init 12 = .ok (.aload_n 0, 1) := by decide +kernel
theorem dTL_init_13 : decode cTL_init 13 = .ok (.getfield 9, 3) := by decide +kernel
theorem dTL_init_16 : decode cTL_init 16 = .ok (.bipush 6, 2) := by decide +kernel
theorem dTL_init_18 : decode cTL_init 18 = .ok (.ldc2_w 15, 3) := by decide +kernel
theorem dTL_init_21 : decode cTL_init 21 = .ok (.lastore, 1) := by decide +kernel
theorem dTL_init_22 : decode cTL_init 22 = .ok (.return_, 1) := by decide +kernel
theorem dCV_init_0 : decode cCV_init 0 = .ok (.aload_n 0, 1) := by decide +kernel
theorem dCV_init_1 : decode cCV_init 1 = .ok (.invokespecial 3, 3) := by decide +kernel
theorem dCV_init_4 : decode cCV_init 4 = .ok (.aload_n 0, 1) := by decide +kernel
theorem dCV_init_5 : decode cCV_init 5 = .ok (.iconst 4, 1) := by decide +kernel
theorem dCV_init_6 : decode cCV_init 6 = .ok (.newarray .int, 2) := by decide +kernel
theorem dCV_init_8 : decode cCV_init 8 = .ok (.putfield 9, 3) := by decide +kernel
theorem dCV_init_11 : decode cCV_init 11 = .ok (.aload_n 0, 1) := by decide +kernel
theorem dCV_init_12 : decode cCV_init 12 = .ok (.iconst 4, 1) := by decide +kernel
theorem dCV_init_13 : decode cCV_init 13 = .ok (.bipush 100, 2) := by decide +kernel
theorem dCV_init_15 : decode cCV_init 15 = .ok (.multianewarray 15 2, 4) := by decide +kernel
theorem dCV_init_19 : decode cCV_init 19 = .ok (.putfield 17, 3) := by decide +kernel
theorem dCV_init_22 : decode cCV_init 22 = .ok (.return_, 1) := by decide +kernel
theorem dJN_init_0 : decode cJN_init 0 = .ok (.aload_n 0, 1) := by decide +kernel
theorem dJN_init_1 : decode cJN_init 1 = .ok (.invokespecial 1, 3) := by decide +kernel
theorem dJN_init_4 : decode cJN_init 4 = .ok (.aload_n 0, 1) := by decide +kernel
theorem dJN_init_5 : decode cJN_init 5 = .ok (.bipush 64, 2) := by decide +kernel
theorem dJN_init_7 : decode cJN_init 7 = .ok (.newarray .long, 2) := by decide +kernel
theorem dJN_init_9 : decode cJN_init 9 = .ok (.putfield 9, 3) := by decide +kernel
theorem dJN_init_12 : decode cJN_init 12 = .ok (.aload_n 0, 1) := by decide +kernel
theorem dJN_init_13 : decode cJN_init 13 = .ok (.iconst 0, 1) := by decide +kernel
theorem dJN_init_14 : decode cJN_init 14 = .ok (.putfield 13, 3) := by decide +kernel
theorem dJN_init_17 : decode cJN_init 17 = .ok (.aload_n 0, 1) := by decide +kernel
theorem dJN_init_18 : decode cJN_init 18 = .ok (.iconst 0, 1) := by decide +kernel
theorem dJN_init_19 : decode cJN_init 19 = .ok (.putfield 17, 3) := by decide +kernel
theorem dJN_init_22 : decode cJN_init 22 = .ok (.return_, 1) := by decide +kernel
theorem dPD_collect_0 : decode cPD_collect 0 = .ok (.iload_n 1, 1) := by decide +kernel
theorem dPD_collect_1 : decode cPD_collect 1 = .ok (.lload_n 2, 1) := by decide +kernel
theorem dPD_collect_2 : decode cPD_collect 2 = .ok (.invokestatic 19, 3) := by decide +kernel
theorem dPD_collect_5 : decode cPD_collect 5 = .ok (.ifCond .ne 5, 3) := by decide +kernel
theorem dPD_collect_8 : decode cPD_collect 8 = .ok (.iconst (-1), 1) := by decide +kernel
theorem dPD_collect_9 : decode cPD_collect 9 = .ok (.ireturn, 1) := by decide +kernel
theorem dPD_collect_10 : decode cPD_collect 10 = .ok (.aload_n 0, 1) := by decide +kernel
theorem dPD_collect_11 : decode cPD_collect 11 = .ok (.getfield 16, 3) := by decide +kernel
theorem dPD_collect_14 : decode cPD_collect 14 = .ok (.iload_n 1, 1) := by decide +kernel
theorem dPD_collect_15 : decode cPD_collect 15 = .ok (.lload_n 2, 1) := by decide +kernel
theorem dPD_collect_16 : decode cPD_collect 16 = .ok (.invokevirtual 25, 3) := by decide +kernel
theorem dPD_collect_19 : decode cPD_collect 19 = .ok (.pop, 1) := by decide +kernel
theorem dPD_collect_20 : decode cPD_collect 20 = .ok (.aload_n 0, 1) := by decide +kernel
theorem dPD_collect_21 : decode cPD_collect 21 = .ok (.getfield 10, 3) := by decide +kernel
theorem dPD_collect_24 : decode cPD_collect 24 = .ok (.iload_n 1, 1) := by decide +kernel
theorem dPD_collect_25 : decode cPD_collect 25 = .ok (.lload_n 2, 1) := by decide +kernel
theorem dPD_collect_26 : decode cPD_collect 26 = .ok (.invokevirtual 25, 3) := by decide +kernel
theorem dPD_collect_29 : decode cPD_collect 29 = .ok (.ireturn, 1) := by decide +kernel
theorem dCV_canHold_0 : decode cCV_canHold 0 = .ok (.iload_n 0, 1) := by decide +kernel
theorem dCV_canHold_1 : decode cCV_canHold 1 = .ok (.tableswitch 95 0 3 #[31, 53, 73, 75], 31) := by decide +kernel
theorem dCV_canHold_32 : decode cCV_canHold 32 = .ok (.lload_n 1, 1) := by decide +kernel
theorem dCV_canHold_33 : decode cCV_canHold 33 = .ok (.ldc2_w 20, 3) := by decide +kernel
theorem dCV_canHold_36 : decode cCV_canHold 36 = .ok (.lcmp, 1) := by decide +kernel
theorem dCV_canHold_37 : decode cCV_canHold 37 = .ok (.ifCond .lt 15, 3) := by decide +kernel
theorem dCV_canHold_40 : decode cCV_canHold 40 = .ok (.lload_n 1, 1) := by decide +kernel
theorem dCV_canHold_41 : decode cCV_canHold 41 = .ok (.ldc2_w 22, 3) := by decide +kernel
theorem dCV_canHold_44 : decode cCV_canHold 44 = .ok (.lcmp, 1) := by decide +kernel
theorem dCV_canHold_45 : decode cCV_canHold 45 = .ok (.ifCond .gt 7, 3) := by decide +kernel
theorem dCV_canHold_48 : decode cCV_canHold 48 = .ok (.iconst 1, 1) := by decide +kernel
theorem dCV_canHold_49 : decode cCV_canHold 49 = .ok (.goto 4, 3) := by decide +kernel
theorem dCV_canHold_52 : decode cCV_canHold 52 = .ok (.iconst 0, 1) := by decide +kernel
theorem dCV_canHold_53 : decode cCV_canHold 53 = .ok (.ireturn, 1) := by decide +kernel
theorem dCV_canHold_54 : decode cCV_canHold 54 = .ok (.lload_n 1, 1) := by decide +kernel
theorem dCV_canHold_55 : decode cCV_canHold 55 = .ok (.lconst 0, 1) := by decide +kernel
theorem dCV_canHold_56 : decode cCV_canHold 56 = .ok (.lcmp, 1) := by decide +kernel
theorem dCV_canHold_57 : decode cCV_canHold 57 = .ok (.ifCond .lt 15, 3) := by decide +kernel
theorem dCV_canHold_60 : decode cCV_canHold 60 = .ok (.lload_n 1, 1) := by decide +kernel
theorem dCV_canHold_61 : decode cCV_canHold 61 = .ok (.ldc2_w 24, 3) := by decide +kernel
theorem dCV_canHold_64 : decode cCV_canHold 64 = .ok (.lcmp, 1) := by decide +kernel
theorem dCV_canHold_65 : decode cCV_canHold 65 = .ok (.ifCond .gt 7, 3) := by decide +kernel
theorem dCV_canHold_68 : decode cCV_canHold 68 = .ok (.iconst 1, 1) := by decide +kernel
theorem dCV_canHold_69 : decode cCV_canHold 69 = .ok (.goto 4, 3) := by decide +kernel
theorem dCV_canHold_72 : decode cCV_canHold 72 = .ok (.iconst 0, 1) := by decide +kernel
theorem dCV_canHold_73 : decode cCV_canHold 73 = .ok (.ireturn, 1) := by decide +kernel
theorem dCV_canHold_74 : decode cCV_canHold 74 = .ok (.iconst 1, 1) := by decide +kernel
theorem dCV_canHold_75 : decode cCV_canHold 75 = .ok (.ireturn, 1) := by decide +kernel
theorem dCV_canHold_76 : decode cCV_canHold 76 = .ok (.lload_n 1, 1) := by decide +kernel
theorem dCV_canHold_77 : decode cCV_canHold 77 = .ok (.lconst 0, 1) := by decide +kernel
theorem dCV_canHold_78 : decode cCV_canHold 78 = .ok (.lcmp, 1) := by decide +kernel
theorem dCV_canHold_79 : decode cCV_canHold 79 = .ok (.ifCond .lt 15, 3) := by decide +kernel
theorem dCV_canHold_82 : decode cCV_canHold 82 = .ok (.lload_n 1, 1) := by decide +kernel
theorem dCV_canHold_83 : decode cCV_canHold 83 = .ok (.ldc2_w 26, 3) := by decide +kernel
theorem dCV_canHold_86 : decode cCV_canHold 86 = .ok (.lcmp, 1) := by decide +kernel
theorem dCV_canHold_87 : decode cCV_canHold 87 = .ok (.ifCond .ge 7, 3) := by decide +kernel
theorem dCV_canHold_90 : decode cCV_canHold 90 = .ok (.iconst 1, 1) := by decide +kernel
theorem dCV_canHold_91 : decode cCV_canHold 91 = .ok (.goto 4, 3) := by decide +kernel
theorem dCV_canHold_94 : decode cCV_canHold 94 = .ok (.iconst 0, 1) := by decide +kernel
theorem dCV_canHold_95 : decode cCV_canHold 95 = .ok (.ireturn, 1) := by decide +kernel
theorem dCV_canHold_96 : decode cCV_canHold 96 = .ok (.iconst 0, 1) := by decide +kernel
theorem dCV_canHold_97 : decode cCV_canHold 97 = .ok (.ireturn, 1) := by decide +kernel
theorem dDK_take_0 : decode cDK_take 0 = .ok (.aload_n 0, 1) := by decide +kernel
theorem dDK_take_1 : decode cDK_take 1 = .ok (.getfield 35, 3) := by decide +kernel
theorem dDK_take_4 : decode cDK_take 4 = .ok (.iload_n 1, 1) := by decide +kernel
theorem dDK_take_5 : decode cDK_take 5 = .ok (.invokevirtual 46, 3) := by decide +kernel
theorem dDK_take_8 : decode cDK_take 8 = .ok (.ifCond .eq 5, 3) := by decide +kernel
theorem dDK_take_11 : decode cDK_take 11 = .ok (.iconst (-1), 1) := by decide +kernel
theorem dDK_take_12 : decode cDK_take 12 = .ok (.ireturn, 1) := by decide +kernel
theorem dDK_take_13 : decode cDK_take 13 = .ok (.iload_n 1, 1) := by decide +kernel
theorem dDK_take_14 : decode cDK_take 14 = .ok (.iconst 3, 1) := by decide +kernel
theorem dDK_take_15 : decode cDK_take 15 = .ok (.if_icmp .ne 25, 3) := by decide +kernel
theorem dDK_take_18 : decode cDK_take 18 = .ok (.aload_n 0, 1) := by decide +kernel
theorem dDK_take_19 : decode cDK_take 19 = .ok (.getfield 12, 3) := by decide +kernel
theorem dDK_take_22 : decode cDK_take 22 = .ok (.lload_n 2, 1) := by decide +kernel
theorem dDK_take_23 : decode cDK_take 23 = .ok (.l2i, 1) := by decide +kernel
theorem dDK_take_24 : decode cDK_take 24 = .ok (.invokevirtual 50, 3) := by decide +kernel
theorem dDK_take_27 : decode cDK_take 27 = .ok (.ifCond .ne 13, 3) := by decide +kernel
theorem dDK_take_30 : decode cDK_take 30 = .ok (.aload_n 0, 1) := by decide +kernel
theorem dDK_take_31 : decode cDK_take 31 = .ok (.getfield 12, 3) := by decide +kernel
theorem dDK_take_34 : decode cDK_take 34 = .ok (.lload_n 2, 1) := by decide +kernel
theorem dDK_take_35 : decode cDK_take 35 = .ok (.l2i, 1) := by decide +kernel
theorem dDK_take_36 : decode cDK_take 36 = .ok (.invokevirtual 51, 3) := by decide +kernel
theorem dDK_take_39 : decode cDK_take 39 = .ok (.pop, 1) := by decide +kernel
theorem dDK_take_40 : decode cDK_take 40 = .ok (.aload_n 0, 1) := by decide +kernel
theorem dDK_take_41 : decode cDK_take 41 = .ok (.getfield 35, 3) := by decide +kernel
theorem dDK_take_44 : decode cDK_take 44 = .ok (.iload_n 1, 1) := by decide +kernel
theorem dDK_take_45 : decode cDK_take 45 = .ok (.lload_n 2, 1) := by decide +kernel
theorem dDK_take_46 : decode cDK_take 46 = .ok (.invokevirtual 55, 3) := by decide +kernel
theorem dDK_take_49 : decode cDK_take 49 = .ok (.ireturn, 1) := by decide +kernel
theorem dCV_isFull_0 : decode cCV_isFull 0 = .ok (.aload_n 0, 1) := by decide +kernel
theorem dCV_isFull_1 : decode cCV_isFull 1 = .ok (.getfield 9, 3) := by decide +kernel
theorem dCV_isFull_4 : decode cCV_isFull 4 = .ok (.iload_n 1, 1) := by decide +kernel
theorem dCV_isFull_5 : decode cCV_isFull 5 = .ok (.iaload, 1) := by decide +kernel
theorem dCV_isFull_6 : decode cCV_isFull 6 = .ok (.bipush 100, 2) := by decide +kernel
theorem dCV_isFull_8 : decode cCV_isFull 8 = .ok (.if_icmp .lt 7, 3) := by decide +kernel
theorem dCV_isFull_11 : decode cCV_isFull 11 = .ok (.iconst 1, 1) := by decide +kernel
theorem dCV_isFull_12 : decode cCV_isFull 12 = .ok (.goto 4, 3) := by decide +kernel
theorem dCV_isFull_15 : decode cCV_isFull 15 = .ok (.iconst 0, 1) := by decide +kernel
theorem dCV_isFull_16 : decode cCV_isFull 16 = .ok (.ireturn, 1) := by decide +kernel
theorem dNU_isFull_0 : decode cNU_isFull 0 = .ok (.aload_n 0, 1) := by decide +kernel
theorem dNU_isFull_1 : decode cNU_isFull 1 = .ok (.getfield 9, 3) := by decide +kernel
theorem dNU_isFull_4 : decode cNU_isFull 4 = .ok (.iload_n 1, 1) := by decide +kernel
theorem dNU_isFull_5 : decode cNU_isFull 5 = .ok (.iaload, 1) := by decide +kernel
theorem dNU_isFull_6 : decode cNU_isFull 6 = .ok (.bipush 40, 2) := by decide +kernel
theorem dNU_isFull_8 : decode cNU_isFull 8 = .ok (.if_icmp .lt 7, 3) := by decide +kernel
theorem dNU_isFull_11 : decode cNU_isFull 11 = .ok (.iconst 1, 1) := by decide +kernel
theorem dNU_isFull_12 : decode cNU_isFull 12 = .ok (.goto 4, 3) := by decide +kernel
theorem dNU_isFull_15 : decode cNU_isFull 15 = .ok (.iconst 0, 1) := by decide +kernel
theorem dNU_isFull_16 : decode cNU_isFull 16 = .ok (.ireturn, 1) := by decide +kernel
theorem dNU_makeNext_0 : decode cNU_makeNext 0 = .ok (.aload_n 0, 1) := by decide +kernel
theorem dNU_makeNext_1 : decode cNU_makeNext 1 = .ok (.getfield 9, 3) := by decide +kernel
theorem dNU_makeNext_4 : decode cNU_makeNext 4 = .ok (.iload_n 1, 1) := by decide +kernel
theorem dNU_makeNext_5 : decode cNU_makeNext 5 = .ok (.dup2, 1) := by decide +kernel
theorem dNU_makeNext_6 : decode cNU_makeNext 6 = .ok (.iaload, 1) := by decide +kernel
theorem dNU_makeNext_7 : decode cNU_makeNext 7 = .ok (.iconst 1, 1) := by decide +kernel
theorem dNU_makeNext_8 : decode cNU_makeNext 8 = .ok (.iadd, 1) := by decide +kernel
theorem dNU_makeNext_9 : decode cNU_makeNext 9 = .ok (.iastore, 1) := by decide +kernel
theorem dNU_makeNext_10 : decode cNU_makeNext 10 = .ok (.aload_n 0, 1) := by decide +kernel
theorem dNU_makeNext_11 : decode cNU_makeNext 11 = .ok (.getfield 15, 3) := by decide +kernel
theorem dNU_makeNext_14 : decode cNU_makeNext 14 = .ok (.iload_n 1, 1) := by decide +kernel
theorem dNU_makeNext_15 : decode cNU_makeNext 15 = .ok (.dup2, 1) := by decide +kernel
theorem dNU_makeNext_16 : decode cNU_makeNext 16 = .ok (.laload, 1) := by decide +kernel
theorem dNU_makeNext_17 : decode cNU_makeNext 17 = .ok (.aload_n 0, 1) := by decide +kernel
theorem dNU_makeNext_18 : decode cNU_makeNext 18 = .ok (.getfield 9, 3) := by decide +kernel
theorem dNU_makeNext_21 : decode cNU_makeNext 21 = .ok (.iload_n 1, 1) := by decide +kernel
theorem dNU_makeNext_22 : decode cNU_makeNext 22 = .ok (.iaload, 1) := by decide +kernel
theorem dNU_makeNext_23 : decode cNU_makeNext 23 = .ok (.invokestatic 19, 3) := by decide +kernel
theorem dNU_makeNext_26 : decode cNU_makeNext 26 = .ok (.lor, 1) := by decide +kernel
theorem dNU_makeNext_27 : decode cNU_makeNext 27 = .ok (.lastore, 1) := by decide +kernel
theorem dNU_makeNext_28 : decode cNU_makeNext 28 = .ok (.aload_n 0, 1) := by decide +kernel
theorem dNU_makeNext_29 : decode cNU_makeNext 29 = .ok (.getfield 9, 3) := by decide +kernel
theorem dNU_makeNext_32 : decode cNU_makeNext 32 = .ok (.iload_n 1, 1) := by decide +kernel
theorem dNU_makeNext_33 : decode cNU_makeNext 33 = .ok (.iaload, 1) := by decide +kernel
theorem dNU_makeNext_34 : decode cNU_makeNext 34 = .ok (.ireturn, 1) := by decide +kernel
theorem dNU_bitOf_0 : decode cNU_bitOf 0 = .ok (.lconst 1, 1) := by decide +kernel
theorem dNU_bitOf_1 : decode cNU_bitOf 1 = .ok (.iload_n 0, 1) := by decide +kernel
theorem dNU_bitOf_2 : decode cNU_bitOf 2 = .ok (.iconst 1, 1) := by decide +kernel
theorem dNU_bitOf_3 : decode cNU_bitOf 3 = .ok (.isub, 1) := by decide +kernel
theorem dNU_bitOf_4 : decode cNU_bitOf 4 = .ok (.lshl, 1) := by decide +kernel
theorem dNU_bitOf_5 : decode cNU_bitOf 5 = .ok (.lreturn, 1) := by decide +kernel
theorem dCV_add_0 : decode cCV_add 0 = .ok (.aload_n 0, 1) := by decide +kernel
theorem dCV_add_1 : decode cCV_add 1 = .ok (.getfield 17, 3) := by decide +kernel
theorem dCV_add_4 : decode cCV_add 4 = .ok (.iload_n 1, 1) := by decide +kernel
theorem dCV_add_5 : decode cCV_add 5 = .ok (.aaload, 1) := by decide +kernel
theorem dCV_add_6 : decode cCV_add 6 = .ok (.aload_n 0, 1) := by decide +kernel
theorem dCV_add_7 : decode cCV_add 7 = .ok (.getfield 9, 3) := by decide +kernel
theorem dCV_add_10 : decode cCV_add 10 = .ok (.iload_n 1, 1) := by decide +kernel
theorem dCV_add_11 : decode cCV_add 11 = .ok (.iaload, 1) := by decide +kernel
theorem dCV_add_12 : decode cCV_add 12 = .ok (.lload_n 2, 1) := by decide +kernel
theorem dCV_add_13 : decode cCV_add 13 = .ok (.lastore, 1) := by decide +kernel
theorem dCV_add_14 : decode cCV_add 14 = .ok (.aload_n 0, 1) := by decide +kernel
theorem dCV_add_15 : decode cCV_add 15 = .ok (.getfield 9, 3) := by decide +kernel
theorem dCV_add_18 : decode cCV_add 18 = .ok (.iload_n 1, 1) := by decide +kernel
theorem dCV_add_19 : decode cCV_add 19 = .ok (.dup2, 1) := by decide +kernel
theorem dCV_add_20 : decode cCV_add 20 = .ok (.iaload, 1) := by decide +kernel
theorem dCV_add_21 : decode cCV_add 21 = .ok (.iconst 1, 1) := by decide +kernel
theorem dCV_add_22 : decode cCV_add 22 = .ok (.iadd, 1) := by decide +kernel
theorem dCV_add_23 : decode cCV_add 23 = .ok (.iastore, 1) := by decide +kernel
theorem dCV_add_24 : decode cCV_add 24 = .ok (.aload_n 0, 1) := by decide +kernel
theorem dCV_add_25 : decode cCV_add 25 = .ok (.getfield 9, 3) := by decide +kernel
theorem dCV_add_28 : decode cCV_add 28 = .ok (.iload_n 1, 1) := by decide +kernel
theorem dCV_add_29 : decode cCV_add 29 = .ok (.iaload, 1) := by decide +kernel
theorem dCV_add_30 : decode cCV_add 30 = .ok (.ireturn, 1) := by decide +kernel
theorem dPD_answer_0 : decode cPD_answer 0 = .ok (.iload_n 1, 1) := by decide +kernel
theorem dPD_answer_1 : decode cPD_answer 1 = .ok (.invokestatic 29, 3) := by decide +kernel
theorem dPD_answer_4 : decode cPD_answer 4 = .ok (.ifCond .ne 5, 3) := by decide +kernel
theorem dPD_answer_7 : decode cPD_answer 7 = .ok (.iconst 0, 1) := by decide +kernel
theorem dPD_answer_8 : decode cPD_answer 8 = .ok (.ireturn, 1) := by decide +kernel
theorem dPD_answer_9 : decode cPD_answer 9 = .ok (.aload_n 0, 1) := by decide +kernel
theorem dPD_answer_10 : decode cPD_answer 10 = .ok (.getfield 10, 3) := by decide +kernel
theorem dPD_answer_13 : decode cPD_answer 13 = .ok (.getfield 33, 3) := by decide +kernel
theorem dPD_answer_16 : decode cPD_answer 16 = .ok (.iload_n 1, 1) := by decide +kernel
theorem dPD_answer_17 : decode cPD_answer 17 = .ok (.lload_n 2, 1) := by decide +kernel
theorem dPD_answer_18 : decode cPD_answer 18 = .ok (.invokevirtual 37, 3) := by decide +kernel
theorem dPD_answer_21 : decode cPD_answer 21 = .ok (.aload_n 0, 1) := by decide +kernel
theorem dPD_answer_22 : decode cPD_answer 22 = .ok (.getfield 16, 3) := by decide +kernel
theorem dPD_answer_25 : decode cPD_answer 25 = .ok (.getfield 33, 3) := by decide +kernel
theorem dPD_answer_28 : decode cPD_answer 28 = .ok (.iload_n 1, 1) := by decide +kernel
theorem dPD_answer_29 : decode cPD_answer 29 = .ok (.lload_n 2, 1) := by decide +kernel
theorem dPD_answer_30 : decode cPD_answer 30 = .ok (.invokevirtual 37, 3) := by decide +kernel
theorem dPD_answer_33 : decode cPD_answer 33 = .ok (.iconst 1, 1) := by decide +kernel
theorem dPD_answer_34 : decode cPD_answer 34 = .ok (.ireturn, 1) := by decide +kernel
theorem dPD_isPart_0 : decode cPD_isPart 0 = .ok (.iload_n 0, 1) := by decide +kernel
theorem dPD_isPart_1 : decode cPD_isPart 1 = .ok (.ifCond .lt 13, 3) := by decide +kernel
theorem dPD_isPart_4 : decode cPD_isPart 4 = .ok (.iload_n 0, 1) := by decide +kernel
theorem dPD_isPart_5 : decode cPD_isPart 5 = .ok (.bipush 12, 2) := by decide +kernel
theorem dPD_isPart_7 : decode cPD_isPart 7 = .ok (.if_icmp .ge 7, 3) := by decide +kernel
theorem dPD_isPart_10 : decode cPD_isPart 10 = .ok (.iconst 1, 1) := by decide +kernel
theorem dPD_isPart_11 : decode cPD_isPart 11 = .ok (.goto 4, 3) := by decide +kernel
theorem dPD_isPart_14 : decode cPD_isPart 14 = .ok (.iconst 0, 1) := by decide +kernel
theorem dPD_isPart_15 : decode cPD_isPart 15 = .ok (.ireturn, 1) := by decide +kernel
theorem dPT_setAnswer_0 : decode cPT_setAnswer 0 = .ok (.aload_n 0, 1) := by decide +kernel
theorem dPT_setAnswer_1 : decode cPT_setAnswer 1 = .ok (.getfield 9, 3) := by decide +kernel
theorem dPT_setAnswer_4 : decode cPT_setAnswer 4 = .ok (.iload_n 1, 1) := by decide +kernel
theorem dPT_setAnswer_5 : decode cPT_setAnswer 5 = .ok (.lload_n 2, 1) := by decide +kernel
theorem dPT_setAnswer_6 : decode cPT_setAnswer 6 = .ok (.lastore, 1) := by decide +kernel
theorem dPT_setAnswer_7 : decode cPT_setAnswer 7 = .ok (.return_, 1) := by decide +kernel
theorem dPD_fails_0 : decode cPD_fails 0 = .ok (.iload_n 1, 1) := by decide +kernel
theorem dPD_fails_1 : decode cPD_fails 1 = .ok (.invokestatic 29, 3) := by decide +kernel
theorem dPD_fails_4 : decode cPD_fails 4 = .ok (.ifCond .eq 12, 3) := by decide +kernel
theorem dPD_fails_7 : decode cPD_fails 7 = .ok (.iload_n 2, 1) := by decide +kernel
theorem dPD_fails_8 : decode cPD_fails 8 = .ok (.ifCond .lt 8, 3) := by decide +kernel
theorem dPD_fails_11 : decode cPD_fails 11 = .ok (.iload_n 2, 1) := by decide +kernel
theorem dPD_fails_12 : decode cPD_fails 12 = .ok (.iconst 5, 1) := by decide +kernel
theorem dPD_fails_13 : decode cPD_fails 13 = .ok (.if_icmp .le 5, 3) := by decide +kernel
theorem dPD_fails_16 : decode cPD_fails 16 = .ok (.iconst 0, 1) := by decide +kernel
theorem dPD_fails_17 : decode cPD_fails 17 = .ok (.ireturn, 1) := by decide +kernel
theorem dPD_fails_18 : decode cPD_fails 18 = .ok (.aload_n 0, 1) := by decide +kernel
theorem dPD_fails_19 : decode cPD_fails 19 = .ok (.getfield 10, 3) := by decide +kernel
theorem dPD_fails_22 : decode cPD_fails 22 = .ok (.getfield 33, 3) := by decide +kernel
theorem dPD_fails_25 : decode cPD_fails 25 = .ok (.iload_n 1, 1) := by decide +kernel
theorem dPD_fails_26 : decode cPD_fails 26 = .ok (.iload_n 2, 1) := by decide +kernel
theorem dPD_fails_27 : decode cPD_fails 27 = .ok (.invokevirtual 43, 3) := by decide +kernel
theorem dPD_fails_30 : decode cPD_fails 30 = .ok (.aload_n 0, 1) := by decide +kernel
theorem dPD_fails_31 : decode cPD_fails 31 = .ok (.getfield 16, 3) := by decide +kernel
theorem dPD_fails_34 : decode cPD_fails 34 = .ok (.getfield 33, 3) := by decide +kernel
theorem dPD_fails_37 : decode cPD_fails 37 = .ok (.iload_n 1, 1) := by decide +kernel
theorem dPD_fails_38 : decode cPD_fails 38 = .ok (.iload_n 2, 1) := by decide +kernel
theorem dPD_fails_39 : decode cPD_fails 39 = .ok (.invokevirtual 43, 3) := by decide +kernel
theorem dPD_fails_42 : decode cPD_fails 42 = .ok (.iconst 1, 1) := by decide +kernel
theorem dPD_fails_43 : decode cPD_fails 43 = .ok (.ireturn, 1) := by decide +kernel
theorem dPT_setFailure_0 : decode cPT_setFailure 0 = .ok (.aload_n 0, 1) := by decide +kernel
theorem dPT_setFailure_1 : decode cPT_setFailure 1 = .ok (.getfield 18, 3) := by decide +kernel
theorem dPT_setFailure_4 : decode cPT_setFailure 4 = .ok (.iload_n 1, 1) := by decide +kernel
theorem dPT_setFailure_5 : decode cPT_setFailure 5 = .ok (.iload_n 2, 1) := by decide +kernel
theorem dPT_setFailure_6 : decode cPT_setFailure 6 = .ok (.iastore, 1) := by decide +kernel
theorem dPT_setFailure_7 : decode cPT_setFailure 7 = .ok (.return_, 1) := by decide +kernel
theorem dPD_drop_0 : decode cPD_drop 0 = .ok (.iload_n 1, 1) := by decide +kernel
theorem dPD_drop_1 : decode cPD_drop 1 = .ok (.invokestatic 47, 3) := by decide +kernel
theorem dPD_drop_4 : decode cPD_drop 4 = .ok (.ifCond .eq 18, 3) := by decide +kernel
theorem dPD_drop_7 : decode cPD_drop 7 = .ok (.aload_n 0, 1) := by decide +kernel
theorem dPD_drop_8 : decode cPD_drop 8 = .ok (.getfield 10, 3) := by decide +kernel
theorem dPD_drop_11 : decode cPD_drop 11 = .ok (.getfield 57, 3) := by decide +kernel
theorem dPD_drop_14 : decode cPD_drop 14 = .ok (.iload_n 1, 1) := by decide +kernel
theorem dPD_drop_15 : decode cPD_drop 15 = .ok (.iload_n 2, 1) := by decide +kernel
theorem dPD_drop_16 : decode cPD_drop 16 = .ok (.invokevirtual 75, 3) := by decide +kernel
theorem dPD_drop_19 : decode cPD_drop 19 = .ok (.ifCond .ne 5, 3) := by decide +kernel
theorem dPD_drop_22 : decode cPD_drop 22 = .ok (.iconst 0, 1) := by decide +kernel
theorem dPD_drop_23 : decode cPD_drop 23 = .ok (.ireturn, 1) := by decide +kernel
theorem dPD_drop_24 : decode cPD_drop 24 = .ok (.aload_n 0, 1) := by decide +kernel
theorem dPD_drop_25 : decode cPD_drop 25 = .ok (.getfield 10, 3) := by decide +kernel
theorem dPD_drop_28 : decode cPD_drop 28 = .ok (.getfield 57, 3) := by decide +kernel
theorem dPD_drop_31 : decode cPD_drop 31 = .ok (.iload_n 1, 1) := by decide +kernel
theorem dPD_drop_32 : decode cPD_drop 32 = .ok (.iload_n 2, 1) := by decide +kernel
theorem dPD_drop_33 : decode cPD_drop 33 = .ok (.invokevirtual 79, 3) := by decide +kernel
theorem dPD_drop_36 : decode cPD_drop 36 = .ok (.aload_n 0, 1) := by decide +kernel
theorem dPD_drop_37 : decode cPD_drop 37 = .ok (.getfield 16, 3) := by decide +kernel
theorem dPD_drop_40 : decode cPD_drop 40 = .ok (.getfield 57, 3) := by decide +kernel
theorem dPD_drop_43 : decode cPD_drop 43 = .ok (.iload_n 1, 1) := by decide +kernel
theorem dPD_drop_44 : decode cPD_drop 44 = .ok (.iload_n 2, 1) := by decide +kernel
theorem dPD_drop_45 : decode cPD_drop 45 = .ok (.invokevirtual 79, 3) := by decide +kernel
theorem dPD_drop_48 : decode cPD_drop 48 = .ok (.iconst 1, 1) := by decide +kernel
theorem dPD_drop_49 : decode cPD_drop 49 = .ok (.ireturn, 1) := by decide +kernel
theorem dPD_isKind_0 : decode cPD_isKind 0 = .ok (.iload_n 0, 1) := by decide +kernel
theorem dPD_isKind_1 : decode cPD_isKind 1 = .ok (.ifCond .lt 13, 3) := by decide +kernel
theorem dPD_isKind_4 : decode cPD_isKind 4 = .ok (.iload_n 0, 1) := by decide +kernel
theorem dPD_isKind_5 : decode cPD_isKind 5 = .ok (.bipush 8, 2) := by decide +kernel
theorem dPD_isKind_7 : decode cPD_isKind 7 = .ok (.if_icmp .ge 7, 3) := by decide +kernel
theorem dPD_isKind_10 : decode cPD_isKind 10 = .ok (.iconst 1, 1) := by decide +kernel
theorem dPD_isKind_11 : decode cPD_isKind 11 = .ok (.goto 4, 3) := by decide +kernel
theorem dPD_isKind_14 : decode cPD_isKind 14 = .ok (.iconst 0, 1) := by decide +kernel
theorem dPD_isKind_15 : decode cPD_isKind 15 = .ok (.ireturn, 1) := by decide +kernel
theorem dNU_isKnown_0 : decode cNU_isKnown 0 = .ok (.aload_n 0, 1) := by decide +kernel
theorem dNU_isKnown_1 : decode cNU_isKnown 1 = .ok (.iload_n 1, 1) := by decide +kernel
theorem dNU_isKnown_2 : decode cNU_isKnown 2 = .ok (.iload_n 2, 1) := by decide +kernel
theorem dNU_isKnown_3 : decode cNU_isKnown 3 = .ok (.invokevirtual 25, 3) := by decide +kernel
theorem dNU_isKnown_6 : decode cNU_isKnown 6 = .ok (.ifCond .eq 23, 3) := by decide +kernel
theorem dNU_isKnown_9 : decode cNU_isKnown 9 = .ok (.aload_n 0, 1) := by decide +kernel
theorem dNU_isKnown_10 : decode cNU_isKnown 10 = .ok (.getfield 15, 3) := by decide +kernel
theorem dNU_isKnown_13 : decode cNU_isKnown 13 = .ok (.iload_n 1, 1) := by decide +kernel
theorem dNU_isKnown_14 : decode cNU_isKnown 14 = .ok (.laload, 1) := by decide +kernel
theorem dNU_isKnown_15 : decode cNU_isKnown 15 = .ok (.iload_n 2, 1) := by decide +kernel
theorem dNU_isKnown_16 : decode cNU_isKnown 16 = .ok (.invokestatic 19, 3) := by decide +kernel
theorem dNU_isKnown_19 : decode cNU_isKnown 19 = .ok (.land, 1) := by decide +kernel
theorem dNU_isKnown_20 : decode cNU_isKnown 20 = .ok (.lconst 0, 1) := by decide +kernel
theorem dNU_isKnown_21 : decode cNU_isKnown 21 = .ok (.lcmp, 1) := by decide +kernel
theorem dNU_isKnown_22 : decode cNU_isKnown 22 = .ok (.ifCond .eq 7, 3) := by decide +kernel
theorem dNU_isKnown_25 : decode cNU_isKnown 25 = .ok (.iconst 1, 1) := by decide +kernel
theorem dNU_isKnown_26 : decode cNU_isKnown 26 = .ok (.goto 4, 3) := by decide +kernel
theorem dNU_isKnown_29 : decode cNU_isKnown 29 = .ok (.iconst 0, 1) := by decide +kernel
theorem dNU_isKnown_30 : decode cNU_isKnown 30 = .ok (.ireturn, 1) := by decide +kernel
theorem dNU_wasMade_0 : decode cNU_wasMade 0 = .ok (.iload_n 2, 1) := by decide +kernel
theorem dNU_wasMade_1 : decode cNU_wasMade 1 = .ok (.iconst 1, 1) := by decide +kernel
theorem dNU_wasMade_2 : decode cNU_wasMade 2 = .ok (.if_icmp .lt 17, 3) := by decide +kernel
theorem dNU_wasMade_5 : decode cNU_wasMade 5 = .ok (.iload_n 2, 1) := by decide +kernel
theorem dNU_wasMade_6 : decode cNU_wasMade 6 = .ok (.aload_n 0, 1) := by decide +kernel
theorem dNU_wasMade_7 : decode cNU_wasMade 7 = .ok (.getfield 9, 3) := by decide +kernel
theorem dNU_wasMade_10 : decode cNU_wasMade 10 = .ok (.iload_n 1, 1) := by decide +kernel
theorem dNU_wasMade_11 : decode cNU_wasMade 11 = .ok (.iaload, 1) := by decide +kernel
theorem dNU_wasMade_12 : decode cNU_wasMade 12 = .ok (.if_icmp .gt 7, 3) := by decide +kernel
theorem dNU_wasMade_15 : decode cNU_wasMade 15 = .ok (.iconst 1, 1) := by decide +kernel
theorem dNU_wasMade_16 : decode cNU_wasMade 16 = .ok (.goto 4, 3) := by decide +kernel
theorem dNU_wasMade_19 : decode cNU_wasMade 19 = .ok (.iconst 0, 1) := by decide +kernel
theorem dNU_wasMade_20 : decode cNU_wasMade 20 = .ok (.ireturn, 1) := by decide +kernel
theorem dNU_forget_0 : decode cNU_forget 0 = .ok (.aload_n 0, 1) := by decide +kernel
theorem dNU_forget_1 : decode cNU_forget 1 = .ok (.getfield 15, 3) := by decide +kernel
theorem dNU_forget_4 : decode cNU_forget 4 = .ok (.iload_n 1, 1) := by decide +kernel
theorem dNU_forget_5 : decode cNU_forget 5 = .ok (.dup2, 1) := by decide +kernel
theorem dNU_forget_6 : decode cNU_forget 6 = .ok (.laload, 1) := by decide +kernel
theorem dNU_forget_7 : decode cNU_forget 7 = .ok (.iload_n 2, 1) := by decide +kernel
theorem dNU_forget_8 : decode cNU_forget 8 = .ok (.invokestatic 19, 3) := by decide +kernel
theorem dNU_forget_11 : decode cNU_forget 11 = .ok (.ldc2_w 23, 3) := by decide +kernel
theorem dNU_forget_14 : decode cNU_forget 14 = .ok (.lxor, 1) := by decide +kernel
theorem dNU_forget_15 : decode cNU_forget 15 = .ok (.land, 1) := by decide +kernel
theorem dNU_forget_16 : decode cNU_forget 16 = .ok (.lastore, 1) := by decide +kernel
theorem dNU_forget_17 : decode cNU_forget 17 = .ok (.return_, 1) := by decide +kernel
theorem dPD_call_0 : decode cPD_call 0 = .ok (.aload_n 0, 1) := by decide +kernel
theorem dPD_call_1 : decode cPD_call 1 = .ok (.getfield 16, 3) := by decide +kernel
theorem dPD_call_4 : decode cPD_call 4 = .ok (.iload_n 1, 1) := by decide +kernel
theorem dPD_call_5 : decode cPD_call 5 = .ok (.iload_n 2, 1) := by decide +kernel
theorem dPD_call_6 : decode cPD_call 6 = .ok (.lload_n 3, 1) := by decide +kernel
theorem dPD_call_7 : decode cPD_call 7 = .ok (.invokevirtual 82, 3) := by decide +kernel
theorem dPD_call_10 : decode cPD_call 10 = .ok (.pop2, 1) := by decide +kernel
theorem dPD_call_11 : decode cPD_call 11 = .ok (.aload_n 0, 1) := by decide +kernel
theorem dPD_call_12 : decode cPD_call 12 = .ok (.getfield 10, 3) := by decide +kernel
theorem dPD_call_15 : decode cPD_call 15 = .ok (.iload_n 1, 1) := by decide +kernel
theorem dPD_call_16 : decode cPD_call 16 = .ok (.iload_n 2, 1) := by decide +kernel
theorem dPD_call_17 : decode cPD_call 17 = .ok (.lload_n 3, 1) := by decide +kernel
theorem dPD_call_18 : decode cPD_call 18 = .ok (.invokevirtual 82, 3) := by decide +kernel
theorem dPD_call_21 : decode cPD_call 21 = .ok (.lreturn, 1) := by decide +kernel
theorem dDK_ask_0 : decode cDK_ask 0 = .ok (.aload_n 0, 1) := by decide +kernel
theorem dDK_ask_1 : decode cDK_ask 1 = .ok (.iload_n 1, 1) := by decide +kernel
theorem dDK_ask_2 : decode cDK_ask 2 = .ok (.iload_n 2, 1) := by decide +kernel
theorem dDK_ask_3 : decode cDK_ask 3 = .ok (.lload_n 3, 1) := by decide +kernel
theorem dDK_ask_4 : decode cDK_ask 4 = .ok (.invokevirtual 59, 3) := by decide +kernel
theorem dDK_ask_7 : decode cDK_ask 7 = .ok (.lstore 5, 2) := by decide +kernel
theorem dDK_ask_9 : decode cDK_ask 9 = .ok (.aload_n 0, 1) := by decide +kernel
theorem dDK_ask_10 : decode cDK_ask 10 = .ok (.getfield 42, 3) := by decide +kernel
theorem dDK_ask_13 : decode cDK_ask 13 = .ok (.lload 5, 2) := by decide +kernel
theorem dDK_ask_15 : decode cDK_ask 15 = .ok (.invokevirtual 63, 3) := by decide +kernel
theorem dDK_ask_18 : decode cDK_ask 18 = .ok (.lload 5, 2) := by decide +kernel
theorem dDK_ask_20 : decode cDK_ask 20 = .ok (.lreturn, 1) := by decide +kernel
theorem dDK_answerOrRefuse_0 : decode cDK_answerOrRefuse 0 = .ok (.iload_n 1, 1) := by decide +kernel
theorem dDK_answerOrRefuse_1 : decode cDK_answerOrRefuse 1 = .ok (.invokestatic 67, 3) := by decide +kernel
theorem dDK_answerOrRefuse_4 : decode cDK_answerOrRefuse 4 = .ok (.ifCond .ne 9, 3) := by decide +kernel
theorem dDK_answerOrRefuse_7 : decode cDK_answerOrRefuse 7 = .ok (.aload_n 0, 1) := by decide +kernel
theorem dDK_answerOrRefuse_8 : decode cDK_answerOrRefuse 8 = .ok (.iconst 1, 1) := by decide +kernel
theorem dDK_answerOrRefuse_9 : decode cDK_answerOrRefuse 9 = .ok (.invokevirtual 70, 3) := by decide +kernel
theorem dDK_answerOrRefuse_12 : decode cDK_answerOrRefuse 12 = .ok (.lreturn, 1) := by decide +kernel
theorem dDK_answerOrRefuse_13 : decode cDK_answerOrRefuse 13 = .ok (.iload_n 1, 1) := by decide +kernel
theorem dDK_answerOrRefuse_14 : decode cDK_answerOrRefuse 14 = .ok (.bipush 8, 2) := by decide +kernel
theorem dDK_answerOrRefuse_16 : decode cDK_answerOrRefuse 16 = .ok (.irem, 1) := by decide +kernel
theorem dDK_answerOrRefuse_17 : decode cDK_answerOrRefuse 17 = .ok (.istore 5, 2) := by decide +kernel
theorem dDK_answerOrRefuse_19 : decode cDK_answerOrRefuse 19 = .ok (.aload_n 0, 1) := by decide +kernel
theorem dDK_answerOrRefuse_20 : decode cDK_answerOrRefuse 20 = .ok (.getfield 12, 3) := by decide +kernel
theorem dDK_answerOrRefuse_23 : decode cDK_answerOrRefuse 23 = .ok (.iload 5, 2) := by decide +kernel
theorem dDK_answerOrRefuse_25 : decode cDK_answerOrRefuse 25 = .ok (.iload_n 2, 1) := by decide +kernel
theorem dDK_answerOrRefuse_26 : decode cDK_answerOrRefuse 26 = .ok (.invokevirtual 74, 3) := by decide +kernel
theorem dDK_answerOrRefuse_29 : decode cDK_answerOrRefuse 29 = .ok (.ifCond .ne 9, 3) := by decide +kernel
theorem dDK_answerOrRefuse_32 : decode cDK_answerOrRefuse 32 = .ok (.aload_n 0, 1) := by decide +kernel
theorem dDK_answerOrRefuse_33 : decode cDK_answerOrRefuse 33 = .ok (.iconst 2, 1) := by decide +kernel
theorem dDK_answerOrRefuse_34 : decode cDK_answerOrRefuse 34 = .ok (.invokevirtual 70, 3) := by decide +kernel
theorem dDK_answerOrRefuse_37 : decode cDK_answerOrRefuse 37 = .ok (.lreturn, 1) := by decide +kernel
theorem dDK_answerOrRefuse_38 : decode cDK_answerOrRefuse 38 = .ok (.aload_n 0, 1) := by decide +kernel
theorem dDK_answerOrRefuse_39 : decode cDK_answerOrRefuse 39 = .ok (.getfield 12, 3) := by decide +kernel
theorem dDK_answerOrRefuse_42 : decode cDK_answerOrRefuse 42 = .ok (.iload 5, 2) := by decide +kernel
theorem dDK_answerOrRefuse_44 : decode cDK_answerOrRefuse 44 = .ok (.iload_n 2, 1) := by decide +kernel
theorem dDK_answerOrRefuse_45 : decode cDK_answerOrRefuse 45 = .ok (.invokevirtual 78, 3) := by decide +kernel
theorem dDK_answerOrRefuse_48 : decode cDK_answerOrRefuse 48 = .ok (.ifCond .ne 9, 3) := by decide +kernel
theorem dDK_answerOrRefuse_51 : decode cDK_answerOrRefuse 51 = .ok (.aload_n 0, 1) := by decide +kernel
theorem dDK_answerOrRefuse_52 : decode cDK_answerOrRefuse 52 = .ok (.iconst 3, 1) := by decide +kernel
theorem dDK_answerOrRefuse_53 : decode cDK_answerOrRefuse 53 = .ok (.invokevirtual 70, 3) := by decide +kernel
theorem dDK_answerOrRefuse_56 : decode cDK_answerOrRefuse 56 = .ok (.lreturn, 1) := by decide +kernel
theorem dDK_answerOrRefuse_57 : decode cDK_answerOrRefuse 57 = .ok (.aload_n 0, 1) := by decide +kernel
theorem dDK_answerOrRefuse_58 : decode cDK_answerOrRefuse 58 = .ok (.iload_n 1, 1) := by decide +kernel
theorem dDK_answerOrRefuse_59 : decode cDK_answerOrRefuse 59 = .ok (.iload_n 2, 1) := by decide +kernel
theorem dDK_answerOrRefuse_60 : decode cDK_answerOrRefuse 60 = .ok (.lload_n 3, 1) := by decide +kernel
theorem dDK_answerOrRefuse_61 : decode cDK_answerOrRefuse 61 = .ok (.invokevirtual 81, 3) := by decide +kernel
theorem dDK_answerOrRefuse_64 : decode cDK_answerOrRefuse 64 = .ok (.lreturn, 1) := by decide +kernel
theorem dDK_refuse_0 : decode cDK_refuse 0 = .ok (.aload_n 0, 1) := by decide +kernel
theorem dDK_refuse_1 : decode cDK_refuse 1 = .ok (.getfield 28, 3) := by decide +kernel
theorem dDK_refuse_4 : decode cDK_refuse 4 = .ok (.iload_n 1, 1) := by decide +kernel
theorem dDK_refuse_5 : decode cDK_refuse 5 = .ok (.invokevirtual 84, 3) := by decide +kernel
theorem dDK_refuse_8 : decode cDK_refuse 8 = .ok (.iload_n 1, 1) := by decide +kernel
theorem dDK_refuse_9 : decode cDK_refuse 9 = .ok (.ineg, 1) := by decide +kernel
theorem dDK_refuse_10 : decode cDK_refuse 10 = .ok (.i2l, 1) := by decide +kernel
theorem dDK_refuse_11 : decode cDK_refuse 11 = .ok (.lreturn, 1) := by decide +kernel
theorem dTL_countRefused_0 : decode cTL_countRefused 0 = .ok (.aload_n 0, 1) := by decide +kernel
theorem dTL_countRefused_1 : decode cTL_countRefused 1 = .ok (.getfield 9, 3) := by decide +kernel
theorem dTL_countRefused_4 : decode cTL_countRefused 4 = .ok (.iload_n 1, 1) := by decide +kernel
theorem dTL_countRefused_5 : decode cTL_countRefused 5 = .ok (.dup2, 1) := by decide +kernel
theorem dTL_countRefused_6 : decode cTL_countRefused 6 = .ok (.laload, 1) := by decide +kernel
theorem dTL_countRefused_7 : decode cTL_countRefused 7 = .ok (.lconst 1, 1) := by decide +kernel
theorem dTL_countRefused_8 : decode cTL_countRefused 8 = .ok (.ladd, 1) := by decide +kernel
theorem dTL_countRefused_9 : decode cTL_countRefused 9 = .ok (.lastore, 1) := by decide +kernel
theorem dTL_countRefused_10 : decode cTL_countRefused 10 = .ok (.return_, 1) := by decide +kernel
theorem dDK_askPart_0 : decode cDK_askPart 0 = .ok (.aload_n 0, 1) := by decide +kernel
theorem dDK_askPart_1 : decode cDK_askPart 1 = .ok (.getfield 21, 3) := by decide +kernel
theorem dDK_askPart_4 : decode cDK_askPart 4 = .ok (.iload_n 1, 1) := by decide +kernel
theorem dDK_askPart_5 : decode cDK_askPart 5 = .ok (.invokevirtual 88, 3) := by decide +kernel
theorem dDK_askPart_8 : decode cDK_askPart 8 = .ok (.lstore 5, 2) := by decide +kernel
theorem dDK_askPart_10 : decode cDK_askPart 10 = .ok (.lconst 0, 1) := by decide +kernel
theorem dDK_askPart_11 : decode cDK_askPart 11 = .ok (.lstore 7, 2) := by decide +kernel
theorem dDK_askPart_13 : decode cDK_askPart 13 = .ok (.iconst 0, 1) := by decide +kernel
theorem dDK_askPart_14 : decode cDK_askPart 14 = .ok (.istore 9, 2) := by decide +kernel
theorem dDK_askPart_16 : decode cDK_askPart 16 = .ok (.aload_n 0, 1) := by decide +kernel
theorem dDK_askPart_17 : decode cDK_askPart 17 = .ok (.getfield 21, 3) := by decide +kernel
theorem dDK_askPart_20 : decode cDK_askPart 20 = .ok (.iload_n 1, 1) := by decide +kernel
theorem dDK_askPart_21 : decode cDK_askPart 21 = .ok (.iload_n 2, 1) := by decide +kernel
theorem dDK_askPart_22 : decode cDK_askPart 22 = .ok (.lload_n 3, 1) := by decide +kernel
theorem dDK_askPart_23 : decode cDK_askPart 23 = .ok (.invokevirtual 91, 3) := by decide +kernel
theorem dDK_askPart_26 : decode cDK_askPart 26 = .ok (.lstore 7, 2) := by decide +kernel
theorem dDK_askPart_28 : decode cDK_askPart 28 = .ok (.goto 40, 3) := by decide +kernel
theorem dDK_askPart_31 : decode cDK_askPart 31 = .ok (.astore 10, 2) := by decide +kernel
theorem dDK_askPart_33 : decode cDK_askPart 33 = .ok (.iconst 1, 1) := by decide +kernel
theorem dDK_askPart_34 : decode cDK_askPart 34 = .ok (.istore 9, 2) := by decide +kernel
theorem dDK_askPart_36 : decode cDK_askPart 36 = .ok (.goto 32, 3) := by decide +kernel
theorem dDK_askPart_39 : decode cDK_askPart 39 = .ok (.astore 10, 2) := by decide +kernel
theorem dDK_askPart_41 : decode cDK_askPart 41 = .ok (.iconst 2, 1) := by decide +kernel
theorem dDK_askPart_42 : decode cDK_askPart 42 = .ok (.istore 9, 2) := by decide +kernel
theorem dDK_askPart_44 : decode cDK_askPart 44 = .ok (.goto 24, 3) := by decide +kernel
theorem dDK_askPart_47 : decode cDK_askPart 47 = .ok (.astore 10, 2) := by decide +kernel
theorem dDK_askPart_49 : decode cDK_askPart 49 = .ok (.iconst 3, 1) := by decide +kernel
theorem dDK_askPart_50 : decode cDK_askPart 50 = .ok (.istore 9, 2) := by decide +kernel
theorem dDK_askPart_52 : decode cDK_askPart 52 = .ok (.goto 16, 3) := by decide +kernel
theorem dDK_askPart_55 : decode cDK_askPart 55 = .ok (.astore 10, 2) := by decide +kernel
theorem dDK_askPart_57 : decode cDK_askPart 57 = .ok (.iconst 4, 1) := by decide +kernel
theorem dDK_askPart_58 : decode cDK_askPart 58 = .ok (.istore 9, 2) := by decide +kernel
theorem dDK_askPart_60 : decode cDK_askPart 60 = .ok (.goto 8, 3) := by decide +kernel
theorem dDK_askPart_63 : decode cDK_askPart 63 = .ok (.astore 10, 2) := by decide +kernel
theorem dDK_askPart_65 : decode cDK_askPart 65 = .ok (.iconst 5, 1) := by decide +kernel
theorem dDK_askPart_66 : decode cDK_askPart 66 = .ok (.istore 9, 2) := by decide +kernel
theorem dDK_askPart_68 : decode cDK_askPart 68 = .ok (.iload 9, 2) := by decide +kernel
theorem dDK_askPart_70 : decode cDK_askPart 70 = .ok (.ifCond .eq 31, 3) := by decide +kernel
theorem dDK_askPart_73 : decode cDK_askPart 73 = .ok (.aload_n 0, 1) := by decide +kernel
theorem dDK_askPart_74 : decode cDK_askPart 74 = .ok (.getfield 21, 3) := by decide +kernel
theorem dDK_askPart_77 : decode cDK_askPart 77 = .ok (.iload_n 1, 1) := by decide +kernel
theorem dDK_askPart_78 : decode cDK_askPart 78 = .ok (.lload 5, 2) := by decide +kernel
theorem dDK_askPart_80 : decode cDK_askPart 80 = .ok (.invokevirtual 104, 3) := by decide +kernel
theorem dDK_askPart_83 : decode cDK_askPart 83 = .ok (.aload_n 0, 1) := by decide +kernel
theorem dDK_askPart_84 : decode cDK_askPart 84 = .ok (.getfield 28, 3) := by decide +kernel
theorem dDK_askPart_87 : decode cDK_askPart 87 = .ok (.iload 9, 2) := by decide +kernel
theorem dDK_askPart_89 : decode cDK_askPart 89 = .ok (.iload_n 1, 1) := by decide +kernel
theorem dDK_askPart_90 : decode cDK_askPart 90 = .ok (.iload_n 2, 1) := by decide +kernel
theorem dDK_askPart_91 : decode cDK_askPart 91 = .ok (.invokevirtual 108, 3) := by decide +kernel
theorem dDK_askPart_94 : decode cDK_askPart 94 = .ok (.bipush (-100), 2) := by decide +kernel
theorem dDK_askPart_96 : decode cDK_askPart 96 = .ok (.iload 9, 2) := by decide +kernel
theorem dDK_askPart_98 : decode cDK_askPart 98 = .ok (.isub, 1) := by decide +kernel
theorem dDK_askPart_99 : decode cDK_askPart 99 = .ok (.i2l, 1) := by decide +kernel
theorem dDK_askPart_100 : decode cDK_askPart 100 = .ok (.lreturn, 1) := by decide +kernel
theorem dDK_askPart_101 : decode cDK_askPart 101 = .ok (.aload_n 0, 1) := by decide +kernel
theorem dDK_askPart_102 : decode cDK_askPart 102 = .ok (.getfield 28, 3) := by decide +kernel
theorem dDK_askPart_105 : decode cDK_askPart 105 = .ok (.invokevirtual 112, 3) := by decide +kernel
theorem dDK_askPart_108 : decode cDK_askPart 108 = .ok (.lload 7, 2) := by decide +kernel
theorem dDK_askPart_110 : decode cDK_askPart 110 = .ok (.lreturn, 1) := by decide +kernel
theorem dPT_sumOf_0 : decode cPT_sumOf 0 = .ok (.aload_n 0, 1) := by decide +kernel
theorem dPT_sumOf_1 : decode cPT_sumOf 1 = .ok (.getfield 15, 3) := by decide +kernel
theorem dPT_sumOf_4 : decode cPT_sumOf 4 = .ok (.iload_n 1, 1) := by decide +kernel
theorem dPT_sumOf_5 : decode cPT_sumOf 5 = .ok (.laload, 1) := by decide +kernel
theorem dPT_sumOf_6 : decode cPT_sumOf 6 = .ok (.lreturn, 1) := by decide +kernel
theorem dPT_answerTo_0 : decode cPT_answerTo 0 = .ok (.aload_n 0, 1) := by decide +kernel
theorem dPT_answerTo_1 : decode cPT_answerTo 1 = .ok (.getfield 15, 3) := by decide +kernel
theorem dPT_answerTo_4 : decode cPT_answerTo 4 = .ok (.iload_n 1, 1) := by decide +kernel
theorem dPT_answerTo_5 : decode cPT_answerTo 5 = .ok (.dup2, 1) := by decide +kernel
theorem dPT_answerTo_6 : decode cPT_answerTo 6 = .ok (.laload, 1) := by decide +kernel
theorem dPT_answerTo_7 : decode cPT_answerTo 7 = .ok (.lload_n 3, 1) := by decide +kernel
theorem dPT_answerTo_8 : decode cPT_answerTo 8 = .ok (.ladd, 1) := by decide +kernel
theorem dPT_answerTo_9 : decode cPT_answerTo 9 = .ok (.lastore, 1) := by decide +kernel
theorem dPT_answerTo_10 : decode cPT_answerTo 10 = .ok (.aload_n 0, 1) := by decide +kernel
theorem dPT_answerTo_11 : decode cPT_answerTo 11 = .ok (.iload_n 1, 1) := by decide +kernel
theorem dPT_answerTo_12 : decode cPT_answerTo 12 = .ok (.invokevirtual 22, 3) := by decide +kernel
theorem dPT_answerTo_15 : decode cPT_answerTo 15 = .ok (.aload_n 0, 1) := by decide +kernel
theorem dPT_answerTo_16 : decode cPT_answerTo 16 = .ok (.getfield 9, 3) := by decide +kernel
theorem dPT_answerTo_19 : decode cPT_answerTo 19 = .ok (.iload_n 1, 1) := by decide +kernel
theorem dPT_answerTo_20 : decode cPT_answerTo 20 = .ok (.laload, 1) := by decide +kernel
theorem dPT_answerTo_21 : decode cPT_answerTo 21 = .ok (.ldc2_w 26, 3) := by decide +kernel
theorem dPT_answerTo_24 : decode cPT_answerTo 24 = .ok (.iload_n 2, 1) := by decide +kernel
theorem dPT_answerTo_25 : decode cPT_answerTo 25 = .ok (.i2l, 1) := by decide +kernel
theorem dPT_answerTo_26 : decode cPT_answerTo 26 = .ok (.lmul, 1) := by decide +kernel
theorem dPT_answerTo_27 : decode cPT_answerTo 27 = .ok (.ladd, 1) := by decide +kernel
theorem dPT_answerTo_28 : decode cPT_answerTo 28 = .ok (.aload_n 0, 1) := by decide +kernel
theorem dPT_answerTo_29 : decode cPT_answerTo 29 = .ok (.getfield 15, 3) := by decide +kernel
theorem dPT_answerTo_32 : decode cPT_answerTo 32 = .ok (.iload_n 1, 1) := by decide +kernel
theorem dPT_answerTo_33 : decode cPT_answerTo 33 = .ok (.laload, 1) := by decide +kernel
theorem dPT_answerTo_34 : decode cPT_answerTo 34 = .ok (.ladd, 1) := by decide +kernel
theorem dPT_answerTo_35 : decode cPT_answerTo 35 = .ok (.lreturn, 1) := by decide +kernel
theorem dPT_throwIfTold_0 : decode cPT_throwIfTold 0 = .ok (.aload_n 0, 1) := by decide +kernel
theorem dPT_throwIfTold_1 : decode cPT_throwIfTold 1 = .ok (.getfield 18, 3) := by decide +kernel
theorem dPT_throwIfTold_4 : decode cPT_throwIfTold 4 = .ok (.iload_n 1, 1) := by decide +kernel
theorem dPT_throwIfTold_5 : decode cPT_throwIfTold 5 = .ok (.iaload, 1) := by decide +kernel
theorem dPT_throwIfTold_6 : decode cPT_throwIfTold 6 = .ok (.istore_n 2, 1) := by decide +kernel
theorem dPT_throwIfTold_7 : decode cPT_throwIfTold 7 = .ok (.aload_n 0, 1) := by decide +kernel
theorem dPT_throwIfTold_8 : decode cPT_throwIfTold 8 = .ok (.getfield 18, 3) := by decide +kernel
theorem dPT_throwIfTold_11 : decode cPT_throwIfTold 11 = .ok (.iload_n 1, 1) := by decide +kernel
theorem dPT_throwIfTold_12 : decode cPT_throwIfTold 12 = .ok (.iconst 0, 1) := by decide +kernel
theorem dPT_throwIfTold_13 : decode cPT_throwIfTold 13 = .ok (.iastore, 1) := by decide +kernel
theorem dPT_throwIfTold_14 : decode cPT_throwIfTold 14 = .ok (.iload_n 2, 1) := by decide +kernel
theorem dPT_throwIfTold_15 : decode cPT_throwIfTold 15 = .ok (.tableswitch 83 1 5 #[33, 43, 53, 63, 73], 33) := by decide +kernel
theorem dPT_throwIfTold_48 : decode cPT_throwIfTold 48 = .ok (.new 28, 3) := by decide +kernel
theorem dPT_throwIfTold_51 : decode cPT_throwIfTold 51 = .ok (.dup, 1) := by decide +kernel
theorem dPT_throwIfTold_52 : decode cPT_throwIfTold 52 = .ok (.ldc 30, 2) := by decide +kernel
theorem dPT_throwIfTold_54 : decode cPT_throwIfTold 54 = .ok (.invokespecial 32, 3) := by decide +kernel
theorem dPT_throwIfTold_57 : decode cPT_throwIfTold 57 = .ok (.athrow, 1) := by decide +kernel
theorem dPT_throwIfTold_58 : decode cPT_throwIfTold 58 = .ok (.new 35, 3) := by decide +kernel
theorem dPT_throwIfTold_61 : decode cPT_throwIfTold 61 = .ok (.dup, 1) := by decide +kernel
theorem dPT_throwIfTold_62 : decode cPT_throwIfTold 62 = .ok (.ldc 37, 2) := by decide +kernel
theorem dPT_throwIfTold_64 : decode cPT_throwIfTold 64 = .ok (.invokespecial 39, 3) := by decide +kernel
theorem dPT_throwIfTold_67 : decode cPT_throwIfTold 67 = .ok (.athrow, 1) := by decide +kernel
theorem dPT_throwIfTold_68 : decode cPT_throwIfTold 68 = .ok (.new 40, 3) := by decide +kernel
theorem dPT_throwIfTold_71 : decode cPT_throwIfTold 71 = .ok (.dup, 1) := by decide +kernel
theorem dPT_throwIfTold_72 : decode cPT_throwIfTold 72 = .ok (.ldc 42, 2) := by decide +kernel
theorem dPT_throwIfTold_74 : decode cPT_throwIfTold 74 = .ok (.invokespecial 44, 3) := by decide +kernel
theorem dPT_throwIfTold_77 : decode cPT_throwIfTold 77 = .ok (.athrow, 1) := by decide +kernel
theorem dPT_throwIfTold_78 : decode cPT_throwIfTold 78 = .ok (.new 45, 3) := by decide +kernel
theorem dPT_throwIfTold_81 : decode cPT_throwIfTold 81 = .ok (.dup, 1) := by decide +kernel
theorem dPT_throwIfTold_82 : decode cPT_throwIfTold 82 = .ok (.ldc 47, 2) := by decide +kernel
theorem dPT_throwIfTold_84 : decode cPT_throwIfTold 84 = .ok (.invokespecial 49, 3) := by decide +kernel
theorem dPT_throwIfTold_87 : decode cPT_throwIfTold 87 = .ok (.athrow, 1) := by decide +kernel
theorem dPT_throwIfTold_88 : decode cPT_throwIfTold 88 = .ok (.new 50, 3) := by decide +kernel
theorem dPT_throwIfTold_91 : decode cPT_throwIfTold 91 = .ok (.dup, 1) := by decide +kernel
theorem dPT_throwIfTold_92 : decode cPT_throwIfTold 92 = .ok (.ldc 52, 2) := by decide +kernel
theorem dPT_throwIfTold_94 : decode cPT_throwIfTold 94 = .ok (.invokespecial 54, 3) := by decide +kernel
theorem dPT_throwIfTold_97 : decode cPT_throwIfTold 97 = .ok (.athrow, 1) := by decide +kernel
theorem dPT_throwIfTold_98 : decode cPT_throwIfTold 98 = .ok (.return_, 1) := by decide +kernel
theorem dPT_restoreSum_0 : decode cPT_restoreSum 0 = .ok (.aload_n 0, 1) := by decide +kernel
theorem dPT_restoreSum_1 : decode cPT_restoreSum 1 = .ok (.getfield 15, 3) := by decide +kernel
theorem dPT_restoreSum_4 : decode cPT_restoreSum 4 = .ok (.iload_n 1, 1) := by decide +kernel
theorem dPT_restoreSum_5 : decode cPT_restoreSum 5 = .ok (.lload_n 2, 1) := by decide +kernel
theorem dPT_restoreSum_6 : decode cPT_restoreSum 6 = .ok (.lastore, 1) := by decide +kernel
theorem dPT_restoreSum_7 : decode cPT_restoreSum 7 = .ok (.return_, 1) := by decide +kernel
theorem dTL_countFailure_0 : decode cTL_countFailure 0 = .ok (.aload_n 0, 1) := by decide +kernel
theorem dTL_countFailure_1 : decode cTL_countFailure 1 = .ok (.getfield 9, 3) := by decide +kernel
theorem dTL_countFailure_4 : decode cTL_countFailure 4 = .ok (.iconst 4, 1) := by decide +kernel
theorem dTL_countFailure_5 : decode cTL_countFailure 5 = .ok (.dup2, 1) := by decide +kernel
theorem dTL_countFailure_6 : decode cTL_countFailure 6 = .ok (.laload, 1) := by decide +kernel
theorem dTL_countFailure_7 : decode cTL_countFailure 7 = .ok (.lconst 1, 1) := by decide +kernel
theorem dTL_countFailure_8 : decode cTL_countFailure 8 = .ok (.ladd, 1) := by decide +kernel
theorem dTL_countFailure_9 : decode cTL_countFailure 9 = .ok (.lastore, 1) := by decide +kernel
theorem dTL_countFailure_10 : decode cTL_countFailure 10 = .ok (.aload_n 0, 1) := by decide +kernel
theorem dTL_countFailure_11 : decode cTL_countFailure 11 = .ok (.getfield 9, 3) := by decide +kernel
theorem dTL_countFailure_14 : decode cTL_countFailure 14 = .ok (.iconst 5, 1) := by decide +kernel
theorem dTL_countFailure_15 : decode cTL_countFailure 15 = .ok (.iload_n 1, 1) := by decide +kernel
theorem dTL_countFailure_16 : decode cTL_countFailure 16 = .ok (.i2l, 1) := by decide +kernel
theorem dTL_countFailure_17 : decode cTL_countFailure 17 = .ok (.lastore, 1) := by decide +kernel
theorem dTL_countFailure_18 : decode cTL_countFailure 18 = .ok (.aload_n 0, 1) := by decide +kernel
theorem dTL_countFailure_19 : decode cTL_countFailure 19 = .ok (.getfield 9, 3) := by decide +kernel
theorem dTL_countFailure_22 : decode cTL_countFailure 22 = .ok (.bipush 6, 2) := by decide +kernel
theorem dTL_countFailure_24 : decode cTL_countFailure 24 = .ok (.iload_n 2, 1) := by decide +kernel
theorem dTL_countFailure_25 : decode cTL_countFailure 25 = .ok (.i2l, 1) := by decide +kernel
theorem dTL_countFailure_26 : decode cTL_countFailure 26 = .ok (.lastore, 1) := by decide +kernel
theorem dTL_countFailure_27 : decode cTL_countFailure 27 = .ok (.aload_n 0, 1) := by decide +kernel
theorem dTL_countFailure_28 : decode cTL_countFailure 28 = .ok (.getfield 9, 3) := by decide +kernel
theorem dTL_countFailure_31 : decode cTL_countFailure 31 = .ok (.bipush 7, 2) := by decide +kernel
theorem dTL_countFailure_33 : decode cTL_countFailure 33 = .ok (.iload_n 3, 1) := by decide +kernel
theorem dTL_countFailure_34 : decode cTL_countFailure 34 = .ok (.i2l, 1) := by decide +kernel
theorem dTL_countFailure_35 : decode cTL_countFailure 35 = .ok (.lastore, 1) := by decide +kernel
theorem dTL_countFailure_36 : decode cTL_countFailure 36 = .ok (.return_, 1) := by decide +kernel
theorem dTL_countAnswered_0 : decode cTL_countAnswered 0 = .ok (.aload_n 0, 1) := by decide +kernel
theorem dTL_countAnswered_1 : decode cTL_countAnswered 1 = .ok (.getfield 9, 3) := by decide +kernel
theorem dTL_countAnswered_4 : decode cTL_countAnswered 4 = .ok (.iconst 0, 1) := by decide +kernel
theorem dTL_countAnswered_5 : decode cTL_countAnswered 5 = .ok (.dup2, 1) := by decide +kernel
theorem dTL_countAnswered_6 : decode cTL_countAnswered 6 = .ok (.laload, 1) := by decide +kernel
theorem dTL_countAnswered_7 : decode cTL_countAnswered 7 = .ok (.lconst 1, 1) := by decide +kernel
theorem dTL_countAnswered_8 : decode cTL_countAnswered 8 = .ok (.ladd, 1) := by decide +kernel
theorem dTL_countAnswered_9 : decode cTL_countAnswered 9 = .ok (.lastore, 1) := by decide +kernel
theorem dTL_countAnswered_10 : decode cTL_countAnswered 10 = .ok (.return_, 1) := by decide +kernel
theorem dJN_write_0 : decode cJN_write 0 = .ok (.aload_n 0, 1) := by decide +kernel
theorem dJN_write_1 : decode cJN_write 1 = .ok (.getfield 9, 3) := by decide +kernel
theorem dJN_write_4 : decode cJN_write 4 = .ok (.aload_n 0, 1) := by decide +kernel
theorem dJN_write_5 : decode cJN_write 5 = .ok (.getfield 17, 3) := by decide +kernel
theorem dJN_write_8 : decode cJN_write 8 = .ok (.lload_n 1, 1) := by decide +kernel
theorem dJN_write_9 : decode cJN_write 9 = .ok (.lastore, 1) := by decide +kernel
theorem dJN_write_10 : decode cJN_write 10 = .ok (.aload_n 0, 1) := by decide +kernel
theorem dJN_write_11 : decode cJN_write 11 = .ok (.aload_n 0, 1) := by decide +kernel
theorem dJN_write_12 : decode cJN_write 12 = .ok (.getfield 17, 3) := by decide +kernel
theorem dJN_write_15 : decode cJN_write 15 = .ok (.iconst 1, 1) := by decide +kernel
theorem dJN_write_16 : decode cJN_write 16 = .ok (.iadd, 1) := by decide +kernel
theorem dJN_write_17 : decode cJN_write 17 = .ok (.bipush 64, 2) := by decide +kernel
theorem dJN_write_19 : decode cJN_write 19 = .ok (.irem, 1) := by decide +kernel
theorem dJN_write_20 : decode cJN_write 20 = .ok (.putfield 17, 3) := by decide +kernel
theorem dJN_write_23 : decode cJN_write 23 = .ok (.aload_n 0, 1) := by decide +kernel
theorem dJN_write_24 : decode cJN_write 24 = .ok (.getfield 13, 3) := by decide +kernel
theorem dJN_write_27 : decode cJN_write 27 = .ok (.bipush 64, 2) := by decide +kernel
theorem dJN_write_29 : decode cJN_write 29 = .ok (.if_icmp .ge 13, 3) := by decide +kernel
theorem dJN_write_32 : decode cJN_write 32 = .ok (.aload_n 0, 1) := by decide +kernel
theorem dJN_write_33 : decode cJN_write 33 = .ok (.dup, 1) := by decide +kernel
theorem dJN_write_34 : decode cJN_write 34 = .ok (.getfield 13, 3) := by decide +kernel
theorem dJN_write_37 : decode cJN_write 37 = .ok (.iconst 1, 1) := by decide +kernel
theorem dJN_write_38 : decode cJN_write 38 = .ok (.iadd, 1) := by decide +kernel
theorem dJN_write_39 : decode cJN_write 39 = .ok (.putfield 13, 3) := by decide +kernel
theorem dJN_write_42 : decode cJN_write 42 = .ok (.return_, 1) := by decide +kernel
theorem dPD_again_0 : decode cPD_again 0 = .ok (.aload_n 0, 1) := by decide +kernel
theorem dPD_again_1 : decode cPD_again 1 = .ok (.getfield 16, 3) := by decide +kernel
theorem dPD_again_4 : decode cPD_again 4 = .ok (.iload_n 1, 1) := by decide +kernel
theorem dPD_again_5 : decode cPD_again 5 = .ok (.iload_n 2, 1) := by decide +kernel
theorem dPD_again_6 : decode cPD_again 6 = .ok (.lload_n 3, 1) := by decide +kernel
theorem dPD_again_7 : decode cPD_again 7 = .ok (.invokevirtual 82, 3) := by decide +kernel
theorem dPD_again_10 : decode cPD_again 10 = .ok (.lreturn, 1) := by decide +kernel
theorem dPD_numbers_0 : decode cPD_numbers 0 = .ok (.iload_n 1, 1) := by decide +kernel
theorem dPD_numbers_1 : decode cPD_numbers 1 = .ok (.invokestatic 47, 3) := by decide +kernel
theorem dPD_numbers_4 : decode cPD_numbers 4 = .ok (.ifCond .eq 17, 3) := by decide +kernel
theorem dPD_numbers_7 : decode cPD_numbers 7 = .ok (.aload_n 0, 1) := by decide +kernel
theorem dPD_numbers_8 : decode cPD_numbers 8 = .ok (.getfield 10, 3) := by decide +kernel
theorem dPD_numbers_11 : decode cPD_numbers 11 = .ok (.getfield 57, 3) := by decide +kernel
theorem dPD_numbers_14 : decode cPD_numbers 14 = .ok (.iload_n 1, 1) := by decide +kernel
theorem dPD_numbers_15 : decode cPD_numbers 15 = .ok (.invokevirtual 101, 3) := by decide +kernel
theorem dPD_numbers_18 : decode cPD_numbers 18 = .ok (.goto 4, 3) := by decide +kernel
theorem dPD_numbers_21 : decode cPD_numbers 21 = .ok (.iconst (-1), 1) := by decide +kernel
theorem dPD_numbers_22 : decode cPD_numbers 22 = .ok (.ireturn, 1) := by decide +kernel
theorem dNU_countKnown_0 : decode cNU_countKnown 0 = .ok (.aload_n 0, 1) := by decide +kernel
theorem dNU_countKnown_1 : decode cNU_countKnown 1 = .ok (.getfield 15, 3) := by decide +kernel
theorem dNU_countKnown_4 : decode cNU_countKnown 4 = .ok (.iload_n 1, 1) := by decide +kernel
theorem dNU_countKnown_5 : decode cNU_countKnown 5 = .ok (.laload, 1) := by decide +kernel
theorem dNU_countKnown_6 : decode cNU_countKnown 6 = .ok (.invokestatic 29, 3) := by decide +kernel
theorem dNU_countKnown_9 : decode cNU_countKnown 9 = .ok (.ireturn, 1) := by decide +kernel
theorem dLG_bitCount_0 : decode cLG_bitCount 0 = .ok (.lload_n 0, 1) := by decide +kernel
theorem dLG_bitCount_1 : decode cLG_bitCount 1 = .ok (.lload_n 0, 1) := by decide +kernel
theorem dLG_bitCount_2 : decode cLG_bitCount 2 = .ok (.iconst 1, 1) := by decide +kernel
theorem dLG_bitCount_3 : decode cLG_bitCount 3 = .ok (.lushr, 1) := by decide +kernel
theorem dLG_bitCount_4 : decode cLG_bitCount 4 = .ok (.ldc2_w 314, 3) := by decide +kernel
theorem dLG_bitCount_7 : decode cLG_bitCount 7 = .ok (.land, 1) := by decide +kernel
theorem dLG_bitCount_8 : decode cLG_bitCount 8 = .ok (.lsub, 1) := by decide +kernel
theorem dLG_bitCount_9 : decode cLG_bitCount 9 = .ok (.lstore_n 0, 1) := by decide +kernel
theorem dLG_bitCount_10 : decode cLG_bitCount 10 = .ok (.lload_n 0, 1) := by decide +kernel
theorem dLG_bitCount_11 : decode cLG_bitCount 11 = .ok (.ldc2_w 316, 3) := by decide +kernel
theorem dLG_bitCount_14 : decode cLG_bitCount 14 = .ok (.land, 1) := by decide +kernel
theorem dLG_bitCount_15 : decode cLG_bitCount 15 = .ok (.lload_n 0, 1) := by decide +kernel
theorem dLG_bitCount_16 : decode cLG_bitCount 16 = .ok (.iconst 2, 1) := by decide +kernel
theorem dLG_bitCount_17 : decode cLG_bitCount 17 = .ok (.lushr, 1) := by decide +kernel
theorem dLG_bitCount_18 : decode cLG_bitCount 18 = .ok (.ldc2_w 316, 3) := by decide +kernel
theorem dLG_bitCount_21 : decode cLG_bitCount 21 = .ok (.land, 1) := by decide +kernel
theorem dLG_bitCount_22 : decode cLG_bitCount 22 = .ok (.ladd, 1) := by decide +kernel
theorem dLG_bitCount_23 : decode cLG_bitCount 23 = .ok (.lstore_n 0, 1) := by decide +kernel
theorem dLG_bitCount_24 : decode cLG_bitCount 24 = .ok (.lload_n 0, 1) := by decide +kernel
theorem dLG_bitCount_25 : decode cLG_bitCount 25 = .ok (.lload_n 0, 1) := by decide +kernel
theorem dLG_bitCount_26 : decode cLG_bitCount 26 = .ok (.iconst 4, 1) := by decide +kernel
theorem dLG_bitCount_27 : decode cLG_bitCount 27 = .ok (.lushr, 1) := by decide +kernel
theorem dLG_bitCount_28 : decode cLG_bitCount 28 = .ok (.ladd, 1) := by decide +kernel
theorem dLG_bitCount_29 : decode cLG_bitCount 29 = .ok (.ldc2_w 318, 3) := by decide +kernel
theorem dLG_bitCount_32 : decode cLG_bitCount 32 = .ok (.land, 1) := by decide +kernel
theorem dLG_bitCount_33 : decode cLG_bitCount 33 = .ok (.lstore_n 0, 1) := by decide +kernel
theorem dLG_bitCount_34 : decode cLG_bitCount 34 = .ok (.lload_n 0, 1) := by decide +kernel
theorem dLG_bitCount_35 : decode cLG_bitCount 35 = .ok (.lload_n 0, 1) := by decide +kernel
theorem dLG_bitCount_36 : decode cLG_bitCount 36 = .ok (.bipush 8, 2) := by decide +kernel
theorem dLG_bitCount_38 : decode cLG_bitCount 38 = .ok (.lushr, 1) := by decide +kernel
theorem dLG_bitCount_39 : decode cLG_bitCount 39 = .ok (.ladd, 1) := by decide +kernel
theorem dLG_bitCount_40 : decode cLG_bitCount 40 = .ok (.lstore_n 0, 1) := by decide +kernel
theorem dLG_bitCount_41 : decode cLG_bitCount 41 = .ok (.lload_n 0, 1) := by decide +kernel
theorem dLG_bitCount_42 : decode cLG_bitCount 42 = .ok (.lload_n 0, 1) := by decide +kernel
theorem dLG_bitCount_43 : decode cLG_bitCount 43 = .ok (.bipush 16, 2) := by decide +kernel
theorem dLG_bitCount_45 : decode cLG_bitCount 45 = .ok (.lushr, 1) := by decide +kernel
theorem dLG_bitCount_46 : decode cLG_bitCount 46 = .ok (.ladd, 1) := by decide +kernel
theorem dLG_bitCount_47 : decode cLG_bitCount 47 = .ok (.lstore_n 0, 1) := by decide +kernel
theorem dLG_bitCount_48 : decode cLG_bitCount 48 = .ok (.lload_n 0, 1) := by decide +kernel
theorem dLG_bitCount_49 : decode cLG_bitCount 49 = .ok (.lload_n 0, 1) := by decide +kernel
theorem dLG_bitCount_50 : decode cLG_bitCount 50 = .ok (.bipush 32, 2) := by decide +kernel
theorem dLG_bitCount_52 : decode cLG_bitCount 52 = .ok (.lushr, 1) := by decide +kernel
theorem dLG_bitCount_53 : decode cLG_bitCount 53 = .ok (.ladd, 1) := by decide +kernel
theorem dLG_bitCount_54 : decode cLG_bitCount 54 = .ok (.lstore_n 0, 1) := by decide +kernel
theorem dLG_bitCount_55 : decode cLG_bitCount 55 = .ok (.lload_n 0, 1) := by decide +kernel
theorem dLG_bitCount_56 : decode cLG_bitCount 56 = .ok (.l2i, 1) := by decide +kernel
theorem dLG_bitCount_57 : decode cLG_bitCount 57 = .ok (.bipush 127, 2) := by decide +kernel
theorem dLG_bitCount_59 : decode cLG_bitCount 59 = .ok (.iand, 1) := by decide +kernel
theorem dLG_bitCount_60 : decode cLG_bitCount 60 = .ok (.ireturn, 1) := by decide +kernel
theorem dPD_same_0 : decode cPD_same 0 = .ok (.aload_n 0, 1) := by decide +kernel
theorem dPD_same_1 : decode cPD_same 1 = .ok (.getfield 10, 3) := by decide +kernel
theorem dPD_same_4 : decode cPD_same 4 = .ok (.aload_n 0, 1) := by decide +kernel
theorem dPD_same_5 : decode cPD_same 5 = .ok (.getfield 16, 3) := by decide +kernel
theorem dPD_same_8 : decode cPD_same 8 = .ok (.invokevirtual 147, 3) := by decide +kernel
theorem dPD_same_11 : decode cPD_same 11 = .ok (.ireturn, 1) := by decide +kernel
theorem dDK_isLike_0 : decode cDK_isLike 0 = .ok (.aload_n 0, 1) := by decide +kernel
theorem dDK_isLike_1 : decode cDK_isLike 1 = .ok (.getfield 12, 3) := by decide +kernel
theorem dDK_isLike_4 : decode cDK_isLike 4 = .ok (.aload_n 1, 1) := by decide +kernel
theorem dDK_isLike_5 : decode cDK_isLike 5 = .ok (.getfield 12, 3) := by decide +kernel
theorem dDK_isLike_8 : decode cDK_isLike 8 = .ok (.invokevirtual 115, 3) := by decide +kernel
theorem dDK_isLike_11 : decode cDK_isLike 11 = .ok (.ifCond .eq 63, 3) := by decide +kernel
theorem dDK_isLike_14 : decode cDK_isLike 14 = .ok (.aload_n 0, 1) := by decide +kernel
theorem dDK_isLike_15 : decode cDK_isLike 15 = .ok (.getfield 21, 3) := by decide +kernel
theorem dDK_isLike_18 : decode cDK_isLike 18 = .ok (.aload_n 1, 1) := by decide +kernel
theorem dDK_isLike_19 : decode cDK_isLike 19 = .ok (.getfield 21, 3) := by decide +kernel
theorem dDK_isLike_22 : decode cDK_isLike 22 = .ok (.invokevirtual 119, 3) := by decide +kernel
theorem dDK_isLike_25 : decode cDK_isLike 25 = .ok (.ifCond .eq 49, 3) := by decide +kernel
theorem dDK_isLike_28 : decode cDK_isLike 28 = .ok (.aload_n 0, 1) := by decide +kernel
theorem dDK_isLike_29 : decode cDK_isLike 29 = .ok (.getfield 42, 3) := by decide +kernel
theorem dDK_isLike_32 : decode cDK_isLike 32 = .ok (.aload_n 1, 1) := by decide +kernel
theorem dDK_isLike_33 : decode cDK_isLike 33 = .ok (.getfield 42, 3) := by decide +kernel
theorem dDK_isLike_36 : decode cDK_isLike 36 = .ok (.invokevirtual 123, 3) := by decide +kernel
theorem dDK_isLike_39 : decode cDK_isLike 39 = .ok (.ifCond .eq 35, 3) := by decide +kernel
theorem dDK_isLike_42 : decode cDK_isLike 42 = .ok (.aload_n 0, 1) := by decide +kernel
theorem dDK_isLike_43 : decode cDK_isLike 43 = .ok (.getfield 28, 3) := by decide +kernel
theorem dDK_isLike_46 : decode cDK_isLike 46 = .ok (.aload_n 1, 1) := by decide +kernel
theorem dDK_isLike_47 : decode cDK_isLike 47 = .ok (.getfield 28, 3) := by decide +kernel
theorem dDK_isLike_50 : decode cDK_isLike 50 = .ok (.invokevirtual 126, 3) := by decide +kernel
theorem dDK_isLike_53 : decode cDK_isLike 53 = .ok (.ifCond .eq 21, 3) := by decide +kernel
theorem dDK_isLike_56 : decode cDK_isLike 56 = .ok (.aload_n 0, 1) := by decide +kernel
theorem dDK_isLike_57 : decode cDK_isLike 57 = .ok (.getfield 35, 3) := by decide +kernel
theorem dDK_isLike_60 : decode cDK_isLike 60 = .ok (.aload_n 1, 1) := by decide +kernel
theorem dDK_isLike_61 : decode cDK_isLike 61 = .ok (.getfield 35, 3) := by decide +kernel
theorem dDK_isLike_64 : decode cDK_isLike 64 = .ok (.invokevirtual 129, 3) := by decide +kernel
theorem dDK_isLike_67 : decode cDK_isLike 67 = .ok (.ifCond .eq 7, 3) := by decide +kernel
theorem dDK_isLike_70 : decode cDK_isLike 70 = .ok (.iconst 1, 1) := by decide +kernel
theorem dDK_isLike_71 : decode cDK_isLike 71 = .ok (.goto 4, 3) := by decide +kernel
theorem dDK_isLike_74 : decode cDK_isLike 74 = .ok (.iconst 0, 1) := by decide +kernel
theorem dDK_isLike_75 : decode cDK_isLike 75 = .ok (.ireturn, 1) := by decide +kernel
theorem dNU_isLike_0 : decode cNU_isLike 0 = .ok (.iconst 0, 1) := by decide +kernel
theorem dNU_isLike_1 : decode cNU_isLike 1 = .ok (.istore_n 2, 1) := by decide +kernel
theorem dNU_isLike_2 : decode cNU_isLike 2 = .ok (.iload_n 2, 1) := by decide +kernel
theorem dNU_isLike_3 : decode cNU_isLike 3 = .ok (.bipush 8, 2) := by decide +kernel
theorem dNU_isLike_5 : decode cNU_isLike 5 = .ok (.if_icmp .ge 42, 3) := by decide +kernel
theorem dNU_isLike_8 : decode cNU_isLike 8 = .ok (.aload_n 0, 1) := by decide +kernel
theorem dNU_isLike_9 : decode cNU_isLike 9 = .ok (.getfield 9, 3) := by decide +kernel
theorem dNU_isLike_12 : decode cNU_isLike 12 = .ok (.iload_n 2, 1) := by decide +kernel
theorem dNU_isLike_13 : decode cNU_isLike 13 = .ok (.iaload, 1) := by decide +kernel
theorem dNU_isLike_14 : decode cNU_isLike 14 = .ok (.aload_n 1, 1) := by decide +kernel
theorem dNU_isLike_15 : decode cNU_isLike 15 = .ok (.getfield 9, 3) := by decide +kernel
theorem dNU_isLike_18 : decode cNU_isLike 18 = .ok (.iload_n 2, 1) := by decide +kernel
theorem dNU_isLike_19 : decode cNU_isLike 19 = .ok (.iaload, 1) := by decide +kernel
theorem dNU_isLike_20 : decode cNU_isLike 20 = .ok (.if_icmp .ne 19, 3) := by decide +kernel
theorem dNU_isLike_23 : decode cNU_isLike 23 = .ok (.aload_n 0, 1) := by decide +kernel
theorem dNU_isLike_24 : decode cNU_isLike 24 = .ok (.getfield 15, 3) := by decide +kernel
theorem dNU_isLike_27 : decode cNU_isLike 27 = .ok (.iload_n 2, 1) := by decide +kernel
theorem dNU_isLike_28 : decode cNU_isLike 28 = .ok (.laload, 1) := by decide +kernel
theorem dNU_isLike_29 : decode cNU_isLike 29 = .ok (.aload_n 1, 1) := by decide +kernel
theorem dNU_isLike_30 : decode cNU_isLike 30 = .ok (.getfield 15, 3) := by decide +kernel
theorem dNU_isLike_33 : decode cNU_isLike 33 = .ok (.iload_n 2, 1) := by decide +kernel
theorem dNU_isLike_34 : decode cNU_isLike 34 = .ok (.laload, 1) := by decide +kernel
theorem dNU_isLike_35 : decode cNU_isLike 35 = .ok (.lcmp, 1) := by decide +kernel
theorem dNU_isLike_36 : decode cNU_isLike 36 = .ok (.ifCond .eq 5, 3) := by decide +kernel
theorem dNU_isLike_39 : decode cNU_isLike 39 = .ok (.iconst 0, 1) := by decide +kernel
theorem dNU_isLike_40 : decode cNU_isLike 40 = .ok (.ireturn, 1) := by decide +kernel
theorem dNU_isLike_41 : decode cNU_isLike 41 = .ok (.iinc 2 1, 3) := by decide +kernel
theorem dNU_isLike_44 : decode cNU_isLike 44 = .ok (.goto (-42), 3) := by decide +kernel
theorem dNU_isLike_47 : decode cNU_isLike 47 = .ok (.iconst 1, 1) := by decide +kernel
theorem dNU_isLike_48 : decode cNU_isLike 48 = .ok (.ireturn, 1) := by decide +kernel
theorem dPT_hasSumsOf_0 : decode cPT_hasSumsOf 0 = .ok (.iconst 0, 1) := by decide +kernel
theorem dPT_hasSumsOf_1 : decode cPT_hasSumsOf 1 = .ok (.istore_n 2, 1) := by decide +kernel
theorem dPT_hasSumsOf_2 : decode cPT_hasSumsOf 2 = .ok (.iload_n 2, 1) := by decide +kernel
theorem dPT_hasSumsOf_3 : decode cPT_hasSumsOf 3 = .ok (.bipush 12, 2) := by decide +kernel
theorem dPT_hasSumsOf_5 : decode cPT_hasSumsOf 5 = .ok (.if_icmp .ge 27, 3) := by decide +kernel
theorem dPT_hasSumsOf_8 : decode cPT_hasSumsOf 8 = .ok (.aload_n 0, 1) := by decide +kernel
theorem dPT_hasSumsOf_9 : decode cPT_hasSumsOf 9 = .ok (.getfield 15, 3) := by decide +kernel
theorem dPT_hasSumsOf_12 : decode cPT_hasSumsOf 12 = .ok (.iload_n 2, 1) := by decide +kernel
theorem dPT_hasSumsOf_13 : decode cPT_hasSumsOf 13 = .ok (.laload, 1) := by decide +kernel
theorem dPT_hasSumsOf_14 : decode cPT_hasSumsOf 14 = .ok (.aload_n 1, 1) := by decide +kernel
theorem dPT_hasSumsOf_15 : decode cPT_hasSumsOf 15 = .ok (.getfield 15, 3) := by decide +kernel
theorem dPT_hasSumsOf_18 : decode cPT_hasSumsOf 18 = .ok (.iload_n 2, 1) := by decide +kernel
theorem dPT_hasSumsOf_19 : decode cPT_hasSumsOf 19 = .ok (.laload, 1) := by decide +kernel
theorem dPT_hasSumsOf_20 : decode cPT_hasSumsOf 20 = .ok (.lcmp, 1) := by decide +kernel
theorem dPT_hasSumsOf_21 : decode cPT_hasSumsOf 21 = .ok (.ifCond .eq 5, 3) := by decide +kernel
theorem dPT_hasSumsOf_24 : decode cPT_hasSumsOf 24 = .ok (.iconst 0, 1) := by decide +kernel
theorem dPT_hasSumsOf_25 : decode cPT_hasSumsOf 25 = .ok (.ireturn, 1) := by decide +kernel
theorem dPT_hasSumsOf_26 : decode cPT_hasSumsOf 26 = .ok (.iinc 2 1, 3) := by decide +kernel
theorem dPT_hasSumsOf_29 : decode cPT_hasSumsOf 29 = .ok (.goto (-27), 3) := by decide +kernel
theorem dPT_hasSumsOf_32 : decode cPT_hasSumsOf 32 = .ok (.iconst 1, 1) := by decide +kernel
theorem dPT_hasSumsOf_33 : decode cPT_hasSumsOf 33 = .ok (.ireturn, 1) := by decide +kernel
theorem dJN_isLike_0 : decode cJN_isLike 0 = .ok (.aload_n 0, 1) := by decide +kernel
theorem dJN_isLike_1 : decode cJN_isLike 1 = .ok (.getfield 13, 3) := by decide +kernel
theorem dJN_isLike_4 : decode cJN_isLike 4 = .ok (.aload_n 1, 1) := by decide +kernel
theorem dJN_isLike_5 : decode cJN_isLike 5 = .ok (.getfield 13, 3) := by decide +kernel
theorem dJN_isLike_8 : decode cJN_isLike 8 = .ok (.if_icmp .eq 5, 3) := by decide +kernel
theorem dJN_isLike_11 : decode cJN_isLike 11 = .ok (.iconst 0, 1) := by decide +kernel
theorem dJN_isLike_12 : decode cJN_isLike 12 = .ok (.ireturn, 1) := by decide +kernel
theorem dJN_isLike_13 : decode cJN_isLike 13 = .ok (.iconst 0, 1) := by decide +kernel
theorem dJN_isLike_14 : decode cJN_isLike 14 = .ok (.istore_n 2, 1) := by decide +kernel
theorem dJN_isLike_15 : decode cJN_isLike 15 = .ok (.iload_n 2, 1) := by decide +kernel
theorem dJN_isLike_16 : decode cJN_isLike 16 = .ok (.aload_n 0, 1) := by decide +kernel
theorem dJN_isLike_17 : decode cJN_isLike 17 = .ok (.getfield 13, 3) := by decide +kernel
theorem dJN_isLike_20 : decode cJN_isLike 20 = .ok (.if_icmp .ge 25, 3) := by decide +kernel
theorem dJN_isLike_23 : decode cJN_isLike 23 = .ok (.aload_n 0, 1) := by decide +kernel
theorem dJN_isLike_24 : decode cJN_isLike 24 = .ok (.iload_n 2, 1) := by decide +kernel
theorem dJN_isLike_25 : decode cJN_isLike 25 = .ok (.invokevirtual 20, 3) := by decide +kernel
theorem dJN_isLike_28 : decode cJN_isLike 28 = .ok (.aload_n 1, 1) := by decide +kernel
theorem dJN_isLike_29 : decode cJN_isLike 29 = .ok (.iload_n 2, 1) := by decide +kernel
theorem dJN_isLike_30 : decode cJN_isLike 30 = .ok (.invokevirtual 20, 3) := by decide +kernel
theorem dJN_isLike_33 : decode cJN_isLike 33 = .ok (.lcmp, 1) := by decide +kernel
theorem dJN_isLike_34 : decode cJN_isLike 34 = .ok (.ifCond .eq 5, 3) := by decide +kernel
theorem dJN_isLike_37 : decode cJN_isLike 37 = .ok (.iconst 0, 1) := by decide +kernel
theorem dJN_isLike_38 : decode cJN_isLike 38 = .ok (.ireturn, 1) := by decide +kernel
theorem dJN_isLike_39 : decode cJN_isLike 39 = .ok (.iinc 2 1, 3) := by decide +kernel
theorem dJN_isLike_42 : decode cJN_isLike 42 = .ok (.goto (-27), 3) := by decide +kernel
theorem dJN_isLike_45 : decode cJN_isLike 45 = .ok (.iconst 1, 1) := by decide +kernel
theorem dJN_isLike_46 : decode cJN_isLike 46 = .ok (.ireturn, 1) := by decide +kernel
theorem dJN_entryAt_0 : decode cJN_entryAt 0 = .ok (.aload_n 0, 1) := by decide +kernel
theorem dJN_entryAt_1 : decode cJN_entryAt 1 = .ok (.getfield 9, 3) := by decide +kernel
theorem dJN_entryAt_4 : decode cJN_entryAt 4 = .ok (.aload_n 0, 1) := by decide +kernel
theorem dJN_entryAt_5 : decode cJN_entryAt 5 = .ok (.getfield 17, 3) := by decide +kernel
theorem dJN_entryAt_8 : decode cJN_entryAt 8 = .ok (.bipush 64, 2) := by decide +kernel
theorem dJN_entryAt_10 : decode cJN_entryAt 10 = .ok (.iadd, 1) := by decide +kernel
theorem dJN_entryAt_11 : decode cJN_entryAt 11 = .ok (.aload_n 0, 1) := by decide +kernel
theorem dJN_entryAt_12 : decode cJN_entryAt 12 = .ok (.getfield 13, 3) := by decide +kernel
theorem dJN_entryAt_15 : decode cJN_entryAt 15 = .ok (.isub, 1) := by decide +kernel
theorem dJN_entryAt_16 : decode cJN_entryAt 16 = .ok (.iload_n 1, 1) := by decide +kernel
theorem dJN_entryAt_17 : decode cJN_entryAt 17 = .ok (.iadd, 1) := by decide +kernel
theorem dJN_entryAt_18 : decode cJN_entryAt 18 = .ok (.bipush 64, 2) := by decide +kernel
theorem dJN_entryAt_20 : decode cJN_entryAt 20 = .ok (.irem, 1) := by decide +kernel
theorem dJN_entryAt_21 : decode cJN_entryAt 21 = .ok (.laload, 1) := by decide +kernel
theorem dJN_entryAt_22 : decode cJN_entryAt 22 = .ok (.lreturn, 1) := by decide +kernel
theorem dTL_isLike_0 : decode cTL_isLike 0 = .ok (.iconst 0, 1) := by decide +kernel
theorem dTL_isLike_1 : decode cTL_isLike 1 = .ok (.istore_n 2, 1) := by decide +kernel
theorem dTL_isLike_2 : decode cTL_isLike 2 = .ok (.iload_n 2, 1) := by decide +kernel
theorem dTL_isLike_3 : decode cTL_isLike 3 = .ok (.bipush 8, 2) := by decide +kernel
theorem dTL_isLike_5 : decode cTL_isLike 5 = .ok (.if_icmp .ge 27, 3) := by decide +kernel
theorem dTL_isLike_8 : decode cTL_isLike 8 = .ok (.aload_n 0, 1) := by decide +kernel
theorem dTL_isLike_9 : decode cTL_isLike 9 = .ok (.getfield 9, 3) := by decide +kernel
theorem dTL_isLike_12 : decode cTL_isLike 12 = .ok (.iload_n 2, 1) := by decide +kernel
theorem dTL_isLike_13 : decode cTL_isLike 13 = .ok (.laload, 1) := by decide +kernel
theorem dTL_isLike_14 : decode cTL_isLike 14 = .ok (.aload_n 1, 1) := by decide +kernel
theorem dTL_isLike_15 : decode cTL_isLike 15 = .ok (.getfield 9, 3) := by decide +kernel
theorem dTL_isLike_18 : decode cTL_isLike 18 = .ok (.iload_n 2, 1) := by decide +kernel
theorem dTL_isLike_19 : decode cTL_isLike 19 = .ok (.laload, 1) := by decide +kernel
theorem dTL_isLike_20 : decode cTL_isLike 20 = .ok (.lcmp, 1) := by decide +kernel
theorem dTL_isLike_21 : decode cTL_isLike 21 = .ok (.ifCond .eq 5, 3) := by decide +kernel
theorem dTL_isLike_24 : decode cTL_isLike 24 = .ok (.iconst 0, 1) := by decide +kernel
theorem dTL_isLike_25 : decode cTL_isLike 25 = .ok (.ireturn, 1) := by decide +kernel
theorem dTL_isLike_26 : decode cTL_isLike 26 = .ok (.iinc 2 1, 3) := by decide +kernel
theorem dTL_isLike_29 : decode cTL_isLike 29 = .ok (.goto (-27), 3) := by decide +kernel
theorem dTL_isLike_32 : decode cTL_isLike 32 = .ok (.iconst 1, 1) := by decide +kernel
theorem dTL_isLike_33 : decode cTL_isLike 33 = .ok (.ireturn, 1) := by decide +kernel
theorem dCV_isLike_0 : decode cCV_isLike 0 = .ok (.iconst 0, 1) := by decide +kernel
theorem dCV_isLike_1 : decode cCV_isLike 1 = .ok (.istore_n 2, 1) := by decide +kernel
theorem dCV_isLike_2 : decode cCV_isLike 2 = .ok (.iload_n 2, 1) := by decide +kernel
theorem dCV_isLike_3 : decode cCV_isLike 3 = .ok (.iconst 4, 1) := by decide +kernel
theorem dCV_isLike_4 : decode cCV_isLike 4 = .ok (.if_icmp .ge 66, 3) := by decide +kernel
theorem dCV_isLike_7 : decode cCV_isLike 7 = .ok (.aload_n 0, 1) := by decide +kernel
theorem dCV_isLike_8 : decode cCV_isLike 8 = .ok (.getfield 9, 3) := by decide +kernel
theorem dCV_isLike_11 : decode cCV_isLike 11 = .ok (.iload_n 2, 1) := by decide +kernel
theorem dCV_isLike_12 : decode cCV_isLike 12 = .ok (.iaload, 1) := by decide +kernel
theorem dCV_isLike_13 : decode cCV_isLike 13 = .ok (.aload_n 1, 1) := by decide +kernel
theorem dCV_isLike_14 : decode cCV_isLike 14 = .ok (.getfield 9, 3) := by decide +kernel
theorem dCV_isLike_17 : decode cCV_isLike 17 = .ok (.iload_n 2, 1) := by decide +kernel
theorem dCV_isLike_18 : decode cCV_isLike 18 = .ok (.iaload, 1) := by decide +kernel
theorem dCV_isLike_19 : decode cCV_isLike 19 = .ok (.if_icmp .eq 5, 3) := by decide +kernel
theorem dCV_isLike_22 : decode cCV_isLike 22 = .ok (.iconst 0, 1) := by decide +kernel
theorem dCV_isLike_23 : decode cCV_isLike 23 = .ok (.ireturn, 1) := by decide +kernel
theorem dCV_isLike_24 : decode cCV_isLike 24 = .ok (.iconst 0, 1) := by decide +kernel
theorem dCV_isLike_25 : decode cCV_isLike 25 = .ok (.istore_n 3, 1) := by decide +kernel
theorem dCV_isLike_26 : decode cCV_isLike 26 = .ok (.iload_n 3, 1) := by decide +kernel
theorem dCV_isLike_27 : decode cCV_isLike 27 = .ok (.aload_n 0, 1) := by decide +kernel
theorem dCV_isLike_28 : decode cCV_isLike 28 = .ok (.getfield 9, 3) := by decide +kernel
theorem dCV_isLike_31 : decode cCV_isLike 31 = .ok (.iload_n 2, 1) := by decide +kernel
theorem dCV_isLike_32 : decode cCV_isLike 32 = .ok (.iaload, 1) := by decide +kernel
theorem dCV_isLike_33 : decode cCV_isLike 33 = .ok (.if_icmp .ge 31, 3) := by decide +kernel
theorem dCV_isLike_36 : decode cCV_isLike 36 = .ok (.aload_n 0, 1) := by decide +kernel
theorem dCV_isLike_37 : decode cCV_isLike 37 = .ok (.getfield 17, 3) := by decide +kernel
theorem dCV_isLike_40 : decode cCV_isLike 40 = .ok (.iload_n 2, 1) := by decide +kernel
theorem dCV_isLike_41 : decode cCV_isLike 41 = .ok (.aaload, 1) := by decide +kernel
theorem dCV_isLike_42 : decode cCV_isLike 42 = .ok (.iload_n 3, 1) := by decide +kernel
theorem dCV_isLike_43 : decode cCV_isLike 43 = .ok (.laload, 1) := by decide +kernel
theorem dCV_isLike_44 : decode cCV_isLike 44 = .ok (.aload_n 1, 1) := by decide +kernel
theorem dCV_isLike_45 : decode cCV_isLike 45 = .ok (.getfield 17, 3) := by decide +kernel
theorem dCV_isLike_48 : decode cCV_isLike 48 = .ok (.iload_n 2, 1) := by decide +kernel
theorem dCV_isLike_49 : decode cCV_isLike 49 = .ok (.aaload, 1) := by decide +kernel
theorem dCV_isLike_50 : decode cCV_isLike 50 = .ok (.iload_n 3, 1) := by decide +kernel
theorem dCV_isLike_51 : decode cCV_isLike 51 = .ok (.laload, 1) := by decide +kernel
theorem dCV_isLike_52 : decode cCV_isLike 52 = .ok (.lcmp, 1) := by decide +kernel
theorem dCV_isLike_53 : decode cCV_isLike 53 = .ok (.ifCond .eq 5, 3) := by decide +kernel
theorem dCV_isLike_56 : decode cCV_isLike 56 = .ok (.iconst 0, 1) := by decide +kernel
theorem dCV_isLike_57 : decode cCV_isLike 57 = .ok (.ireturn, 1) := by decide +kernel
theorem dCV_isLike_58 : decode cCV_isLike 58 = .ok (.iinc 3 1, 3) := by decide +kernel
theorem dCV_isLike_61 : decode cCV_isLike 61 = .ok (.goto (-35), 3) := by decide +kernel
theorem dCV_isLike_64 : decode cCV_isLike 64 = .ok (.iinc 2 1, 3) := by decide +kernel
theorem dCV_isLike_67 : decode cCV_isLike 67 = .ok (.goto (-65), 3) := by decide +kernel
theorem dCV_isLike_70 : decode cCV_isLike 70 = .ok (.iconst 1, 1) := by decide +kernel
theorem dCV_isLike_71 : decode cCV_isLike 71 = .ok (.ireturn, 1) := by decide +kernel
theorem dPD_make_0 : decode cPD_make 0 = .ok (.iload_n 1, 1) := by decide +kernel
theorem dPD_make_1 : decode cPD_make 1 = .ok (.invokestatic 47, 3) := by decide +kernel
theorem dPD_make_4 : decode cPD_make 4 = .ok (.ifCond .ne 13, 3) := by decide +kernel
theorem dPD_make_7 : decode cPD_make 7 = .ok (.new 50, 3) := by decide +kernel
theorem dPD_make_10 : decode cPD_make 10 = .ok (.dup, 1) := by decide +kernel
theorem dPD_make_11 : decode cPD_make 11 = .ok (.ldc 52, 2) := by decide +kernel
theorem dPD_make_13 : decode cPD_make 13 = .ok (.invokespecial 54, 3) := by decide +kernel
theorem dPD_make_16 : decode cPD_make 16 = .ok (.athrow, 1) := by decide +kernel
theorem dPD_make_17 : decode cPD_make 17 = .ok (.aload_n 0, 1) := by decide +kernel
theorem dPD_make_18 : decode cPD_make 18 = .ok (.getfield 10, 3) := by decide +kernel
theorem dPD_make_21 : decode cPD_make 21 = .ok (.getfield 57, 3) := by decide +kernel
theorem dPD_make_24 : decode cPD_make 24 = .ok (.iload_n 1, 1) := by decide +kernel
theorem dPD_make_25 : decode cPD_make 25 = .ok (.invokevirtual 61, 3) := by decide +kernel
theorem dPD_make_28 : decode cPD_make 28 = .ok (.ifCond .eq 13, 3) := by decide +kernel
theorem dPD_make_31 : decode cPD_make 31 = .ok (.new 66, 3) := by decide +kernel
theorem dPD_make_34 : decode cPD_make 34 = .ok (.dup, 1) := by decide +kernel
theorem dPD_make_35 : decode cPD_make 35 = .ok (.ldc 68, 2) := by decide +kernel
theorem dPD_make_37 : decode cPD_make 37 = .ok (.invokespecial 70, 3) := by decide +kernel
theorem dPD_make_40 : decode cPD_make 40 = .ok (.athrow, 1) := by decide +kernel
theorem dPD_make_41 : decode cPD_make 41 = .ok (.aload_n 0, 1) := by decide +kernel
theorem dPD_make_42 : decode cPD_make 42 = .ok (.getfield 16, 3) := by decide +kernel
theorem dPD_make_45 : decode cPD_make 45 = .ok (.getfield 57, 3) := by decide +kernel
theorem dPD_make_48 : decode cPD_make 48 = .ok (.iload_n 1, 1) := by decide +kernel
theorem dPD_make_49 : decode cPD_make 49 = .ok (.invokevirtual 71, 3) := by decide +kernel
theorem dPD_make_52 : decode cPD_make 52 = .ok (.pop, 1) := by decide +kernel
theorem dPD_make_53 : decode cPD_make 53 = .ok (.aload_n 0, 1) := by decide +kernel
theorem dPD_make_54 : decode cPD_make 54 = .ok (.getfield 10, 3) := by decide +kernel
theorem dPD_make_57 : decode cPD_make 57 = .ok (.getfield 57, 3) := by decide +kernel
theorem dPD_make_60 : decode cPD_make 60 = .ok (.iload_n 1, 1) := by decide +kernel
theorem dPD_make_61 : decode cPD_make 61 = .ok (.invokevirtual 71, 3) := by decide +kernel
theorem dPD_make_64 : decode cPD_make 64 = .ok (.ireturn, 1) := by decide +kernel
theorem dPD_told_0 : decode cPD_told 0 = .ok (.iload_n 1, 1) := by decide +kernel
theorem dPD_told_1 : decode cPD_told 1 = .ok (.ifCond .lt 9, 3) := by decide +kernel
theorem dPD_told_4 : decode cPD_told 4 = .ok (.iload_n 1, 1) := by decide +kernel
theorem dPD_told_5 : decode cPD_told 5 = .ok (.bipush 8, 2) := by decide +kernel
theorem dPD_told_7 : decode cPD_told 7 = .ok (.if_icmp .lt 13, 3) := by decide +kernel
theorem dPD_told_10 : decode cPD_told 10 = .ok (.new 86, 3) := by decide +kernel
theorem dPD_told_13 : decode cPD_told 13 = .ok (.dup, 1) := by decide +kernel
theorem dPD_told_14 : decode cPD_told 14 = .ok (.ldc 88, 2) := by decide +kernel
theorem dPD_told_16 : decode cPD_told 16 = .ok (.invokespecial 90, 3) := by decide +kernel
theorem dPD_told_19 : decode cPD_told 19 = .ok (.athrow, 1) := by decide +kernel
theorem dPD_told_20 : decode cPD_told 20 = .ok (.aload_n 0, 1) := by decide +kernel
theorem dPD_told_21 : decode cPD_told 21 = .ok (.getfield 10, 3) := by decide +kernel
theorem dPD_told_24 : decode cPD_told 24 = .ok (.getfield 91, 3) := by decide +kernel
theorem dPD_told_27 : decode cPD_told 27 = .ok (.iload_n 1, 1) := by decide +kernel
theorem dPD_told_28 : decode cPD_told 28 = .ok (.invokevirtual 95, 3) := by decide +kernel
theorem dPD_told_31 : decode cPD_told 31 = .ok (.lreturn, 1) := by decide +kernel
theorem dTL_fact_0 : decode cTL_fact 0 = .ok (.aload_n 0, 1) := by decide +kernel
theorem dTL_fact_1 : decode cTL_fact 1 = .ok (.getfield 9, 3) := by decide +kernel
theorem dTL_fact_4 : decode cTL_fact 4 = .ok (.iload_n 1, 1) := by decide +kernel
theorem dTL_fact_5 : decode cTL_fact 5 = .ok (.laload, 1) := by decide +kernel
theorem dTL_fact_6 : decode cTL_fact 6 = .ok (.lreturn, 1) := by decide +kernel
theorem dPD_number_0 : decode cPD_number 0 = .ok (.iload_n 1, 1) := by decide +kernel
theorem dPD_number_1 : decode cPD_number 1 = .ok (.invokestatic 47, 3) := by decide +kernel
theorem dPD_number_4 : decode cPD_number 4 = .ok (.ifCond .ne 13, 3) := by decide +kernel
theorem dPD_number_7 : decode cPD_number 7 = .ok (.new 50, 3) := by decide +kernel
theorem dPD_number_10 : decode cPD_number 10 = .ok (.dup, 1) := by decide +kernel
theorem dPD_number_11 : decode cPD_number 11 = .ok (.ldc 52, 2) := by decide +kernel
theorem dPD_number_13 : decode cPD_number 13 = .ok (.invokespecial 54, 3) := by decide +kernel
theorem dPD_number_16 : decode cPD_number 16 = .ok (.athrow, 1) := by decide +kernel
theorem dPD_number_17 : decode cPD_number 17 = .ok (.aload_n 0, 1) := by decide +kernel
theorem dPD_number_18 : decode cPD_number 18 = .ok (.getfield 10, 3) := by decide +kernel
theorem dPD_number_21 : decode cPD_number 21 = .ok (.getfield 57, 3) := by decide +kernel
theorem dPD_number_24 : decode cPD_number 24 = .ok (.iload_n 1, 1) := by decide +kernel
theorem dPD_number_25 : decode cPD_number 25 = .ok (.iload_n 2, 1) := by decide +kernel
theorem dPD_number_26 : decode cPD_number 26 = .ok (.invokevirtual 104, 3) := by decide +kernel
theorem dPD_number_29 : decode cPD_number 29 = .ok (.ireturn, 1) := by decide +kernel
theorem dNU_knownAt_0 : decode cNU_knownAt 0 = .ok (.iconst 0, 1) := by decide +kernel
theorem dNU_knownAt_1 : decode cNU_knownAt 1 = .ok (.istore_n 3, 1) := by decide +kernel
theorem dNU_knownAt_2 : decode cNU_knownAt 2 = .ok (.iconst 1, 1) := by decide +kernel
theorem dNU_knownAt_3 : decode cNU_knownAt 3 = .ok (.istore 4, 2) := by decide +kernel
theorem dNU_knownAt_5 : decode cNU_knownAt 5 = .ok (.iload 4, 2) := by decide +kernel
theorem dNU_knownAt_7 : decode cNU_knownAt 7 = .ok (.aload_n 0, 1) := by decide +kernel
theorem dNU_knownAt_8 : decode cNU_knownAt 8 = .ok (.getfield 9, 3) := by decide +kernel
theorem dNU_knownAt_11 : decode cNU_knownAt 11 = .ok (.iload_n 1, 1) := by decide +kernel
theorem dNU_knownAt_12 : decode cNU_knownAt 12 = .ok (.iaload, 1) := by decide +kernel
theorem dNU_knownAt_13 : decode cNU_knownAt 13 = .ok (.if_icmp .gt 30, 3) := by decide +kernel
theorem dNU_knownAt_16 : decode cNU_knownAt 16 = .ok (.aload_n 0, 1) := by decide +kernel
theorem dNU_knownAt_17 : decode cNU_knownAt 17 = .ok (.iload_n 1, 1) := by decide +kernel
theorem dNU_knownAt_18 : decode cNU_knownAt 18 = .ok (.iload 4, 2) := by decide +kernel
theorem dNU_knownAt_20 : decode cNU_knownAt 20 = .ok (.invokevirtual 35, 3) := by decide +kernel
theorem dNU_knownAt_23 : decode cNU_knownAt 23 = .ok (.ifCond .eq 14, 3) := by decide +kernel
theorem dNU_knownAt_26 : decode cNU_knownAt 26 = .ok (.iload_n 3, 1) := by decide +kernel
theorem dNU_knownAt_27 : decode cNU_knownAt 27 = .ok (.iload_n 2, 1) := by decide +kernel
theorem dNU_knownAt_28 : decode cNU_knownAt 28 = .ok (.if_icmp .ne 6, 3) := by decide +kernel
theorem dNU_knownAt_31 : decode cNU_knownAt 31 = .ok (.iload 4, 2) := by decide +kernel
theorem dNU_knownAt_33 : decode cNU_knownAt 33 = .ok (.ireturn, 1) := by decide +kernel
theorem dNU_knownAt_34 : decode cNU_knownAt 34 = .ok (.iinc 3 1, 3) := by decide +kernel
theorem dNU_knownAt_37 : decode cNU_knownAt 37 = .ok (.iinc 4 1, 3) := by decide +kernel
theorem dNU_knownAt_40 : decode cNU_knownAt 40 = .ok (.goto (-35), 3) := by decide +kernel
theorem dNU_knownAt_43 : decode cNU_knownAt 43 = .ok (.iconst (-1), 1) := by decide +kernel
theorem dNU_knownAt_44 : decode cNU_knownAt 44 = .ok (.ireturn, 1) := by decide +kernel
theorem dPD_collected_0 : decode cPD_collected 0 = .ok (.iload_n 1, 1) := by decide +kernel
theorem dPD_collected_1 : decode cPD_collected 1 = .ok (.ifCond .lt 27, 3) := by decide +kernel
theorem dPD_collected_4 : decode cPD_collected 4 = .ok (.iload_n 1, 1) := by decide +kernel
theorem dPD_collected_5 : decode cPD_collected 5 = .ok (.iconst 4, 1) := by decide +kernel
theorem dPD_collected_6 : decode cPD_collected 6 = .ok (.if_icmp .ge 22, 3) := by decide +kernel
theorem dPD_collected_9 : decode cPD_collected 9 = .ok (.iload_n 2, 1) := by decide +kernel
theorem dPD_collected_10 : decode cPD_collected 10 = .ok (.ifCond .lt 18, 3) := by decide +kernel
theorem dPD_collected_13 : decode cPD_collected 13 = .ok (.iload_n 2, 1) := by decide +kernel
theorem dPD_collected_14 : decode cPD_collected 14 = .ok (.aload_n 0, 1) := by decide +kernel
theorem dPD_collected_15 : decode cPD_collected 15 = .ok (.getfield 10, 3) := by decide +kernel
theorem dPD_collected_18 : decode cPD_collected 18 = .ok (.getfield 108, 3) := by decide +kernel
theorem dPD_collected_21 : decode cPD_collected 21 = .ok (.iload_n 1, 1) := by decide +kernel
theorem dPD_collected_22 : decode cPD_collected 22 = .ok (.invokevirtual 112, 3) := by decide +kernel
theorem dPD_collected_25 : decode cPD_collected 25 = .ok (.if_icmp .lt 13, 3) := by decide +kernel
theorem dPD_collected_28 : decode cPD_collected 28 = .ok (.new 86, 3) := by decide +kernel
theorem dPD_collected_31 : decode cPD_collected 31 = .ok (.dup, 1) := by decide +kernel
theorem dPD_collected_32 : decode cPD_collected 32 = .ok (.ldc 115, 2) := by decide +kernel
theorem dPD_collected_34 : decode cPD_collected 34 = .ok (.invokespecial 90, 3) := by decide +kernel
theorem dPD_collected_37 : decode cPD_collected 37 = .ok (.athrow, 1) := by decide +kernel
theorem dPD_collected_38 : decode cPD_collected 38 = .ok (.aload_n 0, 1) := by decide +kernel
theorem dPD_collected_39 : decode cPD_collected 39 = .ok (.getfield 10, 3) := by decide +kernel
theorem dPD_collected_42 : decode cPD_collected 42 = .ok (.getfield 108, 3) := by decide +kernel
theorem dPD_collected_45 : decode cPD_collected 45 = .ok (.iload_n 1, 1) := by decide +kernel
theorem dPD_collected_46 : decode cPD_collected 46 = .ok (.iload_n 2, 1) := by decide +kernel
theorem dPD_collected_47 : decode cPD_collected 47 = .ok (.invokevirtual 117, 3) := by decide +kernel
theorem dPD_collected_50 : decode cPD_collected 50 = .ok (.lreturn, 1) := by decide +kernel
theorem dCV_size_0 : decode cCV_size 0 = .ok (.aload_n 0, 1) := by decide +kernel
theorem dCV_size_1 : decode cCV_size 1 = .ok (.getfield 9, 3) := by decide +kernel
theorem dCV_size_4 : decode cCV_size 4 = .ok (.iload_n 1, 1) := by decide +kernel
theorem dCV_size_5 : decode cCV_size 5 = .ok (.iaload, 1) := by decide +kernel
theorem dCV_size_6 : decode cCV_size 6 = .ok (.ireturn, 1) := by decide +kernel
theorem dCV_valueAt_0 : decode cCV_valueAt 0 = .ok (.aload_n 0, 1) := by decide +kernel
theorem dCV_valueAt_1 : decode cCV_valueAt 1 = .ok (.getfield 17, 3) := by decide +kernel
theorem dCV_valueAt_4 : decode cCV_valueAt 4 = .ok (.iload_n 1, 1) := by decide +kernel
theorem dCV_valueAt_5 : decode cCV_valueAt 5 = .ok (.aaload, 1) := by decide +kernel
theorem dCV_valueAt_6 : decode cCV_valueAt 6 = .ok (.iload_n 2, 1) := by decide +kernel
theorem dCV_valueAt_7 : decode cCV_valueAt 7 = .ok (.laload, 1) := by decide +kernel
theorem dCV_valueAt_8 : decode cCV_valueAt 8 = .ok (.lreturn, 1) := by decide +kernel
theorem dPD_log_0 : decode cPD_log 0 = .ok (.iload_n 1, 1) := by decide +kernel
theorem dPD_log_1 : decode cPD_log 1 = .ok (.invokestatic 121, 3) := by decide +kernel
theorem dPD_log_4 : decode cPD_log 4 = .ok (.ifCond .eq 22, 3) := by decide +kernel
theorem dPD_log_7 : decode cPD_log 7 = .ok (.iload_n 2, 1) := by decide +kernel
theorem dPD_log_8 : decode cPD_log 8 = .ok (.ifCond .lt 18, 3) := by decide +kernel
theorem dPD_log_11 : decode cPD_log 11 = .ok (.iload_n 2, 1) := by decide +kernel
theorem dPD_log_12 : decode cPD_log 12 = .ok (.aload_n 0, 1) := by decide +kernel
theorem dPD_log_13 : decode cPD_log 13 = .ok (.iload_n 1, 1) := by decide +kernel
theorem dPD_log_14 : decode cPD_log 14 = .ok (.invokevirtual 124, 3) := by decide +kernel
theorem dPD_log_17 : decode cPD_log 17 = .ok (.getfield 128, 3) := by decide +kernel
theorem dPD_log_20 : decode cPD_log 20 = .ok (.invokevirtual 132, 3) := by decide +kernel
theorem dPD_log_23 : decode cPD_log 23 = .ok (.if_icmp .lt 13, 3) := by decide +kernel
theorem dPD_log_26 : decode cPD_log 26 = .ok (.new 86, 3) := by decide +kernel
theorem dPD_log_29 : decode cPD_log 29 = .ok (.dup, 1) := by decide +kernel
theorem dPD_log_30 : decode cPD_log 30 = .ok (.ldc 137, 2) := by decide +kernel
theorem dPD_log_32 : decode cPD_log 32 = .ok (.invokespecial 90, 3) := by decide +kernel
theorem dPD_log_35 : decode cPD_log 35 = .ok (.athrow, 1) := by decide +kernel
theorem dPD_log_36 : decode cPD_log 36 = .ok (.aload_n 0, 1) := by decide +kernel
theorem dPD_log_37 : decode cPD_log 37 = .ok (.iload_n 1, 1) := by decide +kernel
theorem dPD_log_38 : decode cPD_log 38 = .ok (.invokevirtual 124, 3) := by decide +kernel
theorem dPD_log_41 : decode cPD_log 41 = .ok (.getfield 128, 3) := by decide +kernel
theorem dPD_log_44 : decode cPD_log 44 = .ok (.iload_n 2, 1) := by decide +kernel
theorem dPD_log_45 : decode cPD_log 45 = .ok (.invokevirtual 139, 3) := by decide +kernel
theorem dPD_log_48 : decode cPD_log 48 = .ok (.lreturn, 1) := by decide +kernel
theorem dPD_isDesk_0 : decode cPD_isDesk 0 = .ok (.iload_n 0, 1) := by decide +kernel
theorem dPD_isDesk_1 : decode cPD_isDesk 1 = .ok (.ifCond .eq 8, 3) := by decide +kernel
theorem dPD_isDesk_4 : decode cPD_isDesk 4 = .ok (.iload_n 0, 1) := by decide +kernel
theorem dPD_isDesk_5 : decode cPD_isDesk 5 = .ok (.iconst 1, 1) := by decide +kernel
theorem dPD_isDesk_6 : decode cPD_isDesk 6 = .ok (.if_icmp .ne 7, 3) := by decide +kernel
theorem dPD_isDesk_9 : decode cPD_isDesk 9 = .ok (.iconst 1, 1) := by decide +kernel
theorem dPD_isDesk_10 : decode cPD_isDesk 10 = .ok (.goto 4, 3) := by decide +kernel
theorem dPD_isDesk_13 : decode cPD_isDesk 13 = .ok (.iconst 0, 1) := by decide +kernel
theorem dPD_isDesk_14 : decode cPD_isDesk 14 = .ok (.ireturn, 1) := by decide +kernel
theorem dPD_deskAt_0 : decode cPD_deskAt 0 = .ok (.iload_n 1, 1) := by decide +kernel
theorem dPD_deskAt_1 : decode cPD_deskAt 1 = .ok (.ifCond .ne 10, 3) := by decide +kernel
theorem dPD_deskAt_4 : decode cPD_deskAt 4 = .ok (.aload_n 0, 1) := by decide +kernel
theorem dPD_deskAt_5 : decode cPD_deskAt 5 = .ok (.getfield 10, 3) := by decide +kernel
theorem dPD_deskAt_8 : decode cPD_deskAt 8 = .ok (.goto 7, 3) := by decide +kernel
theorem dPD_deskAt_11 : decode cPD_deskAt 11 = .ok (.aload_n 0, 1) := by decide +kernel
theorem dPD_deskAt_12 : decode cPD_deskAt 12 = .ok (.getfield 16, 3) := by decide +kernel
theorem dPD_deskAt_15 : decode cPD_deskAt 15 = .ok (.areturn, 1) := by decide +kernel
theorem dJN_size_0 : decode cJN_size 0 = .ok (.aload_n 0, 1) := by decide +kernel
theorem dJN_size_1 : decode cJN_size 1 = .ok (.getfield 13, 3) := by decide +kernel
theorem dJN_size_4 : decode cJN_size 4 = .ok (.ireturn, 1) := by decide +kernel
theorem dPD_sum_0 : decode cPD_sum 0 = .ok (.iload_n 1, 1) := by decide +kernel
theorem dPD_sum_1 : decode cPD_sum 1 = .ok (.invokestatic 121, 3) := by decide +kernel
theorem dPD_sum_4 : decode cPD_sum 4 = .ok (.ifCond .eq 10, 3) := by decide +kernel
theorem dPD_sum_7 : decode cPD_sum 7 = .ok (.iload_n 2, 1) := by decide +kernel
theorem dPD_sum_8 : decode cPD_sum 8 = .ok (.invokestatic 29, 3) := by decide +kernel
theorem dPD_sum_11 : decode cPD_sum 11 = .ok (.ifCond .ne 13, 3) := by decide +kernel
theorem dPD_sum_14 : decode cPD_sum 14 = .ok (.new 50, 3) := by decide +kernel
theorem dPD_sum_17 : decode cPD_sum 17 = .ok (.dup, 1) := by decide +kernel
theorem dPD_sum_18 : decode cPD_sum 18 = .ok (.ldc 142, 2) := by decide +kernel
theorem dPD_sum_20 : decode cPD_sum 20 = .ok (.invokespecial 54, 3) := by decide +kernel
theorem dPD_sum_23 : decode cPD_sum 23 = .ok (.athrow, 1) := by decide +kernel
theorem dPD_sum_24 : decode cPD_sum 24 = .ok (.aload_n 0, 1) := by decide +kernel
theorem dPD_sum_25 : decode cPD_sum 25 = .ok (.iload_n 1, 1) := by decide +kernel
theorem dPD_sum_26 : decode cPD_sum 26 = .ok (.invokevirtual 124, 3) := by decide +kernel
theorem dPD_sum_29 : decode cPD_sum 29 = .ok (.getfield 33, 3) := by decide +kernel
theorem dPD_sum_32 : decode cPD_sum 32 = .ok (.iload_n 2, 1) := by decide +kernel
theorem dPD_sum_33 : decode cPD_sum 33 = .ok (.invokevirtual 144, 3) := by decide +kernel
theorem dPD_sum_36 : decode cPD_sum 36 = .ok (.lreturn, 1) := by decide +kernel
