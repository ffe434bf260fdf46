theorem dX0_init_0 : decode cX0_init 0 = .ok (.aload_n 0, 1) := by decide +kernel
theorem dX0_init_1 : decode cX0_init 1 = .ok (.invokespecial 3, 3) := by decide +kernel
theorem dX0_init_4 : decode cX0_init 4 = .ok (.aload_n 0, 1) := by decide +kernel
theorem dX0_init_5 : decode cX0_init 5 = .ok (.aload_n 1, 1) := by decide +kernel
theorem dX0_init_6 : decode cX0_init 6 = .ok (.putfield 9, 3) := by decide +kernel
theorem dX0_init_9 : decode cX0_init 9 = .ok (.aload_n 0, 1) := by decide +kernel
theorem dX0_init_10 : decode cX0_init 10 = .ok (.aload_n 2, 1) := by decide +kernel
theorem dX0_init_11 : decode cX0_init 11 = .ok (.putfield 15, 3) := by decide +kernel
theorem dX0_init_14 : decode cX0_init 14 = .ok (.return_, 1) := by decide +kernel
theorem dX0_carryOut_0 : decode cX0_carryOut 0 = .ok (.iload_n 2, 1) := by decide +kernel
theorem dX0_carryOut_1 : decode cX0_carryOut 1 = .ok (.tableswitch 100 0 5 #[39, 63, 70, 76, 82, 91], 39) := by decide +kernel
theorem dX0_carryOut_40 : decode cX0_carryOut 40 = .ok (.aload_n 1, 1) := by decide +kernel
theorem dX0_carryOut_41 : decode cX0_carryOut 41 = .ok (.getfield 19, 3) := by decide +kernel
theorem dX0_carryOut_44 : decode cX0_carryOut 44 = .ok (.iconst 0, 1) := by decide +kernel
theorem dX0_carryOut_45 : decode cX0_carryOut 45 = .ok (.iaload, 1) := by decide +kernel
theorem dX0_carryOut_46 : decode cX0_carryOut 46 = .ok (.sipush 999, 3) := by decide +kernel
theorem dX0_carryOut_49 : decode cX0_carryOut 49 = .ok (.if_icmp .lt 5, 3) := by decide +kernel
theorem dX0_carryOut_52 : decode cX0_carryOut 52 = .ok (.iconst 0, 1) := by decide +kernel
theorem dX0_carryOut_53 : decode cX0_carryOut 53 = .ok (.ireturn, 1) := by decide +kernel
theorem dX0_carryOut_54 : decode cX0_carryOut 54 = .ok (.aload_n 0, 1) := by decide +kernel
theorem dX0_carryOut_55 : decode cX0_carryOut 55 = .ok (.getfield 15, 3) := by decide +kernel
theorem dX0_carryOut_58 : decode cX0_carryOut 58 = .ok (.aload_n 1, 1) := by decide +kernel
theorem dX0_carryOut_59 : decode cX0_carryOut 59 = .ok (.invokevirtual 25, 3) := by decide +kernel
theorem dX0_carryOut_62 : decode cX0_carryOut 62 = .ok (.iconst 1, 1) := by decide +kernel
theorem dX0_carryOut_63 : decode cX0_carryOut 63 = .ok (.ireturn, 1) := by decide +kernel
theorem dX0_carryOut_64 : decode cX0_carryOut 64 = .ok (.aload_n 0, 1) := by decide +kernel
theorem dX0_carryOut_65 : decode cX0_carryOut 65 = .ok (.aload_n 1, 1) := by decide +kernel
theorem dX0_carryOut_66 : decode cX0_carryOut 66 = .ok (.iload_n 3, 1) := by decide +kernel
theorem dX0_carryOut_67 : decode cX0_carryOut 67 = .ok (.invokevirtual 31, 3) := by decide +kernel
theorem dX0_carryOut_70 : decode cX0_carryOut 70 = .ok (.ireturn, 1) := by decide +kernel
theorem dX0_carryOut_71 : decode cX0_carryOut 71 = .ok (.aload_n 0, 1) := by decide +kernel
theorem dX0_carryOut_72 : decode cX0_carryOut 72 = .ok (.aload_n 1, 1) := by decide +kernel
theorem dX0_carryOut_73 : decode cX0_carryOut 73 = .ok (.invokevirtual 35, 3) := by decide +kernel
theorem dX0_carryOut_76 : decode cX0_carryOut 76 = .ok (.ireturn, 1) := by decide +kernel
theorem dX0_carryOut_77 : decode cX0_carryOut 77 = .ok (.aload_n 0, 1) := by decide +kernel
theorem dX0_carryOut_78 : decode cX0_carryOut 78 = .ok (.aload_n 1, 1) := by decide +kernel
theorem dX0_carryOut_79 : decode cX0_carryOut 79 = .ok (.invokevirtual 39, 3) := by decide +kernel
theorem dX0_carryOut_82 : decode cX0_carryOut 82 = .ok (.ireturn, 1) := by decide +kernel
theorem dX0_carryOut_83 : decode cX0_carryOut 83 = .ok (.aload_n 0, 1) := by decide +kernel
theorem dX0_carryOut_84 : decode cX0_carryOut 84 = .ok (.aload_n 1, 1) := by decide +kernel
theorem dX0_carryOut_85 : decode cX0_carryOut 85 = .ok (.iload_n 3, 1) := by decide +kernel
theorem dX0_carryOut_86 : decode cX0_carryOut 86 = .ok (.iload 4, 2) := by decide +kernel
theorem dX0_carryOut_88 : decode cX0_carryOut 88 = .ok (.invokevirtual 42, 3) := by decide +kernel
theorem dX0_carryOut_91 : decode cX0_carryOut 91 = .ok (.ireturn, 1) := by decide +kernel
theorem dX0_carryOut_92 : decode cX0_carryOut 92 = .ok (.aload_n 0, 1) := by decide +kernel
theorem dX0_carryOut_93 : decode cX0_carryOut 93 = .ok (.aload_n 1, 1) := by decide +kernel
theorem dX0_carryOut_94 : decode cX0_carryOut 94 = .ok (.iload_n 3, 1) := by decide +kernel
theorem dX0_carryOut_95 : decode cX0_carryOut 95 = .ok (.iload 4, 2) := by decide +kernel
theorem dX0_carryOut_97 : decode cX0_carryOut 97 = .ok (.invokevirtual 46, 3) := by decide +kernel
theorem dX0_carryOut_100 : decode cX0_carryOut 100 = .ok (.ireturn, 1) := by decide +kernel
theorem dX0_carryOut_101 : decode cX0_carryOut 101 = .ok (.iconst 0, 1) := by decide +kernel
theorem dX0_carryOut_102 : decode cX0_carryOut 102 = .ok (.ireturn, 1) := by decide +kernel
theorem dX0_chooseDish_0 : decode cX0_chooseDish 0 = .ok (.aload_n 0, 1) := by decide +kernel
theorem dX0_chooseDish_1 : decode cX0_chooseDish 1 = .ok (.getfield 9, 3) := by decide +kernel
theorem dX0_chooseDish_4 : decode cX0_chooseDish 4 = .ok (.iload_n 2, 1) := by decide +kernel
theorem dX0_chooseDish_5 : decode cX0_chooseDish 5 = .ok (.invokevirtual 49, 3) := by decide +kernel
theorem dX0_chooseDish_8 : decode cX0_chooseDish 8 = .ok (.ifCond .eq 13, 3) := by decide +kernel
theorem dX0_chooseDish_11 : decode cX0_chooseDish 11 = .ok (.aload_n 1, 1) := by decide +kernel
theorem dX0_chooseDish_12 : decode cX0_chooseDish 12 = .ok (.getfield 19, 3) := by decide +kernel
theorem dX0_chooseDish_15 : decode cX0_chooseDish 15 = .ok (.iconst 3, 1) := by decide +kernel
theorem dX0_chooseDish_16 : decode cX0_chooseDish 16 = .ok (.iaload, 1) := by decide +kernel
theorem dX0_chooseDish_17 : decode cX0_chooseDish 17 = .ok (.iload_n 2, 1) := by decide +kernel
theorem dX0_chooseDish_18 : decode cX0_chooseDish 18 = .ok (.if_icmp .ne 5, 3) := by decide +kernel
theorem dX0_chooseDish_21 : decode cX0_chooseDish 21 = .ok (.iconst 0, 1) := by decide +kernel
theorem dX0_chooseDish_22 : decode cX0_chooseDish 22 = .ok (.ireturn, 1) := by decide +kernel
theorem dX0_chooseDish_23 : decode cX0_chooseDish 23 = .ok (.aload_n 1, 1) := by decide +kernel
theorem dX0_chooseDish_24 : decode cX0_chooseDish 24 = .ok (.getfield 19, 3) := by decide +kernel
theorem dX0_chooseDish_27 : decode cX0_chooseDish 27 = .ok (.iconst 3, 1) := by decide +kernel
theorem dX0_chooseDish_28 : decode cX0_chooseDish 28 = .ok (.iload_n 2, 1) := by decide +kernel
theorem dX0_chooseDish_29 : decode cX0_chooseDish 29 = .ok (.iastore, 1) := by decide +kernel
theorem dX0_chooseDish_30 : decode cX0_chooseDish 30 = .ok (.iconst 1, 1) := by decide +kernel
theorem dX0_chooseDish_31 : decode cX0_chooseDish 31 = .ok (.ireturn, 1) := by decide +kernel
theorem dX0_fallIll_0 : decode cX0_fallIll 0 = .ok (.aload_n 1, 1) := by decide +kernel
theorem dX0_fallIll_1 : decode cX0_fallIll 1 = .ok (.getfield 19, 3) := by decide +kernel
theorem dX0_fallIll_4 : decode cX0_fallIll 4 = .ok (.iconst 1, 1) := by decide +kernel
theorem dX0_fallIll_5 : decode cX0_fallIll 5 = .ok (.iaload, 1) := by decide +kernel
theorem dX0_fallIll_6 : decode cX0_fallIll 6 = .ok (.iconst 3, 1) := by decide +kernel
theorem dX0_fallIll_7 : decode cX0_fallIll 7 = .ok (.if_icmp .lt 5, 3) := by decide +kernel
theorem dX0_fallIll_10 : decode cX0_fallIll 10 = .ok (.iconst 0, 1) := by decide +kernel
theorem dX0_fallIll_11 : decode cX0_fallIll 11 = .ok (.ireturn, 1) := by decide +kernel
theorem dX0_fallIll_12 : decode cX0_fallIll 12 = .ok (.aload_n 1, 1) := by decide +kernel
theorem dX0_fallIll_13 : decode cX0_fallIll 13 = .ok (.getfield 19, 3) := by decide +kernel
theorem dX0_fallIll_16 : decode cX0_fallIll 16 = .ok (.iconst 1, 1) := by decide +kernel
theorem dX0_fallIll_17 : decode cX0_fallIll 17 = .ok (.dup2, 1) := by decide +kernel
theorem dX0_fallIll_18 : decode cX0_fallIll 18 = .ok (.iaload, 1) := by decide +kernel
theorem dX0_fallIll_19 : decode cX0_fallIll 19 = .ok (.iconst 1, 1) := by decide +kernel
theorem dX0_fallIll_20 : decode cX0_fallIll 20 = .ok (.iadd, 1) := by decide +kernel
theorem dX0_fallIll_21 : decode cX0_fallIll 21 = .ok (.iastore, 1) := by decide +kernel
theorem dX0_fallIll_22 : decode cX0_fallIll 22 = .ok (.iconst 1, 1) := by decide +kernel
theorem dX0_fallIll_23 : decode cX0_fallIll 23 = .ok (.ireturn, 1) := by decide +kernel
theorem dX0_makeHandUp_0 : decode cX0_makeHandUp 0 = .ok (.aload_n 1, 1) := by decide +kernel
theorem dX0_makeHandUp_1 : decode cX0_makeHandUp 1 = .ok (.getfield 19, 3) := by decide +kernel
theorem dX0_makeHandUp_4 : decode cX0_makeHandUp 4 = .ok (.iconst 1, 1) := by decide +kernel
theorem dX0_makeHandUp_5 : decode cX0_makeHandUp 5 = .ok (.iaload, 1) := by decide +kernel
theorem dX0_makeHandUp_6 : decode cX0_makeHandUp 6 = .ok (.ifCond .le 13, 3) := by decide +kernel
theorem dX0_makeHandUp_9 : decode cX0_makeHandUp 9 = .ok (.aload_n 1, 1) := by decide +kernel
theorem dX0_makeHandUp_10 : decode cX0_makeHandUp 10 = .ok (.getfield 19, 3) := by decide +kernel
theorem dX0_makeHandUp_13 : decode cX0_makeHandUp 13 = .ok (.iconst 2, 1) := by decide +kernel
theorem dX0_makeHandUp_14 : decode cX0_makeHandUp 14 = .ok (.iaload, 1) := by decide +kernel
theorem dX0_makeHandUp_15 : decode cX0_makeHandUp 15 = .ok (.iconst 5, 1) := by decide +kernel
theorem dX0_makeHandUp_16 : decode cX0_makeHandUp 16 = .ok (.if_icmp .ge 5, 3) := by decide +kernel
theorem dX0_makeHandUp_19 : decode cX0_makeHandUp 19 = .ok (.iconst 0, 1) := by decide +kernel
theorem dX0_makeHandUp_20 : decode cX0_makeHandUp 20 = .ok (.ireturn, 1) := by decide +kernel
theorem dX0_makeHandUp_21 : decode cX0_makeHandUp 21 = .ok (.aload_n 1, 1) := by decide +kernel
theorem dX0_makeHandUp_22 : decode cX0_makeHandUp 22 = .ok (.getfield 19, 3) := by decide +kernel
theorem dX0_makeHandUp_25 : decode cX0_makeHandUp 25 = .ok (.iconst 1, 1) := by decide +kernel
theorem dX0_makeHandUp_26 : decode cX0_makeHandUp 26 = .ok (.dup2, 1) := by decide +kernel
theorem dX0_makeHandUp_27 : decode cX0_makeHandUp 27 = .ok (.iaload, 1) := by decide +kernel
theorem dX0_makeHandUp_28 : decode cX0_makeHandUp 28 = .ok (.iconst 1, 1) := by decide +kernel
theorem dX0_makeHandUp_29 : decode cX0_makeHandUp 29 = .ok (.isub, 1) := by decide +kernel
theorem dX0_makeHandUp_30 : decode cX0_makeHandUp 30 = .ok (.iastore, 1) := by decide +kernel
theorem dX0_makeHandUp_31 : decode cX0_makeHandUp 31 = .ok (.aload_n 1, 1) := by decide +kernel
theorem dX0_makeHandUp_32 : decode cX0_makeHandUp 32 = .ok (.getfield 19, 3) := by decide +kernel
theorem dX0_makeHandUp_35 : decode cX0_makeHandUp 35 = .ok (.iconst 2, 1) := by decide +kernel
theorem dX0_makeHandUp_36 : decode cX0_makeHandUp 36 = .ok (.dup2, 1) := by decide +kernel
theorem dX0_makeHandUp_37 : decode cX0_makeHandUp 37 = .ok (.iaload, 1) := by decide +kernel
theorem dX0_makeHandUp_38 : decode cX0_makeHandUp 38 = .ok (.iconst 5, 1) := by decide +kernel
theorem dX0_makeHandUp_39 : decode cX0_makeHandUp 39 = .ok (.isub, 1) := by decide +kernel
theorem dX0_makeHandUp_40 : decode cX0_makeHandUp 40 = .ok (.iastore, 1) := by decide +kernel
theorem dX0_makeHandUp_41 : decode cX0_makeHandUp 41 = .ok (.iconst 1, 1) := by decide +kernel
theorem dX0_makeHandUp_42 : decode cX0_makeHandUp 42 = .ok (.ireturn, 1) := by decide +kernel
theorem dX0_stayLonger_0 : decode cX0_stayLonger 0 = .ok (.aload_n 0, 1) := by decide +kernel
theorem dX0_stayLonger_1 : decode cX0_stayLonger 1 = .ok (.getfield 9, 3) := by decide +kernel
theorem dX0_stayLonger_4 : decode cX0_stayLonger 4 = .ok (.iload_n 2, 1) := by decide +kernel
theorem dX0_stayLonger_5 : decode cX0_stayLonger 5 = .ok (.invokevirtual 55, 3) := by decide +kernel
theorem dX0_stayLonger_8 : decode cX0_stayLonger 8 = .ok (.ifCond .eq 38, 3) := by decide +kernel
theorem dX0_stayLonger_11 : decode cX0_stayLonger 11 = .ok (.aload_n 1, 1) := by decide +kernel
theorem dX0_stayLonger_12 : decode cX0_stayLonger 12 = .ok (.iload_n 2, 1) := by decide +kernel
theorem dX0_stayLonger_13 : decode cX0_stayLonger 13 = .ok (.invokevirtual 58, 3) := by decide +kernel
theorem dX0_stayLonger_16 : decode cX0_stayLonger 16 = .ok (.ifCond .ne 30, 3) := by decide +kernel
theorem dX0_stayLonger_19 : decode cX0_stayLonger 19 = .ok (.iload_n 3, 1) := by decide +kernel
theorem dX0_stayLonger_20 : decode cX0_stayLonger 20 = .ok (.iconst 1, 1) := by decide +kernel
theorem dX0_stayLonger_21 : decode cX0_stayLonger 21 = .ok (.if_icmp .lt 25, 3) := by decide +kernel
theorem dX0_stayLonger_24 : decode cX0_stayLonger 24 = .ok (.iload_n 3, 1) := by decide +kernel
theorem dX0_stayLonger_25 : decode cX0_stayLonger 25 = .ok (.bipush 9, 2) := by decide +kernel
theorem dX0_stayLonger_27 : decode cX0_stayLonger 27 = .ok (.if_icmp .gt 19, 3) := by decide +kernel
theorem dX0_stayLonger_30 : decode cX0_stayLonger 30 = .ok (.aload_n 1, 1) := by decide +kernel
theorem dX0_stayLonger_31 : decode cX0_stayLonger 31 = .ok (.getfield 19, 3) := by decide +kernel
theorem dX0_stayLonger_34 : decode cX0_stayLonger 34 = .ok (.bipush 13, 2) := by decide +kernel
theorem dX0_stayLonger_36 : decode cX0_stayLonger 36 = .ok (.iload_n 2, 1) := by decide +kernel
theorem dX0_stayLonger_37 : decode cX0_stayLonger 37 = .ok (.iadd, 1) := by decide +kernel
theorem dX0_stayLonger_38 : decode cX0_stayLonger 38 = .ok (.iaload, 1) := by decide +kernel
theorem dX0_stayLonger_39 : decode cX0_stayLonger 39 = .ok (.iload_n 3, 1) := by decide +kernel
theorem dX0_stayLonger_40 : decode cX0_stayLonger 40 = .ok (.iadd, 1) := by decide +kernel
theorem dX0_stayLonger_41 : decode cX0_stayLonger 41 = .ok (.bipush 99, 2) := by decide +kernel
theorem dX0_stayLonger_43 : decode cX0_stayLonger 43 = .ok (.if_icmp .le 5, 3) := by decide +kernel
theorem dX0_stayLonger_46 : decode cX0_stayLonger 46 = .ok (.iconst 0, 1) := by decide +kernel
theorem dX0_stayLonger_47 : decode cX0_stayLonger 47 = .ok (.ireturn, 1) := by decide +kernel
theorem dX0_stayLonger_48 : decode cX0_stayLonger 48 = .ok (.aload_n 1, 1) := by decide +kernel
theorem dX0_stayLonger_49 : decode cX0_stayLonger 49 = .ok (.getfield 19, 3) := by decide +kernel
theorem dX0_stayLonger_52 : decode cX0_stayLonger 52 = .ok (.bipush 13, 2) := by decide +kernel
theorem dX0_stayLonger_54 : decode cX0_stayLonger 54 = .ok (.iload_n 2, 1) := by decide +kernel
theorem dX0_stayLonger_55 : decode cX0_stayLonger 55 = .ok (.iadd, 1) := by decide +kernel
theorem dX0_stayLonger_56 : decode cX0_stayLonger 56 = .ok (.dup2, 1) := by decide +kernel
theorem dX0_stayLonger_57 : decode cX0_stayLonger 57 = .ok (.iaload, 1) := by decide +kernel
theorem dX0_stayLonger_58 : decode cX0_stayLonger 58 = .ok (.iload_n 3, 1) := by decide +kernel
theorem dX0_stayLonger_59 : decode cX0_stayLonger 59 = .ok (.iadd, 1) := by decide +kernel
theorem dX0_stayLonger_60 : decode cX0_stayLonger 60 = .ok (.iastore, 1) := by decide +kernel
theorem dX0_stayLonger_61 : decode cX0_stayLonger 61 = .ok (.iconst 1, 1) := by decide +kernel
theorem dX0_stayLonger_62 : decode cX0_stayLonger 62 = .ok (.ireturn, 1) := by decide +kernel
theorem dX0_likeAnother_0 : decode cX0_likeAnother 0 = .ok (.aload_n 0, 1) := by decide +kernel
theorem dX0_likeAnother_1 : decode cX0_likeAnother 1 = .ok (.getfield 9, 3) := by decide +kernel
theorem dX0_likeAnother_4 : decode cX0_likeAnother 4 = .ok (.iload_n 2, 1) := by decide +kernel
theorem dX0_likeAnother_5 : decode cX0_likeAnother 5 = .ok (.invokevirtual 55, 3) := by decide +kernel
theorem dX0_likeAnother_8 : decode cX0_likeAnother 8 = .ok (.ifCond .eq 25, 3) := by decide +kernel
theorem dX0_likeAnother_11 : decode cX0_likeAnother 11 = .ok (.iload_n 3, 1) := by decide +kernel
theorem dX0_likeAnother_12 : decode cX0_likeAnother 12 = .ok (.ifCond .lt 21, 3) := by decide +kernel
theorem dX0_likeAnother_15 : decode cX0_likeAnother 15 = .ok (.iload_n 3, 1) := by decide +kernel
theorem dX0_likeAnother_16 : decode cX0_likeAnother 16 = .ok (.iconst 4, 1) := by decide +kernel
theorem dX0_likeAnother_17 : decode cX0_likeAnother 17 = .ok (.if_icmp .ge 16, 3) := by decide +kernel
theorem dX0_likeAnother_20 : decode cX0_likeAnother 20 = .ok (.aload_n 1, 1) := by decide +kernel
theorem dX0_likeAnother_21 : decode cX0_likeAnother 21 = .ok (.getfield 19, 3) := by decide +kernel
theorem dX0_likeAnother_24 : decode cX0_likeAnother 24 = .ok (.bipush 19, 2) := by decide +kernel
theorem dX0_likeAnother_26 : decode cX0_likeAnother 26 = .ok (.iload_n 2, 1) := by decide +kernel
theorem dX0_likeAnother_27 : decode cX0_likeAnother 27 = .ok (.iadd, 1) := by decide +kernel
theorem dX0_likeAnother_28 : decode cX0_likeAnother 28 = .ok (.iaload, 1) := by decide +kernel
theorem dX0_likeAnother_29 : decode cX0_likeAnother 29 = .ok (.iload_n 3, 1) := by decide +kernel
theorem dX0_likeAnother_30 : decode cX0_likeAnother 30 = .ok (.if_icmp .ne 5, 3) := by decide +kernel
theorem dX0_likeAnother_33 : decode cX0_likeAnother 33 = .ok (.iconst 0, 1) := by decide +kernel
theorem dX0_likeAnother_34 : decode cX0_likeAnother 34 = .ok (.ireturn, 1) := by decide +kernel
theorem dX0_likeAnother_35 : decode cX0_likeAnother 35 = .ok (.aload_n 1, 1) := by decide +kernel
theorem dX0_likeAnother_36 : decode cX0_likeAnother 36 = .ok (.getfield 19, 3) := by decide +kernel
theorem dX0_likeAnother_39 : decode cX0_likeAnother 39 = .ok (.bipush 19, 2) := by decide +kernel
theorem dX0_likeAnother_41 : decode cX0_likeAnother 41 = .ok (.iload_n 2, 1) := by decide +kernel
theorem dX0_likeAnother_42 : decode cX0_likeAnother 42 = .ok (.iadd, 1) := by decide +kernel
theorem dX0_likeAnother_43 : decode cX0_likeAnother 43 = .ok (.iload_n 3, 1) := by decide +kernel
theorem dX0_likeAnother_44 : decode cX0_likeAnother 44 = .ok (.iastore, 1) := by decide +kernel
theorem dX0_likeAnother_45 : decode cX0_likeAnother 45 = .ok (.iconst 1, 1) := by decide +kernel
theorem dX0_likeAnother_46 : decode cX0_likeAnother 46 = .ok (.ireturn, 1) := by decide +kernel
theorem dX1_init_0 : decode cX1_init 0 = .ok (.aload_n 0, 1) := by decide +kernel
theorem dX1_init_1 : decode cX1_init 1 = .ok (.invokespecial 3, 3) := by decide +kernel
theorem dX1_init_4 : decode cX1_init 4 = .ok (.aload_n 0, 1) := by decide +kernel
theorem dX1_init_5 : decode cX1_init 5 = .ok (.bipush 6, 2) := by decide +kernel
theorem dX1_init_7 : decode cX1_init 7 = .ok (.newarray .int, 2) := by decide +kernel
theorem dX1_init_9 : decode cX1_init 9 = .ok (.putfield 9, 3) := by decide +kernel
theorem dX1_init_12 : decode cX1_init 12 = .ok (.aload_n 0, 1) := by decide +kernel
theorem dX1_init_13 : decode cX1_init 13 = .ok (.bipush 6, 2) := by decide +kernel
theorem dX1_init_15 : decode cX1_init 15 = .ok (.newarray .int, 2) := by decide +kernel
theorem dX1_init_17 : decode cX1_init 17 = .ok (.putfield 15, 3) := by decide +kernel
theorem dX1_init_20 : decode cX1_init 20 = .ok (.aload_n 0, 1) := by decide +kernel
theorem dX1_init_21 : decode cX1_init 21 = .ok (.aconst_null, 1) := by decide +kernel
theorem dX1_init_22 : decode cX1_init 22 = .ok (.putfield 18, 3) := by decide +kernel
theorem dX1_init_25 : decode cX1_init 25 = .ok (.aload_n 0, 1) := by decide +kernel
theorem dX1_init_26 : decode cX1_init 26 = .ok (.iconst 0, 1) := by decide +kernel
theorem dX1_init_27 : decode cX1_init 27 = .ok (.putfield 22, 3) := by decide +kernel
theorem dX1_init_30 : decode cX1_init 30 = .ok (.aload_n 0, 1) := by decide +kernel
theorem dX1_init_31 : decode cX1_init 31 = .ok (.iconst (-1), 1) := by decide +kernel
theorem dX1_init_32 : decode cX1_init 32 = .ok (.putfield 26, 3) := by decide +kernel
theorem dX1_init_35 : decode cX1_init 35 = .ok (.aload_n 0, 1) := by decide +kernel
theorem dX1_init_36 : decode cX1_init 36 = .ok (.iconst 0, 1) := by decide +kernel
theorem dX1_init_37 : decode cX1_init 37 = .ok (.putfield 29, 3) := by decide +kernel
theorem dX1_init_40 : decode cX1_init 40 = .ok (.aload_n 0, 1) := by decide +kernel
theorem dX1_init_41 : decode cX1_init 41 = .ok (.iconst (-1), 1) := by decide +kernel
theorem dX1_init_42 : decode cX1_init 42 = .ok (.putfield 32, 3) := by decide +kernel
theorem dX1_init_45 : decode cX1_init 45 = .ok (.aload_n 0, 1) := by decide +kernel
theorem dX1_init_46 : decode cX1_init 46 = .ok (.iconst 0, 1) := by decide +kernel
theorem dX1_init_47 : decode cX1_init 47 = .ok (.putfield 35, 3) := by decide +kernel
theorem dX1_init_50 : decode cX1_init 50 = .ok (.aload_n 0, 1) := by decide +kernel
theorem dX1_init_51 : decode cX1_init 51 = .ok (.iconst 0, 1) := by decide +kernel
theorem dX1_init_52 : decode cX1_init 52 = .ok (.putfield 38, 3) := by decide +kernel
theorem dX1_init_55 : decode cX1_init 55 = .ok (.aload_n 0, 1) := by decide +kernel
theorem dX1_init_56 : decode cX1_init 56 = .ok (.iconst 0, 1) := by decide +kernel
theorem dX1_init_57 : decode cX1_init 57 = .ok (.putfield 41, 3) := by decide +kernel
theorem dX1_init_60 : decode cX1_init 60 = .ok (.aload_n 0, 1) := by decide +kernel
theorem dX1_init_61 : decode cX1_init 61 = .ok (.iconst 0, 1) := by decide +kernel
theorem dX1_init_62 : decode cX1_init 62 = .ok (.putfield 44, 3) := by decide +kernel
theorem dX1_init_65 : decode cX1_init 65 = .ok (.aload_n 0, 1) := by decide +kernel
theorem dX1_init_66 : decode cX1_init 66 = .ok (.aload_n 1, 1) := by decide +kernel
theorem dX1_init_67 : decode cX1_init 67 = .ok (.putfield 47, 3) := by decide +kernel
theorem dX1_init_70 : decode cX1_init 70 = .ok (.return_, 1) := by decide +kernel
theorem dX1_isThere_0 : decode cX1_isThere 0 = .ok (.aload_n 1, 1) := by decide +kernel
theorem dX1_isThere_1 : decode cX1_isThere 1 = .ok (.getfield 51, 3) := by decide +kernel
theorem dX1_isThere_4 : decode cX1_isThere 4 = .ok (.iconst 0, 1) := by decide +kernel
theorem dX1_isThere_5 : decode cX1_isThere 5 = .ok (.iaload, 1) := by decide +kernel
theorem dX1_isThere_6 : decode cX1_isThere 6 = .ok (.aload_n 0, 1) := by decide +kernel
theorem dX1_isThere_7 : decode cX1_isThere 7 = .ok (.getfield 47, 3) := by decide +kernel
theorem dX1_isThere_10 : decode cX1_isThere 10 = .ok (.iload_n 2, 1) := by decide +kernel
theorem dX1_isThere_11 : decode cX1_isThere 11 = .ok (.iconst 0, 1) := by decide +kernel
theorem dX1_isThere_12 : decode cX1_isThere 12 = .ok (.invokevirtual 56, 3) := by decide +kernel
theorem dX1_isThere_15 : decode cX1_isThere 15 = .ok (.isub, 1) := by decide +kernel
theorem dX1_isThere_16 : decode cX1_isThere 16 = .ok (.istore_n 3, 1) := by decide +kernel
theorem dX1_isThere_17 : decode cX1_isThere 17 = .ok (.iload_n 3, 1) := by decide +kernel
theorem dX1_isThere_18 : decode cX1_isThere 18 = .ok (.ifCond .lt 28, 3) := by decide +kernel
theorem dX1_isThere_21 : decode cX1_isThere 21 = .ok (.iload_n 3, 1) := by decide +kernel
theorem dX1_isThere_22 : decode cX1_isThere 22 = .ok (.aload_n 1, 1) := by decide +kernel
theorem dX1_isThere_23 : decode cX1_isThere 23 = .ok (.getfield 51, 3) := by decide +kernel
theorem dX1_isThere_26 : decode cX1_isThere 26 = .ok (.bipush 13, 2) := by decide +kernel
theorem dX1_isThere_28 : decode cX1_isThere 28 = .ok (.iload_n 2, 1) := by decide +kernel
theorem dX1_isThere_29 : decode cX1_isThere 29 = .ok (.iadd, 1) := by decide +kernel
theorem dX1_isThere_30 : decode cX1_isThere 30 = .ok (.iaload, 1) := by decide +kernel
theorem dX1_isThere_31 : decode cX1_isThere 31 = .ok (.if_icmp .ge 15, 3) := by decide +kernel
theorem dX1_isThere_34 : decode cX1_isThere 34 = .ok (.aload_n 1, 1) := by decide +kernel
theorem dX1_isThere_35 : decode cX1_isThere 35 = .ok (.iload_n 2, 1) := by decide +kernel
theorem dX1_isThere_36 : decode cX1_isThere 36 = .ok (.invokevirtual 62, 3) := by decide +kernel
theorem dX1_isThere_39 : decode cX1_isThere 39 = .ok (.ifCond .ne 7, 3) := by decide +kernel
theorem dX1_isThere_42 : decode cX1_isThere 42 = .ok (.iconst 1, 1) := by decide +kernel
theorem dX1_isThere_43 : decode cX1_isThere 43 = .ok (.goto 4, 3) := by decide +kernel
theorem dX1_isThere_46 : decode cX1_isThere 46 = .ok (.iconst 0, 1) := by decide +kernel
theorem dX1_isThere_47 : decode cX1_isThere 47 = .ok (.ireturn, 1) := by decide +kernel
theorem dX1_lay_0 : decode cX1_lay 0 = .ok (.aload_n 0, 1) := by decide +kernel
theorem dX1_lay_1 : decode cX1_lay 1 = .ok (.iconst 0, 1) := by decide +kernel
theorem dX1_lay_2 : decode cX1_lay 2 = .ok (.putfield 22, 3) := by decide +kernel
theorem dX1_lay_5 : decode cX1_lay 5 = .ok (.iconst 0, 1) := by decide +kernel
theorem dX1_lay_6 : decode cX1_lay 6 = .ok (.istore_n 2, 1) := by decide +kernel
theorem dX1_lay_7 : decode cX1_lay 7 = .ok (.iload_n 2, 1) := by decide +kernel
theorem dX1_lay_8 : decode cX1_lay 8 = .ok (.aload_n 0, 1) := by decide +kernel
theorem dX1_lay_9 : decode cX1_lay 9 = .ok (.getfield 47, 3) := by decide +kernel
theorem dX1_lay_12 : decode cX1_lay 12 = .ok (.getfield 66, 3) := by decide +kernel
theorem dX1_lay_15 : decode cX1_lay 15 = .ok (.if_icmp .ge 30, 3) := by decide +kernel
theorem dX1_lay_18 : decode cX1_lay 18 = .ok (.aload_n 0, 1) := by decide +kernel
theorem dX1_lay_19 : decode cX1_lay 19 = .ok (.aload_n 1, 1) := by decide +kernel
theorem dX1_lay_20 : decode cX1_lay 20 = .ok (.iload_n 2, 1) := by decide +kernel
theorem dX1_lay_21 : decode cX1_lay 21 = .ok (.invokevirtual 69, 3) := by decide +kernel
theorem dX1_lay_24 : decode cX1_lay 24 = .ok (.ifCond .eq 15, 3) := by decide +kernel
theorem dX1_lay_27 : decode cX1_lay 27 = .ok (.aload_n 0, 1) := by decide +kernel
theorem dX1_lay_28 : decode cX1_lay 28 = .ok (.dup, 1) := by decide +kernel
theorem dX1_lay_29 : decode cX1_lay 29 = .ok (.getfield 22, 3) := by decide +kernel
theorem dX1_lay_32 : decode cX1_lay 32 = .ok (.iconst 1, 1) := by decide +kernel
theorem dX1_lay_33 : decode cX1_lay 33 = .ok (.iload_n 2, 1) := by decide +kernel
theorem dX1_lay_34 : decode cX1_lay 34 = .ok (.ishl, 1) := by decide +kernel
theorem dX1_lay_35 : decode cX1_lay 35 = .ok (.ior, 1) := by decide +kernel
theorem dX1_lay_36 : decode cX1_lay 36 = .ok (.putfield 22, 3) := by decide +kernel
theorem dX1_lay_39 : decode cX1_lay 39 = .ok (.iinc 2 1, 3) := by decide +kernel
theorem dX1_lay_42 : decode cX1_lay 42 = .ok (.goto (-35), 3) := by decide +kernel
theorem dX1_lay_45 : decode cX1_lay 45 = .ok (.aload_n 0, 1) := by decide +kernel
theorem dX1_lay_46 : decode cX1_lay 46 = .ok (.aload_n 1, 1) := by decide +kernel
theorem dX1_lay_47 : decode cX1_lay 47 = .ok (.getfield 51, 3) := by decide +kernel
theorem dX1_lay_50 : decode cX1_lay 50 = .ok (.iconst 3, 1) := by decide +kernel
theorem dX1_lay_51 : decode cX1_lay 51 = .ok (.iaload, 1) := by decide +kernel
theorem dX1_lay_52 : decode cX1_lay 52 = .ok (.iconst (-1), 1) := by decide +kernel
theorem dX1_lay_53 : decode cX1_lay 53 = .ok (.if_icmp .ne 19, 3) := by decide +kernel
theorem dX1_lay_56 : decode cX1_lay 56 = .ok (.aload_n 0, 1) := by decide +kernel
theorem dX1_lay_57 : decode cX1_lay 57 = .ok (.getfield 47, 3) := by decide +kernel
theorem dX1_lay_60 : decode cX1_lay 60 = .ok (.aload_n 1, 1) := by decide +kernel
theorem dX1_lay_61 : decode cX1_lay 61 = .ok (.getfield 51, 3) := by decide +kernel
theorem dX1_lay_64 : decode cX1_lay 64 = .ok (.iconst 0, 1) := by decide +kernel
theorem dX1_lay_65 : decode cX1_lay 65 = .ok (.iaload, 1) := by decide +kernel
theorem dX1_lay_66 : decode cX1_lay 66 = .ok (.invokevirtual 73, 3) := by decide +kernel
theorem dX1_lay_69 : decode cX1_lay 69 = .ok (.goto 9, 3) := by decide +kernel
theorem dX1_lay_72 : decode cX1_lay 72 = .ok (.aload_n 1, 1) := by decide +kernel
theorem dX1_lay_73 : decode cX1_lay 73 = .ok (.getfield 51, 3) := by decide +kernel
theorem dX1_lay_76 : decode cX1_lay 76 = .ok (.iconst 3, 1) := by decide +kernel
theorem dX1_lay_77 : decode cX1_lay 77 = .ok (.iaload, 1) := by decide +kernel
theorem dX1_lay_78 : decode cX1_lay 78 = .ok (.putfield 26, 3) := by decide +kernel
theorem dX1_lay_81 : decode cX1_lay 81 = .ok (.aload_n 0, 1) := by decide +kernel
theorem dX1_lay_82 : decode cX1_lay 82 = .ok (.aload_n 0, 1) := by decide +kernel
theorem dX1_lay_83 : decode cX1_lay 83 = .ok (.getfield 22, 3) := by decide +kernel
theorem dX1_lay_86 : decode cX1_lay 86 = .ok (.invokestatic 77, 3) := by decide +kernel
theorem dX1_lay_89 : decode cX1_lay 89 = .ok (.putfield 29, 3) := by decide +kernel
theorem dX1_lay_92 : decode cX1_lay 92 = .ok (.aload_n 0, 1) := by decide +kernel
theorem dX1_lay_93 : decode cX1_lay 93 = .ok (.aload_n 1, 1) := by decide +kernel
theorem dX1_lay_94 : decode cX1_lay 94 = .ok (.invokevirtual 82, 3) := by decide +kernel
theorem dX1_lay_97 : decode cX1_lay 97 = .ok (.aload_n 0, 1) := by decide +kernel
theorem dX1_lay_98 : decode cX1_lay 98 = .ok (.aload_n 1, 1) := by decide +kernel
theorem dX1_lay_99 : decode cX1_lay 99 = .ok (.invokevirtual 86, 3) := by decide +kernel
theorem dX1_lay_102 : decode cX1_lay 102 = .ok (.return_, 1) := by decide +kernel
theorem dX1_serve_0 : decode cX1_serve 0 = .ok (.aload_n 1, 1) := by decide +kernel
theorem dX1_serve_1 : decode cX1_serve 1 = .ok (.getfield 51, 3) := by decide +kernel
theorem dX1_serve_4 : decode cX1_serve 4 = .ok (.iconst 1, 1) := by decide +kernel
theorem dX1_serve_5 : decode cX1_serve 5 = .ok (.iaload, 1) := by decide +kernel
theorem dX1_serve_6 : decode cX1_serve 6 = .ok (.istore_n 2, 1) := by decide +kernel
theorem dX1_serve_7 : decode cX1_serve 7 = .ok (.aload_n 1, 1) := by decide +kernel
theorem dX1_serve_8 : decode cX1_serve 8 = .ok (.getfield 51, 3) := by decide +kernel
theorem dX1_serve_11 : decode cX1_serve 11 = .ok (.iconst 0, 1) := by decide +kernel
theorem dX1_serve_12 : decode cX1_serve 12 = .ok (.iaload, 1) := by decide +kernel
theorem dX1_serve_13 : decode cX1_serve 13 = .ok (.iload_n 2, 1) := by decide +kernel
theorem dX1_serve_14 : decode cX1_serve 14 = .ok (.isub, 1) := by decide +kernel
theorem dX1_serve_15 : decode cX1_serve 15 = .ok (.istore_n 3, 1) := by decide +kernel
theorem dX1_serve_16 : decode cX1_serve 16 = .ok (.aload_n 0, 1) := by decide +kernel
theorem dX1_serve_17 : decode cX1_serve 17 = .ok (.iconst (-1), 1) := by decide +kernel
theorem dX1_serve_18 : decode cX1_serve 18 = .ok (.putfield 32, 3) := by decide +kernel
theorem dX1_serve_21 : decode cX1_serve 21 = .ok (.aload_n 0, 1) := by decide +kernel
theorem dX1_serve_22 : decode cX1_serve 22 = .ok (.iconst 0, 1) := by decide +kernel
theorem dX1_serve_23 : decode cX1_serve 23 = .ok (.putfield 38, 3) := by decide +kernel
theorem dX1_serve_26 : decode cX1_serve 26 = .ok (.iload_n 2, 1) := by decide +kernel
theorem dX1_serve_27 : decode cX1_serve 27 = .ok (.ifCond .ne 22, 3) := by decide +kernel
theorem dX1_serve_30 : decode cX1_serve 30 = .ok (.aload_n 0, 1) := by decide +kernel
theorem dX1_serve_31 : decode cX1_serve 31 = .ok (.aload_n 0, 1) := by decide +kernel
theorem dX1_serve_32 : decode cX1_serve 32 = .ok (.getfield 26, 3) := by decide +kernel
theorem dX1_serve_35 : decode cX1_serve 35 = .ok (.putfield 32, 3) := by decide +kernel
theorem dX1_serve_38 : decode cX1_serve 38 = .ok (.aload_n 0, 1) := by decide +kernel
theorem dX1_serve_39 : decode cX1_serve 39 = .ok (.aload_n 0, 1) := by decide +kernel
theorem dX1_serve_40 : decode cX1_serve 40 = .ok (.getfield 29, 3) := by decide +kernel
theorem dX1_serve_43 : decode cX1_serve 43 = .ok (.putfield 38, 3) := by decide +kernel
theorem dX1_serve_46 : decode cX1_serve 46 = .ok (.goto 36, 3) := by decide +kernel
theorem dX1_serve_49 : decode cX1_serve 49 = .ok (.iload_n 3, 1) := by decide +kernel
theorem dX1_serve_50 : decode cX1_serve 50 = .ok (.ifCond .lt 32, 3) := by decide +kernel
theorem dX1_serve_53 : decode cX1_serve 53 = .ok (.aload_n 0, 1) := by decide +kernel
theorem dX1_serve_54 : decode cX1_serve 54 = .ok (.aload_n 1, 1) := by decide +kernel
theorem dX1_serve_55 : decode cX1_serve 55 = .ok (.getfield 51, 3) := by decide +kernel
theorem dX1_serve_58 : decode cX1_serve 58 = .ok (.iconst 5, 1) := by decide +kernel
theorem dX1_serve_59 : decode cX1_serve 59 = .ok (.iload_n 3, 1) := by decide +kernel
theorem dX1_serve_60 : decode cX1_serve 60 = .ok (.iconst 3, 1) := by decide +kernel
theorem dX1_serve_61 : decode cX1_serve 61 = .ok (.iand, 1) := by decide +kernel
theorem dX1_serve_62 : decode cX1_serve 62 = .ok (.iadd, 1) := by decide +kernel
theorem dX1_serve_63 : decode cX1_serve 63 = .ok (.iaload, 1) := by decide +kernel
theorem dX1_serve_64 : decode cX1_serve 64 = .ok (.putfield 32, 3) := by decide +kernel
theorem dX1_serve_67 : decode cX1_serve 67 = .ok (.aload_n 0, 1) := by decide +kernel
theorem dX1_serve_68 : decode cX1_serve 68 = .ok (.aload_n 1, 1) := by decide +kernel
theorem dX1_serve_69 : decode cX1_serve 69 = .ok (.getfield 51, 3) := by decide +kernel
theorem dX1_serve_72 : decode cX1_serve 72 = .ok (.bipush 9, 2) := by decide +kernel
theorem dX1_serve_74 : decode cX1_serve 74 = .ok (.iload_n 3, 1) := by decide +kernel
theorem dX1_serve_75 : decode cX1_serve 75 = .ok (.iconst 3, 1) := by decide +kernel
theorem dX1_serve_76 : decode cX1_serve 76 = .ok (.iand, 1) := by decide +kernel
theorem dX1_serve_77 : decode cX1_serve 77 = .ok (.iadd, 1) := by decide +kernel
theorem dX1_serve_78 : decode cX1_serve 78 = .ok (.iaload, 1) := by decide +kernel
theorem dX1_serve_79 : decode cX1_serve 79 = .ok (.putfield 38, 3) := by decide +kernel
theorem dX1_serve_82 : decode cX1_serve 82 = .ok (.aload_n 0, 1) := by decide +kernel
theorem dX1_serve_83 : decode cX1_serve 83 = .ok (.aload_n 0, 1) := by decide +kernel
theorem dX1_serve_84 : decode cX1_serve 84 = .ok (.getfield 32, 3) := by decide +kernel
theorem dX1_serve_87 : decode cX1_serve 87 = .ok (.iconst (-1), 1) := by decide +kernel
theorem dX1_serve_88 : decode cX1_serve 88 = .ok (.if_icmp .ne 7, 3) := by decide +kernel
theorem dX1_serve_91 : decode cX1_serve 91 = .ok (.iconst 0, 1) := by decide +kernel
theorem dX1_serve_92 : decode cX1_serve 92 = .ok (.goto 31, 3) := by decide +kernel
theorem dX1_serve_95 : decode cX1_serve 95 = .ok (.iconst 0, 1) := by decide +kernel
theorem dX1_serve_96 : decode cX1_serve 96 = .ok (.aload_n 0, 1) := by decide +kernel
theorem dX1_serve_97 : decode cX1_serve 97 = .ok (.getfield 47, 3) := by decide +kernel
theorem dX1_serve_100 : decode cX1_serve 100 = .ok (.aload_n 0, 1) := by decide +kernel
theorem dX1_serve_101 : decode cX1_serve 101 = .ok (.getfield 32, 3) := by decide +kernel
theorem dX1_serve_104 : decode cX1_serve 104 = .ok (.iconst 0, 1) := by decide +kernel
theorem dX1_serve_105 : decode cX1_serve 105 = .ok (.invokevirtual 89, 3) := by decide +kernel
theorem dX1_serve_108 : decode cX1_serve 108 = .ok (.aload_n 0, 1) := by decide +kernel
theorem dX1_serve_109 : decode cX1_serve 109 = .ok (.getfield 47, 3) := by decide +kernel
theorem dX1_serve_112 : decode cX1_serve 112 = .ok (.getfield 92, 3) := by decide +kernel
theorem dX1_serve_115 : decode cX1_serve 115 = .ok (.iconst 1, 1) := by decide +kernel
theorem dX1_serve_116 : decode cX1_serve 116 = .ok (.iaload, 1) := by decide +kernel
theorem dX1_serve_117 : decode cX1_serve 117 = .ok (.iload_n 2, 1) := by decide +kernel
theorem dX1_serve_118 : decode cX1_serve 118 = .ok (.imul, 1) := by decide +kernel
theorem dX1_serve_119 : decode cX1_serve 119 = .ok (.isub, 1) := by decide +kernel
theorem dX1_serve_120 : decode cX1_serve 120 = .ok (.invokestatic 95, 3) := by decide +kernel
theorem dX1_serve_123 : decode cX1_serve 123 = .ok (.putfield 35, 3) := by decide +kernel
theorem dX1_serve_126 : decode cX1_serve 126 = .ok (.return_, 1) := by decide +kernel
theorem dX1_feedThose_0 : decode cX1_feedThose 0 = .ok (.aload_n 0, 1) := by decide +kernel
theorem dX1_feedThose_1 : decode cX1_feedThose 1 = .ok (.getfield 38, 3) := by decide +kernel
theorem dX1_feedThose_4 : decode cX1_feedThose 4 = .ok (.istore_n 2, 1) := by decide +kernel
theorem dX1_feedThose_5 : decode cX1_feedThose 5 = .ok (.aload_n 0, 1) := by decide +kernel
theorem dX1_feedThose_6 : decode cX1_feedThose 6 = .ok (.iconst 0, 1) := by decide +kernel
theorem dX1_feedThose_7 : decode cX1_feedThose 7 = .ok (.putfield 41, 3) := by decide +kernel
theorem dX1_feedThose_10 : decode cX1_feedThose 10 = .ok (.iconst 0, 1) := by decide +kernel
theorem dX1_feedThose_11 : decode cX1_feedThose 11 = .ok (.istore_n 3, 1) := by decide +kernel
theorem dX1_feedThose_12 : decode cX1_feedThose 12 = .ok (.iload_n 3, 1) := by decide +kernel
theorem dX1_feedThose_13 : decode cX1_feedThose 13 = .ok (.aload_n 0, 1) := by decide +kernel
theorem dX1_feedThose_14 : decode cX1_feedThose 14 = .ok (.getfield 47, 3) := by decide +kernel
theorem dX1_feedThose_17 : decode cX1_feedThose 17 = .ok (.getfield 66, 3) := by decide +kernel
theorem dX1_feedThose_20 : decode cX1_feedThose 20 = .ok (.if_icmp .ge 81, 3) := by decide +kernel
theorem dX1_feedThose_23 : decode cX1_feedThose 23 = .ok (.aload_n 0, 1) := by decide +kernel
theorem dX1_feedThose_24 : decode cX1_feedThose 24 = .ok (.getfield 47, 3) := by decide +kernel
theorem dX1_feedThose_27 : decode cX1_feedThose 27 = .ok (.getfield 100, 3) := by decide +kernel
theorem dX1_feedThose_30 : decode cX1_feedThose 30 = .ok (.iload_n 3, 1) := by decide +kernel
theorem dX1_feedThose_31 : decode cX1_feedThose 31 = .ok (.iaload, 1) := by decide +kernel
theorem dX1_feedThose_32 : decode cX1_feedThose 32 = .ok (.istore 4, 2) := by decide +kernel
theorem dX1_feedThose_34 : decode cX1_feedThose 34 = .ok (.iload_n 2, 1) := by decide +kernel
theorem dX1_feedThose_35 : decode cX1_feedThose 35 = .ok (.ifCond .le 19, 3) := by decide +kernel
theorem dX1_feedThose_38 : decode cX1_feedThose 38 = .ok (.aload_n 0, 1) := by decide +kernel
theorem dX1_feedThose_39 : decode cX1_feedThose 39 = .ok (.getfield 22, 3) := by decide +kernel
theorem dX1_feedThose_42 : decode cX1_feedThose 42 = .ok (.iload 4, 2) := by decide +kernel
theorem dX1_feedThose_44 : decode cX1_feedThose 44 = .ok (.ishr, 1) := by decide +kernel
theorem dX1_feedThose_45 : decode cX1_feedThose 45 = .ok (.iconst 1, 1) := by decide +kernel
theorem dX1_feedThose_46 : decode cX1_feedThose 46 = .ok (.iand, 1) := by decide +kernel
theorem dX1_feedThose_47 : decode cX1_feedThose 47 = .ok (.ifCond .eq 7, 3) := by decide +kernel
theorem dX1_feedThose_50 : decode cX1_feedThose 50 = .ok (.iconst 1, 1) := by decide +kernel
theorem dX1_feedThose_51 : decode cX1_feedThose 51 = .ok (.goto 4, 3) := by decide +kernel
theorem dX1_feedThose_54 : decode cX1_feedThose 54 = .ok (.iconst 0, 1) := by decide +kernel
theorem dX1_feedThose_55 : decode cX1_feedThose 55 = .ok (.istore 5, 2) := by decide +kernel
theorem dX1_feedThose_57 : decode cX1_feedThose 57 = .ok (.aload_n 0, 1) := by decide +kernel
theorem dX1_feedThose_58 : decode cX1_feedThose 58 = .ok (.getfield 9, 3) := by decide +kernel
theorem dX1_feedThose_61 : decode cX1_feedThose 61 = .ok (.iload 4, 2) := by decide +kernel
theorem dX1_feedThose_63 : decode cX1_feedThose 63 = .ok (.iload 5, 2) := by decide +kernel
theorem dX1_feedThose_65 : decode cX1_feedThose 65 = .ok (.ifCond .eq 7, 3) := by decide +kernel
theorem dX1_feedThose_68 : decode cX1_feedThose 68 = .ok (.iconst 1, 1) := by decide +kernel
theorem dX1_feedThose_69 : decode cX1_feedThose 69 = .ok (.goto 4, 3) := by decide +kernel
theorem dX1_feedThose_72 : decode cX1_feedThose 72 = .ok (.iconst 0, 1) := by decide +kernel
theorem dX1_feedThose_73 : decode cX1_feedThose 73 = .ok (.iastore, 1) := by decide +kernel
theorem dX1_feedThose_74 : decode cX1_feedThose 74 = .ok (.iload 5, 2) := by decide +kernel
theorem dX1_feedThose_76 : decode cX1_feedThose 76 = .ok (.ifCond .eq 19, 3) := by decide +kernel
theorem dX1_feedThose_79 : decode cX1_feedThose 79 = .ok (.aload_n 0, 1) := by decide +kernel
theorem dX1_feedThose_80 : decode cX1_feedThose 80 = .ok (.dup, 1) := by decide +kernel
theorem dX1_feedThose_81 : decode cX1_feedThose 81 = .ok (.getfield 41, 3) := by decide +kernel
theorem dX1_feedThose_84 : decode cX1_feedThose 84 = .ok (.iconst 1, 1) := by decide +kernel
theorem dX1_feedThose_85 : decode cX1_feedThose 85 = .ok (.iload 4, 2) := by decide +kernel
theorem dX1_feedThose_87 : decode cX1_feedThose 87 = .ok (.ishl, 1) := by decide +kernel
theorem dX1_feedThose_88 : decode cX1_feedThose 88 = .ok (.ior, 1) := by decide +kernel
theorem dX1_feedThose_89 : decode cX1_feedThose 89 = .ok (.putfield 41, 3) := by decide +kernel
theorem dX1_feedThose_92 : decode cX1_feedThose 92 = .ok (.iinc 2 (-1), 3) := by decide +kernel
theorem dX1_feedThose_95 : decode cX1_feedThose 95 = .ok (.iinc 3 1, 3) := by decide +kernel
theorem dX1_feedThose_98 : decode cX1_feedThose 98 = .ok (.goto (-86), 3) := by decide +kernel
theorem dX1_feedThose_101 : decode cX1_feedThose 101 = .ok (.iconst 0, 1) := by decide +kernel
theorem dX1_feedThose_102 : decode cX1_feedThose 102 = .ok (.istore_n 3, 1) := by decide +kernel
theorem dX1_feedThose_103 : decode cX1_feedThose 103 = .ok (.iload_n 3, 1) := by decide +kernel
theorem dX1_feedThose_104 : decode cX1_feedThose 104 = .ok (.aload_n 0, 1) := by decide +kernel
theorem dX1_feedThose_105 : decode cX1_feedThose 105 = .ok (.getfield 47, 3) := by decide +kernel
theorem dX1_feedThose_108 : decode cX1_feedThose 108 = .ok (.getfield 66, 3) := by decide +kernel
theorem dX1_feedThose_111 : decode cX1_feedThose 111 = .ok (.if_icmp .ge 71, 3) := by decide +kernel
theorem dX1_feedThose_114 : decode cX1_feedThose 114 = .ok (.iload_n 2, 1) := by decide +kernel
theorem dX1_feedThose_115 : decode cX1_feedThose 115 = .ok (.ifCond .le 67, 3) := by decide +kernel
theorem dX1_feedThose_118 : decode cX1_feedThose 118 = .ok (.aload_n 0, 1) := by decide +kernel
theorem dX1_feedThose_119 : decode cX1_feedThose 119 = .ok (.getfield 47, 3) := by decide +kernel
theorem dX1_feedThose_122 : decode cX1_feedThose 122 = .ok (.iload_n 3, 1) := by decide +kernel
theorem dX1_feedThose_123 : decode cX1_feedThose 123 = .ok (.iconst 0, 1) := by decide +kernel
theorem dX1_feedThose_124 : decode cX1_feedThose 124 = .ok (.invokevirtual 56, 3) := by decide +kernel
theorem dX1_feedThose_127 : decode cX1_feedThose 127 = .ok (.aload_n 1, 1) := by decide +kernel
theorem dX1_feedThose_128 : decode cX1_feedThose 128 = .ok (.getfield 51, 3) := by decide +kernel
theorem dX1_feedThose_131 : decode cX1_feedThose 131 = .ok (.bipush 13, 2) := by decide +kernel
theorem dX1_feedThose_133 : decode cX1_feedThose 133 = .ok (.iload_n 3, 1) := by decide +kernel
theorem dX1_feedThose_134 : decode cX1_feedThose 134 = .ok (.iadd, 1) := by decide +kernel
theorem dX1_feedThose_135 : decode cX1_feedThose 135 = .ok (.iaload, 1) := by decide +kernel
theorem dX1_feedThose_136 : decode cX1_feedThose 136 = .ok (.iadd, 1) := by decide +kernel
theorem dX1_feedThose_137 : decode cX1_feedThose 137 = .ok (.iconst 1, 1) := by decide +kernel
theorem dX1_feedThose_138 : decode cX1_feedThose 138 = .ok (.isub, 1) := by decide +kernel
theorem dX1_feedThose_139 : decode cX1_feedThose 139 = .ok (.istore 4, 2) := by decide +kernel
theorem dX1_feedThose_141 : decode cX1_feedThose 141 = .ok (.aload_n 0, 1) := by decide +kernel
theorem dX1_feedThose_142 : decode cX1_feedThose 142 = .ok (.getfield 22, 3) := by decide +kernel
theorem dX1_feedThose_145 : decode cX1_feedThose 145 = .ok (.iload_n 3, 1) := by decide +kernel
theorem dX1_feedThose_146 : decode cX1_feedThose 146 = .ok (.ishr, 1) := by decide +kernel
theorem dX1_feedThose_147 : decode cX1_feedThose 147 = .ok (.iconst 1, 1) := by decide +kernel
theorem dX1_feedThose_148 : decode cX1_feedThose 148 = .ok (.iand, 1) := by decide +kernel
theorem dX1_feedThose_149 : decode cX1_feedThose 149 = .ok (.ifCond .eq 27, 3) := by decide +kernel
theorem dX1_feedThose_152 : decode cX1_feedThose 152 = .ok (.aload_n 1, 1) := by decide +kernel
theorem dX1_feedThose_153 : decode cX1_feedThose 153 = .ok (.getfield 51, 3) := by decide +kernel
theorem dX1_feedThose_156 : decode cX1_feedThose 156 = .ok (.iconst 0, 1) := by decide +kernel
theorem dX1_feedThose_157 : decode cX1_feedThose 157 = .ok (.iaload, 1) := by decide +kernel
theorem dX1_feedThose_158 : decode cX1_feedThose 158 = .ok (.iload 4, 2) := by decide +kernel
theorem dX1_feedThose_160 : decode cX1_feedThose 160 = .ok (.if_icmp .ne 16, 3) := by decide +kernel
theorem dX1_feedThose_163 : decode cX1_feedThose 163 = .ok (.aload_n 0, 1) := by decide +kernel
theorem dX1_feedThose_164 : decode cX1_feedThose 164 = .ok (.getfield 9, 3) := by decide +kernel
theorem dX1_feedThose_167 : decode cX1_feedThose 167 = .ok (.iload_n 3, 1) := by decide +kernel
theorem dX1_feedThose_168 : decode cX1_feedThose 168 = .ok (.dup2, 1) := by decide +kernel
theorem dX1_feedThose_169 : decode cX1_feedThose 169 = .ok (.iaload, 1) := by decide +kernel
theorem dX1_feedThose_170 : decode cX1_feedThose 170 = .ok (.iconst 1, 1) := by decide +kernel
theorem dX1_feedThose_171 : decode cX1_feedThose 171 = .ok (.iadd, 1) := by decide +kernel
theorem dX1_feedThose_172 : decode cX1_feedThose 172 = .ok (.iastore, 1) := by decide +kernel
theorem dX1_feedThose_173 : decode cX1_feedThose 173 = .ok (.iinc 2 (-1), 3) := by decide +kernel
theorem dX1_feedThose_176 : decode cX1_feedThose 176 = .ok (.iinc 3 1, 3) := by decide +kernel
theorem dX1_feedThose_179 : decode cX1_feedThose 179 = .ok (.goto (-76), 3) := by decide +kernel
theorem dX1_feedThose_182 : decode cX1_feedThose 182 = .ok (.aload_n 0, 1) := by decide +kernel
theorem dX1_feedThose_183 : decode cX1_feedThose 183 = .ok (.iload_n 2, 1) := by decide +kernel
theorem dX1_feedThose_184 : decode cX1_feedThose 184 = .ok (.putfield 44, 3) := by decide +kernel
theorem dX1_feedThose_187 : decode cX1_feedThose 187 = .ok (.return_, 1) := by decide +kernel
theorem dX1_pass_0 : decode cX1_pass 0 = .ok (.aload_n 0, 1) := by decide +kernel
theorem dX1_pass_1 : decode cX1_pass 1 = .ok (.aload_n 1, 1) := by decide +kernel
theorem dX1_pass_2 : decode cX1_pass 2 = .ok (.invokevirtual 103, 3) := by decide +kernel
theorem dX1_pass_5 : decode cX1_pass 5 = .ok (.aload_n 1, 1) := by decide +kernel
theorem dX1_pass_6 : decode cX1_pass 6 = .ok (.getfield 51, 3) := by decide +kernel
theorem dX1_pass_9 : decode cX1_pass 9 = .ok (.iconst 0, 1) := by decide +kernel
theorem dX1_pass_10 : decode cX1_pass 10 = .ok (.iaload, 1) := by decide +kernel
theorem dX1_pass_11 : decode cX1_pass 11 = .ok (.iconst 3, 1) := by decide +kernel
theorem dX1_pass_12 : decode cX1_pass 12 = .ok (.iand, 1) := by decide +kernel
theorem dX1_pass_13 : decode cX1_pass 13 = .ok (.istore_n 2, 1) := by decide +kernel
theorem dX1_pass_14 : decode cX1_pass 14 = .ok (.aload_n 1, 1) := by decide +kernel
theorem dX1_pass_15 : decode cX1_pass 15 = .ok (.getfield 51, 3) := by decide +kernel
theorem dX1_pass_18 : decode cX1_pass 18 = .ok (.iconst 5, 1) := by decide +kernel
theorem dX1_pass_19 : decode cX1_pass 19 = .ok (.iload_n 2, 1) := by decide +kernel
theorem dX1_pass_20 : decode cX1_pass 20 = .ok (.iadd, 1) := by decide +kernel
theorem dX1_pass_21 : decode cX1_pass 21 = .ok (.aload_n 0, 1) := by decide +kernel
theorem dX1_pass_22 : decode cX1_pass 22 = .ok (.getfield 26, 3) := by decide +kernel
theorem dX1_pass_25 : decode cX1_pass 25 = .ok (.iastore, 1) := by decide +kernel
theorem dX1_pass_26 : decode cX1_pass 26 = .ok (.aload_n 1, 1) := by decide +kernel
theorem dX1_pass_27 : decode cX1_pass 27 = .ok (.getfield 51, 3) := by decide +kernel
theorem dX1_pass_30 : decode cX1_pass 30 = .ok (.bipush 9, 2) := by decide +kernel
theorem dX1_pass_32 : decode cX1_pass 32 = .ok (.iload_n 2, 1) := by decide +kernel
theorem dX1_pass_33 : decode cX1_pass 33 = .ok (.iadd, 1) := by decide +kernel
theorem dX1_pass_34 : decode cX1_pass 34 = .ok (.aload_n 0, 1) := by decide +kernel
theorem dX1_pass_35 : decode cX1_pass 35 = .ok (.getfield 29, 3) := by decide +kernel
theorem dX1_pass_38 : decode cX1_pass 38 = .ok (.iastore, 1) := by decide +kernel
theorem dX1_pass_39 : decode cX1_pass 39 = .ok (.aload_n 1, 1) := by decide +kernel
theorem dX1_pass_40 : decode cX1_pass 40 = .ok (.getfield 51, 3) := by decide +kernel
theorem dX1_pass_43 : decode cX1_pass 43 = .ok (.iconst 2, 1) := by decide +kernel
theorem dX1_pass_44 : decode cX1_pass 44 = .ok (.iconst 0, 1) := by decide +kernel
theorem dX1_pass_45 : decode cX1_pass 45 = .ok (.aload_n 1, 1) := by decide +kernel
theorem dX1_pass_46 : decode cX1_pass 46 = .ok (.getfield 51, 3) := by decide +kernel
theorem dX1_pass_49 : decode cX1_pass 49 = .ok (.iconst 2, 1) := by decide +kernel
theorem dX1_pass_50 : decode cX1_pass 50 = .ok (.iaload, 1) := by decide +kernel
theorem dX1_pass_51 : decode cX1_pass 51 = .ok (.aload_n 0, 1) := by decide +kernel
theorem dX1_pass_52 : decode cX1_pass 52 = .ok (.getfield 29, 3) := by decide +kernel
theorem dX1_pass_55 : decode cX1_pass 55 = .ok (.aload_n 0, 1) := by decide +kernel
theorem dX1_pass_56 : decode cX1_pass 56 = .ok (.getfield 47, 3) := by decide +kernel
theorem dX1_pass_59 : decode cX1_pass 59 = .ok (.aload_n 0, 1) := by decide +kernel
theorem dX1_pass_60 : decode cX1_pass 60 = .ok (.getfield 26, 3) := by decide +kernel
theorem dX1_pass_63 : decode cX1_pass 63 = .ok (.iconst 1, 1) := by decide +kernel
theorem dX1_pass_64 : decode cX1_pass 64 = .ok (.invokevirtual 89, 3) := by decide +kernel
theorem dX1_pass_67 : decode cX1_pass 67 = .ok (.imul, 1) := by decide +kernel
theorem dX1_pass_68 : decode cX1_pass 68 = .ok (.isub, 1) := by decide +kernel
theorem dX1_pass_69 : decode cX1_pass 69 = .ok (.invokestatic 95, 3) := by decide +kernel
theorem dX1_pass_72 : decode cX1_pass 72 = .ok (.iastore, 1) := by decide +kernel
theorem dX1_pass_73 : decode cX1_pass 73 = .ok (.iconst 0, 1) := by decide +kernel
theorem dX1_pass_74 : decode cX1_pass 74 = .ok (.istore_n 3, 1) := by decide +kernel
theorem dX1_pass_75 : decode cX1_pass 75 = .ok (.iload_n 3, 1) := by decide +kernel
theorem dX1_pass_76 : decode cX1_pass 76 = .ok (.aload_n 0, 1) := by decide +kernel
theorem dX1_pass_77 : decode cX1_pass 77 = .ok (.getfield 47, 3) := by decide +kernel
theorem dX1_pass_80 : decode cX1_pass 80 = .ok (.getfield 66, 3) := by decide +kernel
theorem dX1_pass_83 : decode cX1_pass 83 = .ok (.if_icmp .ge 26, 3) := by decide +kernel
theorem dX1_pass_86 : decode cX1_pass 86 = .ok (.aload_n 0, 1) := by decide +kernel
theorem dX1_pass_87 : decode cX1_pass 87 = .ok (.getfield 22, 3) := by decide +kernel
theorem dX1_pass_90 : decode cX1_pass 90 = .ok (.iload_n 3, 1) := by decide +kernel
theorem dX1_pass_91 : decode cX1_pass 91 = .ok (.ishr, 1) := by decide +kernel
theorem dX1_pass_92 : decode cX1_pass 92 = .ok (.iconst 1, 1) := by decide +kernel
theorem dX1_pass_93 : decode cX1_pass 93 = .ok (.iand, 1) := by decide +kernel
theorem dX1_pass_94 : decode cX1_pass 94 = .ok (.ifCond .eq 9, 3) := by decide +kernel
theorem dX1_pass_97 : decode cX1_pass 97 = .ok (.aload_n 0, 1) := by decide +kernel
theorem dX1_pass_98 : decode cX1_pass 98 = .ok (.aload_n 1, 1) := by decide +kernel
theorem dX1_pass_99 : decode cX1_pass 99 = .ok (.iload_n 3, 1) := by decide +kernel
theorem dX1_pass_100 : decode cX1_pass 100 = .ok (.invokevirtual 106, 3) := by decide +kernel
theorem dX1_pass_103 : decode cX1_pass 103 = .ok (.iinc 3 1, 3) := by decide +kernel
theorem dX1_pass_106 : decode cX1_pass 106 = .ok (.goto (-31), 3) := by decide +kernel
theorem dX1_pass_109 : decode cX1_pass 109 = .ok (.aload_n 1, 1) := by decide +kernel
theorem dX1_pass_110 : decode cX1_pass 110 = .ok (.getfield 51, 3) := by decide +kernel
theorem dX1_pass_113 : decode cX1_pass 113 = .ok (.iconst 3, 1) := by decide +kernel
theorem dX1_pass_114 : decode cX1_pass 114 = .ok (.iconst (-1), 1) := by decide +kernel
theorem dX1_pass_115 : decode cX1_pass 115 = .ok (.iastore, 1) := by decide +kernel
theorem dX1_pass_116 : decode cX1_pass 116 = .ok (.aload_n 1, 1) := by decide +kernel
theorem dX1_pass_117 : decode cX1_pass 117 = .ok (.getfield 51, 3) := by decide +kernel
theorem dX1_pass_120 : decode cX1_pass 120 = .ok (.iconst 0, 1) := by decide +kernel
theorem dX1_pass_121 : decode cX1_pass 121 = .ok (.dup2, 1) := by decide +kernel
theorem dX1_pass_122 : decode cX1_pass 122 = .ok (.iaload, 1) := by decide +kernel
theorem dX1_pass_123 : decode cX1_pass 123 = .ok (.iconst 1, 1) := by decide +kernel
theorem dX1_pass_124 : decode cX1_pass 124 = .ok (.iadd, 1) := by decide +kernel
theorem dX1_pass_125 : decode cX1_pass 125 = .ok (.iastore, 1) := by decide +kernel
theorem dX1_pass_126 : decode cX1_pass 126 = .ok (.return_, 1) := by decide +kernel
theorem dX1_gladden_0 : decode cX1_gladden 0 = .ok (.aload_n 0, 1) := by decide +kernel
theorem dX1_gladden_1 : decode cX1_gladden 1 = .ok (.getfield 32, 3) := by decide +kernel
theorem dX1_gladden_4 : decode cX1_gladden 4 = .ok (.iconst (-1), 1) := by decide +kernel
theorem dX1_gladden_5 : decode cX1_gladden 5 = .ok (.if_icmp .eq 31, 3) := by decide +kernel
theorem dX1_gladden_8 : decode cX1_gladden 8 = .ok (.aload_n 0, 1) := by decide +kernel
theorem dX1_gladden_9 : decode cX1_gladden 9 = .ok (.getfield 47, 3) := by decide +kernel
theorem dX1_gladden_12 : decode cX1_gladden 12 = .ok (.aload_n 0, 1) := by decide +kernel
theorem dX1_gladden_13 : decode cX1_gladden 13 = .ok (.getfield 32, 3) := by decide +kernel
theorem dX1_gladden_16 : decode cX1_gladden 16 = .ok (.iconst 2, 1) := by decide +kernel
theorem dX1_gladden_17 : decode cX1_gladden 17 = .ok (.invokevirtual 89, 3) := by decide +kernel
theorem dX1_gladden_20 : decode cX1_gladden 20 = .ok (.aload_n 1, 1) := by decide +kernel
theorem dX1_gladden_21 : decode cX1_gladden 21 = .ok (.getfield 51, 3) := by decide +kernel
theorem dX1_gladden_24 : decode cX1_gladden 24 = .ok (.bipush 19, 2) := by decide +kernel
theorem dX1_gladden_26 : decode cX1_gladden 26 = .ok (.iload_n 2, 1) := by decide +kernel
theorem dX1_gladden_27 : decode cX1_gladden 27 = .ok (.iadd, 1) := by decide +kernel
theorem dX1_gladden_28 : decode cX1_gladden 28 = .ok (.iaload, 1) := by decide +kernel
theorem dX1_gladden_29 : decode cX1_gladden 29 = .ok (.if_icmp .ne 7, 3) := by decide +kernel
theorem dX1_gladden_32 : decode cX1_gladden 32 = .ok (.iconst 1, 1) := by decide +kernel
theorem dX1_gladden_33 : decode cX1_gladden 33 = .ok (.goto 4, 3) := by decide +kernel
theorem dX1_gladden_36 : decode cX1_gladden 36 = .ok (.iconst 0, 1) := by decide +kernel
theorem dX1_gladden_37 : decode cX1_gladden 37 = .ok (.istore_n 3, 1) := by decide +kernel
theorem dX1_gladden_38 : decode cX1_gladden 38 = .ok (.aload_n 0, 1) := by decide +kernel
theorem dX1_gladden_39 : decode cX1_gladden 39 = .ok (.getfield 47, 3) := by decide +kernel
theorem dX1_gladden_42 : decode cX1_gladden 42 = .ok (.iload_n 2, 1) := by decide +kernel
theorem dX1_gladden_43 : decode cX1_gladden 43 = .ok (.iconst 3, 1) := by decide +kernel
theorem dX1_gladden_44 : decode cX1_gladden 44 = .ok (.invokevirtual 56, 3) := by decide +kernel
theorem dX1_gladden_47 : decode cX1_gladden 47 = .ok (.istore 4, 2) := by decide +kernel
theorem dX1_gladden_49 : decode cX1_gladden 49 = .ok (.aload_n 1, 1) := by decide +kernel
theorem dX1_gladden_50 : decode cX1_gladden 50 = .ok (.getfield 51, 3) := by decide +kernel
theorem dX1_gladden_53 : decode cX1_gladden 53 = .ok (.iconst 0, 1) := by decide +kernel
theorem dX1_gladden_54 : decode cX1_gladden 54 = .ok (.iaload, 1) := by decide +kernel
theorem dX1_gladden_55 : decode cX1_gladden 55 = .ok (.istore 5, 2) := by decide +kernel
theorem dX1_gladden_57 : decode cX1_gladden 57 = .ok (.aload_n 0, 1) := by decide +kernel
theorem dX1_gladden_58 : decode cX1_gladden 58 = .ok (.aload_n 0, 1) := by decide +kernel
theorem dX1_gladden_59 : decode cX1_gladden 59 = .ok (.getfield 35, 3) := by decide +kernel
theorem dX1_gladden_62 : decode cX1_gladden 62 = .ok (.iload_n 3, 1) := by decide +kernel
theorem dX1_gladden_63 : decode cX1_gladden 63 = .ok (.aload_n 0, 1) := by decide +kernel
theorem dX1_gladden_64 : decode cX1_gladden 64 = .ok (.getfield 9, 3) := by decide +kernel
theorem dX1_gladden_67 : decode cX1_gladden 67 = .ok (.iload_n 2, 1) := by decide +kernel
theorem dX1_gladden_68 : decode cX1_gladden 68 = .ok (.iaload, 1) := by decide +kernel
theorem dX1_gladden_69 : decode cX1_gladden 69 = .ok (.iload 5, 2) := by decide +kernel
theorem dX1_gladden_71 : decode cX1_gladden 71 = .ok (.aload_n 0, 1) := by decide +kernel
theorem dX1_gladden_72 : decode cX1_gladden 72 = .ok (.getfield 47, 3) := by decide +kernel
theorem dX1_gladden_75 : decode cX1_gladden 75 = .ok (.iload_n 2, 1) := by decide +kernel
theorem dX1_gladden_76 : decode cX1_gladden 76 = .ok (.iconst 0, 1) := by decide +kernel
theorem dX1_gladden_77 : decode cX1_gladden 77 = .ok (.invokevirtual 56, 3) := by decide +kernel
theorem dX1_gladden_80 : decode cX1_gladden 80 = .ok (.isub, 1) := by decide +kernel
theorem dX1_gladden_81 : decode cX1_gladden 81 = .ok (.iload 4, 2) := by decide +kernel
theorem dX1_gladden_83 : decode cX1_gladden 83 = .ok (.iload 5, 2) := by decide +kernel
theorem dX1_gladden_85 : decode cX1_gladden 85 = .ok (.invokevirtual 110, 3) := by decide +kernel
theorem dX1_gladden_88 : decode cX1_gladden 88 = .ok (.istore 6, 2) := by decide +kernel
theorem dX1_gladden_90 : decode cX1_gladden 90 = .ok (.bipush (-99), 2) := by decide +kernel
theorem dX1_gladden_92 : decode cX1_gladden 92 = .ok (.sipush 999, 3) := by decide +kernel
theorem dX1_gladden_95 : decode cX1_gladden 95 = .ok (.aload_n 1, 1) := by decide +kernel
theorem dX1_gladden_96 : decode cX1_gladden 96 = .ok (.getfield 51, 3) := by decide +kernel
theorem dX1_gladden_99 : decode cX1_gladden 99 = .ok (.bipush 25, 2) := by decide +kernel
theorem dX1_gladden_101 : decode cX1_gladden 101 = .ok (.iload_n 2, 1) := by decide +kernel
theorem dX1_gladden_102 : decode cX1_gladden 102 = .ok (.iadd, 1) := by decide +kernel
theorem dX1_gladden_103 : decode cX1_gladden 103 = .ok (.iaload, 1) := by decide +kernel
theorem dX1_gladden_104 : decode cX1_gladden 104 = .ok (.iload 6, 2) := by decide +kernel
theorem dX1_gladden_106 : decode cX1_gladden 106 = .ok (.iadd, 1) := by decide +kernel
theorem dX1_gladden_107 : decode cX1_gladden 107 = .ok (.invokestatic 114, 3) := by decide +kernel
theorem dX1_gladden_110 : decode cX1_gladden 110 = .ok (.invokestatic 95, 3) := by decide +kernel
theorem dX1_gladden_113 : decode cX1_gladden 113 = .ok (.istore 7, 2) := by decide +kernel
theorem dX1_gladden_115 : decode cX1_gladden 115 = .ok (.aload_n 1, 1) := by decide +kernel
theorem dX1_gladden_116 : decode cX1_gladden 116 = .ok (.getfield 51, 3) := by decide +kernel
theorem dX1_gladden_119 : decode cX1_gladden 119 = .ok (.bipush 25, 2) := by decide +kernel
theorem dX1_gladden_121 : decode cX1_gladden 121 = .ok (.iload_n 2, 1) := by decide +kernel
theorem dX1_gladden_122 : decode cX1_gladden 122 = .ok (.iadd, 1) := by decide +kernel
theorem dX1_gladden_123 : decode cX1_gladden 123 = .ok (.iload 7, 2) := by decide +kernel
theorem dX1_gladden_125 : decode cX1_gladden 125 = .ok (.iastore, 1) := by decide +kernel
theorem dX1_gladden_126 : decode cX1_gladden 126 = .ok (.aload_n 1, 1) := by decide +kernel
theorem dX1_gladden_127 : decode cX1_gladden 127 = .ok (.getfield 51, 3) := by decide +kernel
theorem dX1_gladden_130 : decode cX1_gladden 130 = .ok (.iconst 2, 1) := by decide +kernel
theorem dX1_gladden_131 : decode cX1_gladden 131 = .ok (.sipush 999, 3) := by decide +kernel
theorem dX1_gladden_134 : decode cX1_gladden 134 = .ok (.aload_n 1, 1) := by decide +kernel
theorem dX1_gladden_135 : decode cX1_gladden 135 = .ok (.getfield 51, 3) := by decide +kernel
theorem dX1_gladden_138 : decode cX1_gladden 138 = .ok (.iconst 2, 1) := by decide +kernel
theorem dX1_gladden_139 : decode cX1_gladden 139 = .ok (.iaload, 1) := by decide +kernel
theorem dX1_gladden_140 : decode cX1_gladden 140 = .ok (.iload 4, 2) := by decide +kernel
theorem dX1_gladden_142 : decode cX1_gladden 142 = .ok (.iadd, 1) := by decide +kernel
theorem dX1_gladden_143 : decode cX1_gladden 143 = .ok (.invokestatic 114, 3) := by decide +kernel
theorem dX1_gladden_146 : decode cX1_gladden 146 = .ok (.iastore, 1) := by decide +kernel
theorem dX1_gladden_147 : decode cX1_gladden 147 = .ok (.iload 7, 2) := by decide +kernel
theorem dX1_gladden_149 : decode cX1_gladden 149 = .ok (.bipush (-10), 2) := by decide +kernel
theorem dX1_gladden_151 : decode cX1_gladden 151 = .ok (.if_icmp .gt 15, 3) := by decide +kernel
theorem dX1_gladden_154 : decode cX1_gladden 154 = .ok (.aload_n 1, 1) := by decide +kernel
theorem dX1_gladden_155 : decode cX1_gladden 155 = .ok (.getfield 51, 3) := by decide +kernel
theorem dX1_gladden_158 : decode cX1_gladden 158 = .ok (.iconst 4, 1) := by decide +kernel
theorem dX1_gladden_159 : decode cX1_gladden 159 = .ok (.dup2, 1) := by decide +kernel
theorem dX1_gladden_160 : decode cX1_gladden 160 = .ok (.iaload, 1) := by decide +kernel
theorem dX1_gladden_161 : decode cX1_gladden 161 = .ok (.iconst 1, 1) := by decide +kernel
theorem dX1_gladden_162 : decode cX1_gladden 162 = .ok (.iload_n 2, 1) := by decide +kernel
theorem dX1_gladden_163 : decode cX1_gladden 163 = .ok (.ishl, 1) := by decide +kernel
theorem dX1_gladden_164 : decode cX1_gladden 164 = .ok (.ior, 1) := by decide +kernel
theorem dX1_gladden_165 : decode cX1_gladden 165 = .ok (.iastore, 1) := by decide +kernel
theorem dX1_gladden_166 : decode cX1_gladden 166 = .ok (.return_, 1) := by decide +kernel
theorem dX1_joyBy_0 : decode cX1_joyBy 0 = .ok (.aload_n 0, 1) := by decide +kernel
theorem dX1_joyBy_1 : decode cX1_joyBy 1 = .ok (.getfield 18, 3) := by decide +kernel
theorem dX1_joyBy_4 : decode cX1_joyBy 4 = .ok (.ifnonnull 26, 3) := by decide +kernel
theorem dX1_joyBy_7 : decode cX1_joyBy 7 = .ok (.iload_n 3, 1) := by decide +kernel
theorem dX1_joyBy_8 : decode cX1_joyBy 8 = .ok (.ifCond .ne 8, 3) := by decide +kernel
theorem dX1_joyBy_11 : decode cX1_joyBy 11 = .ok (.bipush (-2), 2) := by decide +kernel
theorem dX1_joyBy_13 : decode cX1_joyBy 13 = .ok (.goto 16, 3) := by decide +kernel
theorem dX1_joyBy_16 : decode cX1_joyBy 16 = .ok (.iload_n 1, 1) := by decide +kernel
theorem dX1_joyBy_17 : decode cX1_joyBy 17 = .ok (.iconst 3, 1) := by decide +kernel
theorem dX1_joyBy_18 : decode cX1_joyBy 18 = .ok (.idiv, 1) := by decide +kernel
theorem dX1_joyBy_19 : decode cX1_joyBy 19 = .ok (.iload_n 2, 1) := by decide +kernel
theorem dX1_joyBy_20 : decode cX1_joyBy 20 = .ok (.ifCond .eq 7, 3) := by decide +kernel
theorem dX1_joyBy_23 : decode cX1_joyBy 23 = .ok (.iconst 3, 1) := by decide +kernel
theorem dX1_joyBy_24 : decode cX1_joyBy 24 = .ok (.goto 4, 3) := by decide +kernel
theorem dX1_joyBy_27 : decode cX1_joyBy 27 = .ok (.iconst 0, 1) := by decide +kernel
theorem dX1_joyBy_28 : decode cX1_joyBy 28 = .ok (.iadd, 1) := by decide +kernel
theorem dX1_joyBy_29 : decode cX1_joyBy 29 = .ok (.ireturn, 1) := by decide +kernel
theorem dX1_joyBy_30 : decode cX1_joyBy 30 = .ok (.aload_n 0, 1) := by decide +kernel
theorem dX1_joyBy_31 : decode cX1_joyBy 31 = .ok (.getfield 15, 3) := by decide +kernel
theorem dX1_joyBy_34 : decode cX1_joyBy 34 = .ok (.iconst 0, 1) := by decide +kernel
theorem dX1_joyBy_35 : decode cX1_joyBy 35 = .ok (.iload_n 1, 1) := by decide +kernel
theorem dX1_joyBy_36 : decode cX1_joyBy 36 = .ok (.iastore, 1) := by decide +kernel
theorem dX1_joyBy_37 : decode cX1_joyBy 37 = .ok (.aload_n 0, 1) := by decide +kernel
theorem dX1_joyBy_38 : decode cX1_joyBy 38 = .ok (.getfield 15, 3) := by decide +kernel
theorem dX1_joyBy_41 : decode cX1_joyBy 41 = .ok (.iconst 1, 1) := by decide +kernel
theorem dX1_joyBy_42 : decode cX1_joyBy 42 = .ok (.iload_n 2, 1) := by decide +kernel
theorem dX1_joyBy_43 : decode cX1_joyBy 43 = .ok (.ifCond .eq 7, 3) := by decide +kernel
theorem dX1_joyBy_46 : decode cX1_joyBy 46 = .ok (.iconst 1, 1) := by decide +kernel
theorem dX1_joyBy_47 : decode cX1_joyBy 47 = .ok (.goto 4, 3) := by decide +kernel
theorem dX1_joyBy_50 : decode cX1_joyBy 50 = .ok (.iconst 0, 1) := by decide +kernel
theorem dX1_joyBy_51 : decode cX1_joyBy 51 = .ok (.iastore, 1) := by decide +kernel
theorem dX1_joyBy_52 : decode cX1_joyBy 52 = .ok (.aload_n 0, 1) := by decide +kernel
theorem dX1_joyBy_53 : decode cX1_joyBy 53 = .ok (.getfield 15, 3) := by decide +kernel
theorem dX1_joyBy_56 : decode cX1_joyBy 56 = .ok (.iconst 2, 1) := by decide +kernel
theorem dX1_joyBy_57 : decode cX1_joyBy 57 = .ok (.iload_n 3, 1) := by decide +kernel
theorem dX1_joyBy_58 : decode cX1_joyBy 58 = .ok (.iastore, 1) := by decide +kernel
theorem dX1_joyBy_59 : decode cX1_joyBy 59 = .ok (.aload_n 0, 1) := by decide +kernel
theorem dX1_joyBy_60 : decode cX1_joyBy 60 = .ok (.getfield 15, 3) := by decide +kernel
theorem dX1_joyBy_63 : decode cX1_joyBy 63 = .ok (.iconst 3, 1) := by decide +kernel
theorem dX1_joyBy_64 : decode cX1_joyBy 64 = .ok (.iload 4, 2) := by decide +kernel
theorem dX1_joyBy_66 : decode cX1_joyBy 66 = .ok (.iastore, 1) := by decide +kernel
theorem dX1_joyBy_67 : decode cX1_joyBy 67 = .ok (.aload_n 0, 1) := by decide +kernel
theorem dX1_joyBy_68 : decode cX1_joyBy 68 = .ok (.getfield 15, 3) := by decide +kernel
theorem dX1_joyBy_71 : decode cX1_joyBy 71 = .ok (.iconst 4, 1) := by decide +kernel
theorem dX1_joyBy_72 : decode cX1_joyBy 72 = .ok (.iload 5, 2) := by decide +kernel
theorem dX1_joyBy_74 : decode cX1_joyBy 74 = .ok (.iastore, 1) := by decide +kernel
theorem dX1_joyBy_75 : decode cX1_joyBy 75 = .ok (.aload_n 0, 1) := by decide +kernel
theorem dX1_joyBy_76 : decode cX1_joyBy 76 = .ok (.getfield 15, 3) := by decide +kernel
theorem dX1_joyBy_79 : decode cX1_joyBy 79 = .ok (.iconst 5, 1) := by decide +kernel
theorem dX1_joyBy_80 : decode cX1_joyBy 80 = .ok (.iload 6, 2) := by decide +kernel
theorem dX1_joyBy_82 : decode cX1_joyBy 82 = .ok (.iastore, 1) := by decide +kernel
theorem dX1_joyBy_83 : decode cX1_joyBy 83 = .ok (.aload_n 0, 1) := by decide +kernel
theorem dX1_joyBy_84 : decode cX1_joyBy 84 = .ok (.getfield 18, 3) := by decide +kernel
theorem dX1_joyBy_87 : decode cX1_joyBy 87 = .ok (.aload_n 0, 1) := by decide +kernel
theorem dX1_joyBy_88 : decode cX1_joyBy 88 = .ok (.getfield 15, 3) := by decide +kernel
theorem dX1_joyBy_91 : decode cX1_joyBy 91 = .ok (.invokevirtual 117, 3) := by decide +kernel
theorem dX1_joyBy_94 : decode cX1_joyBy 94 = .ok (.istore 7, 2) := by decide +kernel
theorem dX1_joyBy_96 : decode cX1_joyBy 96 = .ok (.bipush (-9), 2) := by decide +kernel
theorem dX1_joyBy_98 : decode cX1_joyBy 98 = .ok (.bipush 20, 2) := by decide +kernel
theorem dX1_joyBy_100 : decode cX1_joyBy 100 = .ok (.iload 7, 2) := by decide +kernel
theorem dX1_joyBy_102 : decode cX1_joyBy 102 = .ok (.invokestatic 114, 3) := by decide +kernel
theorem dX1_joyBy_105 : decode cX1_joyBy 105 = .ok (.invokestatic 95, 3) := by decide +kernel
theorem dX1_joyBy_108 : decode cX1_joyBy 108 = .ok (.ireturn, 1) := by decide +kernel
theorem dX2_init_0 : decode cX2_init 0 = .ok (.aload_n 0, 1) := by decide +kernel
theorem dX2_init_1 : decode cX2_init 1 = .ok (.invokespecial 5, 3) := by decide +kernel
theorem dX2_init_4 : decode cX2_init 4 = .ok (.aload_n 0, 1) := by decide +kernel
theorem dX2_init_5 : decode cX2_init 5 = .ok (.new 11, 3) := by decide +kernel
theorem dX2_init_8 : decode cX2_init 8 = .ok (.dup, 1) := by decide +kernel
theorem dX2_init_9 : decode cX2_init 9 = .ok (.invokespecial 13, 3) := by decide +kernel
theorem dX2_init_12 : decode cX2_init 12 = .ok (.putfield 14, 3) := by decide +kernel
theorem dX2_init_15 : decode cX2_init 15 = .ok (.aload_n 0, 1) := by decide +kernel
theorem dX2_init_16 : decode cX2_init 16 = .ok (.iconst 5, 1) := by decide +kernel
theorem dX2_init_17 : decode cX2_init 17 = .ok (.anewarray 11, 3) := by decide +kernel
theorem dX2_init_20 : decode cX2_init 20 = .ok (.putfield 18, 3) := by decide +kernel
theorem dX2_init_23 : decode cX2_init 23 = .ok (.aload_n 0, 1) := by decide +kernel
theorem dX2_init_24 : decode cX2_init 24 = .ok (.bipush 16, 2) := by decide +kernel
theorem dX2_init_26 : decode cX2_init 26 = .ok (.newarray .int, 2) := by decide +kernel
theorem dX2_init_28 : decode cX2_init 28 = .ok (.putfield 22, 3) := by decide +kernel
theorem dX2_init_31 : decode cX2_init 31 = .ok (.aload_n 0, 1) := by decide +kernel
theorem dX2_init_32 : decode cX2_init 32 = .ok (.bipush 16, 2) := by decide +kernel
theorem dX2_init_34 : decode cX2_init 34 = .ok (.newarray .int, 2) := by decide +kernel
theorem dX2_init_36 : decode cX2_init 36 = .ok (.putfield 26, 3) := by decide +kernel
theorem dX2_init_39 : decode cX2_init 39 = .ok (.aload_n 0, 1) := by decide +kernel
theorem dX2_init_40 : decode cX2_init 40 = .ok (.iconst 0, 1) := by decide +kernel
theorem dX2_init_41 : decode cX2_init 41 = .ok (.putfield 29, 3) := by decide +kernel
theorem dX2_init_44 : decode cX2_init 44 = .ok (.aload_n 0, 1) := by decide +kernel
theorem dX2_init_45 : decode cX2_init 45 = .ok (.iconst 0, 1) := by decide +kernel
theorem dX2_init_46 : decode cX2_init 46 = .ok (.putfield 33, 3) := by decide +kernel
theorem dX2_init_49 : decode cX2_init 49 = .ok (.aload_n 0, 1) := by decide +kernel
theorem dX2_init_50 : decode cX2_init 50 = .ok (.iconst 0, 1) := by decide +kernel
theorem dX2_init_51 : decode cX2_init 51 = .ok (.putfield 36, 3) := by decide +kernel
theorem dX2_init_54 : decode cX2_init 54 = .ok (.aload_n 0, 1) := by decide +kernel
theorem dX2_init_55 : decode cX2_init 55 = .ok (.iconst 0, 1) := by decide +kernel
theorem dX2_init_56 : decode cX2_init 56 = .ok (.putfield 39, 3) := by decide +kernel
theorem dX2_init_59 : decode cX2_init 59 = .ok (.aload_n 0, 1) := by decide +kernel
theorem dX2_init_60 : decode cX2_init 60 = .ok (.iconst 0, 1) := by decide +kernel
theorem dX2_init_61 : decode cX2_init 61 = .ok (.putfield 42, 3) := by decide +kernel
theorem dX2_init_64 : decode cX2_init 64 = .ok (.aload_n 0, 1) := by decide +kernel
theorem dX2_init_65 : decode cX2_init 65 = .ok (.aload_n 1, 1) := by decide +kernel
theorem dX2_init_66 : decode cX2_init 66 = .ok (.putfield 45, 3) := by decide +kernel
theorem dX2_init_69 : decode cX2_init 69 = .ok (.aload_n 0, 1) := by decide +kernel
theorem dX2_init_70 : decode cX2_init 70 = .ok (.aload_n 2, 1) := by decide +kernel
theorem dX2_init_71 : decode cX2_init 71 = .ok (.putfield 49, 3) := by decide +kernel
theorem dX2_init_74 : decode cX2_init 74 = .ok (.aload_n 0, 1) := by decide +kernel
theorem dX2_init_75 : decode cX2_init 75 = .ok (.aload_n 3, 1) := by decide +kernel
theorem dX2_init_76 : decode cX2_init 76 = .ok (.putfield 53, 3) := by decide +kernel
theorem dX2_init_79 : decode cX2_init 79 = .ok (.iconst 0, 1) := by decide +kernel
theorem dX2_init_80 : decode cX2_init 80 = .ok (.istore 4, 2) := by decide +kernel
theorem dX2_init_82 : decode cX2_init 82 = .ok (.iload 4, 2) := by decide +kernel
theorem dX2_init_84 : decode cX2_init 84 = .ok (.iconst 5, 1) := by decide +kernel
theorem dX2_init_85 : decode cX2_init 85 = .ok (.if_icmp .ge 23, 3) := by decide +kernel
theorem dX2_init_88 : decode cX2_init 88 = .ok (.aload_n 0, 1) := by decide +kernel
theorem dX2_init_89 : decode cX2_init 89 = .ok (.getfield 18, 3) := by decide +kernel
theorem dX2_init_92 : decode cX2_init 92 = .ok (.iload 4, 2) := by decide +kernel
theorem dX2_init_94 : decode cX2_init 94 = .ok (.new 11, 3) := by decide +kernel
theorem dX2_init_97 : decode cX2_init 97 = .ok (.dup, 1) := by decide +kernel
theorem dX2_init_98 : decode cX2_init 98 = .ok (.invokespecial 13, 3) := by decide +kernel
theorem dX2_init_101 : decode cX2_init 101 = .ok (.aastore, 1) := by decide +kernel
theorem dX2_init_102 : decode cX2_init 102 = .ok (.iinc 4 1, 3) := by decide +kernel
theorem dX2_init_105 : decode cX2_init 105 = .ok (.goto (-23), 3) := by decide +kernel
theorem dX2_init_108 : decode cX2_init 108 = .ok (.return_, 1) := by decide +kernel
theorem dX2_stepsDone_0 : decode cX2_stepsDone 0 = .ok (.aload_n 0, 1) := by decide +kernel
theorem dX2_stepsDone_1 : decode cX2_stepsDone 1 = .ok (.getfield 14, 3) := by decide +kernel
theorem dX2_stepsDone_4 : decode cX2_stepsDone 4 = .ok (.aload_n 1, 1) := by decide +kernel
theorem dX2_stepsDone_5 : decode cX2_stepsDone 5 = .ok (.invokevirtual 57, 3) := by decide +kernel
theorem dX2_stepsDone_8 : decode cX2_stepsDone 8 = .ok (.iconst 0, 1) := by decide +kernel
theorem dX2_stepsDone_9 : decode cX2_stepsDone 9 = .ok (.istore_n 3, 1) := by decide +kernel
theorem dX2_stepsDone_10 : decode cX2_stepsDone 10 = .ok (.iconst 0, 1) := by decide +kernel
theorem dX2_stepsDone_11 : decode cX2_stepsDone 11 = .ok (.istore 4, 2) := by decide +kernel
theorem dX2_stepsDone_13 : decode cX2_stepsDone 13 = .ok (.iload 4, 2) := by decide +kernel
theorem dX2_stepsDone_15 : decode cX2_stepsDone 15 = .ok (.aload_n 2, 1) := by decide +kernel
theorem dX2_stepsDone_16 : decode cX2_stepsDone 16 = .ok (.getfield 61, 3) := by decide +kernel
theorem dX2_stepsDone_19 : decode cX2_stepsDone 19 = .ok (.if_icmp .ge 50, 3) := by decide +kernel
theorem dX2_stepsDone_22 : decode cX2_stepsDone 22 = .ok (.aload_n 0, 1) := by decide +kernel
theorem dX2_stepsDone_23 : decode cX2_stepsDone 23 = .ok (.getfield 53, 3) := by decide +kernel
theorem dX2_stepsDone_26 : decode cX2_stepsDone 26 = .ok (.aload_n 0, 1) := by decide +kernel
theorem dX2_stepsDone_27 : decode cX2_stepsDone 27 = .ok (.getfield 14, 3) := by decide +kernel
theorem dX2_stepsDone_30 : decode cX2_stepsDone 30 = .ok (.aload_n 2, 1) := by decide +kernel
theorem dX2_stepsDone_31 : decode cX2_stepsDone 31 = .ok (.iload 4, 2) := by decide +kernel
theorem dX2_stepsDone_33 : decode cX2_stepsDone 33 = .ok (.iconst 0, 1) := by decide +kernel
theorem dX2_stepsDone_34 : decode cX2_stepsDone 34 = .ok (.invokevirtual 66, 3) := by decide +kernel
theorem dX2_stepsDone_37 : decode cX2_stepsDone 37 = .ok (.aload_n 2, 1) := by decide +kernel
theorem dX2_stepsDone_38 : decode cX2_stepsDone 38 = .ok (.iload 4, 2) := by decide +kernel
theorem dX2_stepsDone_40 : decode cX2_stepsDone 40 = .ok (.iconst 1, 1) := by decide +kernel
theorem dX2_stepsDone_41 : decode cX2_stepsDone 41 = .ok (.invokevirtual 66, 3) := by decide +kernel
theorem dX2_stepsDone_44 : decode cX2_stepsDone 44 = .ok (.aload_n 2, 1) := by decide +kernel
theorem dX2_stepsDone_45 : decode cX2_stepsDone 45 = .ok (.iload 4, 2) := by decide +kernel
theorem dX2_stepsDone_47 : decode cX2_stepsDone 47 = .ok (.iconst 2, 1) := by decide +kernel
theorem dX2_stepsDone_48 : decode cX2_stepsDone 48 = .ok (.invokevirtual 66, 3) := by decide +kernel
theorem dX2_stepsDone_51 : decode cX2_stepsDone 51 = .ok (.invokevirtual 70, 3) := by decide +kernel
theorem dX2_stepsDone_54 : decode cX2_stepsDone 54 = .ok (.ifCond .ne 6, 3) := by decide +kernel
theorem dX2_stepsDone_57 : decode cX2_stepsDone 57 = .ok (.goto 12, 3) := by decide +kernel
theorem dX2_stepsDone_60 : decode cX2_stepsDone 60 = .ok (.iinc 3 1, 3) := by decide +kernel
theorem dX2_stepsDone_63 : decode cX2_stepsDone 63 = .ok (.iinc 4 1, 3) := by decide +kernel
theorem dX2_stepsDone_66 : decode cX2_stepsDone 66 = .ok (.goto (-53), 3) := by decide +kernel
theorem dX2_stepsDone_69 : decode cX2_stepsDone 69 = .ok (.aload_n 0, 1) := by decide +kernel
theorem dX2_stepsDone_70 : decode cX2_stepsDone 70 = .ok (.aload_n 0, 1) := by decide +kernel
theorem dX2_stepsDone_71 : decode cX2_stepsDone 71 = .ok (.getfield 14, 3) := by decide +kernel
theorem dX2_stepsDone_74 : decode cX2_stepsDone 74 = .ok (.invokevirtual 76, 3) := by decide +kernel
theorem dX2_stepsDone_77 : decode cX2_stepsDone 77 = .ok (.aload_n 1, 1) := by decide +kernel
theorem dX2_stepsDone_78 : decode cX2_stepsDone 78 = .ok (.invokevirtual 76, 3) := by decide +kernel
theorem dX2_stepsDone_81 : decode cX2_stepsDone 81 = .ok (.isub, 1) := by decide +kernel
theorem dX2_stepsDone_82 : decode cX2_stepsDone 82 = .ok (.putfield 29, 3) := by decide +kernel
theorem dX2_stepsDone_85 : decode cX2_stepsDone 85 = .ok (.iload_n 3, 1) := by decide +kernel
theorem dX2_stepsDone_86 : decode cX2_stepsDone 86 = .ok (.ireturn, 1) := by decide +kernel
theorem dX2_layAhead_0 : decode cX2_layAhead 0 = .ok (.aload_n 0, 1) := by decide +kernel
theorem dX2_layAhead_1 : decode cX2_layAhead 1 = .ok (.getfield 14, 3) := by decide +kernel
theorem dX2_layAhead_4 : decode cX2_layAhead 4 = .ok (.aload_n 1, 1) := by decide +kernel
theorem dX2_layAhead_5 : decode cX2_layAhead 5 = .ok (.invokevirtual 57, 3) := by decide +kernel
theorem dX2_layAhead_8 : decode cX2_layAhead 8 = .ok (.iconst 0, 1) := by decide +kernel
theorem dX2_layAhead_9 : decode cX2_layAhead 9 = .ok (.istore_n 3, 1) := by decide +kernel
theorem dX2_layAhead_10 : decode cX2_layAhead 10 = .ok (.iload_n 3, 1) := by decide +kernel
theorem dX2_layAhead_11 : decode cX2_layAhead 11 = .ok (.iload_n 2, 1) := by decide +kernel
theorem dX2_layAhead_12 : decode cX2_layAhead 12 = .ok (.if_icmp .ge 20, 3) := by decide +kernel
theorem dX2_layAhead_15 : decode cX2_layAhead 15 = .ok (.aload_n 0, 1) := by decide +kernel
theorem dX2_layAhead_16 : decode cX2_layAhead 16 = .ok (.getfield 49, 3) := by decide +kernel
theorem dX2_layAhead_19 : decode cX2_layAhead 19 = .ok (.aload_n 0, 1) := by decide +kernel
theorem dX2_layAhead_20 : decode cX2_layAhead 20 = .ok (.getfield 14, 3) := by decide +kernel
theorem dX2_layAhead_23 : decode cX2_layAhead 23 = .ok (.invokevirtual 80, 3) := by decide +kernel
theorem dX2_layAhead_26 : decode cX2_layAhead 26 = .ok (.iinc 3 1, 3) := by decide +kernel
theorem dX2_layAhead_29 : decode cX2_layAhead 29 = .ok (.goto (-19), 3) := by decide +kernel
theorem dX2_layAhead_32 : decode cX2_layAhead 32 = .ok (.aload_n 0, 1) := by decide +kernel
theorem dX2_layAhead_33 : decode cX2_layAhead 33 = .ok (.getfield 49, 3) := by decide +kernel
theorem dX2_layAhead_36 : decode cX2_layAhead 36 = .ok (.aload_n 0, 1) := by decide +kernel
theorem dX2_layAhead_37 : decode cX2_layAhead 37 = .ok (.getfield 14, 3) := by decide +kernel
theorem dX2_layAhead_40 : decode cX2_layAhead 40 = .ok (.invokevirtual 85, 3) := by decide +kernel
theorem dX2_layAhead_43 : decode cX2_layAhead 43 = .ok (.return_, 1) := by decide +kernel
theorem dX2_seekBest_0 : decode cX2_seekBest 0 = .ok (.aload_n 0, 1) := by decide +kernel
theorem dX2_seekBest_1 : decode cX2_seekBest 1 = .ok (.getfield 18, 3) := by decide +kernel
theorem dX2_seekBest_4 : decode cX2_seekBest 4 = .ok (.iconst 0, 1) := by decide +kernel
theorem dX2_seekBest_5 : decode cX2_seekBest 5 = .ok (.aaload, 1) := by decide +kernel
theorem dX2_seekBest_6 : decode cX2_seekBest 6 = .ok (.aload_n 1, 1) := by decide +kernel
theorem dX2_seekBest_7 : decode cX2_seekBest 7 = .ok (.invokevirtual 57, 3) := by decide +kernel
theorem dX2_seekBest_10 : decode cX2_seekBest 10 = .ok (.aload_n 0, 1) := by decide +kernel
theorem dX2_seekBest_11 : decode cX2_seekBest 11 = .ok (.iconst 0, 1) := by decide +kernel
theorem dX2_seekBest_12 : decode cX2_seekBest 12 = .ok (.putfield 33, 3) := by decide +kernel
theorem dX2_seekBest_15 : decode cX2_seekBest 15 = .ok (.aload_n 0, 1) := by decide +kernel
theorem dX2_seekBest_16 : decode cX2_seekBest 16 = .ok (.ldc 88, 2) := by decide +kernel
theorem dX2_seekBest_18 : decode cX2_seekBest 18 = .ok (.putfield 36, 3) := by decide +kernel
theorem dX2_seekBest_21 : decode cX2_seekBest 21 = .ok (.aload_n 0, 1) := by decide +kernel
theorem dX2_seekBest_22 : decode cX2_seekBest 22 = .ok (.iconst 0, 1) := by decide +kernel
theorem dX2_seekBest_23 : decode cX2_seekBest 23 = .ok (.iload_n 2, 1) := by decide +kernel
theorem dX2_seekBest_24 : decode cX2_seekBest 24 = .ok (.iconst 0, 1) := by decide +kernel
theorem dX2_seekBest_25 : decode cX2_seekBest 25 = .ok (.invokevirtual 89, 3) := by decide +kernel
theorem dX2_seekBest_28 : decode cX2_seekBest 28 = .ok (.return_, 1) := by decide +kernel
theorem dX2_tryRows_0 : decode cX2_tryRows 0 = .ok (.iload_n 1, 1) := by decide +kernel
theorem dX2_tryRows_1 : decode cX2_tryRows 1 = .ok (.iconst 1, 1) := by decide +kernel
theorem dX2_tryRows_2 : decode cX2_tryRows 2 = .ok (.iadd, 1) := by decide +kernel
theorem dX2_tryRows_3 : decode cX2_tryRows 3 = .ok (.iconst 5, 1) := by decide +kernel
theorem dX2_tryRows_4 : decode cX2_tryRows 4 = .ok (.if_icmp .lt 4, 3) := by decide +kernel
theorem dX2_tryRows_7 : decode cX2_tryRows 7 = .ok (.return_, 1) := by decide +kernel
theorem dX2_tryRows_8 : decode cX2_tryRows 8 = .ok (.aload_n 0, 1) := by decide +kernel
theorem dX2_tryRows_9 : decode cX2_tryRows 9 = .ok (.getfield 18, 3) := by decide +kernel
theorem dX2_tryRows_12 : decode cX2_tryRows 12 = .ok (.iload_n 1, 1) := by decide +kernel
theorem dX2_tryRows_13 : decode cX2_tryRows 13 = .ok (.iconst 1, 1) := by decide +kernel
theorem dX2_tryRows_14 : decode cX2_tryRows 14 = .ok (.iadd, 1) := by decide +kernel
theorem dX2_tryRows_15 : decode cX2_tryRows 15 = .ok (.aaload, 1) := by decide +kernel
theorem dX2_tryRows_16 : decode cX2_tryRows 16 = .ok (.astore 4, 2) := by decide +kernel
theorem dX2_tryRows_18 : decode cX2_tryRows 18 = .ok (.iload_n 1, 1) := by decide +kernel
theorem dX2_tryRows_19 : decode cX2_tryRows 19 = .ok (.iconst 1, 1) := by decide +kernel
theorem dX2_tryRows_20 : decode cX2_tryRows 20 = .ok (.iadd, 1) := by decide +kernel
theorem dX2_tryRows_21 : decode cX2_tryRows 21 = .ok (.iload_n 2, 1) := by decide +kernel
theorem dX2_tryRows_22 : decode cX2_tryRows 22 = .ok (.if_icmp .lt 7, 3) := by decide +kernel
theorem dX2_tryRows_25 : decode cX2_tryRows 25 = .ok (.iconst 1, 1) := by decide +kernel
theorem dX2_tryRows_26 : decode cX2_tryRows 26 = .ok (.goto 4, 3) := by decide +kernel
theorem dX2_tryRows_29 : decode cX2_tryRows 29 = .ok (.iconst 0, 1) := by decide +kernel
theorem dX2_tryRows_30 : decode cX2_tryRows 30 = .ok (.istore 5, 2) := by decide +kernel
theorem dX2_tryRows_32 : decode cX2_tryRows 32 = .ok (.iconst 0, 1) := by decide +kernel
theorem dX2_tryRows_33 : decode cX2_tryRows 33 = .ok (.istore 6, 2) := by decide +kernel
theorem dX2_tryRows_35 : decode cX2_tryRows 35 = .ok (.iload 6, 2) := by decide +kernel
theorem dX2_tryRows_37 : decode cX2_tryRows 37 = .ok (.aload_n 0, 1) := by decide +kernel
theorem dX2_tryRows_38 : decode cX2_tryRows 38 = .ok (.getfield 45, 3) := by decide +kernel
theorem dX2_tryRows_41 : decode cX2_tryRows 41 = .ok (.getfield 93, 3) := by decide +kernel
theorem dX2_tryRows_44 : decode cX2_tryRows 44 = .ok (.if_icmp .ge 101, 3) := by decide +kernel
theorem dX2_tryRows_47 : decode cX2_tryRows 47 = .ok (.aload 4, 2) := by decide +kernel
theorem dX2_tryRows_49 : decode cX2_tryRows 49 = .ok (.aload_n 0, 1) := by decide +kernel
theorem dX2_tryRows_50 : decode cX2_tryRows 50 = .ok (.getfield 18, 3) := by decide +kernel
theorem dX2_tryRows_53 : decode cX2_tryRows 53 = .ok (.iload_n 1, 1) := by decide +kernel
theorem dX2_tryRows_54 : decode cX2_tryRows 54 = .ok (.aaload, 1) := by decide +kernel
theorem dX2_tryRows_55 : decode cX2_tryRows 55 = .ok (.invokevirtual 57, 3) := by decide +kernel
theorem dX2_tryRows_58 : decode cX2_tryRows 58 = .ok (.aload 4, 2) := by decide +kernel
theorem dX2_tryRows_60 : decode cX2_tryRows 60 = .ok (.getfield 98, 3) := by decide +kernel
theorem dX2_tryRows_63 : decode cX2_tryRows 63 = .ok (.iconst 3, 1) := by decide +kernel
theorem dX2_tryRows_64 : decode cX2_tryRows 64 = .ok (.iload 6, 2) := by decide +kernel
theorem dX2_tryRows_66 : decode cX2_tryRows 66 = .ok (.iastore, 1) := by decide +kernel
theorem dX2_tryRows_67 : decode cX2_tryRows 67 = .ok (.aload_n 0, 1) := by decide +kernel
theorem dX2_tryRows_68 : decode cX2_tryRows 68 = .ok (.getfield 49, 3) := by decide +kernel
theorem dX2_tryRows_71 : decode cX2_tryRows 71 = .ok (.aload 4, 2) := by decide +kernel
theorem dX2_tryRows_73 : decode cX2_tryRows 73 = .ok (.invokevirtual 80, 3) := by decide +kernel
theorem dX2_tryRows_76 : decode cX2_tryRows 76 = .ok (.iload 5, 2) := by decide +kernel
theorem dX2_tryRows_78 : decode cX2_tryRows 78 = .ok (.ifCond .ne 21, 3) := by decide +kernel
theorem dX2_tryRows_81 : decode cX2_tryRows 81 = .ok (.aload_n 0, 1) := by decide +kernel
theorem dX2_tryRows_82 : decode cX2_tryRows 82 = .ok (.iload_n 1, 1) := by decide +kernel
theorem dX2_tryRows_83 : decode cX2_tryRows 83 = .ok (.iconst 1, 1) := by decide +kernel
theorem dX2_tryRows_84 : decode cX2_tryRows 84 = .ok (.iadd, 1) := by decide +kernel
theorem dX2_tryRows_85 : decode cX2_tryRows 85 = .ok (.iload_n 2, 1) := by decide +kernel
theorem dX2_tryRows_86 : decode cX2_tryRows 86 = .ok (.iload_n 3, 1) := by decide +kernel
theorem dX2_tryRows_87 : decode cX2_tryRows 87 = .ok (.bipush 10, 2) := by decide +kernel
theorem dX2_tryRows_89 : decode cX2_tryRows 89 = .ok (.imul, 1) := by decide +kernel
theorem dX2_tryRows_90 : decode cX2_tryRows 90 = .ok (.iload 6, 2) := by decide +kernel
theorem dX2_tryRows_92 : decode cX2_tryRows 92 = .ok (.iadd, 1) := by decide +kernel
theorem dX2_tryRows_93 : decode cX2_tryRows 93 = .ok (.invokevirtual 89, 3) := by decide +kernel
theorem dX2_tryRows_96 : decode cX2_tryRows 96 = .ok (.goto 43, 3) := by decide +kernel
theorem dX2_tryRows_99 : decode cX2_tryRows 99 = .ok (.iconst 0, 1) := by decide +kernel
theorem dX2_tryRows_100 : decode cX2_tryRows 100 = .ok (.istore 7, 2) := by decide +kernel
theorem dX2_tryRows_102 : decode cX2_tryRows 102 = .ok (.iload 7, 2) := by decide +kernel
theorem dX2_tryRows_104 : decode cX2_tryRows 104 = .ok (.iconst 3, 1) := by decide +kernel
theorem dX2_tryRows_105 : decode cX2_tryRows 105 = .ok (.if_icmp .ge 18, 3) := by decide +kernel
theorem dX2_tryRows_108 : decode cX2_tryRows 108 = .ok (.aload_n 0, 1) := by decide +kernel
theorem dX2_tryRows_109 : decode cX2_tryRows 109 = .ok (.getfield 49, 3) := by decide +kernel
theorem dX2_tryRows_112 : decode cX2_tryRows 112 = .ok (.aload 4, 2) := by decide +kernel
theorem dX2_tryRows_114 : decode cX2_tryRows 114 = .ok (.invokevirtual 80, 3) := by decide +kernel
theorem dX2_tryRows_117 : decode cX2_tryRows 117 = .ok (.iinc 7 1, 3) := by decide +kernel
theorem dX2_tryRows_120 : decode cX2_tryRows 120 = .ok (.goto (-18), 3) := by decide +kernel
theorem dX2_tryRows_123 : decode cX2_tryRows 123 = .ok (.aload_n 0, 1) := by decide +kernel
theorem dX2_tryRows_124 : decode cX2_tryRows 124 = .ok (.iload_n 3, 1) := by decide +kernel
theorem dX2_tryRows_125 : decode cX2_tryRows 125 = .ok (.bipush 10, 2) := by decide +kernel
theorem dX2_tryRows_127 : decode cX2_tryRows 127 = .ok (.imul, 1) := by decide +kernel
theorem dX2_tryRows_128 : decode cX2_tryRows 128 = .ok (.iload 6, 2) := by decide +kernel
theorem dX2_tryRows_130 : decode cX2_tryRows 130 = .ok (.iadd, 1) := by decide +kernel
theorem dX2_tryRows_131 : decode cX2_tryRows 131 = .ok (.aload 4, 2) := by decide +kernel
theorem dX2_tryRows_133 : decode cX2_tryRows 133 = .ok (.invokevirtual 76, 3) := by decide +kernel
theorem dX2_tryRows_136 : decode cX2_tryRows 136 = .ok (.invokevirtual 101, 3) := by decide +kernel
theorem dX2_tryRows_139 : decode cX2_tryRows 139 = .ok (.iinc 6 1, 3) := by decide +kernel
theorem dX2_tryRows_142 : decode cX2_tryRows 142 = .ok (.goto (-107), 3) := by decide +kernel
theorem dX2_tryRows_145 : decode cX2_tryRows 145 = .ok (.return_, 1) := by decide +kernel
theorem dX2_weighRow_0 : decode cX2_weighRow 0 = .ok (.iload_n 2, 1) := by decide +kernel
theorem dX2_weighRow_1 : decode cX2_weighRow 1 = .ok (.aload_n 0, 1) := by decide +kernel
theorem dX2_weighRow_2 : decode cX2_weighRow 2 = .ok (.getfield 36, 3) := by decide +kernel
theorem dX2_weighRow_5 : decode cX2_weighRow 5 = .ok (.if_icmp .le 13, 3) := by decide +kernel
theorem dX2_weighRow_8 : decode cX2_weighRow 8 = .ok (.aload_n 0, 1) := by decide +kernel
theorem dX2_weighRow_9 : decode cX2_weighRow 9 = .ok (.iload_n 2, 1) := by decide +kernel
theorem dX2_weighRow_10 : decode cX2_weighRow 10 = .ok (.putfield 36, 3) := by decide +kernel
theorem dX2_weighRow_13 : decode cX2_weighRow 13 = .ok (.aload_n 0, 1) := by decide +kernel
theorem dX2_weighRow_14 : decode cX2_weighRow 14 = .ok (.iload_n 1, 1) := by decide +kernel
theorem dX2_weighRow_15 : decode cX2_weighRow 15 = .ok (.putfield 33, 3) := by decide +kernel
theorem dX2_weighRow_18 : decode cX2_weighRow 18 = .ok (.return_, 1) := by decide +kernel
theorem dX2_fewestMadeUp_0 : decode cX2_fewestMadeUp 0 = .ok (.aload_n 0, 1) := by decide +kernel
theorem dX2_fewestMadeUp_1 : decode cX2_fewestMadeUp 1 = .ok (.getfield 14, 3) := by decide +kernel
theorem dX2_fewestMadeUp_4 : decode cX2_fewestMadeUp 4 = .ok (.aload_n 1, 1) := by decide +kernel
theorem dX2_fewestMadeUp_5 : decode cX2_fewestMadeUp 5 = .ok (.invokevirtual 57, 3) := by decide +kernel
theorem dX2_fewestMadeUp_8 : decode cX2_fewestMadeUp 8 = .ok (.iconst 0, 1) := by decide +kernel
theorem dX2_fewestMadeUp_9 : decode cX2_fewestMadeUp 9 = .ok (.istore_n 3, 1) := by decide +kernel
theorem dX2_fewestMadeUp_10 : decode cX2_fewestMadeUp 10 = .ok (.iload_n 3, 1) := by decide +kernel
theorem dX2_fewestMadeUp_11 : decode cX2_fewestMadeUp 11 = .ok (.aload_n 1, 1) := by decide +kernel
theorem dX2_fewestMadeUp_12 : decode cX2_fewestMadeUp 12 = .ok (.getfield 98, 3) := by decide +kernel
theorem dX2_fewestMadeUp_15 : decode cX2_fewestMadeUp 15 = .ok (.iconst 1, 1) := by decide +kernel
theorem dX2_fewestMadeUp_16 : decode cX2_fewestMadeUp 16 = .ok (.iaload, 1) := by decide +kernel
theorem dX2_fewestMadeUp_17 : decode cX2_fewestMadeUp 17 = .ok (.if_icmp .gt 61, 3) := by decide +kernel
theorem dX2_fewestMadeUp_20 : decode cX2_fewestMadeUp 20 = .ok (.aload_n 0, 1) := by decide +kernel
theorem dX2_fewestMadeUp_21 : decode cX2_fewestMadeUp 21 = .ok (.getfield 14, 3) := by decide +kernel
theorem dX2_fewestMadeUp_24 : decode cX2_fewestMadeUp 24 = .ok (.getfield 98, 3) := by decide +kernel
theorem dX2_fewestMadeUp_27 : decode cX2_fewestMadeUp 27 = .ok (.iconst 1, 1) := by decide +kernel
theorem dX2_fewestMadeUp_28 : decode cX2_fewestMadeUp 28 = .ok (.aload_n 1, 1) := by decide +kernel
theorem dX2_fewestMadeUp_29 : decode cX2_fewestMadeUp 29 = .ok (.getfield 98, 3) := by decide +kernel
theorem dX2_fewestMadeUp_32 : decode cX2_fewestMadeUp 32 = .ok (.iconst 1, 1) := by decide +kernel
theorem dX2_fewestMadeUp_33 : decode cX2_fewestMadeUp 33 = .ok (.iaload, 1) := by decide +kernel
theorem dX2_fewestMadeUp_34 : decode cX2_fewestMadeUp 34 = .ok (.iload_n 3, 1) := by decide +kernel
theorem dX2_fewestMadeUp_35 : decode cX2_fewestMadeUp 35 = .ok (.isub, 1) := by decide +kernel
theorem dX2_fewestMadeUp_36 : decode cX2_fewestMadeUp 36 = .ok (.iastore, 1) := by decide +kernel
theorem dX2_fewestMadeUp_37 : decode cX2_fewestMadeUp 37 = .ok (.aload_n 0, 1) := by decide +kernel
theorem dX2_fewestMadeUp_38 : decode cX2_fewestMadeUp 38 = .ok (.getfield 49, 3) := by decide +kernel
theorem dX2_fewestMadeUp_41 : decode cX2_fewestMadeUp 41 = .ok (.aload_n 0, 1) := by decide +kernel
theorem dX2_fewestMadeUp_42 : decode cX2_fewestMadeUp 42 = .ok (.getfield 14, 3) := by decide +kernel
theorem dX2_fewestMadeUp_45 : decode cX2_fewestMadeUp 45 = .ok (.invokevirtual 85, 3) := by decide +kernel
theorem dX2_fewestMadeUp_48 : decode cX2_fewestMadeUp 48 = .ok (.aload_n 0, 1) := by decide +kernel
theorem dX2_fewestMadeUp_49 : decode cX2_fewestMadeUp 49 = .ok (.getfield 49, 3) := by decide +kernel
theorem dX2_fewestMadeUp_52 : decode cX2_fewestMadeUp 52 = .ok (.getfield 105, 3) := by decide +kernel
theorem dX2_fewestMadeUp_55 : decode cX2_fewestMadeUp 55 = .ok (.iconst (-1), 1) := by decide +kernel
theorem dX2_fewestMadeUp_56 : decode cX2_fewestMadeUp 56 = .ok (.if_icmp .eq 16, 3) := by decide +kernel
theorem dX2_fewestMadeUp_59 : decode cX2_fewestMadeUp 59 = .ok (.aload_n 0, 1) := by decide +kernel
theorem dX2_fewestMadeUp_60 : decode cX2_fewestMadeUp 60 = .ok (.getfield 49, 3) := by decide +kernel
theorem dX2_fewestMadeUp_63 : decode cX2_fewestMadeUp 63 = .ok (.getfield 108, 3) := by decide +kernel
theorem dX2_fewestMadeUp_66 : decode cX2_fewestMadeUp 66 = .ok (.iload_n 2, 1) := by decide +kernel
theorem dX2_fewestMadeUp_67 : decode cX2_fewestMadeUp 67 = .ok (.if_icmp .lt 5, 3) := by decide +kernel
theorem dX2_fewestMadeUp_70 : decode cX2_fewestMadeUp 70 = .ok (.iload_n 3, 1) := by decide +kernel
theorem dX2_fewestMadeUp_71 : decode cX2_fewestMadeUp 71 = .ok (.ireturn, 1) := by decide +kernel
theorem dX2_fewestMadeUp_72 : decode cX2_fewestMadeUp 72 = .ok (.iinc 3 1, 3) := by decide +kernel
theorem dX2_fewestMadeUp_75 : decode cX2_fewestMadeUp 75 = .ok (.goto (-65), 3) := by decide +kernel
theorem dX2_fewestMadeUp_78 : decode cX2_fewestMadeUp 78 = .ok (.iconst (-1), 1) := by decide +kernel
theorem dX2_fewestMadeUp_79 : decode cX2_fewestMadeUp 79 = .ok (.ireturn, 1) := by decide +kernel
theorem dX2_daysToLeaving_0 : decode cX2_daysToLeaving 0 = .ok (.aload_n 0, 1) := by decide +kernel
theorem dX2_daysToLeaving_1 : decode cX2_daysToLeaving 1 = .ok (.getfield 14, 3) := by decide +kernel
theorem dX2_daysToLeaving_4 : decode cX2_daysToLeaving 4 = .ok (.aload_n 1, 1) := by decide +kernel
theorem dX2_daysToLeaving_5 : decode cX2_daysToLeaving 5 = .ok (.invokevirtual 57, 3) := by decide +kernel
theorem dX2_daysToLeaving_8 : decode cX2_daysToLeaving 8 = .ok (.iconst 1, 1) := by decide +kernel
theorem dX2_daysToLeaving_9 : decode cX2_daysToLeaving 9 = .ok (.istore_n 3, 1) := by decide +kernel
theorem dX2_daysToLeaving_10 : decode cX2_daysToLeaving 10 = .ok (.iload_n 3, 1) := by decide +kernel
theorem dX2_daysToLeaving_11 : decode cX2_daysToLeaving 11 = .ok (.bipush 60, 2) := by decide +kernel
theorem dX2_daysToLeaving_13 : decode cX2_daysToLeaving 13 = .ok (.if_icmp .gt 33, 3) := by decide +kernel
theorem dX2_daysToLeaving_16 : decode cX2_daysToLeaving 16 = .ok (.aload_n 0, 1) := by decide +kernel
theorem dX2_daysToLeaving_17 : decode cX2_daysToLeaving 17 = .ok (.getfield 49, 3) := by decide +kernel
theorem dX2_daysToLeaving_20 : decode cX2_daysToLeaving 20 = .ok (.aload_n 0, 1) := by decide +kernel
theorem dX2_daysToLeaving_21 : decode cX2_daysToLeaving 21 = .ok (.getfield 14, 3) := by decide +kernel
theorem dX2_daysToLeaving_24 : decode cX2_daysToLeaving 24 = .ok (.invokevirtual 80, 3) := by decide +kernel
theorem dX2_daysToLeaving_27 : decode cX2_daysToLeaving 27 = .ok (.aload_n 0, 1) := by decide +kernel
theorem dX2_daysToLeaving_28 : decode cX2_daysToLeaving 28 = .ok (.getfield 14, 3) := by decide +kernel
theorem dX2_daysToLeaving_31 : decode cX2_daysToLeaving 31 = .ok (.iload_n 2, 1) := by decide +kernel
theorem dX2_daysToLeaving_32 : decode cX2_daysToLeaving 32 = .ok (.invokevirtual 111, 3) := by decide +kernel
theorem dX2_daysToLeaving_35 : decode cX2_daysToLeaving 35 = .ok (.ifCond .eq 5, 3) := by decide +kernel
theorem dX2_daysToLeaving_38 : decode cX2_daysToLeaving 38 = .ok (.iload_n 3, 1) := by decide +kernel
theorem dX2_daysToLeaving_39 : decode cX2_daysToLeaving 39 = .ok (.ireturn, 1) := by decide +kernel
theorem dX2_daysToLeaving_40 : decode cX2_daysToLeaving 40 = .ok (.iinc 3 1, 3) := by decide +kernel
theorem dX2_daysToLeaving_43 : decode cX2_daysToLeaving 43 = .ok (.goto (-33), 3) := by decide +kernel
theorem dX2_daysToLeaving_46 : decode cX2_daysToLeaving 46 = .ok (.iconst (-1), 1) := by decide +kernel
theorem dX2_daysToLeaving_47 : decode cX2_daysToLeaving 47 = .ok (.ireturn, 1) := by decide +kernel
theorem dX2_daysToNothing_0 : decode cX2_daysToNothing 0 = .ok (.aload_n 0, 1) := by decide +kernel
theorem dX2_daysToNothing_1 : decode cX2_daysToNothing 1 = .ok (.getfield 14, 3) := by decide +kernel
theorem dX2_daysToNothing_4 : decode cX2_daysToNothing 4 = .ok (.aload_n 1, 1) := by decide +kernel
theorem dX2_daysToNothing_5 : decode cX2_daysToNothing 5 = .ok (.invokevirtual 57, 3) := by decide +kernel
theorem dX2_daysToNothing_8 : decode cX2_daysToNothing 8 = .ok (.iconst 0, 1) := by decide +kernel
theorem dX2_daysToNothing_9 : decode cX2_daysToNothing 9 = .ok (.istore_n 2, 1) := by decide +kernel
theorem dX2_daysToNothing_10 : decode cX2_daysToNothing 10 = .ok (.iload_n 2, 1) := by decide +kernel
theorem dX2_daysToNothing_11 : decode cX2_daysToNothing 11 = .ok (.bipush 60, 2) := by decide +kernel
theorem dX2_daysToNothing_13 : decode cX2_daysToNothing 13 = .ok (.if_icmp .gt 42, 3) := by decide +kernel
theorem dX2_daysToNothing_16 : decode cX2_daysToNothing 16 = .ok (.aload_n 0, 1) := by decide +kernel
theorem dX2_daysToNothing_17 : decode cX2_daysToNothing 17 = .ok (.getfield 49, 3) := by decide +kernel
theorem dX2_daysToNothing_20 : decode cX2_daysToNothing 20 = .ok (.aload_n 0, 1) := by decide +kernel
theorem dX2_daysToNothing_21 : decode cX2_daysToNothing 21 = .ok (.getfield 14, 3) := by decide +kernel
theorem dX2_daysToNothing_24 : decode cX2_daysToNothing 24 = .ok (.invokevirtual 80, 3) := by decide +kernel
theorem dX2_daysToNothing_27 : decode cX2_daysToNothing 27 = .ok (.aload_n 0, 1) := by decide +kernel
theorem dX2_daysToNothing_28 : decode cX2_daysToNothing 28 = .ok (.getfield 49, 3) := by decide +kernel
theorem dX2_daysToNothing_31 : decode cX2_daysToNothing 31 = .ok (.getfield 115, 3) := by decide +kernel
theorem dX2_daysToNothing_34 : decode cX2_daysToNothing 34 = .ok (.ifCond .eq 15, 3) := by decide +kernel
theorem dX2_daysToNothing_37 : decode cX2_daysToNothing 37 = .ok (.aload_n 0, 1) := by decide +kernel
theorem dX2_daysToNothing_38 : decode cX2_daysToNothing 38 = .ok (.getfield 49, 3) := by decide +kernel
theorem dX2_daysToNothing_41 : decode cX2_daysToNothing 41 = .ok (.getfield 118, 3) := by decide +kernel
theorem dX2_daysToNothing_44 : decode cX2_daysToNothing 44 = .ok (.ifCond .ne 5, 3) := by decide +kernel
theorem dX2_daysToNothing_47 : decode cX2_daysToNothing 47 = .ok (.iload_n 2, 1) := by decide +kernel
theorem dX2_daysToNothing_48 : decode cX2_daysToNothing 48 = .ok (.ireturn, 1) := by decide +kernel
theorem dX2_daysToNothing_49 : decode cX2_daysToNothing 49 = .ok (.iinc 2 1, 3) := by decide +kernel
theorem dX2_daysToNothing_52 : decode cX2_daysToNothing 52 = .ok (.goto (-42), 3) := by decide +kernel
theorem dX2_daysToNothing_55 : decode cX2_daysToNothing 55 = .ok (.iconst (-1), 1) := by decide +kernel
theorem dX2_daysToNothing_56 : decode cX2_daysToNothing 56 = .ok (.ireturn, 1) := by decide +kernel
theorem dX2_fullestDay_0 : decode cX2_fullestDay 0 = .ok (.aload_n 0, 1) := by decide +kernel
theorem dX2_fullestDay_1 : decode cX2_fullestDay 1 = .ok (.getfield 14, 3) := by decide +kernel
theorem dX2_fullestDay_4 : decode cX2_fullestDay 4 = .ok (.aload_n 1, 1) := by decide +kernel
theorem dX2_fullestDay_5 : decode cX2_fullestDay 5 = .ok (.invokevirtual 57, 3) := by decide +kernel
theorem dX2_fullestDay_8 : decode cX2_fullestDay 8 = .ok (.iconst 0, 1) := by decide +kernel
theorem dX2_fullestDay_9 : decode cX2_fullestDay 9 = .ok (.istore_n 2, 1) := by decide +kernel
theorem dX2_fullestDay_10 : decode cX2_fullestDay 10 = .ok (.iconst (-1), 1) := by decide +kernel
theorem dX2_fullestDay_11 : decode cX2_fullestDay 11 = .ok (.istore_n 3, 1) := by decide +kernel
theorem dX2_fullestDay_12 : decode cX2_fullestDay 12 = .ok (.iconst 0, 1) := by decide +kernel
theorem dX2_fullestDay_13 : decode cX2_fullestDay 13 = .ok (.istore 4, 2) := by decide +kernel
theorem dX2_fullestDay_15 : decode cX2_fullestDay 15 = .ok (.iload 4, 2) := by decide +kernel
theorem dX2_fullestDay_17 : decode cX2_fullestDay 17 = .ok (.bipush 20, 2) := by decide +kernel
theorem dX2_fullestDay_19 : decode cX2_fullestDay 19 = .ok (.if_icmp .ge 42, 3) := by decide +kernel
theorem dX2_fullestDay_22 : decode cX2_fullestDay 22 = .ok (.aload_n 0, 1) := by decide +kernel
theorem dX2_fullestDay_23 : decode cX2_fullestDay 23 = .ok (.getfield 49, 3) := by decide +kernel
theorem dX2_fullestDay_26 : decode cX2_fullestDay 26 = .ok (.aload_n 0, 1) := by decide +kernel
theorem dX2_fullestDay_27 : decode cX2_fullestDay 27 = .ok (.getfield 14, 3) := by decide +kernel
theorem dX2_fullestDay_30 : decode cX2_fullestDay 30 = .ok (.invokevirtual 80, 3) := by decide +kernel
theorem dX2_fullestDay_33 : decode cX2_fullestDay 33 = .ok (.aload_n 0, 1) := by decide +kernel
theorem dX2_fullestDay_34 : decode cX2_fullestDay 34 = .ok (.getfield 49, 3) := by decide +kernel
theorem dX2_fullestDay_37 : decode cX2_fullestDay 37 = .ok (.getfield 121, 3) := by decide +kernel
theorem dX2_fullestDay_40 : decode cX2_fullestDay 40 = .ok (.iload_n 3, 1) := by decide +kernel
theorem dX2_fullestDay_41 : decode cX2_fullestDay 41 = .ok (.if_icmp .le 14, 3) := by decide +kernel
theorem dX2_fullestDay_44 : decode cX2_fullestDay 44 = .ok (.aload_n 0, 1) := by decide +kernel
theorem dX2_fullestDay_45 : decode cX2_fullestDay 45 = .ok (.getfield 49, 3) := by decide +kernel
theorem dX2_fullestDay_48 : decode cX2_fullestDay 48 = .ok (.getfield 121, 3) := by decide +kernel
theorem dX2_fullestDay_51 : decode cX2_fullestDay 51 = .ok (.istore_n 3, 1) := by decide +kernel
theorem dX2_fullestDay_52 : decode cX2_fullestDay 52 = .ok (.iload 4, 2) := by decide +kernel
theorem dX2_fullestDay_54 : decode cX2_fullestDay 54 = .ok (.istore_n 2, 1) := by decide +kernel
theorem dX2_fullestDay_55 : decode cX2_fullestDay 55 = .ok (.iinc 4 1, 3) := by decide +kernel
theorem dX2_fullestDay_58 : decode cX2_fullestDay 58 = .ok (.goto (-43), 3) := by decide +kernel
theorem dX2_fullestDay_61 : decode cX2_fullestDay 61 = .ok (.iload_n 2, 1) := by decide +kernel
theorem dX2_fullestDay_62 : decode cX2_fullestDay 62 = .ok (.ireturn, 1) := by decide +kernel
theorem dX2_play_0 : decode cX2_play 0 = .ok (.aload_n 0, 1) := by decide +kernel
theorem dX2_play_1 : decode cX2_play 1 = .ok (.getfield 14, 3) := by decide +kernel
theorem dX2_play_4 : decode cX2_play 4 = .ok (.aload_n 1, 1) := by decide +kernel
theorem dX2_play_5 : decode cX2_play 5 = .ok (.invokevirtual 57, 3) := by decide +kernel
theorem dX2_play_8 : decode cX2_play 8 = .ok (.aload_n 0, 1) := by decide +kernel
theorem dX2_play_9 : decode cX2_play 9 = .ok (.getfield 14, 3) := by decide +kernel
theorem dX2_play_12 : decode cX2_play 12 = .ok (.getfield 98, 3) := by decide +kernel
theorem dX2_play_15 : decode cX2_play 15 = .ok (.bipush 13, 2) := by decide +kernel
theorem dX2_play_17 : decode cX2_play 17 = .ok (.iload_n 2, 1) := by decide +kernel
theorem dX2_play_18 : decode cX2_play 18 = .ok (.iadd, 1) := by decide +kernel
theorem dX2_play_19 : decode cX2_play 19 = .ok (.dup2, 1) := by decide +kernel
theorem dX2_play_20 : decode cX2_play 20 = .ok (.iaload, 1) := by decide +kernel
theorem dX2_play_21 : decode cX2_play 21 = .ok (.iload 4, 2) := by decide +kernel
theorem dX2_play_23 : decode cX2_play 23 = .ok (.iadd, 1) := by decide +kernel
theorem dX2_play_24 : decode cX2_play 24 = .ok (.iastore, 1) := by decide +kernel
theorem dX2_play_25 : decode cX2_play 25 = .ok (.aload_n 0, 1) := by decide +kernel
theorem dX2_play_26 : decode cX2_play 26 = .ok (.getfield 14, 3) := by decide +kernel
theorem dX2_play_29 : decode cX2_play 29 = .ok (.getfield 98, 3) := by decide +kernel
theorem dX2_play_32 : decode cX2_play 32 = .ok (.bipush 13, 2) := by decide +kernel
theorem dX2_play_34 : decode cX2_play 34 = .ok (.iload_n 3, 1) := by decide +kernel
theorem dX2_play_35 : decode cX2_play 35 = .ok (.iadd, 1) := by decide +kernel
theorem dX2_play_36 : decode cX2_play 36 = .ok (.dup2, 1) := by decide +kernel
theorem dX2_play_37 : decode cX2_play 37 = .ok (.iaload, 1) := by decide +kernel
theorem dX2_play_38 : decode cX2_play 38 = .ok (.iload 5, 2) := by decide +kernel
theorem dX2_play_40 : decode cX2_play 40 = .ok (.iadd, 1) := by decide +kernel
theorem dX2_play_41 : decode cX2_play 41 = .ok (.iastore, 1) := by decide +kernel
theorem dX2_play_42 : decode cX2_play 42 = .ok (.aload_n 0, 1) := by decide +kernel
theorem dX2_play_43 : decode cX2_play 43 = .ok (.iconst 0, 1) := by decide +kernel
theorem dX2_play_44 : decode cX2_play 44 = .ok (.putfield 39, 3) := by decide +kernel
theorem dX2_play_47 : decode cX2_play 47 = .ok (.aload_n 0, 1) := by decide +kernel
theorem dX2_play_48 : decode cX2_play 48 = .ok (.iconst 0, 1) := by decide +kernel
theorem dX2_play_49 : decode cX2_play 49 = .ok (.putfield 42, 3) := by decide +kernel
theorem dX2_play_52 : decode cX2_play 52 = .ok (.iconst 0, 1) := by decide +kernel
theorem dX2_play_53 : decode cX2_play 53 = .ok (.istore 6, 2) := by decide +kernel
theorem dX2_play_55 : decode cX2_play 55 = .ok (.iload 6, 2) := by decide +kernel
theorem dX2_play_57 : decode cX2_play 57 = .ok (.bipush 8, 2) := by decide +kernel
theorem dX2_play_59 : decode cX2_play 59 = .ok (.if_icmp .ge 48, 3) := by decide +kernel
theorem dX2_play_62 : decode cX2_play 62 = .ok (.aload_n 0, 1) := by decide +kernel
theorem dX2_play_63 : decode cX2_play 63 = .ok (.getfield 49, 3) := by decide +kernel
theorem dX2_play_66 : decode cX2_play 66 = .ok (.aload_n 0, 1) := by decide +kernel
theorem dX2_play_67 : decode cX2_play 67 = .ok (.getfield 14, 3) := by decide +kernel
theorem dX2_play_70 : decode cX2_play 70 = .ok (.invokevirtual 80, 3) := by decide +kernel
theorem dX2_play_73 : decode cX2_play 73 = .ok (.aload_n 0, 1) := by decide +kernel
theorem dX2_play_74 : decode cX2_play 74 = .ok (.dup, 1) := by decide +kernel
theorem dX2_play_75 : decode cX2_play 75 = .ok (.getfield 39, 3) := by decide +kernel
theorem dX2_play_78 : decode cX2_play 78 = .ok (.aload_n 0, 1) := by decide +kernel
theorem dX2_play_79 : decode cX2_play 79 = .ok (.iload_n 2, 1) := by decide +kernel
theorem dX2_play_80 : decode cX2_play 80 = .ok (.invokevirtual 124, 3) := by decide +kernel
theorem dX2_play_83 : decode cX2_play 83 = .ok (.iadd, 1) := by decide +kernel
theorem dX2_play_84 : decode cX2_play 84 = .ok (.putfield 39, 3) := by decide +kernel
theorem dX2_play_87 : decode cX2_play 87 = .ok (.aload_n 0, 1) := by decide +kernel
theorem dX2_play_88 : decode cX2_play 88 = .ok (.dup, 1) := by decide +kernel
theorem dX2_play_89 : decode cX2_play 89 = .ok (.getfield 42, 3) := by decide +kernel
theorem dX2_play_92 : decode cX2_play 92 = .ok (.aload_n 0, 1) := by decide +kernel
theorem dX2_play_93 : decode cX2_play 93 = .ok (.iload_n 3, 1) := by decide +kernel
theorem dX2_play_94 : decode cX2_play 94 = .ok (.invokevirtual 124, 3) := by decide +kernel
theorem dX2_play_97 : decode cX2_play 97 = .ok (.iadd, 1) := by decide +kernel
theorem dX2_play_98 : decode cX2_play 98 = .ok (.putfield 42, 3) := by decide +kernel
theorem dX2_play_101 : decode cX2_play 101 = .ok (.iinc 6 1, 3) := by decide +kernel
theorem dX2_play_104 : decode cX2_play 104 = .ok (.goto (-49), 3) := by decide +kernel
theorem dX2_play_107 : decode cX2_play 107 = .ok (.aload_n 0, 1) := by decide +kernel
theorem dX2_play_108 : decode cX2_play 108 = .ok (.dup, 1) := by decide +kernel
theorem dX2_play_109 : decode cX2_play 109 = .ok (.getfield 39, 3) := by decide +kernel
theorem dX2_play_112 : decode cX2_play 112 = .ok (.aload_n 0, 1) := by decide +kernel
theorem dX2_play_113 : decode cX2_play 113 = .ok (.getfield 14, 3) := by decide +kernel
theorem dX2_play_116 : decode cX2_play 116 = .ok (.getfield 98, 3) := by decide +kernel
theorem dX2_play_119 : decode cX2_play 119 = .ok (.bipush 25, 2) := by decide +kernel
theorem dX2_play_121 : decode cX2_play 121 = .ok (.iload_n 2, 1) := by decide +kernel
theorem dX2_play_122 : decode cX2_play 122 = .ok (.iadd, 1) := by decide +kernel
theorem dX2_play_123 : decode cX2_play 123 = .ok (.iaload, 1) := by decide +kernel
theorem dX2_play_124 : decode cX2_play 124 = .ok (.aload_n 1, 1) := by decide +kernel
theorem dX2_play_125 : decode cX2_play 125 = .ok (.getfield 98, 3) := by decide +kernel
theorem dX2_play_128 : decode cX2_play 128 = .ok (.bipush 25, 2) := by decide +kernel
theorem dX2_play_130 : decode cX2_play 130 = .ok (.iload_n 2, 1) := by decide +kernel
theorem dX2_play_131 : decode cX2_play 131 = .ok (.iadd, 1) := by decide +kernel
theorem dX2_play_132 : decode cX2_play 132 = .ok (.iaload, 1) := by decide +kernel
theorem dX2_play_133 : decode cX2_play 133 = .ok (.isub, 1) := by decide +kernel
theorem dX2_play_134 : decode cX2_play 134 = .ok (.iadd, 1) := by decide +kernel
theorem dX2_play_135 : decode cX2_play 135 = .ok (.putfield 39, 3) := by decide +kernel
theorem dX2_play_138 : decode cX2_play 138 = .ok (.aload_n 0, 1) := by decide +kernel
theorem dX2_play_139 : decode cX2_play 139 = .ok (.dup, 1) := by decide +kernel
theorem dX2_play_140 : decode cX2_play 140 = .ok (.getfield 42, 3) := by decide +kernel
theorem dX2_play_143 : decode cX2_play 143 = .ok (.aload_n 0, 1) := by decide +kernel
theorem dX2_play_144 : decode cX2_play 144 = .ok (.getfield 14, 3) := by decide +kernel
theorem dX2_play_147 : decode cX2_play 147 = .ok (.getfield 98, 3) := by decide +kernel
theorem dX2_play_150 : decode cX2_play 150 = .ok (.bipush 25, 2) := by decide +kernel
theorem dX2_play_152 : decode cX2_play 152 = .ok (.iload_n 3, 1) := by decide +kernel
theorem dX2_play_153 : decode cX2_play 153 = .ok (.iadd, 1) := by decide +kernel
theorem dX2_play_154 : decode cX2_play 154 = .ok (.iaload, 1) := by decide +kernel
theorem dX2_play_155 : decode cX2_play 155 = .ok (.aload_n 1, 1) := by decide +kernel
theorem dX2_play_156 : decode cX2_play 156 = .ok (.getfield 98, 3) := by decide +kernel
theorem dX2_play_159 : decode cX2_play 159 = .ok (.bipush 25, 2) := by decide +kernel
theorem dX2_play_161 : decode cX2_play 161 = .ok (.iload_n 3, 1) := by decide +kernel
theorem dX2_play_162 : decode cX2_play 162 = .ok (.iadd, 1) := by decide +kernel
theorem dX2_play_163 : decode cX2_play 163 = .ok (.iaload, 1) := by decide +kernel
theorem dX2_play_164 : decode cX2_play 164 = .ok (.isub, 1) := by decide +kernel
theorem dX2_play_165 : decode cX2_play 165 = .ok (.iadd, 1) := by decide +kernel
theorem dX2_play_166 : decode cX2_play 166 = .ok (.putfield 42, 3) := by decide +kernel
theorem dX2_play_169 : decode cX2_play 169 = .ok (.return_, 1) := by decide +kernel
theorem dX2_gainBesideJoy_0 : decode cX2_gainBesideJoy 0 = .ok (.aload_n 0, 1) := by decide +kernel
theorem dX2_gainBesideJoy_1 : decode cX2_gainBesideJoy 1 = .ok (.getfield 49, 3) := by decide +kernel
theorem dX2_gainBesideJoy_4 : decode cX2_gainBesideJoy 4 = .ok (.getfield 118, 3) := by decide +kernel
theorem dX2_gainBesideJoy_7 : decode cX2_gainBesideJoy 7 = .ok (.iload_n 1, 1) := by decide +kernel
theorem dX2_gainBesideJoy_8 : decode cX2_gainBesideJoy 8 = .ok (.ishr, 1) := by decide +kernel
theorem dX2_gainBesideJoy_9 : decode cX2_gainBesideJoy 9 = .ok (.iconst 1, 1) := by decide +kernel
theorem dX2_gainBesideJoy_10 : decode cX2_gainBesideJoy 10 = .ok (.iand, 1) := by decide +kernel
theorem dX2_gainBesideJoy_11 : decode cX2_gainBesideJoy 11 = .ok (.ifCond .eq 7, 3) := by decide +kernel
theorem dX2_gainBesideJoy_14 : decode cX2_gainBesideJoy 14 = .ok (.iconst 2, 1) := by decide +kernel
theorem dX2_gainBesideJoy_15 : decode cX2_gainBesideJoy 15 = .ok (.goto 4, 3) := by decide +kernel
theorem dX2_gainBesideJoy_18 : decode cX2_gainBesideJoy 18 = .ok (.iconst 0, 1) := by decide +kernel
theorem dX2_gainBesideJoy_19 : decode cX2_gainBesideJoy 19 = .ok (.istore_n 2, 1) := by decide +kernel
theorem dX2_gainBesideJoy_20 : decode cX2_gainBesideJoy 20 = .ok (.aload_n 0, 1) := by decide +kernel
theorem dX2_gainBesideJoy_21 : decode cX2_gainBesideJoy 21 = .ok (.getfield 49, 3) := by decide +kernel
theorem dX2_gainBesideJoy_24 : decode cX2_gainBesideJoy 24 = .ok (.getfield 115, 3) := by decide +kernel
theorem dX2_gainBesideJoy_27 : decode cX2_gainBesideJoy 27 = .ok (.iload_n 1, 1) := by decide +kernel
theorem dX2_gainBesideJoy_28 : decode cX2_gainBesideJoy 28 = .ok (.ishr, 1) := by decide +kernel
theorem dX2_gainBesideJoy_29 : decode cX2_gainBesideJoy 29 = .ok (.iconst 1, 1) := by decide +kernel
theorem dX2_gainBesideJoy_30 : decode cX2_gainBesideJoy 30 = .ok (.iand, 1) := by decide +kernel
theorem dX2_gainBesideJoy_31 : decode cX2_gainBesideJoy 31 = .ok (.ifCond .eq 17, 3) := by decide +kernel
theorem dX2_gainBesideJoy_34 : decode cX2_gainBesideJoy 34 = .ok (.iload_n 2, 1) := by decide +kernel
theorem dX2_gainBesideJoy_35 : decode cX2_gainBesideJoy 35 = .ok (.aload_n 0, 1) := by decide +kernel
theorem dX2_gainBesideJoy_36 : decode cX2_gainBesideJoy 36 = .ok (.getfield 45, 3) := by decide +kernel
theorem dX2_gainBesideJoy_39 : decode cX2_gainBesideJoy 39 = .ok (.iload_n 1, 1) := by decide +kernel
theorem dX2_gainBesideJoy_40 : decode cX2_gainBesideJoy 40 = .ok (.iconst 3, 1) := by decide +kernel
theorem dX2_gainBesideJoy_41 : decode cX2_gainBesideJoy 41 = .ok (.invokevirtual 128, 3) := by decide +kernel
theorem dX2_gainBesideJoy_44 : decode cX2_gainBesideJoy 44 = .ok (.isub, 1) := by decide +kernel
theorem dX2_gainBesideJoy_45 : decode cX2_gainBesideJoy 45 = .ok (.goto 4, 3) := by decide +kernel
theorem dX2_gainBesideJoy_48 : decode cX2_gainBesideJoy 48 = .ok (.iload_n 2, 1) := by decide +kernel
theorem dX2_gainBesideJoy_49 : decode cX2_gainBesideJoy 49 = .ok (.ireturn, 1) := by decide +kernel
theorem dX2_playAll_0 : decode cX2_playAll 0 = .ok (.iconst 0, 1) := by decide +kernel
theorem dX2_playAll_1 : decode cX2_playAll 1 = .ok (.istore 4, 2) := by decide +kernel
theorem dX2_playAll_3 : decode cX2_playAll 3 = .ok (.iload 4, 2) := by decide +kernel
theorem dX2_playAll_5 : decode cX2_playAll 5 = .ok (.bipush 16, 2) := by decide +kernel
theorem dX2_playAll_7 : decode cX2_playAll 7 = .ok (.if_icmp .ge 46, 3) := by decide +kernel
theorem dX2_playAll_10 : decode cX2_playAll 10 = .ok (.aload_n 0, 1) := by decide +kernel
theorem dX2_playAll_11 : decode cX2_playAll 11 = .ok (.aload_n 1, 1) := by decide +kernel
theorem dX2_playAll_12 : decode cX2_playAll 12 = .ok (.iload_n 2, 1) := by decide +kernel
theorem dX2_playAll_13 : decode cX2_playAll 13 = .ok (.iload_n 3, 1) := by decide +kernel
theorem dX2_playAll_14 : decode cX2_playAll 14 = .ok (.iload 4, 2) := by decide +kernel
theorem dX2_playAll_16 : decode cX2_playAll 16 = .ok (.iconst 4, 1) := by decide +kernel
theorem dX2_playAll_17 : decode cX2_playAll 17 = .ok (.idiv, 1) := by decide +kernel
theorem dX2_playAll_18 : decode cX2_playAll 18 = .ok (.iload 4, 2) := by decide +kernel
theorem dX2_playAll_20 : decode cX2_playAll 20 = .ok (.iconst 4, 1) := by decide +kernel
theorem dX2_playAll_21 : decode cX2_playAll 21 = .ok (.irem, 1) := by decide +kernel
theorem dX2_playAll_22 : decode cX2_playAll 22 = .ok (.invokevirtual 131, 3) := by decide +kernel
theorem dX2_playAll_25 : decode cX2_playAll 25 = .ok (.aload_n 0, 1) := by decide +kernel
theorem dX2_playAll_26 : decode cX2_playAll 26 = .ok (.getfield 22, 3) := by decide +kernel
theorem dX2_playAll_29 : decode cX2_playAll 29 = .ok (.iload 4, 2) := by decide +kernel
theorem dX2_playAll_31 : decode cX2_playAll 31 = .ok (.aload_n 0, 1) := by decide +kernel
theorem dX2_playAll_32 : decode cX2_playAll 32 = .ok (.getfield 39, 3) := by decide +kernel
theorem dX2_playAll_35 : decode cX2_playAll 35 = .ok (.iastore, 1) := by decide +kernel
theorem dX2_playAll_36 : decode cX2_playAll 36 = .ok (.aload_n 0, 1) := by decide +kernel
theorem dX2_playAll_37 : decode cX2_playAll 37 = .ok (.getfield 26, 3) := by decide +kernel
theorem dX2_playAll_40 : decode cX2_playAll 40 = .ok (.iload 4, 2) := by decide +kernel
theorem dX2_playAll_42 : decode cX2_playAll 42 = .ok (.aload_n 0, 1) := by decide +kernel
theorem dX2_playAll_43 : decode cX2_playAll 43 = .ok (.getfield 42, 3) := by decide +kernel
theorem dX2_playAll_46 : decode cX2_playAll 46 = .ok (.iastore, 1) := by decide +kernel
theorem dX2_playAll_47 : decode cX2_playAll 47 = .ok (.iinc 4 1, 3) := by decide +kernel
theorem dX2_playAll_50 : decode cX2_playAll 50 = .ok (.goto (-47), 3) := by decide +kernel
theorem dX2_playAll_53 : decode cX2_playAll 53 = .ok (.return_, 1) := by decide +kernel
theorem dX2_isRest_0 : decode cX2_isRest 0 = .ok (.iload_n 1, 1) := by decide +kernel
theorem dX2_isRest_1 : decode cX2_isRest 1 = .ok (.iconst 4, 1) := by decide +kernel
theorem dX2_isRest_2 : decode cX2_isRest 2 = .ok (.imul, 1) := by decide +kernel
theorem dX2_isRest_3 : decode cX2_isRest 3 = .ok (.iload_n 2, 1) := by decide +kernel
theorem dX2_isRest_4 : decode cX2_isRest 4 = .ok (.iadd, 1) := by decide +kernel
theorem dX2_isRest_5 : decode cX2_isRest 5 = .ok (.istore_n 3, 1) := by decide +kernel
theorem dX2_isRest_6 : decode cX2_isRest 6 = .ok (.iconst 0, 1) := by decide +kernel
theorem dX2_isRest_7 : decode cX2_isRest 7 = .ok (.istore 4, 2) := by decide +kernel
theorem dX2_isRest_9 : decode cX2_isRest 9 = .ok (.iload 4, 2) := by decide +kernel
theorem dX2_isRest_11 : decode cX2_isRest 11 = .ok (.iconst 4, 1) := by decide +kernel
theorem dX2_isRest_12 : decode cX2_isRest 12 = .ok (.if_icmp .ge 51, 3) := by decide +kernel
theorem dX2_isRest_15 : decode cX2_isRest 15 = .ok (.aload_n 0, 1) := by decide +kernel
theorem dX2_isRest_16 : decode cX2_isRest 16 = .ok (.getfield 22, 3) := by decide +kernel
theorem dX2_isRest_19 : decode cX2_isRest 19 = .ok (.iload 4, 2) := by decide +kernel
theorem dX2_isRest_21 : decode cX2_isRest 21 = .ok (.iconst 4, 1) := by decide +kernel
theorem dX2_isRest_22 : decode cX2_isRest 22 = .ok (.imul, 1) := by decide +kernel
theorem dX2_isRest_23 : decode cX2_isRest 23 = .ok (.iload_n 2, 1) := by decide +kernel
theorem dX2_isRest_24 : decode cX2_isRest 24 = .ok (.iadd, 1) := by decide +kernel
theorem dX2_isRest_25 : decode cX2_isRest 25 = .ok (.iaload, 1) := by decide +kernel
theorem dX2_isRest_26 : decode cX2_isRest 26 = .ok (.aload_n 0, 1) := by decide +kernel
theorem dX2_isRest_27 : decode cX2_isRest 27 = .ok (.getfield 22, 3) := by decide +kernel
theorem dX2_isRest_30 : decode cX2_isRest 30 = .ok (.iload_n 3, 1) := by decide +kernel
theorem dX2_isRest_31 : decode cX2_isRest 31 = .ok (.iaload, 1) := by decide +kernel
theorem dX2_isRest_32 : decode cX2_isRest 32 = .ok (.if_icmp .gt 23, 3) := by decide +kernel
theorem dX2_isRest_35 : decode cX2_isRest 35 = .ok (.aload_n 0, 1) := by decide +kernel
theorem dX2_isRest_36 : decode cX2_isRest 36 = .ok (.getfield 26, 3) := by decide +kernel
theorem dX2_isRest_39 : decode cX2_isRest 39 = .ok (.iload_n 1, 1) := by decide +kernel
theorem dX2_isRest_40 : decode cX2_isRest 40 = .ok (.iconst 4, 1) := by decide +kernel
theorem dX2_isRest_41 : decode cX2_isRest 41 = .ok (.imul, 1) := by decide +kernel
theorem dX2_isRest_42 : decode cX2_isRest 42 = .ok (.iload 4, 2) := by decide +kernel
theorem dX2_isRest_44 : decode cX2_isRest 44 = .ok (.iadd, 1) := by decide +kernel
theorem dX2_isRest_45 : decode cX2_isRest 45 = .ok (.iaload, 1) := by decide +kernel
theorem dX2_isRest_46 : decode cX2_isRest 46 = .ok (.aload_n 0, 1) := by decide +kernel
theorem dX2_isRest_47 : decode cX2_isRest 47 = .ok (.getfield 26, 3) := by decide +kernel
theorem dX2_isRest_50 : decode cX2_isRest 50 = .ok (.iload_n 3, 1) := by decide +kernel
theorem dX2_isRest_51 : decode cX2_isRest 51 = .ok (.iaload, 1) := by decide +kernel
theorem dX2_isRest_52 : decode cX2_isRest 52 = .ok (.if_icmp .le 5, 3) := by decide +kernel
theorem dX2_isRest_55 : decode cX2_isRest 55 = .ok (.iconst 0, 1) := by decide +kernel
theorem dX2_isRest_56 : decode cX2_isRest 56 = .ok (.ireturn, 1) := by decide +kernel
theorem dX2_isRest_57 : decode cX2_isRest 57 = .ok (.iinc 4 1, 3) := by decide +kernel
theorem dX2_isRest_60 : decode cX2_isRest 60 = .ok (.goto (-51), 3) := by decide +kernel
theorem dX2_isRest_63 : decode cX2_isRest 63 = .ok (.iconst 1, 1) := by decide +kernel
theorem dX2_isRest_64 : decode cX2_isRest 64 = .ok (.ireturn, 1) := by decide +kernel
theorem dX2_restCount_0 : decode cX2_restCount 0 = .ok (.iconst 0, 1) := by decide +kernel
theorem dX2_restCount_1 : decode cX2_restCount 1 = .ok (.istore_n 1, 1) := by decide +kernel
theorem dX2_restCount_2 : decode cX2_restCount 2 = .ok (.iconst 0, 1) := by decide +kernel
theorem dX2_restCount_3 : decode cX2_restCount 3 = .ok (.istore_n 2, 1) := by decide +kernel
theorem dX2_restCount_4 : decode cX2_restCount 4 = .ok (.iload_n 2, 1) := by decide +kernel
theorem dX2_restCount_5 : decode cX2_restCount 5 = .ok (.bipush 16, 2) := by decide +kernel
theorem dX2_restCount_7 : decode cX2_restCount 7 = .ok (.if_icmp .ge 25, 3) := by decide +kernel
theorem dX2_restCount_10 : decode cX2_restCount 10 = .ok (.aload_n 0, 1) := by decide +kernel
theorem dX2_restCount_11 : decode cX2_restCount 11 = .ok (.iload_n 2, 1) := by decide +kernel
theorem dX2_restCount_12 : decode cX2_restCount 12 = .ok (.iconst 4, 1) := by decide +kernel
theorem dX2_restCount_13 : decode cX2_restCount 13 = .ok (.idiv, 1) := by decide +kernel
theorem dX2_restCount_14 : decode cX2_restCount 14 = .ok (.iload_n 2, 1) := by decide +kernel
theorem dX2_restCount_15 : decode cX2_restCount 15 = .ok (.iconst 4, 1) := by decide +kernel
theorem dX2_restCount_16 : decode cX2_restCount 16 = .ok (.irem, 1) := by decide +kernel
theorem dX2_restCount_17 : decode cX2_restCount 17 = .ok (.invokevirtual 135, 3) := by decide +kernel
theorem dX2_restCount_20 : decode cX2_restCount 20 = .ok (.ifCond .eq 6, 3) := by decide +kernel
theorem dX2_restCount_23 : decode cX2_restCount 23 = .ok (.iinc 1 1, 3) := by decide +kernel
theorem dX2_restCount_26 : decode cX2_restCount 26 = .ok (.iinc 2 1, 3) := by decide +kernel
theorem dX2_restCount_29 : decode cX2_restCount 29 = .ok (.goto (-25), 3) := by decide +kernel
theorem dX2_restCount_32 : decode cX2_restCount 32 = .ok (.iload_n 1, 1) := by decide +kernel
theorem dX2_restCount_33 : decode cX2_restCount 33 = .ok (.ireturn, 1) := by decide +kernel
theorem dX2_restAt_0 : decode cX2_restAt 0 = .ok (.iconst 0, 1) := by decide +kernel
theorem dX2_restAt_1 : decode cX2_restAt 1 = .ok (.istore_n 2, 1) := by decide +kernel
theorem dX2_restAt_2 : decode cX2_restAt 2 = .ok (.iconst 0, 1) := by decide +kernel
theorem dX2_restAt_3 : decode cX2_restAt 3 = .ok (.istore_n 3, 1) := by decide +kernel
theorem dX2_restAt_4 : decode cX2_restAt 4 = .ok (.iload_n 3, 1) := by decide +kernel
theorem dX2_restAt_5 : decode cX2_restAt 5 = .ok (.bipush 16, 2) := by decide +kernel
theorem dX2_restAt_7 : decode cX2_restAt 7 = .ok (.if_icmp .ge 47, 3) := by decide +kernel
theorem dX2_restAt_10 : decode cX2_restAt 10 = .ok (.iload_n 3, 1) := by decide +kernel
theorem dX2_restAt_11 : decode cX2_restAt 11 = .ok (.iconst 4, 1) := by decide +kernel
theorem dX2_restAt_12 : decode cX2_restAt 12 = .ok (.idiv, 1) := by decide +kernel
theorem dX2_restAt_13 : decode cX2_restAt 13 = .ok (.istore 4, 2) := by decide +kernel
theorem dX2_restAt_15 : decode cX2_restAt 15 = .ok (.iload_n 3, 1) := by decide +kernel
theorem dX2_restAt_16 : decode cX2_restAt 16 = .ok (.iconst 4, 1) := by decide +kernel
theorem dX2_restAt_17 : decode cX2_restAt 17 = .ok (.irem, 1) := by decide +kernel
theorem dX2_restAt_18 : decode cX2_restAt 18 = .ok (.istore 5, 2) := by decide +kernel
theorem dX2_restAt_20 : decode cX2_restAt 20 = .ok (.aload_n 0, 1) := by decide +kernel
theorem dX2_restAt_21 : decode cX2_restAt 21 = .ok (.iload 4, 2) := by decide +kernel
theorem dX2_restAt_23 : decode cX2_restAt 23 = .ok (.iload 5, 2) := by decide +kernel
theorem dX2_restAt_25 : decode cX2_restAt 25 = .ok (.invokevirtual 135, 3) := by decide +kernel
theorem dX2_restAt_28 : decode cX2_restAt 28 = .ok (.ifCond .eq 20, 3) := by decide +kernel
theorem dX2_restAt_31 : decode cX2_restAt 31 = .ok (.iload_n 2, 1) := by decide +kernel
theorem dX2_restAt_32 : decode cX2_restAt 32 = .ok (.iload_n 1, 1) := by decide +kernel
theorem dX2_restAt_33 : decode cX2_restAt 33 = .ok (.if_icmp .ne 12, 3) := by decide +kernel
theorem dX2_restAt_36 : decode cX2_restAt 36 = .ok (.bipush 10, 2) := by decide +kernel
theorem dX2_restAt_38 : decode cX2_restAt 38 = .ok (.iload 4, 2) := by decide +kernel
theorem dX2_restAt_40 : decode cX2_restAt 40 = .ok (.imul, 1) := by decide +kernel
theorem dX2_restAt_41 : decode cX2_restAt 41 = .ok (.iload 5, 2) := by decide +kernel
theorem dX2_restAt_43 : decode cX2_restAt 43 = .ok (.iadd, 1) := by decide +kernel
theorem dX2_restAt_44 : decode cX2_restAt 44 = .ok (.ireturn, 1) := by decide +kernel
theorem dX2_restAt_45 : decode cX2_restAt 45 = .ok (.iinc 2 1, 3) := by decide +kernel
theorem dX2_restAt_48 : decode cX2_restAt 48 = .ok (.iinc 3 1, 3) := by decide +kernel
theorem dX2_restAt_51 : decode cX2_restAt 51 = .ok (.goto (-47), 3) := by decide +kernel
theorem dX2_restAt_54 : decode cX2_restAt 54 = .ok (.iconst (-1), 1) := by decide +kernel
theorem dX2_restAt_55 : decode cX2_restAt 55 = .ok (.ireturn, 1) := by decide +kernel
theorem dX2_oddsOf_0 : decode cX2_oddsOf 0 = .ok (.aload_n 0, 1) := by decide +kernel
theorem dX2_oddsOf_1 : decode cX2_oddsOf 1 = .ok (.getfield 18, 3) := by decide +kernel
theorem dX2_oddsOf_4 : decode cX2_oddsOf 4 = .ok (.iconst 0, 1) := by decide +kernel
theorem dX2_oddsOf_5 : decode cX2_oddsOf 5 = .ok (.aaload, 1) := by decide +kernel
theorem dX2_oddsOf_6 : decode cX2_oddsOf 6 = .ok (.aload_n 1, 1) := by decide +kernel
theorem dX2_oddsOf_7 : decode cX2_oddsOf 7 = .ok (.invokevirtual 57, 3) := by decide +kernel
theorem dX2_oddsOf_10 : decode cX2_oddsOf 10 = .ok (.aload_n 0, 1) := by decide +kernel
theorem dX2_oddsOf_11 : decode cX2_oddsOf 11 = .ok (.iconst 0, 1) := by decide +kernel
theorem dX2_oddsOf_12 : decode cX2_oddsOf 12 = .ok (.iload_n 2, 1) := by decide +kernel
theorem dX2_oddsOf_13 : decode cX2_oddsOf 13 = .ok (.iload_n 3, 1) := by decide +kernel
theorem dX2_oddsOf_14 : decode cX2_oddsOf 14 = .ok (.iload 4, 2) := by decide +kernel
theorem dX2_oddsOf_16 : decode cX2_oddsOf 16 = .ok (.ldc2_w 139, 3) := by decide +kernel
theorem dX2_oddsOf_19 : decode cX2_oddsOf 19 = .ok (.invokevirtual 141, 3) := by decide +kernel
theorem dX2_oddsOf_22 : decode cX2_oddsOf 22 = .ok (.lreturn, 1) := by decide +kernel
theorem dX2_partsFed_0 : decode cX2_partsFed 0 = .ok (.lload 5, 2) := by decide +kernel
theorem dX2_partsFed_2 : decode cX2_partsFed 2 = .ok (.lconst 0, 1) := by decide +kernel
theorem dX2_partsFed_3 : decode cX2_partsFed 3 = .ok (.lcmp, 1) := by decide +kernel
theorem dX2_partsFed_4 : decode cX2_partsFed 4 = .ok (.ifCond .ne 5, 3) := by decide +kernel
theorem dX2_partsFed_7 : decode cX2_partsFed 7 = .ok (.lconst 0, 1) := by decide +kernel
theorem dX2_partsFed_8 : decode cX2_partsFed 8 = .ok (.lreturn, 1) := by decide +kernel
theorem dX2_partsFed_9 : decode cX2_partsFed 9 = .ok (.iload_n 1, 1) := by decide +kernel
theorem dX2_partsFed_10 : decode cX2_partsFed 10 = .ok (.iload_n 3, 1) := by decide +kernel
theorem dX2_partsFed_11 : decode cX2_partsFed 11 = .ok (.if_icmp .ge 10, 3) := by decide +kernel
theorem dX2_partsFed_14 : decode cX2_partsFed 14 = .ok (.iload_n 1, 1) := by decide +kernel
theorem dX2_partsFed_15 : decode cX2_partsFed 15 = .ok (.iconst 1, 1) := by decide +kernel
theorem dX2_partsFed_16 : decode cX2_partsFed 16 = .ok (.iadd, 1) := by decide +kernel
theorem dX2_partsFed_17 : decode cX2_partsFed 17 = .ok (.iconst 5, 1) := by decide +kernel
theorem dX2_partsFed_18 : decode cX2_partsFed 18 = .ok (.if_icmp .lt 37, 3) := by decide +kernel
theorem dX2_partsFed_21 : decode cX2_partsFed 21 = .ok (.aload_n 0, 1) := by decide +kernel
theorem dX2_partsFed_22 : decode cX2_partsFed 22 = .ok (.getfield 49, 3) := by decide +kernel
theorem dX2_partsFed_25 : decode cX2_partsFed 25 = .ok (.aload_n 0, 1) := by decide +kernel
theorem dX2_partsFed_26 : decode cX2_partsFed 26 = .ok (.getfield 18, 3) := by decide +kernel
theorem dX2_partsFed_29 : decode cX2_partsFed 29 = .ok (.iload_n 1, 1) := by decide +kernel
theorem dX2_partsFed_30 : decode cX2_partsFed 30 = .ok (.aaload, 1) := by decide +kernel
theorem dX2_partsFed_31 : decode cX2_partsFed 31 = .ok (.invokevirtual 85, 3) := by decide +kernel
theorem dX2_partsFed_34 : decode cX2_partsFed 34 = .ok (.aload_n 0, 1) := by decide +kernel
theorem dX2_partsFed_35 : decode cX2_partsFed 35 = .ok (.getfield 49, 3) := by decide +kernel
theorem dX2_partsFed_38 : decode cX2_partsFed 38 = .ok (.getfield 118, 3) := by decide +kernel
theorem dX2_partsFed_41 : decode cX2_partsFed 41 = .ok (.iload_n 2, 1) := by decide +kernel
theorem dX2_partsFed_42 : decode cX2_partsFed 42 = .ok (.ishr, 1) := by decide +kernel
theorem dX2_partsFed_43 : decode cX2_partsFed 43 = .ok (.iconst 1, 1) := by decide +kernel
theorem dX2_partsFed_44 : decode cX2_partsFed 44 = .ok (.iand, 1) := by decide +kernel
theorem dX2_partsFed_45 : decode cX2_partsFed 45 = .ok (.ifCond .eq 8, 3) := by decide +kernel
theorem dX2_partsFed_48 : decode cX2_partsFed 48 = .ok (.lload 5, 2) := by decide +kernel
theorem dX2_partsFed_50 : decode cX2_partsFed 50 = .ok (.goto 4, 3) := by decide +kernel
theorem dX2_partsFed_53 : decode cX2_partsFed 53 = .ok (.lconst 0, 1) := by decide +kernel
theorem dX2_partsFed_54 : decode cX2_partsFed 54 = .ok (.lreturn, 1) := by decide +kernel
theorem dX2_partsFed_55 : decode cX2_partsFed 55 = .ok (.aload_n 0, 1) := by decide +kernel
theorem dX2_partsFed_56 : decode cX2_partsFed 56 = .ok (.getfield 18, 3) := by decide +kernel
theorem dX2_partsFed_59 : decode cX2_partsFed 59 = .ok (.iload_n 1, 1) := by decide +kernel
theorem dX2_partsFed_60 : decode cX2_partsFed 60 = .ok (.iconst 1, 1) := by decide +kernel
theorem dX2_partsFed_61 : decode cX2_partsFed 61 = .ok (.iadd, 1) := by decide +kernel
theorem dX2_partsFed_62 : decode cX2_partsFed 62 = .ok (.aaload, 1) := by decide +kernel
theorem dX2_partsFed_63 : decode cX2_partsFed 63 = .ok (.astore 7, 2) := by decide +kernel
theorem dX2_partsFed_65 : decode cX2_partsFed 65 = .ok (.lconst 0, 1) := by decide +kernel
theorem dX2_partsFed_66 : decode cX2_partsFed 66 = .ok (.lstore 8, 2) := by decide +kernel
theorem dX2_partsFed_68 : decode cX2_partsFed 68 = .ok (.lconst 0, 1) := by decide +kernel
theorem dX2_partsFed_69 : decode cX2_partsFed 69 = .ok (.lstore 10, 2) := by decide +kernel
theorem dX2_partsFed_71 : decode cX2_partsFed 71 = .ok (.aload 7, 2) := by decide +kernel
theorem dX2_partsFed_73 : decode cX2_partsFed 73 = .ok (.aload_n 0, 1) := by decide +kernel
theorem dX2_partsFed_74 : decode cX2_partsFed 74 = .ok (.getfield 18, 3) := by decide +kernel
theorem dX2_partsFed_77 : decode cX2_partsFed 77 = .ok (.iload_n 1, 1) := by decide +kernel
theorem dX2_partsFed_78 : decode cX2_partsFed 78 = .ok (.aaload, 1) := by decide +kernel
theorem dX2_partsFed_79 : decode cX2_partsFed 79 = .ok (.invokevirtual 57, 3) := by decide +kernel
theorem dX2_partsFed_82 : decode cX2_partsFed 82 = .ok (.aload_n 0, 1) := by decide +kernel
theorem dX2_partsFed_83 : decode cX2_partsFed 83 = .ok (.getfield 53, 3) := by decide +kernel
theorem dX2_partsFed_86 : decode cX2_partsFed 86 = .ok (.aload 7, 2) := by decide +kernel
theorem dX2_partsFed_88 : decode cX2_partsFed 88 = .ok (.iconst 2, 1) := by decide +kernel
theorem dX2_partsFed_89 : decode cX2_partsFed 89 = .ok (.iconst (-1), 1) := by decide +kernel
theorem dX2_partsFed_90 : decode cX2_partsFed 90 = .ok (.iconst (-1), 1) := by decide +kernel
theorem dX2_partsFed_91 : decode cX2_partsFed 91 = .ok (.invokevirtual 70, 3) := by decide +kernel
theorem dX2_partsFed_94 : decode cX2_partsFed 94 = .ok (.ifCond .eq 39, 3) := by decide +kernel
theorem dX2_partsFed_97 : decode cX2_partsFed 97 = .ok (.lload 5, 2) := by decide +kernel
theorem dX2_partsFed_99 : decode cX2_partsFed 99 = .ok (.iload 4, 2) := by decide +kernel
theorem dX2_partsFed_101 : decode cX2_partsFed 101 = .ok (.i2l, 1) := by decide +kernel
theorem dX2_partsFed_102 : decode cX2_partsFed 102 = .ok (.lmul, 1) := by decide +kernel
theorem dX2_partsFed_103 : decode cX2_partsFed 103 = .ok (.ldc2_w 145, 3) := by decide +kernel
theorem dX2_partsFed_106 : decode cX2_partsFed 106 = .ok (.ldiv, 1) := by decide +kernel
theorem dX2_partsFed_107 : decode cX2_partsFed 107 = .ok (.lstore 10, 2) := by decide +kernel
theorem dX2_partsFed_109 : decode cX2_partsFed 109 = .ok (.aload_n 0, 1) := by decide +kernel
theorem dX2_partsFed_110 : decode cX2_partsFed 110 = .ok (.getfield 49, 3) := by decide +kernel
theorem dX2_partsFed_113 : decode cX2_partsFed 113 = .ok (.aload 7, 2) := by decide +kernel
theorem dX2_partsFed_115 : decode cX2_partsFed 115 = .ok (.invokevirtual 80, 3) := by decide +kernel
theorem dX2_partsFed_118 : decode cX2_partsFed 118 = .ok (.aload_n 0, 1) := by decide +kernel
theorem dX2_partsFed_119 : decode cX2_partsFed 119 = .ok (.iload_n 1, 1) := by decide +kernel
theorem dX2_partsFed_120 : decode cX2_partsFed 120 = .ok (.iconst 1, 1) := by decide +kernel
theorem dX2_partsFed_121 : decode cX2_partsFed 121 = .ok (.iadd, 1) := by decide +kernel
theorem dX2_partsFed_122 : decode cX2_partsFed 122 = .ok (.iload_n 2, 1) := by decide +kernel
theorem dX2_partsFed_123 : decode cX2_partsFed 123 = .ok (.iload_n 3, 1) := by decide +kernel
theorem dX2_partsFed_124 : decode cX2_partsFed 124 = .ok (.iload 4, 2) := by decide +kernel
theorem dX2_partsFed_126 : decode cX2_partsFed 126 = .ok (.lload 10, 2) := by decide +kernel
theorem dX2_partsFed_128 : decode cX2_partsFed 128 = .ok (.invokevirtual 141, 3) := by decide +kernel
theorem dX2_partsFed_131 : decode cX2_partsFed 131 = .ok (.lstore 8, 2) := by decide +kernel
theorem dX2_partsFed_133 : decode cX2_partsFed 133 = .ok (.aload 7, 2) := by decide +kernel
theorem dX2_partsFed_135 : decode cX2_partsFed 135 = .ok (.aload_n 0, 1) := by decide +kernel
theorem dX2_partsFed_136 : decode cX2_partsFed 136 = .ok (.getfield 18, 3) := by decide +kernel
theorem dX2_partsFed_139 : decode cX2_partsFed 139 = .ok (.iload_n 1, 1) := by decide +kernel
theorem dX2_partsFed_140 : decode cX2_partsFed 140 = .ok (.aaload, 1) := by decide +kernel
theorem dX2_partsFed_141 : decode cX2_partsFed 141 = .ok (.invokevirtual 57, 3) := by decide +kernel
theorem dX2_partsFed_144 : decode cX2_partsFed 144 = .ok (.aload_n 0, 1) := by decide +kernel
theorem dX2_partsFed_145 : decode cX2_partsFed 145 = .ok (.getfield 49, 3) := by decide +kernel
theorem dX2_partsFed_148 : decode cX2_partsFed 148 = .ok (.aload 7, 2) := by decide +kernel
theorem dX2_partsFed_150 : decode cX2_partsFed 150 = .ok (.invokevirtual 80, 3) := by decide +kernel
theorem dX2_partsFed_153 : decode cX2_partsFed 153 = .ok (.lload 8, 2) := by decide +kernel
theorem dX2_partsFed_155 : decode cX2_partsFed 155 = .ok (.aload_n 0, 1) := by decide +kernel
theorem dX2_partsFed_156 : decode cX2_partsFed 156 = .ok (.iload_n 1, 1) := by decide +kernel
theorem dX2_partsFed_157 : decode cX2_partsFed 157 = .ok (.iconst 1, 1) := by decide +kernel
theorem dX2_partsFed_158 : decode cX2_partsFed 158 = .ok (.iadd, 1) := by decide +kernel
theorem dX2_partsFed_159 : decode cX2_partsFed 159 = .ok (.iload_n 2, 1) := by decide +kernel
theorem dX2_partsFed_160 : decode cX2_partsFed 160 = .ok (.iload_n 3, 1) := by decide +kernel
theorem dX2_partsFed_161 : decode cX2_partsFed 161 = .ok (.iload 4, 2) := by decide +kernel
theorem dX2_partsFed_163 : decode cX2_partsFed 163 = .ok (.lload 5, 2) := by decide +kernel
theorem dX2_partsFed_165 : decode cX2_partsFed 165 = .ok (.lload 10, 2) := by decide +kernel
theorem dX2_partsFed_167 : decode cX2_partsFed 167 = .ok (.lsub, 1) := by decide +kernel
theorem dX2_partsFed_168 : decode cX2_partsFed 168 = .ok (.invokevirtual 141, 3) := by decide +kernel
theorem dX2_partsFed_171 : decode cX2_partsFed 171 = .ok (.ladd, 1) := by decide +kernel
theorem dX2_partsFed_172 : decode cX2_partsFed 172 = .ok (.lreturn, 1) := by decide +kernel
theorem dX3_init_0 : decode cX3_init 0 = .ok (.aload_n 0, 1) := by decide +kernel
theorem dX3_init_1 : decode cX3_init 1 = .ok (.invokespecial 3, 3) := by decide +kernel
theorem dX3_init_4 : decode cX3_init 4 = .ok (.aload_n 0, 1) := by decide +kernel
theorem dX3_init_5 : decode cX3_init 5 = .ok (.iconst 3, 1) := by decide +kernel
theorem dX3_init_6 : decode cX3_init 6 = .ok (.newarray .int, 2) := by decide +kernel
theorem dX3_init_8 : decode cX3_init 8 = .ok (.putfield 9, 3) := by decide +kernel
theorem dX3_init_11 : decode cX3_init 11 = .ok (.aload_n 0, 1) := by decide +kernel
theorem dX3_init_12 : decode cX3_init 12 = .ok (.bipush 15, 2) := by decide +kernel
theorem dX3_init_14 : decode cX3_init 14 = .ok (.newarray .int, 2) := by decide +kernel
theorem dX3_init_16 : decode cX3_init 16 = .ok (.putfield 15, 3) := by decide +kernel
theorem dX3_init_19 : decode cX3_init 19 = .ok (.aload_n 0, 1) := by decide +kernel
theorem dX3_init_20 : decode cX3_init 20 = .ok (.bipush 24, 2) := by decide +kernel
theorem dX3_init_22 : decode cX3_init 22 = .ok (.newarray .int, 2) := by decide +kernel
theorem dX3_init_24 : decode cX3_init 24 = .ok (.putfield 18, 3) := by decide +kernel
theorem dX3_init_27 : decode cX3_init 27 = .ok (.aload_n 0, 1) := by decide +kernel
theorem dX3_init_28 : decode cX3_init 28 = .ok (.bipush 6, 2) := by decide +kernel
theorem dX3_init_30 : decode cX3_init 30 = .ok (.newarray .int, 2) := by decide +kernel
theorem dX3_init_32 : decode cX3_init 32 = .ok (.putfield 21, 3) := by decide +kernel
theorem dX3_init_35 : decode cX3_init 35 = .ok (.aload_n 0, 1) := by decide +kernel
theorem dX3_init_36 : decode cX3_init 36 = .ok (.iconst 0, 1) := by decide +kernel
theorem dX3_init_37 : decode cX3_init 37 = .ok (.putfield 24, 3) := by decide +kernel
theorem dX3_init_40 : decode cX3_init 40 = .ok (.aload_n 0, 1) := by decide +kernel
theorem dX3_init_41 : decode cX3_init 41 = .ok (.iconst 0, 1) := by decide +kernel
theorem dX3_init_42 : decode cX3_init 42 = .ok (.putfield 28, 3) := by decide +kernel
theorem dX3_init_45 : decode cX3_init 45 = .ok (.aload_n 0, 1) := by decide +kernel
theorem dX3_init_46 : decode cX3_init 46 = .ok (.iconst 0, 1) := by decide +kernel
theorem dX3_init_47 : decode cX3_init 47 = .ok (.putfield 31, 3) := by decide +kernel
theorem dX3_init_50 : decode cX3_init 50 = .ok (.return_, 1) := by decide +kernel
theorem dX3_hasDish_0 : decode cX3_hasDish 0 = .ok (.iload_n 1, 1) := by decide +kernel
theorem dX3_hasDish_1 : decode cX3_hasDish 1 = .ok (.ifCond .lt 15, 3) := by decide +kernel
theorem dX3_hasDish_4 : decode cX3_hasDish 4 = .ok (.iload_n 1, 1) := by decide +kernel
theorem dX3_hasDish_5 : decode cX3_hasDish 5 = .ok (.aload_n 0, 1) := by decide +kernel
theorem dX3_hasDish_6 : decode cX3_hasDish 6 = .ok (.getfield 24, 3) := by decide +kernel
theorem dX3_hasDish_9 : decode cX3_hasDish 9 = .ok (.if_icmp .ge 7, 3) := by decide +kernel
theorem dX3_hasDish_12 : decode cX3_hasDish 12 = .ok (.iconst 1, 1) := by decide +kernel
theorem dX3_hasDish_13 : decode cX3_hasDish 13 = .ok (.goto 4, 3) := by decide +kernel
theorem dX3_hasDish_16 : decode cX3_hasDish 16 = .ok (.iconst 0, 1) := by decide +kernel
theorem dX3_hasDish_17 : decode cX3_hasDish 17 = .ok (.ireturn, 1) := by decide +kernel
theorem dX3_hasGuest_0 : decode cX3_hasGuest 0 = .ok (.iload_n 1, 1) := by decide +kernel
theorem dX3_hasGuest_1 : decode cX3_hasGuest 1 = .ok (.ifCond .lt 15, 3) := by decide +kernel
theorem dX3_hasGuest_4 : decode cX3_hasGuest 4 = .ok (.iload_n 1, 1) := by decide +kernel
theorem dX3_hasGuest_5 : decode cX3_hasGuest 5 = .ok (.aload_n 0, 1) := by decide +kernel
theorem dX3_hasGuest_6 : decode cX3_hasGuest 6 = .ok (.getfield 28, 3) := by decide +kernel
theorem dX3_hasGuest_9 : decode cX3_hasGuest 9 = .ok (.if_icmp .ge 7, 3) := by decide +kernel
theorem dX3_hasGuest_12 : decode cX3_hasGuest 12 = .ok (.iconst 1, 1) := by decide +kernel
theorem dX3_hasGuest_13 : decode cX3_hasGuest 13 = .ok (.goto 4, 3) := by decide +kernel
theorem dX3_hasGuest_16 : decode cX3_hasGuest 16 = .ok (.iconst 0, 1) := by decide +kernel
theorem dX3_hasGuest_17 : decode cX3_hasGuest 17 = .ok (.ireturn, 1) := by decide +kernel
theorem dX3_ofDish_0 : decode cX3_ofDish 0 = .ok (.iload_n 1, 1) := by decide +kernel
theorem dX3_ofDish_1 : decode cX3_ofDish 1 = .ok (.iconst 3, 1) := by decide +kernel
theorem dX3_ofDish_2 : decode cX3_ofDish 2 = .ok (.imul, 1) := by decide +kernel
theorem dX3_ofDish_3 : decode cX3_ofDish 3 = .ok (.iload_n 2, 1) := by decide +kernel
theorem dX3_ofDish_4 : decode cX3_ofDish 4 = .ok (.iadd, 1) := by decide +kernel
theorem dX3_ofDish_5 : decode cX3_ofDish 5 = .ok (.istore_n 3, 1) := by decide +kernel
theorem dX3_ofDish_6 : decode cX3_ofDish 6 = .ok (.iload_n 3, 1) := by decide +kernel
theorem dX3_ofDish_7 : decode cX3_ofDish 7 = .ok (.ifCond .lt 21, 3) := by decide +kernel
theorem dX3_ofDish_10 : decode cX3_ofDish 10 = .ok (.iload_n 3, 1) := by decide +kernel
theorem dX3_ofDish_11 : decode cX3_ofDish 11 = .ok (.aload_n 0, 1) := by decide +kernel
theorem dX3_ofDish_12 : decode cX3_ofDish 12 = .ok (.getfield 15, 3) := by decide +kernel
theorem dX3_ofDish_15 : decode cX3_ofDish 15 = .ok (.arraylength, 1) := by decide +kernel
theorem dX3_ofDish_16 : decode cX3_ofDish 16 = .ok (.if_icmp .ge 12, 3) := by decide +kernel
theorem dX3_ofDish_19 : decode cX3_ofDish 19 = .ok (.aload_n 0, 1) := by decide +kernel
theorem dX3_ofDish_20 : decode cX3_ofDish 20 = .ok (.getfield 15, 3) := by decide +kernel
theorem dX3_ofDish_23 : decode cX3_ofDish 23 = .ok (.iload_n 3, 1) := by decide +kernel
theorem dX3_ofDish_24 : decode cX3_ofDish 24 = .ok (.iaload, 1) := by decide +kernel
theorem dX3_ofDish_25 : decode cX3_ofDish 25 = .ok (.goto 4, 3) := by decide +kernel
theorem dX3_ofDish_28 : decode cX3_ofDish 28 = .ok (.iconst 0, 1) := by decide +kernel
theorem dX3_ofDish_29 : decode cX3_ofDish 29 = .ok (.ireturn, 1) := by decide +kernel
theorem dX3_ofGuest_0 : decode cX3_ofGuest 0 = .ok (.iload_n 1, 1) := by decide +kernel
theorem dX3_ofGuest_1 : decode cX3_ofGuest 1 = .ok (.iconst 4, 1) := by decide +kernel
theorem dX3_ofGuest_2 : decode cX3_ofGuest 2 = .ok (.imul, 1) := by decide +kernel
theorem dX3_ofGuest_3 : decode cX3_ofGuest 3 = .ok (.iload_n 2, 1) := by decide +kernel
theorem dX3_ofGuest_4 : decode cX3_ofGuest 4 = .ok (.iadd, 1) := by decide +kernel
theorem dX3_ofGuest_5 : decode cX3_ofGuest 5 = .ok (.istore_n 3, 1) := by decide +kernel
theorem dX3_ofGuest_6 : decode cX3_ofGuest 6 = .ok (.iload_n 3, 1) := by decide +kernel
theorem dX3_ofGuest_7 : decode cX3_ofGuest 7 = .ok (.ifCond .lt 21, 3) := by decide +kernel
theorem dX3_ofGuest_10 : decode cX3_ofGuest 10 = .ok (.iload_n 3, 1) := by decide +kernel
theorem dX3_ofGuest_11 : decode cX3_ofGuest 11 = .ok (.aload_n 0, 1) := by decide +kernel
theorem dX3_ofGuest_12 : decode cX3_ofGuest 12 = .ok (.getfield 18, 3) := by decide +kernel
theorem dX3_ofGuest_15 : decode cX3_ofGuest 15 = .ok (.arraylength, 1) := by decide +kernel
theorem dX3_ofGuest_16 : decode cX3_ofGuest 16 = .ok (.if_icmp .ge 12, 3) := by decide +kernel
theorem dX3_ofGuest_19 : decode cX3_ofGuest 19 = .ok (.aload_n 0, 1) := by decide +kernel
theorem dX3_ofGuest_20 : decode cX3_ofGuest 20 = .ok (.getfield 18, 3) := by decide +kernel
theorem dX3_ofGuest_23 : decode cX3_ofGuest 23 = .ok (.iload_n 3, 1) := by decide +kernel
theorem dX3_ofGuest_24 : decode cX3_ofGuest 24 = .ok (.iaload, 1) := by decide +kernel
theorem dX3_ofGuest_25 : decode cX3_ofGuest 25 = .ok (.goto 4, 3) := by decide +kernel
theorem dX3_ofGuest_28 : decode cX3_ofGuest 28 = .ok (.iconst 0, 1) := by decide +kernel
theorem dX3_ofGuest_29 : decode cX3_ofGuest 29 = .ok (.ireturn, 1) := by decide +kernel
theorem dX3_dishByDay_0 : decode cX3_dishByDay 0 = .ok (.aload_n 0, 1) := by decide +kernel
theorem dX3_dishByDay_1 : decode cX3_dishByDay 1 = .ok (.getfield 24, 3) := by decide +kernel
theorem dX3_dishByDay_4 : decode cX3_dishByDay 4 = .ok (.ifCond .le 12, 3) := by decide +kernel
theorem dX3_dishByDay_7 : decode cX3_dishByDay 7 = .ok (.iload_n 1, 1) := by decide +kernel
theorem dX3_dishByDay_8 : decode cX3_dishByDay 8 = .ok (.aload_n 0, 1) := by decide +kernel
theorem dX3_dishByDay_9 : decode cX3_dishByDay 9 = .ok (.getfield 24, 3) := by decide +kernel
theorem dX3_dishByDay_12 : decode cX3_dishByDay 12 = .ok (.irem, 1) := by decide +kernel
theorem dX3_dishByDay_13 : decode cX3_dishByDay 13 = .ok (.goto 4, 3) := by decide +kernel
theorem dX3_dishByDay_16 : decode cX3_dishByDay 16 = .ok (.iconst (-1), 1) := by decide +kernel
theorem dX3_dishByDay_17 : decode cX3_dishByDay 17 = .ok (.ireturn, 1) := by decide +kernel
theorem dX3_copyFrom_0 : decode cX3_copyFrom 0 = .ok (.aload_n 1, 1) := by decide +kernel
theorem dX3_copyFrom_1 : decode cX3_copyFrom 1 = .ok (.getfield 9, 3) := by decide +kernel
theorem dX3_copyFrom_4 : decode cX3_copyFrom 4 = .ok (.iconst 0, 1) := by decide +kernel
theorem dX3_copyFrom_5 : decode cX3_copyFrom 5 = .ok (.aload_n 0, 1) := by decide +kernel
theorem dX3_copyFrom_6 : decode cX3_copyFrom 6 = .ok (.getfield 9, 3) := by decide +kernel
theorem dX3_copyFrom_9 : decode cX3_copyFrom 9 = .ok (.iconst 0, 1) := by decide +kernel
theorem dX3_copyFrom_10 : decode cX3_copyFrom 10 = .ok (.aload_n 0, 1) := by decide +kernel
theorem dX3_copyFrom_11 : decode cX3_copyFrom 11 = .ok (.getfield 9, 3) := by decide +kernel
theorem dX3_copyFrom_14 : decode cX3_copyFrom 14 = .ok (.arraylength, 1) := by decide +kernel
theorem dX3_copyFrom_15 : decode cX3_copyFrom 15 = .ok (.invokestatic 35, 3) := by decide +kernel
theorem dX3_copyFrom_18 : decode cX3_copyFrom 18 = .ok (.aload_n 1, 1) := by decide +kernel
theorem dX3_copyFrom_19 : decode cX3_copyFrom 19 = .ok (.getfield 15, 3) := by decide +kernel
theorem dX3_copyFrom_22 : decode cX3_copyFrom 22 = .ok (.iconst 0, 1) := by decide +kernel
theorem dX3_copyFrom_23 : decode cX3_copyFrom 23 = .ok (.aload_n 0, 1) := by decide +kernel
theorem dX3_copyFrom_24 : decode cX3_copyFrom 24 = .ok (.getfield 15, 3) := by decide +kernel
theorem dX3_copyFrom_27 : decode cX3_copyFrom 27 = .ok (.iconst 0, 1) := by decide +kernel
theorem dX3_copyFrom_28 : decode cX3_copyFrom 28 = .ok (.aload_n 0, 1) := by decide +kernel
theorem dX3_copyFrom_29 : decode cX3_copyFrom 29 = .ok (.getfield 15, 3) := by decide +kernel
theorem dX3_copyFrom_32 : decode cX3_copyFrom 32 = .ok (.arraylength, 1) := by decide +kernel
theorem dX3_copyFrom_33 : decode cX3_copyFrom 33 = .ok (.invokestatic 35, 3) := by decide +kernel
theorem dX3_copyFrom_36 : decode cX3_copyFrom 36 = .ok (.aload_n 1, 1) := by decide +kernel
theorem dX3_copyFrom_37 : decode cX3_copyFrom 37 = .ok (.getfield 18, 3) := by decide +kernel
theorem dX3_copyFrom_40 : decode cX3_copyFrom 40 = .ok (.iconst 0, 1) := by decide +kernel
theorem dX3_copyFrom_41 : decode cX3_copyFrom 41 = .ok (.aload_n 0, 1) := by decide +kernel
theorem dX3_copyFrom_42 : decode cX3_copyFrom 42 = .ok (.getfield 18, 3) := by decide +kernel
theorem dX3_copyFrom_45 : decode cX3_copyFrom 45 = .ok (.iconst 0, 1) := by decide +kernel
theorem dX3_copyFrom_46 : decode cX3_copyFrom 46 = .ok (.aload_n 0, 1) := by decide +kernel
theorem dX3_copyFrom_47 : decode cX3_copyFrom 47 = .ok (.getfield 18, 3) := by decide +kernel
theorem dX3_copyFrom_50 : decode cX3_copyFrom 50 = .ok (.arraylength, 1) := by decide +kernel
theorem dX3_copyFrom_51 : decode cX3_copyFrom 51 = .ok (.invokestatic 35, 3) := by decide +kernel
theorem dX3_copyFrom_54 : decode cX3_copyFrom 54 = .ok (.aload_n 0, 1) := by decide +kernel
theorem dX3_copyFrom_55 : decode cX3_copyFrom 55 = .ok (.aload_n 1, 1) := by decide +kernel
theorem dX3_copyFrom_56 : decode cX3_copyFrom 56 = .ok (.getfield 24, 3) := by decide +kernel
theorem dX3_copyFrom_59 : decode cX3_copyFrom 59 = .ok (.putfield 24, 3) := by decide +kernel
theorem dX3_copyFrom_62 : decode cX3_copyFrom 62 = .ok (.aload_n 0, 1) := by decide +kernel
theorem dX3_copyFrom_63 : decode cX3_copyFrom 63 = .ok (.aload_n 1, 1) := by decide +kernel
theorem dX3_copyFrom_64 : decode cX3_copyFrom 64 = .ok (.getfield 28, 3) := by decide +kernel
theorem dX3_copyFrom_67 : decode cX3_copyFrom 67 = .ok (.putfield 28, 3) := by decide +kernel
theorem dX3_copyFrom_70 : decode cX3_copyFrom 70 = .ok (.aload_n 0, 1) := by decide +kernel
theorem dX3_copyFrom_71 : decode cX3_copyFrom 71 = .ok (.aload_n 1, 1) := by decide +kernel
theorem dX3_copyFrom_72 : decode cX3_copyFrom 72 = .ok (.getfield 31, 3) := by decide +kernel
theorem dX3_copyFrom_75 : decode cX3_copyFrom 75 = .ok (.putfield 31, 3) := by decide +kernel
theorem dX3_copyFrom_78 : decode cX3_copyFrom 78 = .ok (.aload_n 0, 1) := by decide +kernel
theorem dX3_copyFrom_79 : decode cX3_copyFrom 79 = .ok (.invokevirtual 41, 3) := by decide +kernel
theorem dX3_copyFrom_82 : decode cX3_copyFrom 82 = .ok (.return_, 1) := by decide +kernel
theorem dX3_orderByComing_0 : decode cX3_orderByComing 0 = .ok (.iconst 0, 1) := by decide +kernel
theorem dX3_orderByComing_1 : decode cX3_orderByComing 1 = .ok (.istore_n 1, 1) := by decide +kernel
theorem dX3_orderByComing_2 : decode cX3_orderByComing 2 = .ok (.iconst 0, 1) := by decide +kernel
theorem dX3_orderByComing_3 : decode cX3_orderByComing 3 = .ok (.istore_n 2, 1) := by decide +kernel
theorem dX3_orderByComing_4 : decode cX3_orderByComing 4 = .ok (.iload_n 2, 1) := by decide +kernel
theorem dX3_orderByComing_5 : decode cX3_orderByComing 5 = .ok (.getstatic 44, 3) := by decide +kernel
theorem dX3_orderByComing_8 : decode cX3_orderByComing 8 = .ok (.iconst 1, 1) := by decide +kernel
theorem dX3_orderByComing_9 : decode cX3_orderByComing 9 = .ok (.iaload, 1) := by decide +kernel
theorem dX3_orderByComing_10 : decode cX3_orderByComing 10 = .ok (.if_icmp .gt 51, 3) := by decide +kernel
theorem dX3_orderByComing_13 : decode cX3_orderByComing 13 = .ok (.iconst 0, 1) := by decide +kernel
theorem dX3_orderByComing_14 : decode cX3_orderByComing 14 = .ok (.istore_n 3, 1) := by decide +kernel
theorem dX3_orderByComing_15 : decode cX3_orderByComing 15 = .ok (.iload_n 3, 1) := by decide +kernel
theorem dX3_orderByComing_16 : decode cX3_orderByComing 16 = .ok (.aload_n 0, 1) := by decide +kernel
theorem dX3_orderByComing_17 : decode cX3_orderByComing 17 = .ok (.getfield 28, 3) := by decide +kernel
theorem dX3_orderByComing_20 : decode cX3_orderByComing 20 = .ok (.if_icmp .ge 35, 3) := by decide +kernel
theorem dX3_orderByComing_23 : decode cX3_orderByComing 23 = .ok (.aload_n 0, 1) := by decide +kernel
theorem dX3_orderByComing_24 : decode cX3_orderByComing 24 = .ok (.iload_n 3, 1) := by decide +kernel
theorem dX3_orderByComing_25 : decode cX3_orderByComing 25 = .ok (.iconst 0, 1) := by decide +kernel
theorem dX3_orderByComing_26 : decode cX3_orderByComing 26 = .ok (.invokevirtual 47, 3) := by decide +kernel
theorem dX3_orderByComing_29 : decode cX3_orderByComing 29 = .ok (.iload_n 2, 1) := by decide +kernel
theorem dX3_orderByComing_30 : decode cX3_orderByComing 30 = .ok (.if_icmp .ne 19, 3) := by decide +kernel
theorem dX3_orderByComing_33 : decode cX3_orderByComing 33 = .ok (.iload_n 1, 1) := by decide +kernel
theorem dX3_orderByComing_34 : decode cX3_orderByComing 34 = .ok (.bipush 6, 2) := by decide +kernel
theorem dX3_orderByComing_36 : decode cX3_orderByComing 36 = .ok (.if_icmp .ge 13, 3) := by decide +kernel
theorem dX3_orderByComing_39 : decode cX3_orderByComing 39 = .ok (.aload_n 0, 1) := by decide +kernel
theorem dX3_orderByComing_40 : decode cX3_orderByComing 40 = .ok (.getfield 21, 3) := by decide +kernel
theorem dX3_orderByComing_43 : decode cX3_orderByComing 43 = .ok (.iload_n 1, 1) := by decide +kernel
theorem dX3_orderByComing_44 : decode cX3_orderByComing 44 = .ok (.iload_n 3, 1) := by decide +kernel
theorem dX3_orderByComing_45 : decode cX3_orderByComing 45 = .ok (.iastore, 1) := by decide +kernel
theorem dX3_orderByComing_46 : decode cX3_orderByComing 46 = .ok (.iinc 1 1, 3) := by decide +kernel
theorem dX3_orderByComing_49 : decode cX3_orderByComing 49 = .ok (.iinc 3 1, 3) := by decide +kernel
theorem dX3_orderByComing_52 : decode cX3_orderByComing 52 = .ok (.goto (-37), 3) := by decide +kernel
theorem dX3_orderByComing_55 : decode cX3_orderByComing 55 = .ok (.iinc 2 1, 3) := by decide +kernel
theorem dX3_orderByComing_58 : decode cX3_orderByComing 58 = .ok (.goto (-54), 3) := by decide +kernel
theorem dX3_orderByComing_61 : decode cX3_orderByComing 61 = .ok (.return_, 1) := by decide +kernel
theorem dX3_readFrom_0 : decode cX3_readFrom 0 = .ok (.aload_n 0, 1) := by decide +kernel
theorem dX3_readFrom_1 : decode cX3_readFrom 1 = .ok (.iconst 0, 1) := by decide +kernel
theorem dX3_readFrom_2 : decode cX3_readFrom 2 = .ok (.putfield 24, 3) := by decide +kernel
theorem dX3_readFrom_5 : decode cX3_readFrom 5 = .ok (.aload_n 0, 1) := by decide +kernel
theorem dX3_readFrom_6 : decode cX3_readFrom 6 = .ok (.iconst 0, 1) := by decide +kernel
theorem dX3_readFrom_7 : decode cX3_readFrom 7 = .ok (.putfield 28, 3) := by decide +kernel
theorem dX3_readFrom_10 : decode cX3_readFrom 10 = .ok (.aload_n 0, 1) := by decide +kernel
theorem dX3_readFrom_11 : decode cX3_readFrom 11 = .ok (.iconst 0, 1) := by decide +kernel
theorem dX3_readFrom_12 : decode cX3_readFrom 12 = .ok (.putfield 31, 3) := by decide +kernel
theorem dX3_readFrom_15 : decode cX3_readFrom 15 = .ok (.getstatic 51, 3) := by decide +kernel
theorem dX3_readFrom_18 : decode cX3_readFrom 18 = .ok (.aload_n 0, 1) := by decide +kernel
theorem dX3_readFrom_19 : decode cX3_readFrom 19 = .ok (.getfield 9, 3) := by decide +kernel
theorem dX3_readFrom_22 : decode cX3_readFrom 22 = .ok (.iconst 0, 1) := by decide +kernel
theorem dX3_readFrom_23 : decode cX3_readFrom 23 = .ok (.iconst 3, 1) := by decide +kernel
theorem dX3_readFrom_24 : decode cX3_readFrom 24 = .ok (.invokestatic 54, 3) := by decide +kernel
theorem dX3_readFrom_27 : decode cX3_readFrom 27 = .ok (.iconst 0, 1) := by decide +kernel
theorem dX3_readFrom_28 : decode cX3_readFrom 28 = .ok (.istore_n 2, 1) := by decide +kernel
theorem dX3_readFrom_29 : decode cX3_readFrom 29 = .ok (.iload_n 2, 1) := by decide +kernel
theorem dX3_readFrom_30 : decode cX3_readFrom 30 = .ok (.bipush 12, 2) := by decide +kernel
theorem dX3_readFrom_32 : decode cX3_readFrom 32 = .ok (.if_icmp .gt 58, 3) := by decide +kernel
theorem dX3_readFrom_35 : decode cX3_readFrom 35 = .ok (.aload_n 0, 1) := by decide +kernel
theorem dX3_readFrom_36 : decode cX3_readFrom 36 = .ok (.aload_n 1, 1) := by decide +kernel
theorem dX3_readFrom_37 : decode cX3_readFrom 37 = .ok (.invokevirtual 58, 3) := by decide +kernel
theorem dX3_readFrom_40 : decode cX3_readFrom 40 = .ok (.ifCond .ne 5, 3) := by decide +kernel
theorem dX3_readFrom_43 : decode cX3_readFrom 43 = .ok (.iconst 0, 1) := by decide +kernel
theorem dX3_readFrom_44 : decode cX3_readFrom 44 = .ok (.ireturn, 1) := by decide +kernel
theorem dX3_readFrom_45 : decode cX3_readFrom 45 = .ok (.aload_n 1, 1) := by decide +kernel
theorem dX3_readFrom_46 : decode cX3_readFrom 46 = .ok (.invokevirtual 62, 3) := by decide +kernel
theorem dX3_readFrom_49 : decode cX3_readFrom 49 = .ok (.iconst (-1), 1) := by decide +kernel
theorem dX3_readFrom_50 : decode cX3_readFrom 50 = .ok (.if_icmp .ne 23, 3) := by decide +kernel
theorem dX3_readFrom_53 : decode cX3_readFrom 53 = .ok (.aload_n 0, 1) := by decide +kernel
theorem dX3_readFrom_54 : decode cX3_readFrom 54 = .ok (.getfield 24, 3) := by decide +kernel
theorem dX3_readFrom_57 : decode cX3_readFrom 57 = .ok (.ifCond .le 14, 3) := by decide +kernel
theorem dX3_readFrom_60 : decode cX3_readFrom 60 = .ok (.aload_n 0, 1) := by decide +kernel
theorem dX3_readFrom_61 : decode cX3_readFrom 61 = .ok (.getfield 28, 3) := by decide +kernel
theorem dX3_readFrom_64 : decode cX3_readFrom 64 = .ok (.ifCond .le 7, 3) := by decide +kernel
theorem dX3_readFrom_67 : decode cX3_readFrom 67 = .ok (.iconst 1, 1) := by decide +kernel
theorem dX3_readFrom_68 : decode cX3_readFrom 68 = .ok (.goto 4, 3) := by decide +kernel
theorem dX3_readFrom_71 : decode cX3_readFrom 71 = .ok (.iconst 0, 1) := by decide +kernel
theorem dX3_readFrom_72 : decode cX3_readFrom 72 = .ok (.ireturn, 1) := by decide +kernel
theorem dX3_readFrom_73 : decode cX3_readFrom 73 = .ok (.aload_n 1, 1) := by decide +kernel
theorem dX3_readFrom_74 : decode cX3_readFrom 74 = .ok (.bipush 59, 2) := by decide +kernel
theorem dX3_readFrom_76 : decode cX3_readFrom 76 = .ok (.invokevirtual 68, 3) := by decide +kernel
theorem dX3_readFrom_79 : decode cX3_readFrom 79 = .ok (.ifCond .ne 5, 3) := by decide +kernel
theorem dX3_readFrom_82 : decode cX3_readFrom 82 = .ok (.iconst 0, 1) := by decide +kernel
theorem dX3_readFrom_83 : decode cX3_readFrom 83 = .ok (.ireturn, 1) := by decide +kernel
theorem dX3_readFrom_84 : decode cX3_readFrom 84 = .ok (.iinc 2 1, 3) := by decide +kernel
theorem dX3_readFrom_87 : decode cX3_readFrom 87 = .ok (.goto (-58), 3) := by decide +kernel
theorem dX3_readFrom_90 : decode cX3_readFrom 90 = .ok (.iconst 0, 1) := by decide +kernel
theorem dX3_readFrom_91 : decode cX3_readFrom 91 = .ok (.ireturn, 1) := by decide +kernel
theorem dX3_readClause_0 : decode cX3_readClause 0 = .ok (.aload_n 1, 1) := by decide +kernel
theorem dX3_readClause_1 : decode cX3_readClause 1 = .ok (.invokevirtual 62, 3) := by decide +kernel
theorem dX3_readClause_4 : decode cX3_readClause 4 = .ok (.istore_n 2, 1) := by decide +kernel
theorem dX3_readClause_5 : decode cX3_readClause 5 = .ok (.iload_n 2, 1) := by decide +kernel
theorem dX3_readClause_6 : decode cX3_readClause 6 = .ok (.bipush 115, 2) := by decide +kernel
theorem dX3_readClause_8 : decode cX3_readClause 8 = .ok (.if_icmp .ne 40, 3) := by decide +kernel
theorem dX3_readClause_11 : decode cX3_readClause 11 = .ok (.aload_n 0, 1) := by decide +kernel
theorem dX3_readClause_12 : decode cX3_readClause 12 = .ok (.getfield 31, 3) := by decide +kernel
theorem dX3_readClause_15 : decode cX3_readClause 15 = .ok (.ifCond .ne 33, 3) := by decide +kernel
theorem dX3_readClause_18 : decode cX3_readClause 18 = .ok (.aload_n 1, 1) := by decide +kernel
theorem dX3_readClause_19 : decode cX3_readClause 19 = .ok (.dup, 1) := by decide +kernel
theorem dX3_readClause_20 : decode cX3_readClause 20 = .ok (.getfield 72, 3) := by decide +kernel
theorem dX3_readClause_23 : decode cX3_readClause 23 = .ok (.iconst 1, 1) := by decide +kernel
theorem dX3_readClause_24 : decode cX3_readClause 24 = .ok (.iadd, 1) := by decide +kernel
theorem dX3_readClause_25 : decode cX3_readClause 25 = .ok (.putfield 72, 3) := by decide +kernel
theorem dX3_readClause_28 : decode cX3_readClause 28 = .ok (.aload_n 0, 1) := by decide +kernel
theorem dX3_readClause_29 : decode cX3_readClause 29 = .ok (.iconst 1, 1) := by decide +kernel
theorem dX3_readClause_30 : decode cX3_readClause 30 = .ok (.putfield 31, 3) := by decide +kernel
theorem dX3_readClause_33 : decode cX3_readClause 33 = .ok (.aload_n 1, 1) := by decide +kernel
theorem dX3_readClause_34 : decode cX3_readClause 34 = .ok (.ldc 75, 2) := by decide +kernel
theorem dX3_readClause_36 : decode cX3_readClause 36 = .ok (.getstatic 51, 3) := by decide +kernel
theorem dX3_readClause_39 : decode cX3_readClause 39 = .ok (.aload_n 0, 1) := by decide +kernel
theorem dX3_readClause_40 : decode cX3_readClause 40 = .ok (.getfield 9, 3) := by decide +kernel
theorem dX3_readClause_43 : decode cX3_readClause 43 = .ok (.iconst 0, 1) := by decide +kernel
theorem dX3_readClause_44 : decode cX3_readClause 44 = .ok (.invokestatic 77, 3) := by decide +kernel
theorem dX3_readClause_47 : decode cX3_readClause 47 = .ok (.ireturn, 1) := by decide +kernel
theorem dX3_readClause_48 : decode cX3_readClause 48 = .ok (.iload_n 2, 1) := by decide +kernel
theorem dX3_readClause_49 : decode cX3_readClause 49 = .ok (.bipush 100, 2) := by decide +kernel
theorem dX3_readClause_51 : decode cX3_readClause 51 = .ok (.if_icmp .ne 53, 3) := by decide +kernel
theorem dX3_readClause_54 : decode cX3_readClause 54 = .ok (.aload_n 0, 1) := by decide +kernel
theorem dX3_readClause_55 : decode cX3_readClause 55 = .ok (.getfield 24, 3) := by decide +kernel
theorem dX3_readClause_58 : decode cX3_readClause 58 = .ok (.iconst 5, 1) := by decide +kernel
theorem dX3_readClause_59 : decode cX3_readClause 59 = .ok (.if_icmp .ge 45, 3) := by decide +kernel
theorem dX3_readClause_62 : decode cX3_readClause 62 = .ok (.aload_n 1, 1) := by decide +kernel
theorem dX3_readClause_63 : decode cX3_readClause 63 = .ok (.dup, 1) := by decide +kernel
theorem dX3_readClause_64 : decode cX3_readClause 64 = .ok (.getfield 72, 3) := by decide +kernel
theorem dX3_readClause_67 : decode cX3_readClause 67 = .ok (.iconst 1, 1) := by decide +kernel
theorem dX3_readClause_68 : decode cX3_readClause 68 = .ok (.iadd, 1) := by decide +kernel
theorem dX3_readClause_69 : decode cX3_readClause 69 = .ok (.putfield 72, 3) := by decide +kernel
theorem dX3_readClause_72 : decode cX3_readClause 72 = .ok (.aload_n 0, 1) := by decide +kernel
theorem dX3_readClause_73 : decode cX3_readClause 73 = .ok (.dup, 1) := by decide +kernel
theorem dX3_readClause_74 : decode cX3_readClause 74 = .ok (.getfield 24, 3) := by decide +kernel
theorem dX3_readClause_77 : decode cX3_readClause 77 = .ok (.iconst 1, 1) := by decide +kernel
theorem dX3_readClause_78 : decode cX3_readClause 78 = .ok (.iadd, 1) := by decide +kernel
theorem dX3_readClause_79 : decode cX3_readClause 79 = .ok (.putfield 24, 3) := by decide +kernel
theorem dX3_readClause_82 : decode cX3_readClause 82 = .ok (.aload_n 1, 1) := by decide +kernel
theorem dX3_readClause_83 : decode cX3_readClause 83 = .ok (.ldc 81, 2) := by decide +kernel
theorem dX3_readClause_85 : decode cX3_readClause 85 = .ok (.getstatic 83, 3) := by decide +kernel
theorem dX3_readClause_88 : decode cX3_readClause 88 = .ok (.aload_n 0, 1) := by decide +kernel
theorem dX3_readClause_89 : decode cX3_readClause 89 = .ok (.getfield 15, 3) := by decide +kernel
theorem dX3_readClause_92 : decode cX3_readClause 92 = .ok (.aload_n 0, 1) := by decide +kernel
theorem dX3_readClause_93 : decode cX3_readClause 93 = .ok (.getfield 24, 3) := by decide +kernel
theorem dX3_readClause_96 : decode cX3_readClause 96 = .ok (.iconst 1, 1) := by decide +kernel
theorem dX3_readClause_97 : decode cX3_readClause 97 = .ok (.isub, 1) := by decide +kernel
theorem dX3_readClause_98 : decode cX3_readClause 98 = .ok (.iconst 3, 1) := by decide +kernel
theorem dX3_readClause_99 : decode cX3_readClause 99 = .ok (.imul, 1) := by decide +kernel
theorem dX3_readClause_100 : decode cX3_readClause 100 = .ok (.invokestatic 77, 3) := by decide +kernel
theorem dX3_readClause_103 : decode cX3_readClause 103 = .ok (.ireturn, 1) := by decide +kernel
theorem dX3_readClause_104 : decode cX3_readClause 104 = .ok (.iload_n 2, 1) := by decide +kernel
theorem dX3_readClause_105 : decode cX3_readClause 105 = .ok (.bipush 103, 2) := by decide +kernel
theorem dX3_readClause_107 : decode cX3_readClause 107 = .ok (.if_icmp .ne 54, 3) := by decide +kernel
theorem dX3_readClause_110 : decode cX3_readClause 110 = .ok (.aload_n 0, 1) := by decide +kernel
theorem dX3_readClause_111 : decode cX3_readClause 111 = .ok (.getfield 28, 3) := by decide +kernel
theorem dX3_readClause_114 : decode cX3_readClause 114 = .ok (.bipush 6, 2) := by decide +kernel
theorem dX3_readClause_116 : decode cX3_readClause 116 = .ok (.if_icmp .ge 45, 3) := by decide +kernel
theorem dX3_readClause_119 : decode cX3_readClause 119 = .ok (.aload_n 1, 1) := by decide +kernel
theorem dX3_readClause_120 : decode cX3_readClause 120 = .ok (.dup, 1) := by decide +kernel
theorem dX3_readClause_121 : decode cX3_readClause 121 = .ok (.getfield 72, 3) := by decide +kernel
theorem dX3_readClause_124 : decode cX3_readClause 124 = .ok (.iconst 1, 1) := by decide +kernel
theorem dX3_readClause_125 : decode cX3_readClause 125 = .ok (.iadd, 1) := by decide +kernel
theorem dX3_readClause_126 : decode cX3_readClause 126 = .ok (.putfield 72, 3) := by decide +kernel
theorem dX3_readClause_129 : decode cX3_readClause 129 = .ok (.aload_n 0, 1) := by decide +kernel
theorem dX3_readClause_130 : decode cX3_readClause 130 = .ok (.dup, 1) := by decide +kernel
theorem dX3_readClause_131 : decode cX3_readClause 131 = .ok (.getfield 28, 3) := by decide +kernel
theorem dX3_readClause_134 : decode cX3_readClause 134 = .ok (.iconst 1, 1) := by decide +kernel
theorem dX3_readClause_135 : decode cX3_readClause 135 = .ok (.iadd, 1) := by decide +kernel
theorem dX3_readClause_136 : decode cX3_readClause 136 = .ok (.putfield 28, 3) := by decide +kernel
theorem dX3_readClause_139 : decode cX3_readClause 139 = .ok (.aload_n 1, 1) := by decide +kernel
theorem dX3_readClause_140 : decode cX3_readClause 140 = .ok (.ldc 86, 2) := by decide +kernel
theorem dX3_readClause_142 : decode cX3_readClause 142 = .ok (.getstatic 44, 3) := by decide +kernel
theorem dX3_readClause_145 : decode cX3_readClause 145 = .ok (.aload_n 0, 1) := by decide +kernel
theorem dX3_readClause_146 : decode cX3_readClause 146 = .ok (.getfield 18, 3) := by decide +kernel
theorem dX3_readClause_149 : decode cX3_readClause 149 = .ok (.aload_n 0, 1) := by decide +kernel
theorem dX3_readClause_150 : decode cX3_readClause 150 = .ok (.getfield 28, 3) := by decide +kernel
theorem dX3_readClause_153 : decode cX3_readClause 153 = .ok (.iconst 1, 1) := by decide +kernel
theorem dX3_readClause_154 : decode cX3_readClause 154 = .ok (.isub, 1) := by decide +kernel
theorem dX3_readClause_155 : decode cX3_readClause 155 = .ok (.iconst 4, 1) := by decide +kernel
theorem dX3_readClause_156 : decode cX3_readClause 156 = .ok (.imul, 1) := by decide +kernel
theorem dX3_readClause_157 : decode cX3_readClause 157 = .ok (.invokestatic 77, 3) := by decide +kernel
theorem dX3_readClause_160 : decode cX3_readClause 160 = .ok (.ireturn, 1) := by decide +kernel
theorem dX3_readClause_161 : decode cX3_readClause 161 = .ok (.iconst 0, 1) := by decide +kernel
theorem dX3_readClause_162 : decode cX3_readClause 162 = .ok (.ireturn, 1) := by decide +kernel
theorem dX3_setUsual_0 : decode cX3_setUsual 0 = .ok (.iconst 0, 1) := by decide +kernel
theorem dX3_setUsual_1 : decode cX3_setUsual 1 = .ok (.istore 4, 2) := by decide +kernel
theorem dX3_setUsual_3 : decode cX3_setUsual 3 = .ok (.iload 4, 2) := by decide +kernel
theorem dX3_setUsual_5 : decode cX3_setUsual 5 = .ok (.iload_n 3, 1) := by decide +kernel
theorem dX3_setUsual_6 : decode cX3_setUsual 6 = .ok (.if_icmp .ge 32, 3) := by decide +kernel
theorem dX3_setUsual_9 : decode cX3_setUsual 9 = .ok (.iload_n 2, 1) := by decide +kernel
theorem dX3_setUsual_10 : decode cX3_setUsual 10 = .ok (.iload 4, 2) := by decide +kernel
theorem dX3_setUsual_12 : decode cX3_setUsual 12 = .ok (.iadd, 1) := by decide +kernel
theorem dX3_setUsual_13 : decode cX3_setUsual 13 = .ok (.aload_n 1, 1) := by decide +kernel
theorem dX3_setUsual_14 : decode cX3_setUsual 14 = .ok (.arraylength, 1) := by decide +kernel
theorem dX3_setUsual_15 : decode cX3_setUsual 15 = .ok (.if_icmp .ge 23, 3) := by decide +kernel
theorem dX3_setUsual_18 : decode cX3_setUsual 18 = .ok (.aload_n 1, 1) := by decide +kernel
theorem dX3_setUsual_19 : decode cX3_setUsual 19 = .ok (.iload_n 2, 1) := by decide +kernel
theorem dX3_setUsual_20 : decode cX3_setUsual 20 = .ok (.iload 4, 2) := by decide +kernel
theorem dX3_setUsual_22 : decode cX3_setUsual 22 = .ok (.iadd, 1) := by decide +kernel
theorem dX3_setUsual_23 : decode cX3_setUsual 23 = .ok (.aload_n 0, 1) := by decide +kernel
theorem dX3_setUsual_24 : decode cX3_setUsual 24 = .ok (.iconst 3, 1) := by decide +kernel
theorem dX3_setUsual_25 : decode cX3_setUsual 25 = .ok (.iload 4, 2) := by decide +kernel
theorem dX3_setUsual_27 : decode cX3_setUsual 27 = .ok (.imul, 1) := by decide +kernel
theorem dX3_setUsual_28 : decode cX3_setUsual 28 = .ok (.iconst 2, 1) := by decide +kernel
theorem dX3_setUsual_29 : decode cX3_setUsual 29 = .ok (.iadd, 1) := by decide +kernel
theorem dX3_setUsual_30 : decode cX3_setUsual 30 = .ok (.iaload, 1) := by decide +kernel
theorem dX3_setUsual_31 : decode cX3_setUsual 31 = .ok (.iastore, 1) := by decide +kernel
theorem dX3_setUsual_32 : decode cX3_setUsual 32 = .ok (.iinc 4 1, 3) := by decide +kernel
theorem dX3_setUsual_35 : decode cX3_setUsual 35 = .ok (.goto (-32), 3) := by decide +kernel
theorem dX3_setUsual_38 : decode cX3_setUsual 38 = .ok (.return_, 1) := by decide +kernel
theorem dX3_readItems_0 : decode cX3_readItems 0 = .ok (.aload_n 2, 1) := by decide +kernel
theorem dX3_readItems_1 : decode cX3_readItems 1 = .ok (.aload_n 3, 1) := by decide +kernel
theorem dX3_readItems_2 : decode cX3_readItems 2 = .ok (.iload 4, 2) := by decide +kernel
theorem dX3_readItems_4 : decode cX3_readItems 4 = .ok (.aload_n 1, 1) := by decide +kernel
theorem dX3_readItems_5 : decode cX3_readItems 5 = .ok (.invokevirtual 88, 3) := by decide +kernel
theorem dX3_readItems_8 : decode cX3_readItems 8 = .ok (.invokestatic 54, 3) := by decide +kernel
theorem dX3_readItems_11 : decode cX3_readItems 11 = .ok (.iconst 0, 1) := by decide +kernel
theorem dX3_readItems_12 : decode cX3_readItems 12 = .ok (.istore 5, 2) := by decide +kernel
theorem dX3_readItems_14 : decode cX3_readItems 14 = .ok (.iconst 0, 1) := by decide +kernel
theorem dX3_readItems_15 : decode cX3_readItems 15 = .ok (.istore 6, 2) := by decide +kernel
theorem dX3_readItems_17 : decode cX3_readItems 17 = .ok (.iload 6, 2) := by decide +kernel
theorem dX3_readItems_19 : decode cX3_readItems 19 = .ok (.aload_n 1, 1) := by decide +kernel
theorem dX3_readItems_20 : decode cX3_readItems 20 = .ok (.invokevirtual 88, 3) := by decide +kernel
theorem dX3_readItems_23 : decode cX3_readItems 23 = .ok (.if_icmp .gt 100, 3) := by decide +kernel
theorem dX3_readItems_26 : decode cX3_readItems 26 = .ok (.aload_n 0, 1) := by decide +kernel
theorem dX3_readItems_27 : decode cX3_readItems 27 = .ok (.aload_n 1, 1) := by decide +kernel
theorem dX3_readItems_28 : decode cX3_readItems 28 = .ok (.invokevirtual 93, 3) := by decide +kernel
theorem dX3_readItems_31 : decode cX3_readItems 31 = .ok (.istore 7, 2) := by decide +kernel
theorem dX3_readItems_33 : decode cX3_readItems 33 = .ok (.iload 7, 2) := by decide +kernel
theorem dX3_readItems_35 : decode cX3_readItems 35 = .ok (.iconst (-1), 1) := by decide +kernel
theorem dX3_readItems_36 : decode cX3_readItems 36 = .ok (.if_icmp .ne 5, 3) := by decide +kernel
theorem dX3_readItems_39 : decode cX3_readItems 39 = .ok (.iconst 1, 1) := by decide +kernel
theorem dX3_readItems_40 : decode cX3_readItems 40 = .ok (.ireturn, 1) := by decide +kernel
theorem dX3_readItems_41 : decode cX3_readItems 41 = .ok (.iload 5, 2) := by decide +kernel
theorem dX3_readItems_43 : decode cX3_readItems 43 = .ok (.iload 7, 2) := by decide +kernel
theorem dX3_readItems_45 : decode cX3_readItems 45 = .ok (.ishr, 1) := by decide +kernel
theorem dX3_readItems_46 : decode cX3_readItems 46 = .ok (.iconst 1, 1) := by decide +kernel
theorem dX3_readItems_47 : decode cX3_readItems 47 = .ok (.iand, 1) := by decide +kernel
theorem dX3_readItems_48 : decode cX3_readItems 48 = .ok (.ifCond .ne 13, 3) := by decide +kernel
theorem dX3_readItems_51 : decode cX3_readItems 51 = .ok (.iload 4, 2) := by decide +kernel
theorem dX3_readItems_53 : decode cX3_readItems 53 = .ok (.iload 7, 2) := by decide +kernel
theorem dX3_readItems_55 : decode cX3_readItems 55 = .ok (.iadd, 1) := by decide +kernel
theorem dX3_readItems_56 : decode cX3_readItems 56 = .ok (.aload_n 3, 1) := by decide +kernel
theorem dX3_readItems_57 : decode cX3_readItems 57 = .ok (.arraylength, 1) := by decide +kernel
theorem dX3_readItems_58 : decode cX3_readItems 58 = .ok (.if_icmp .lt 5, 3) := by decide +kernel
theorem dX3_readItems_61 : decode cX3_readItems 61 = .ok (.iconst 0, 1) := by decide +kernel
theorem dX3_readItems_62 : decode cX3_readItems 62 = .ok (.ireturn, 1) := by decide +kernel
theorem dX3_readItems_63 : decode cX3_readItems 63 = .ok (.iload 5, 2) := by decide +kernel
theorem dX3_readItems_65 : decode cX3_readItems 65 = .ok (.iconst 1, 1) := by decide +kernel
theorem dX3_readItems_66 : decode cX3_readItems 66 = .ok (.iload 7, 2) := by decide +kernel
theorem dX3_readItems_68 : decode cX3_readItems 68 = .ok (.ishl, 1) := by decide +kernel
theorem dX3_readItems_69 : decode cX3_readItems 69 = .ok (.ior, 1) := by decide +kernel
theorem dX3_readItems_70 : decode cX3_readItems 70 = .ok (.istore 5, 2) := by decide +kernel
theorem dX3_readItems_72 : decode cX3_readItems 72 = .ok (.aload_n 0, 1) := by decide +kernel
theorem dX3_readItems_73 : decode cX3_readItems 73 = .ok (.dup, 1) := by decide +kernel
theorem dX3_readItems_74 : decode cX3_readItems 74 = .ok (.getfield 72, 3) := by decide +kernel
theorem dX3_readItems_77 : decode cX3_readItems 77 = .ok (.iconst 1, 1) := by decide +kernel
theorem dX3_readItems_78 : decode cX3_readItems 78 = .ok (.iadd, 1) := by decide +kernel
theorem dX3_readItems_79 : decode cX3_readItems 79 = .ok (.putfield 72, 3) := by decide +kernel
theorem dX3_readItems_82 : decode cX3_readItems 82 = .ok (.aload_n 0, 1) := by decide +kernel
theorem dX3_readItems_83 : decode cX3_readItems 83 = .ok (.iconst 2, 1) := by decide +kernel
theorem dX3_readItems_84 : decode cX3_readItems 84 = .ok (.aload_n 2, 1) := by decide +kernel
theorem dX3_readItems_85 : decode cX3_readItems 85 = .ok (.iconst 3, 1) := by decide +kernel
theorem dX3_readItems_86 : decode cX3_readItems 86 = .ok (.iload 7, 2) := by decide +kernel
theorem dX3_readItems_88 : decode cX3_readItems 88 = .ok (.imul, 1) := by decide +kernel
theorem dX3_readItems_89 : decode cX3_readItems 89 = .ok (.iaload, 1) := by decide +kernel
theorem dX3_readItems_90 : decode cX3_readItems 90 = .ok (.aload_n 2, 1) := by decide +kernel
theorem dX3_readItems_91 : decode cX3_readItems 91 = .ok (.iconst 3, 1) := by decide +kernel
theorem dX3_readItems_92 : decode cX3_readItems 92 = .ok (.iload 7, 2) := by decide +kernel
theorem dX3_readItems_94 : decode cX3_readItems 94 = .ok (.imul, 1) := by decide +kernel
theorem dX3_readItems_95 : decode cX3_readItems 95 = .ok (.iconst 1, 1) := by decide +kernel
theorem dX3_readItems_96 : decode cX3_readItems 96 = .ok (.iadd, 1) := by decide +kernel
theorem dX3_readItems_97 : decode cX3_readItems 97 = .ok (.iaload, 1) := by decide +kernel
theorem dX3_readItems_98 : decode cX3_readItems 98 = .ok (.invokevirtual 97, 3) := by decide +kernel
theorem dX3_readItems_101 : decode cX3_readItems 101 = .ok (.ifCond .ne 5, 3) := by decide +kernel
theorem dX3_readItems_104 : decode cX3_readItems 104 = .ok (.iconst 0, 1) := by decide +kernel
theorem dX3_readItems_105 : decode cX3_readItems 105 = .ok (.ireturn, 1) := by decide +kernel
theorem dX3_readItems_106 : decode cX3_readItems 106 = .ok (.aload_n 3, 1) := by decide +kernel
theorem dX3_readItems_107 : decode cX3_readItems 107 = .ok (.iload 4, 2) := by decide +kernel
theorem dX3_readItems_109 : decode cX3_readItems 109 = .ok (.iload 7, 2) := by decide +kernel
theorem dX3_readItems_111 : decode cX3_readItems 111 = .ok (.iadd, 1) := by decide +kernel
theorem dX3_readItems_112 : decode cX3_readItems 112 = .ok (.aload_n 0, 1) := by decide +kernel
theorem dX3_readItems_113 : decode cX3_readItems 113 = .ok (.getfield 101, 3) := by decide +kernel
theorem dX3_readItems_116 : decode cX3_readItems 116 = .ok (.iastore, 1) := by decide +kernel
theorem dX3_readItems_117 : decode cX3_readItems 117 = .ok (.iinc 6 1, 3) := by decide +kernel
theorem dX3_readItems_120 : decode cX3_readItems 120 = .ok (.goto (-103), 3) := by decide +kernel
theorem dX3_readItems_123 : decode cX3_readItems 123 = .ok (.iconst 0, 1) := by decide +kernel
theorem dX3_readItems_124 : decode cX3_readItems 124 = .ok (.ireturn, 1) := by decide +kernel
theorem dX4_init_0 : decode cX4_init 0 = .ok (.aload_n 0, 1) := by decide +kernel
theorem dX4_init_1 : decode cX4_init 1 = .ok (.invokespecial 3, 3) := by decide +kernel
theorem dX4_init_4 : decode cX4_init 4 = .ok (.aload_n 0, 1) := by decide +kernel
theorem dX4_init_5 : decode cX4_init 5 = .ok (.bipush 32, 2) := by decide +kernel
theorem dX4_init_7 : decode cX4_init 7 = .ok (.newarray .int, 2) := by decide +kernel
theorem dX4_init_9 : decode cX4_init 9 = .ok (.putfield 9, 3) := by decide +kernel
theorem dX4_init_12 : decode cX4_init 12 = .ok (.aload_n 0, 1) := by decide +kernel
theorem dX4_init_13 : decode cX4_init 13 = .ok (.aload_n 1, 1) := by decide +kernel
theorem dX4_init_14 : decode cX4_init 14 = .ok (.putfield 15, 3) := by decide +kernel
theorem dX4_init_17 : decode cX4_init 17 = .ok (.return_, 1) := by decide +kernel
theorem dX4_worth_0 : decode cX4_worth 0 = .ok (.iconst 0, 1) := by decide +kernel
theorem dX4_worth_1 : decode cX4_worth 1 = .ok (.istore_n 2, 1) := by decide +kernel
theorem dX4_worth_2 : decode cX4_worth 2 = .ok (.iconst 0, 1) := by decide +kernel
theorem dX4_worth_3 : decode cX4_worth 3 = .ok (.istore_n 3, 1) := by decide +kernel
theorem dX4_worth_4 : decode cX4_worth 4 = .ok (.iload_n 3, 1) := by decide +kernel
theorem dX4_worth_5 : decode cX4_worth 5 = .ok (.aload_n 0, 1) := by decide +kernel
theorem dX4_worth_6 : decode cX4_worth 6 = .ok (.getfield 15, 3) := by decide +kernel
theorem dX4_worth_9 : decode cX4_worth 9 = .ok (.arraylength, 1) := by decide +kernel
theorem dX4_worth_10 : decode cX4_worth 10 = .ok (.if_icmp .ge 204, 3) := by decide +kernel
theorem dX4_worth_13 : decode cX4_worth 13 = .ok (.aload_n 0, 1) := by decide +kernel
theorem dX4_worth_14 : decode cX4_worth 14 = .ok (.getfield 15, 3) := by decide +kernel
theorem dX4_worth_17 : decode cX4_worth 17 = .ok (.iload_n 3, 1) := by decide +kernel
theorem dX4_worth_18 : decode cX4_worth 18 = .ok (.iaload, 1) := by decide +kernel
theorem dX4_worth_19 : decode cX4_worth 19 = .ok (.istore 4, 2) := by decide +kernel
theorem dX4_worth_21 : decode cX4_worth 21 = .ok (.iload 4, 2) := by decide +kernel
theorem dX4_worth_23 : decode cX4_worth 23 = .ok (.bipush (-6), 2) := by decide +kernel
theorem dX4_worth_25 : decode cX4_worth 25 = .ok (.if_icmp .lt 40, 3) := by decide +kernel
theorem dX4_worth_28 : decode cX4_worth 28 = .ok (.iload_n 2, 1) := by decide +kernel
theorem dX4_worth_29 : decode cX4_worth 29 = .ok (.bipush 32, 2) := by decide +kernel
theorem dX4_worth_31 : decode cX4_worth 31 = .ok (.if_icmp .lt 5, 3) := by decide +kernel
theorem dX4_worth_34 : decode cX4_worth 34 = .ok (.iconst 0, 1) := by decide +kernel
theorem dX4_worth_35 : decode cX4_worth 35 = .ok (.ireturn, 1) := by decide +kernel
theorem dX4_worth_36 : decode cX4_worth 36 = .ok (.aload_n 0, 1) := by decide +kernel
theorem dX4_worth_37 : decode cX4_worth 37 = .ok (.getfield 9, 3) := by decide +kernel
theorem dX4_worth_40 : decode cX4_worth 40 = .ok (.iload_n 2, 1) := by decide +kernel
theorem dX4_worth_41 : decode cX4_worth 41 = .ok (.iload 4, 2) := by decide +kernel
theorem dX4_worth_43 : decode cX4_worth 43 = .ok (.ifCond .lt 8, 3) := by decide +kernel
theorem dX4_worth_46 : decode cX4_worth 46 = .ok (.iload 4, 2) := by decide +kernel
theorem dX4_worth_48 : decode cX4_worth 48 = .ok (.goto 10, 3) := by decide +kernel
theorem dX4_worth_51 : decode cX4_worth 51 = .ok (.aload_n 1, 1) := by decide +kernel
theorem dX4_worth_52 : decode cX4_worth 52 = .ok (.iload 4, 2) := by decide +kernel
theorem dX4_worth_54 : decode cX4_worth 54 = .ok (.bipush (-6), 2) := by decide +kernel
theorem dX4_worth_56 : decode cX4_worth 56 = .ok (.isub, 1) := by decide +kernel
theorem dX4_worth_57 : decode cX4_worth 57 = .ok (.iaload, 1) := by decide +kernel
theorem dX4_worth_58 : decode cX4_worth 58 = .ok (.iastore, 1) := by decide +kernel
theorem dX4_worth_59 : decode cX4_worth 59 = .ok (.iinc 2 1, 3) := by decide +kernel
theorem dX4_worth_62 : decode cX4_worth 62 = .ok (.goto 146, 3) := by decide +kernel
theorem dX4_worth_65 : decode cX4_worth 65 = .ok (.iload 4, 2) := by decide +kernel
theorem dX4_worth_67 : decode cX4_worth 67 = .ok (.bipush (-18), 2) := by decide +kernel
theorem dX4_worth_69 : decode cX4_worth 69 = .ok (.if_icmp .ne 20, 3) := by decide +kernel
theorem dX4_worth_72 : decode cX4_worth 72 = .ok (.iload_n 2, 1) := by decide +kernel
theorem dX4_worth_73 : decode cX4_worth 73 = .ok (.ifCond .le 14, 3) := by decide +kernel
theorem dX4_worth_76 : decode cX4_worth 76 = .ok (.aload_n 0, 1) := by decide +kernel
theorem dX4_worth_77 : decode cX4_worth 77 = .ok (.getfield 9, 3) := by decide +kernel
theorem dX4_worth_80 : decode cX4_worth 80 = .ok (.iload_n 2, 1) := by decide +kernel
theorem dX4_worth_81 : decode cX4_worth 81 = .ok (.iconst 1, 1) := by decide +kernel
theorem dX4_worth_82 : decode cX4_worth 82 = .ok (.isub, 1) := by decide +kernel
theorem dX4_worth_83 : decode cX4_worth 83 = .ok (.iaload, 1) := by decide +kernel
theorem dX4_worth_84 : decode cX4_worth 84 = .ok (.goto 4, 3) := by decide +kernel
theorem dX4_worth_87 : decode cX4_worth 87 = .ok (.iconst 0, 1) := by decide +kernel
theorem dX4_worth_88 : decode cX4_worth 88 = .ok (.ireturn, 1) := by decide +kernel
theorem dX4_worth_89 : decode cX4_worth 89 = .ok (.iload_n 2, 1) := by decide +kernel
theorem dX4_worth_90 : decode cX4_worth 90 = .ok (.iconst 1, 1) := by decide +kernel
theorem dX4_worth_91 : decode cX4_worth 91 = .ok (.if_icmp .ge 5, 3) := by decide +kernel
theorem dX4_worth_94 : decode cX4_worth 94 = .ok (.iconst 0, 1) := by decide +kernel
theorem dX4_worth_95 : decode cX4_worth 95 = .ok (.ireturn, 1) := by decide +kernel
theorem dX4_worth_96 : decode cX4_worth 96 = .ok (.iload 4, 2) := by decide +kernel
theorem dX4_worth_98 : decode cX4_worth 98 = .ok (.bipush (-16), 2) := by decide +kernel
theorem dX4_worth_100 : decode cX4_worth 100 = .ok (.if_icmp .ne 24, 3) := by decide +kernel
theorem dX4_worth_103 : decode cX4_worth 103 = .ok (.aload_n 0, 1) := by decide +kernel
theorem dX4_worth_104 : decode cX4_worth 104 = .ok (.getfield 9, 3) := by decide +kernel
theorem dX4_worth_107 : decode cX4_worth 107 = .ok (.iload_n 2, 1) := by decide +kernel
theorem dX4_worth_108 : decode cX4_worth 108 = .ok (.iconst 1, 1) := by decide +kernel
theorem dX4_worth_109 : decode cX4_worth 109 = .ok (.isub, 1) := by decide +kernel
theorem dX4_worth_110 : decode cX4_worth 110 = .ok (.iconst 1, 1) := by decide +kernel
theorem dX4_worth_111 : decode cX4_worth 111 = .ok (.aload_n 0, 1) := by decide +kernel
theorem dX4_worth_112 : decode cX4_worth 112 = .ok (.getfield 9, 3) := by decide +kernel
theorem dX4_worth_115 : decode cX4_worth 115 = .ok (.iload_n 2, 1) := by decide +kernel
theorem dX4_worth_116 : decode cX4_worth 116 = .ok (.iconst 1, 1) := by decide +kernel
theorem dX4_worth_117 : decode cX4_worth 117 = .ok (.isub, 1) := by decide +kernel
theorem dX4_worth_118 : decode cX4_worth 118 = .ok (.iaload, 1) := by decide +kernel
theorem dX4_worth_119 : decode cX4_worth 119 = .ok (.isub, 1) := by decide +kernel
theorem dX4_worth_120 : decode cX4_worth 120 = .ok (.iastore, 1) := by decide +kernel
theorem dX4_worth_121 : decode cX4_worth 121 = .ok (.goto 87, 3) := by decide +kernel
theorem dX4_worth_124 : decode cX4_worth 124 = .ok (.iload 4, 2) := by decide +kernel
theorem dX4_worth_126 : decode cX4_worth 126 = .ok (.bipush (-17), 2) := by decide +kernel
theorem dX4_worth_128 : decode cX4_worth 128 = .ok (.if_icmp .ne 43, 3) := by decide +kernel
theorem dX4_worth_131 : decode cX4_worth 131 = .ok (.iinc 2 (-1), 3) := by decide +kernel
theorem dX4_worth_134 : decode cX4_worth 134 = .ok (.iinc 3 1, 3) := by decide +kernel
theorem dX4_worth_137 : decode cX4_worth 137 = .ok (.aload_n 0, 1) := by decide +kernel
theorem dX4_worth_138 : decode cX4_worth 138 = .ok (.getfield 9, 3) := by decide +kernel
theorem dX4_worth_141 : decode cX4_worth 141 = .ok (.iload_n 2, 1) := by decide +kernel
theorem dX4_worth_142 : decode cX4_worth 142 = .ok (.iaload, 1) := by decide +kernel
theorem dX4_worth_143 : decode cX4_worth 143 = .ok (.ifCond .ne 65, 3) := by decide +kernel
theorem dX4_worth_146 : decode cX4_worth 146 = .ok (.iload_n 3, 1) := by decide +kernel
theorem dX4_worth_147 : decode cX4_worth 147 = .ok (.aload_n 0, 1) := by decide +kernel
theorem dX4_worth_148 : decode cX4_worth 148 = .ok (.getfield 15, 3) := by decide +kernel
theorem dX4_worth_151 : decode cX4_worth 151 = .ok (.arraylength, 1) := by decide +kernel
theorem dX4_worth_152 : decode cX4_worth 152 = .ok (.if_icmp .ge 56, 3) := by decide +kernel
theorem dX4_worth_155 : decode cX4_worth 155 = .ok (.iload_n 3, 1) := by decide +kernel
theorem dX4_worth_156 : decode cX4_worth 156 = .ok (.aload_n 0, 1) := by decide +kernel
theorem dX4_worth_157 : decode cX4_worth 157 = .ok (.getfield 15, 3) := by decide +kernel
theorem dX4_worth_160 : decode cX4_worth 160 = .ok (.iload_n 3, 1) := by decide +kernel
theorem dX4_worth_161 : decode cX4_worth 161 = .ok (.iaload, 1) := by decide +kernel
theorem dX4_worth_162 : decode cX4_worth 162 = .ok (.iconst 1, 1) := by decide +kernel
theorem dX4_worth_163 : decode cX4_worth 163 = .ok (.isub, 1) := by decide +kernel
theorem dX4_worth_164 : decode cX4_worth 164 = .ok (.invokestatic 18, 3) := by decide +kernel
theorem dX4_worth_167 : decode cX4_worth 167 = .ok (.istore_n 3, 1) := by decide +kernel
theorem dX4_worth_168 : decode cX4_worth 168 = .ok (.goto 40, 3) := by decide +kernel
theorem dX4_worth_171 : decode cX4_worth 171 = .ok (.iload_n 2, 1) := by decide +kernel
theorem dX4_worth_172 : decode cX4_worth 172 = .ok (.iconst 2, 1) := by decide +kernel
theorem dX4_worth_173 : decode cX4_worth 173 = .ok (.if_icmp .ge 5, 3) := by decide +kernel
theorem dX4_worth_176 : decode cX4_worth 176 = .ok (.iconst 0, 1) := by decide +kernel
theorem dX4_worth_177 : decode cX4_worth 177 = .ok (.ireturn, 1) := by decide +kernel
theorem dX4_worth_178 : decode cX4_worth 178 = .ok (.iinc 2 (-1), 3) := by decide +kernel
theorem dX4_worth_181 : decode cX4_worth 181 = .ok (.aload_n 0, 1) := by decide +kernel
theorem dX4_worth_182 : decode cX4_worth 182 = .ok (.getfield 9, 3) := by decide +kernel
theorem dX4_worth_185 : decode cX4_worth 185 = .ok (.iload_n 2, 1) := by decide +kernel
theorem dX4_worth_186 : decode cX4_worth 186 = .ok (.iconst 1, 1) := by decide +kernel
theorem dX4_worth_187 : decode cX4_worth 187 = .ok (.isub, 1) := by decide +kernel
theorem dX4_worth_188 : decode cX4_worth 188 = .ok (.iload 4, 2) := by decide +kernel
theorem dX4_worth_190 : decode cX4_worth 190 = .ok (.aload_n 0, 1) := by decide +kernel
theorem dX4_worth_191 : decode cX4_worth 191 = .ok (.getfield 9, 3) := by decide +kernel
theorem dX4_worth_194 : decode cX4_worth 194 = .ok (.iload_n 2, 1) := by decide +kernel
theorem dX4_worth_195 : decode cX4_worth 195 = .ok (.iconst 1, 1) := by decide +kernel
theorem dX4_worth_196 : decode cX4_worth 196 = .ok (.isub, 1) := by decide +kernel
theorem dX4_worth_197 : decode cX4_worth 197 = .ok (.iaload, 1) := by decide +kernel
theorem dX4_worth_198 : decode cX4_worth 198 = .ok (.aload_n 0, 1) := by decide +kernel
theorem dX4_worth_199 : decode cX4_worth 199 = .ok (.getfield 9, 3) := by decide +kernel
theorem dX4_worth_202 : decode cX4_worth 202 = .ok (.iload_n 2, 1) := by decide +kernel
theorem dX4_worth_203 : decode cX4_worth 203 = .ok (.iaload, 1) := by decide +kernel
theorem dX4_worth_204 : decode cX4_worth 204 = .ok (.invokestatic 24, 3) := by decide +kernel
theorem dX4_worth_207 : decode cX4_worth 207 = .ok (.iastore, 1) := by decide +kernel
theorem dX4_worth_208 : decode cX4_worth 208 = .ok (.iinc 3 1, 3) := by decide +kernel
theorem dX4_worth_211 : decode cX4_worth 211 = .ok (.goto (-207), 3) := by decide +kernel
theorem dX4_worth_214 : decode cX4_worth 214 = .ok (.iconst 0, 1) := by decide +kernel
theorem dX4_worth_215 : decode cX4_worth 215 = .ok (.ireturn, 1) := by decide +kernel
theorem dX4_joined_0 : decode cX4_joined 0 = .ok (.lconst 0, 1) := by decide +kernel
theorem dX4_joined_1 : decode cX4_joined 1 = .ok (.lstore_n 3, 1) := by decide +kernel
theorem dX4_joined_2 : decode cX4_joined 2 = .ok (.iload_n 0, 1) := by decide +kernel
theorem dX4_joined_3 : decode cX4_joined 3 = .ok (.tableswitch 148 (-15) (-7) #[140, 132, 118, 104, 90, 74, 65, 57, 49], 49) := by decide +kernel
theorem dX4_joined_52 : decode cX4_joined 52 = .ok (.iload_n 1, 1) := by decide +kernel
theorem dX4_joined_53 : decode cX4_joined 53 = .ok (.iload_n 2, 1) := by decide +kernel
theorem dX4_joined_54 : decode cX4_joined 54 = .ok (.iadd, 1) := by decide +kernel
theorem dX4_joined_55 : decode cX4_joined 55 = .ok (.i2l, 1) := by decide +kernel
theorem dX4_joined_56 : decode cX4_joined 56 = .ok (.lstore_n 3, 1) := by decide +kernel
theorem dX4_joined_57 : decode cX4_joined 57 = .ok (.goto 94, 3) := by decide +kernel
theorem dX4_joined_60 : decode cX4_joined 60 = .ok (.iload_n 1, 1) := by decide +kernel
theorem dX4_joined_61 : decode cX4_joined 61 = .ok (.iload_n 2, 1) := by decide +kernel
theorem dX4_joined_62 : decode cX4_joined 62 = .ok (.isub, 1) := by decide +kernel
theorem dX4_joined_63 : decode cX4_joined 63 = .ok (.i2l, 1) := by decide +kernel
theorem dX4_joined_64 : decode cX4_joined 64 = .ok (.lstore_n 3, 1) := by decide +kernel
theorem dX4_joined_65 : decode cX4_joined 65 = .ok (.goto 86, 3) := by decide +kernel
theorem dX4_joined_68 : decode cX4_joined 68 = .ok (.iload_n 1, 1) := by decide +kernel
theorem dX4_joined_69 : decode cX4_joined 69 = .ok (.i2l, 1) := by decide +kernel
theorem dX4_joined_70 : decode cX4_joined 70 = .ok (.iload_n 2, 1) := by decide +kernel
theorem dX4_joined_71 : decode cX4_joined 71 = .ok (.i2l, 1) := by decide +kernel
theorem dX4_joined_72 : decode cX4_joined 72 = .ok (.lmul, 1) := by decide +kernel
theorem dX4_joined_73 : decode cX4_joined 73 = .ok (.lstore_n 3, 1) := by decide +kernel
theorem dX4_joined_74 : decode cX4_joined 74 = .ok (.goto 77, 3) := by decide +kernel
theorem dX4_joined_77 : decode cX4_joined 77 = .ok (.iload_n 2, 1) := by decide +kernel
theorem dX4_joined_78 : decode cX4_joined 78 = .ok (.ifCond .ne 7, 3) := by decide +kernel
theorem dX4_joined_81 : decode cX4_joined 81 = .ok (.lconst 0, 1) := by decide +kernel
theorem dX4_joined_82 : decode cX4_joined 82 = .ok (.goto 7, 3) := by decide +kernel
theorem dX4_joined_85 : decode cX4_joined 85 = .ok (.iload_n 1, 1) := by decide +kernel
theorem dX4_joined_86 : decode cX4_joined 86 = .ok (.iload_n 2, 1) := by decide +kernel
theorem dX4_joined_87 : decode cX4_joined 87 = .ok (.idiv, 1) := by decide +kernel
theorem dX4_joined_88 : decode cX4_joined 88 = .ok (.i2l, 1) := by decide +kernel
theorem dX4_joined_89 : decode cX4_joined 89 = .ok (.lstore_n 3, 1) := by decide +kernel
theorem dX4_joined_90 : decode cX4_joined 90 = .ok (.goto 61, 3) := by decide +kernel
theorem dX4_joined_93 : decode cX4_joined 93 = .ok (.iload_n 1, 1) := by decide +kernel
theorem dX4_joined_94 : decode cX4_joined 94 = .ok (.iload_n 2, 1) := by decide +kernel
theorem dX4_joined_95 : decode cX4_joined 95 = .ok (.if_icmp .ne 7, 3) := by decide +kernel
theorem dX4_joined_98 : decode cX4_joined 98 = .ok (.lconst 1, 1) := by decide +kernel
theorem dX4_joined_99 : decode cX4_joined 99 = .ok (.goto 4, 3) := by decide +kernel
theorem dX4_joined_102 : decode cX4_joined 102 = .ok (.lconst 0, 1) := by decide +kernel
theorem dX4_joined_103 : decode cX4_joined 103 = .ok (.lstore_n 3, 1) := by decide +kernel
theorem dX4_joined_104 : decode cX4_joined 104 = .ok (.goto 47, 3) := by decide +kernel
theorem dX4_joined_107 : decode cX4_joined 107 = .ok (.iload_n 1, 1) := by decide +kernel
theorem dX4_joined_108 : decode cX4_joined 108 = .ok (.iload_n 2, 1) := by decide +kernel
theorem dX4_joined_109 : decode cX4_joined 109 = .ok (.if_icmp .ge 7, 3) := by decide +kernel
theorem dX4_joined_112 : decode cX4_joined 112 = .ok (.lconst 1, 1) := by decide +kernel
theorem dX4_joined_113 : decode cX4_joined 113 = .ok (.goto 4, 3) := by decide +kernel
theorem dX4_joined_116 : decode cX4_joined 116 = .ok (.lconst 0, 1) := by decide +kernel
theorem dX4_joined_117 : decode cX4_joined 117 = .ok (.lstore_n 3, 1) := by decide +kernel
theorem dX4_joined_118 : decode cX4_joined 118 = .ok (.goto 33, 3) := by decide +kernel
theorem dX4_joined_121 : decode cX4_joined 121 = .ok (.iload_n 1, 1) := by decide +kernel
theorem dX4_joined_122 : decode cX4_joined 122 = .ok (.iload_n 2, 1) := by decide +kernel
theorem dX4_joined_123 : decode cX4_joined 123 = .ok (.if_icmp .le 7, 3) := by decide +kernel
theorem dX4_joined_126 : decode cX4_joined 126 = .ok (.lconst 1, 1) := by decide +kernel
theorem dX4_joined_127 : decode cX4_joined 127 = .ok (.goto 4, 3) := by decide +kernel
theorem dX4_joined_130 : decode cX4_joined 130 = .ok (.lconst 0, 1) := by decide +kernel
theorem dX4_joined_131 : decode cX4_joined 131 = .ok (.lstore_n 3, 1) := by decide +kernel
theorem dX4_joined_132 : decode cX4_joined 132 = .ok (.goto 19, 3) := by decide +kernel
theorem dX4_joined_135 : decode cX4_joined 135 = .ok (.iload_n 1, 1) := by decide +kernel
theorem dX4_joined_136 : decode cX4_joined 136 = .ok (.iload_n 2, 1) := by decide +kernel
theorem dX4_joined_137 : decode cX4_joined 137 = .ok (.iand, 1) := by decide +kernel
theorem dX4_joined_138 : decode cX4_joined 138 = .ok (.i2l, 1) := by decide +kernel
theorem dX4_joined_139 : decode cX4_joined 139 = .ok (.lstore_n 3, 1) := by decide +kernel
theorem dX4_joined_140 : decode cX4_joined 140 = .ok (.goto 11, 3) := by decide +kernel
theorem dX4_joined_143 : decode cX4_joined 143 = .ok (.iload_n 1, 1) := by decide +kernel
theorem dX4_joined_144 : decode cX4_joined 144 = .ok (.iload_n 2, 1) := by decide +kernel
theorem dX4_joined_145 : decode cX4_joined 145 = .ok (.ior, 1) := by decide +kernel
theorem dX4_joined_146 : decode cX4_joined 146 = .ok (.i2l, 1) := by decide +kernel
theorem dX4_joined_147 : decode cX4_joined 147 = .ok (.lstore_n 3, 1) := by decide +kernel
theorem dX4_joined_148 : decode cX4_joined 148 = .ok (.goto 3, 3) := by decide +kernel
theorem dX4_joined_151 : decode cX4_joined 151 = .ok (.lload_n 3, 1) := by decide +kernel
theorem dX4_joined_152 : decode cX4_joined 152 = .ok (.ldc2_w 28, 3) := by decide +kernel
theorem dX4_joined_155 : decode cX4_joined 155 = .ok (.lcmp, 1) := by decide +kernel
theorem dX4_joined_156 : decode cX4_joined 156 = .ok (.ifCond .le 9, 3) := by decide +kernel
theorem dX4_joined_159 : decode cX4_joined 159 = .ok (.ldc2_w 28, 3) := by decide +kernel
theorem dX4_joined_162 : decode cX4_joined 162 = .ok (.goto 18, 3) := by decide +kernel
theorem dX4_joined_165 : decode cX4_joined 165 = .ok (.lload_n 3, 1) := by decide +kernel
theorem dX4_joined_166 : decode cX4_joined 166 = .ok (.ldc2_w 30, 3) := by decide +kernel
theorem dX4_joined_169 : decode cX4_joined 169 = .ok (.lcmp, 1) := by decide +kernel
theorem dX4_joined_170 : decode cX4_joined 170 = .ok (.ifCond .ge 9, 3) := by decide +kernel
theorem dX4_joined_173 : decode cX4_joined 173 = .ok (.ldc2_w 30, 3) := by decide +kernel
theorem dX4_joined_176 : decode cX4_joined 176 = .ok (.goto 4, 3) := by decide +kernel
theorem dX4_joined_179 : decode cX4_joined 179 = .ok (.lload_n 3, 1) := by decide +kernel
theorem dX4_joined_180 : decode cX4_joined 180 = .ok (.l2i, 1) := by decide +kernel
theorem dX4_joined_181 : decode cX4_joined 181 = .ok (.ireturn, 1) := by decide +kernel
theorem dX5_init_0 : decode cX5_init 0 = .ok (.aload_n 0, 1) := by decide +kernel
theorem dX5_init_1 : decode cX5_init 1 = .ok (.invokespecial 3, 3) := by decide +kernel
theorem dX5_init_4 : decode cX5_init 4 = .ok (.aload_n 0, 1) := by decide +kernel
theorem dX5_init_5 : decode cX5_init 5 = .ok (.sipush 240, 3) := by decide +kernel
theorem dX5_init_8 : decode cX5_init 8 = .ok (.newarray .int, 2) := by decide +kernel
theorem dX5_init_10 : decode cX5_init 10 = .ok (.putfield 9, 3) := by decide +kernel
theorem dX5_init_13 : decode cX5_init 13 = .ok (.aload_n 0, 1) := by decide +kernel
theorem dX5_init_14 : decode cX5_init 14 = .ok (.iconst 0, 1) := by decide +kernel
theorem dX5_init_15 : decode cX5_init 15 = .ok (.putfield 15, 3) := by decide +kernel
theorem dX5_init_18 : decode cX5_init 18 = .ok (.aload_n 0, 1) := by decide +kernel
theorem dX5_init_19 : decode cX5_init 19 = .ok (.aload_n 1, 1) := by decide +kernel
theorem dX5_init_20 : decode cX5_init 20 = .ok (.putfield 19, 3) := by decide +kernel
theorem dX5_init_23 : decode cX5_init 23 = .ok (.return_, 1) := by decide +kernel
theorem dX5_written_0 : decode cX5_written 0 = .ok (.aload_n 0, 1) := by decide +kernel
theorem dX5_written_1 : decode cX5_written 1 = .ok (.getfield 9, 3) := by decide +kernel
theorem dX5_written_4 : decode cX5_written 4 = .ok (.aload_n 0, 1) := by decide +kernel
theorem dX5_written_5 : decode cX5_written 5 = .ok (.getfield 15, 3) := by decide +kernel
theorem dX5_written_8 : decode cX5_written 8 = .ok (.invokestatic 23, 3) := by decide +kernel
theorem dX5_written_11 : decode cX5_written 11 = .ok (.areturn, 1) := by decide +kernel
theorem dX5_readLaw_0 : decode cX5_readLaw 0 = .ok (.aload_n 0, 1) := by decide +kernel
theorem dX5_readLaw_1 : decode cX5_readLaw 1 = .ok (.iconst 0, 1) := by decide +kernel
theorem dX5_readLaw_2 : decode cX5_readLaw 2 = .ok (.putfield 15, 3) := by decide +kernel
theorem dX5_readLaw_5 : decode cX5_readLaw 5 = .ok (.iconst 0, 1) := by decide +kernel
theorem dX5_readLaw_6 : decode cX5_readLaw 6 = .ok (.istore_n 1, 1) := by decide +kernel
theorem dX5_readLaw_7 : decode cX5_readLaw 7 = .ok (.iload_n 1, 1) := by decide +kernel
theorem dX5_readLaw_8 : decode cX5_readLaw 8 = .ok (.sipush 240, 3) := by decide +kernel
theorem dX5_readLaw_11 : decode cX5_readLaw 11 = .ok (.if_icmp .gt 45, 3) := by decide +kernel
theorem dX5_readLaw_14 : decode cX5_readLaw 14 = .ok (.aload_n 0, 1) := by decide +kernel
theorem dX5_readLaw_15 : decode cX5_readLaw 15 = .ok (.invokevirtual 29, 3) := by decide +kernel
theorem dX5_readLaw_18 : decode cX5_readLaw 18 = .ok (.ifCond .ne 5, 3) := by decide +kernel
theorem dX5_readLaw_21 : decode cX5_readLaw 21 = .ok (.iconst 0, 1) := by decide +kernel
theorem dX5_readLaw_22 : decode cX5_readLaw 22 = .ok (.ireturn, 1) := by decide +kernel
theorem dX5_readLaw_23 : decode cX5_readLaw 23 = .ok (.aload_n 0, 1) := by decide +kernel
theorem dX5_readLaw_24 : decode cX5_readLaw 24 = .ok (.getfield 19, 3) := by decide +kernel
theorem dX5_readLaw_27 : decode cX5_readLaw 27 = .ok (.invokevirtual 33, 3) := by decide +kernel
theorem dX5_readLaw_30 : decode cX5_readLaw 30 = .ok (.iconst (-1), 1) := by decide +kernel
theorem dX5_readLaw_31 : decode cX5_readLaw 31 = .ok (.if_icmp .ne 5, 3) := by decide +kernel
theorem dX5_readLaw_34 : decode cX5_readLaw 34 = .ok (.iconst 1, 1) := by decide +kernel
theorem dX5_readLaw_35 : decode cX5_readLaw 35 = .ok (.ireturn, 1) := by decide +kernel
theorem dX5_readLaw_36 : decode cX5_readLaw 36 = .ok (.aload_n 0, 1) := by decide +kernel
theorem dX5_readLaw_37 : decode cX5_readLaw 37 = .ok (.getfield 19, 3) := by decide +kernel
theorem dX5_readLaw_40 : decode cX5_readLaw 40 = .ok (.bipush 59, 2) := by decide +kernel
theorem dX5_readLaw_42 : decode cX5_readLaw 42 = .ok (.invokevirtual 39, 3) := by decide +kernel
theorem dX5_readLaw_45 : decode cX5_readLaw 45 = .ok (.ifCond .ne 5, 3) := by decide +kernel
theorem dX5_readLaw_48 : decode cX5_readLaw 48 = .ok (.iconst 0, 1) := by decide +kernel
theorem dX5_readLaw_49 : decode cX5_readLaw 49 = .ok (.ireturn, 1) := by decide +kernel
theorem dX5_readLaw_50 : decode cX5_readLaw 50 = .ok (.iinc 1 1, 3) := by decide +kernel
theorem dX5_readLaw_53 : decode cX5_readLaw 53 = .ok (.goto (-46), 3) := by decide +kernel
theorem dX5_readLaw_56 : decode cX5_readLaw 56 = .ok (.iconst 0, 1) := by decide +kernel
theorem dX5_readLaw_57 : decode cX5_readLaw 57 = .ok (.ireturn, 1) := by decide +kernel
theorem dX5_readClause_0 : decode cX5_readClause 0 = .ok (.aload_n 0, 1) := by decide +kernel
theorem dX5_readClause_1 : decode cX5_readClause 1 = .ok (.getfield 19, 3) := by decide +kernel
theorem dX5_readClause_4 : decode cX5_readClause 4 = .ok (.bipush 121, 2) := by decide +kernel
theorem dX5_readClause_6 : decode cX5_readClause 6 = .ok (.invokevirtual 39, 3) := by decide +kernel
theorem dX5_readClause_9 : decode cX5_readClause 9 = .ok (.ifCond .eq 15, 3) := by decide +kernel
theorem dX5_readClause_12 : decode cX5_readClause 12 = .ok (.aload_n 0, 1) := by decide +kernel
theorem dX5_readClause_13 : decode cX5_readClause 13 = .ok (.getfield 19, 3) := by decide +kernel
theorem dX5_readClause_16 : decode cX5_readClause 16 = .ok (.bipush 58, 2) := by decide +kernel
theorem dX5_readClause_18 : decode cX5_readClause 18 = .ok (.invokevirtual 39, 3) := by decide +kernel
theorem dX5_readClause_21 : decode cX5_readClause 21 = .ok (.ifCond .ne 5, 3) := by decide +kernel
theorem dX5_readClause_24 : decode cX5_readClause 24 = .ok (.iconst 0, 1) := by decide +kernel
theorem dX5_readClause_25 : decode cX5_readClause 25 = .ok (.ireturn, 1) := by decide +kernel
theorem dX5_readClause_26 : decode cX5_readClause 26 = .ok (.aload_n 0, 1) := by decide +kernel
theorem dX5_readClause_27 : decode cX5_readClause 27 = .ok (.getfield 19, 3) := by decide +kernel
theorem dX5_readClause_30 : decode cX5_readClause 30 = .ok (.ldc 43, 2) := by decide +kernel
theorem dX5_readClause_32 : decode cX5_readClause 32 = .ok (.invokevirtual 45, 3) := by decide +kernel
theorem dX5_readClause_35 : decode cX5_readClause 35 = .ok (.iconst (-1), 1) := by decide +kernel
theorem dX5_readClause_36 : decode cX5_readClause 36 = .ok (.if_icmp .ne 7, 3) := by decide +kernel
theorem dX5_readClause_39 : decode cX5_readClause 39 = .ok (.iconst 1, 1) := by decide +kernel
theorem dX5_readClause_40 : decode cX5_readClause 40 = .ok (.goto 4, 3) := by decide +kernel
theorem dX5_readClause_43 : decode cX5_readClause 43 = .ok (.iconst 0, 1) := by decide +kernel
theorem dX5_readClause_44 : decode cX5_readClause 44 = .ok (.istore_n 1, 1) := by decide +kernel
theorem dX5_readClause_45 : decode cX5_readClause 45 = .ok (.iload_n 1, 1) := by decide +kernel
theorem dX5_readClause_46 : decode cX5_readClause 46 = .ok (.ifCond .eq 13, 3) := by decide +kernel
theorem dX5_readClause_49 : decode cX5_readClause 49 = .ok (.aload_n 0, 1) := by decide +kernel
theorem dX5_readClause_50 : decode cX5_readClause 50 = .ok (.iconst 0, 1) := by decide +kernel
theorem dX5_readClause_51 : decode cX5_readClause 51 = .ok (.invokevirtual 49, 3) := by decide +kernel
theorem dX5_readClause_54 : decode cX5_readClause 54 = .ok (.ifCond .ne 5, 3) := by decide +kernel
theorem dX5_readClause_57 : decode cX5_readClause 57 = .ok (.iconst 0, 1) := by decide +kernel
theorem dX5_readClause_58 : decode cX5_readClause 58 = .ok (.ireturn, 1) := by decide +kernel
theorem dX5_readClause_59 : decode cX5_readClause 59 = .ok (.iload_n 1, 1) := by decide +kernel
theorem dX5_readClause_60 : decode cX5_readClause 60 = .ok (.ifCond .eq 24, 3) := by decide +kernel
theorem dX5_readClause_63 : decode cX5_readClause 63 = .ok (.aload_n 0, 1) := by decide +kernel
theorem dX5_readClause_64 : decode cX5_readClause 64 = .ok (.getfield 19, 3) := by decide +kernel
theorem dX5_readClause_67 : decode cX5_readClause 67 = .ok (.ldc 53, 2) := by decide +kernel
theorem dX5_readClause_69 : decode cX5_readClause 69 = .ok (.invokevirtual 45, 3) := by decide +kernel
theorem dX5_readClause_72 : decode cX5_readClause 72 = .ok (.iconst (-1), 1) := by decide +kernel
theorem dX5_readClause_73 : decode cX5_readClause 73 = .ok (.if_icmp .ne 11, 3) := by decide +kernel
theorem dX5_readClause_76 : decode cX5_readClause 76 = .ok (.aload_n 0, 1) := by decide +kernel
theorem dX5_readClause_77 : decode cX5_readClause 77 = .ok (.bipush (-18), 2) := by decide +kernel
theorem dX5_readClause_79 : decode cX5_readClause 79 = .ok (.invokevirtual 55, 3) := by decide +kernel
theorem dX5_readClause_82 : decode cX5_readClause 82 = .ok (.iconst 1, 1) := by decide +kernel
theorem dX5_readClause_83 : decode cX5_readClause 83 = .ok (.ireturn, 1) := by decide +kernel
theorem dX5_readClause_84 : decode cX5_readClause 84 = .ok (.aload_n 0, 1) := by decide +kernel
theorem dX5_readClause_85 : decode cX5_readClause 85 = .ok (.iconst 0, 1) := by decide +kernel
theorem dX5_readClause_86 : decode cX5_readClause 86 = .ok (.iload_n 1, 1) := by decide +kernel
theorem dX5_readClause_87 : decode cX5_readClause 87 = .ok (.invokevirtual 59, 3) := by decide +kernel
theorem dX5_readClause_90 : decode cX5_readClause 90 = .ok (.ifCond .eq 15, 3) := by decide +kernel
theorem dX5_readClause_93 : decode cX5_readClause 93 = .ok (.aload_n 0, 1) := by decide +kernel
theorem dX5_readClause_94 : decode cX5_readClause 94 = .ok (.getfield 19, 3) := by decide +kernel
theorem dX5_readClause_97 : decode cX5_readClause 97 = .ok (.bipush 63, 2) := by decide +kernel
theorem dX5_readClause_99 : decode cX5_readClause 99 = .ok (.invokevirtual 39, 3) := by decide +kernel
theorem dX5_readClause_102 : decode cX5_readClause 102 = .ok (.ifCond .ne 5, 3) := by decide +kernel
theorem dX5_readClause_105 : decode cX5_readClause 105 = .ok (.iconst 0, 1) := by decide +kernel
theorem dX5_readClause_106 : decode cX5_readClause 106 = .ok (.ireturn, 1) := by decide +kernel
theorem dX5_readClause_107 : decode cX5_readClause 107 = .ok (.aload_n 0, 1) := by decide +kernel
theorem dX5_readClause_108 : decode cX5_readClause 108 = .ok (.bipush (-17), 2) := by decide +kernel
theorem dX5_readClause_110 : decode cX5_readClause 110 = .ok (.invokevirtual 55, 3) := by decide +kernel
theorem dX5_readClause_113 : decode cX5_readClause 113 = .ok (.aload_n 0, 1) := by decide +kernel
theorem dX5_readClause_114 : decode cX5_readClause 114 = .ok (.getfield 15, 3) := by decide +kernel
theorem dX5_readClause_117 : decode cX5_readClause 117 = .ok (.istore_n 2, 1) := by decide +kernel
theorem dX5_readClause_118 : decode cX5_readClause 118 = .ok (.aload_n 0, 1) := by decide +kernel
theorem dX5_readClause_119 : decode cX5_readClause 119 = .ok (.iconst 0, 1) := by decide +kernel
theorem dX5_readClause_120 : decode cX5_readClause 120 = .ok (.invokevirtual 55, 3) := by decide +kernel
theorem dX5_readClause_123 : decode cX5_readClause 123 = .ok (.aload_n 0, 1) := by decide +kernel
theorem dX5_readClause_124 : decode cX5_readClause 124 = .ok (.iconst 0, 1) := by decide +kernel
theorem dX5_readClause_125 : decode cX5_readClause 125 = .ok (.invokevirtual 49, 3) := by decide +kernel
theorem dX5_readClause_128 : decode cX5_readClause 128 = .ok (.ifCond .ne 5, 3) := by decide +kernel
theorem dX5_readClause_131 : decode cX5_readClause 131 = .ok (.iconst 0, 1) := by decide +kernel
theorem dX5_readClause_132 : decode cX5_readClause 132 = .ok (.ireturn, 1) := by decide +kernel
theorem dX5_readClause_133 : decode cX5_readClause 133 = .ok (.aload_n 0, 1) := by decide +kernel
theorem dX5_readClause_134 : decode cX5_readClause 134 = .ok (.bipush (-18), 2) := by decide +kernel
theorem dX5_readClause_136 : decode cX5_readClause 136 = .ok (.invokevirtual 55, 3) := by decide +kernel
theorem dX5_readClause_139 : decode cX5_readClause 139 = .ok (.iload_n 2, 1) := by decide +kernel
theorem dX5_readClause_140 : decode cX5_readClause 140 = .ok (.aload_n 0, 1) := by decide +kernel
theorem dX5_readClause_141 : decode cX5_readClause 141 = .ok (.getfield 9, 3) := by decide +kernel
theorem dX5_readClause_144 : decode cX5_readClause 144 = .ok (.arraylength, 1) := by decide +kernel
theorem dX5_readClause_145 : decode cX5_readClause 145 = .ok (.if_icmp .ge 13, 3) := by decide +kernel
theorem dX5_readClause_148 : decode cX5_readClause 148 = .ok (.aload_n 0, 1) := by decide +kernel
theorem dX5_readClause_149 : decode cX5_readClause 149 = .ok (.getfield 9, 3) := by decide +kernel
theorem dX5_readClause_152 : decode cX5_readClause 152 = .ok (.iload_n 2, 1) := by decide +kernel
theorem dX5_readClause_153 : decode cX5_readClause 153 = .ok (.aload_n 0, 1) := by decide +kernel
theorem dX5_readClause_154 : decode cX5_readClause 154 = .ok (.getfield 15, 3) := by decide +kernel
theorem dX5_readClause_157 : decode cX5_readClause 157 = .ok (.iastore, 1) := by decide +kernel
theorem dX5_readClause_158 : decode cX5_readClause 158 = .ok (.iconst 1, 1) := by decide +kernel
theorem dX5_readClause_159 : decode cX5_readClause 159 = .ok (.ireturn, 1) := by decide +kernel
theorem dX5_readCondition_0 : decode cX5_readCondition 0 = .ok (.aload_n 0, 1) := by decide +kernel
theorem dX5_readCondition_1 : decode cX5_readCondition 1 = .ok (.iload_n 1, 1) := by decide +kernel
theorem dX5_readCondition_2 : decode cX5_readCondition 2 = .ok (.iload_n 2, 1) := by decide +kernel
theorem dX5_readCondition_3 : decode cX5_readCondition 3 = .ok (.invokevirtual 63, 3) := by decide +kernel
theorem dX5_readCondition_6 : decode cX5_readCondition 6 = .ok (.ifCond .ne 5, 3) := by decide +kernel
theorem dX5_readCondition_9 : decode cX5_readCondition 9 = .ok (.iconst 0, 1) := by decide +kernel
theorem dX5_readCondition_10 : decode cX5_readCondition 10 = .ok (.ireturn, 1) := by decide +kernel
theorem dX5_readCondition_11 : decode cX5_readCondition 11 = .ok (.iconst 0, 1) := by decide +kernel
theorem dX5_readCondition_12 : decode cX5_readCondition 12 = .ok (.istore_n 3, 1) := by decide +kernel
theorem dX5_readCondition_13 : decode cX5_readCondition 13 = .ok (.iload_n 3, 1) := by decide +kernel
theorem dX5_readCondition_14 : decode cX5_readCondition 14 = .ok (.sipush 240, 3) := by decide +kernel
theorem dX5_readCondition_17 : decode cX5_readCondition 17 = .ok (.if_icmp .ge 38, 3) := by decide +kernel
theorem dX5_readCondition_20 : decode cX5_readCondition 20 = .ok (.aload_n 0, 1) := by decide +kernel
theorem dX5_readCondition_21 : decode cX5_readCondition 21 = .ok (.getfield 19, 3) := by decide +kernel
theorem dX5_readCondition_24 : decode cX5_readCondition 24 = .ok (.bipush 124, 2) := by decide +kernel
theorem dX5_readCondition_26 : decode cX5_readCondition 26 = .ok (.invokevirtual 39, 3) := by decide +kernel
theorem dX5_readCondition_29 : decode cX5_readCondition 29 = .ok (.ifCond .eq 26, 3) := by decide +kernel
theorem dX5_readCondition_32 : decode cX5_readCondition 32 = .ok (.aload_n 0, 1) := by decide +kernel
theorem dX5_readCondition_33 : decode cX5_readCondition 33 = .ok (.iload_n 1, 1) := by decide +kernel
theorem dX5_readCondition_34 : decode cX5_readCondition 34 = .ok (.iconst 0, 1) := by decide +kernel
theorem dX5_readCondition_35 : decode cX5_readCondition 35 = .ok (.invokevirtual 63, 3) := by decide +kernel
theorem dX5_readCondition_38 : decode cX5_readCondition 38 = .ok (.ifCond .ne 5, 3) := by decide +kernel
theorem dX5_readCondition_41 : decode cX5_readCondition 41 = .ok (.iconst 0, 1) := by decide +kernel
theorem dX5_readCondition_42 : decode cX5_readCondition 42 = .ok (.ireturn, 1) := by decide +kernel
theorem dX5_readCondition_43 : decode cX5_readCondition 43 = .ok (.aload_n 0, 1) := by decide +kernel
theorem dX5_readCondition_44 : decode cX5_readCondition 44 = .ok (.bipush (-15), 2) := by decide +kernel
theorem dX5_readCondition_46 : decode cX5_readCondition 46 = .ok (.invokevirtual 55, 3) := by decide +kernel
theorem dX5_readCondition_49 : decode cX5_readCondition 49 = .ok (.iinc 3 1, 3) := by decide +kernel
theorem dX5_readCondition_52 : decode cX5_readCondition 52 = .ok (.goto (-39), 3) := by decide +kernel
theorem dX5_readCondition_55 : decode cX5_readCondition 55 = .ok (.iconst 1, 1) := by decide +kernel
theorem dX5_readCondition_56 : decode cX5_readCondition 56 = .ok (.ireturn, 1) := by decide +kernel
theorem dX5_readTruth_0 : decode cX5_readTruth 0 = .ok (.aload_n 0, 1) := by decide +kernel
theorem dX5_readTruth_1 : decode cX5_readTruth 1 = .ok (.iload_n 1, 1) := by decide +kernel
theorem dX5_readTruth_2 : decode cX5_readTruth 2 = .ok (.iload_n 2, 1) := by decide +kernel
theorem dX5_readTruth_3 : decode cX5_readTruth 3 = .ok (.invokevirtual 66, 3) := by decide +kernel
theorem dX5_readTruth_6 : decode cX5_readTruth 6 = .ok (.ifCond .ne 5, 3) := by decide +kernel
theorem dX5_readTruth_9 : decode cX5_readTruth 9 = .ok (.iconst 0, 1) := by decide +kernel
theorem dX5_readTruth_10 : decode cX5_readTruth 10 = .ok (.ireturn, 1) := by decide +kernel
theorem dX5_readTruth_11 : decode cX5_readTruth 11 = .ok (.iconst 0, 1) := by decide +kernel
theorem dX5_readTruth_12 : decode cX5_readTruth 12 = .ok (.istore_n 3, 1) := by decide +kernel
theorem dX5_readTruth_13 : decode cX5_readTruth 13 = .ok (.iload_n 3, 1) := by decide +kernel
theorem dX5_readTruth_14 : decode cX5_readTruth 14 = .ok (.sipush 240, 3) := by decide +kernel
theorem dX5_readTruth_17 : decode cX5_readTruth 17 = .ok (.if_icmp .ge 38, 3) := by decide +kernel
theorem dX5_readTruth_20 : decode cX5_readTruth 20 = .ok (.aload_n 0, 1) := by decide +kernel
theorem dX5_readTruth_21 : decode cX5_readTruth 21 = .ok (.getfield 19, 3) := by decide +kernel
theorem dX5_readTruth_24 : decode cX5_readTruth 24 = .ok (.bipush 38, 2) := by decide +kernel
theorem dX5_readTruth_26 : decode cX5_readTruth 26 = .ok (.invokevirtual 39, 3) := by decide +kernel
theorem dX5_readTruth_29 : decode cX5_readTruth 29 = .ok (.ifCond .eq 26, 3) := by decide +kernel
theorem dX5_readTruth_32 : decode cX5_readTruth 32 = .ok (.aload_n 0, 1) := by decide +kernel
theorem dX5_readTruth_33 : decode cX5_readTruth 33 = .ok (.iload_n 1, 1) := by decide +kernel
theorem dX5_readTruth_34 : decode cX5_readTruth 34 = .ok (.iconst 0, 1) := by decide +kernel
theorem dX5_readTruth_35 : decode cX5_readTruth 35 = .ok (.invokevirtual 66, 3) := by decide +kernel
theorem dX5_readTruth_38 : decode cX5_readTruth 38 = .ok (.ifCond .ne 5, 3) := by decide +kernel
theorem dX5_readTruth_41 : decode cX5_readTruth 41 = .ok (.iconst 0, 1) := by decide +kernel
theorem dX5_readTruth_42 : decode cX5_readTruth 42 = .ok (.ireturn, 1) := by decide +kernel
theorem dX5_readTruth_43 : decode cX5_readTruth 43 = .ok (.aload_n 0, 1) := by decide +kernel
theorem dX5_readTruth_44 : decode cX5_readTruth 44 = .ok (.bipush (-14), 2) := by decide +kernel
theorem dX5_readTruth_46 : decode cX5_readTruth 46 = .ok (.invokevirtual 55, 3) := by decide +kernel
theorem dX5_readTruth_49 : decode cX5_readTruth 49 = .ok (.iinc 3 1, 3) := by decide +kernel
theorem dX5_readTruth_52 : decode cX5_readTruth 52 = .ok (.goto (-39), 3) := by decide +kernel
theorem dX5_readTruth_55 : decode cX5_readTruth 55 = .ok (.iconst 1, 1) := by decide +kernel
theorem dX5_readTruth_56 : decode cX5_readTruth 56 = .ok (.ireturn, 1) := by decide +kernel
theorem dX5_readUnit_0 : decode cX5_readUnit 0 = .ok (.iload_n 2, 1) := by decide +kernel
theorem dX5_readUnit_1 : decode cX5_readUnit 1 = .ok (.ifCond .ne 38, 3) := by decide +kernel
theorem dX5_readUnit_4 : decode cX5_readUnit 4 = .ok (.aload_n 0, 1) := by decide +kernel
theorem dX5_readUnit_5 : decode cX5_readUnit 5 = .ok (.getfield 19, 3) := by decide +kernel
theorem dX5_readUnit_8 : decode cX5_readUnit 8 = .ok (.ldc 43, 2) := by decide +kernel
theorem dX5_readUnit_10 : decode cX5_readUnit 10 = .ok (.invokevirtual 45, 3) := by decide +kernel
theorem dX5_readUnit_13 : decode cX5_readUnit 13 = .ok (.iconst (-1), 1) := by decide +kernel
theorem dX5_readUnit_14 : decode cX5_readUnit 14 = .ok (.if_icmp .eq 25, 3) := by decide +kernel
theorem dX5_readUnit_17 : decode cX5_readUnit 17 = .ok (.iload_n 1, 1) := by decide +kernel
theorem dX5_readUnit_18 : decode cX5_readUnit 18 = .ok (.bipush 6, 2) := by decide +kernel
theorem dX5_readUnit_20 : decode cX5_readUnit 20 = .ok (.if_icmp .ge 17, 3) := by decide +kernel
theorem dX5_readUnit_23 : decode cX5_readUnit 23 = .ok (.aload_n 0, 1) := by decide +kernel
theorem dX5_readUnit_24 : decode cX5_readUnit 24 = .ok (.iload_n 1, 1) := by decide +kernel
theorem dX5_readUnit_25 : decode cX5_readUnit 25 = .ok (.iconst 1, 1) := by decide +kernel
theorem dX5_readUnit_26 : decode cX5_readUnit 26 = .ok (.iadd, 1) := by decide +kernel
theorem dX5_readUnit_27 : decode cX5_readUnit 27 = .ok (.invokevirtual 69, 3) := by decide +kernel
theorem dX5_readUnit_30 : decode cX5_readUnit 30 = .ok (.ifCond .eq 7, 3) := by decide +kernel
theorem dX5_readUnit_33 : decode cX5_readUnit 33 = .ok (.iconst 1, 1) := by decide +kernel
theorem dX5_readUnit_34 : decode cX5_readUnit 34 = .ok (.goto 4, 3) := by decide +kernel
theorem dX5_readUnit_37 : decode cX5_readUnit 37 = .ok (.iconst 0, 1) := by decide +kernel
theorem dX5_readUnit_38 : decode cX5_readUnit 38 = .ok (.ireturn, 1) := by decide +kernel
theorem dX5_readUnit_39 : decode cX5_readUnit 39 = .ok (.iload_n 2, 1) := by decide +kernel
theorem dX5_readUnit_40 : decode cX5_readUnit 40 = .ok (.ifCond .ne 13, 3) := by decide +kernel
theorem dX5_readUnit_43 : decode cX5_readUnit 43 = .ok (.aload_n 0, 1) := by decide +kernel
theorem dX5_readUnit_44 : decode cX5_readUnit 44 = .ok (.iload_n 1, 1) := by decide +kernel
theorem dX5_readUnit_45 : decode cX5_readUnit 45 = .ok (.invokevirtual 49, 3) := by decide +kernel
theorem dX5_readUnit_48 : decode cX5_readUnit 48 = .ok (.ifCond .ne 5, 3) := by decide +kernel
theorem dX5_readUnit_51 : decode cX5_readUnit 51 = .ok (.iconst 0, 1) := by decide +kernel
theorem dX5_readUnit_52 : decode cX5_readUnit 52 = .ok (.ireturn, 1) := by decide +kernel
theorem dX5_readUnit_53 : decode cX5_readUnit 53 = .ok (.aload_n 0, 1) := by decide +kernel
theorem dX5_readUnit_54 : decode cX5_readUnit 54 = .ok (.getfield 19, 3) := by decide +kernel
theorem dX5_readUnit_57 : decode cX5_readUnit 57 = .ok (.ldc 53, 2) := by decide +kernel
theorem dX5_readUnit_59 : decode cX5_readUnit 59 = .ok (.invokevirtual 45, 3) := by decide +kernel
theorem dX5_readUnit_62 : decode cX5_readUnit 62 = .ok (.istore_n 3, 1) := by decide +kernel
theorem dX5_readUnit_63 : decode cX5_readUnit 63 = .ok (.iload_n 3, 1) := by decide +kernel
theorem dX5_readUnit_64 : decode cX5_readUnit 64 = .ok (.iconst (-1), 1) := by decide +kernel
theorem dX5_readUnit_65 : decode cX5_readUnit 65 = .ok (.if_icmp .ne 5, 3) := by decide +kernel
theorem dX5_readUnit_68 : decode cX5_readUnit 68 = .ok (.iconst 0, 1) := by decide +kernel
theorem dX5_readUnit_69 : decode cX5_readUnit 69 = .ok (.ireturn, 1) := by decide +kernel
theorem dX5_readUnit_70 : decode cX5_readUnit 70 = .ok (.aload_n 0, 1) := by decide +kernel
theorem dX5_readUnit_71 : decode cX5_readUnit 71 = .ok (.getfield 19, 3) := by decide +kernel
theorem dX5_readUnit_74 : decode cX5_readUnit 74 = .ok (.dup, 1) := by decide +kernel
theorem dX5_readUnit_75 : decode cX5_readUnit 75 = .ok (.getfield 72, 3) := by decide +kernel
theorem dX5_readUnit_78 : decode cX5_readUnit 78 = .ok (.iconst 1, 1) := by decide +kernel
theorem dX5_readUnit_79 : decode cX5_readUnit 79 = .ok (.iadd, 1) := by decide +kernel
theorem dX5_readUnit_80 : decode cX5_readUnit 80 = .ok (.putfield 72, 3) := by decide +kernel
theorem dX5_readUnit_83 : decode cX5_readUnit 83 = .ok (.aload_n 0, 1) := by decide +kernel
theorem dX5_readUnit_84 : decode cX5_readUnit 84 = .ok (.iload_n 1, 1) := by decide +kernel
theorem dX5_readUnit_85 : decode cX5_readUnit 85 = .ok (.invokevirtual 49, 3) := by decide +kernel
theorem dX5_readUnit_88 : decode cX5_readUnit 88 = .ok (.ifCond .ne 5, 3) := by decide +kernel
theorem dX5_readUnit_91 : decode cX5_readUnit 91 = .ok (.iconst 0, 1) := by decide +kernel
theorem dX5_readUnit_92 : decode cX5_readUnit 92 = .ok (.ireturn, 1) := by decide +kernel
theorem dX5_readUnit_93 : decode cX5_readUnit 93 = .ok (.aload_n 0, 1) := by decide +kernel
theorem dX5_readUnit_94 : decode cX5_readUnit 94 = .ok (.bipush (-11), 2) := by decide +kernel
theorem dX5_readUnit_96 : decode cX5_readUnit 96 = .ok (.iload_n 3, 1) := by decide +kernel
theorem dX5_readUnit_97 : decode cX5_readUnit 97 = .ok (.isub, 1) := by decide +kernel
theorem dX5_readUnit_98 : decode cX5_readUnit 98 = .ok (.invokevirtual 55, 3) := by decide +kernel
theorem dX5_readUnit_101 : decode cX5_readUnit 101 = .ok (.iconst 1, 1) := by decide +kernel
theorem dX5_readUnit_102 : decode cX5_readUnit 102 = .ok (.ireturn, 1) := by decide +kernel
theorem dX5_readNested_0 : decode cX5_readNested 0 = .ok (.aload_n 0, 1) := by decide +kernel
theorem dX5_readNested_1 : decode cX5_readNested 1 = .ok (.getfield 19, 3) := by decide +kernel
theorem dX5_readNested_4 : decode cX5_readNested 4 = .ok (.bipush 40, 2) := by decide +kernel
theorem dX5_readNested_6 : decode cX5_readNested 6 = .ok (.invokevirtual 39, 3) := by decide +kernel
theorem dX5_readNested_9 : decode cX5_readNested 9 = .ok (.ifCond .eq 30, 3) := by decide +kernel
theorem dX5_readNested_12 : decode cX5_readNested 12 = .ok (.aload_n 0, 1) := by decide +kernel
theorem dX5_readNested_13 : decode cX5_readNested 13 = .ok (.iload_n 1, 1) := by decide +kernel
theorem dX5_readNested_14 : decode cX5_readNested 14 = .ok (.iconst 0, 1) := by decide +kernel
theorem dX5_readNested_15 : decode cX5_readNested 15 = .ok (.invokevirtual 59, 3) := by decide +kernel
theorem dX5_readNested_18 : decode cX5_readNested 18 = .ok (.ifCond .eq 19, 3) := by decide +kernel
theorem dX5_readNested_21 : decode cX5_readNested 21 = .ok (.aload_n 0, 1) := by decide +kernel
theorem dX5_readNested_22 : decode cX5_readNested 22 = .ok (.getfield 19, 3) := by decide +kernel
theorem dX5_readNested_25 : decode cX5_readNested 25 = .ok (.bipush 41, 2) := by decide +kernel
theorem dX5_readNested_27 : decode cX5_readNested 27 = .ok (.invokevirtual 39, 3) := by decide +kernel
theorem dX5_readNested_30 : decode cX5_readNested 30 = .ok (.ifCond .eq 7, 3) := by decide +kernel
theorem dX5_readNested_33 : decode cX5_readNested 33 = .ok (.iconst 1, 1) := by decide +kernel
theorem dX5_readNested_34 : decode cX5_readNested 34 = .ok (.goto 4, 3) := by decide +kernel
theorem dX5_readNested_37 : decode cX5_readNested 37 = .ok (.iconst 0, 1) := by decide +kernel
theorem dX5_readNested_38 : decode cX5_readNested 38 = .ok (.ireturn, 1) := by decide +kernel
theorem dX5_readNested_39 : decode cX5_readNested 39 = .ok (.aload_n 0, 1) := by decide +kernel
theorem dX5_readNested_40 : decode cX5_readNested 40 = .ok (.getfield 19, 3) := by decide +kernel
theorem dX5_readNested_43 : decode cX5_readNested 43 = .ok (.bipush 33, 2) := by decide +kernel
theorem dX5_readNested_45 : decode cX5_readNested 45 = .ok (.invokevirtual 39, 3) := by decide +kernel
theorem dX5_readNested_48 : decode cX5_readNested 48 = .ok (.ifCond .eq 12, 3) := by decide +kernel
theorem dX5_readNested_51 : decode cX5_readNested 51 = .ok (.aload_n 0, 1) := by decide +kernel
theorem dX5_readNested_52 : decode cX5_readNested 52 = .ok (.iload_n 1, 1) := by decide +kernel
theorem dX5_readNested_53 : decode cX5_readNested 53 = .ok (.iconst 0, 1) := by decide +kernel
theorem dX5_readNested_54 : decode cX5_readNested 54 = .ok (.invokevirtual 66, 3) := by decide +kernel
theorem dX5_readNested_57 : decode cX5_readNested 57 = .ok (.ifCond .ne 5, 3) := by decide +kernel
theorem dX5_readNested_60 : decode cX5_readNested 60 = .ok (.iconst 0, 1) := by decide +kernel
theorem dX5_readNested_61 : decode cX5_readNested 61 = .ok (.ireturn, 1) := by decide +kernel
theorem dX5_readNested_62 : decode cX5_readNested 62 = .ok (.aload_n 0, 1) := by decide +kernel
theorem dX5_readNested_63 : decode cX5_readNested 63 = .ok (.bipush (-16), 2) := by decide +kernel
theorem dX5_readNested_65 : decode cX5_readNested 65 = .ok (.invokevirtual 55, 3) := by decide +kernel
theorem dX5_readNested_68 : decode cX5_readNested 68 = .ok (.iconst 1, 1) := by decide +kernel
theorem dX5_readNested_69 : decode cX5_readNested 69 = .ok (.ireturn, 1) := by decide +kernel
theorem dX5_readSum_0 : decode cX5_readSum 0 = .ok (.aload_n 0, 1) := by decide +kernel
theorem dX5_readSum_1 : decode cX5_readSum 1 = .ok (.iload_n 1, 1) := by decide +kernel
theorem dX5_readSum_2 : decode cX5_readSum 2 = .ok (.invokevirtual 75, 3) := by decide +kernel
theorem dX5_readSum_5 : decode cX5_readSum 5 = .ok (.ifCond .ne 5, 3) := by decide +kernel
theorem dX5_readSum_8 : decode cX5_readSum 8 = .ok (.iconst 0, 1) := by decide +kernel
theorem dX5_readSum_9 : decode cX5_readSum 9 = .ok (.ireturn, 1) := by decide +kernel
theorem dX5_readSum_10 : decode cX5_readSum 10 = .ok (.iconst 0, 1) := by decide +kernel
theorem dX5_readSum_11 : decode cX5_readSum 11 = .ok (.istore_n 2, 1) := by decide +kernel
theorem dX5_readSum_12 : decode cX5_readSum 12 = .ok (.iload_n 2, 1) := by decide +kernel
theorem dX5_readSum_13 : decode cX5_readSum 13 = .ok (.sipush 240, 3) := by decide +kernel
theorem dX5_readSum_16 : decode cX5_readSum 16 = .ok (.if_icmp .ge 57, 3) := by decide +kernel
theorem dX5_readSum_19 : decode cX5_readSum 19 = .ok (.aload_n 0, 1) := by decide +kernel
theorem dX5_readSum_20 : decode cX5_readSum 20 = .ok (.getfield 19, 3) := by decide +kernel
theorem dX5_readSum_23 : decode cX5_readSum 23 = .ok (.ldc 78, 2) := by decide +kernel
theorem dX5_readSum_25 : decode cX5_readSum 25 = .ok (.invokevirtual 45, 3) := by decide +kernel
theorem dX5_readSum_28 : decode cX5_readSum 28 = .ok (.istore_n 3, 1) := by decide +kernel
theorem dX5_readSum_29 : decode cX5_readSum 29 = .ok (.iload_n 3, 1) := by decide +kernel
theorem dX5_readSum_30 : decode cX5_readSum 30 = .ok (.iconst (-1), 1) := by decide +kernel
theorem dX5_readSum_31 : decode cX5_readSum 31 = .ok (.if_icmp .ne 5, 3) := by decide +kernel
theorem dX5_readSum_34 : decode cX5_readSum 34 = .ok (.iconst 1, 1) := by decide +kernel
theorem dX5_readSum_35 : decode cX5_readSum 35 = .ok (.ireturn, 1) := by decide +kernel
theorem dX5_readSum_36 : decode cX5_readSum 36 = .ok (.aload_n 0, 1) := by decide +kernel
theorem dX5_readSum_37 : decode cX5_readSum 37 = .ok (.getfield 19, 3) := by decide +kernel
theorem dX5_readSum_40 : decode cX5_readSum 40 = .ok (.dup, 1) := by decide +kernel
theorem dX5_readSum_41 : decode cX5_readSum 41 = .ok (.getfield 72, 3) := by decide +kernel
theorem dX5_readSum_44 : decode cX5_readSum 44 = .ok (.iconst 1, 1) := by decide +kernel
theorem dX5_readSum_45 : decode cX5_readSum 45 = .ok (.iadd, 1) := by decide +kernel
theorem dX5_readSum_46 : decode cX5_readSum 46 = .ok (.putfield 72, 3) := by decide +kernel
theorem dX5_readSum_49 : decode cX5_readSum 49 = .ok (.aload_n 0, 1) := by decide +kernel
theorem dX5_readSum_50 : decode cX5_readSum 50 = .ok (.iload_n 1, 1) := by decide +kernel
theorem dX5_readSum_51 : decode cX5_readSum 51 = .ok (.invokevirtual 75, 3) := by decide +kernel
theorem dX5_readSum_54 : decode cX5_readSum 54 = .ok (.ifCond .ne 5, 3) := by decide +kernel
theorem dX5_readSum_57 : decode cX5_readSum 57 = .ok (.iconst 0, 1) := by decide +kernel
theorem dX5_readSum_58 : decode cX5_readSum 58 = .ok (.ireturn, 1) := by decide +kernel
theorem dX5_readSum_59 : decode cX5_readSum 59 = .ok (.aload_n 0, 1) := by decide +kernel
theorem dX5_readSum_60 : decode cX5_readSum 60 = .ok (.bipush (-7), 2) := by decide +kernel
theorem dX5_readSum_62 : decode cX5_readSum 62 = .ok (.iload_n 3, 1) := by decide +kernel
theorem dX5_readSum_63 : decode cX5_readSum 63 = .ok (.isub, 1) := by decide +kernel
theorem dX5_readSum_64 : decode cX5_readSum 64 = .ok (.invokevirtual 55, 3) := by decide +kernel
theorem dX5_readSum_67 : decode cX5_readSum 67 = .ok (.iinc 2 1, 3) := by decide +kernel
theorem dX5_readSum_70 : decode cX5_readSum 70 = .ok (.goto (-58), 3) := by decide +kernel
theorem dX5_readSum_73 : decode cX5_readSum 73 = .ok (.iconst 0, 1) := by decide +kernel
theorem dX5_readSum_74 : decode cX5_readSum 74 = .ok (.ireturn, 1) := by decide +kernel
theorem dX5_readTerm_0 : decode cX5_readTerm 0 = .ok (.aload_n 0, 1) := by decide +kernel
theorem dX5_readTerm_1 : decode cX5_readTerm 1 = .ok (.iload_n 1, 1) := by decide +kernel
theorem dX5_readTerm_2 : decode cX5_readTerm 2 = .ok (.invokevirtual 80, 3) := by decide +kernel
theorem dX5_readTerm_5 : decode cX5_readTerm 5 = .ok (.ifCond .ne 5, 3) := by decide +kernel
theorem dX5_readTerm_8 : decode cX5_readTerm 8 = .ok (.iconst 0, 1) := by decide +kernel
theorem dX5_readTerm_9 : decode cX5_readTerm 9 = .ok (.ireturn, 1) := by decide +kernel
theorem dX5_readTerm_10 : decode cX5_readTerm 10 = .ok (.iconst 0, 1) := by decide +kernel
theorem dX5_readTerm_11 : decode cX5_readTerm 11 = .ok (.istore_n 2, 1) := by decide +kernel
theorem dX5_readTerm_12 : decode cX5_readTerm 12 = .ok (.iload_n 2, 1) := by decide +kernel
theorem dX5_readTerm_13 : decode cX5_readTerm 13 = .ok (.sipush 240, 3) := by decide +kernel
theorem dX5_readTerm_16 : decode cX5_readTerm 16 = .ok (.if_icmp .ge 57, 3) := by decide +kernel
theorem dX5_readTerm_19 : decode cX5_readTerm 19 = .ok (.aload_n 0, 1) := by decide +kernel
theorem dX5_readTerm_20 : decode cX5_readTerm 20 = .ok (.getfield 19, 3) := by decide +kernel
theorem dX5_readTerm_23 : decode cX5_readTerm 23 = .ok (.ldc 83, 2) := by decide +kernel
theorem dX5_readTerm_25 : decode cX5_readTerm 25 = .ok (.invokevirtual 45, 3) := by decide +kernel
theorem dX5_readTerm_28 : decode cX5_readTerm 28 = .ok (.istore_n 3, 1) := by decide +kernel
theorem dX5_readTerm_29 : decode cX5_readTerm 29 = .ok (.iload_n 3, 1) := by decide +kernel
theorem dX5_readTerm_30 : decode cX5_readTerm 30 = .ok (.iconst (-1), 1) := by decide +kernel
theorem dX5_readTerm_31 : decode cX5_readTerm 31 = .ok (.if_icmp .ne 5, 3) := by decide +kernel
theorem dX5_readTerm_34 : decode cX5_readTerm 34 = .ok (.iconst 1, 1) := by decide +kernel
theorem dX5_readTerm_35 : decode cX5_readTerm 35 = .ok (.ireturn, 1) := by decide +kernel
theorem dX5_readTerm_36 : decode cX5_readTerm 36 = .ok (.aload_n 0, 1) := by decide +kernel
theorem dX5_readTerm_37 : decode cX5_readTerm 37 = .ok (.getfield 19, 3) := by decide +kernel
theorem dX5_readTerm_40 : decode cX5_readTerm 40 = .ok (.dup, 1) := by decide +kernel
theorem dX5_readTerm_41 : decode cX5_readTerm 41 = .ok (.getfield 72, 3) := by decide +kernel
theorem dX5_readTerm_44 : decode cX5_readTerm 44 = .ok (.iconst 1, 1) := by decide +kernel
theorem dX5_readTerm_45 : decode cX5_readTerm 45 = .ok (.iadd, 1) := by decide +kernel
theorem dX5_readTerm_46 : decode cX5_readTerm 46 = .ok (.putfield 72, 3) := by decide +kernel
theorem dX5_readTerm_49 : decode cX5_readTerm 49 = .ok (.aload_n 0, 1) := by decide +kernel
theorem dX5_readTerm_50 : decode cX5_readTerm 50 = .ok (.iload_n 1, 1) := by decide +kernel
theorem dX5_readTerm_51 : decode cX5_readTerm 51 = .ok (.invokevirtual 80, 3) := by decide +kernel
theorem dX5_readTerm_54 : decode cX5_readTerm 54 = .ok (.ifCond .ne 5, 3) := by decide +kernel
theorem dX5_readTerm_57 : decode cX5_readTerm 57 = .ok (.iconst 0, 1) := by decide +kernel
theorem dX5_readTerm_58 : decode cX5_readTerm 58 = .ok (.ireturn, 1) := by decide +kernel
theorem dX5_readTerm_59 : decode cX5_readTerm 59 = .ok (.aload_n 0, 1) := by decide +kernel
theorem dX5_readTerm_60 : decode cX5_readTerm 60 = .ok (.bipush (-9), 2) := by decide +kernel
theorem dX5_readTerm_62 : decode cX5_readTerm 62 = .ok (.iload_n 3, 1) := by decide +kernel
theorem dX5_readTerm_63 : decode cX5_readTerm 63 = .ok (.isub, 1) := by decide +kernel
theorem dX5_readTerm_64 : decode cX5_readTerm 64 = .ok (.invokevirtual 55, 3) := by decide +kernel
theorem dX5_readTerm_67 : decode cX5_readTerm 67 = .ok (.iinc 2 1, 3) := by decide +kernel
theorem dX5_readTerm_70 : decode cX5_readTerm 70 = .ok (.goto (-58), 3) := by decide +kernel
theorem dX5_readTerm_73 : decode cX5_readTerm 73 = .ok (.iconst 0, 1) := by decide +kernel
theorem dX5_readTerm_74 : decode cX5_readTerm 74 = .ok (.ireturn, 1) := by decide +kernel
theorem dX5_readAtom_0 : decode cX5_readAtom 0 = .ok (.aload_n 0, 1) := by decide +kernel
theorem dX5_readAtom_1 : decode cX5_readAtom 1 = .ok (.getfield 19, 3) := by decide +kernel
theorem dX5_readAtom_4 : decode cX5_readAtom 4 = .ok (.ldc 85, 2) := by decide +kernel
theorem dX5_readAtom_6 : decode cX5_readAtom 6 = .ok (.invokevirtual 45, 3) := by decide +kernel
theorem dX5_readAtom_9 : decode cX5_readAtom 9 = .ok (.istore_n 2, 1) := by decide +kernel
theorem dX5_readAtom_10 : decode cX5_readAtom 10 = .ok (.iload_n 2, 1) := by decide +kernel
theorem dX5_readAtom_11 : decode cX5_readAtom 11 = .ok (.iconst (-1), 1) := by decide +kernel
theorem dX5_readAtom_12 : decode cX5_readAtom 12 = .ok (.if_icmp .eq 26, 3) := by decide +kernel
theorem dX5_readAtom_15 : decode cX5_readAtom 15 = .ok (.aload_n 0, 1) := by decide +kernel
theorem dX5_readAtom_16 : decode cX5_readAtom 16 = .ok (.getfield 19, 3) := by decide +kernel
theorem dX5_readAtom_19 : decode cX5_readAtom 19 = .ok (.dup, 1) := by decide +kernel
theorem dX5_readAtom_20 : decode cX5_readAtom 20 = .ok (.getfield 72, 3) := by decide +kernel
theorem dX5_readAtom_23 : decode cX5_readAtom 23 = .ok (.iconst 1, 1) := by decide +kernel
theorem dX5_readAtom_24 : decode cX5_readAtom 24 = .ok (.iadd, 1) := by decide +kernel
theorem dX5_readAtom_25 : decode cX5_readAtom 25 = .ok (.putfield 72, 3) := by decide +kernel
theorem dX5_readAtom_28 : decode cX5_readAtom 28 = .ok (.aload_n 0, 1) := by decide +kernel
theorem dX5_readAtom_29 : decode cX5_readAtom 29 = .ok (.bipush (-6), 2) := by decide +kernel
theorem dX5_readAtom_31 : decode cX5_readAtom 31 = .ok (.iload_n 2, 1) := by decide +kernel
theorem dX5_readAtom_32 : decode cX5_readAtom 32 = .ok (.iadd, 1) := by decide +kernel
theorem dX5_readAtom_33 : decode cX5_readAtom 33 = .ok (.invokevirtual 55, 3) := by decide +kernel
theorem dX5_readAtom_36 : decode cX5_readAtom 36 = .ok (.iconst 1, 1) := by decide +kernel
theorem dX5_readAtom_37 : decode cX5_readAtom 37 = .ok (.ireturn, 1) := by decide +kernel
theorem dX5_readAtom_38 : decode cX5_readAtom 38 = .ok (.iload_n 1, 1) := by decide +kernel
theorem dX5_readAtom_39 : decode cX5_readAtom 39 = .ok (.bipush 6, 2) := by decide +kernel
theorem dX5_readAtom_41 : decode cX5_readAtom 41 = .ok (.if_icmp .ge 43, 3) := by decide +kernel
theorem dX5_readAtom_44 : decode cX5_readAtom 44 = .ok (.aload_n 0, 1) := by decide +kernel
theorem dX5_readAtom_45 : decode cX5_readAtom 45 = .ok (.getfield 19, 3) := by decide +kernel
theorem dX5_readAtom_48 : decode cX5_readAtom 48 = .ok (.bipush 91, 2) := by decide +kernel
theorem dX5_readAtom_50 : decode cX5_readAtom 50 = .ok (.invokevirtual 39, 3) := by decide +kernel
theorem dX5_readAtom_53 : decode cX5_readAtom 53 = .ok (.ifCond .eq 31, 3) := by decide +kernel
theorem dX5_readAtom_56 : decode cX5_readAtom 56 = .ok (.aload_n 0, 1) := by decide +kernel
theorem dX5_readAtom_57 : decode cX5_readAtom 57 = .ok (.iload_n 1, 1) := by decide +kernel
theorem dX5_readAtom_58 : decode cX5_readAtom 58 = .ok (.iconst 1, 1) := by decide +kernel
theorem dX5_readAtom_59 : decode cX5_readAtom 59 = .ok (.iadd, 1) := by decide +kernel
theorem dX5_readAtom_60 : decode cX5_readAtom 60 = .ok (.invokevirtual 49, 3) := by decide +kernel
theorem dX5_readAtom_63 : decode cX5_readAtom 63 = .ok (.ifCond .eq 19, 3) := by decide +kernel
theorem dX5_readAtom_66 : decode cX5_readAtom 66 = .ok (.aload_n 0, 1) := by decide +kernel
theorem dX5_readAtom_67 : decode cX5_readAtom 67 = .ok (.getfield 19, 3) := by decide +kernel
theorem dX5_readAtom_70 : decode cX5_readAtom 70 = .ok (.bipush 93, 2) := by decide +kernel
theorem dX5_readAtom_72 : decode cX5_readAtom 72 = .ok (.invokevirtual 39, 3) := by decide +kernel
theorem dX5_readAtom_75 : decode cX5_readAtom 75 = .ok (.ifCond .eq 7, 3) := by decide +kernel
theorem dX5_readAtom_78 : decode cX5_readAtom 78 = .ok (.iconst 1, 1) := by decide +kernel
theorem dX5_readAtom_79 : decode cX5_readAtom 79 = .ok (.goto 4, 3) := by decide +kernel
theorem dX5_readAtom_82 : decode cX5_readAtom 82 = .ok (.iconst 0, 1) := by decide +kernel
theorem dX5_readAtom_83 : decode cX5_readAtom 83 = .ok (.ireturn, 1) := by decide +kernel
theorem dX5_readAtom_84 : decode cX5_readAtom 84 = .ok (.aload_n 0, 1) := by decide +kernel
theorem dX5_readAtom_85 : decode cX5_readAtom 85 = .ok (.getfield 19, 3) := by decide +kernel
theorem dX5_readAtom_88 : decode cX5_readAtom 88 = .ok (.iconst 4, 1) := by decide +kernel
theorem dX5_readAtom_89 : decode cX5_readAtom 89 = .ok (.iconst 0, 1) := by decide +kernel
theorem dX5_readAtom_90 : decode cX5_readAtom 90 = .ok (.sipush 9999, 3) := by decide +kernel
theorem dX5_readAtom_93 : decode cX5_readAtom 93 = .ok (.invokevirtual 87, 3) := by decide +kernel
theorem dX5_readAtom_96 : decode cX5_readAtom 96 = .ok (.ifCond .ne 5, 3) := by decide +kernel
theorem dX5_readAtom_99 : decode cX5_readAtom 99 = .ok (.iconst 0, 1) := by decide +kernel
theorem dX5_readAtom_100 : decode cX5_readAtom 100 = .ok (.ireturn, 1) := by decide +kernel
theorem dX5_readAtom_101 : decode cX5_readAtom 101 = .ok (.aload_n 0, 1) := by decide +kernel
theorem dX5_readAtom_102 : decode cX5_readAtom 102 = .ok (.aload_n 0, 1) := by decide +kernel
theorem dX5_readAtom_103 : decode cX5_readAtom 103 = .ok (.getfield 19, 3) := by decide +kernel
theorem dX5_readAtom_106 : decode cX5_readAtom 106 = .ok (.getfield 91, 3) := by decide +kernel
theorem dX5_readAtom_109 : decode cX5_readAtom 109 = .ok (.invokevirtual 55, 3) := by decide +kernel
theorem dX5_readAtom_112 : decode cX5_readAtom 112 = .ok (.iconst 1, 1) := by decide +kernel
theorem dX5_readAtom_113 : decode cX5_readAtom 113 = .ok (.ireturn, 1) := by decide +kernel
theorem dX5_write_0 : decode cX5_write 0 = .ok (.aload_n 0, 1) := by decide +kernel
theorem dX5_write_1 : decode cX5_write 1 = .ok (.getfield 15, 3) := by decide +kernel
theorem dX5_write_4 : decode cX5_write 4 = .ok (.aload_n 0, 1) := by decide +kernel
theorem dX5_write_5 : decode cX5_write 5 = .ok (.getfield 9, 3) := by decide +kernel
theorem dX5_write_8 : decode cX5_write 8 = .ok (.arraylength, 1) := by decide +kernel
theorem dX5_write_9 : decode cX5_write 9 = .ok (.if_icmp .ge 23, 3) := by decide +kernel
theorem dX5_write_12 : decode cX5_write 12 = .ok (.aload_n 0, 1) := by decide +kernel
theorem dX5_write_13 : decode cX5_write 13 = .ok (.getfield 9, 3) := by decide +kernel
theorem dX5_write_16 : decode cX5_write 16 = .ok (.aload_n 0, 1) := by decide +kernel
theorem dX5_write_17 : decode cX5_write 17 = .ok (.getfield 15, 3) := by decide +kernel
theorem dX5_write_20 : decode cX5_write 20 = .ok (.iload_n 1, 1) := by decide +kernel
theorem dX5_write_21 : decode cX5_write 21 = .ok (.iastore, 1) := by decide +kernel
theorem dX5_write_22 : decode cX5_write 22 = .ok (.aload_n 0, 1) := by decide +kernel
theorem dX5_write_23 : decode cX5_write 23 = .ok (.dup, 1) := by decide +kernel
theorem dX5_write_24 : decode cX5_write 24 = .ok (.getfield 15, 3) := by decide +kernel
theorem dX5_write_27 : decode cX5_write 27 = .ok (.iconst 1, 1) := by decide +kernel
theorem dX5_write_28 : decode cX5_write 28 = .ok (.iadd, 1) := by decide +kernel
theorem dX5_write_29 : decode cX5_write 29 = .ok (.putfield 15, 3) := by decide +kernel
theorem dX5_write_32 : decode cX5_write 32 = .ok (.return_, 1) := by decide +kernel
theorem dX6_init_0 : decode cX6_init 0 = .ok (.aload_n 0, 1) := by decide +kernel
theorem dX6_init_1 : decode cX6_init 1 = .ok (.invokespecial 3, 3) := by decide +kernel
theorem dX6_init_4 : decode cX6_init 4 = .ok (.aload_n 0, 1) := by decide +kernel
theorem dX6_init_5 : decode cX6_init 5 = .ok (.sipush 1240, 3) := by decide +kernel
theorem dX6_init_8 : decode cX6_init 8 = .ok (.newarray .int, 2) := by decide +kernel
theorem dX6_init_10 : decode cX6_init 10 = .ok (.putfield 9, 3) := by decide +kernel
theorem dX6_init_13 : decode cX6_init 13 = .ok (.aload_n 0, 1) := by decide +kernel
theorem dX6_init_14 : decode cX6_init 14 = .ok (.sipush 384, 3) := by decide +kernel
theorem dX6_init_17 : decode cX6_init 17 = .ok (.newarray .int, 2) := by decide +kernel
theorem dX6_init_19 : decode cX6_init 19 = .ok (.putfield 15, 3) := by decide +kernel
theorem dX6_init_22 : decode cX6_init 22 = .ok (.aload_n 0, 1) := by decide +kernel
theorem dX6_init_23 : decode cX6_init 23 = .ok (.sipush 384, 3) := by decide +kernel
theorem dX6_init_26 : decode cX6_init 26 = .ok (.newarray .int, 2) := by decide +kernel
theorem dX6_init_28 : decode cX6_init 28 = .ok (.putfield 18, 3) := by decide +kernel
theorem dX6_init_31 : decode cX6_init 31 = .ok (.aload_n 0, 1) := by decide +kernel
theorem dX6_init_32 : decode cX6_init 32 = .ok (.new 21, 3) := by decide +kernel
theorem dX6_init_35 : decode cX6_init 35 = .ok (.dup, 1) := by decide +kernel
theorem dX6_init_36 : decode cX6_init 36 = .ok (.invokespecial 23, 3) := by decide +kernel
theorem dX6_init_39 : decode cX6_init 39 = .ok (.putfield 24, 3) := by decide +kernel
theorem dX6_init_42 : decode cX6_init 42 = .ok (.aload_n 0, 1) := by decide +kernel
theorem dX6_init_43 : decode cX6_init 43 = .ok (.iconst 0, 1) := by decide +kernel
theorem dX6_init_44 : decode cX6_init 44 = .ok (.putfield 28, 3) := by decide +kernel
theorem dX6_init_47 : decode cX6_init 47 = .ok (.aload_n 0, 1) := by decide +kernel
theorem dX6_init_48 : decode cX6_init 48 = .ok (.iconst 0, 1) := by decide +kernel
theorem dX6_init_49 : decode cX6_init 49 = .ok (.putfield 32, 3) := by decide +kernel
theorem dX6_init_52 : decode cX6_init 52 = .ok (.aload_n 0, 1) := by decide +kernel
theorem dX6_init_53 : decode cX6_init 53 = .ok (.iconst 0, 1) := by decide +kernel
theorem dX6_init_54 : decode cX6_init 54 = .ok (.putfield 36, 3) := by decide +kernel
theorem dX6_init_57 : decode cX6_init 57 = .ok (.return_, 1) := by decide +kernel
theorem dX6_forget_0 : decode cX6_forget 0 = .ok (.aload_n 0, 1) := by decide +kernel
theorem dX6_forget_1 : decode cX6_forget 1 = .ok (.iconst 0, 1) := by decide +kernel
theorem dX6_forget_2 : decode cX6_forget 2 = .ok (.putfield 36, 3) := by decide +kernel
theorem dX6_forget_5 : decode cX6_forget 5 = .ok (.aload_n 0, 1) := by decide +kernel
theorem dX6_forget_6 : decode cX6_forget 6 = .ok (.iconst 0, 1) := by decide +kernel
theorem dX6_forget_7 : decode cX6_forget 7 = .ok (.putfield 28, 3) := by decide +kernel
theorem dX6_forget_10 : decode cX6_forget 10 = .ok (.return_, 1) := by decide +kernel
theorem dX6_keepAct_0 : decode cX6_keepAct 0 = .ok (.aload_n 1, 1) := by decide +kernel
theorem dX6_keepAct_1 : decode cX6_keepAct 1 = .ok (.getfield 39, 3) := by decide +kernel
theorem dX6_keepAct_4 : decode cX6_keepAct 4 = .ok (.iconst 0, 1) := by decide +kernel
theorem dX6_keepAct_5 : decode cX6_keepAct 5 = .ok (.aload_n 0, 1) := by decide +kernel
theorem dX6_keepAct_6 : decode cX6_keepAct 6 = .ok (.getfield 9, 3) := by decide +kernel
theorem dX6_keepAct_9 : decode cX6_keepAct 9 = .ok (.aload_n 0, 1) := by decide +kernel
theorem dX6_keepAct_10 : decode cX6_keepAct 10 = .ok (.getfield 32, 3) := by decide +kernel
theorem dX6_keepAct_13 : decode cX6_keepAct 13 = .ok (.bipush 31, 2) := by decide +kernel
theorem dX6_keepAct_15 : decode cX6_keepAct 15 = .ok (.imul, 1) := by decide +kernel
theorem dX6_keepAct_16 : decode cX6_keepAct 16 = .ok (.bipush 31, 2) := by decide +kernel
theorem dX6_keepAct_18 : decode cX6_keepAct 18 = .ok (.invokestatic 42, 3) := by decide +kernel
theorem dX6_keepAct_21 : decode cX6_keepAct 21 = .ok (.aload_n 0, 1) := by decide +kernel
theorem dX6_keepAct_22 : decode cX6_keepAct 22 = .ok (.aload_n 0, 1) := by decide +kernel
theorem dX6_keepAct_23 : decode cX6_keepAct 23 = .ok (.getfield 32, 3) := by decide +kernel
theorem dX6_keepAct_26 : decode cX6_keepAct 26 = .ok (.iconst 1, 1) := by decide +kernel
theorem dX6_keepAct_27 : decode cX6_keepAct 27 = .ok (.iadd, 1) := by decide +kernel
theorem dX6_keepAct_28 : decode cX6_keepAct 28 = .ok (.bipush 40, 2) := by decide +kernel
theorem dX6_keepAct_30 : decode cX6_keepAct 30 = .ok (.if_icmp .ge 12, 3) := by decide +kernel
theorem dX6_keepAct_33 : decode cX6_keepAct 33 = .ok (.aload_n 0, 1) := by decide +kernel
theorem dX6_keepAct_34 : decode cX6_keepAct 34 = .ok (.getfield 32, 3) := by decide +kernel
theorem dX6_keepAct_37 : decode cX6_keepAct 37 = .ok (.iconst 1, 1) := by decide +kernel
theorem dX6_keepAct_38 : decode cX6_keepAct 38 = .ok (.iadd, 1) := by decide +kernel
theorem dX6_keepAct_39 : decode cX6_keepAct 39 = .ok (.goto 4, 3) := by decide +kernel
theorem dX6_keepAct_42 : decode cX6_keepAct 42 = .ok (.iconst 0, 1) := by decide +kernel
theorem dX6_keepAct_43 : decode cX6_keepAct 43 = .ok (.putfield 32, 3) := by decide +kernel
theorem dX6_keepAct_46 : decode cX6_keepAct 46 = .ok (.aload_n 0, 1) := by decide +kernel
theorem dX6_keepAct_47 : decode cX6_keepAct 47 = .ok (.aload_n 0, 1) := by decide +kernel
theorem dX6_keepAct_48 : decode cX6_keepAct 48 = .ok (.getfield 36, 3) := by decide +kernel
theorem dX6_keepAct_51 : decode cX6_keepAct 51 = .ok (.iconst 1, 1) := by decide +kernel
theorem dX6_keepAct_52 : decode cX6_keepAct 52 = .ok (.iadd, 1) := by decide +kernel
theorem dX6_keepAct_53 : decode cX6_keepAct 53 = .ok (.bipush 40, 2) := by decide +kernel
theorem dX6_keepAct_55 : decode cX6_keepAct 55 = .ok (.invokestatic 48, 3) := by decide +kernel
theorem dX6_keepAct_58 : decode cX6_keepAct 58 = .ok (.putfield 36, 3) := by decide +kernel
theorem dX6_keepAct_61 : decode cX6_keepAct 61 = .ok (.return_, 1) := by decide +kernel
theorem dX6_undoAct_0 : decode cX6_undoAct 0 = .ok (.aload_n 0, 1) := by decide +kernel
theorem dX6_undoAct_1 : decode cX6_undoAct 1 = .ok (.getfield 36, 3) := by decide +kernel
theorem dX6_undoAct_4 : decode cX6_undoAct 4 = .ok (.ifCond .ne 5, 3) := by decide +kernel
theorem dX6_undoAct_7 : decode cX6_undoAct 7 = .ok (.iconst 0, 1) := by decide +kernel
theorem dX6_undoAct_8 : decode cX6_undoAct 8 = .ok (.ireturn, 1) := by decide +kernel
theorem dX6_undoAct_9 : decode cX6_undoAct 9 = .ok (.aload_n 0, 1) := by decide +kernel
theorem dX6_undoAct_10 : decode cX6_undoAct 10 = .ok (.aload_n 0, 1) := by decide +kernel
theorem dX6_undoAct_11 : decode cX6_undoAct 11 = .ok (.getfield 32, 3) := by decide +kernel
theorem dX6_undoAct_14 : decode cX6_undoAct 14 = .ok (.ifCond .le 12, 3) := by decide +kernel
theorem dX6_undoAct_17 : decode cX6_undoAct 17 = .ok (.aload_n 0, 1) := by decide +kernel
theorem dX6_undoAct_18 : decode cX6_undoAct 18 = .ok (.getfield 32, 3) := by decide +kernel
theorem dX6_undoAct_21 : decode cX6_undoAct 21 = .ok (.iconst 1, 1) := by decide +kernel
theorem dX6_undoAct_22 : decode cX6_undoAct 22 = .ok (.isub, 1) := by decide +kernel
theorem dX6_undoAct_23 : decode cX6_undoAct 23 = .ok (.goto 5, 3) := by decide +kernel
theorem dX6_undoAct_26 : decode cX6_undoAct 26 = .ok (.bipush 39, 2) := by decide +kernel
theorem dX6_undoAct_28 : decode cX6_undoAct 28 = .ok (.putfield 32, 3) := by decide +kernel
theorem dX6_undoAct_31 : decode cX6_undoAct 31 = .ok (.aload_n 0, 1) := by decide +kernel
theorem dX6_undoAct_32 : decode cX6_undoAct 32 = .ok (.dup, 1) := by decide +kernel
theorem dX6_undoAct_33 : decode cX6_undoAct 33 = .ok (.getfield 36, 3) := by decide +kernel
theorem dX6_undoAct_36 : decode cX6_undoAct 36 = .ok (.iconst 1, 1) := by decide +kernel
theorem dX6_undoAct_37 : decode cX6_undoAct 37 = .ok (.isub, 1) := by decide +kernel
theorem dX6_undoAct_38 : decode cX6_undoAct 38 = .ok (.putfield 36, 3) := by decide +kernel
theorem dX6_undoAct_41 : decode cX6_undoAct 41 = .ok (.aload_n 0, 1) := by decide +kernel
theorem dX6_undoAct_42 : decode cX6_undoAct 42 = .ok (.getfield 9, 3) := by decide +kernel
theorem dX6_undoAct_45 : decode cX6_undoAct 45 = .ok (.aload_n 0, 1) := by decide +kernel
theorem dX6_undoAct_46 : decode cX6_undoAct 46 = .ok (.getfield 32, 3) := by decide +kernel
theorem dX6_undoAct_49 : decode cX6_undoAct 49 = .ok (.bipush 31, 2) := by decide +kernel
theorem dX6_undoAct_51 : decode cX6_undoAct 51 = .ok (.imul, 1) := by decide +kernel
theorem dX6_undoAct_52 : decode cX6_undoAct 52 = .ok (.aload_n 1, 1) := by decide +kernel
theorem dX6_undoAct_53 : decode cX6_undoAct 53 = .ok (.getfield 39, 3) := by decide +kernel
theorem dX6_undoAct_56 : decode cX6_undoAct 56 = .ok (.iconst 0, 1) := by decide +kernel
theorem dX6_undoAct_57 : decode cX6_undoAct 57 = .ok (.bipush 31, 2) := by decide +kernel
theorem dX6_undoAct_59 : decode cX6_undoAct 59 = .ok (.invokestatic 42, 3) := by decide +kernel
theorem dX6_undoAct_62 : decode cX6_undoAct 62 = .ok (.iconst 1, 1) := by decide +kernel
theorem dX6_undoAct_63 : decode cX6_undoAct 63 = .ok (.ireturn, 1) := by decide +kernel
theorem dX6_logLength_0 : decode cX6_logLength 0 = .ok (.iload_n 0, 1) := by decide +kernel
theorem dX6_logLength_1 : decode cX6_logLength 1 = .ok (.bipush 60, 2) := by decide +kernel
theorem dX6_logLength_3 : decode cX6_logLength 3 = .ok (.invokestatic 48, 3) := by decide +kernel
theorem dX6_logLength_6 : decode cX6_logLength 6 = .ok (.ireturn, 1) := by decide +kernel
theorem dX6_logRow_0 : decode cX6_logRow 0 = .ok (.iload_n 0, 1) := by decide +kernel
theorem dX6_logRow_1 : decode cX6_logRow 1 = .ok (.bipush 127, 2) := by decide +kernel
theorem dX6_logRow_3 : decode cX6_logRow 3 = .ok (.iand, 1) := by decide +kernel
theorem dX6_logRow_4 : decode cX6_logRow 4 = .ok (.iconst 3, 1) := by decide +kernel
theorem dX6_logRow_5 : decode cX6_logRow 5 = .ok (.imul, 1) := by decide +kernel
theorem dX6_logRow_6 : decode cX6_logRow 6 = .ok (.ireturn, 1) := by decide +kernel
theorem dX6_writeLog_0 : decode cX6_writeLog 0 = .ok (.aload_n 1, 1) := by decide +kernel
theorem dX6_writeLog_1 : decode cX6_writeLog 1 = .ok (.getfield 39, 3) := by decide +kernel
theorem dX6_writeLog_4 : decode cX6_writeLog 4 = .ok (.iconst 0, 1) := by decide +kernel
theorem dX6_writeLog_5 : decode cX6_writeLog 5 = .ok (.iaload, 1) := by decide +kernel
theorem dX6_writeLog_6 : decode cX6_writeLog 6 = .ok (.iconst 1, 1) := by decide +kernel
theorem dX6_writeLog_7 : decode cX6_writeLog 7 = .ok (.isub, 1) := by decide +kernel
theorem dX6_writeLog_8 : decode cX6_writeLog 8 = .ok (.invokestatic 54, 3) := by decide +kernel
theorem dX6_writeLog_11 : decode cX6_writeLog 11 = .ok (.istore_n 3, 1) := by decide +kernel
theorem dX6_writeLog_12 : decode cX6_writeLog 12 = .ok (.aload_n 0, 1) := by decide +kernel
theorem dX6_writeLog_13 : decode cX6_writeLog 13 = .ok (.getfield 15, 3) := by decide +kernel
theorem dX6_writeLog_16 : decode cX6_writeLog 16 = .ok (.iload_n 3, 1) := by decide +kernel
theorem dX6_writeLog_17 : decode cX6_writeLog 17 = .ok (.aload_n 2, 1) := by decide +kernel
theorem dX6_writeLog_18 : decode cX6_writeLog 18 = .ok (.getfield 58, 3) := by decide +kernel
theorem dX6_writeLog_21 : decode cX6_writeLog 21 = .ok (.iastore, 1) := by decide +kernel
theorem dX6_writeLog_22 : decode cX6_writeLog 22 = .ok (.aload_n 0, 1) := by decide +kernel
theorem dX6_writeLog_23 : decode cX6_writeLog 23 = .ok (.getfield 15, 3) := by decide +kernel
theorem dX6_writeLog_26 : decode cX6_writeLog 26 = .ok (.iload_n 3, 1) := by decide +kernel
theorem dX6_writeLog_27 : decode cX6_writeLog 27 = .ok (.iconst 1, 1) := by decide +kernel
theorem dX6_writeLog_28 : decode cX6_writeLog 28 = .ok (.iadd, 1) := by decide +kernel
theorem dX6_writeLog_29 : decode cX6_writeLog 29 = .ok (.aload_n 2, 1) := by decide +kernel
theorem dX6_writeLog_30 : decode cX6_writeLog 30 = .ok (.getfield 63, 3) := by decide +kernel
theorem dX6_writeLog_33 : decode cX6_writeLog 33 = .ok (.iastore, 1) := by decide +kernel
theorem dX6_writeLog_34 : decode cX6_writeLog 34 = .ok (.aload_n 0, 1) := by decide +kernel
theorem dX6_writeLog_35 : decode cX6_writeLog 35 = .ok (.getfield 15, 3) := by decide +kernel
theorem dX6_writeLog_38 : decode cX6_writeLog 38 = .ok (.iload_n 3, 1) := by decide +kernel
theorem dX6_writeLog_39 : decode cX6_writeLog 39 = .ok (.iconst 2, 1) := by decide +kernel
theorem dX6_writeLog_40 : decode cX6_writeLog 40 = .ok (.iadd, 1) := by decide +kernel
theorem dX6_writeLog_41 : decode cX6_writeLog 41 = .ok (.aload_n 1, 1) := by decide +kernel
theorem dX6_writeLog_42 : decode cX6_writeLog 42 = .ok (.invokevirtual 66, 3) := by decide +kernel
theorem dX6_writeLog_45 : decode cX6_writeLog 45 = .ok (.iastore, 1) := by decide +kernel
theorem dX6_writeLog_46 : decode cX6_writeLog 46 = .ok (.return_, 1) := by decide +kernel
theorem dX6_ofLog_0 : decode cX6_ofLog 0 = .ok (.iload_n 1, 1) := by decide +kernel
theorem dX6_ofLog_1 : decode cX6_ofLog 1 = .ok (.invokestatic 54, 3) := by decide +kernel
theorem dX6_ofLog_4 : decode cX6_ofLog 4 = .ok (.iload_n 2, 1) := by decide +kernel
theorem dX6_ofLog_5 : decode cX6_ofLog 5 = .ok (.iadd, 1) := by decide +kernel
theorem dX6_ofLog_6 : decode cX6_ofLog 6 = .ok (.istore_n 3, 1) := by decide +kernel
theorem dX6_ofLog_7 : decode cX6_ofLog 7 = .ok (.iload_n 3, 1) := by decide +kernel
theorem dX6_ofLog_8 : decode cX6_ofLog 8 = .ok (.ifCond .lt 21, 3) := by decide +kernel
theorem dX6_ofLog_11 : decode cX6_ofLog 11 = .ok (.iload_n 3, 1) := by decide +kernel
theorem dX6_ofLog_12 : decode cX6_ofLog 12 = .ok (.aload_n 0, 1) := by decide +kernel
theorem dX6_ofLog_13 : decode cX6_ofLog 13 = .ok (.getfield 15, 3) := by decide +kernel
theorem dX6_ofLog_16 : decode cX6_ofLog 16 = .ok (.arraylength, 1) := by decide +kernel
theorem dX6_ofLog_17 : decode cX6_ofLog 17 = .ok (.if_icmp .ge 12, 3) := by decide +kernel
theorem dX6_ofLog_20 : decode cX6_ofLog 20 = .ok (.aload_n 0, 1) := by decide +kernel
theorem dX6_ofLog_21 : decode cX6_ofLog 21 = .ok (.getfield 15, 3) := by decide +kernel
theorem dX6_ofLog_24 : decode cX6_ofLog 24 = .ok (.iload_n 3, 1) := by decide +kernel
theorem dX6_ofLog_25 : decode cX6_ofLog 25 = .ok (.iaload, 1) := by decide +kernel
theorem dX6_ofLog_26 : decode cX6_ofLog 26 = .ok (.goto 5, 3) := by decide +kernel
theorem dX6_ofLog_29 : decode cX6_ofLog 29 = .ok (.ldc 70, 2) := by decide +kernel
theorem dX6_ofLog_31 : decode cX6_ofLog 31 = .ok (.ireturn, 1) := by decide +kernel
theorem dX6_takePicture_0 : decode cX6_takePicture 0 = .ok (.aload_n 0, 1) := by decide +kernel
theorem dX6_takePicture_1 : decode cX6_takePicture 1 = .ok (.getfield 24, 3) := by decide +kernel
theorem dX6_takePicture_4 : decode cX6_takePicture 4 = .ok (.aload_n 1, 1) := by decide +kernel
theorem dX6_takePicture_5 : decode cX6_takePicture 5 = .ok (.invokevirtual 71, 3) := by decide +kernel
theorem dX6_takePicture_8 : decode cX6_takePicture 8 = .ok (.aload_n 0, 1) := by decide +kernel
theorem dX6_takePicture_9 : decode cX6_takePicture 9 = .ok (.getfield 15, 3) := by decide +kernel
theorem dX6_takePicture_12 : decode cX6_takePicture 12 = .ok (.iconst 0, 1) := by decide +kernel
theorem dX6_takePicture_13 : decode cX6_takePicture 13 = .ok (.aload_n 0, 1) := by decide +kernel
theorem dX6_takePicture_14 : decode cX6_takePicture 14 = .ok (.getfield 18, 3) := by decide +kernel
theorem dX6_takePicture_17 : decode cX6_takePicture 17 = .ok (.iconst 0, 1) := by decide +kernel
theorem dX6_takePicture_18 : decode cX6_takePicture 18 = .ok (.aload_n 0, 1) := by decide +kernel
theorem dX6_takePicture_19 : decode cX6_takePicture 19 = .ok (.getfield 15, 3) := by decide +kernel
theorem dX6_takePicture_22 : decode cX6_takePicture 22 = .ok (.arraylength, 1) := by decide +kernel
theorem dX6_takePicture_23 : decode cX6_takePicture 23 = .ok (.invokestatic 42, 3) := by decide +kernel
theorem dX6_takePicture_26 : decode cX6_takePicture 26 = .ok (.aload_n 0, 1) := by decide +kernel
theorem dX6_takePicture_27 : decode cX6_takePicture 27 = .ok (.iconst 1, 1) := by decide +kernel
theorem dX6_takePicture_28 : decode cX6_takePicture 28 = .ok (.putfield 28, 3) := by decide +kernel
theorem dX6_takePicture_31 : decode cX6_takePicture 31 = .ok (.return_, 1) := by decide +kernel
theorem dX6_showPicture_0 : decode cX6_showPicture 0 = .ok (.aload_n 0, 1) := by decide +kernel
theorem dX6_showPicture_1 : decode cX6_showPicture 1 = .ok (.getfield 28, 3) := by decide +kernel
theorem dX6_showPicture_4 : decode cX6_showPicture 4 = .ok (.ifCond .ne 5, 3) := by decide +kernel
theorem dX6_showPicture_7 : decode cX6_showPicture 7 = .ok (.iconst 0, 1) := by decide +kernel
theorem dX6_showPicture_8 : decode cX6_showPicture 8 = .ok (.ireturn, 1) := by decide +kernel
theorem dX6_showPicture_9 : decode cX6_showPicture 9 = .ok (.aload_n 1, 1) := by decide +kernel
theorem dX6_showPicture_10 : decode cX6_showPicture 10 = .ok (.aload_n 0, 1) := by decide +kernel
theorem dX6_showPicture_11 : decode cX6_showPicture 11 = .ok (.getfield 24, 3) := by decide +kernel
theorem dX6_showPicture_14 : decode cX6_showPicture 14 = .ok (.invokevirtual 71, 3) := by decide +kernel
theorem dX6_showPicture_17 : decode cX6_showPicture 17 = .ok (.aload_n 0, 1) := by decide +kernel
theorem dX6_showPicture_18 : decode cX6_showPicture 18 = .ok (.getfield 18, 3) := by decide +kernel
theorem dX6_showPicture_21 : decode cX6_showPicture 21 = .ok (.iconst 0, 1) := by decide +kernel
theorem dX6_showPicture_22 : decode cX6_showPicture 22 = .ok (.aload_n 0, 1) := by decide +kernel
theorem dX6_showPicture_23 : decode cX6_showPicture 23 = .ok (.getfield 15, 3) := by decide +kernel
theorem dX6_showPicture_26 : decode cX6_showPicture 26 = .ok (.iconst 0, 1) := by decide +kernel
theorem dX6_showPicture_27 : decode cX6_showPicture 27 = .ok (.aload_n 0, 1) := by decide +kernel
theorem dX6_showPicture_28 : decode cX6_showPicture 28 = .ok (.getfield 15, 3) := by decide +kernel
theorem dX6_showPicture_31 : decode cX6_showPicture 31 = .ok (.arraylength, 1) := by decide +kernel
theorem dX6_showPicture_32 : decode cX6_showPicture 32 = .ok (.invokestatic 42, 3) := by decide +kernel
theorem dX6_showPicture_35 : decode cX6_showPicture 35 = .ok (.aload_n 0, 1) := by decide +kernel
theorem dX6_showPicture_36 : decode cX6_showPicture 36 = .ok (.iconst 0, 1) := by decide +kernel
theorem dX6_showPicture_37 : decode cX6_showPicture 37 = .ok (.putfield 36, 3) := by decide +kernel
theorem dX6_showPicture_40 : decode cX6_showPicture 40 = .ok (.iconst 1, 1) := by decide +kernel
theorem dX6_showPicture_41 : decode cX6_showPicture 41 = .ok (.ireturn, 1) := by decide +kernel
theorem dX7_init_0 : decode cX7_init 0 = .ok (.aload_n 0, 1) := by decide +kernel
theorem dX7_init_1 : decode cX7_init 1 = .ok (.invokespecial 3, 3) := by decide +kernel
theorem dX7_init_4 : decode cX7_init 4 = .ok (.aload_n 0, 1) := by decide +kernel
theorem dX7_init_5 : decode cX7_init 5 = .ok (.bipush 50, 2) := by decide +kernel
theorem dX7_init_7 : decode cX7_init 7 = .ok (.newarray .int, 2) := by decide +kernel
theorem dX7_init_9 : decode cX7_init 9 = .ok (.putfield 11, 3) := by decide +kernel
theorem dX7_init_12 : decode cX7_init 12 = .ok (.aload_n 0, 1) := by decide +kernel
theorem dX7_init_13 : decode cX7_init 13 = .ok (.iconst 0, 1) := by decide +kernel
theorem dX7_init_14 : decode cX7_init 14 = .ok (.putfield 15, 3) := by decide +kernel
theorem dX7_init_17 : decode cX7_init 17 = .ok (.aload_n 0, 1) := by decide +kernel
theorem dX7_init_18 : decode cX7_init 18 = .ok (.aload_n 1, 1) := by decide +kernel
theorem dX7_init_19 : decode cX7_init 19 = .ok (.putfield 19, 3) := by decide +kernel
theorem dX7_init_22 : decode cX7_init 22 = .ok (.aload_n 0, 1) := by decide +kernel
theorem dX7_init_23 : decode cX7_init 23 = .ok (.aload_n 2, 1) := by decide +kernel
theorem dX7_init_24 : decode cX7_init 24 = .ok (.putfield 23, 3) := by decide +kernel
theorem dX7_init_27 : decode cX7_init 27 = .ok (.return_, 1) := by decide +kernel
theorem dX7_add_0 : decode cX7_add 0 = .ok (.aload_n 0, 1) := by decide +kernel
theorem dX7_add_1 : decode cX7_add 1 = .ok (.getfield 15, 3) := by decide +kernel
theorem dX7_add_4 : decode cX7_add 4 = .ok (.bipush 10, 2) := by decide +kernel
theorem dX7_add_6 : decode cX7_add 6 = .ok (.if_icmp .lt 5, 3) := by decide +kernel
theorem dX7_add_9 : decode cX7_add 9 = .ok (.iconst (-1), 1) := by decide +kernel
theorem dX7_add_10 : decode cX7_add 10 = .ok (.ireturn, 1) := by decide +kernel
theorem dX7_add_11 : decode cX7_add 11 = .ok (.aload_n 0, 1) := by decide +kernel
theorem dX7_add_12 : decode cX7_add 12 = .ok (.getfield 15, 3) := by decide +kernel
theorem dX7_add_15 : decode cX7_add 15 = .ok (.iconst 5, 1) := by decide +kernel
theorem dX7_add_16 : decode cX7_add 16 = .ok (.imul, 1) := by decide +kernel
theorem dX7_add_17 : decode cX7_add 17 = .ok (.istore 6, 2) := by decide +kernel
theorem dX7_add_19 : decode cX7_add 19 = .ok (.aload_n 0, 1) := by decide +kernel
theorem dX7_add_20 : decode cX7_add 20 = .ok (.getfield 11, 3) := by decide +kernel
theorem dX7_add_23 : decode cX7_add 23 = .ok (.iload 6, 2) := by decide +kernel
theorem dX7_add_25 : decode cX7_add 25 = .ok (.iload_n 1, 1) := by decide +kernel
theorem dX7_add_26 : decode cX7_add 26 = .ok (.iastore, 1) := by decide +kernel
theorem dX7_add_27 : decode cX7_add 27 = .ok (.aload_n 0, 1) := by decide +kernel
theorem dX7_add_28 : decode cX7_add 28 = .ok (.getfield 11, 3) := by decide +kernel
theorem dX7_add_31 : decode cX7_add 31 = .ok (.iload 6, 2) := by decide +kernel
theorem dX7_add_33 : decode cX7_add 33 = .ok (.iconst 1, 1) := by decide +kernel
theorem dX7_add_34 : decode cX7_add 34 = .ok (.iadd, 1) := by decide +kernel
theorem dX7_add_35 : decode cX7_add 35 = .ok (.iload_n 2, 1) := by decide +kernel
theorem dX7_add_36 : decode cX7_add 36 = .ok (.iastore, 1) := by decide +kernel
theorem dX7_add_37 : decode cX7_add 37 = .ok (.aload_n 0, 1) := by decide +kernel
theorem dX7_add_38 : decode cX7_add 38 = .ok (.getfield 11, 3) := by decide +kernel
theorem dX7_add_41 : decode cX7_add 41 = .ok (.iload 6, 2) := by decide +kernel
theorem dX7_add_43 : decode cX7_add 43 = .ok (.iconst 2, 1) := by decide +kernel
theorem dX7_add_44 : decode cX7_add 44 = .ok (.iadd, 1) := by decide +kernel
theorem dX7_add_45 : decode cX7_add 45 = .ok (.iload_n 3, 1) := by decide +kernel
theorem dX7_add_46 : decode cX7_add 46 = .ok (.iastore, 1) := by decide +kernel
theorem dX7_add_47 : decode cX7_add 47 = .ok (.aload_n 0, 1) := by decide +kernel
theorem dX7_add_48 : decode cX7_add 48 = .ok (.getfield 11, 3) := by decide +kernel
theorem dX7_add_51 : decode cX7_add 51 = .ok (.iload 6, 2) := by decide +kernel
theorem dX7_add_53 : decode cX7_add 53 = .ok (.iconst 3, 1) := by decide +kernel
theorem dX7_add_54 : decode cX7_add 54 = .ok (.iadd, 1) := by decide +kernel
theorem dX7_add_55 : decode cX7_add 55 = .ok (.iload 4, 2) := by decide +kernel
theorem dX7_add_57 : decode cX7_add 57 = .ok (.iastore, 1) := by decide +kernel
theorem dX7_add_58 : decode cX7_add 58 = .ok (.aload_n 0, 1) := by decide +kernel
theorem dX7_add_59 : decode cX7_add 59 = .ok (.getfield 11, 3) := by decide +kernel
theorem dX7_add_62 : decode cX7_add 62 = .ok (.iload 6, 2) := by decide +kernel
theorem dX7_add_64 : decode cX7_add 64 = .ok (.iconst 4, 1) := by decide +kernel
theorem dX7_add_65 : decode cX7_add 65 = .ok (.iadd, 1) := by decide +kernel
theorem dX7_add_66 : decode cX7_add 66 = .ok (.iload 5, 2) := by decide +kernel
theorem dX7_add_68 : decode cX7_add 68 = .ok (.ifCond .eq 7, 3) := by decide +kernel
theorem dX7_add_71 : decode cX7_add 71 = .ok (.iconst 1, 1) := by decide +kernel
theorem dX7_add_72 : decode cX7_add 72 = .ok (.goto 4, 3) := by decide +kernel
theorem dX7_add_75 : decode cX7_add 75 = .ok (.iconst 0, 1) := by decide +kernel
theorem dX7_add_76 : decode cX7_add 76 = .ok (.iastore, 1) := by decide +kernel
theorem dX7_add_77 : decode cX7_add 77 = .ok (.aload_n 0, 1) := by decide +kernel
theorem dX7_add_78 : decode cX7_add 78 = .ok (.dup, 1) := by decide +kernel
theorem dX7_add_79 : decode cX7_add 79 = .ok (.getfield 15, 3) := by decide +kernel
theorem dX7_add_82 : decode cX7_add 82 = .ok (.iconst 1, 1) := by decide +kernel
theorem dX7_add_83 : decode cX7_add 83 = .ok (.iadd, 1) := by decide +kernel
theorem dX7_add_84 : decode cX7_add 84 = .ok (.putfield 15, 3) := by decide +kernel
theorem dX7_add_87 : decode cX7_add 87 = .ok (.aload_n 0, 1) := by decide +kernel
theorem dX7_add_88 : decode cX7_add 88 = .ok (.getfield 15, 3) := by decide +kernel
theorem dX7_add_91 : decode cX7_add 91 = .ok (.ireturn, 1) := by decide +kernel
theorem dX7_hasJoy_0 : decode cX7_hasJoy 0 = .ok (.aload_n 0, 1) := by decide +kernel
theorem dX7_hasJoy_1 : decode cX7_hasJoy 1 = .ok (.getfield 19, 3) := by decide +kernel
theorem dX7_hasJoy_4 : decode cX7_hasJoy 4 = .ok (.iload_n 3, 1) := by decide +kernel
theorem dX7_hasJoy_5 : decode cX7_hasJoy 5 = .ok (.iconst 2, 1) := by decide +kernel
theorem dX7_hasJoy_6 : decode cX7_hasJoy 6 = .ok (.invokevirtual 27, 3) := by decide +kernel
theorem dX7_hasJoy_9 : decode cX7_hasJoy 9 = .ok (.iload_n 2, 1) := by decide +kernel
theorem dX7_hasJoy_10 : decode cX7_hasJoy 10 = .ok (.if_icmp .ne 7, 3) := by decide +kernel
theorem dX7_hasJoy_13 : decode cX7_hasJoy 13 = .ok (.iconst 1, 1) := by decide +kernel
theorem dX7_hasJoy_14 : decode cX7_hasJoy 14 = .ok (.goto 4, 3) := by decide +kernel
theorem dX7_hasJoy_17 : decode cX7_hasJoy 17 = .ok (.iconst 0, 1) := by decide +kernel
theorem dX7_hasJoy_18 : decode cX7_hasJoy 18 = .ok (.istore 6, 2) := by decide +kernel
theorem dX7_hasJoy_20 : decode cX7_hasJoy 20 = .ok (.aload_n 0, 1) := by decide +kernel
theorem dX7_hasJoy_21 : decode cX7_hasJoy 21 = .ok (.getfield 23, 3) := by decide +kernel
theorem dX7_hasJoy_24 : decode cX7_hasJoy 24 = .ok (.iload 4, 2) := by decide +kernel
theorem dX7_hasJoy_26 : decode cX7_hasJoy 26 = .ok (.iload 6, 2) := by decide +kernel
theorem dX7_hasJoy_28 : decode cX7_hasJoy 28 = .ok (.iconst 1, 1) := by decide +kernel
theorem dX7_hasJoy_29 : decode cX7_hasJoy 29 = .ok (.iconst 0, 1) := by decide +kernel
theorem dX7_hasJoy_30 : decode cX7_hasJoy 30 = .ok (.aload_n 0, 1) := by decide +kernel
theorem dX7_hasJoy_31 : decode cX7_hasJoy 31 = .ok (.getfield 19, 3) := by decide +kernel
theorem dX7_hasJoy_34 : decode cX7_hasJoy 34 = .ok (.iload_n 1, 1) := by decide +kernel
theorem dX7_hasJoy_35 : decode cX7_hasJoy 35 = .ok (.iconst 3, 1) := by decide +kernel
theorem dX7_hasJoy_36 : decode cX7_hasJoy 36 = .ok (.invokevirtual 33, 3) := by decide +kernel
theorem dX7_hasJoy_39 : decode cX7_hasJoy 39 = .ok (.iconst 0, 1) := by decide +kernel
theorem dX7_hasJoy_40 : decode cX7_hasJoy 40 = .ok (.invokevirtual 36, 3) := by decide +kernel
theorem dX7_hasJoy_43 : decode cX7_hasJoy 43 = .ok (.iload 5, 2) := by decide +kernel
theorem dX7_hasJoy_45 : decode cX7_hasJoy 45 = .ok (.if_icmp .lt 7, 3) := by decide +kernel
theorem dX7_hasJoy_48 : decode cX7_hasJoy 48 = .ok (.iconst 1, 1) := by decide +kernel
theorem dX7_hasJoy_49 : decode cX7_hasJoy 49 = .ok (.goto 4, 3) := by decide +kernel
theorem dX7_hasJoy_52 : decode cX7_hasJoy 52 = .ok (.iconst 0, 1) := by decide +kernel
theorem dX7_hasJoy_53 : decode cX7_hasJoy 53 = .ok (.ireturn, 1) := by decide +kernel
theorem dX7_mayLike_0 : decode cX7_mayLike 0 = .ok (.iconst 0, 1) := by decide +kernel
theorem dX7_mayLike_1 : decode cX7_mayLike 1 = .ok (.istore_n 3, 1) := by decide +kernel
theorem dX7_mayLike_2 : decode cX7_mayLike 2 = .ok (.iload_n 3, 1) := by decide +kernel
theorem dX7_mayLike_3 : decode cX7_mayLike 3 = .ok (.aload_n 0, 1) := by decide +kernel
theorem dX7_mayLike_4 : decode cX7_mayLike 4 = .ok (.getfield 15, 3) := by decide +kernel
theorem dX7_mayLike_7 : decode cX7_mayLike 7 = .ok (.if_icmp .ge 87, 3) := by decide +kernel
theorem dX7_mayLike_10 : decode cX7_mayLike 10 = .ok (.iload_n 3, 1) := by decide +kernel
theorem dX7_mayLike_11 : decode cX7_mayLike 11 = .ok (.bipush 10, 2) := by decide +kernel
theorem dX7_mayLike_13 : decode cX7_mayLike 13 = .ok (.if_icmp .ge 81, 3) := by decide +kernel
theorem dX7_mayLike_16 : decode cX7_mayLike 16 = .ok (.iload_n 3, 1) := by decide +kernel
theorem dX7_mayLike_17 : decode cX7_mayLike 17 = .ok (.iconst 5, 1) := by decide +kernel
theorem dX7_mayLike_18 : decode cX7_mayLike 18 = .ok (.imul, 1) := by decide +kernel
theorem dX7_mayLike_19 : decode cX7_mayLike 19 = .ok (.istore 4, 2) := by decide +kernel
theorem dX7_mayLike_21 : decode cX7_mayLike 21 = .ok (.aload_n 0, 1) := by decide +kernel
theorem dX7_mayLike_22 : decode cX7_mayLike 22 = .ok (.getfield 11, 3) := by decide +kernel
theorem dX7_mayLike_25 : decode cX7_mayLike 25 = .ok (.iload 4, 2) := by decide +kernel
theorem dX7_mayLike_27 : decode cX7_mayLike 27 = .ok (.iaload, 1) := by decide +kernel
theorem dX7_mayLike_28 : decode cX7_mayLike 28 = .ok (.iload_n 1, 1) := by decide +kernel
theorem dX7_mayLike_29 : decode cX7_mayLike 29 = .ok (.if_icmp .ne 59, 3) := by decide +kernel
theorem dX7_mayLike_32 : decode cX7_mayLike 32 = .ok (.aload_n 0, 1) := by decide +kernel
theorem dX7_mayLike_33 : decode cX7_mayLike 33 = .ok (.iload_n 1, 1) := by decide +kernel
theorem dX7_mayLike_34 : decode cX7_mayLike 34 = .ok (.iload_n 2, 1) := by decide +kernel
theorem dX7_mayLike_35 : decode cX7_mayLike 35 = .ok (.aload_n 0, 1) := by decide +kernel
theorem dX7_mayLike_36 : decode cX7_mayLike 36 = .ok (.getfield 11, 3) := by decide +kernel
theorem dX7_mayLike_39 : decode cX7_mayLike 39 = .ok (.iload 4, 2) := by decide +kernel
theorem dX7_mayLike_41 : decode cX7_mayLike 41 = .ok (.iconst 1, 1) := by decide +kernel
theorem dX7_mayLike_42 : decode cX7_mayLike 42 = .ok (.iadd, 1) := by decide +kernel
theorem dX7_mayLike_43 : decode cX7_mayLike 43 = .ok (.iaload, 1) := by decide +kernel
theorem dX7_mayLike_44 : decode cX7_mayLike 44 = .ok (.aload_n 0, 1) := by decide +kernel
theorem dX7_mayLike_45 : decode cX7_mayLike 45 = .ok (.getfield 11, 3) := by decide +kernel
theorem dX7_mayLike_48 : decode cX7_mayLike 48 = .ok (.iload 4, 2) := by decide +kernel
theorem dX7_mayLike_50 : decode cX7_mayLike 50 = .ok (.iconst 2, 1) := by decide +kernel
theorem dX7_mayLike_51 : decode cX7_mayLike 51 = .ok (.iadd, 1) := by decide +kernel
theorem dX7_mayLike_52 : decode cX7_mayLike 52 = .ok (.iaload, 1) := by decide +kernel
theorem dX7_mayLike_53 : decode cX7_mayLike 53 = .ok (.aload_n 0, 1) := by decide +kernel
theorem dX7_mayLike_54 : decode cX7_mayLike 54 = .ok (.getfield 11, 3) := by decide +kernel
theorem dX7_mayLike_57 : decode cX7_mayLike 57 = .ok (.iload 4, 2) := by decide +kernel
theorem dX7_mayLike_59 : decode cX7_mayLike 59 = .ok (.iconst 3, 1) := by decide +kernel
theorem dX7_mayLike_60 : decode cX7_mayLike 60 = .ok (.iadd, 1) := by decide +kernel
theorem dX7_mayLike_61 : decode cX7_mayLike 61 = .ok (.iaload, 1) := by decide +kernel
theorem dX7_mayLike_62 : decode cX7_mayLike 62 = .ok (.invokevirtual 42, 3) := by decide +kernel
theorem dX7_mayLike_65 : decode cX7_mayLike 65 = .ok (.aload_n 0, 1) := by decide +kernel
theorem dX7_mayLike_66 : decode cX7_mayLike 66 = .ok (.getfield 11, 3) := by decide +kernel
theorem dX7_mayLike_69 : decode cX7_mayLike 69 = .ok (.iload 4, 2) := by decide +kernel
theorem dX7_mayLike_71 : decode cX7_mayLike 71 = .ok (.iconst 4, 1) := by decide +kernel
theorem dX7_mayLike_72 : decode cX7_mayLike 72 = .ok (.iadd, 1) := by decide +kernel
theorem dX7_mayLike_73 : decode cX7_mayLike 73 = .ok (.iaload, 1) := by decide +kernel
theorem dX7_mayLike_74 : decode cX7_mayLike 74 = .ok (.iconst 1, 1) := by decide +kernel
theorem dX7_mayLike_75 : decode cX7_mayLike 75 = .ok (.if_icmp .ne 7, 3) := by decide +kernel
theorem dX7_mayLike_78 : decode cX7_mayLike 78 = .ok (.iconst 1, 1) := by decide +kernel
theorem dX7_mayLike_79 : decode cX7_mayLike 79 = .ok (.goto 4, 3) := by decide +kernel
theorem dX7_mayLike_82 : decode cX7_mayLike 82 = .ok (.iconst 0, 1) := by decide +kernel
theorem dX7_mayLike_83 : decode cX7_mayLike 83 = .ok (.if_icmp .eq 5, 3) := by decide +kernel
theorem dX7_mayLike_86 : decode cX7_mayLike 86 = .ok (.iconst 0, 1) := by decide +kernel
theorem dX7_mayLike_87 : decode cX7_mayLike 87 = .ok (.ireturn, 1) := by decide +kernel
theorem dX7_mayLike_88 : decode cX7_mayLike 88 = .ok (.iinc 3 1, 3) := by decide +kernel
theorem dX7_mayLike_91 : decode cX7_mayLike 91 = .ok (.goto (-89), 3) := by decide +kernel
theorem dX7_mayLike_94 : decode cX7_mayLike 94 = .ok (.iconst 1, 1) := by decide +kernel
theorem dX7_mayLike_95 : decode cX7_mayLike 95 = .ok (.ireturn, 1) := by decide +kernel
theorem dX7_kindsLeft_0 : decode cX7_kindsLeft 0 = .ok (.iconst 0, 1) := by decide +kernel
theorem dX7_kindsLeft_1 : decode cX7_kindsLeft 1 = .ok (.istore_n 2, 1) := by decide +kernel
theorem dX7_kindsLeft_2 : decode cX7_kindsLeft 2 = .ok (.iconst 0, 1) := by decide +kernel
theorem dX7_kindsLeft_3 : decode cX7_kindsLeft 3 = .ok (.istore_n 3, 1) := by decide +kernel
theorem dX7_kindsLeft_4 : decode cX7_kindsLeft 4 = .ok (.iload_n 3, 1) := by decide +kernel
theorem dX7_kindsLeft_5 : decode cX7_kindsLeft 5 = .ok (.iconst 4, 1) := by decide +kernel
theorem dX7_kindsLeft_6 : decode cX7_kindsLeft 6 = .ok (.if_icmp .ge 24, 3) := by decide +kernel
theorem dX7_kindsLeft_9 : decode cX7_kindsLeft 9 = .ok (.aload_n 0, 1) := by decide +kernel
theorem dX7_kindsLeft_10 : decode cX7_kindsLeft 10 = .ok (.iload_n 1, 1) := by decide +kernel
theorem dX7_kindsLeft_11 : decode cX7_kindsLeft 11 = .ok (.iload_n 3, 1) := by decide +kernel
theorem dX7_kindsLeft_12 : decode cX7_kindsLeft 12 = .ok (.invokevirtual 46, 3) := by decide +kernel
theorem dX7_kindsLeft_15 : decode cX7_kindsLeft 15 = .ok (.ifCond .eq 9, 3) := by decide +kernel
theorem dX7_kindsLeft_18 : decode cX7_kindsLeft 18 = .ok (.iload_n 2, 1) := by decide +kernel
theorem dX7_kindsLeft_19 : decode cX7_kindsLeft 19 = .ok (.iconst 1, 1) := by decide +kernel
theorem dX7_kindsLeft_20 : decode cX7_kindsLeft 20 = .ok (.iload_n 3, 1) := by decide +kernel
theorem dX7_kindsLeft_21 : decode cX7_kindsLeft 21 = .ok (.ishl, 1) := by decide +kernel
theorem dX7_kindsLeft_22 : decode cX7_kindsLeft 22 = .ok (.ior, 1) := by decide +kernel
theorem dX7_kindsLeft_23 : decode cX7_kindsLeft 23 = .ok (.istore_n 2, 1) := by decide +kernel
theorem dX7_kindsLeft_24 : decode cX7_kindsLeft 24 = .ok (.iinc 3 1, 3) := by decide +kernel
theorem dX7_kindsLeft_27 : decode cX7_kindsLeft 27 = .ok (.goto (-23), 3) := by decide +kernel
theorem dX7_kindsLeft_30 : decode cX7_kindsLeft 30 = .ok (.iload_n 2, 1) := by decide +kernel
theorem dX7_kindsLeft_31 : decode cX7_kindsLeft 31 = .ok (.ireturn, 1) := by decide +kernel
theorem dX7_dishToTry_0 : decode cX7_dishToTry 0 = .ok (.aload_n 0, 1) := by decide +kernel
theorem dX7_dishToTry_1 : decode cX7_dishToTry 1 = .ok (.iload_n 1, 1) := by decide +kernel
theorem dX7_dishToTry_2 : decode cX7_dishToTry 2 = .ok (.invokevirtual 50, 3) := by decide +kernel
theorem dX7_dishToTry_5 : decode cX7_dishToTry 5 = .ok (.istore 4, 2) := by decide +kernel
theorem dX7_dishToTry_7 : decode cX7_dishToTry 7 = .ok (.iload 4, 2) := by decide +kernel
theorem dX7_dishToTry_9 : decode cX7_dishToTry 9 = .ok (.ifCond .ne 5, 3) := by decide +kernel
theorem dX7_dishToTry_12 : decode cX7_dishToTry 12 = .ok (.iconst (-1), 1) := by decide +kernel
theorem dX7_dishToTry_13 : decode cX7_dishToTry 13 = .ok (.ireturn, 1) := by decide +kernel
theorem dX7_dishToTry_14 : decode cX7_dishToTry 14 = .ok (.iconst (-1), 1) := by decide +kernel
theorem dX7_dishToTry_15 : decode cX7_dishToTry 15 = .ok (.istore 5, 2) := by decide +kernel
theorem dX7_dishToTry_17 : decode cX7_dishToTry 17 = .ok (.iconst 5, 1) := by decide +kernel
theorem dX7_dishToTry_18 : decode cX7_dishToTry 18 = .ok (.istore 6, 2) := by decide +kernel
theorem dX7_dishToTry_20 : decode cX7_dishToTry 20 = .ok (.iconst 0, 1) := by decide +kernel
theorem dX7_dishToTry_21 : decode cX7_dishToTry 21 = .ok (.istore 7, 2) := by decide +kernel
theorem dX7_dishToTry_23 : decode cX7_dishToTry 23 = .ok (.iload 7, 2) := by decide +kernel
theorem dX7_dishToTry_25 : decode cX7_dishToTry 25 = .ok (.aload_n 0, 1) := by decide +kernel
theorem dX7_dishToTry_26 : decode cX7_dishToTry 26 = .ok (.getfield 19, 3) := by decide +kernel
theorem dX7_dishToTry_29 : decode cX7_dishToTry 29 = .ok (.getfield 54, 3) := by decide +kernel
theorem dX7_dishToTry_32 : decode cX7_dishToTry 32 = .ok (.if_icmp .ge 40, 3) := by decide +kernel
theorem dX7_dishToTry_35 : decode cX7_dishToTry 35 = .ok (.aload_n 0, 1) := by decide +kernel
theorem dX7_dishToTry_36 : decode cX7_dishToTry 36 = .ok (.iload_n 1, 1) := by decide +kernel
theorem dX7_dishToTry_37 : decode cX7_dishToTry 37 = .ok (.iload 4, 2) := by decide +kernel
theorem dX7_dishToTry_39 : decode cX7_dishToTry 39 = .ok (.iload 7, 2) := by decide +kernel
theorem dX7_dishToTry_41 : decode cX7_dishToTry 41 = .ok (.iload_n 2, 1) := by decide +kernel
theorem dX7_dishToTry_42 : decode cX7_dishToTry 42 = .ok (.iload_n 3, 1) := by decide +kernel
theorem dX7_dishToTry_43 : decode cX7_dishToTry 43 = .ok (.invokevirtual 57, 3) := by decide +kernel
theorem dX7_dishToTry_46 : decode cX7_dishToTry 46 = .ok (.invokestatic 61, 3) := by decide +kernel
theorem dX7_dishToTry_49 : decode cX7_dishToTry 49 = .ok (.istore 8, 2) := by decide +kernel
