theorem dX0_init_0 : decode cX0_init 0 = .ok (.aload_n 0, 1) := by decide +kernel
theorem dX0_init_1 : decode cX0_init 1 = .ok (.invokespecial 3, 3) := by decide +kernel
theorem dX0_init_4 : decode cX0_init 4 = .ok (.aload_n 0, 1) := by decide +kernel
theorem dX0_init_5 : decode cX0_init 5 = .ok (.aload_n 1, 1) := by decide +kernel
theorem dX0_init_6 : decode cX0_init 6 = .ok (.putfield 9, 3) := by decide +kernel
theorem dX0_init_9 : decode cX0_init 9 = .ok (.aload_n 0, 1) := by decide +kernel
theorem dX0_init_10 : decode cX0_init 10 = .ok (.sipush 4140, 3) := by decide +kernel
theorem dX0_init_13 : decode cX0_init 13 = .ok (.newarray .int, 2) := by decide +kernel
theorem dX0_init_15 : decode cX0_init 15 = .ok (.putfield 15, 3) := by decide +kernel
theorem dX0_init_18 : decode cX0_init 18 = .ok (.return_, 1) := by decide +kernel
theorem dX0_forget_0 : decode cX0_forget 0 = .ok (.iload_n 1, 1) := by decide +kernel
theorem dX0_forget_1 : decode cX0_forget 1 = .ok (.invokestatic 19, 3) := by decide +kernel
theorem dX0_forget_4 : decode cX0_forget 4 = .ok (.istore_n 2, 1) := by decide +kernel
theorem dX0_forget_5 : decode cX0_forget 5 = .ok (.iload_n 1, 1) := by decide +kernel
theorem dX0_forget_6 : decode cX0_forget 6 = .ok (.iconst 1, 1) := by decide +kernel
theorem dX0_forget_7 : decode cX0_forget 7 = .ok (.iadd, 1) := by decide +kernel
theorem dX0_forget_8 : decode cX0_forget 8 = .ok (.invokestatic 19, 3) := by decide +kernel
theorem dX0_forget_11 : decode cX0_forget 11 = .ok (.istore_n 3, 1) := by decide +kernel
theorem dX0_forget_12 : decode cX0_forget 12 = .ok (.iload_n 2, 1) := by decide +kernel
theorem dX0_forget_13 : decode cX0_forget 13 = .ok (.istore 4, 2) := by decide +kernel
theorem dX0_forget_15 : decode cX0_forget 15 = .ok (.iload 4, 2) := by decide +kernel
theorem dX0_forget_17 : decode cX0_forget 17 = .ok (.iload_n 3, 1) := by decide +kernel
theorem dX0_forget_18 : decode cX0_forget 18 = .ok (.if_icmp .ge 19, 3) := by decide +kernel
theorem dX0_forget_21 : decode cX0_forget 21 = .ok (.aload_n 0, 1) := by decide +kernel
theorem dX0_forget_22 : decode cX0_forget 22 = .ok (.getfield 15, 3) := by decide +kernel
theorem dX0_forget_25 : decode cX0_forget 25 = .ok (.iload 4, 2) := by decide +kernel
theorem dX0_forget_27 : decode cX0_forget 27 = .ok (.iconst 0, 1) := by decide +kernel
theorem dX0_forget_28 : decode cX0_forget 28 = .ok (.invokestatic 23, 3) := by decide +kernel
theorem dX0_forget_31 : decode cX0_forget 31 = .ok (.iinc 4 1, 3) := by decide +kernel
theorem dX0_forget_34 : decode cX0_forget 34 = .ok (.goto (-19), 3) := by decide +kernel
theorem dX0_forget_37 : decode cX0_forget 37 = .ok (.return_, 1) := by decide +kernel
theorem dX0_roundsOf_0 : decode cX0_roundsOf 0 = .ok (.aload_n 0, 1) := by decide +kernel
theorem dX0_roundsOf_1 : decode cX0_roundsOf 1 = .ok (.iload_n 3, 1) := by decide +kernel
theorem dX0_roundsOf_2 : decode cX0_roundsOf 2 = .ok (.iload_n 1, 1) := by decide +kernel
theorem dX0_roundsOf_3 : decode cX0_roundsOf 3 = .ok (.iload_n 2, 1) := by decide +kernel
theorem dX0_roundsOf_4 : decode cX0_roundsOf 4 = .ok (.iconst 1, 1) := by decide +kernel
theorem dX0_roundsOf_5 : decode cX0_roundsOf 5 = .ok (.iconst 3, 1) := by decide +kernel
theorem dX0_roundsOf_6 : decode cX0_roundsOf 6 = .ok (.invokevirtual 29, 3) := by decide +kernel
theorem dX0_roundsOf_9 : decode cX0_roundsOf 9 = .ok (.istore 4, 2) := by decide +kernel
theorem dX0_roundsOf_11 : decode cX0_roundsOf 11 = .ok (.iload 4, 2) := by decide +kernel
theorem dX0_roundsOf_13 : decode cX0_roundsOf 13 = .ok (.iconst 4, 1) := by decide +kernel
theorem dX0_roundsOf_14 : decode cX0_roundsOf 14 = .ok (.if_icmp .ne 8, 3) := by decide +kernel
theorem dX0_roundsOf_17 : decode cX0_roundsOf 17 = .ok (.bipush (-4), 2) := by decide +kernel
theorem dX0_roundsOf_19 : decode cX0_roundsOf 19 = .ok (.goto 5, 3) := by decide +kernel
theorem dX0_roundsOf_22 : decode cX0_roundsOf 22 = .ok (.iload 4, 2) := by decide +kernel
theorem dX0_roundsOf_24 : decode cX0_roundsOf 24 = .ok (.ireturn, 1) := by decide +kernel
theorem dX0_attackOf_0 : decode cX0_attackOf 0 = .ok (.aload_n 0, 1) := by decide +kernel
theorem dX0_attackOf_1 : decode cX0_attackOf 1 = .ok (.iload_n 1, 1) := by decide +kernel
theorem dX0_attackOf_2 : decode cX0_attackOf 2 = .ok (.iload_n 2, 1) := by decide +kernel
theorem dX0_attackOf_3 : decode cX0_attackOf 3 = .ok (.iload_n 3, 1) := by decide +kernel
theorem dX0_attackOf_4 : decode cX0_attackOf 4 = .ok (.invokevirtual 33, 3) := by decide +kernel
theorem dX0_attackOf_7 : decode cX0_attackOf 7 = .ok (.istore 4, 2) := by decide +kernel
theorem dX0_attackOf_9 : decode cX0_attackOf 9 = .ok (.iload 4, 2) := by decide +kernel
theorem dX0_attackOf_11 : decode cX0_attackOf 11 = .ok (.bipush (-4), 2) := by decide +kernel
theorem dX0_attackOf_13 : decode cX0_attackOf 13 = .ok (.if_icmp .ne 6, 3) := by decide +kernel
theorem dX0_attackOf_16 : decode cX0_attackOf 16 = .ok (.bipush (-4), 2) := by decide +kernel
theorem dX0_attackOf_18 : decode cX0_attackOf 18 = .ok (.ireturn, 1) := by decide +kernel
theorem dX0_attackOf_19 : decode cX0_attackOf 19 = .ok (.aload_n 0, 1) := by decide +kernel
theorem dX0_attackOf_20 : decode cX0_attackOf 20 = .ok (.iload_n 3, 1) := by decide +kernel
theorem dX0_attackOf_21 : decode cX0_attackOf 21 = .ok (.iload_n 1, 1) := by decide +kernel
theorem dX0_attackOf_22 : decode cX0_attackOf 22 = .ok (.iload_n 2, 1) := by decide +kernel
theorem dX0_attackOf_23 : decode cX0_attackOf 23 = .ok (.iload 4, 2) := by decide +kernel
theorem dX0_attackOf_25 : decode cX0_attackOf 25 = .ok (.invokevirtual 37, 3) := by decide +kernel
theorem dX0_attackOf_28 : decode cX0_attackOf 28 = .ok (.istore 5, 2) := by decide +kernel
theorem dX0_attackOf_30 : decode cX0_attackOf 30 = .ok (.iload 5, 2) := by decide +kernel
theorem dX0_attackOf_32 : decode cX0_attackOf 32 = .ok (.ifCond .lt 6, 3) := by decide +kernel
theorem dX0_attackOf_35 : decode cX0_attackOf 35 = .ok (.iload 5, 2) := by decide +kernel
theorem dX0_attackOf_37 : decode cX0_attackOf 37 = .ok (.ireturn, 1) := by decide +kernel
theorem dX0_attackOf_38 : decode cX0_attackOf 38 = .ok (.aload_n 0, 1) := by decide +kernel
theorem dX0_attackOf_39 : decode cX0_attackOf 39 = .ok (.iload_n 3, 1) := by decide +kernel
theorem dX0_attackOf_40 : decode cX0_attackOf 40 = .ok (.iload_n 2, 1) := by decide +kernel
theorem dX0_attackOf_41 : decode cX0_attackOf 41 = .ok (.iload_n 1, 1) := by decide +kernel
theorem dX0_attackOf_42 : decode cX0_attackOf 42 = .ok (.iload 4, 2) := by decide +kernel
theorem dX0_attackOf_44 : decode cX0_attackOf 44 = .ok (.invokevirtual 37, 3) := by decide +kernel
theorem dX0_attackOf_47 : decode cX0_attackOf 47 = .ok (.istore 6, 2) := by decide +kernel
theorem dX0_attackOf_49 : decode cX0_attackOf 49 = .ok (.iload 6, 2) := by decide +kernel
theorem dX0_attackOf_51 : decode cX0_attackOf 51 = .ok (.ifCond .lt 12, 3) := by decide +kernel
theorem dX0_attackOf_54 : decode cX0_attackOf 54 = .ok (.sipush 1000, 3) := by decide +kernel
theorem dX0_attackOf_57 : decode cX0_attackOf 57 = .ok (.iload 6, 2) := by decide +kernel
theorem dX0_attackOf_59 : decode cX0_attackOf 59 = .ok (.iadd, 1) := by decide +kernel
theorem dX0_attackOf_60 : decode cX0_attackOf 60 = .ok (.goto 5, 3) := by decide +kernel
theorem dX0_attackOf_63 : decode cX0_attackOf 63 = .ok (.bipush (-4), 2) := by decide +kernel
theorem dX0_attackOf_65 : decode cX0_attackOf 65 = .ok (.ireturn, 1) := by decide +kernel
theorem dX0_attackWith_0 : decode cX0_attackWith 0 = .ok (.iconst 1, 1) := by decide +kernel
theorem dX0_attackWith_1 : decode cX0_attackWith 1 = .ok (.istore 5, 2) := by decide +kernel
theorem dX0_attackWith_3 : decode cX0_attackWith 3 = .ok (.iconst 0, 1) := by decide +kernel
theorem dX0_attackWith_4 : decode cX0_attackWith 4 = .ok (.istore 6, 2) := by decide +kernel
theorem dX0_attackWith_6 : decode cX0_attackWith 6 = .ok (.iconst 0, 1) := by decide +kernel
theorem dX0_attackWith_7 : decode cX0_attackWith 7 = .ok (.istore 7, 2) := by decide +kernel
theorem dX0_attackWith_9 : decode cX0_attackWith 9 = .ok (.iload 7, 2) := by decide +kernel
theorem dX0_attackWith_11 : decode cX0_attackWith 11 = .ok (.iconst 3, 1) := by decide +kernel
theorem dX0_attackWith_12 : decode cX0_attackWith 12 = .ok (.if_icmp .ge 93, 3) := by decide +kernel
theorem dX0_attackWith_15 : decode cX0_attackWith 15 = .ok (.aload_n 0, 1) := by decide +kernel
theorem dX0_attackWith_16 : decode cX0_attackWith 16 = .ok (.getfield 9, 3) := by decide +kernel
theorem dX0_attackWith_19 : decode cX0_attackWith 19 = .ok (.iload_n 2, 1) := by decide +kernel
theorem dX0_attackWith_20 : decode cX0_attackWith 20 = .ok (.iload 7, 2) := by decide +kernel
theorem dX0_attackWith_22 : decode cX0_attackWith 22 = .ok (.iload 5, 2) := by decide +kernel
theorem dX0_attackWith_24 : decode cX0_attackWith 24 = .ok (.invokevirtual 41, 3) := by decide +kernel
theorem dX0_attackWith_27 : decode cX0_attackWith 27 = .ok (.istore 8, 2) := by decide +kernel
theorem dX0_attackWith_29 : decode cX0_attackWith 29 = .ok (.iload 8, 2) := by decide +kernel
theorem dX0_attackWith_31 : decode cX0_attackWith 31 = .ok (.bipush (-4), 2) := by decide +kernel
theorem dX0_attackWith_33 : decode cX0_attackWith 33 = .ok (.if_icmp .eq 66, 3) := by decide +kernel
theorem dX0_attackWith_36 : decode cX0_attackWith 36 = .ok (.aload_n 0, 1) := by decide +kernel
theorem dX0_attackWith_37 : decode cX0_attackWith 37 = .ok (.iload_n 1, 1) := by decide +kernel
theorem dX0_attackWith_38 : decode cX0_attackWith 38 = .ok (.iload 8, 2) := by decide +kernel
theorem dX0_attackWith_40 : decode cX0_attackWith 40 = .ok (.iload 5, 2) := by decide +kernel
theorem dX0_attackWith_42 : decode cX0_attackWith 42 = .ok (.invokevirtual 46, 3) := by decide +kernel
theorem dX0_attackWith_45 : decode cX0_attackWith 45 = .ok (.istore 9, 2) := by decide +kernel
theorem dX0_attackWith_47 : decode cX0_attackWith 47 = .ok (.aload_n 0, 1) := by decide +kernel
theorem dX0_attackWith_48 : decode cX0_attackWith 48 = .ok (.iload_n 1, 1) := by decide +kernel
theorem dX0_attackWith_49 : decode cX0_attackWith 49 = .ok (.iload 8, 2) := by decide +kernel
theorem dX0_attackWith_51 : decode cX0_attackWith 51 = .ok (.invokevirtual 49, 3) := by decide +kernel
theorem dX0_attackWith_54 : decode cX0_attackWith 54 = .ok (.istore 10, 2) := by decide +kernel
theorem dX0_attackWith_56 : decode cX0_attackWith 56 = .ok (.iload 10, 2) := by decide +kernel
theorem dX0_attackWith_58 : decode cX0_attackWith 58 = .ok (.iload 9, 2) := by decide +kernel
theorem dX0_attackWith_60 : decode cX0_attackWith 60 = .ok (.if_icmp .gt 36, 3) := by decide +kernel
theorem dX0_attackWith_63 : decode cX0_attackWith 63 = .ok (.aload_n 0, 1) := by decide +kernel
theorem dX0_attackWith_64 : decode cX0_attackWith 64 = .ok (.iload_n 1, 1) := by decide +kernel
theorem dX0_attackWith_65 : decode cX0_attackWith 65 = .ok (.iload 8, 2) := by decide +kernel
theorem dX0_attackWith_67 : decode cX0_attackWith 67 = .ok (.iload 10, 2) := by decide +kernel
theorem dX0_attackWith_69 : decode cX0_attackWith 69 = .ok (.iload_n 3, 1) := by decide +kernel
theorem dX0_attackWith_70 : decode cX0_attackWith 70 = .ok (.iload 5, 2) := by decide +kernel
theorem dX0_attackWith_72 : decode cX0_attackWith 72 = .ok (.iconst 3, 1) := by decide +kernel
theorem dX0_attackWith_73 : decode cX0_attackWith 73 = .ok (.invokevirtual 53, 3) := by decide +kernel
theorem dX0_attackWith_76 : decode cX0_attackWith 76 = .ok (.iload 4, 2) := by decide +kernel
theorem dX0_attackWith_78 : decode cX0_attackWith 78 = .ok (.if_icmp .ne 12, 3) := by decide +kernel
theorem dX0_attackWith_81 : decode cX0_attackWith 81 = .ok (.bipush 10, 2) := by decide +kernel
theorem dX0_attackWith_83 : decode cX0_attackWith 83 = .ok (.iload 6, 2) := by decide +kernel
theorem dX0_attackWith_85 : decode cX0_attackWith 85 = .ok (.imul, 1) := by decide +kernel
theorem dX0_attackWith_86 : decode cX0_attackWith 86 = .ok (.iload 10, 2) := by decide +kernel
theorem dX0_attackWith_88 : decode cX0_attackWith 88 = .ok (.iadd, 1) := by decide +kernel
theorem dX0_attackWith_89 : decode cX0_attackWith 89 = .ok (.ireturn, 1) := by decide +kernel
theorem dX0_attackWith_90 : decode cX0_attackWith 90 = .ok (.iinc 10 1, 3) := by decide +kernel
theorem dX0_attackWith_93 : decode cX0_attackWith 93 = .ok (.goto (-37), 3) := by decide +kernel
theorem dX0_attackWith_96 : decode cX0_attackWith 96 = .ok (.iinc 6 1, 3) := by decide +kernel
theorem dX0_attackWith_99 : decode cX0_attackWith 99 = .ok (.iinc 7 1, 3) := by decide +kernel
theorem dX0_attackWith_102 : decode cX0_attackWith 102 = .ok (.goto (-93), 3) := by decide +kernel
theorem dX0_attackWith_105 : decode cX0_attackWith 105 = .ok (.bipush (-4), 2) := by decide +kernel
theorem dX0_attackWith_107 : decode cX0_attackWith 107 = .ok (.ireturn, 1) := by decide +kernel
theorem dX0_worth_0 : decode cX0_worth 0 = .ok (.iload 5, 2) := by decide +kernel
theorem dX0_worth_2 : decode cX0_worth 2 = .ok (.ifCond .le 8, 3) := by decide +kernel
theorem dX0_worth_5 : decode cX0_worth 5 = .ok (.iload_n 2, 1) := by decide +kernel
theorem dX0_worth_6 : decode cX0_worth 6 = .ok (.iload_n 3, 1) := by decide +kernel
theorem dX0_worth_7 : decode cX0_worth 7 = .ok (.if_icmp .ne 5, 3) := by decide +kernel
theorem dX0_worth_10 : decode cX0_worth 10 = .ok (.iconst 4, 1) := by decide +kernel
theorem dX0_worth_11 : decode cX0_worth 11 = .ok (.ireturn, 1) := by decide +kernel
theorem dX0_worth_12 : decode cX0_worth 12 = .ok (.iload_n 1, 1) := by decide +kernel
theorem dX0_worth_13 : decode cX0_worth 13 = .ok (.iload_n 2, 1) := by decide +kernel
theorem dX0_worth_14 : decode cX0_worth 14 = .ok (.iload_n 3, 1) := by decide +kernel
theorem dX0_worth_15 : decode cX0_worth 15 = .ok (.iload 4, 2) := by decide +kernel
theorem dX0_worth_17 : decode cX0_worth 17 = .ok (.invokestatic 57, 3) := by decide +kernel
theorem dX0_worth_20 : decode cX0_worth 20 = .ok (.istore 6, 2) := by decide +kernel
theorem dX0_worth_22 : decode cX0_worth 22 = .ok (.aload_n 0, 1) := by decide +kernel
theorem dX0_worth_23 : decode cX0_worth 23 = .ok (.getfield 15, 3) := by decide +kernel
theorem dX0_worth_26 : decode cX0_worth 26 = .ok (.iload 6, 2) := by decide +kernel
theorem dX0_worth_28 : decode cX0_worth 28 = .ok (.invokestatic 60, 3) := by decide +kernel
theorem dX0_worth_31 : decode cX0_worth 31 = .ok (.istore 7, 2) := by decide +kernel
theorem dX0_worth_33 : decode cX0_worth 33 = .ok (.iload 7, 2) := by decide +kernel
theorem dX0_worth_35 : decode cX0_worth 35 = .ok (.ifCond .eq 6, 3) := by decide +kernel
theorem dX0_worth_38 : decode cX0_worth 38 = .ok (.iload 7, 2) := by decide +kernel
theorem dX0_worth_40 : decode cX0_worth 40 = .ok (.ireturn, 1) := by decide +kernel
theorem dX0_worth_41 : decode cX0_worth 41 = .ok (.aload_n 0, 1) := by decide +kernel
theorem dX0_worth_42 : decode cX0_worth 42 = .ok (.iload_n 1, 1) := by decide +kernel
theorem dX0_worth_43 : decode cX0_worth 43 = .ok (.iload_n 2, 1) := by decide +kernel
theorem dX0_worth_44 : decode cX0_worth 44 = .ok (.iload_n 3, 1) := by decide +kernel
theorem dX0_worth_45 : decode cX0_worth 45 = .ok (.iload 4, 2) := by decide +kernel
theorem dX0_worth_47 : decode cX0_worth 47 = .ok (.iload 5, 2) := by decide +kernel
theorem dX0_worth_49 : decode cX0_worth 49 = .ok (.invokevirtual 64, 3) := by decide +kernel
theorem dX0_worth_52 : decode cX0_worth 52 = .ok (.istore 8, 2) := by decide +kernel
theorem dX0_worth_54 : decode cX0_worth 54 = .ok (.aload_n 0, 1) := by decide +kernel
theorem dX0_worth_55 : decode cX0_worth 55 = .ok (.iload_n 1, 1) := by decide +kernel
theorem dX0_worth_56 : decode cX0_worth 56 = .ok (.iload_n 3, 1) := by decide +kernel
theorem dX0_worth_57 : decode cX0_worth 57 = .ok (.iload_n 2, 1) := by decide +kernel
theorem dX0_worth_58 : decode cX0_worth 58 = .ok (.iload 4, 2) := by decide +kernel
theorem dX0_worth_60 : decode cX0_worth 60 = .ok (.iload 5, 2) := by decide +kernel
theorem dX0_worth_62 : decode cX0_worth 62 = .ok (.invokevirtual 64, 3) := by decide +kernel
theorem dX0_worth_65 : decode cX0_worth 65 = .ok (.istore 9, 2) := by decide +kernel
theorem dX0_worth_67 : decode cX0_worth 67 = .ok (.iload 8, 2) := by decide +kernel
theorem dX0_worth_69 : decode cX0_worth 69 = .ok (.iload 9, 2) := by decide +kernel
theorem dX0_worth_71 : decode cX0_worth 71 = .ok (.invokestatic 67, 3) := by decide +kernel
theorem dX0_worth_74 : decode cX0_worth 74 = .ok (.istore 10, 2) := by decide +kernel
theorem dX0_worth_76 : decode cX0_worth 76 = .ok (.aload_n 0, 1) := by decide +kernel
theorem dX0_worth_77 : decode cX0_worth 77 = .ok (.getfield 15, 3) := by decide +kernel
theorem dX0_worth_80 : decode cX0_worth 80 = .ok (.iload 6, 2) := by decide +kernel
theorem dX0_worth_82 : decode cX0_worth 82 = .ok (.iload 10, 2) := by decide +kernel
theorem dX0_worth_84 : decode cX0_worth 84 = .ok (.invokestatic 23, 3) := by decide +kernel
theorem dX0_worth_87 : decode cX0_worth 87 = .ok (.iload 10, 2) := by decide +kernel
theorem dX0_worth_89 : decode cX0_worth 89 = .ok (.ireturn, 1) := by decide +kernel
theorem dX0_sideWorth_0 : decode cX0_sideWorth 0 = .ok (.iconst 4, 1) := by decide +kernel
theorem dX0_sideWorth_1 : decode cX0_sideWorth 1 = .ok (.istore 6, 2) := by decide +kernel
theorem dX0_sideWorth_3 : decode cX0_sideWorth 3 = .ok (.iconst 0, 1) := by decide +kernel
theorem dX0_sideWorth_4 : decode cX0_sideWorth 4 = .ok (.istore 7, 2) := by decide +kernel
theorem dX0_sideWorth_6 : decode cX0_sideWorth 6 = .ok (.iload 7, 2) := by decide +kernel
theorem dX0_sideWorth_8 : decode cX0_sideWorth 8 = .ok (.iconst 3, 1) := by decide +kernel
theorem dX0_sideWorth_9 : decode cX0_sideWorth 9 = .ok (.if_icmp .ge 94, 3) := by decide +kernel
theorem dX0_sideWorth_12 : decode cX0_sideWorth 12 = .ok (.iload 6, 2) := by decide +kernel
theorem dX0_sideWorth_14 : decode cX0_sideWorth 14 = .ok (.iconst 1, 1) := by decide +kernel
theorem dX0_sideWorth_15 : decode cX0_sideWorth 15 = .ok (.if_icmp .le 88, 3) := by decide +kernel
theorem dX0_sideWorth_18 : decode cX0_sideWorth 18 = .ok (.aload_n 0, 1) := by decide +kernel
theorem dX0_sideWorth_19 : decode cX0_sideWorth 19 = .ok (.getfield 9, 3) := by decide +kernel
theorem dX0_sideWorth_22 : decode cX0_sideWorth 22 = .ok (.iload_n 2, 1) := by decide +kernel
theorem dX0_sideWorth_23 : decode cX0_sideWorth 23 = .ok (.iload 7, 2) := by decide +kernel
theorem dX0_sideWorth_25 : decode cX0_sideWorth 25 = .ok (.iload 4, 2) := by decide +kernel
theorem dX0_sideWorth_27 : decode cX0_sideWorth 27 = .ok (.invokevirtual 41, 3) := by decide +kernel
theorem dX0_sideWorth_30 : decode cX0_sideWorth 30 = .ok (.istore 8, 2) := by decide +kernel
theorem dX0_sideWorth_32 : decode cX0_sideWorth 32 = .ok (.iload 8, 2) := by decide +kernel
theorem dX0_sideWorth_34 : decode cX0_sideWorth 34 = .ok (.bipush (-4), 2) := by decide +kernel
theorem dX0_sideWorth_36 : decode cX0_sideWorth 36 = .ok (.if_icmp .eq 61, 3) := by decide +kernel
theorem dX0_sideWorth_39 : decode cX0_sideWorth 39 = .ok (.aload_n 0, 1) := by decide +kernel
theorem dX0_sideWorth_40 : decode cX0_sideWorth 40 = .ok (.iload_n 1, 1) := by decide +kernel
theorem dX0_sideWorth_41 : decode cX0_sideWorth 41 = .ok (.iload 8, 2) := by decide +kernel
theorem dX0_sideWorth_43 : decode cX0_sideWorth 43 = .ok (.iload 4, 2) := by decide +kernel
theorem dX0_sideWorth_45 : decode cX0_sideWorth 45 = .ok (.invokevirtual 46, 3) := by decide +kernel
theorem dX0_sideWorth_48 : decode cX0_sideWorth 48 = .ok (.istore 9, 2) := by decide +kernel
theorem dX0_sideWorth_50 : decode cX0_sideWorth 50 = .ok (.aload_n 0, 1) := by decide +kernel
theorem dX0_sideWorth_51 : decode cX0_sideWorth 51 = .ok (.iload_n 1, 1) := by decide +kernel
theorem dX0_sideWorth_52 : decode cX0_sideWorth 52 = .ok (.iload 8, 2) := by decide +kernel
theorem dX0_sideWorth_54 : decode cX0_sideWorth 54 = .ok (.invokevirtual 49, 3) := by decide +kernel
theorem dX0_sideWorth_57 : decode cX0_sideWorth 57 = .ok (.istore 10, 2) := by decide +kernel
theorem dX0_sideWorth_59 : decode cX0_sideWorth 59 = .ok (.iload 10, 2) := by decide +kernel
theorem dX0_sideWorth_61 : decode cX0_sideWorth 61 = .ok (.iload 9, 2) := by decide +kernel
theorem dX0_sideWorth_63 : decode cX0_sideWorth 63 = .ok (.if_icmp .gt 34, 3) := by decide +kernel
theorem dX0_sideWorth_66 : decode cX0_sideWorth 66 = .ok (.aload_n 0, 1) := by decide +kernel
theorem dX0_sideWorth_67 : decode cX0_sideWorth 67 = .ok (.iload_n 1, 1) := by decide +kernel
theorem dX0_sideWorth_68 : decode cX0_sideWorth 68 = .ok (.iload 8, 2) := by decide +kernel
theorem dX0_sideWorth_70 : decode cX0_sideWorth 70 = .ok (.iload 10, 2) := by decide +kernel
theorem dX0_sideWorth_72 : decode cX0_sideWorth 72 = .ok (.iload_n 3, 1) := by decide +kernel
theorem dX0_sideWorth_73 : decode cX0_sideWorth 73 = .ok (.iload 4, 2) := by decide +kernel
theorem dX0_sideWorth_75 : decode cX0_sideWorth 75 = .ok (.iload 5, 2) := by decide +kernel
theorem dX0_sideWorth_77 : decode cX0_sideWorth 77 = .ok (.invokevirtual 53, 3) := by decide +kernel
theorem dX0_sideWorth_80 : decode cX0_sideWorth 80 = .ok (.istore 11, 2) := by decide +kernel
theorem dX0_sideWorth_82 : decode cX0_sideWorth 82 = .ok (.iload 6, 2) := by decide +kernel
theorem dX0_sideWorth_84 : decode cX0_sideWorth 84 = .ok (.iload 11, 2) := by decide +kernel
theorem dX0_sideWorth_86 : decode cX0_sideWorth 86 = .ok (.invokestatic 67, 3) := by decide +kernel
theorem dX0_sideWorth_89 : decode cX0_sideWorth 89 = .ok (.istore 6, 2) := by decide +kernel
theorem dX0_sideWorth_91 : decode cX0_sideWorth 91 = .ok (.iinc 10 1, 3) := by decide +kernel
theorem dX0_sideWorth_94 : decode cX0_sideWorth 94 = .ok (.goto (-35), 3) := by decide +kernel
theorem dX0_sideWorth_97 : decode cX0_sideWorth 97 = .ok (.iinc 7 1, 3) := by decide +kernel
theorem dX0_sideWorth_100 : decode cX0_sideWorth 100 = .ok (.goto (-94), 3) := by decide +kernel
theorem dX0_sideWorth_103 : decode cX0_sideWorth 103 = .ok (.iload 6, 2) := by decide +kernel
theorem dX0_sideWorth_105 : decode cX0_sideWorth 105 = .ok (.ireturn, 1) := by decide +kernel
theorem dX0_attackWorth_0 : decode cX0_attackWorth 0 = .ok (.iconst 0, 1) := by decide +kernel
theorem dX0_attackWorth_1 : decode cX0_attackWorth 1 = .ok (.istore 7, 2) := by decide +kernel
theorem dX0_attackWorth_3 : decode cX0_attackWorth 3 = .ok (.iconst 0, 1) := by decide +kernel
theorem dX0_attackWorth_4 : decode cX0_attackWorth 4 = .ok (.istore 8, 2) := by decide +kernel
theorem dX0_attackWorth_6 : decode cX0_attackWorth 6 = .ok (.iload 8, 2) := by decide +kernel
theorem dX0_attackWorth_8 : decode cX0_attackWorth 8 = .ok (.iconst 3, 1) := by decide +kernel
theorem dX0_attackWorth_9 : decode cX0_attackWorth 9 = .ok (.if_icmp .ge 73, 3) := by decide +kernel
theorem dX0_attackWorth_12 : decode cX0_attackWorth 12 = .ok (.iload 7, 2) := by decide +kernel
theorem dX0_attackWorth_14 : decode cX0_attackWorth 14 = .ok (.iconst 4, 1) := by decide +kernel
theorem dX0_attackWorth_15 : decode cX0_attackWorth 15 = .ok (.if_icmp .ge 67, 3) := by decide +kernel
theorem dX0_attackWorth_18 : decode cX0_attackWorth 18 = .ok (.aload_n 0, 1) := by decide +kernel
theorem dX0_attackWorth_19 : decode cX0_attackWorth 19 = .ok (.getfield 9, 3) := by decide +kernel
theorem dX0_attackWorth_22 : decode cX0_attackWorth 22 = .ok (.iload 4, 2) := by decide +kernel
theorem dX0_attackWorth_24 : decode cX0_attackWorth 24 = .ok (.iload 8, 2) := by decide +kernel
theorem dX0_attackWorth_26 : decode cX0_attackWorth 26 = .ok (.iload 5, 2) := by decide +kernel
theorem dX0_attackWorth_28 : decode cX0_attackWorth 28 = .ok (.invokevirtual 41, 3) := by decide +kernel
theorem dX0_attackWorth_31 : decode cX0_attackWorth 31 = .ok (.istore 9, 2) := by decide +kernel
theorem dX0_attackWorth_33 : decode cX0_attackWorth 33 = .ok (.iload 9, 2) := by decide +kernel
theorem dX0_attackWorth_35 : decode cX0_attackWorth 35 = .ok (.bipush (-4), 2) := by decide +kernel
theorem dX0_attackWorth_37 : decode cX0_attackWorth 37 = .ok (.if_icmp .eq 39, 3) := by decide +kernel
theorem dX0_attackWorth_40 : decode cX0_attackWorth 40 = .ok (.aload_n 0, 1) := by decide +kernel
theorem dX0_attackWorth_41 : decode cX0_attackWorth 41 = .ok (.iload_n 2, 1) := by decide +kernel
theorem dX0_attackWorth_42 : decode cX0_attackWorth 42 = .ok (.iload 9, 2) := by decide +kernel
theorem dX0_attackWorth_44 : decode cX0_attackWorth 44 = .ok (.iload 5, 2) := by decide +kernel
theorem dX0_attackWorth_46 : decode cX0_attackWorth 46 = .ok (.invokevirtual 72, 3) := by decide +kernel
theorem dX0_attackWorth_49 : decode cX0_attackWorth 49 = .ok (.ifCond .eq 27, 3) := by decide +kernel
theorem dX0_attackWorth_52 : decode cX0_attackWorth 52 = .ok (.aload_n 0, 1) := by decide +kernel
theorem dX0_attackWorth_53 : decode cX0_attackWorth 53 = .ok (.iload_n 1, 1) := by decide +kernel
theorem dX0_attackWorth_54 : decode cX0_attackWorth 54 = .ok (.iload_n 2, 1) := by decide +kernel
theorem dX0_attackWorth_55 : decode cX0_attackWorth 55 = .ok (.iload_n 3, 1) := by decide +kernel
theorem dX0_attackWorth_56 : decode cX0_attackWorth 56 = .ok (.iload 9, 2) := by decide +kernel
theorem dX0_attackWorth_58 : decode cX0_attackWorth 58 = .ok (.iload 5, 2) := by decide +kernel
theorem dX0_attackWorth_60 : decode cX0_attackWorth 60 = .ok (.iload 6, 2) := by decide +kernel
theorem dX0_attackWorth_62 : decode cX0_attackWorth 62 = .ok (.invokevirtual 76, 3) := by decide +kernel
theorem dX0_attackWorth_65 : decode cX0_attackWorth 65 = .ok (.istore 10, 2) := by decide +kernel
theorem dX0_attackWorth_67 : decode cX0_attackWorth 67 = .ok (.iload 7, 2) := by decide +kernel
theorem dX0_attackWorth_69 : decode cX0_attackWorth 69 = .ok (.iload 10, 2) := by decide +kernel
theorem dX0_attackWorth_71 : decode cX0_attackWorth 71 = .ok (.invokestatic 79, 3) := by decide +kernel
theorem dX0_attackWorth_74 : decode cX0_attackWorth 74 = .ok (.istore 7, 2) := by decide +kernel
theorem dX0_attackWorth_76 : decode cX0_attackWorth 76 = .ok (.iinc 8 1, 3) := by decide +kernel
theorem dX0_attackWorth_79 : decode cX0_attackWorth 79 = .ok (.goto (-73), 3) := by decide +kernel
theorem dX0_attackWorth_82 : decode cX0_attackWorth 82 = .ok (.iconst 4, 1) := by decide +kernel
theorem dX0_attackWorth_83 : decode cX0_attackWorth 83 = .ok (.iload 7, 2) := by decide +kernel
theorem dX0_attackWorth_85 : decode cX0_attackWorth 85 = .ok (.iconst 1, 1) := by decide +kernel
theorem dX0_attackWorth_86 : decode cX0_attackWorth 86 = .ok (.iadd, 1) := by decide +kernel
theorem dX0_attackWorth_87 : decode cX0_attackWorth 87 = .ok (.invokestatic 67, 3) := by decide +kernel
theorem dX0_attackWorth_90 : decode cX0_attackWorth 90 = .ok (.ireturn, 1) := by decide +kernel
theorem dX0_answerWorth_0 : decode cX0_answerWorth 0 = .ok (.aload_n 0, 1) := by decide +kernel
theorem dX0_answerWorth_1 : decode cX0_answerWorth 1 = .ok (.getfield 9, 3) := by decide +kernel
theorem dX0_answerWorth_4 : decode cX0_answerWorth 4 = .ok (.getfield 82, 3) := by decide +kernel
theorem dX0_answerWorth_7 : decode cX0_answerWorth 7 = .ok (.iload_n 2, 1) := by decide +kernel
theorem dX0_answerWorth_8 : decode cX0_answerWorth 8 = .ok (.invokestatic 60, 3) := by decide +kernel
theorem dX0_answerWorth_11 : decode cX0_answerWorth 11 = .ok (.istore 7, 2) := by decide +kernel
theorem dX0_answerWorth_13 : decode cX0_answerWorth 13 = .ok (.aload_n 0, 1) := by decide +kernel
theorem dX0_answerWorth_14 : decode cX0_answerWorth 14 = .ok (.getfield 9, 3) := by decide +kernel
theorem dX0_answerWorth_17 : decode cX0_answerWorth 17 = .ok (.getfield 82, 3) := by decide +kernel
theorem dX0_answerWorth_20 : decode cX0_answerWorth 20 = .ok (.iload 4, 2) := by decide +kernel
theorem dX0_answerWorth_22 : decode cX0_answerWorth 22 = .ok (.invokestatic 60, 3) := by decide +kernel
theorem dX0_answerWorth_25 : decode cX0_answerWorth 25 = .ok (.istore 8, 2) := by decide +kernel
theorem dX0_answerWorth_27 : decode cX0_answerWorth 27 = .ok (.aload_n 0, 1) := by decide +kernel
theorem dX0_answerWorth_28 : decode cX0_answerWorth 28 = .ok (.getfield 9, 3) := by decide +kernel
theorem dX0_answerWorth_31 : decode cX0_answerWorth 31 = .ok (.getfield 85, 3) := by decide +kernel
theorem dX0_answerWorth_34 : decode cX0_answerWorth 34 = .ok (.iload_n 2, 1) := by decide +kernel
theorem dX0_answerWorth_35 : decode cX0_answerWorth 35 = .ok (.invokestatic 60, 3) := by decide +kernel
theorem dX0_answerWorth_38 : decode cX0_answerWorth 38 = .ok (.iconst 3, 1) := by decide +kernel
theorem dX0_answerWorth_39 : decode cX0_answerWorth 39 = .ok (.if_icmp .eq 19, 3) := by decide +kernel
theorem dX0_answerWorth_42 : decode cX0_answerWorth 42 = .ok (.aload_n 0, 1) := by decide +kernel
theorem dX0_answerWorth_43 : decode cX0_answerWorth 43 = .ok (.iload_n 1, 1) := by decide +kernel
theorem dX0_answerWorth_44 : decode cX0_answerWorth 44 = .ok (.iload 7, 2) := by decide +kernel
theorem dX0_answerWorth_46 : decode cX0_answerWorth 46 = .ok (.iload 8, 2) := by decide +kernel
theorem dX0_answerWorth_48 : decode cX0_answerWorth 48 = .ok (.iload 5, 2) := by decide +kernel
theorem dX0_answerWorth_50 : decode cX0_answerWorth 50 = .ok (.iload 6, 2) := by decide +kernel
theorem dX0_answerWorth_52 : decode cX0_answerWorth 52 = .ok (.iconst 1, 1) := by decide +kernel
theorem dX0_answerWorth_53 : decode cX0_answerWorth 53 = .ok (.isub, 1) := by decide +kernel
theorem dX0_answerWorth_54 : decode cX0_answerWorth 54 = .ok (.invokevirtual 29, 3) := by decide +kernel
theorem dX0_answerWorth_57 : decode cX0_answerWorth 57 = .ok (.ireturn, 1) := by decide +kernel
theorem dX0_answerWorth_58 : decode cX0_answerWorth 58 = .ok (.iload 5, 2) := by decide +kernel
theorem dX0_answerWorth_60 : decode cX0_answerWorth 60 = .ok (.invokestatic 88, 3) := by decide +kernel
theorem dX0_answerWorth_63 : decode cX0_answerWorth 63 = .ok (.istore 9, 2) := by decide +kernel
theorem dX0_answerWorth_65 : decode cX0_answerWorth 65 = .ok (.iload_n 1, 1) := by decide +kernel
theorem dX0_answerWorth_66 : decode cX0_answerWorth 66 = .ok (.iconst 2, 1) := by decide +kernel
theorem dX0_answerWorth_67 : decode cX0_answerWorth 67 = .ok (.if_icmp .ne 7, 3) := by decide +kernel
theorem dX0_answerWorth_70 : decode cX0_answerWorth 70 = .ok (.iconst 0, 1) := by decide +kernel
theorem dX0_answerWorth_71 : decode cX0_answerWorth 71 = .ok (.goto 14, 3) := by decide +kernel
theorem dX0_answerWorth_74 : decode cX0_answerWorth 74 = .ok (.iload_n 1, 1) := by decide +kernel
theorem dX0_answerWorth_75 : decode cX0_answerWorth 75 = .ok (.iconst 1, 1) := by decide +kernel
theorem dX0_answerWorth_76 : decode cX0_answerWorth 76 = .ok (.if_icmp .ne 7, 3) := by decide +kernel
theorem dX0_answerWorth_79 : decode cX0_answerWorth 79 = .ok (.iload_n 3, 1) := by decide +kernel
theorem dX0_answerWorth_80 : decode cX0_answerWorth 80 = .ok (.goto 5, 3) := by decide +kernel
theorem dX0_answerWorth_83 : decode cX0_answerWorth 83 = .ok (.iload 9, 2) := by decide +kernel
theorem dX0_answerWorth_85 : decode cX0_answerWorth 85 = .ok (.istore 10, 2) := by decide +kernel
theorem dX0_answerWorth_87 : decode cX0_answerWorth 87 = .ok (.iload_n 1, 1) := by decide +kernel
theorem dX0_answerWorth_88 : decode cX0_answerWorth 88 = .ok (.iconst 1, 1) := by decide +kernel
theorem dX0_answerWorth_89 : decode cX0_answerWorth 89 = .ok (.if_icmp .ne 7, 3) := by decide +kernel
theorem dX0_answerWorth_92 : decode cX0_answerWorth 92 = .ok (.iload_n 3, 1) := by decide +kernel
theorem dX0_answerWorth_93 : decode cX0_answerWorth 93 = .ok (.goto 5, 3) := by decide +kernel
theorem dX0_answerWorth_96 : decode cX0_answerWorth 96 = .ok (.iload 9, 2) := by decide +kernel
theorem dX0_answerWorth_98 : decode cX0_answerWorth 98 = .ok (.istore 11, 2) := by decide +kernel
theorem dX0_answerWorth_100 : decode cX0_answerWorth 100 = .ok (.iconst 4, 1) := by decide +kernel
theorem dX0_answerWorth_101 : decode cX0_answerWorth 101 = .ok (.istore 12, 2) := by decide +kernel
theorem dX0_answerWorth_103 : decode cX0_answerWorth 103 = .ok (.iload 10, 2) := by decide +kernel
theorem dX0_answerWorth_105 : decode cX0_answerWorth 105 = .ok (.istore 13, 2) := by decide +kernel
theorem dX0_answerWorth_107 : decode cX0_answerWorth 107 = .ok (.iload 13, 2) := by decide +kernel
theorem dX0_answerWorth_109 : decode cX0_answerWorth 109 = .ok (.iload 11, 2) := by decide +kernel
theorem dX0_answerWorth_111 : decode cX0_answerWorth 111 = .ok (.if_icmp .gt 40, 3) := by decide +kernel
theorem dX0_answerWorth_114 : decode cX0_answerWorth 114 = .ok (.iload 5, 2) := by decide +kernel
theorem dX0_answerWorth_116 : decode cX0_answerWorth 116 = .ok (.iload 13, 2) := by decide +kernel
theorem dX0_answerWorth_118 : decode cX0_answerWorth 118 = .ok (.invokestatic 91, 3) := by decide +kernel
theorem dX0_answerWorth_121 : decode cX0_answerWorth 121 = .ok (.istore 14, 2) := by decide +kernel
theorem dX0_answerWorth_123 : decode cX0_answerWorth 123 = .ok (.iload 12, 2) := by decide +kernel
theorem dX0_answerWorth_125 : decode cX0_answerWorth 125 = .ok (.aload_n 0, 1) := by decide +kernel
theorem dX0_answerWorth_126 : decode cX0_answerWorth 126 = .ok (.iload_n 1, 1) := by decide +kernel
theorem dX0_answerWorth_127 : decode cX0_answerWorth 127 = .ok (.iload 7, 2) := by decide +kernel
theorem dX0_answerWorth_129 : decode cX0_answerWorth 129 = .ok (.iload 8, 2) := by decide +kernel
theorem dX0_answerWorth_131 : decode cX0_answerWorth 131 = .ok (.iload 14, 2) := by decide +kernel
theorem dX0_answerWorth_133 : decode cX0_answerWorth 133 = .ok (.iload 6, 2) := by decide +kernel
theorem dX0_answerWorth_135 : decode cX0_answerWorth 135 = .ok (.iconst 1, 1) := by decide +kernel
theorem dX0_answerWorth_136 : decode cX0_answerWorth 136 = .ok (.isub, 1) := by decide +kernel
theorem dX0_answerWorth_137 : decode cX0_answerWorth 137 = .ok (.invokevirtual 29, 3) := by decide +kernel
theorem dX0_answerWorth_140 : decode cX0_answerWorth 140 = .ok (.invokestatic 67, 3) := by decide +kernel
theorem dX0_answerWorth_143 : decode cX0_answerWorth 143 = .ok (.istore 12, 2) := by decide +kernel
theorem dX0_answerWorth_145 : decode cX0_answerWorth 145 = .ok (.iinc 13 1, 3) := by decide +kernel
theorem dX0_answerWorth_148 : decode cX0_answerWorth 148 = .ok (.goto (-41), 3) := by decide +kernel
theorem dX0_answerWorth_151 : decode cX0_answerWorth 151 = .ok (.iload 12, 2) := by decide +kernel
theorem dX0_answerWorth_153 : decode cX0_answerWorth 153 = .ok (.ireturn, 1) := by decide +kernel
theorem dX0_agree_0 : decode cX0_agree 0 = .ok (.aload_n 0, 1) := by decide +kernel
theorem dX0_agree_1 : decode cX0_agree 1 = .ok (.getfield 9, 3) := by decide +kernel
theorem dX0_agree_4 : decode cX0_agree 4 = .ok (.getfield 85, 3) := by decide +kernel
theorem dX0_agree_7 : decode cX0_agree 7 = .ok (.iload_n 1, 1) := by decide +kernel
theorem dX0_agree_8 : decode cX0_agree 8 = .ok (.invokestatic 60, 3) := by decide +kernel
theorem dX0_agree_11 : decode cX0_agree 11 = .ok (.aload_n 0, 1) := by decide +kernel
theorem dX0_agree_12 : decode cX0_agree 12 = .ok (.getfield 9, 3) := by decide +kernel
theorem dX0_agree_15 : decode cX0_agree 15 = .ok (.getfield 85, 3) := by decide +kernel
theorem dX0_agree_18 : decode cX0_agree 18 = .ok (.iload_n 2, 1) := by decide +kernel
theorem dX0_agree_19 : decode cX0_agree 19 = .ok (.invokestatic 60, 3) := by decide +kernel
theorem dX0_agree_22 : decode cX0_agree 22 = .ok (.if_icmp .eq 5, 3) := by decide +kernel
theorem dX0_agree_25 : decode cX0_agree 25 = .ok (.iconst 0, 1) := by decide +kernel
theorem dX0_agree_26 : decode cX0_agree 26 = .ok (.ireturn, 1) := by decide +kernel
theorem dX0_agree_27 : decode cX0_agree 27 = .ok (.aload_n 0, 1) := by decide +kernel
theorem dX0_agree_28 : decode cX0_agree 28 = .ok (.getfield 9, 3) := by decide +kernel
theorem dX0_agree_31 : decode cX0_agree 31 = .ok (.getfield 94, 3) := by decide +kernel
theorem dX0_agree_34 : decode cX0_agree 34 = .ok (.iload_n 1, 1) := by decide +kernel
theorem dX0_agree_35 : decode cX0_agree 35 = .ok (.invokestatic 60, 3) := by decide +kernel
theorem dX0_agree_38 : decode cX0_agree 38 = .ok (.istore 4, 2) := by decide +kernel
theorem dX0_agree_40 : decode cX0_agree 40 = .ok (.aload_n 0, 1) := by decide +kernel
theorem dX0_agree_41 : decode cX0_agree 41 = .ok (.getfield 9, 3) := by decide +kernel
theorem dX0_agree_44 : decode cX0_agree 44 = .ok (.getfield 97, 3) := by decide +kernel
theorem dX0_agree_47 : decode cX0_agree 47 = .ok (.iload_n 1, 1) := by decide +kernel
theorem dX0_agree_48 : decode cX0_agree 48 = .ok (.invokestatic 60, 3) := by decide +kernel
theorem dX0_agree_51 : decode cX0_agree 51 = .ok (.istore 5, 2) := by decide +kernel
theorem dX0_agree_53 : decode cX0_agree 53 = .ok (.iload 4, 2) := by decide +kernel
theorem dX0_agree_55 : decode cX0_agree 55 = .ok (.aload_n 0, 1) := by decide +kernel
theorem dX0_agree_56 : decode cX0_agree 56 = .ok (.getfield 9, 3) := by decide +kernel
theorem dX0_agree_59 : decode cX0_agree 59 = .ok (.getfield 94, 3) := by decide +kernel
theorem dX0_agree_62 : decode cX0_agree 62 = .ok (.iload_n 2, 1) := by decide +kernel
theorem dX0_agree_63 : decode cX0_agree 63 = .ok (.invokestatic 60, 3) := by decide +kernel
theorem dX0_agree_66 : decode cX0_agree 66 = .ok (.iload_n 3, 1) := by decide +kernel
theorem dX0_agree_67 : decode cX0_agree 67 = .ok (.invokestatic 100, 3) := by decide +kernel
theorem dX0_agree_70 : decode cX0_agree 70 = .ok (.ifCond .eq 27, 3) := by decide +kernel
theorem dX0_agree_73 : decode cX0_agree 73 = .ok (.iload 5, 2) := by decide +kernel
theorem dX0_agree_75 : decode cX0_agree 75 = .ok (.aload_n 0, 1) := by decide +kernel
theorem dX0_agree_76 : decode cX0_agree 76 = .ok (.getfield 9, 3) := by decide +kernel
theorem dX0_agree_79 : decode cX0_agree 79 = .ok (.getfield 97, 3) := by decide +kernel
theorem dX0_agree_82 : decode cX0_agree 82 = .ok (.iload_n 2, 1) := by decide +kernel
theorem dX0_agree_83 : decode cX0_agree 83 = .ok (.invokestatic 60, 3) := by decide +kernel
theorem dX0_agree_86 : decode cX0_agree 86 = .ok (.iload_n 3, 1) := by decide +kernel
theorem dX0_agree_87 : decode cX0_agree 87 = .ok (.invokestatic 100, 3) := by decide +kernel
theorem dX0_agree_90 : decode cX0_agree 90 = .ok (.ifCond .eq 7, 3) := by decide +kernel
theorem dX0_agree_93 : decode cX0_agree 93 = .ok (.iconst 1, 1) := by decide +kernel
theorem dX0_agree_94 : decode cX0_agree 94 = .ok (.goto 4, 3) := by decide +kernel
theorem dX0_agree_97 : decode cX0_agree 97 = .ok (.iconst 0, 1) := by decide +kernel
theorem dX0_agree_98 : decode cX0_agree 98 = .ok (.ireturn, 1) := by decide +kernel
theorem dX0_isChosenWith_0 : decode cX0_isChosenWith 0 = .ok (.iload_n 1, 1) := by decide +kernel
theorem dX0_isChosenWith_1 : decode cX0_isChosenWith 1 = .ok (.iconst 1, 1) := by decide +kernel
theorem dX0_isChosenWith_2 : decode cX0_isChosenWith 2 = .ok (.if_icmp .ne 22, 3) := by decide +kernel
theorem dX0_isChosenWith_5 : decode cX0_isChosenWith 5 = .ok (.aload_n 0, 1) := by decide +kernel
theorem dX0_isChosenWith_6 : decode cX0_isChosenWith 6 = .ok (.getfield 9, 3) := by decide +kernel
theorem dX0_isChosenWith_9 : decode cX0_isChosenWith 9 = .ok (.getfield 85, 3) := by decide +kernel
theorem dX0_isChosenWith_12 : decode cX0_isChosenWith 12 = .ok (.iload_n 2, 1) := by decide +kernel
theorem dX0_isChosenWith_13 : decode cX0_isChosenWith 13 = .ok (.invokestatic 60, 3) := by decide +kernel
theorem dX0_isChosenWith_16 : decode cX0_isChosenWith 16 = .ok (.iconst 3, 1) := by decide +kernel
theorem dX0_isChosenWith_17 : decode cX0_isChosenWith 17 = .ok (.if_icmp .ne 7, 3) := by decide +kernel
theorem dX0_isChosenWith_20 : decode cX0_isChosenWith 20 = .ok (.iconst 1, 1) := by decide +kernel
theorem dX0_isChosenWith_21 : decode cX0_isChosenWith 21 = .ok (.goto 4, 3) := by decide +kernel
theorem dX0_isChosenWith_24 : decode cX0_isChosenWith 24 = .ok (.iconst 0, 1) := by decide +kernel
theorem dX0_isChosenWith_25 : decode cX0_isChosenWith 25 = .ok (.ireturn, 1) := by decide +kernel
theorem dX0_firstChoice_0 : decode cX0_firstChoice 0 = .ok (.aload_n 0, 1) := by decide +kernel
theorem dX0_firstChoice_1 : decode cX0_firstChoice 1 = .ok (.iload_n 1, 1) := by decide +kernel
theorem dX0_firstChoice_2 : decode cX0_firstChoice 2 = .ok (.iload_n 2, 1) := by decide +kernel
theorem dX0_firstChoice_3 : decode cX0_firstChoice 3 = .ok (.invokevirtual 103, 3) := by decide +kernel
theorem dX0_firstChoice_6 : decode cX0_firstChoice 6 = .ok (.ifCond .eq 7, 3) := by decide +kernel
theorem dX0_firstChoice_9 : decode cX0_firstChoice 9 = .ok (.iconst 0, 1) := by decide +kernel
theorem dX0_firstChoice_10 : decode cX0_firstChoice 10 = .ok (.goto 5, 3) := by decide +kernel
theorem dX0_firstChoice_13 : decode cX0_firstChoice 13 = .ok (.bipush 9, 2) := by decide +kernel
theorem dX0_firstChoice_15 : decode cX0_firstChoice 15 = .ok (.ireturn, 1) := by decide +kernel
theorem dX0_lastChoice_0 : decode cX0_lastChoice 0 = .ok (.aload_n 0, 1) := by decide +kernel
theorem dX0_lastChoice_1 : decode cX0_lastChoice 1 = .ok (.iload_n 1, 1) := by decide +kernel
theorem dX0_lastChoice_2 : decode cX0_lastChoice 2 = .ok (.iload_n 2, 1) := by decide +kernel
theorem dX0_lastChoice_3 : decode cX0_lastChoice 3 = .ok (.invokevirtual 103, 3) := by decide +kernel
theorem dX0_lastChoice_6 : decode cX0_lastChoice 6 = .ok (.ifCond .eq 10, 3) := by decide +kernel
theorem dX0_lastChoice_9 : decode cX0_lastChoice 9 = .ok (.iload_n 3, 1) := by decide +kernel
theorem dX0_lastChoice_10 : decode cX0_lastChoice 10 = .ok (.invokestatic 88, 3) := by decide +kernel
theorem dX0_lastChoice_13 : decode cX0_lastChoice 13 = .ok (.goto 5, 3) := by decide +kernel
theorem dX0_lastChoice_16 : decode cX0_lastChoice 16 = .ok (.bipush 9, 2) := by decide +kernel
theorem dX0_lastChoice_18 : decode cX0_lastChoice 18 = .ok (.ireturn, 1) := by decide +kernel
theorem dX0_placeOf_0 : decode cX0_placeOf 0 = .ok (.iload_n 3, 1) := by decide +kernel
theorem dX0_placeOf_1 : decode cX0_placeOf 1 = .ok (.invokestatic 107, 3) := by decide +kernel
theorem dX0_placeOf_4 : decode cX0_placeOf 4 = .ok (.istore 4, 2) := by decide +kernel
theorem dX0_placeOf_6 : decode cX0_placeOf 6 = .ok (.iload 4, 2) := by decide +kernel
theorem dX0_placeOf_8 : decode cX0_placeOf 8 = .ok (.iconst (-1), 1) := by decide +kernel
theorem dX0_placeOf_9 : decode cX0_placeOf 9 = .ok (.if_icmp .ne 5, 3) := by decide +kernel
theorem dX0_placeOf_12 : decode cX0_placeOf 12 = .ok (.iconst (-1), 1) := by decide +kernel
theorem dX0_placeOf_13 : decode cX0_placeOf 13 = .ok (.ireturn, 1) := by decide +kernel
theorem dX0_placeOf_14 : decode cX0_placeOf 14 = .ok (.iload_n 1, 1) := by decide +kernel
theorem dX0_placeOf_15 : decode cX0_placeOf 15 = .ok (.iload_n 2, 1) := by decide +kernel
theorem dX0_placeOf_16 : decode cX0_placeOf 16 = .ok (.invokestatic 79, 3) := by decide +kernel
theorem dX0_placeOf_19 : decode cX0_placeOf 19 = .ok (.invokestatic 19, 3) := by decide +kernel
theorem dX0_placeOf_22 : decode cX0_placeOf 22 = .ok (.iload_n 1, 1) := by decide +kernel
theorem dX0_placeOf_23 : decode cX0_placeOf 23 = .ok (.iload_n 2, 1) := by decide +kernel
theorem dX0_placeOf_24 : decode cX0_placeOf 24 = .ok (.invokestatic 67, 3) := by decide +kernel
theorem dX0_placeOf_27 : decode cX0_placeOf 27 = .ok (.iconst 3, 1) := by decide +kernel
theorem dX0_placeOf_28 : decode cX0_placeOf 28 = .ok (.imul, 1) := by decide +kernel
theorem dX0_placeOf_29 : decode cX0_placeOf 29 = .ok (.iconst 5, 1) := by decide +kernel
theorem dX0_placeOf_30 : decode cX0_placeOf 30 = .ok (.imul, 1) := by decide +kernel
theorem dX0_placeOf_31 : decode cX0_placeOf 31 = .ok (.iadd, 1) := by decide +kernel
theorem dX0_placeOf_32 : decode cX0_placeOf 32 = .ok (.istore 5, 2) := by decide +kernel
theorem dX0_placeOf_34 : decode cX0_placeOf 34 = .ok (.iload 5, 2) := by decide +kernel
theorem dX0_placeOf_36 : decode cX0_placeOf 36 = .ok (.iload_n 0, 1) := by decide +kernel
theorem dX0_placeOf_37 : decode cX0_placeOf 37 = .ok (.iconst 5, 1) := by decide +kernel
theorem dX0_placeOf_38 : decode cX0_placeOf 38 = .ok (.imul, 1) := by decide +kernel
theorem dX0_placeOf_39 : decode cX0_placeOf 39 = .ok (.iadd, 1) := by decide +kernel
theorem dX0_placeOf_40 : decode cX0_placeOf 40 = .ok (.iload 4, 2) := by decide +kernel
theorem dX0_placeOf_42 : decode cX0_placeOf 42 = .ok (.iadd, 1) := by decide +kernel
theorem dX0_placeOf_43 : decode cX0_placeOf 43 = .ok (.ireturn, 1) := by decide +kernel
theorem dX0_firstPlace_0 : decode cX0_firstPlace 0 = .ok (.iload_n 0, 1) := by decide +kernel
theorem dX0_firstPlace_1 : decode cX0_firstPlace 1 = .ok (.iload_n 0, 1) := by decide +kernel
theorem dX0_firstPlace_2 : decode cX0_firstPlace 2 = .ok (.iconst 1, 1) := by decide +kernel
theorem dX0_firstPlace_3 : decode cX0_firstPlace 3 = .ok (.isub, 1) := by decide +kernel
theorem dX0_firstPlace_4 : decode cX0_firstPlace 4 = .ok (.imul, 1) := by decide +kernel
theorem dX0_firstPlace_5 : decode cX0_firstPlace 5 = .ok (.iconst 2, 1) := by decide +kernel
theorem dX0_firstPlace_6 : decode cX0_firstPlace 6 = .ok (.idiv, 1) := by decide +kernel
theorem dX0_firstPlace_7 : decode cX0_firstPlace 7 = .ok (.iconst 3, 1) := by decide +kernel
theorem dX0_firstPlace_8 : decode cX0_firstPlace 8 = .ok (.imul, 1) := by decide +kernel
theorem dX0_firstPlace_9 : decode cX0_firstPlace 9 = .ok (.iconst 5, 1) := by decide +kernel
theorem dX0_firstPlace_10 : decode cX0_firstPlace 10 = .ok (.imul, 1) := by decide +kernel
theorem dX0_firstPlace_11 : decode cX0_firstPlace 11 = .ok (.ireturn, 1) := by decide +kernel
theorem dX0_viewOf_0 : decode cX0_viewOf 0 = .ok (.iload_n 0, 1) := by decide +kernel
theorem dX0_viewOf_1 : decode cX0_viewOf 1 = .ok (.iconst 1, 1) := by decide +kernel
theorem dX0_viewOf_2 : decode cX0_viewOf 2 = .ok (.if_icmp .ne 5, 3) := by decide +kernel
theorem dX0_viewOf_5 : decode cX0_viewOf 5 = .ok (.iconst 0, 1) := by decide +kernel
theorem dX0_viewOf_6 : decode cX0_viewOf 6 = .ok (.ireturn, 1) := by decide +kernel
theorem dX0_viewOf_7 : decode cX0_viewOf 7 = .ok (.iconst 3, 1) := by decide +kernel
theorem dX0_viewOf_8 : decode cX0_viewOf 8 = .ok (.iload_n 0, 1) := by decide +kernel
theorem dX0_viewOf_9 : decode cX0_viewOf 9 = .ok (.invokestatic 110, 3) := by decide +kernel
theorem dX0_viewOf_12 : decode cX0_viewOf 12 = .ok (.istore_n 1, 1) := by decide +kernel
theorem dX0_viewOf_13 : decode cX0_viewOf 13 = .ok (.iload_n 0, 1) := by decide +kernel
theorem dX0_viewOf_14 : decode cX0_viewOf 14 = .ok (.iconst 1, 1) := by decide +kernel
theorem dX0_viewOf_15 : decode cX0_viewOf 15 = .ok (.iload_n 1, 1) := by decide +kernel
theorem dX0_viewOf_16 : decode cX0_viewOf 16 = .ok (.invokestatic 91, 3) := by decide +kernel
theorem dX0_viewOf_19 : decode cX0_viewOf 19 = .ok (.if_icmp .ne 7, 3) := by decide +kernel
theorem dX0_viewOf_22 : decode cX0_viewOf 22 = .ok (.iconst 1, 1) := by decide +kernel
theorem dX0_viewOf_23 : decode cX0_viewOf 23 = .ok (.goto 4, 3) := by decide +kernel
theorem dX0_viewOf_26 : decode cX0_viewOf 26 = .ok (.iconst 0, 1) := by decide +kernel
theorem dX0_viewOf_27 : decode cX0_viewOf 27 = .ok (.istore_n 2, 1) := by decide +kernel
theorem dX0_viewOf_28 : decode cX0_viewOf 28 = .ok (.iload_n 2, 1) := by decide +kernel
theorem dX0_viewOf_29 : decode cX0_viewOf 29 = .ok (.ifCond .eq 9, 3) := by decide +kernel
theorem dX0_viewOf_32 : decode cX0_viewOf 32 = .ok (.iconst 1, 1) := by decide +kernel
theorem dX0_viewOf_33 : decode cX0_viewOf 33 = .ok (.iload_n 1, 1) := by decide +kernel
theorem dX0_viewOf_34 : decode cX0_viewOf 34 = .ok (.iadd, 1) := by decide +kernel
theorem dX0_viewOf_35 : decode cX0_viewOf 35 = .ok (.goto 4, 3) := by decide +kernel
theorem dX0_viewOf_38 : decode cX0_viewOf 38 = .ok (.iconst (-1), 1) := by decide +kernel
theorem dX0_viewOf_39 : decode cX0_viewOf 39 = .ok (.ireturn, 1) := by decide +kernel
theorem dX1_with_0 : decode cX1_with 0 = .ok (.iload_n 0, 1) := by decide +kernel
theorem dX1_with_1 : decode cX1_with 1 = .ok (.iconst 3, 1) := by decide +kernel
theorem dX1_with_2 : decode cX1_with 2 = .ok (.ishl, 1) := by decide +kernel
theorem dX1_with_3 : decode cX1_with 3 = .ok (.iload_n 1, 1) := by decide +kernel
theorem dX1_with_4 : decode cX1_with 4 = .ok (.ior, 1) := by decide +kernel
theorem dX1_with_5 : decode cX1_with 5 = .ok (.ireturn, 1) := by decide +kernel
theorem dX1_valueOf_0 : decode cX1_valueOf 0 = .ok (.iload_n 0, 1) := by decide +kernel
theorem dX1_valueOf_1 : decode cX1_valueOf 1 = .ok (.iconst 3, 1) := by decide +kernel
theorem dX1_valueOf_2 : decode cX1_valueOf 2 = .ok (.if_icmp .ge 5, 3) := by decide +kernel
theorem dX1_valueOf_5 : decode cX1_valueOf 5 = .ok (.iload_n 0, 1) := by decide +kernel
theorem dX1_valueOf_6 : decode cX1_valueOf 6 = .ok (.ireturn, 1) := by decide +kernel
theorem dX1_valueOf_7 : decode cX1_valueOf 7 = .ok (.iload_n 1, 1) := by decide +kernel
theorem dX1_valueOf_8 : decode cX1_valueOf 8 = .ok (.iconst 3, 1) := by decide +kernel
theorem dX1_valueOf_9 : decode cX1_valueOf 9 = .ok (.iload_n 0, 1) := by decide +kernel
theorem dX1_valueOf_10 : decode cX1_valueOf 10 = .ok (.iconst 3, 1) := by decide +kernel
theorem dX1_valueOf_11 : decode cX1_valueOf 11 = .ok (.isub, 1) := by decide +kernel
theorem dX1_valueOf_12 : decode cX1_valueOf 12 = .ok (.imul, 1) := by decide +kernel
theorem dX1_valueOf_13 : decode cX1_valueOf 13 = .ok (.ishr, 1) := by decide +kernel
theorem dX1_valueOf_14 : decode cX1_valueOf 14 = .ok (.bipush 7, 2) := by decide +kernel
theorem dX1_valueOf_16 : decode cX1_valueOf 16 = .ok (.iand, 1) := by decide +kernel
theorem dX1_valueOf_17 : decode cX1_valueOf 17 = .ok (.ireturn, 1) := by decide +kernel
theorem dX1_areEqual_0 : decode cX1_areEqual 0 = .ok (.iload_n 0, 1) := by decide +kernel
theorem dX1_areEqual_1 : decode cX1_areEqual 1 = .ok (.iload_n 2, 1) := by decide +kernel
theorem dX1_areEqual_2 : decode cX1_areEqual 2 = .ok (.invokestatic 11, 3) := by decide +kernel
theorem dX1_areEqual_5 : decode cX1_areEqual 5 = .ok (.iload_n 1, 1) := by decide +kernel
theorem dX1_areEqual_6 : decode cX1_areEqual 6 = .ok (.iload_n 2, 1) := by decide +kernel
theorem dX1_areEqual_7 : decode cX1_areEqual 7 = .ok (.invokestatic 11, 3) := by decide +kernel
theorem dX1_areEqual_10 : decode cX1_areEqual 10 = .ok (.if_icmp .ne 7, 3) := by decide +kernel
theorem dX1_areEqual_13 : decode cX1_areEqual 13 = .ok (.iconst 1, 1) := by decide +kernel
theorem dX1_areEqual_14 : decode cX1_areEqual 14 = .ok (.goto 4, 3) := by decide +kernel
theorem dX1_areEqual_17 : decode cX1_areEqual 17 = .ok (.iconst 0, 1) := by decide +kernel
theorem dX1_areEqual_18 : decode cX1_areEqual 18 = .ok (.ireturn, 1) := by decide +kernel
theorem dX1_nextFresh_0 : decode cX1_nextFresh 0 = .ok (.iconst 3, 1) := by decide +kernel
theorem dX1_nextFresh_1 : decode cX1_nextFresh 1 = .ok (.istore_n 1, 1) := by decide +kernel
theorem dX1_nextFresh_2 : decode cX1_nextFresh 2 = .ok (.iconst 3, 1) := by decide +kernel
theorem dX1_nextFresh_3 : decode cX1_nextFresh 3 = .ok (.istore_n 2, 1) := by decide +kernel
theorem dX1_nextFresh_4 : decode cX1_nextFresh 4 = .ok (.iload_n 2, 1) := by decide +kernel
theorem dX1_nextFresh_5 : decode cX1_nextFresh 5 = .ok (.bipush 6, 2) := by decide +kernel
theorem dX1_nextFresh_7 : decode cX1_nextFresh 7 = .ok (.if_icmp .ge 21, 3) := by decide +kernel
theorem dX1_nextFresh_10 : decode cX1_nextFresh 10 = .ok (.iload_n 1, 1) := by decide +kernel
theorem dX1_nextFresh_11 : decode cX1_nextFresh 11 = .ok (.iload_n 2, 1) := by decide +kernel
theorem dX1_nextFresh_12 : decode cX1_nextFresh 12 = .ok (.iload_n 0, 1) := by decide +kernel
theorem dX1_nextFresh_13 : decode cX1_nextFresh 13 = .ok (.invokestatic 11, 3) := by decide +kernel
theorem dX1_nextFresh_16 : decode cX1_nextFresh 16 = .ok (.iconst 1, 1) := by decide +kernel
theorem dX1_nextFresh_17 : decode cX1_nextFresh 17 = .ok (.iadd, 1) := by decide +kernel
theorem dX1_nextFresh_18 : decode cX1_nextFresh 18 = .ok (.invokestatic 15, 3) := by decide +kernel
theorem dX1_nextFresh_21 : decode cX1_nextFresh 21 = .ok (.istore_n 1, 1) := by decide +kernel
theorem dX1_nextFresh_22 : decode cX1_nextFresh 22 = .ok (.iinc 2 1, 3) := by decide +kernel
theorem dX1_nextFresh_25 : decode cX1_nextFresh 25 = .ok (.goto (-21), 3) := by decide +kernel
theorem dX1_nextFresh_28 : decode cX1_nextFresh 28 = .ok (.iload_n 1, 1) := by decide +kernel
theorem dX1_nextFresh_29 : decode cX1_nextFresh 29 = .ok (.ireturn, 1) := by decide +kernel
theorem dX2_init_0 : decode cX2_init 0 = .ok (.aload_n 0, 1) := by decide +kernel
theorem dX2_init_1 : decode cX2_init 1 = .ok (.invokespecial 3, 3) := by decide +kernel
theorem dX2_init_4 : decode cX2_init 4 = .ok (.aload_n 0, 1) := by decide +kernel
theorem dX2_init_5 : decode cX2_init 5 = .ok (.bipush 24, 2) := by decide +kernel
theorem dX2_init_7 : decode cX2_init 7 = .ok (.newarray .int, 2) := by decide +kernel
theorem dX2_init_9 : decode cX2_init 9 = .ok (.putfield 9, 3) := by decide +kernel
theorem dX2_init_12 : decode cX2_init 12 = .ok (.aload_n 0, 1) := by decide +kernel
theorem dX2_init_13 : decode cX2_init 13 = .ok (.bipush 24, 2) := by decide +kernel
theorem dX2_init_15 : decode cX2_init 15 = .ok (.newarray .int, 2) := by decide +kernel
theorem dX2_init_17 : decode cX2_init 17 = .ok (.putfield 15, 3) := by decide +kernel
theorem dX2_init_20 : decode cX2_init 20 = .ok (.aload_n 0, 1) := by decide +kernel
theorem dX2_init_21 : decode cX2_init 21 = .ok (.bipush 24, 2) := by decide +kernel
theorem dX2_init_23 : decode cX2_init 23 = .ok (.newarray .int, 2) := by decide +kernel
theorem dX2_init_25 : decode cX2_init 25 = .ok (.putfield 18, 3) := by decide +kernel
theorem dX2_init_28 : decode cX2_init 28 = .ok (.aload_n 0, 1) := by decide +kernel
theorem dX2_init_29 : decode cX2_init 29 = .ok (.bipush 24, 2) := by decide +kernel
theorem dX2_init_31 : decode cX2_init 31 = .ok (.newarray .int, 2) := by decide +kernel
theorem dX2_init_33 : decode cX2_init 33 = .ok (.putfield 21, 3) := by decide +kernel
theorem dX2_init_36 : decode cX2_init 36 = .ok (.aload_n 0, 1) := by decide +kernel
theorem dX2_init_37 : decode cX2_init 37 = .ok (.bipush 24, 2) := by decide +kernel
theorem dX2_init_39 : decode cX2_init 39 = .ok (.newarray .int, 2) := by decide +kernel
theorem dX2_init_41 : decode cX2_init 41 = .ok (.putfield 24, 3) := by decide +kernel
theorem dX2_init_44 : decode cX2_init 44 = .ok (.aload_n 0, 1) := by decide +kernel
theorem dX2_init_45 : decode cX2_init 45 = .ok (.bipush 24, 2) := by decide +kernel
theorem dX2_init_47 : decode cX2_init 47 = .ok (.newarray .int, 2) := by decide +kernel
theorem dX2_init_49 : decode cX2_init 49 = .ok (.putfield 27, 3) := by decide +kernel
theorem dX2_init_52 : decode cX2_init 52 = .ok (.aload_n 0, 1) := by decide +kernel
theorem dX2_init_53 : decode cX2_init 53 = .ok (.bipush 24, 2) := by decide +kernel
theorem dX2_init_55 : decode cX2_init 55 = .ok (.newarray .int, 2) := by decide +kernel
theorem dX2_init_57 : decode cX2_init 57 = .ok (.putfield 30, 3) := by decide +kernel
theorem dX2_init_60 : decode cX2_init 60 = .ok (.aload_n 0, 1) := by decide +kernel
theorem dX2_init_61 : decode cX2_init 61 = .ok (.bipush 24, 2) := by decide +kernel
theorem dX2_init_63 : decode cX2_init 63 = .ok (.newarray .int, 2) := by decide +kernel
theorem dX2_init_65 : decode cX2_init 65 = .ok (.putfield 33, 3) := by decide +kernel
theorem dX2_init_68 : decode cX2_init 68 = .ok (.aload_n 0, 1) := by decide +kernel
theorem dX2_init_69 : decode cX2_init 69 = .ok (.invokestatic 36, 3) := by decide +kernel
theorem dX2_init_72 : decode cX2_init 72 = .ok (.putfield 40, 3) := by decide +kernel
theorem dX2_init_75 : decode cX2_init 75 = .ok (.aload_n 0, 1) := by decide +kernel
theorem dX2_init_76 : decode cX2_init 76 = .ok (.bipush 72, 2) := by decide +kernel
theorem dX2_init_78 : decode cX2_init 78 = .ok (.newarray .int, 2) := by decide +kernel
theorem dX2_init_80 : decode cX2_init 80 = .ok (.putfield 43, 3) := by decide +kernel
theorem dX2_init_83 : decode cX2_init 83 = .ok (.aload_n 0, 1) := by decide +kernel
theorem dX2_init_84 : decode cX2_init 84 = .ok (.bipush 72, 2) := by decide +kernel
theorem dX2_init_86 : decode cX2_init 86 = .ok (.newarray .long, 2) := by decide +kernel
theorem dX2_init_88 : decode cX2_init 88 = .ok (.putfield 46, 3) := by decide +kernel
theorem dX2_init_91 : decode cX2_init 91 = .ok (.aload_n 0, 1) := by decide +kernel
theorem dX2_init_92 : decode cX2_init 92 = .ok (.iconst 1, 1) := by decide +kernel
theorem dX2_init_93 : decode cX2_init 93 = .ok (.putfield 50, 3) := by decide +kernel
theorem dX2_init_96 : decode cX2_init 96 = .ok (.return_, 1) := by decide +kernel
theorem dX2_lengthsOfNew_0 : decode cX2_lengthsOfNew 0 = .ok (.bipush 24, 2) := by decide +kernel
theorem dX2_lengthsOfNew_2 : decode cX2_lengthsOfNew 2 = .ok (.newarray .int, 2) := by decide +kernel
theorem dX2_lengthsOfNew_4 : decode cX2_lengthsOfNew 4 = .ok (.astore_n 0, 1) := by decide +kernel
theorem dX2_lengthsOfNew_5 : decode cX2_lengthsOfNew 5 = .ok (.aload_n 0, 1) := by decide +kernel
theorem dX2_lengthsOfNew_6 : decode cX2_lengthsOfNew 6 = .ok (.iconst 0, 1) := by decide +kernel
theorem dX2_lengthsOfNew_7 : decode cX2_lengthsOfNew 7 = .ok (.iconst 0, 1) := by decide +kernel
theorem dX2_lengthsOfNew_8 : decode cX2_lengthsOfNew 8 = .ok (.invokestatic 54, 3) := by decide +kernel
theorem dX2_lengthsOfNew_11 : decode cX2_lengthsOfNew 11 = .ok (.invokevirtual 58, 3) := by decide +kernel
theorem dX2_lengthsOfNew_14 : decode cX2_lengthsOfNew 14 = .ok (.invokestatic 64, 3) := by decide +kernel
theorem dX2_lengthsOfNew_17 : decode cX2_lengthsOfNew 17 = .ok (.aload_n 0, 1) := by decide +kernel
theorem dX2_lengthsOfNew_18 : decode cX2_lengthsOfNew 18 = .ok (.areturn, 1) := by decide +kernel
theorem dX2_holds_0 : decode cX2_holds 0 = .ok (.iload_n 1, 1) := by decide +kernel
theorem dX2_holds_1 : decode cX2_holds 1 = .ok (.ifCond .lt 15, 3) := by decide +kernel
theorem dX2_holds_4 : decode cX2_holds 4 = .ok (.iload_n 1, 1) := by decide +kernel
theorem dX2_holds_5 : decode cX2_holds 5 = .ok (.aload_n 0, 1) := by decide +kernel
theorem dX2_holds_6 : decode cX2_holds 6 = .ok (.getfield 50, 3) := by decide +kernel
theorem dX2_holds_9 : decode cX2_holds 9 = .ok (.if_icmp .ge 7, 3) := by decide +kernel
theorem dX2_holds_12 : decode cX2_holds 12 = .ok (.iconst 1, 1) := by decide +kernel
theorem dX2_holds_13 : decode cX2_holds 13 = .ok (.goto 4, 3) := by decide +kernel
theorem dX2_holds_16 : decode cX2_holds 16 = .ok (.iconst 0, 1) := by decide +kernel
theorem dX2_holds_17 : decode cX2_holds 17 = .ok (.ireturn, 1) := by decide +kernel
theorem dX2_isClosed_0 : decode cX2_isClosed 0 = .ok (.aload_n 0, 1) := by decide +kernel
theorem dX2_isClosed_1 : decode cX2_isClosed 1 = .ok (.getfield 33, 3) := by decide +kernel
theorem dX2_isClosed_4 : decode cX2_isClosed 4 = .ok (.iload_n 1, 1) := by decide +kernel
theorem dX2_isClosed_5 : decode cX2_isClosed 5 = .ok (.invokestatic 68, 3) := by decide +kernel
theorem dX2_isClosed_8 : decode cX2_isClosed 8 = .ok (.ifCond .ne 7, 3) := by decide +kernel
theorem dX2_isClosed_11 : decode cX2_isClosed 11 = .ok (.iconst 1, 1) := by decide +kernel
theorem dX2_isClosed_12 : decode cX2_isClosed 12 = .ok (.goto 4, 3) := by decide +kernel
theorem dX2_isClosed_15 : decode cX2_isClosed 15 = .ok (.iconst 0, 1) := by decide +kernel
theorem dX2_isClosed_16 : decode cX2_isClosed 16 = .ok (.ireturn, 1) := by decide +kernel
theorem dX2_isAction_0 : decode cX2_isAction 0 = .ok (.iload_n 0, 1) := by decide +kernel
theorem dX2_isAction_1 : decode cX2_isAction 1 = .ok (.iconst 1, 1) := by decide +kernel
theorem dX2_isAction_2 : decode cX2_isAction 2 = .ok (.if_icmp .eq 13, 3) := by decide +kernel
theorem dX2_isAction_5 : decode cX2_isAction 5 = .ok (.iload_n 0, 1) := by decide +kernel
theorem dX2_isAction_6 : decode cX2_isAction 6 = .ok (.iconst 2, 1) := by decide +kernel
theorem dX2_isAction_7 : decode cX2_isAction 7 = .ok (.if_icmp .eq 8, 3) := by decide +kernel
theorem dX2_isAction_10 : decode cX2_isAction 10 = .ok (.iload_n 0, 1) := by decide +kernel
theorem dX2_isAction_11 : decode cX2_isAction 11 = .ok (.iconst 3, 1) := by decide +kernel
theorem dX2_isAction_12 : decode cX2_isAction 12 = .ok (.if_icmp .ne 7, 3) := by decide +kernel
theorem dX2_isAction_15 : decode cX2_isAction 15 = .ok (.iconst 1, 1) := by decide +kernel
theorem dX2_isAction_16 : decode cX2_isAction 16 = .ok (.goto 4, 3) := by decide +kernel
theorem dX2_isAction_19 : decode cX2_isAction 19 = .ok (.iconst 0, 1) := by decide +kernel
theorem dX2_isAction_20 : decode cX2_isAction 20 = .ok (.ireturn, 1) := by decide +kernel
theorem dX2_build_0 : decode cX2_build 0 = .ok (.aload_n 0, 1) := by decide +kernel
theorem dX2_build_1 : decode cX2_build 1 = .ok (.getfield 27, 3) := by decide +kernel
theorem dX2_build_4 : decode cX2_build 4 = .ok (.iload 4, 2) := by decide +kernel
theorem dX2_build_6 : decode cX2_build 6 = .ok (.invokestatic 68, 3) := by decide +kernel
theorem dX2_build_9 : decode cX2_build 9 = .ok (.aload_n 0, 1) := by decide +kernel
theorem dX2_build_10 : decode cX2_build 10 = .ok (.getfield 27, 3) := by decide +kernel
theorem dX2_build_13 : decode cX2_build 13 = .ok (.iload 5, 2) := by decide +kernel
theorem dX2_build_15 : decode cX2_build 15 = .ok (.invokestatic 68, 3) := by decide +kernel
theorem dX2_build_18 : decode cX2_build 18 = .ok (.invokestatic 72, 3) := by decide +kernel
theorem dX2_build_21 : decode cX2_build 21 = .ok (.iload_n 1, 1) := by decide +kernel
theorem dX2_build_22 : decode cX2_build 22 = .ok (.invokestatic 78, 3) := by decide +kernel
theorem dX2_build_25 : decode cX2_build 25 = .ok (.ifCond .eq 7, 3) := by decide +kernel
theorem dX2_build_28 : decode cX2_build 28 = .ok (.iconst 1, 1) := by decide +kernel
theorem dX2_build_29 : decode cX2_build 29 = .ok (.goto 4, 3) := by decide +kernel
theorem dX2_build_32 : decode cX2_build 32 = .ok (.iconst 0, 1) := by decide +kernel
theorem dX2_build_33 : decode cX2_build 33 = .ok (.iadd, 1) := by decide +kernel
theorem dX2_build_34 : decode cX2_build 34 = .ok (.istore 6, 2) := by decide +kernel
theorem dX2_build_36 : decode cX2_build 36 = .ok (.iload_n 1, 1) := by decide +kernel
theorem dX2_build_37 : decode cX2_build 37 = .ok (.invokestatic 78, 3) := by decide +kernel
theorem dX2_build_40 : decode cX2_build 40 = .ok (.ifCond .eq 7, 3) := by decide +kernel
theorem dX2_build_43 : decode cX2_build 43 = .ok (.iconst 1, 1) := by decide +kernel
theorem dX2_build_44 : decode cX2_build 44 = .ok (.goto 22, 3) := by decide +kernel
theorem dX2_build_47 : decode cX2_build 47 = .ok (.aload_n 0, 1) := by decide +kernel
theorem dX2_build_48 : decode cX2_build 48 = .ok (.getfield 30, 3) := by decide +kernel
theorem dX2_build_51 : decode cX2_build 51 = .ok (.iload 4, 2) := by decide +kernel
theorem dX2_build_53 : decode cX2_build 53 = .ok (.invokestatic 68, 3) := by decide +kernel
theorem dX2_build_56 : decode cX2_build 56 = .ok (.aload_n 0, 1) := by decide +kernel
theorem dX2_build_57 : decode cX2_build 57 = .ok (.getfield 30, 3) := by decide +kernel
theorem dX2_build_60 : decode cX2_build 60 = .ok (.iload 5, 2) := by decide +kernel
theorem dX2_build_62 : decode cX2_build 62 = .ok (.invokestatic 68, 3) := by decide +kernel
theorem dX2_build_65 : decode cX2_build 65 = .ok (.iadd, 1) := by decide +kernel
theorem dX2_build_66 : decode cX2_build 66 = .ok (.istore 7, 2) := by decide +kernel
theorem dX2_build_68 : decode cX2_build 68 = .ok (.aload_n 0, 1) := by decide +kernel
theorem dX2_build_69 : decode cX2_build 69 = .ok (.getfield 50, 3) := by decide +kernel
theorem dX2_build_72 : decode cX2_build 72 = .ok (.bipush 24, 2) := by decide +kernel
theorem dX2_build_74 : decode cX2_build 74 = .ok (.if_icmp .ge 15, 3) := by decide +kernel
theorem dX2_build_77 : decode cX2_build 77 = .ok (.iload 6, 2) := by decide +kernel
theorem dX2_build_79 : decode cX2_build 79 = .ok (.iconst 3, 1) := by decide +kernel
theorem dX2_build_80 : decode cX2_build 80 = .ok (.if_icmp .gt 9, 3) := by decide +kernel
theorem dX2_build_83 : decode cX2_build 83 = .ok (.iload 7, 2) := by decide +kernel
theorem dX2_build_85 : decode cX2_build 85 = .ok (.iconst 3, 1) := by decide +kernel
theorem dX2_build_86 : decode cX2_build 86 = .ok (.if_icmp .le 6, 3) := by decide +kernel
theorem dX2_build_89 : decode cX2_build 89 = .ok (.bipush (-3), 2) := by decide +kernel
theorem dX2_build_91 : decode cX2_build 91 = .ok (.ireturn, 1) := by decide +kernel
theorem dX2_build_92 : decode cX2_build 92 = .ok (.aload_n 0, 1) := by decide +kernel
theorem dX2_build_93 : decode cX2_build 93 = .ok (.getfield 50, 3) := by decide +kernel
theorem dX2_build_96 : decode cX2_build 96 = .ok (.istore 8, 2) := by decide +kernel
theorem dX2_build_98 : decode cX2_build 98 = .ok (.aload_n 0, 1) := by decide +kernel
theorem dX2_build_99 : decode cX2_build 99 = .ok (.iload 8, 2) := by decide +kernel
theorem dX2_build_101 : decode cX2_build 101 = .ok (.iconst 1, 1) := by decide +kernel
theorem dX2_build_102 : decode cX2_build 102 = .ok (.iadd, 1) := by decide +kernel
theorem dX2_build_103 : decode cX2_build 103 = .ok (.putfield 50, 3) := by decide +kernel
theorem dX2_build_106 : decode cX2_build 106 = .ok (.aload_n 0, 1) := by decide +kernel
theorem dX2_build_107 : decode cX2_build 107 = .ok (.getfield 9, 3) := by decide +kernel
theorem dX2_build_110 : decode cX2_build 110 = .ok (.iload 8, 2) := by decide +kernel
theorem dX2_build_112 : decode cX2_build 112 = .ok (.iload_n 1, 1) := by decide +kernel
theorem dX2_build_113 : decode cX2_build 113 = .ok (.invokestatic 64, 3) := by decide +kernel
theorem dX2_build_116 : decode cX2_build 116 = .ok (.aload_n 0, 1) := by decide +kernel
theorem dX2_build_117 : decode cX2_build 117 = .ok (.getfield 15, 3) := by decide +kernel
theorem dX2_build_120 : decode cX2_build 120 = .ok (.iload 8, 2) := by decide +kernel
theorem dX2_build_122 : decode cX2_build 122 = .ok (.iload_n 2, 1) := by decide +kernel
theorem dX2_build_123 : decode cX2_build 123 = .ok (.invokestatic 64, 3) := by decide +kernel
theorem dX2_build_126 : decode cX2_build 126 = .ok (.aload_n 0, 1) := by decide +kernel
theorem dX2_build_127 : decode cX2_build 127 = .ok (.getfield 18, 3) := by decide +kernel
theorem dX2_build_130 : decode cX2_build 130 = .ok (.iload 8, 2) := by decide +kernel
theorem dX2_build_132 : decode cX2_build 132 = .ok (.iload_n 3, 1) := by decide +kernel
theorem dX2_build_133 : decode cX2_build 133 = .ok (.invokestatic 64, 3) := by decide +kernel
theorem dX2_build_136 : decode cX2_build 136 = .ok (.aload_n 0, 1) := by decide +kernel
theorem dX2_build_137 : decode cX2_build 137 = .ok (.getfield 21, 3) := by decide +kernel
theorem dX2_build_140 : decode cX2_build 140 = .ok (.iload 8, 2) := by decide +kernel
theorem dX2_build_142 : decode cX2_build 142 = .ok (.iload 4, 2) := by decide +kernel
theorem dX2_build_144 : decode cX2_build 144 = .ok (.invokestatic 64, 3) := by decide +kernel
theorem dX2_build_147 : decode cX2_build 147 = .ok (.aload_n 0, 1) := by decide +kernel
theorem dX2_build_148 : decode cX2_build 148 = .ok (.getfield 24, 3) := by decide +kernel
theorem dX2_build_151 : decode cX2_build 151 = .ok (.iload 8, 2) := by decide +kernel
theorem dX2_build_153 : decode cX2_build 153 = .ok (.iload 5, 2) := by decide +kernel
theorem dX2_build_155 : decode cX2_build 155 = .ok (.invokestatic 64, 3) := by decide +kernel
theorem dX2_build_158 : decode cX2_build 158 = .ok (.aload_n 0, 1) := by decide +kernel
theorem dX2_build_159 : decode cX2_build 159 = .ok (.getfield 27, 3) := by decide +kernel
theorem dX2_build_162 : decode cX2_build 162 = .ok (.iload 8, 2) := by decide +kernel
theorem dX2_build_164 : decode cX2_build 164 = .ok (.iload 6, 2) := by decide +kernel
theorem dX2_build_166 : decode cX2_build 166 = .ok (.invokestatic 64, 3) := by decide +kernel
theorem dX2_build_169 : decode cX2_build 169 = .ok (.aload_n 0, 1) := by decide +kernel
theorem dX2_build_170 : decode cX2_build 170 = .ok (.getfield 30, 3) := by decide +kernel
theorem dX2_build_173 : decode cX2_build 173 = .ok (.iload 8, 2) := by decide +kernel
theorem dX2_build_175 : decode cX2_build 175 = .ok (.iload 7, 2) := by decide +kernel
theorem dX2_build_177 : decode cX2_build 177 = .ok (.invokestatic 64, 3) := by decide +kernel
theorem dX2_build_180 : decode cX2_build 180 = .ok (.aload_n 0, 1) := by decide +kernel
theorem dX2_build_181 : decode cX2_build 181 = .ok (.getfield 33, 3) := by decide +kernel
theorem dX2_build_184 : decode cX2_build 184 = .ok (.iload 8, 2) := by decide +kernel
theorem dX2_build_186 : decode cX2_build 186 = .ok (.aload_n 0, 1) := by decide +kernel
theorem dX2_build_187 : decode cX2_build 187 = .ok (.iload_n 1, 1) := by decide +kernel
theorem dX2_build_188 : decode cX2_build 188 = .ok (.iload_n 2, 1) := by decide +kernel
theorem dX2_build_189 : decode cX2_build 189 = .ok (.iload_n 3, 1) := by decide +kernel
theorem dX2_build_190 : decode cX2_build 190 = .ok (.iload 4, 2) := by decide +kernel
theorem dX2_build_192 : decode cX2_build 192 = .ok (.iload 5, 2) := by decide +kernel
theorem dX2_build_194 : decode cX2_build 194 = .ok (.invokevirtual 82, 3) := by decide +kernel
theorem dX2_build_197 : decode cX2_build 197 = .ok (.invokestatic 64, 3) := by decide +kernel
theorem dX2_build_200 : decode cX2_build 200 = .ok (.aload_n 0, 1) := by decide +kernel
theorem dX2_build_201 : decode cX2_build 201 = .ok (.getfield 40, 3) := by decide +kernel
theorem dX2_build_204 : decode cX2_build 204 = .ok (.iload 8, 2) := by decide +kernel
theorem dX2_build_206 : decode cX2_build 206 = .ok (.aload_n 0, 1) := by decide +kernel
theorem dX2_build_207 : decode cX2_build 207 = .ok (.iload_n 1, 1) := by decide +kernel
theorem dX2_build_208 : decode cX2_build 208 = .ok (.iload 4, 2) := by decide +kernel
theorem dX2_build_210 : decode cX2_build 210 = .ok (.iload 5, 2) := by decide +kernel
theorem dX2_build_212 : decode cX2_build 212 = .ok (.invokevirtual 86, 3) := by decide +kernel
theorem dX2_build_215 : decode cX2_build 215 = .ok (.invokestatic 64, 3) := by decide +kernel
theorem dX2_build_218 : decode cX2_build 218 = .ok (.aload_n 0, 1) := by decide +kernel
theorem dX2_build_219 : decode cX2_build 219 = .ok (.iload 8, 2) := by decide +kernel
theorem dX2_build_221 : decode cX2_build 221 = .ok (.iload_n 1, 1) := by decide +kernel
theorem dX2_build_222 : decode cX2_build 222 = .ok (.iload_n 2, 1) := by decide +kernel
theorem dX2_build_223 : decode cX2_build 223 = .ok (.iload_n 3, 1) := by decide +kernel
theorem dX2_build_224 : decode cX2_build 224 = .ok (.iload 4, 2) := by decide +kernel
theorem dX2_build_226 : decode cX2_build 226 = .ok (.iload 5, 2) := by decide +kernel
theorem dX2_build_228 : decode cX2_build 228 = .ok (.invokevirtual 90, 3) := by decide +kernel
theorem dX2_build_231 : decode cX2_build 231 = .ok (.iload 8, 2) := by decide +kernel
theorem dX2_build_233 : decode cX2_build 233 = .ok (.ireturn, 1) := by decide +kernel
theorem dX2_needFor_0 : decode cX2_needFor 0 = .ok (.iload_n 2, 1) := by decide +kernel
theorem dX2_needFor_1 : decode cX2_needFor 1 = .ok (.iload_n 3, 1) := by decide +kernel
theorem dX2_needFor_2 : decode cX2_needFor 2 = .ok (.invokestatic 72, 3) := by decide +kernel
theorem dX2_needFor_5 : decode cX2_needFor 5 = .ok (.iconst 2, 1) := by decide +kernel
theorem dX2_needFor_6 : decode cX2_needFor 6 = .ok (.isub, 1) := by decide +kernel
theorem dX2_needFor_7 : decode cX2_needFor 7 = .ok (.istore 6, 2) := by decide +kernel
theorem dX2_needFor_9 : decode cX2_needFor 9 = .ok (.aload_n 0, 1) := by decide +kernel
theorem dX2_needFor_10 : decode cX2_needFor 10 = .ok (.getfield 33, 3) := by decide +kernel
theorem dX2_needFor_13 : decode cX2_needFor 13 = .ok (.iload 4, 2) := by decide +kernel
theorem dX2_needFor_15 : decode cX2_needFor 15 = .ok (.invokestatic 68, 3) := by decide +kernel
theorem dX2_needFor_18 : decode cX2_needFor 18 = .ok (.iload_n 1, 1) := by decide +kernel
theorem dX2_needFor_19 : decode cX2_needFor 19 = .ok (.iconst 3, 1) := by decide +kernel
theorem dX2_needFor_20 : decode cX2_needFor 20 = .ok (.if_icmp .ne 7, 3) := by decide +kernel
theorem dX2_needFor_23 : decode cX2_needFor 23 = .ok (.iconst 1, 1) := by decide +kernel
theorem dX2_needFor_24 : decode cX2_needFor 24 = .ok (.goto 4, 3) := by decide +kernel
theorem dX2_needFor_27 : decode cX2_needFor 27 = .ok (.iconst 0, 1) := by decide +kernel
theorem dX2_needFor_28 : decode cX2_needFor 28 = .ok (.isub, 1) := by decide +kernel
theorem dX2_needFor_29 : decode cX2_needFor 29 = .ok (.istore 7, 2) := by decide +kernel
theorem dX2_needFor_31 : decode cX2_needFor 31 = .ok (.iload 7, 2) := by decide +kernel
theorem dX2_needFor_33 : decode cX2_needFor 33 = .ok (.aload_n 0, 1) := by decide +kernel
theorem dX2_needFor_34 : decode cX2_needFor 34 = .ok (.getfield 33, 3) := by decide +kernel
theorem dX2_needFor_37 : decode cX2_needFor 37 = .ok (.iload 5, 2) := by decide +kernel
theorem dX2_needFor_39 : decode cX2_needFor 39 = .ok (.invokestatic 68, 3) := by decide +kernel
theorem dX2_needFor_42 : decode cX2_needFor 42 = .ok (.invokestatic 72, 3) := by decide +kernel
theorem dX2_needFor_45 : decode cX2_needFor 45 = .ok (.istore 8, 2) := by decide +kernel
theorem dX2_needFor_47 : decode cX2_needFor 47 = .ok (.iconst 0, 1) := by decide +kernel
theorem dX2_needFor_48 : decode cX2_needFor 48 = .ok (.iload 6, 2) := by decide +kernel
theorem dX2_needFor_50 : decode cX2_needFor 50 = .ok (.iload 8, 2) := by decide +kernel
theorem dX2_needFor_52 : decode cX2_needFor 52 = .ok (.invokestatic 72, 3) := by decide +kernel
theorem dX2_needFor_55 : decode cX2_needFor 55 = .ok (.invokestatic 72, 3) := by decide +kernel
theorem dX2_needFor_58 : decode cX2_needFor 58 = .ok (.ireturn, 1) := by decide +kernel
theorem dX2_lengthFor_0 : decode cX2_lengthFor 0 = .ok (.iload_n 1, 1) := by decide +kernel
theorem dX2_lengthFor_1 : decode cX2_lengthFor 1 = .ok (.invokestatic 54, 3) := by decide +kernel
theorem dX2_lengthFor_4 : decode cX2_lengthFor 4 = .ok (.invokevirtual 58, 3) := by decide +kernel
theorem dX2_lengthFor_7 : decode cX2_lengthFor 7 = .ok (.aload_n 0, 1) := by decide +kernel
theorem dX2_lengthFor_8 : decode cX2_lengthFor 8 = .ok (.getfield 40, 3) := by decide +kernel
theorem dX2_lengthFor_11 : decode cX2_lengthFor 11 = .ok (.iload_n 2, 1) := by decide +kernel
theorem dX2_lengthFor_12 : decode cX2_lengthFor 12 = .ok (.invokestatic 68, 3) := by decide +kernel
theorem dX2_lengthFor_15 : decode cX2_lengthFor 15 = .ok (.iadd, 1) := by decide +kernel
theorem dX2_lengthFor_16 : decode cX2_lengthFor 16 = .ok (.istore 4, 2) := by decide +kernel
theorem dX2_lengthFor_18 : decode cX2_lengthFor 18 = .ok (.iload_n 1, 1) := by decide +kernel
theorem dX2_lengthFor_19 : decode cX2_lengthFor 19 = .ok (.iconst 5, 1) := by decide +kernel
theorem dX2_lengthFor_20 : decode cX2_lengthFor 20 = .ok (.if_icmp .ne 18, 3) := by decide +kernel
theorem dX2_lengthFor_23 : decode cX2_lengthFor 23 = .ok (.iload 4, 2) := by decide +kernel
theorem dX2_lengthFor_25 : decode cX2_lengthFor 25 = .ok (.aload_n 0, 1) := by decide +kernel
theorem dX2_lengthFor_26 : decode cX2_lengthFor 26 = .ok (.getfield 40, 3) := by decide +kernel
theorem dX2_lengthFor_29 : decode cX2_lengthFor 29 = .ok (.iload_n 3, 1) := by decide +kernel
theorem dX2_lengthFor_30 : decode cX2_lengthFor 30 = .ok (.invokestatic 68, 3) := by decide +kernel
theorem dX2_lengthFor_33 : decode cX2_lengthFor 33 = .ok (.iconst 2, 1) := by decide +kernel
theorem dX2_lengthFor_34 : decode cX2_lengthFor 34 = .ok (.iadd, 1) := by decide +kernel
theorem dX2_lengthFor_35 : decode cX2_lengthFor 35 = .ok (.iadd, 1) := by decide +kernel
theorem dX2_lengthFor_36 : decode cX2_lengthFor 36 = .ok (.istore 4, 2) := by decide +kernel
theorem dX2_lengthFor_38 : decode cX2_lengthFor 38 = .ok (.iload 4, 2) := by decide +kernel
theorem dX2_lengthFor_40 : decode cX2_lengthFor 40 = .ok (.ireturn, 1) := by decide +kernel
theorem dX2_putActions_0 : decode cX2_putActions 0 = .ok (.iload_n 2, 1) := by decide +kernel
theorem dX2_putActions_1 : decode cX2_putActions 1 = .ok (.invokestatic 78, 3) := by decide +kernel
theorem dX2_putActions_4 : decode cX2_putActions 4 = .ok (.ifCond .eq 26, 3) := by decide +kernel
theorem dX2_putActions_7 : decode cX2_putActions 7 = .ok (.aload_n 0, 1) := by decide +kernel
theorem dX2_putActions_8 : decode cX2_putActions 8 = .ok (.getfield 43, 3) := by decide +kernel
theorem dX2_putActions_11 : decode cX2_putActions 11 = .ok (.iload_n 1, 1) := by decide +kernel
theorem dX2_putActions_12 : decode cX2_putActions 12 = .ok (.iconst 3, 1) := by decide +kernel
theorem dX2_putActions_13 : decode cX2_putActions 13 = .ok (.imul, 1) := by decide +kernel
theorem dX2_putActions_14 : decode cX2_putActions 14 = .ok (.iload_n 1, 1) := by decide +kernel
theorem dX2_putActions_15 : decode cX2_putActions 15 = .ok (.invokestatic 64, 3) := by decide +kernel
theorem dX2_putActions_18 : decode cX2_putActions 18 = .ok (.aload_n 0, 1) := by decide +kernel
theorem dX2_putActions_19 : decode cX2_putActions 19 = .ok (.getfield 46, 3) := by decide +kernel
theorem dX2_putActions_22 : decode cX2_putActions 22 = .ok (.iload_n 1, 1) := by decide +kernel
theorem dX2_putActions_23 : decode cX2_putActions 23 = .ok (.iconst 3, 1) := by decide +kernel
theorem dX2_putActions_24 : decode cX2_putActions 24 = .ok (.imul, 1) := by decide +kernel
theorem dX2_putActions_25 : decode cX2_putActions 25 = .ok (.lconst 0, 1) := by decide +kernel
theorem dX2_putActions_26 : decode cX2_putActions 26 = .ok (.invokestatic 96, 3) := by decide +kernel
theorem dX2_putActions_29 : decode cX2_putActions 29 = .ok (.return_, 1) := by decide +kernel
theorem dX2_putActions_30 : decode cX2_putActions 30 = .ok (.iload_n 2, 1) := by decide +kernel
theorem dX2_putActions_31 : decode cX2_putActions 31 = .ok (.iconst 4, 1) := by decide +kernel
theorem dX2_putActions_32 : decode cX2_putActions 32 = .ok (.if_icmp .ne 15, 3) := by decide +kernel
theorem dX2_putActions_35 : decode cX2_putActions 35 = .ok (.lconst 1, 1) := by decide +kernel
theorem dX2_putActions_36 : decode cX2_putActions 36 = .ok (.iload_n 3, 1) := by decide +kernel
theorem dX2_putActions_37 : decode cX2_putActions 37 = .ok (.bipush 6, 2) := by decide +kernel
theorem dX2_putActions_39 : decode cX2_putActions 39 = .ok (.imul, 1) := by decide +kernel
theorem dX2_putActions_40 : decode cX2_putActions 40 = .ok (.iload 4, 2) := by decide +kernel
theorem dX2_putActions_42 : decode cX2_putActions 42 = .ok (.iadd, 1) := by decide +kernel
theorem dX2_putActions_43 : decode cX2_putActions 43 = .ok (.lshl, 1) := by decide +kernel
theorem dX2_putActions_44 : decode cX2_putActions 44 = .ok (.goto 4, 3) := by decide +kernel
theorem dX2_putActions_47 : decode cX2_putActions 47 = .ok (.lconst 0, 1) := by decide +kernel
theorem dX2_putActions_48 : decode cX2_putActions 48 = .ok (.lstore 7, 2) := by decide +kernel
theorem dX2_putActions_50 : decode cX2_putActions 50 = .ok (.aload_n 0, 1) := by decide +kernel
theorem dX2_putActions_51 : decode cX2_putActions 51 = .ok (.iload 5, 2) := by decide +kernel
theorem dX2_putActions_53 : decode cX2_putActions 53 = .ok (.iload_n 1, 1) := by decide +kernel
theorem dX2_putActions_54 : decode cX2_putActions 54 = .ok (.iconst 0, 1) := by decide +kernel
theorem dX2_putActions_55 : decode cX2_putActions 55 = .ok (.lload 7, 2) := by decide +kernel
theorem dX2_putActions_57 : decode cX2_putActions 57 = .ok (.invokevirtual 99, 3) := by decide +kernel
theorem dX2_putActions_60 : decode cX2_putActions 60 = .ok (.aload_n 0, 1) := by decide +kernel
theorem dX2_putActions_61 : decode cX2_putActions 61 = .ok (.iload 6, 2) := by decide +kernel
theorem dX2_putActions_63 : decode cX2_putActions 63 = .ok (.iload_n 1, 1) := by decide +kernel
theorem dX2_putActions_64 : decode cX2_putActions 64 = .ok (.aload_n 0, 1) := by decide +kernel
theorem dX2_putActions_65 : decode cX2_putActions 65 = .ok (.getfield 30, 3) := by decide +kernel
theorem dX2_putActions_68 : decode cX2_putActions 68 = .ok (.iload 5, 2) := by decide +kernel
theorem dX2_putActions_70 : decode cX2_putActions 70 = .ok (.invokestatic 68, 3) := by decide +kernel
theorem dX2_putActions_73 : decode cX2_putActions 73 = .ok (.lload 7, 2) := by decide +kernel
theorem dX2_putActions_75 : decode cX2_putActions 75 = .ok (.invokevirtual 99, 3) := by decide +kernel
theorem dX2_putActions_78 : decode cX2_putActions 78 = .ok (.return_, 1) := by decide +kernel
theorem dX2_copyActions_0 : decode cX2_copyActions 0 = .ok (.iconst 0, 1) := by decide +kernel
theorem dX2_copyActions_1 : decode cX2_copyActions 1 = .ok (.istore 6, 2) := by decide +kernel
theorem dX2_copyActions_3 : decode cX2_copyActions 3 = .ok (.iload 6, 2) := by decide +kernel
theorem dX2_copyActions_5 : decode cX2_copyActions 5 = .ok (.aload_n 0, 1) := by decide +kernel
theorem dX2_copyActions_6 : decode cX2_copyActions 6 = .ok (.getfield 30, 3) := by decide +kernel
theorem dX2_copyActions_9 : decode cX2_copyActions 9 = .ok (.iload_n 1, 1) := by decide +kernel
theorem dX2_copyActions_10 : decode cX2_copyActions 10 = .ok (.invokestatic 68, 3) := by decide +kernel
theorem dX2_copyActions_13 : decode cX2_copyActions 13 = .ok (.if_icmp .ge 66, 3) := by decide +kernel
theorem dX2_copyActions_16 : decode cX2_copyActions 16 = .ok (.iload_n 1, 1) := by decide +kernel
theorem dX2_copyActions_17 : decode cX2_copyActions 17 = .ok (.iconst 3, 1) := by decide +kernel
theorem dX2_copyActions_18 : decode cX2_copyActions 18 = .ok (.imul, 1) := by decide +kernel
theorem dX2_copyActions_19 : decode cX2_copyActions 19 = .ok (.iload 6, 2) := by decide +kernel
theorem dX2_copyActions_21 : decode cX2_copyActions 21 = .ok (.iadd, 1) := by decide +kernel
theorem dX2_copyActions_22 : decode cX2_copyActions 22 = .ok (.istore 7, 2) := by decide +kernel
theorem dX2_copyActions_24 : decode cX2_copyActions 24 = .ok (.iload_n 2, 1) := by decide +kernel
theorem dX2_copyActions_25 : decode cX2_copyActions 25 = .ok (.iconst 3, 1) := by decide +kernel
theorem dX2_copyActions_26 : decode cX2_copyActions 26 = .ok (.imul, 1) := by decide +kernel
theorem dX2_copyActions_27 : decode cX2_copyActions 27 = .ok (.iload_n 3, 1) := by decide +kernel
theorem dX2_copyActions_28 : decode cX2_copyActions 28 = .ok (.iadd, 1) := by decide +kernel
theorem dX2_copyActions_29 : decode cX2_copyActions 29 = .ok (.iload 6, 2) := by decide +kernel
theorem dX2_copyActions_31 : decode cX2_copyActions 31 = .ok (.iadd, 1) := by decide +kernel
theorem dX2_copyActions_32 : decode cX2_copyActions 32 = .ok (.istore 8, 2) := by decide +kernel
theorem dX2_copyActions_34 : decode cX2_copyActions 34 = .ok (.aload_n 0, 1) := by decide +kernel
theorem dX2_copyActions_35 : decode cX2_copyActions 35 = .ok (.getfield 43, 3) := by decide +kernel
theorem dX2_copyActions_38 : decode cX2_copyActions 38 = .ok (.iload 8, 2) := by decide +kernel
theorem dX2_copyActions_40 : decode cX2_copyActions 40 = .ok (.aload_n 0, 1) := by decide +kernel
theorem dX2_copyActions_41 : decode cX2_copyActions 41 = .ok (.getfield 43, 3) := by decide +kernel
theorem dX2_copyActions_44 : decode cX2_copyActions 44 = .ok (.iload 7, 2) := by decide +kernel
theorem dX2_copyActions_46 : decode cX2_copyActions 46 = .ok (.invokestatic 68, 3) := by decide +kernel
theorem dX2_copyActions_49 : decode cX2_copyActions 49 = .ok (.invokestatic 64, 3) := by decide +kernel
theorem dX2_copyActions_52 : decode cX2_copyActions 52 = .ok (.aload_n 0, 1) := by decide +kernel
theorem dX2_copyActions_53 : decode cX2_copyActions 53 = .ok (.getfield 46, 3) := by decide +kernel
theorem dX2_copyActions_56 : decode cX2_copyActions 56 = .ok (.iload 8, 2) := by decide +kernel
theorem dX2_copyActions_58 : decode cX2_copyActions 58 = .ok (.aload_n 0, 1) := by decide +kernel
theorem dX2_copyActions_59 : decode cX2_copyActions 59 = .ok (.getfield 46, 3) := by decide +kernel
theorem dX2_copyActions_62 : decode cX2_copyActions 62 = .ok (.iload 7, 2) := by decide +kernel
theorem dX2_copyActions_64 : decode cX2_copyActions 64 = .ok (.invokestatic 103, 3) := by decide +kernel
theorem dX2_copyActions_67 : decode cX2_copyActions 67 = .ok (.lload 4, 2) := by decide +kernel
theorem dX2_copyActions_69 : decode cX2_copyActions 69 = .ok (.lor, 1) := by decide +kernel
theorem dX2_copyActions_70 : decode cX2_copyActions 70 = .ok (.invokestatic 96, 3) := by decide +kernel
theorem dX2_copyActions_73 : decode cX2_copyActions 73 = .ok (.iinc 6 1, 3) := by decide +kernel
theorem dX2_copyActions_76 : decode cX2_copyActions 76 = .ok (.goto (-73), 3) := by decide +kernel
theorem dX2_copyActions_79 : decode cX2_copyActions 79 = .ok (.return_, 1) := by decide +kernel
theorem dX2_isOpen_0 : decode cX2_isOpen 0 = .ok (.lload_n 0, 1) := by decide +kernel
theorem dX2_isOpen_1 : decode cX2_isOpen 1 = .ok (.lconst 0, 1) := by decide +kernel
theorem dX2_isOpen_2 : decode cX2_isOpen 2 = .ok (.lcmp, 1) := by decide +kernel
theorem dX2_isOpen_3 : decode cX2_isOpen 3 = .ok (.ifCond .ne 5, 3) := by decide +kernel
theorem dX2_isOpen_6 : decode cX2_isOpen 6 = .ok (.iconst 1, 1) := by decide +kernel
theorem dX2_isOpen_7 : decode cX2_isOpen 7 = .ok (.ireturn, 1) := by decide +kernel
theorem dX2_isOpen_8 : decode cX2_isOpen 8 = .ok (.iconst 0, 1) := by decide +kernel
theorem dX2_isOpen_9 : decode cX2_isOpen 9 = .ok (.istore_n 3, 1) := by decide +kernel
theorem dX2_isOpen_10 : decode cX2_isOpen 10 = .ok (.iload_n 3, 1) := by decide +kernel
theorem dX2_isOpen_11 : decode cX2_isOpen 11 = .ok (.bipush 36, 2) := by decide +kernel
theorem dX2_isOpen_13 : decode cX2_isOpen 13 = .ok (.if_icmp .ge 44, 3) := by decide +kernel
theorem dX2_isOpen_16 : decode cX2_isOpen 16 = .ok (.iload_n 3, 1) := by decide +kernel
theorem dX2_isOpen_17 : decode cX2_isOpen 17 = .ok (.bipush 6, 2) := by decide +kernel
theorem dX2_isOpen_19 : decode cX2_isOpen 19 = .ok (.idiv, 1) := by decide +kernel
theorem dX2_isOpen_20 : decode cX2_isOpen 20 = .ok (.istore 4, 2) := by decide +kernel
theorem dX2_isOpen_22 : decode cX2_isOpen 22 = .ok (.iload_n 3, 1) := by decide +kernel
theorem dX2_isOpen_23 : decode cX2_isOpen 23 = .ok (.bipush 6, 2) := by decide +kernel
theorem dX2_isOpen_25 : decode cX2_isOpen 25 = .ok (.irem, 1) := by decide +kernel
theorem dX2_isOpen_26 : decode cX2_isOpen 26 = .ok (.istore 5, 2) := by decide +kernel
theorem dX2_isOpen_28 : decode cX2_isOpen 28 = .ok (.lload_n 0, 1) := by decide +kernel
theorem dX2_isOpen_29 : decode cX2_isOpen 29 = .ok (.iload_n 3, 1) := by decide +kernel
theorem dX2_isOpen_30 : decode cX2_isOpen 30 = .ok (.lushr, 1) := by decide +kernel
theorem dX2_isOpen_31 : decode cX2_isOpen 31 = .ok (.lconst 1, 1) := by decide +kernel
theorem dX2_isOpen_32 : decode cX2_isOpen 32 = .ok (.land, 1) := by decide +kernel
theorem dX2_isOpen_33 : decode cX2_isOpen 33 = .ok (.lconst 0, 1) := by decide +kernel
theorem dX2_isOpen_34 : decode cX2_isOpen 34 = .ok (.lcmp, 1) := by decide +kernel
theorem dX2_isOpen_35 : decode cX2_isOpen 35 = .ok (.ifCond .eq 16, 3) := by decide +kernel
theorem dX2_isOpen_38 : decode cX2_isOpen 38 = .ok (.iload 4, 2) := by decide +kernel
theorem dX2_isOpen_40 : decode cX2_isOpen 40 = .ok (.iload 5, 2) := by decide +kernel
theorem dX2_isOpen_42 : decode cX2_isOpen 42 = .ok (.iload_n 2, 1) := by decide +kernel
theorem dX2_isOpen_43 : decode cX2_isOpen 43 = .ok (.invokestatic 106, 3) := by decide +kernel
theorem dX2_isOpen_46 : decode cX2_isOpen 46 = .ok (.ifCond .ne 5, 3) := by decide +kernel
theorem dX2_isOpen_49 : decode cX2_isOpen 49 = .ok (.iconst 0, 1) := by decide +kernel
theorem dX2_isOpen_50 : decode cX2_isOpen 50 = .ok (.ireturn, 1) := by decide +kernel
theorem dX2_isOpen_51 : decode cX2_isOpen 51 = .ok (.iinc 3 1, 3) := by decide +kernel
theorem dX2_isOpen_54 : decode cX2_isOpen 54 = .ok (.goto (-44), 3) := by decide +kernel
theorem dX2_isOpen_57 : decode cX2_isOpen 57 = .ok (.iconst 1, 1) := by decide +kernel
theorem dX2_isOpen_58 : decode cX2_isOpen 58 = .ok (.ireturn, 1) := by decide +kernel
theorem dX2_actionIn_0 : decode cX2_actionIn 0 = .ok (.iload_n 2, 1) := by decide +kernel
theorem dX2_actionIn_1 : decode cX2_actionIn 1 = .ok (.ifCond .lt 15, 3) := by decide +kernel
theorem dX2_actionIn_4 : decode cX2_actionIn 4 = .ok (.iload_n 2, 1) := by decide +kernel
theorem dX2_actionIn_5 : decode cX2_actionIn 5 = .ok (.aload_n 0, 1) := by decide +kernel
theorem dX2_actionIn_6 : decode cX2_actionIn 6 = .ok (.getfield 30, 3) := by decide +kernel
theorem dX2_actionIn_9 : decode cX2_actionIn 9 = .ok (.iload_n 1, 1) := by decide +kernel
theorem dX2_actionIn_10 : decode cX2_actionIn 10 = .ok (.invokestatic 68, 3) := by decide +kernel
theorem dX2_actionIn_13 : decode cX2_actionIn 13 = .ok (.if_icmp .lt 6, 3) := by decide +kernel
theorem dX2_actionIn_16 : decode cX2_actionIn 16 = .ok (.bipush (-4), 2) := by decide +kernel
theorem dX2_actionIn_18 : decode cX2_actionIn 18 = .ok (.ireturn, 1) := by decide +kernel
theorem dX2_actionIn_19 : decode cX2_actionIn 19 = .ok (.iload_n 1, 1) := by decide +kernel
theorem dX2_actionIn_20 : decode cX2_actionIn 20 = .ok (.iconst 3, 1) := by decide +kernel
theorem dX2_actionIn_21 : decode cX2_actionIn 21 = .ok (.imul, 1) := by decide +kernel
theorem dX2_actionIn_22 : decode cX2_actionIn 22 = .ok (.iload_n 2, 1) := by decide +kernel
theorem dX2_actionIn_23 : decode cX2_actionIn 23 = .ok (.iadd, 1) := by decide +kernel
theorem dX2_actionIn_24 : decode cX2_actionIn 24 = .ok (.istore 4, 2) := by decide +kernel
theorem dX2_actionIn_26 : decode cX2_actionIn 26 = .ok (.aload_n 0, 1) := by decide +kernel
theorem dX2_actionIn_27 : decode cX2_actionIn 27 = .ok (.getfield 46, 3) := by decide +kernel
theorem dX2_actionIn_30 : decode cX2_actionIn 30 = .ok (.iload 4, 2) := by decide +kernel
theorem dX2_actionIn_32 : decode cX2_actionIn 32 = .ok (.invokestatic 103, 3) := by decide +kernel
theorem dX2_actionIn_35 : decode cX2_actionIn 35 = .ok (.iload_n 3, 1) := by decide +kernel
theorem dX2_actionIn_36 : decode cX2_actionIn 36 = .ok (.invokestatic 110, 3) := by decide +kernel
theorem dX2_actionIn_39 : decode cX2_actionIn 39 = .ok (.ifCond .eq 15, 3) := by decide +kernel
theorem dX2_actionIn_42 : decode cX2_actionIn 42 = .ok (.aload_n 0, 1) := by decide +kernel
theorem dX2_actionIn_43 : decode cX2_actionIn 43 = .ok (.getfield 43, 3) := by decide +kernel
theorem dX2_actionIn_46 : decode cX2_actionIn 46 = .ok (.iload 4, 2) := by decide +kernel
theorem dX2_actionIn_48 : decode cX2_actionIn 48 = .ok (.invokestatic 68, 3) := by decide +kernel
theorem dX2_actionIn_51 : decode cX2_actionIn 51 = .ok (.goto 5, 3) := by decide +kernel
theorem dX2_actionIn_54 : decode cX2_actionIn 54 = .ok (.bipush (-4), 2) := by decide +kernel
theorem dX2_actionIn_56 : decode cX2_actionIn 56 = .ok (.ireturn, 1) := by decide +kernel
theorem dX2_movesOf_0 : decode cX2_movesOf 0 = .ok (.iconst 0, 1) := by decide +kernel
theorem dX2_movesOf_1 : decode cX2_movesOf 1 = .ok (.istore_n 2, 1) := by decide +kernel
theorem dX2_movesOf_2 : decode cX2_movesOf 2 = .ok (.iconst 0, 1) := by decide +kernel
theorem dX2_movesOf_3 : decode cX2_movesOf 3 = .ok (.istore_n 3, 1) := by decide +kernel
theorem dX2_movesOf_4 : decode cX2_movesOf 4 = .ok (.iload_n 3, 1) := by decide +kernel
theorem dX2_movesOf_5 : decode cX2_movesOf 5 = .ok (.aload_n 0, 1) := by decide +kernel
theorem dX2_movesOf_6 : decode cX2_movesOf 6 = .ok (.getfield 30, 3) := by decide +kernel
theorem dX2_movesOf_9 : decode cX2_movesOf 9 = .ok (.iload_n 1, 1) := by decide +kernel
theorem dX2_movesOf_10 : decode cX2_movesOf 10 = .ok (.invokestatic 68, 3) := by decide +kernel
theorem dX2_movesOf_13 : decode cX2_movesOf 13 = .ok (.if_icmp .ge 24, 3) := by decide +kernel
theorem dX2_movesOf_16 : decode cX2_movesOf 16 = .ok (.aload_n 0, 1) := by decide +kernel
theorem dX2_movesOf_17 : decode cX2_movesOf 17 = .ok (.iload_n 1, 1) := by decide +kernel
theorem dX2_movesOf_18 : decode cX2_movesOf 18 = .ok (.iload_n 3, 1) := by decide +kernel
theorem dX2_movesOf_19 : decode cX2_movesOf 19 = .ok (.iconst 1, 1) := by decide +kernel
theorem dX2_movesOf_20 : decode cX2_movesOf 20 = .ok (.invokevirtual 114, 3) := by decide +kernel
theorem dX2_movesOf_23 : decode cX2_movesOf 23 = .ok (.bipush (-4), 2) := by decide +kernel
theorem dX2_movesOf_25 : decode cX2_movesOf 25 = .ok (.if_icmp .eq 6, 3) := by decide +kernel
theorem dX2_movesOf_28 : decode cX2_movesOf 28 = .ok (.iinc 2 1, 3) := by decide +kernel
theorem dX2_movesOf_31 : decode cX2_movesOf 31 = .ok (.iinc 3 1, 3) := by decide +kernel
theorem dX2_movesOf_34 : decode cX2_movesOf 34 = .ok (.goto (-30), 3) := by decide +kernel
theorem dX2_movesOf_37 : decode cX2_movesOf 37 = .ok (.iload_n 2, 1) := by decide +kernel
theorem dX2_movesOf_38 : decode cX2_movesOf 38 = .ok (.ireturn, 1) := by decide +kernel
theorem dX2_headOf_0 : decode cX2_headOf 0 = .ok (.iload_n 0, 1) := by decide +kernel
theorem dX2_headOf_1 : decode cX2_headOf 1 = .ok (.tableswitch 50 1 5 #[35, 38, 41, 44, 47], 35) := by decide +kernel
theorem dX2_headOf_36 : decode cX2_headOf 36 = .ok (.ldc 117, 2) := by decide +kernel
theorem dX2_headOf_38 : decode cX2_headOf 38 = .ok (.areturn, 1) := by decide +kernel
theorem dX2_headOf_39 : decode cX2_headOf 39 = .ok (.ldc 119, 2) := by decide +kernel
theorem dX2_headOf_41 : decode cX2_headOf 41 = .ok (.areturn, 1) := by decide +kernel
theorem dX2_headOf_42 : decode cX2_headOf 42 = .ok (.ldc 121, 2) := by decide +kernel
theorem dX2_headOf_44 : decode cX2_headOf 44 = .ok (.areturn, 1) := by decide +kernel
theorem dX2_headOf_45 : decode cX2_headOf 45 = .ok (.ldc 123, 2) := by decide +kernel
theorem dX2_headOf_47 : decode cX2_headOf 47 = .ok (.areturn, 1) := by decide +kernel
theorem dX2_headOf_48 : decode cX2_headOf 48 = .ok (.ldc 125, 2) := by decide +kernel
theorem dX2_headOf_50 : decode cX2_headOf 50 = .ok (.areturn, 1) := by decide +kernel
theorem dX2_headOf_51 : decode cX2_headOf 51 = .ok (.ldc 127, 2) := by decide +kernel
theorem dX2_headOf_53 : decode cX2_headOf 53 = .ok (.areturn, 1) := by decide +kernel
theorem dX3_init_0 : decode cX3_init 0 = .ok (.aload_n 0, 1) := by decide +kernel
theorem dX3_init_1 : decode cX3_init 1 = .ok (.invokespecial 1, 3) := by decide +kernel
theorem dX3_init_4 : decode cX3_init 4 = .ok (.aload_n 0, 1) := by decide +kernel
theorem dX3_init_5 : decode cX3_init 5 = .ok (.new 7, 3) := by decide +kernel
theorem dX3_init_8 : decode cX3_init 8 = .ok (.dup, 1) := by decide +kernel
theorem dX3_init_9 : decode cX3_init 9 = .ok (.invokespecial 9, 3) := by decide +kernel
theorem dX3_init_12 : decode cX3_init 12 = .ok (.putfield 10, 3) := by decide +kernel
theorem dX3_init_15 : decode cX3_init 15 = .ok (.aload_n 0, 1) := by decide +kernel
theorem dX3_init_16 : decode cX3_init 16 = .ok (.new 16, 3) := by decide +kernel
theorem dX3_init_19 : decode cX3_init 19 = .ok (.dup, 1) := by decide +kernel
theorem dX3_init_20 : decode cX3_init 20 = .ok (.aload_n 0, 1) := by decide +kernel
theorem dX3_init_21 : decode cX3_init 21 = .ok (.getfield 10, 3) := by decide +kernel
theorem dX3_init_24 : decode cX3_init 24 = .ok (.invokespecial 18, 3) := by decide +kernel
theorem dX3_init_27 : decode cX3_init 27 = .ok (.putfield 21, 3) := by decide +kernel
theorem dX3_init_30 : decode cX3_init 30 = .ok (.return_, 1) := by decide +kernel
theorem dX3_tau_0 : decode cX3_tau 0 = .ok (.aload_n 0, 1) := by decide +kernel
theorem dX3_tau_1 : decode cX3_tau 1 = .ok (.getfield 10, 3) := by decide +kernel
theorem dX3_tau_4 : decode cX3_tau 4 = .ok (.iload_n 1, 1) := by decide +kernel
theorem dX3_tau_5 : decode cX3_tau 5 = .ok (.invokevirtual 25, 3) := by decide +kernel
theorem dX3_tau_8 : decode cX3_tau 8 = .ok (.ifCond .ne 5, 3) := by decide +kernel
theorem dX3_tau_11 : decode cX3_tau 11 = .ok (.iconst (-1), 1) := by decide +kernel
theorem dX3_tau_12 : decode cX3_tau 12 = .ok (.ireturn, 1) := by decide +kernel
theorem dX3_tau_13 : decode cX3_tau 13 = .ok (.aload_n 0, 1) := by decide +kernel
theorem dX3_tau_14 : decode cX3_tau 14 = .ok (.getfield 10, 3) := by decide +kernel
theorem dX3_tau_17 : decode cX3_tau 17 = .ok (.iconst 1, 1) := by decide +kernel
theorem dX3_tau_18 : decode cX3_tau 18 = .ok (.iconst 0, 1) := by decide +kernel
theorem dX3_tau_19 : decode cX3_tau 19 = .ok (.iconst 0, 1) := by decide +kernel
theorem dX3_tau_20 : decode cX3_tau 20 = .ok (.iload_n 1, 1) := by decide +kernel
theorem dX3_tau_21 : decode cX3_tau 21 = .ok (.iconst 0, 1) := by decide +kernel
theorem dX3_tau_22 : decode cX3_tau 22 = .ok (.invokevirtual 29, 3) := by decide +kernel
theorem dX3_tau_25 : decode cX3_tau 25 = .ok (.ireturn, 1) := by decide +kernel
theorem dX3_output_0 : decode cX3_output 0 = .ok (.iload_n 1, 1) := by decide +kernel
theorem dX3_output_1 : decode cX3_output 1 = .ok (.invokestatic 33, 3) := by decide +kernel
theorem dX3_output_4 : decode cX3_output 4 = .ok (.ifCond .eq 21, 3) := by decide +kernel
theorem dX3_output_7 : decode cX3_output 7 = .ok (.iload_n 2, 1) := by decide +kernel
theorem dX3_output_8 : decode cX3_output 8 = .ok (.invokestatic 33, 3) := by decide +kernel
theorem dX3_output_11 : decode cX3_output 11 = .ok (.ifCond .eq 14, 3) := by decide +kernel
theorem dX3_output_14 : decode cX3_output 14 = .ok (.aload_n 0, 1) := by decide +kernel
theorem dX3_output_15 : decode cX3_output 15 = .ok (.getfield 10, 3) := by decide +kernel
theorem dX3_output_18 : decode cX3_output 18 = .ok (.iload_n 3, 1) := by decide +kernel
theorem dX3_output_19 : decode cX3_output 19 = .ok (.invokevirtual 25, 3) := by decide +kernel
theorem dX3_output_22 : decode cX3_output 22 = .ok (.ifCond .ne 5, 3) := by decide +kernel
theorem dX3_output_25 : decode cX3_output 25 = .ok (.iconst (-1), 1) := by decide +kernel
theorem dX3_output_26 : decode cX3_output 26 = .ok (.ireturn, 1) := by decide +kernel
theorem dX3_output_27 : decode cX3_output 27 = .ok (.aload_n 0, 1) := by decide +kernel
theorem dX3_output_28 : decode cX3_output 28 = .ok (.getfield 10, 3) := by decide +kernel
theorem dX3_output_31 : decode cX3_output 31 = .ok (.iconst 2, 1) := by decide +kernel
theorem dX3_output_32 : decode cX3_output 32 = .ok (.iload_n 1, 1) := by decide +kernel
theorem dX3_output_33 : decode cX3_output 33 = .ok (.iload_n 2, 1) := by decide +kernel
theorem dX3_output_34 : decode cX3_output 34 = .ok (.iload_n 3, 1) := by decide +kernel
theorem dX3_output_35 : decode cX3_output 35 = .ok (.iconst 0, 1) := by decide +kernel
theorem dX3_output_36 : decode cX3_output 36 = .ok (.invokevirtual 29, 3) := by decide +kernel
theorem dX3_output_39 : decode cX3_output 39 = .ok (.ireturn, 1) := by decide +kernel
theorem dX3_input_0 : decode cX3_input 0 = .ok (.iload_n 1, 1) := by decide +kernel
theorem dX3_input_1 : decode cX3_input 1 = .ok (.invokestatic 33, 3) := by decide +kernel
theorem dX3_input_4 : decode cX3_input 4 = .ok (.ifCond .eq 14, 3) := by decide +kernel
theorem dX3_input_7 : decode cX3_input 7 = .ok (.aload_n 0, 1) := by decide +kernel
theorem dX3_input_8 : decode cX3_input 8 = .ok (.getfield 10, 3) := by decide +kernel
theorem dX3_input_11 : decode cX3_input 11 = .ok (.iload_n 2, 1) := by decide +kernel
theorem dX3_input_12 : decode cX3_input 12 = .ok (.invokevirtual 25, 3) := by decide +kernel
theorem dX3_input_15 : decode cX3_input 15 = .ok (.ifCond .ne 5, 3) := by decide +kernel
theorem dX3_input_18 : decode cX3_input 18 = .ok (.iconst (-1), 1) := by decide +kernel
theorem dX3_input_19 : decode cX3_input 19 = .ok (.ireturn, 1) := by decide +kernel
theorem dX3_input_20 : decode cX3_input 20 = .ok (.aload_n 0, 1) := by decide +kernel
theorem dX3_input_21 : decode cX3_input 21 = .ok (.getfield 10, 3) := by decide +kernel
theorem dX3_input_24 : decode cX3_input 24 = .ok (.iconst 3, 1) := by decide +kernel
theorem dX3_input_25 : decode cX3_input 25 = .ok (.iload_n 1, 1) := by decide +kernel
theorem dX3_input_26 : decode cX3_input 26 = .ok (.iconst 0, 1) := by decide +kernel
theorem dX3_input_27 : decode cX3_input 27 = .ok (.iload_n 2, 1) := by decide +kernel
theorem dX3_input_28 : decode cX3_input 28 = .ok (.iconst 0, 1) := by decide +kernel
theorem dX3_input_29 : decode cX3_input 29 = .ok (.invokevirtual 29, 3) := by decide +kernel
theorem dX3_input_32 : decode cX3_input 32 = .ok (.ireturn, 1) := by decide +kernel
theorem dX3_match_0 : decode cX3_match 0 = .ok (.iload_n 1, 1) := by decide +kernel
theorem dX3_match_1 : decode cX3_match 1 = .ok (.invokestatic 33, 3) := by decide +kernel
theorem dX3_match_4 : decode cX3_match 4 = .ok (.ifCond .eq 21, 3) := by decide +kernel
theorem dX3_match_7 : decode cX3_match 7 = .ok (.iload_n 2, 1) := by decide +kernel
theorem dX3_match_8 : decode cX3_match 8 = .ok (.invokestatic 33, 3) := by decide +kernel
theorem dX3_match_11 : decode cX3_match 11 = .ok (.ifCond .eq 14, 3) := by decide +kernel
theorem dX3_match_14 : decode cX3_match 14 = .ok (.aload_n 0, 1) := by decide +kernel
theorem dX3_match_15 : decode cX3_match 15 = .ok (.getfield 10, 3) := by decide +kernel
theorem dX3_match_18 : decode cX3_match 18 = .ok (.iload_n 3, 1) := by decide +kernel
theorem dX3_match_19 : decode cX3_match 19 = .ok (.invokevirtual 25, 3) := by decide +kernel
theorem dX3_match_22 : decode cX3_match 22 = .ok (.ifCond .ne 5, 3) := by decide +kernel
theorem dX3_match_25 : decode cX3_match 25 = .ok (.iconst (-1), 1) := by decide +kernel
theorem dX3_match_26 : decode cX3_match 26 = .ok (.ireturn, 1) := by decide +kernel
theorem dX3_match_27 : decode cX3_match 27 = .ok (.aload_n 0, 1) := by decide +kernel
theorem dX3_match_28 : decode cX3_match 28 = .ok (.getfield 10, 3) := by decide +kernel
theorem dX3_match_31 : decode cX3_match 31 = .ok (.iconst 4, 1) := by decide +kernel
theorem dX3_match_32 : decode cX3_match 32 = .ok (.iload_n 1, 1) := by decide +kernel
theorem dX3_match_33 : decode cX3_match 33 = .ok (.iload_n 2, 1) := by decide +kernel
theorem dX3_match_34 : decode cX3_match 34 = .ok (.iload_n 3, 1) := by decide +kernel
theorem dX3_match_35 : decode cX3_match 35 = .ok (.iconst 0, 1) := by decide +kernel
theorem dX3_match_36 : decode cX3_match 36 = .ok (.invokevirtual 29, 3) := by decide +kernel
theorem dX3_match_39 : decode cX3_match 39 = .ok (.ireturn, 1) := by decide +kernel
theorem dX3_sum_0 : decode cX3_sum 0 = .ok (.aload_n 0, 1) := by decide +kernel
theorem dX3_sum_1 : decode cX3_sum 1 = .ok (.getfield 10, 3) := by decide +kernel
theorem dX3_sum_4 : decode cX3_sum 4 = .ok (.iload_n 1, 1) := by decide +kernel
theorem dX3_sum_5 : decode cX3_sum 5 = .ok (.invokevirtual 25, 3) := by decide +kernel
theorem dX3_sum_8 : decode cX3_sum 8 = .ok (.ifCond .eq 14, 3) := by decide +kernel
theorem dX3_sum_11 : decode cX3_sum 11 = .ok (.aload_n 0, 1) := by decide +kernel
theorem dX3_sum_12 : decode cX3_sum 12 = .ok (.getfield 10, 3) := by decide +kernel
theorem dX3_sum_15 : decode cX3_sum 15 = .ok (.iload_n 2, 1) := by decide +kernel
theorem dX3_sum_16 : decode cX3_sum 16 = .ok (.invokevirtual 25, 3) := by decide +kernel
theorem dX3_sum_19 : decode cX3_sum 19 = .ok (.ifCond .ne 5, 3) := by decide +kernel
theorem dX3_sum_22 : decode cX3_sum 22 = .ok (.iconst (-1), 1) := by decide +kernel
theorem dX3_sum_23 : decode cX3_sum 23 = .ok (.ireturn, 1) := by decide +kernel
theorem dX3_sum_24 : decode cX3_sum 24 = .ok (.aload_n 0, 1) := by decide +kernel
theorem dX3_sum_25 : decode cX3_sum 25 = .ok (.getfield 10, 3) := by decide +kernel
theorem dX3_sum_28 : decode cX3_sum 28 = .ok (.iconst 5, 1) := by decide +kernel
theorem dX3_sum_29 : decode cX3_sum 29 = .ok (.iconst 0, 1) := by decide +kernel
theorem dX3_sum_30 : decode cX3_sum 30 = .ok (.iconst 0, 1) := by decide +kernel
theorem dX3_sum_31 : decode cX3_sum 31 = .ok (.iload_n 1, 1) := by decide +kernel
theorem dX3_sum_32 : decode cX3_sum 32 = .ok (.iload_n 2, 1) := by decide +kernel
theorem dX3_sum_33 : decode cX3_sum 33 = .ok (.invokevirtual 29, 3) := by decide +kernel
theorem dX3_sum_36 : decode cX3_sum 36 = .ok (.ireturn, 1) := by decide +kernel
theorem dX3_removeLast_0 : decode cX3_removeLast 0 = .ok (.aload_n 0, 1) := by decide +kernel
theorem dX3_removeLast_1 : decode cX3_removeLast 1 = .ok (.getfield 10, 3) := by decide +kernel
theorem dX3_removeLast_4 : decode cX3_removeLast 4 = .ok (.getfield 36, 3) := by decide +kernel
theorem dX3_removeLast_7 : decode cX3_removeLast 7 = .ok (.iconst 1, 1) := by decide +kernel
theorem dX3_removeLast_8 : decode cX3_removeLast 8 = .ok (.isub, 1) := by decide +kernel
theorem dX3_removeLast_9 : decode cX3_removeLast 9 = .ok (.istore_n 1, 1) := by decide +kernel
theorem dX3_removeLast_10 : decode cX3_removeLast 10 = .ok (.iload_n 1, 1) := by decide +kernel
theorem dX3_removeLast_11 : decode cX3_removeLast 11 = .ok (.iconst 1, 1) := by decide +kernel
theorem dX3_removeLast_12 : decode cX3_removeLast 12 = .ok (.if_icmp .ge 6, 3) := by decide +kernel
theorem dX3_removeLast_15 : decode cX3_removeLast 15 = .ok (.bipush (-4), 2) := by decide +kernel
theorem dX3_removeLast_17 : decode cX3_removeLast 17 = .ok (.ireturn, 1) := by decide +kernel
theorem dX3_removeLast_18 : decode cX3_removeLast 18 = .ok (.aload_n 0, 1) := by decide +kernel
theorem dX3_removeLast_19 : decode cX3_removeLast 19 = .ok (.getfield 10, 3) := by decide +kernel
theorem dX3_removeLast_22 : decode cX3_removeLast 22 = .ok (.iload_n 1, 1) := by decide +kernel
theorem dX3_removeLast_23 : decode cX3_removeLast 23 = .ok (.putfield 36, 3) := by decide +kernel
theorem dX3_removeLast_26 : decode cX3_removeLast 26 = .ok (.aload_n 0, 1) := by decide +kernel
theorem dX3_removeLast_27 : decode cX3_removeLast 27 = .ok (.getfield 21, 3) := by decide +kernel
theorem dX3_removeLast_30 : decode cX3_removeLast 30 = .ok (.iload_n 1, 1) := by decide +kernel
theorem dX3_removeLast_31 : decode cX3_removeLast 31 = .ok (.invokevirtual 40, 3) := by decide +kernel
theorem dX3_removeLast_34 : decode cX3_removeLast 34 = .ok (.iload_n 1, 1) := by decide +kernel
theorem dX3_removeLast_35 : decode cX3_removeLast 35 = .ok (.ireturn, 1) := by decide +kernel
theorem dX3_processCount_0 : decode cX3_processCount 0 = .ok (.aload_n 0, 1) := by decide +kernel
theorem dX3_processCount_1 : decode cX3_processCount 1 = .ok (.getfield 10, 3) := by decide +kernel
theorem dX3_processCount_4 : decode cX3_processCount 4 = .ok (.getfield 36, 3) := by decide +kernel
theorem dX3_processCount_7 : decode cX3_processCount 7 = .ok (.ireturn, 1) := by decide +kernel
theorem dX3_depthOf_0 : decode cX3_depthOf 0 = .ok (.aload_n 0, 1) := by decide +kernel
theorem dX3_depthOf_1 : decode cX3_depthOf 1 = .ok (.getfield 10, 3) := by decide +kernel
theorem dX3_depthOf_4 : decode cX3_depthOf 4 = .ok (.iload_n 1, 1) := by decide +kernel
theorem dX3_depthOf_5 : decode cX3_depthOf 5 = .ok (.invokevirtual 25, 3) := by decide +kernel
theorem dX3_depthOf_8 : decode cX3_depthOf 8 = .ok (.ifCond .eq 17, 3) := by decide +kernel
theorem dX3_depthOf_11 : decode cX3_depthOf 11 = .ok (.aload_n 0, 1) := by decide +kernel
theorem dX3_depthOf_12 : decode cX3_depthOf 12 = .ok (.getfield 10, 3) := by decide +kernel
theorem dX3_depthOf_15 : decode cX3_depthOf 15 = .ok (.getfield 62, 3) := by decide +kernel
theorem dX3_depthOf_18 : decode cX3_depthOf 18 = .ok (.iload_n 1, 1) := by decide +kernel
theorem dX3_depthOf_19 : decode cX3_depthOf 19 = .ok (.invokestatic 48, 3) := by decide +kernel
theorem dX3_depthOf_22 : decode cX3_depthOf 22 = .ok (.goto 4, 3) := by decide +kernel
theorem dX3_depthOf_25 : decode cX3_depthOf 25 = .ok (.iconst (-1), 1) := by decide +kernel
theorem dX3_depthOf_26 : decode cX3_depthOf 26 = .ok (.ireturn, 1) := by decide +kernel
theorem dX3_needOf_0 : decode cX3_needOf 0 = .ok (.aload_n 0, 1) := by decide +kernel
theorem dX3_needOf_1 : decode cX3_needOf 1 = .ok (.getfield 10, 3) := by decide +kernel
theorem dX3_needOf_4 : decode cX3_needOf 4 = .ok (.iload_n 1, 1) := by decide +kernel
theorem dX3_needOf_5 : decode cX3_needOf 5 = .ok (.invokevirtual 25, 3) := by decide +kernel
theorem dX3_needOf_8 : decode cX3_needOf 8 = .ok (.ifCond .eq 17, 3) := by decide +kernel
theorem dX3_needOf_11 : decode cX3_needOf 11 = .ok (.aload_n 0, 1) := by decide +kernel
theorem dX3_needOf_12 : decode cX3_needOf 12 = .ok (.getfield 10, 3) := by decide +kernel
theorem dX3_needOf_15 : decode cX3_needOf 15 = .ok (.getfield 65, 3) := by decide +kernel
theorem dX3_needOf_18 : decode cX3_needOf 18 = .ok (.iload_n 1, 1) := by decide +kernel
theorem dX3_needOf_19 : decode cX3_needOf 19 = .ok (.invokestatic 48, 3) := by decide +kernel
theorem dX3_needOf_22 : decode cX3_needOf 22 = .ok (.goto 4, 3) := by decide +kernel
theorem dX3_needOf_25 : decode cX3_needOf 25 = .ok (.iconst (-1), 1) := by decide +kernel
theorem dX3_needOf_26 : decode cX3_needOf 26 = .ok (.ireturn, 1) := by decide +kernel
theorem dX3_textLength_0 : decode cX3_textLength 0 = .ok (.aload_n 0, 1) := by decide +kernel
theorem dX3_textLength_1 : decode cX3_textLength 1 = .ok (.getfield 10, 3) := by decide +kernel
theorem dX3_textLength_4 : decode cX3_textLength 4 = .ok (.iload_n 1, 1) := by decide +kernel
theorem dX3_textLength_5 : decode cX3_textLength 5 = .ok (.invokevirtual 25, 3) := by decide +kernel
theorem dX3_textLength_8 : decode cX3_textLength 8 = .ok (.ifCond .eq 17, 3) := by decide +kernel
theorem dX3_textLength_11 : decode cX3_textLength 11 = .ok (.aload_n 0, 1) := by decide +kernel
theorem dX3_textLength_12 : decode cX3_textLength 12 = .ok (.getfield 10, 3) := by decide +kernel
theorem dX3_textLength_15 : decode cX3_textLength 15 = .ok (.getfield 68, 3) := by decide +kernel
theorem dX3_textLength_18 : decode cX3_textLength 18 = .ok (.iload_n 1, 1) := by decide +kernel
theorem dX3_textLength_19 : decode cX3_textLength 19 = .ok (.invokestatic 48, 3) := by decide +kernel
theorem dX3_textLength_22 : decode cX3_textLength 22 = .ok (.goto 4, 3) := by decide +kernel
theorem dX3_textLength_25 : decode cX3_textLength 25 = .ok (.iconst (-1), 1) := by decide +kernel
theorem dX3_textLength_26 : decode cX3_textLength 26 = .ok (.ireturn, 1) := by decide +kernel
theorem dX3_moveCount_0 : decode cX3_moveCount 0 = .ok (.aload_n 0, 1) := by decide +kernel
theorem dX3_moveCount_1 : decode cX3_moveCount 1 = .ok (.getfield 10, 3) := by decide +kernel
theorem dX3_moveCount_4 : decode cX3_moveCount 4 = .ok (.iload_n 1, 1) := by decide +kernel
theorem dX3_moveCount_5 : decode cX3_moveCount 5 = .ok (.invokevirtual 25, 3) := by decide +kernel
theorem dX3_moveCount_8 : decode cX3_moveCount 8 = .ok (.ifCond .ne 5, 3) := by decide +kernel
theorem dX3_moveCount_11 : decode cX3_moveCount 11 = .ok (.iconst (-1), 1) := by decide +kernel
theorem dX3_moveCount_12 : decode cX3_moveCount 12 = .ok (.ireturn, 1) := by decide +kernel
theorem dX3_moveCount_13 : decode cX3_moveCount 13 = .ok (.aload_n 0, 1) := by decide +kernel
theorem dX3_moveCount_14 : decode cX3_moveCount 14 = .ok (.getfield 10, 3) := by decide +kernel
theorem dX3_moveCount_17 : decode cX3_moveCount 17 = .ok (.iload_n 1, 1) := by decide +kernel
theorem dX3_moveCount_18 : decode cX3_moveCount 18 = .ok (.invokevirtual 75, 3) := by decide +kernel
theorem dX3_moveCount_21 : decode cX3_moveCount 21 = .ok (.ifCond .eq 14, 3) := by decide +kernel
theorem dX3_moveCount_24 : decode cX3_moveCount 24 = .ok (.aload_n 0, 1) := by decide +kernel
theorem dX3_moveCount_25 : decode cX3_moveCount 25 = .ok (.getfield 10, 3) := by decide +kernel
theorem dX3_moveCount_28 : decode cX3_moveCount 28 = .ok (.iload_n 1, 1) := by decide +kernel
theorem dX3_moveCount_29 : decode cX3_moveCount 29 = .ok (.invokevirtual 78, 3) := by decide +kernel
theorem dX3_moveCount_32 : decode cX3_moveCount 32 = .ok (.goto 5, 3) := by decide +kernel
theorem dX3_moveCount_35 : decode cX3_moveCount 35 = .ok (.bipush (-2), 2) := by decide +kernel
theorem dX3_moveCount_37 : decode cX3_moveCount 37 = .ok (.ireturn, 1) := by decide +kernel
theorem dX3_areRelated_0 : decode cX3_areRelated 0 = .ok (.aload_n 0, 1) := by decide +kernel
theorem dX3_areRelated_1 : decode cX3_areRelated 1 = .ok (.iload_n 1, 1) := by decide +kernel
theorem dX3_areRelated_2 : decode cX3_areRelated 2 = .ok (.iload_n 2, 1) := by decide +kernel
theorem dX3_areRelated_3 : decode cX3_areRelated 3 = .ok (.iload_n 3, 1) := by decide +kernel
theorem dX3_areRelated_4 : decode cX3_areRelated 4 = .ok (.invokevirtual 90, 3) := by decide +kernel
theorem dX3_areRelated_7 : decode cX3_areRelated 7 = .ok (.istore 4, 2) := by decide +kernel
theorem dX3_areRelated_9 : decode cX3_areRelated 9 = .ok (.iload 4, 2) := by decide +kernel
theorem dX3_areRelated_11 : decode cX3_areRelated 11 = .ok (.ifCond .ge 6, 3) := by decide +kernel
theorem dX3_areRelated_14 : decode cX3_areRelated 14 = .ok (.iload 4, 2) := by decide +kernel
theorem dX3_areRelated_16 : decode cX3_areRelated 16 = .ok (.ireturn, 1) := by decide +kernel
theorem dX3_areRelated_17 : decode cX3_areRelated 17 = .ok (.aload_n 0, 1) := by decide +kernel
theorem dX3_areRelated_18 : decode cX3_areRelated 18 = .ok (.getfield 21, 3) := by decide +kernel
theorem dX3_areRelated_21 : decode cX3_areRelated 21 = .ok (.iload_n 1, 1) := by decide +kernel
theorem dX3_areRelated_22 : decode cX3_areRelated 22 = .ok (.iload_n 2, 1) := by decide +kernel
theorem dX3_areRelated_23 : decode cX3_areRelated 23 = .ok (.iload_n 3, 1) := by decide +kernel
theorem dX3_areRelated_24 : decode cX3_areRelated 24 = .ok (.invokevirtual 94, 3) := by decide +kernel
theorem dX3_areRelated_27 : decode cX3_areRelated 27 = .ok (.bipush (-4), 2) := by decide +kernel
theorem dX3_areRelated_29 : decode cX3_areRelated 29 = .ok (.if_icmp .ne 7, 3) := by decide +kernel
theorem dX3_areRelated_32 : decode cX3_areRelated 32 = .ok (.iconst 1, 1) := by decide +kernel
theorem dX3_areRelated_33 : decode cX3_areRelated 33 = .ok (.goto 4, 3) := by decide +kernel
theorem dX3_areRelated_36 : decode cX3_areRelated 36 = .ok (.iconst 0, 1) := by decide +kernel
theorem dX3_areRelated_37 : decode cX3_areRelated 37 = .ok (.ireturn, 1) := by decide +kernel
theorem dX3_rounds_0 : decode cX3_rounds 0 = .ok (.aload_n 0, 1) := by decide +kernel
theorem dX3_rounds_1 : decode cX3_rounds 1 = .ok (.iload_n 1, 1) := by decide +kernel
theorem dX3_rounds_2 : decode cX3_rounds 2 = .ok (.iload_n 2, 1) := by decide +kernel
theorem dX3_rounds_3 : decode cX3_rounds 3 = .ok (.iload_n 3, 1) := by decide +kernel
theorem dX3_rounds_4 : decode cX3_rounds 4 = .ok (.invokevirtual 90, 3) := by decide +kernel
theorem dX3_rounds_7 : decode cX3_rounds 7 = .ok (.istore 4, 2) := by decide +kernel
theorem dX3_rounds_9 : decode cX3_rounds 9 = .ok (.iload 4, 2) := by decide +kernel
theorem dX3_rounds_11 : decode cX3_rounds 11 = .ok (.ifCond .ge 8, 3) := by decide +kernel
theorem dX3_rounds_14 : decode cX3_rounds 14 = .ok (.iload 4, 2) := by decide +kernel
theorem dX3_rounds_16 : decode cX3_rounds 16 = .ok (.goto 13, 3) := by decide +kernel
theorem dX3_rounds_19 : decode cX3_rounds 19 = .ok (.aload_n 0, 1) := by decide +kernel
theorem dX3_rounds_20 : decode cX3_rounds 20 = .ok (.getfield 21, 3) := by decide +kernel
theorem dX3_rounds_23 : decode cX3_rounds 23 = .ok (.iload_n 1, 1) := by decide +kernel
theorem dX3_rounds_24 : decode cX3_rounds 24 = .ok (.iload_n 2, 1) := by decide +kernel
theorem dX3_rounds_25 : decode cX3_rounds 25 = .ok (.iload_n 3, 1) := by decide +kernel
theorem dX3_rounds_26 : decode cX3_rounds 26 = .ok (.invokevirtual 94, 3) := by decide +kernel
theorem dX3_rounds_29 : decode cX3_rounds 29 = .ok (.ireturn, 1) := by decide +kernel
theorem dX3_firstAttack_0 : decode cX3_firstAttack 0 = .ok (.aload_n 0, 1) := by decide +kernel
theorem dX3_firstAttack_1 : decode cX3_firstAttack 1 = .ok (.iload_n 1, 1) := by decide +kernel
theorem dX3_firstAttack_2 : decode cX3_firstAttack 2 = .ok (.iload_n 2, 1) := by decide +kernel
theorem dX3_firstAttack_3 : decode cX3_firstAttack 3 = .ok (.iload_n 3, 1) := by decide +kernel
theorem dX3_firstAttack_4 : decode cX3_firstAttack 4 = .ok (.invokevirtual 90, 3) := by decide +kernel
theorem dX3_firstAttack_7 : decode cX3_firstAttack 7 = .ok (.istore 4, 2) := by decide +kernel
theorem dX3_firstAttack_9 : decode cX3_firstAttack 9 = .ok (.iload 4, 2) := by decide +kernel
theorem dX3_firstAttack_11 : decode cX3_firstAttack 11 = .ok (.ifCond .ge 8, 3) := by decide +kernel
theorem dX3_firstAttack_14 : decode cX3_firstAttack 14 = .ok (.iload 4, 2) := by decide +kernel
theorem dX3_firstAttack_16 : decode cX3_firstAttack 16 = .ok (.goto 13, 3) := by decide +kernel
theorem dX3_firstAttack_19 : decode cX3_firstAttack 19 = .ok (.aload_n 0, 1) := by decide +kernel
theorem dX3_firstAttack_20 : decode cX3_firstAttack 20 = .ok (.getfield 21, 3) := by decide +kernel
theorem dX3_firstAttack_23 : decode cX3_firstAttack 23 = .ok (.iload_n 1, 1) := by decide +kernel
theorem dX3_firstAttack_24 : decode cX3_firstAttack 24 = .ok (.iload_n 2, 1) := by decide +kernel
theorem dX3_firstAttack_25 : decode cX3_firstAttack 25 = .ok (.iload_n 3, 1) := by decide +kernel
theorem dX3_firstAttack_26 : decode cX3_firstAttack 26 = .ok (.invokevirtual 97, 3) := by decide +kernel
theorem dX3_firstAttack_29 : decode cX3_firstAttack 29 = .ok (.ireturn, 1) := by decide +kernel
theorem dX3_representative_0 : decode cX3_representative 0 = .ok (.aload_n 0, 1) := by decide +kernel
theorem dX3_representative_1 : decode cX3_representative 1 = .ok (.iload_n 1, 1) := by decide +kernel
theorem dX3_representative_2 : decode cX3_representative 2 = .ok (.iload_n 1, 1) := by decide +kernel
theorem dX3_representative_3 : decode cX3_representative 3 = .ok (.iload_n 2, 1) := by decide +kernel
theorem dX3_representative_4 : decode cX3_representative 4 = .ok (.invokevirtual 90, 3) := by decide +kernel
theorem dX3_representative_7 : decode cX3_representative 7 = .ok (.istore_n 3, 1) := by decide +kernel
theorem dX3_representative_8 : decode cX3_representative 8 = .ok (.iload_n 3, 1) := by decide +kernel
theorem dX3_representative_9 : decode cX3_representative 9 = .ok (.ifCond .ge 7, 3) := by decide +kernel
theorem dX3_representative_12 : decode cX3_representative 12 = .ok (.iload_n 3, 1) := by decide +kernel
theorem dX3_representative_13 : decode cX3_representative 13 = .ok (.goto 9, 3) := by decide +kernel
theorem dX3_representative_16 : decode cX3_representative 16 = .ok (.aload_n 0, 1) := by decide +kernel
theorem dX3_representative_17 : decode cX3_representative 17 = .ok (.iload_n 1, 1) := by decide +kernel
theorem dX3_representative_18 : decode cX3_representative 18 = .ok (.iload_n 2, 1) := by decide +kernel
theorem dX3_representative_19 : decode cX3_representative 19 = .ok (.invokevirtual 100, 3) := by decide +kernel
theorem dX3_representative_22 : decode cX3_representative 22 = .ok (.ireturn, 1) := by decide +kernel
theorem dX3_classCount_0 : decode cX3_classCount 0 = .ok (.iload_n 1, 1) := by decide +kernel
theorem dX3_classCount_1 : decode cX3_classCount 1 = .ok (.invokestatic 103, 3) := by decide +kernel
theorem dX3_classCount_4 : decode cX3_classCount 4 = .ok (.ifCond .ne 5, 3) := by decide +kernel
theorem dX3_classCount_7 : decode cX3_classCount 7 = .ok (.iconst (-1), 1) := by decide +kernel
theorem dX3_classCount_8 : decode cX3_classCount 8 = .ok (.ireturn, 1) := by decide +kernel
theorem dX3_classCount_9 : decode cX3_classCount 9 = .ok (.iconst 0, 1) := by decide +kernel
theorem dX3_classCount_10 : decode cX3_classCount 10 = .ok (.istore_n 2, 1) := by decide +kernel
theorem dX3_classCount_11 : decode cX3_classCount 11 = .ok (.iconst 0, 1) := by decide +kernel
theorem dX3_classCount_12 : decode cX3_classCount 12 = .ok (.istore_n 3, 1) := by decide +kernel
theorem dX3_classCount_13 : decode cX3_classCount 13 = .ok (.iload_n 3, 1) := by decide +kernel
theorem dX3_classCount_14 : decode cX3_classCount 14 = .ok (.aload_n 0, 1) := by decide +kernel
theorem dX3_classCount_15 : decode cX3_classCount 15 = .ok (.getfield 10, 3) := by decide +kernel
theorem dX3_classCount_18 : decode cX3_classCount 18 = .ok (.getfield 36, 3) := by decide +kernel
theorem dX3_classCount_21 : decode cX3_classCount 21 = .ok (.if_icmp .ge 33, 3) := by decide +kernel
theorem dX3_classCount_24 : decode cX3_classCount 24 = .ok (.aload_n 0, 1) := by decide +kernel
theorem dX3_classCount_25 : decode cX3_classCount 25 = .ok (.getfield 10, 3) := by decide +kernel
theorem dX3_classCount_28 : decode cX3_classCount 28 = .ok (.iload_n 3, 1) := by decide +kernel
theorem dX3_classCount_29 : decode cX3_classCount 29 = .ok (.invokevirtual 75, 3) := by decide +kernel
theorem dX3_classCount_32 : decode cX3_classCount 32 = .ok (.ifCond .eq 16, 3) := by decide +kernel
theorem dX3_classCount_35 : decode cX3_classCount 35 = .ok (.aload_n 0, 1) := by decide +kernel
theorem dX3_classCount_36 : decode cX3_classCount 36 = .ok (.iload_n 3, 1) := by decide +kernel
theorem dX3_classCount_37 : decode cX3_classCount 37 = .ok (.iload_n 1, 1) := by decide +kernel
theorem dX3_classCount_38 : decode cX3_classCount 38 = .ok (.invokevirtual 100, 3) := by decide +kernel
theorem dX3_classCount_41 : decode cX3_classCount 41 = .ok (.iload_n 3, 1) := by decide +kernel
theorem dX3_classCount_42 : decode cX3_classCount 42 = .ok (.if_icmp .ne 6, 3) := by decide +kernel
theorem dX3_classCount_45 : decode cX3_classCount 45 = .ok (.iinc 2 1, 3) := by decide +kernel
theorem dX3_classCount_48 : decode cX3_classCount 48 = .ok (.iinc 3 1, 3) := by decide +kernel
theorem dX3_classCount_51 : decode cX3_classCount 51 = .ok (.goto (-38), 3) := by decide +kernel
theorem dX3_classCount_54 : decode cX3_classCount 54 = .ok (.iload_n 2, 1) := by decide +kernel
theorem dX3_classCount_55 : decode cX3_classCount 55 = .ok (.ireturn, 1) := by decide +kernel
theorem dX3_lowestRelated_0 : decode cX3_lowestRelated 0 = .ok (.iconst 0, 1) := by decide +kernel
theorem dX3_lowestRelated_1 : decode cX3_lowestRelated 1 = .ok (.istore_n 3, 1) := by decide +kernel
theorem dX3_lowestRelated_2 : decode cX3_lowestRelated 2 = .ok (.iload_n 3, 1) := by decide +kernel
theorem dX3_lowestRelated_3 : decode cX3_lowestRelated 3 = .ok (.iload_n 1, 1) := by decide +kernel
theorem dX3_lowestRelated_4 : decode cX3_lowestRelated 4 = .ok (.if_icmp .ge 37, 3) := by decide +kernel
theorem dX3_lowestRelated_7 : decode cX3_lowestRelated 7 = .ok (.aload_n 0, 1) := by decide +kernel
theorem dX3_lowestRelated_8 : decode cX3_lowestRelated 8 = .ok (.getfield 10, 3) := by decide +kernel
theorem dX3_lowestRelated_11 : decode cX3_lowestRelated 11 = .ok (.iload_n 3, 1) := by decide +kernel
theorem dX3_lowestRelated_12 : decode cX3_lowestRelated 12 = .ok (.invokevirtual 75, 3) := by decide +kernel
theorem dX3_lowestRelated_15 : decode cX3_lowestRelated 15 = .ok (.ifCond .eq 20, 3) := by decide +kernel
theorem dX3_lowestRelated_18 : decode cX3_lowestRelated 18 = .ok (.aload_n 0, 1) := by decide +kernel
theorem dX3_lowestRelated_19 : decode cX3_lowestRelated 19 = .ok (.getfield 21, 3) := by decide +kernel
theorem dX3_lowestRelated_22 : decode cX3_lowestRelated 22 = .ok (.iload_n 1, 1) := by decide +kernel
theorem dX3_lowestRelated_23 : decode cX3_lowestRelated 23 = .ok (.iload_n 3, 1) := by decide +kernel
theorem dX3_lowestRelated_24 : decode cX3_lowestRelated 24 = .ok (.iload_n 2, 1) := by decide +kernel
theorem dX3_lowestRelated_25 : decode cX3_lowestRelated 25 = .ok (.invokevirtual 94, 3) := by decide +kernel
theorem dX3_lowestRelated_28 : decode cX3_lowestRelated 28 = .ok (.bipush (-4), 2) := by decide +kernel
theorem dX3_lowestRelated_30 : decode cX3_lowestRelated 30 = .ok (.if_icmp .ne 5, 3) := by decide +kernel
theorem dX3_lowestRelated_33 : decode cX3_lowestRelated 33 = .ok (.iload_n 3, 1) := by decide +kernel
theorem dX3_lowestRelated_34 : decode cX3_lowestRelated 34 = .ok (.ireturn, 1) := by decide +kernel
theorem dX3_lowestRelated_35 : decode cX3_lowestRelated 35 = .ok (.iinc 3 1, 3) := by decide +kernel
theorem dX3_lowestRelated_38 : decode cX3_lowestRelated 38 = .ok (.goto (-36), 3) := by decide +kernel
theorem dX3_lowestRelated_41 : decode cX3_lowestRelated 41 = .ok (.iload_n 1, 1) := by decide +kernel
theorem dX3_lowestRelated_42 : decode cX3_lowestRelated 42 = .ok (.ireturn, 1) := by decide +kernel
theorem dX3_errorOfPair_0 : decode cX3_errorOfPair 0 = .ok (.aload_n 0, 1) := by decide +kernel
theorem dX3_errorOfPair_1 : decode cX3_errorOfPair 1 = .ok (.getfield 10, 3) := by decide +kernel
theorem dX3_errorOfPair_4 : decode cX3_errorOfPair 4 = .ok (.iload_n 1, 1) := by decide +kernel
theorem dX3_errorOfPair_5 : decode cX3_errorOfPair 5 = .ok (.invokevirtual 25, 3) := by decide +kernel
theorem dX3_errorOfPair_8 : decode cX3_errorOfPair 8 = .ok (.ifCond .eq 21, 3) := by decide +kernel
theorem dX3_errorOfPair_11 : decode cX3_errorOfPair 11 = .ok (.aload_n 0, 1) := by decide +kernel
theorem dX3_errorOfPair_12 : decode cX3_errorOfPair 12 = .ok (.getfield 10, 3) := by decide +kernel
theorem dX3_errorOfPair_15 : decode cX3_errorOfPair 15 = .ok (.iload_n 2, 1) := by decide +kernel
theorem dX3_errorOfPair_16 : decode cX3_errorOfPair 16 = .ok (.invokevirtual 25, 3) := by decide +kernel
theorem dX3_errorOfPair_19 : decode cX3_errorOfPair 19 = .ok (.ifCond .eq 10, 3) := by decide +kernel
theorem dX3_errorOfPair_22 : decode cX3_errorOfPair 22 = .ok (.iload_n 3, 1) := by decide +kernel
theorem dX3_errorOfPair_23 : decode cX3_errorOfPair 23 = .ok (.invokestatic 103, 3) := by decide +kernel
theorem dX3_errorOfPair_26 : decode cX3_errorOfPair 26 = .ok (.ifCond .ne 5, 3) := by decide +kernel
theorem dX3_errorOfPair_29 : decode cX3_errorOfPair 29 = .ok (.iconst (-1), 1) := by decide +kernel
theorem dX3_errorOfPair_30 : decode cX3_errorOfPair 30 = .ok (.ireturn, 1) := by decide +kernel
theorem dX3_errorOfPair_31 : decode cX3_errorOfPair 31 = .ok (.aload_n 0, 1) := by decide +kernel
theorem dX3_errorOfPair_32 : decode cX3_errorOfPair 32 = .ok (.getfield 10, 3) := by decide +kernel
theorem dX3_errorOfPair_35 : decode cX3_errorOfPair 35 = .ok (.iload_n 1, 1) := by decide +kernel
theorem dX3_errorOfPair_36 : decode cX3_errorOfPair 36 = .ok (.invokevirtual 75, 3) := by decide +kernel
theorem dX3_errorOfPair_39 : decode cX3_errorOfPair 39 = .ok (.ifCond .eq 18, 3) := by decide +kernel
theorem dX3_errorOfPair_42 : decode cX3_errorOfPair 42 = .ok (.aload_n 0, 1) := by decide +kernel
theorem dX3_errorOfPair_43 : decode cX3_errorOfPair 43 = .ok (.getfield 10, 3) := by decide +kernel
theorem dX3_errorOfPair_46 : decode cX3_errorOfPair 46 = .ok (.iload_n 2, 1) := by decide +kernel
theorem dX3_errorOfPair_47 : decode cX3_errorOfPair 47 = .ok (.invokevirtual 75, 3) := by decide +kernel
theorem dX3_errorOfPair_50 : decode cX3_errorOfPair 50 = .ok (.ifCond .eq 7, 3) := by decide +kernel
theorem dX3_errorOfPair_53 : decode cX3_errorOfPair 53 = .ok (.iconst 0, 1) := by decide +kernel
theorem dX3_errorOfPair_54 : decode cX3_errorOfPair 54 = .ok (.goto 5, 3) := by decide +kernel
theorem dX3_errorOfPair_57 : decode cX3_errorOfPair 57 = .ok (.bipush (-2), 2) := by decide +kernel
theorem dX3_errorOfPair_59 : decode cX3_errorOfPair 59 = .ok (.ireturn, 1) := by decide +kernel
theorem dX3_isName_0 : decode cX3_isName 0 = .ok (.iload_n 0, 1) := by decide +kernel
theorem dX3_isName_1 : decode cX3_isName 1 = .ok (.ifCond .lt 13, 3) := by decide +kernel
theorem dX3_isName_4 : decode cX3_isName 4 = .ok (.iload_n 0, 1) := by decide +kernel
theorem dX3_isName_5 : decode cX3_isName 5 = .ok (.bipush 6, 2) := by decide +kernel
theorem dX3_isName_7 : decode cX3_isName 7 = .ok (.if_icmp .ge 7, 3) := by decide +kernel
theorem dX3_isName_10 : decode cX3_isName 10 = .ok (.iconst 1, 1) := by decide +kernel
theorem dX3_isName_11 : decode cX3_isName 11 = .ok (.goto 4, 3) := by decide +kernel
theorem dX3_isName_14 : decode cX3_isName 14 = .ok (.iconst 0, 1) := by decide +kernel
theorem dX3_isName_15 : decode cX3_isName 15 = .ok (.ireturn, 1) := by decide +kernel
theorem dX3_isRelation_0 : decode cX3_isRelation 0 = .ok (.iload_n 0, 1) := by decide +kernel
theorem dX3_isRelation_1 : decode cX3_isRelation 1 = .ok (.ifCond .lt 12, 3) := by decide +kernel
theorem dX3_isRelation_4 : decode cX3_isRelation 4 = .ok (.iload_n 0, 1) := by decide +kernel
theorem dX3_isRelation_5 : decode cX3_isRelation 5 = .ok (.iconst 3, 1) := by decide +kernel
theorem dX3_isRelation_6 : decode cX3_isRelation 6 = .ok (.if_icmp .ge 7, 3) := by decide +kernel
theorem dX3_isRelation_9 : decode cX3_isRelation 9 = .ok (.iconst 1, 1) := by decide +kernel
theorem dX3_isRelation_10 : decode cX3_isRelation 10 = .ok (.goto 4, 3) := by decide +kernel
theorem dX3_isRelation_13 : decode cX3_isRelation 13 = .ok (.iconst 0, 1) := by decide +kernel
theorem dX3_isRelation_14 : decode cX3_isRelation 14 = .ok (.ireturn, 1) := by decide +kernel
theorem dX3_at_0 : decode cX3_at 0 = .ok (.aload_n 0, 1) := by decide +kernel
theorem dX3_at_1 : decode cX3_at 1 = .ok (.ifnull 19, 3) := by decide +kernel
theorem dX3_at_4 : decode cX3_at 4 = .ok (.iload_n 1, 1) := by decide +kernel
theorem dX3_at_5 : decode cX3_at 5 = .ok (.ifCond .lt 15, 3) := by decide +kernel
theorem dX3_at_8 : decode cX3_at 8 = .ok (.iload_n 1, 1) := by decide +kernel
theorem dX3_at_9 : decode cX3_at 9 = .ok (.aload_n 0, 1) := by decide +kernel
theorem dX3_at_10 : decode cX3_at 10 = .ok (.arraylength, 1) := by decide +kernel
theorem dX3_at_11 : decode cX3_at 11 = .ok (.if_icmp .ge 9, 3) := by decide +kernel
theorem dX3_at_14 : decode cX3_at 14 = .ok (.aload_n 0, 1) := by decide +kernel
theorem dX3_at_15 : decode cX3_at 15 = .ok (.iload_n 1, 1) := by decide +kernel
theorem dX3_at_16 : decode cX3_at 16 = .ok (.iaload, 1) := by decide +kernel
theorem dX3_at_17 : decode cX3_at 17 = .ok (.goto 4, 3) := by decide +kernel
theorem dX3_at_20 : decode cX3_at 20 = .ok (.iconst 0, 1) := by decide +kernel
theorem dX3_at_21 : decode cX3_at 21 = .ok (.ireturn, 1) := by decide +kernel
theorem dX3_at__0 : decode cX3_at_ 0 = .ok (.aload_n 0, 1) := by decide +kernel
theorem dX3_at__1 : decode cX3_at_ 1 = .ok (.ifnull 19, 3) := by decide +kernel
theorem dX3_at__4 : decode cX3_at_ 4 = .ok (.iload_n 1, 1) := by decide +kernel
theorem dX3_at__5 : decode cX3_at_ 5 = .ok (.ifCond .lt 15, 3) := by decide +kernel
theorem dX3_at__8 : decode cX3_at_ 8 = .ok (.iload_n 1, 1) := by decide +kernel
theorem dX3_at__9 : decode cX3_at_ 9 = .ok (.aload_n 0, 1) := by decide +kernel
theorem dX3_at__10 : decode cX3_at_ 10 = .ok (.arraylength, 1) := by decide +kernel
theorem dX3_at__11 : decode cX3_at_ 11 = .ok (.if_icmp .ge 9, 3) := by decide +kernel
theorem dX3_at__14 : decode cX3_at_ 14 = .ok (.aload_n 0, 1) := by decide +kernel
theorem dX3_at__15 : decode cX3_at_ 15 = .ok (.iload_n 1, 1) := by decide +kernel
theorem dX3_at__16 : decode cX3_at_ 16 = .ok (.laload, 1) := by decide +kernel
theorem dX3_at__17 : decode cX3_at_ 17 = .ok (.goto 4, 3) := by decide +kernel
theorem dX3_at__20 : decode cX3_at_ 20 = .ok (.lconst 0, 1) := by decide +kernel
theorem dX3_at__21 : decode cX3_at_ 21 = .ok (.lreturn, 1) := by decide +kernel
theorem dX3_put_0 : decode cX3_put 0 = .ok (.aload_n 0, 1) := by decide +kernel
theorem dX3_put_1 : decode cX3_put 1 = .ok (.ifnull 17, 3) := by decide +kernel
theorem dX3_put_4 : decode cX3_put 4 = .ok (.iload_n 1, 1) := by decide +kernel
theorem dX3_put_5 : decode cX3_put 5 = .ok (.ifCond .lt 13, 3) := by decide +kernel
theorem dX3_put_8 : decode cX3_put 8 = .ok (.iload_n 1, 1) := by decide +kernel
theorem dX3_put_9 : decode cX3_put 9 = .ok (.aload_n 0, 1) := by decide +kernel
theorem dX3_put_10 : decode cX3_put 10 = .ok (.arraylength, 1) := by decide +kernel
theorem dX3_put_11 : decode cX3_put 11 = .ok (.if_icmp .ge 7, 3) := by decide +kernel
theorem dX3_put_14 : decode cX3_put 14 = .ok (.aload_n 0, 1) := by decide +kernel
theorem dX3_put_15 : decode cX3_put 15 = .ok (.iload_n 1, 1) := by decide +kernel
theorem dX3_put_16 : decode cX3_put 16 = .ok (.iload_n 2, 1) := by decide +kernel
theorem dX3_put_17 : decode cX3_put 17 = .ok (.iastore, 1) := by decide +kernel
theorem dX3_put_18 : decode cX3_put 18 = .ok (.return_, 1) := by decide +kernel
theorem dX3_put__0 : decode cX3_put_ 0 = .ok (.aload_n 0, 1) := by decide +kernel
theorem dX3_put__1 : decode cX3_put_ 1 = .ok (.ifnull 17, 3) := by decide +kernel
theorem dX3_put__4 : decode cX3_put_ 4 = .ok (.iload_n 1, 1) := by decide +kernel
theorem dX3_put__5 : decode cX3_put_ 5 = .ok (.ifCond .lt 13, 3) := by decide +kernel
theorem dX3_put__8 : decode cX3_put_ 8 = .ok (.iload_n 1, 1) := by decide +kernel
theorem dX3_put__9 : decode cX3_put_ 9 = .ok (.aload_n 0, 1) := by decide +kernel
theorem dX3_put__10 : decode cX3_put_ 10 = .ok (.arraylength, 1) := by decide +kernel
theorem dX3_put__11 : decode cX3_put_ 11 = .ok (.if_icmp .ge 7, 3) := by decide +kernel
theorem dX3_put__14 : decode cX3_put_ 14 = .ok (.aload_n 0, 1) := by decide +kernel
theorem dX3_put__15 : decode cX3_put_ 15 = .ok (.iload_n 1, 1) := by decide +kernel
theorem dX3_put__16 : decode cX3_put_ 16 = .ok (.lload_n 2, 1) := by decide +kernel
theorem dX3_put__17 : decode cX3_put_ 17 = .ok (.lastore, 1) := by decide +kernel
theorem dX3_put__18 : decode cX3_put_ 18 = .ok (.return_, 1) := by decide +kernel
theorem dJ9_max_7cf53_0 : decode cJ9_max_7cf53 0 = .ok (.iload_n 0, 1) := by decide +kernel
theorem dJ9_max_7cf53_1 : decode cJ9_max_7cf53 1 = .ok (.iload_n 1, 1) := by decide +kernel
theorem dJ9_max_7cf53_2 : decode cJ9_max_7cf53 2 = .ok (.if_icmp .lt 7, 3) := by decide +kernel
theorem dJ9_max_7cf53_5 : decode cJ9_max_7cf53 5 = .ok (.iload_n 0, 1) := by decide +kernel
theorem dJ9_max_7cf53_6 : decode cJ9_max_7cf53 6 = .ok (.goto 4, 3) := by decide +kernel
theorem dJ9_max_7cf53_9 : decode cJ9_max_7cf53 9 = .ok (.iload_n 1, 1) := by decide +kernel
theorem dJ9_max_7cf53_10 : decode cJ9_max_7cf53 10 = .ok (.ireturn, 1) := by decide +kernel
theorem dJ9_min_7cf53_0 : decode cJ9_min_7cf53 0 = .ok (.iload_n 0, 1) := by decide +kernel
theorem dJ9_min_7cf53_1 : decode cJ9_min_7cf53 1 = .ok (.iload_n 1, 1) := by decide +kernel
theorem dJ9_min_7cf53_2 : decode cJ9_min_7cf53 2 = .ok (.if_icmp .gt 7, 3) := by decide +kernel
theorem dJ9_min_7cf53_5 : decode cJ9_min_7cf53 5 = .ok (.iload_n 0, 1) := by decide +kernel
theorem dJ9_min_7cf53_6 : decode cJ9_min_7cf53 6 = .ok (.goto 4, 3) := by decide +kernel
theorem dJ9_min_7cf53_9 : decode cJ9_min_7cf53 9 = .ok (.iload_n 1, 1) := by decide +kernel
theorem dJ9_min_7cf53_10 : decode cJ9_min_7cf53 10 = .ok (.ireturn, 1) := by decide +kernel
theorem dJ0_length_8abf5_0 : decode cJ0_length_8abf5 0 = .ok (.aload_n 0, 1) := by decide +kernel
theorem dJ0_length_8abf5_1 : decode cJ0_length_8abf5 1 = .ok (.getfield 9, 3) := by decide +kernel
theorem dJ0_length_8abf5_4 : decode cJ0_length_8abf5 4 = .ok (.arraylength, 1) := by decide +kernel
theorem dJ0_length_8abf5_5 : decode cJ0_length_8abf5 5 = .ok (.aload_n 0, 1) := by decide +kernel
theorem dJ0_length_8abf5_6 : decode cJ0_length_8abf5 6 = .ok (.invokevirtual 335, 3) := by decide +kernel
theorem dJ0_length_8abf5_9 : decode cJ0_length_8abf5 9 = .ok (.ishr, 1) := by decide +kernel
theorem dJ0_length_8abf5_10 : decode cJ0_length_8abf5 10 = .ok (.ireturn, 1) := by decide +kernel
theorem dJ0_coder_7d493_0 : decode cJ0_coder_7d493 0 = .ok (.getstatic 38, 3) := by decide +kernel
theorem dJ0_coder_7d493_3 : decode cJ0_coder_7d493 3 = .ok (.ifCond .eq 10, 3) := by decide +kernel
theorem dJ0_coder_7d493_6 : decode cJ0_coder_7d493 6 = .ok (.aload_n 0, 1) := by decide +kernel
theorem dJ0_coder_7d493_7 : decode cJ0_coder_7d493 7 = .ok (.getfield 15, 3) := by decide +kernel
theorem dJ0_coder_7d493_10 : decode cJ0_coder_7d493 10 = .ok (.goto 4, 3) := by decide +kernel
theorem dJ0_coder_7d493_13 : decode cJ0_coder_7d493 13 = .ok (.iconst 1, 1) := by decide +kernel
theorem dJ0_coder_7d493_14 : decode cJ0_coder_7d493 14 = .ok (.ireturn, 1) := by decide +kernel
