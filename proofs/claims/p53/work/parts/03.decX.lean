theorem dX0_init_0 : decode cX0_init 0 = .ok (.aload_n 0, 1) := by decide +kernel
theorem dX0_init_1 : decode cX0_init 1 = .ok (.invokespecial 3, 3) := by decide +kernel
theorem dX0_init_4 : decode cX0_init 4 = .ok (.aload_n 0, 1) := by decide +kernel
theorem dX0_init_5 : decode cX0_init 5 = .ok (.bipush 8, 2) := by decide +kernel
theorem dX0_init_7 : decode cX0_init 7 = .ok (.newarray .int, 2) := by decide +kernel
theorem dX0_init_9 : decode cX0_init 9 = .ok (.putfield 9, 3) := by decide +kernel
theorem dX0_init_12 : decode cX0_init 12 = .ok (.aload_n 0, 1) := by decide +kernel
theorem dX0_init_13 : decode cX0_init 13 = .ok (.bipush 8, 2) := by decide +kernel
theorem dX0_init_15 : decode cX0_init 15 = .ok (.newarray .int, 2) := by decide +kernel
theorem dX0_init_17 : decode cX0_init 17 = .ok (.putfield 15, 3) := by decide +kernel
theorem dX0_init_20 : decode cX0_init 20 = .ok (.return_, 1) := by decide +kernel
theorem dX0_byGiving_0 : decode cX0_byGiving 0 = .ok (.aload_n 0, 1) := by decide +kernel
theorem dX0_byGiving_1 : decode cX0_byGiving 1 = .ok (.aload_n 1, 1) := by decide +kernel
theorem dX0_byGiving_2 : decode cX0_byGiving 2 = .ok (.invokevirtual 18, 3) := by decide +kernel
theorem dX0_byGiving_5 : decode cX0_byGiving 5 = .ok (.aload_n 0, 1) := by decide +kernel
theorem dX0_byGiving_6 : decode cX0_byGiving 6 = .ok (.getfield 9, 3) := by decide +kernel
theorem dX0_byGiving_9 : decode cX0_byGiving 9 = .ok (.iload_n 2, 1) := by decide +kernel
theorem dX0_byGiving_10 : decode cX0_byGiving 10 = .ok (.iaload, 1) := by decide +kernel
theorem dX0_byGiving_11 : decode cX0_byGiving 11 = .ok (.ireturn, 1) := by decide +kernel
theorem dX0_byCounting_0 : decode cX0_byCounting 0 = .ok (.aload_n 0, 1) := by decide +kernel
theorem dX0_byCounting_1 : decode cX0_byCounting 1 = .ok (.aload_n 1, 1) := by decide +kernel
theorem dX0_byCounting_2 : decode cX0_byCounting 2 = .ok (.invokevirtual 22, 3) := by decide +kernel
theorem dX0_byCounting_5 : decode cX0_byCounting 5 = .ok (.istore_n 3, 1) := by decide +kernel
theorem dX0_byCounting_6 : decode cX0_byCounting 6 = .ok (.iconst 0, 1) := by decide +kernel
theorem dX0_byCounting_7 : decode cX0_byCounting 7 = .ok (.istore 4, 2) := by decide +kernel
theorem dX0_byCounting_9 : decode cX0_byCounting 9 = .ok (.iconst 0, 1) := by decide +kernel
theorem dX0_byCounting_10 : decode cX0_byCounting 10 = .ok (.istore 5, 2) := by decide +kernel
theorem dX0_byCounting_12 : decode cX0_byCounting 12 = .ok (.iload 5, 2) := by decide +kernel
theorem dX0_byCounting_14 : decode cX0_byCounting 14 = .ok (.aload_n 1, 1) := by decide +kernel
theorem dX0_byCounting_15 : decode cX0_byCounting 15 = .ok (.getfield 26, 3) := by decide +kernel
theorem dX0_byCounting_18 : decode cX0_byCounting 18 = .ok (.if_icmp .ge 50, 3) := by decide +kernel
theorem dX0_byCounting_21 : decode cX0_byCounting 21 = .ok (.aload_n 0, 1) := by decide +kernel
theorem dX0_byCounting_22 : decode cX0_byCounting 22 = .ok (.getfield 15, 3) := by decide +kernel
theorem dX0_byCounting_25 : decode cX0_byCounting 25 = .ok (.iload 5, 2) := by decide +kernel
theorem dX0_byCounting_27 : decode cX0_byCounting 27 = .ok (.iaload, 1) := by decide +kernel
theorem dX0_byCounting_28 : decode cX0_byCounting 28 = .ok (.aload_n 0, 1) := by decide +kernel
theorem dX0_byCounting_29 : decode cX0_byCounting 29 = .ok (.getfield 15, 3) := by decide +kernel
theorem dX0_byCounting_32 : decode cX0_byCounting 32 = .ok (.iload_n 2, 1) := by decide +kernel
theorem dX0_byCounting_33 : decode cX0_byCounting 33 = .ok (.iaload, 1) := by decide +kernel
theorem dX0_byCounting_34 : decode cX0_byCounting 34 = .ok (.if_icmp .gt 25, 3) := by decide +kernel
theorem dX0_byCounting_37 : decode cX0_byCounting 37 = .ok (.aload_n 0, 1) := by decide +kernel
theorem dX0_byCounting_38 : decode cX0_byCounting 38 = .ok (.getfield 15, 3) := by decide +kernel
theorem dX0_byCounting_41 : decode cX0_byCounting 41 = .ok (.iload 5, 2) := by decide +kernel
theorem dX0_byCounting_43 : decode cX0_byCounting 43 = .ok (.iaload, 1) := by decide +kernel
theorem dX0_byCounting_44 : decode cX0_byCounting 44 = .ok (.aload_n 0, 1) := by decide +kernel
theorem dX0_byCounting_45 : decode cX0_byCounting 45 = .ok (.getfield 15, 3) := by decide +kernel
theorem dX0_byCounting_48 : decode cX0_byCounting 48 = .ok (.iload_n 2, 1) := by decide +kernel
theorem dX0_byCounting_49 : decode cX0_byCounting 49 = .ok (.iaload, 1) := by decide +kernel
theorem dX0_byCounting_50 : decode cX0_byCounting 50 = .ok (.if_icmp .ne 12, 3) := by decide +kernel
theorem dX0_byCounting_53 : decode cX0_byCounting 53 = .ok (.iload 5, 2) := by decide +kernel
theorem dX0_byCounting_55 : decode cX0_byCounting 55 = .ok (.iload_n 2, 1) := by decide +kernel
theorem dX0_byCounting_56 : decode cX0_byCounting 56 = .ok (.if_icmp .ge 6, 3) := by decide +kernel
theorem dX0_byCounting_59 : decode cX0_byCounting 59 = .ok (.iinc 4 1, 3) := by decide +kernel
theorem dX0_byCounting_62 : decode cX0_byCounting 62 = .ok (.iinc 5 1, 3) := by decide +kernel
theorem dX0_byCounting_65 : decode cX0_byCounting 65 = .ok (.goto (-53), 3) := by decide +kernel
theorem dX0_byCounting_68 : decode cX0_byCounting 68 = .ok (.aload_n 0, 1) := by decide +kernel
theorem dX0_byCounting_69 : decode cX0_byCounting 69 = .ok (.getfield 9, 3) := by decide +kernel
theorem dX0_byCounting_72 : decode cX0_byCounting 72 = .ok (.iload_n 2, 1) := by decide +kernel
theorem dX0_byCounting_73 : decode cX0_byCounting 73 = .ok (.iaload, 1) := by decide +kernel
theorem dX0_byCounting_74 : decode cX0_byCounting 74 = .ok (.iload 4, 2) := by decide +kernel
theorem dX0_byCounting_76 : decode cX0_byCounting 76 = .ok (.iload_n 3, 1) := by decide +kernel
theorem dX0_byCounting_77 : decode cX0_byCounting 77 = .ok (.if_icmp .ge 7, 3) := by decide +kernel
theorem dX0_byCounting_80 : decode cX0_byCounting 80 = .ok (.iconst 1, 1) := by decide +kernel
theorem dX0_byCounting_81 : decode cX0_byCounting 81 = .ok (.goto 4, 3) := by decide +kernel
theorem dX0_byCounting_84 : decode cX0_byCounting 84 = .ok (.iconst 0, 1) := by decide +kernel
theorem dX0_byCounting_85 : decode cX0_byCounting 85 = .ok (.iadd, 1) := by decide +kernel
theorem dX0_byCounting_86 : decode cX0_byCounting 86 = .ok (.ireturn, 1) := by decide +kernel
theorem dX0_payOut_0 : decode cX0_payOut 0 = .ok (.aload_n 0, 1) := by decide +kernel
theorem dX0_payOut_1 : decode cX0_payOut 1 = .ok (.aload_n 1, 1) := by decide +kernel
theorem dX0_payOut_2 : decode cX0_payOut 2 = .ok (.invokevirtual 18, 3) := by decide +kernel
theorem dX0_payOut_5 : decode cX0_payOut 5 = .ok (.iconst 0, 1) := by decide +kernel
theorem dX0_payOut_6 : decode cX0_payOut 6 = .ok (.istore_n 2, 1) := by decide +kernel
theorem dX0_payOut_7 : decode cX0_payOut 7 = .ok (.iconst 0, 1) := by decide +kernel
theorem dX0_payOut_8 : decode cX0_payOut 8 = .ok (.istore_n 3, 1) := by decide +kernel
theorem dX0_payOut_9 : decode cX0_payOut 9 = .ok (.iload_n 3, 1) := by decide +kernel
theorem dX0_payOut_10 : decode cX0_payOut 10 = .ok (.aload_n 1, 1) := by decide +kernel
theorem dX0_payOut_11 : decode cX0_payOut 11 = .ok (.getfield 26, 3) := by decide +kernel
theorem dX0_payOut_14 : decode cX0_payOut 14 = .ok (.if_icmp .ge 33, 3) := by decide +kernel
theorem dX0_payOut_17 : decode cX0_payOut 17 = .ok (.aload_n 1, 1) := by decide +kernel
theorem dX0_payOut_18 : decode cX0_payOut 18 = .ok (.getfield 32, 3) := by decide +kernel
theorem dX0_payOut_21 : decode cX0_payOut 21 = .ok (.iload_n 3, 1) := by decide +kernel
theorem dX0_payOut_22 : decode cX0_payOut 22 = .ok (.dup2, 1) := by decide +kernel
theorem dX0_payOut_23 : decode cX0_payOut 23 = .ok (.iaload, 1) := by decide +kernel
theorem dX0_payOut_24 : decode cX0_payOut 24 = .ok (.aload_n 0, 1) := by decide +kernel
theorem dX0_payOut_25 : decode cX0_payOut 25 = .ok (.getfield 9, 3) := by decide +kernel
theorem dX0_payOut_28 : decode cX0_payOut 28 = .ok (.iload_n 3, 1) := by decide +kernel
theorem dX0_payOut_29 : decode cX0_payOut 29 = .ok (.iaload, 1) := by decide +kernel
theorem dX0_payOut_30 : decode cX0_payOut 30 = .ok (.iadd, 1) := by decide +kernel
theorem dX0_payOut_31 : decode cX0_payOut 31 = .ok (.iastore, 1) := by decide +kernel
theorem dX0_payOut_32 : decode cX0_payOut 32 = .ok (.iload_n 2, 1) := by decide +kernel
theorem dX0_payOut_33 : decode cX0_payOut 33 = .ok (.aload_n 0, 1) := by decide +kernel
theorem dX0_payOut_34 : decode cX0_payOut 34 = .ok (.getfield 9, 3) := by decide +kernel
theorem dX0_payOut_37 : decode cX0_payOut 37 = .ok (.iload_n 3, 1) := by decide +kernel
theorem dX0_payOut_38 : decode cX0_payOut 38 = .ok (.iaload, 1) := by decide +kernel
theorem dX0_payOut_39 : decode cX0_payOut 39 = .ok (.iadd, 1) := by decide +kernel
theorem dX0_payOut_40 : decode cX0_payOut 40 = .ok (.istore_n 2, 1) := by decide +kernel
theorem dX0_payOut_41 : decode cX0_payOut 41 = .ok (.iinc 3 1, 3) := by decide +kernel
theorem dX0_payOut_44 : decode cX0_payOut 44 = .ok (.goto (-35), 3) := by decide +kernel
theorem dX0_payOut_47 : decode cX0_payOut 47 = .ok (.aload_n 1, 1) := by decide +kernel
theorem dX0_payOut_48 : decode cX0_payOut 48 = .ok (.iconst 0, 1) := by decide +kernel
theorem dX0_payOut_49 : decode cX0_payOut 49 = .ok (.putfield 35, 3) := by decide +kernel
theorem dX0_payOut_52 : decode cX0_payOut 52 = .ok (.aload_n 1, 1) := by decide +kernel
theorem dX0_payOut_53 : decode cX0_payOut 53 = .ok (.dup, 1) := by decide +kernel
theorem dX0_payOut_54 : decode cX0_payOut 54 = .ok (.getfield 38, 3) := by decide +kernel
theorem dX0_payOut_57 : decode cX0_payOut 57 = .ok (.iconst 1, 1) := by decide +kernel
theorem dX0_payOut_58 : decode cX0_payOut 58 = .ok (.iadd, 1) := by decide +kernel
theorem dX0_payOut_59 : decode cX0_payOut 59 = .ok (.putfield 38, 3) := by decide +kernel
theorem dX0_payOut_62 : decode cX0_payOut 62 = .ok (.iload_n 2, 1) := by decide +kernel
theorem dX0_payOut_63 : decode cX0_payOut 63 = .ok (.ireturn, 1) := by decide +kernel
theorem dX0_giveAll_0 : decode cX0_giveAll 0 = .ok (.aload_n 0, 1) := by decide +kernel
theorem dX0_giveAll_1 : decode cX0_giveAll 1 = .ok (.aload_n 1, 1) := by decide +kernel
theorem dX0_giveAll_2 : decode cX0_giveAll 2 = .ok (.invokevirtual 22, 3) := by decide +kernel
theorem dX0_giveAll_5 : decode cX0_giveAll 5 = .ok (.istore_n 2, 1) := by decide +kernel
theorem dX0_giveAll_6 : decode cX0_giveAll 6 = .ok (.iconst 0, 1) := by decide +kernel
theorem dX0_giveAll_7 : decode cX0_giveAll 7 = .ok (.istore_n 3, 1) := by decide +kernel
theorem dX0_giveAll_8 : decode cX0_giveAll 8 = .ok (.iload_n 3, 1) := by decide +kernel
theorem dX0_giveAll_9 : decode cX0_giveAll 9 = .ok (.iload_n 2, 1) := by decide +kernel
theorem dX0_giveAll_10 : decode cX0_giveAll 10 = .ok (.if_icmp .ge 38, 3) := by decide +kernel
theorem dX0_giveAll_13 : decode cX0_giveAll 13 = .ok (.aload_n 0, 1) := by decide +kernel
theorem dX0_giveAll_14 : decode cX0_giveAll 14 = .ok (.aload_n 1, 1) := by decide +kernel
theorem dX0_giveAll_15 : decode cX0_giveAll 15 = .ok (.getfield 26, 3) := by decide +kernel
theorem dX0_giveAll_18 : decode cX0_giveAll 18 = .ok (.invokevirtual 41, 3) := by decide +kernel
theorem dX0_giveAll_21 : decode cX0_giveAll 21 = .ok (.istore 4, 2) := by decide +kernel
theorem dX0_giveAll_23 : decode cX0_giveAll 23 = .ok (.aload_n 0, 1) := by decide +kernel
theorem dX0_giveAll_24 : decode cX0_giveAll 24 = .ok (.getfield 9, 3) := by decide +kernel
theorem dX0_giveAll_27 : decode cX0_giveAll 27 = .ok (.iload 4, 2) := by decide +kernel
theorem dX0_giveAll_29 : decode cX0_giveAll 29 = .ok (.dup2, 1) := by decide +kernel
theorem dX0_giveAll_30 : decode cX0_giveAll 30 = .ok (.iaload, 1) := by decide +kernel
theorem dX0_giveAll_31 : decode cX0_giveAll 31 = .ok (.iconst 1, 1) := by decide +kernel
theorem dX0_giveAll_32 : decode cX0_giveAll 32 = .ok (.iadd, 1) := by decide +kernel
theorem dX0_giveAll_33 : decode cX0_giveAll 33 = .ok (.iastore, 1) := by decide +kernel
theorem dX0_giveAll_34 : decode cX0_giveAll 34 = .ok (.aload_n 0, 1) := by decide +kernel
theorem dX0_giveAll_35 : decode cX0_giveAll 35 = .ok (.getfield 15, 3) := by decide +kernel
theorem dX0_giveAll_38 : decode cX0_giveAll 38 = .ok (.iload 4, 2) := by decide +kernel
theorem dX0_giveAll_40 : decode cX0_giveAll 40 = .ok (.iconst (-1), 1) := by decide +kernel
theorem dX0_giveAll_41 : decode cX0_giveAll 41 = .ok (.iastore, 1) := by decide +kernel
theorem dX0_giveAll_42 : decode cX0_giveAll 42 = .ok (.iinc 3 1, 3) := by decide +kernel
theorem dX0_giveAll_45 : decode cX0_giveAll 45 = .ok (.goto (-37), 3) := by decide +kernel
theorem dX0_giveAll_48 : decode cX0_giveAll 48 = .ok (.return_, 1) := by decide +kernel
theorem dX0_divide_0 : decode cX0_divide 0 = .ok (.aload_n 1, 1) := by decide +kernel
theorem dX0_divide_1 : decode cX0_divide 1 = .ok (.invokevirtual 45, 3) := by decide +kernel
theorem dX0_divide_4 : decode cX0_divide 4 = .ok (.istore_n 2, 1) := by decide +kernel
theorem dX0_divide_5 : decode cX0_divide 5 = .ok (.aload_n 1, 1) := by decide +kernel
theorem dX0_divide_6 : decode cX0_divide 6 = .ok (.getfield 35, 3) := by decide +kernel
theorem dX0_divide_9 : decode cX0_divide 9 = .ok (.istore_n 3, 1) := by decide +kernel
theorem dX0_divide_10 : decode cX0_divide 10 = .ok (.iconst 0, 1) := by decide +kernel
theorem dX0_divide_11 : decode cX0_divide 11 = .ok (.istore 4, 2) := by decide +kernel
theorem dX0_divide_13 : decode cX0_divide 13 = .ok (.iload 4, 2) := by decide +kernel
theorem dX0_divide_15 : decode cX0_divide 15 = .ok (.aload_n 1, 1) := by decide +kernel
theorem dX0_divide_16 : decode cX0_divide 16 = .ok (.getfield 26, 3) := by decide +kernel
theorem dX0_divide_19 : decode cX0_divide 19 = .ok (.if_icmp .ge 71, 3) := by decide +kernel
theorem dX0_divide_22 : decode cX0_divide 22 = .ok (.aload_n 1, 1) := by decide +kernel
theorem dX0_divide_23 : decode cX0_divide 23 = .ok (.getfield 35, 3) := by decide +kernel
theorem dX0_divide_26 : decode cX0_divide 26 = .ok (.aload_n 1, 1) := by decide +kernel
theorem dX0_divide_27 : decode cX0_divide 27 = .ok (.getfield 49, 3) := by decide +kernel
theorem dX0_divide_30 : decode cX0_divide 30 = .ok (.iload 4, 2) := by decide +kernel
theorem dX0_divide_32 : decode cX0_divide 32 = .ok (.iaload, 1) := by decide +kernel
theorem dX0_divide_33 : decode cX0_divide 33 = .ok (.imul, 1) := by decide +kernel
theorem dX0_divide_34 : decode cX0_divide 34 = .ok (.istore 5, 2) := by decide +kernel
theorem dX0_divide_36 : decode cX0_divide 36 = .ok (.aload_n 0, 1) := by decide +kernel
theorem dX0_divide_37 : decode cX0_divide 37 = .ok (.getfield 9, 3) := by decide +kernel
theorem dX0_divide_40 : decode cX0_divide 40 = .ok (.iload 4, 2) := by decide +kernel
theorem dX0_divide_42 : decode cX0_divide 42 = .ok (.iload_n 2, 1) := by decide +kernel
theorem dX0_divide_43 : decode cX0_divide 43 = .ok (.ifCond .ne 7, 3) := by decide +kernel
theorem dX0_divide_46 : decode cX0_divide 46 = .ok (.iconst 0, 1) := by decide +kernel
theorem dX0_divide_47 : decode cX0_divide 47 = .ok (.goto 7, 3) := by decide +kernel
theorem dX0_divide_50 : decode cX0_divide 50 = .ok (.iload 5, 2) := by decide +kernel
theorem dX0_divide_52 : decode cX0_divide 52 = .ok (.iload_n 2, 1) := by decide +kernel
theorem dX0_divide_53 : decode cX0_divide 53 = .ok (.idiv, 1) := by decide +kernel
theorem dX0_divide_54 : decode cX0_divide 54 = .ok (.iastore, 1) := by decide +kernel
theorem dX0_divide_55 : decode cX0_divide 55 = .ok (.aload_n 0, 1) := by decide +kernel
theorem dX0_divide_56 : decode cX0_divide 56 = .ok (.getfield 15, 3) := by decide +kernel
theorem dX0_divide_59 : decode cX0_divide 59 = .ok (.iload 4, 2) := by decide +kernel
theorem dX0_divide_61 : decode cX0_divide 61 = .ok (.iload_n 2, 1) := by decide +kernel
theorem dX0_divide_62 : decode cX0_divide 62 = .ok (.ifCond .ne 7, 3) := by decide +kernel
theorem dX0_divide_65 : decode cX0_divide 65 = .ok (.iconst 0, 1) := by decide +kernel
theorem dX0_divide_66 : decode cX0_divide 66 = .ok (.goto 7, 3) := by decide +kernel
theorem dX0_divide_69 : decode cX0_divide 69 = .ok (.iload 5, 2) := by decide +kernel
theorem dX0_divide_71 : decode cX0_divide 71 = .ok (.iload_n 2, 1) := by decide +kernel
theorem dX0_divide_72 : decode cX0_divide 72 = .ok (.irem, 1) := by decide +kernel
theorem dX0_divide_73 : decode cX0_divide 73 = .ok (.iastore, 1) := by decide +kernel
theorem dX0_divide_74 : decode cX0_divide 74 = .ok (.iload_n 3, 1) := by decide +kernel
theorem dX0_divide_75 : decode cX0_divide 75 = .ok (.aload_n 0, 1) := by decide +kernel
theorem dX0_divide_76 : decode cX0_divide 76 = .ok (.getfield 9, 3) := by decide +kernel
theorem dX0_divide_79 : decode cX0_divide 79 = .ok (.iload 4, 2) := by decide +kernel
theorem dX0_divide_81 : decode cX0_divide 81 = .ok (.iaload, 1) := by decide +kernel
theorem dX0_divide_82 : decode cX0_divide 82 = .ok (.isub, 1) := by decide +kernel
theorem dX0_divide_83 : decode cX0_divide 83 = .ok (.istore_n 3, 1) := by decide +kernel
theorem dX0_divide_84 : decode cX0_divide 84 = .ok (.iinc 4 1, 3) := by decide +kernel
theorem dX0_divide_87 : decode cX0_divide 87 = .ok (.goto (-74), 3) := by decide +kernel
theorem dX0_divide_90 : decode cX0_divide 90 = .ok (.iload_n 3, 1) := by decide +kernel
theorem dX0_divide_91 : decode cX0_divide 91 = .ok (.ireturn, 1) := by decide +kernel
theorem dX0_greatestRemainder_0 : decode cX0_greatestRemainder 0 = .ok (.iconst 0, 1) := by decide +kernel
theorem dX0_greatestRemainder_1 : decode cX0_greatestRemainder 1 = .ok (.istore_n 2, 1) := by decide +kernel
theorem dX0_greatestRemainder_2 : decode cX0_greatestRemainder 2 = .ok (.iconst 1, 1) := by decide +kernel
theorem dX0_greatestRemainder_3 : decode cX0_greatestRemainder 3 = .ok (.istore_n 3, 1) := by decide +kernel
theorem dX0_greatestRemainder_4 : decode cX0_greatestRemainder 4 = .ok (.iload_n 3, 1) := by decide +kernel
theorem dX0_greatestRemainder_5 : decode cX0_greatestRemainder 5 = .ok (.iload_n 1, 1) := by decide +kernel
theorem dX0_greatestRemainder_6 : decode cX0_greatestRemainder 6 = .ok (.if_icmp .ge 26, 3) := by decide +kernel
theorem dX0_greatestRemainder_9 : decode cX0_greatestRemainder 9 = .ok (.aload_n 0, 1) := by decide +kernel
theorem dX0_greatestRemainder_10 : decode cX0_greatestRemainder 10 = .ok (.getfield 15, 3) := by decide +kernel
theorem dX0_greatestRemainder_13 : decode cX0_greatestRemainder 13 = .ok (.iload_n 3, 1) := by decide +kernel
theorem dX0_greatestRemainder_14 : decode cX0_greatestRemainder 14 = .ok (.iaload, 1) := by decide +kernel
theorem dX0_greatestRemainder_15 : decode cX0_greatestRemainder 15 = .ok (.aload_n 0, 1) := by decide +kernel
theorem dX0_greatestRemainder_16 : decode cX0_greatestRemainder 16 = .ok (.getfield 15, 3) := by decide +kernel
theorem dX0_greatestRemainder_19 : decode cX0_greatestRemainder 19 = .ok (.iload_n 2, 1) := by decide +kernel
theorem dX0_greatestRemainder_20 : decode cX0_greatestRemainder 20 = .ok (.iaload, 1) := by decide +kernel
theorem dX0_greatestRemainder_21 : decode cX0_greatestRemainder 21 = .ok (.if_icmp .le 5, 3) := by decide +kernel
theorem dX0_greatestRemainder_24 : decode cX0_greatestRemainder 24 = .ok (.iload_n 3, 1) := by decide +kernel
theorem dX0_greatestRemainder_25 : decode cX0_greatestRemainder 25 = .ok (.istore_n 2, 1) := by decide +kernel
theorem dX0_greatestRemainder_26 : decode cX0_greatestRemainder 26 = .ok (.iinc 3 1, 3) := by decide +kernel
theorem dX0_greatestRemainder_29 : decode cX0_greatestRemainder 29 = .ok (.goto (-25), 3) := by decide +kernel
theorem dX0_greatestRemainder_32 : decode cX0_greatestRemainder 32 = .ok (.iload_n 2, 1) := by decide +kernel
theorem dX0_greatestRemainder_33 : decode cX0_greatestRemainder 33 = .ok (.ireturn, 1) := by decide +kernel
theorem dX1_init_0 : decode cX1_init 0 = .ok (.aload_n 0, 1) := by decide +kernel
theorem dX1_init_1 : decode cX1_init 1 = .ok (.invokespecial 3, 3) := by decide +kernel
theorem dX1_init_4 : decode cX1_init 4 = .ok (.aload_n 0, 1) := by decide +kernel
theorem dX1_init_5 : decode cX1_init 5 = .ok (.sipush 256, 3) := by decide +kernel
theorem dX1_init_8 : decode cX1_init 8 = .ok (.newarray .int, 2) := by decide +kernel
theorem dX1_init_10 : decode cX1_init 10 = .ok (.putfield 9, 3) := by decide +kernel
theorem dX1_init_13 : decode cX1_init 13 = .ok (.aload_n 0, 1) := by decide +kernel
theorem dX1_init_14 : decode cX1_init 14 = .ok (.sipush 401, 3) := by decide +kernel
theorem dX1_init_17 : decode cX1_init 17 = .ok (.newarray .int, 2) := by decide +kernel
theorem dX1_init_19 : decode cX1_init 19 = .ok (.putfield 15, 3) := by decide +kernel
theorem dX1_init_22 : decode cX1_init 22 = .ok (.return_, 1) := by decide +kernel
theorem dX1_winningByTrying_0 : decode cX1_winningByTrying 0 = .ok (.aload_n 1, 1) := by decide +kernel
theorem dX1_winningByTrying_1 : decode cX1_winningByTrying 1 = .ok (.invokevirtual 18, 3) := by decide +kernel
theorem dX1_winningByTrying_4 : decode cX1_winningByTrying 4 = .ok (.istore_n 2, 1) := by decide +kernel
theorem dX1_winningByTrying_5 : decode cX1_winningByTrying 5 = .ok (.aload_n 0, 1) := by decide +kernel
theorem dX1_winningByTrying_6 : decode cX1_winningByTrying 6 = .ok (.aload_n 1, 1) := by decide +kernel
theorem dX1_winningByTrying_7 : decode cX1_winningByTrying 7 = .ok (.invokevirtual 24, 3) := by decide +kernel
theorem dX1_winningByTrying_10 : decode cX1_winningByTrying 10 = .ok (.istore_n 3, 1) := by decide +kernel
theorem dX1_winningByTrying_11 : decode cX1_winningByTrying 11 = .ok (.iconst 0, 1) := by decide +kernel
theorem dX1_winningByTrying_12 : decode cX1_winningByTrying 12 = .ok (.istore 4, 2) := by decide +kernel
theorem dX1_winningByTrying_14 : decode cX1_winningByTrying 14 = .ok (.iconst 0, 1) := by decide +kernel
theorem dX1_winningByTrying_15 : decode cX1_winningByTrying 15 = .ok (.istore 5, 2) := by decide +kernel
theorem dX1_winningByTrying_17 : decode cX1_winningByTrying 17 = .ok (.iload 5, 2) := by decide +kernel
theorem dX1_winningByTrying_19 : decode cX1_winningByTrying 19 = .ok (.iload_n 3, 1) := by decide +kernel
theorem dX1_winningByTrying_20 : decode cX1_winningByTrying 20 = .ok (.if_icmp .ge 23, 3) := by decide +kernel
theorem dX1_winningByTrying_23 : decode cX1_winningByTrying 23 = .ok (.aload_n 0, 1) := by decide +kernel
theorem dX1_winningByTrying_24 : decode cX1_winningByTrying 24 = .ok (.getfield 9, 3) := by decide +kernel
theorem dX1_winningByTrying_27 : decode cX1_winningByTrying 27 = .ok (.iload 5, 2) := by decide +kernel
theorem dX1_winningByTrying_29 : decode cX1_winningByTrying 29 = .ok (.iaload, 1) := by decide +kernel
theorem dX1_winningByTrying_30 : decode cX1_winningByTrying 30 = .ok (.iload_n 2, 1) := by decide +kernel
theorem dX1_winningByTrying_31 : decode cX1_winningByTrying 31 = .ok (.if_icmp .lt 6, 3) := by decide +kernel
theorem dX1_winningByTrying_34 : decode cX1_winningByTrying 34 = .ok (.iinc 4 1, 3) := by decide +kernel
theorem dX1_winningByTrying_37 : decode cX1_winningByTrying 37 = .ok (.iinc 5 1, 3) := by decide +kernel
theorem dX1_winningByTrying_40 : decode cX1_winningByTrying 40 = .ok (.goto (-23), 3) := by decide +kernel
theorem dX1_winningByTrying_43 : decode cX1_winningByTrying 43 = .ok (.iload 4, 2) := by decide +kernel
theorem dX1_winningByTrying_45 : decode cX1_winningByTrying 45 = .ok (.ireturn, 1) := by decide +kernel
theorem dX1_decisiveByTrying_0 : decode cX1_decisiveByTrying 0 = .ok (.aload_n 1, 1) := by decide +kernel
theorem dX1_decisiveByTrying_1 : decode cX1_decisiveByTrying 1 = .ok (.invokevirtual 18, 3) := by decide +kernel
theorem dX1_decisiveByTrying_4 : decode cX1_decisiveByTrying 4 = .ok (.istore_n 3, 1) := by decide +kernel
theorem dX1_decisiveByTrying_5 : decode cX1_decisiveByTrying 5 = .ok (.aload_n 0, 1) := by decide +kernel
theorem dX1_decisiveByTrying_6 : decode cX1_decisiveByTrying 6 = .ok (.aload_n 1, 1) := by decide +kernel
theorem dX1_decisiveByTrying_7 : decode cX1_decisiveByTrying 7 = .ok (.invokevirtual 24, 3) := by decide +kernel
theorem dX1_decisiveByTrying_10 : decode cX1_decisiveByTrying 10 = .ok (.istore 4, 2) := by decide +kernel
theorem dX1_decisiveByTrying_12 : decode cX1_decisiveByTrying 12 = .ok (.iconst 0, 1) := by decide +kernel
theorem dX1_decisiveByTrying_13 : decode cX1_decisiveByTrying 13 = .ok (.istore 5, 2) := by decide +kernel
theorem dX1_decisiveByTrying_15 : decode cX1_decisiveByTrying 15 = .ok (.iconst 0, 1) := by decide +kernel
theorem dX1_decisiveByTrying_16 : decode cX1_decisiveByTrying 16 = .ok (.istore 6, 2) := by decide +kernel
theorem dX1_decisiveByTrying_18 : decode cX1_decisiveByTrying 18 = .ok (.iload 6, 2) := by decide +kernel
theorem dX1_decisiveByTrying_20 : decode cX1_decisiveByTrying 20 = .ok (.iload 4, 2) := by decide +kernel
theorem dX1_decisiveByTrying_22 : decode cX1_decisiveByTrying 22 = .ok (.if_icmp .ge 62, 3) := by decide +kernel
theorem dX1_decisiveByTrying_25 : decode cX1_decisiveByTrying 25 = .ok (.iload 6, 2) := by decide +kernel
theorem dX1_decisiveByTrying_27 : decode cX1_decisiveByTrying 27 = .ok (.iload_n 2, 1) := by decide +kernel
theorem dX1_decisiveByTrying_28 : decode cX1_decisiveByTrying 28 = .ok (.ishr, 1) := by decide +kernel
theorem dX1_decisiveByTrying_29 : decode cX1_decisiveByTrying 29 = .ok (.iconst 1, 1) := by decide +kernel
theorem dX1_decisiveByTrying_30 : decode cX1_decisiveByTrying 30 = .ok (.iand, 1) := by decide +kernel
theorem dX1_decisiveByTrying_31 : decode cX1_decisiveByTrying 31 = .ok (.ifCond .eq 7, 3) := by decide +kernel
theorem dX1_decisiveByTrying_34 : decode cX1_decisiveByTrying 34 = .ok (.iconst 1, 1) := by decide +kernel
theorem dX1_decisiveByTrying_35 : decode cX1_decisiveByTrying 35 = .ok (.goto 4, 3) := by decide +kernel
theorem dX1_decisiveByTrying_38 : decode cX1_decisiveByTrying 38 = .ok (.iconst 0, 1) := by decide +kernel
theorem dX1_decisiveByTrying_39 : decode cX1_decisiveByTrying 39 = .ok (.istore 7, 2) := by decide +kernel
theorem dX1_decisiveByTrying_41 : decode cX1_decisiveByTrying 41 = .ok (.iload 7, 2) := by decide +kernel
theorem dX1_decisiveByTrying_43 : decode cX1_decisiveByTrying 43 = .ok (.ifCond .ne 35, 3) := by decide +kernel
theorem dX1_decisiveByTrying_46 : decode cX1_decisiveByTrying 46 = .ok (.aload_n 0, 1) := by decide +kernel
theorem dX1_decisiveByTrying_47 : decode cX1_decisiveByTrying 47 = .ok (.getfield 9, 3) := by decide +kernel
theorem dX1_decisiveByTrying_50 : decode cX1_decisiveByTrying 50 = .ok (.iload 6, 2) := by decide +kernel
theorem dX1_decisiveByTrying_52 : decode cX1_decisiveByTrying 52 = .ok (.iaload, 1) := by decide +kernel
theorem dX1_decisiveByTrying_53 : decode cX1_decisiveByTrying 53 = .ok (.iload_n 3, 1) := by decide +kernel
theorem dX1_decisiveByTrying_54 : decode cX1_decisiveByTrying 54 = .ok (.if_icmp .ge 24, 3) := by decide +kernel
theorem dX1_decisiveByTrying_57 : decode cX1_decisiveByTrying 57 = .ok (.aload_n 0, 1) := by decide +kernel
theorem dX1_decisiveByTrying_58 : decode cX1_decisiveByTrying 58 = .ok (.getfield 9, 3) := by decide +kernel
theorem dX1_decisiveByTrying_61 : decode cX1_decisiveByTrying 61 = .ok (.iload 6, 2) := by decide +kernel
theorem dX1_decisiveByTrying_63 : decode cX1_decisiveByTrying 63 = .ok (.iaload, 1) := by decide +kernel
theorem dX1_decisiveByTrying_64 : decode cX1_decisiveByTrying 64 = .ok (.aload_n 1, 1) := by decide +kernel
theorem dX1_decisiveByTrying_65 : decode cX1_decisiveByTrying 65 = .ok (.getfield 28, 3) := by decide +kernel
theorem dX1_decisiveByTrying_68 : decode cX1_decisiveByTrying 68 = .ok (.iload_n 2, 1) := by decide +kernel
theorem dX1_decisiveByTrying_69 : decode cX1_decisiveByTrying 69 = .ok (.iaload, 1) := by decide +kernel
theorem dX1_decisiveByTrying_70 : decode cX1_decisiveByTrying 70 = .ok (.iadd, 1) := by decide +kernel
theorem dX1_decisiveByTrying_71 : decode cX1_decisiveByTrying 71 = .ok (.iload_n 3, 1) := by decide +kernel
theorem dX1_decisiveByTrying_72 : decode cX1_decisiveByTrying 72 = .ok (.if_icmp .lt 6, 3) := by decide +kernel
theorem dX1_decisiveByTrying_75 : decode cX1_decisiveByTrying 75 = .ok (.iinc 5 1, 3) := by decide +kernel
theorem dX1_decisiveByTrying_78 : decode cX1_decisiveByTrying 78 = .ok (.iinc 6 1, 3) := by decide +kernel
theorem dX1_decisiveByTrying_81 : decode cX1_decisiveByTrying 81 = .ok (.goto (-63), 3) := by decide +kernel
theorem dX1_decisiveByTrying_84 : decode cX1_decisiveByTrying 84 = .ok (.iload 5, 2) := by decide +kernel
theorem dX1_decisiveByTrying_86 : decode cX1_decisiveByTrying 86 = .ok (.ireturn, 1) := by decide +kernel
theorem dX1_powerOfAll_0 : decode cX1_powerOfAll 0 = .ok (.iconst 0, 1) := by decide +kernel
theorem dX1_powerOfAll_1 : decode cX1_powerOfAll 1 = .ok (.istore_n 2, 1) := by decide +kernel
theorem dX1_powerOfAll_2 : decode cX1_powerOfAll 2 = .ok (.iconst 0, 1) := by decide +kernel
theorem dX1_powerOfAll_3 : decode cX1_powerOfAll 3 = .ok (.istore_n 3, 1) := by decide +kernel
theorem dX1_powerOfAll_4 : decode cX1_powerOfAll 4 = .ok (.iload_n 3, 1) := by decide +kernel
theorem dX1_powerOfAll_5 : decode cX1_powerOfAll 5 = .ok (.aload_n 1, 1) := by decide +kernel
theorem dX1_powerOfAll_6 : decode cX1_powerOfAll 6 = .ok (.getfield 31, 3) := by decide +kernel
theorem dX1_powerOfAll_9 : decode cX1_powerOfAll 9 = .ok (.if_icmp .ge 18, 3) := by decide +kernel
theorem dX1_powerOfAll_12 : decode cX1_powerOfAll 12 = .ok (.iload_n 2, 1) := by decide +kernel
theorem dX1_powerOfAll_13 : decode cX1_powerOfAll 13 = .ok (.aload_n 0, 1) := by decide +kernel
theorem dX1_powerOfAll_14 : decode cX1_powerOfAll 14 = .ok (.aload_n 1, 1) := by decide +kernel
theorem dX1_powerOfAll_15 : decode cX1_powerOfAll 15 = .ok (.iload_n 3, 1) := by decide +kernel
theorem dX1_powerOfAll_16 : decode cX1_powerOfAll 16 = .ok (.invokevirtual 35, 3) := by decide +kernel
theorem dX1_powerOfAll_19 : decode cX1_powerOfAll 19 = .ok (.iadd, 1) := by decide +kernel
theorem dX1_powerOfAll_20 : decode cX1_powerOfAll 20 = .ok (.istore_n 2, 1) := by decide +kernel
theorem dX1_powerOfAll_21 : decode cX1_powerOfAll 21 = .ok (.iinc 3 1, 3) := by decide +kernel
theorem dX1_powerOfAll_24 : decode cX1_powerOfAll 24 = .ok (.goto (-20), 3) := by decide +kernel
theorem dX1_powerOfAll_27 : decode cX1_powerOfAll 27 = .ok (.iload_n 2, 1) := by decide +kernel
theorem dX1_powerOfAll_28 : decode cX1_powerOfAll 28 = .ok (.ireturn, 1) := by decide +kernel
theorem dX1_fewestThatWin_0 : decode cX1_fewestThatWin 0 = .ok (.aload_n 1, 1) := by decide +kernel
theorem dX1_fewestThatWin_1 : decode cX1_fewestThatWin 1 = .ok (.invokevirtual 18, 3) := by decide +kernel
theorem dX1_fewestThatWin_4 : decode cX1_fewestThatWin 4 = .ok (.istore_n 2, 1) := by decide +kernel
theorem dX1_fewestThatWin_5 : decode cX1_fewestThatWin 5 = .ok (.aload_n 0, 1) := by decide +kernel
theorem dX1_fewestThatWin_6 : decode cX1_fewestThatWin 6 = .ok (.aload_n 1, 1) := by decide +kernel
theorem dX1_fewestThatWin_7 : decode cX1_fewestThatWin 7 = .ok (.invokevirtual 24, 3) := by decide +kernel
theorem dX1_fewestThatWin_10 : decode cX1_fewestThatWin 10 = .ok (.istore_n 3, 1) := by decide +kernel
theorem dX1_fewestThatWin_11 : decode cX1_fewestThatWin 11 = .ok (.aload_n 1, 1) := by decide +kernel
theorem dX1_fewestThatWin_12 : decode cX1_fewestThatWin 12 = .ok (.getfield 31, 3) := by decide +kernel
theorem dX1_fewestThatWin_15 : decode cX1_fewestThatWin 15 = .ok (.istore 4, 2) := by decide +kernel
theorem dX1_fewestThatWin_17 : decode cX1_fewestThatWin 17 = .ok (.iconst 0, 1) := by decide +kernel
theorem dX1_fewestThatWin_18 : decode cX1_fewestThatWin 18 = .ok (.istore 5, 2) := by decide +kernel
theorem dX1_fewestThatWin_20 : decode cX1_fewestThatWin 20 = .ok (.iload 5, 2) := by decide +kernel
theorem dX1_fewestThatWin_22 : decode cX1_fewestThatWin 22 = .ok (.iload_n 3, 1) := by decide +kernel
theorem dX1_fewestThatWin_23 : decode cX1_fewestThatWin 23 = .ok (.if_icmp .ge 32, 3) := by decide +kernel
theorem dX1_fewestThatWin_26 : decode cX1_fewestThatWin 26 = .ok (.aload_n 0, 1) := by decide +kernel
theorem dX1_fewestThatWin_27 : decode cX1_fewestThatWin 27 = .ok (.getfield 9, 3) := by decide +kernel
theorem dX1_fewestThatWin_30 : decode cX1_fewestThatWin 30 = .ok (.iload 5, 2) := by decide +kernel
theorem dX1_fewestThatWin_32 : decode cX1_fewestThatWin 32 = .ok (.iaload, 1) := by decide +kernel
theorem dX1_fewestThatWin_33 : decode cX1_fewestThatWin 33 = .ok (.iload_n 2, 1) := by decide +kernel
theorem dX1_fewestThatWin_34 : decode cX1_fewestThatWin 34 = .ok (.if_icmp .lt 15, 3) := by decide +kernel
theorem dX1_fewestThatWin_37 : decode cX1_fewestThatWin 37 = .ok (.iload 4, 2) := by decide +kernel
theorem dX1_fewestThatWin_39 : decode cX1_fewestThatWin 39 = .ok (.iload 5, 2) := by decide +kernel
theorem dX1_fewestThatWin_41 : decode cX1_fewestThatWin 41 = .ok (.invokestatic 39, 3) := by decide +kernel
theorem dX1_fewestThatWin_44 : decode cX1_fewestThatWin 44 = .ok (.invokestatic 45, 3) := by decide +kernel
theorem dX1_fewestThatWin_47 : decode cX1_fewestThatWin 47 = .ok (.istore 4, 2) := by decide +kernel
theorem dX1_fewestThatWin_49 : decode cX1_fewestThatWin 49 = .ok (.iinc 5 1, 3) := by decide +kernel
theorem dX1_fewestThatWin_52 : decode cX1_fewestThatWin 52 = .ok (.goto (-32), 3) := by decide +kernel
theorem dX1_fewestThatWin_55 : decode cX1_fewestThatWin 55 = .ok (.iload 4, 2) := by decide +kernel
theorem dX1_fewestThatWin_57 : decode cX1_fewestThatWin 57 = .ok (.ireturn, 1) := by decide +kernel
theorem dX1_winningByTable_0 : decode cX1_winningByTable 0 = .ok (.aload_n 0, 1) := by decide +kernel
theorem dX1_winningByTable_1 : decode cX1_winningByTable 1 = .ok (.aload_n 1, 1) := by decide +kernel
theorem dX1_winningByTable_2 : decode cX1_winningByTable 2 = .ok (.invokevirtual 18, 3) := by decide +kernel
theorem dX1_winningByTable_5 : decode cX1_winningByTable 5 = .ok (.aload_n 0, 1) := by decide +kernel
theorem dX1_winningByTable_6 : decode cX1_winningByTable 6 = .ok (.aload_n 1, 1) := by decide +kernel
theorem dX1_winningByTable_7 : decode cX1_winningByTable 7 = .ok (.iconst (-1), 1) := by decide +kernel
theorem dX1_winningByTable_8 : decode cX1_winningByTable 8 = .ok (.invokevirtual 51, 3) := by decide +kernel
theorem dX1_winningByTable_11 : decode cX1_winningByTable 11 = .ok (.invokevirtual 54, 3) := by decide +kernel
theorem dX1_winningByTable_14 : decode cX1_winningByTable 14 = .ok (.ireturn, 1) := by decide +kernel
theorem dX1_decisiveByTable_0 : decode cX1_decisiveByTable 0 = .ok (.aload_n 1, 1) := by decide +kernel
theorem dX1_decisiveByTable_1 : decode cX1_decisiveByTable 1 = .ok (.invokevirtual 18, 3) := by decide +kernel
theorem dX1_decisiveByTable_4 : decode cX1_decisiveByTable 4 = .ok (.istore_n 3, 1) := by decide +kernel
theorem dX1_decisiveByTable_5 : decode cX1_decisiveByTable 5 = .ok (.aload_n 0, 1) := by decide +kernel
theorem dX1_decisiveByTable_6 : decode cX1_decisiveByTable 6 = .ok (.aload_n 1, 1) := by decide +kernel
theorem dX1_decisiveByTable_7 : decode cX1_decisiveByTable 7 = .ok (.iload_n 2, 1) := by decide +kernel
theorem dX1_decisiveByTable_8 : decode cX1_decisiveByTable 8 = .ok (.invokevirtual 51, 3) := by decide +kernel
theorem dX1_decisiveByTable_11 : decode cX1_decisiveByTable 11 = .ok (.pop, 1) := by decide +kernel
theorem dX1_decisiveByTable_12 : decode cX1_decisiveByTable 12 = .ok (.aload_n 0, 1) := by decide +kernel
theorem dX1_decisiveByTable_13 : decode cX1_decisiveByTable 13 = .ok (.iconst 0, 1) := by decide +kernel
theorem dX1_decisiveByTable_14 : decode cX1_decisiveByTable 14 = .ok (.iload_n 3, 1) := by decide +kernel
theorem dX1_decisiveByTable_15 : decode cX1_decisiveByTable 15 = .ok (.aload_n 1, 1) := by decide +kernel
theorem dX1_decisiveByTable_16 : decode cX1_decisiveByTable 16 = .ok (.getfield 28, 3) := by decide +kernel
theorem dX1_decisiveByTable_19 : decode cX1_decisiveByTable 19 = .ok (.iload_n 2, 1) := by decide +kernel
theorem dX1_decisiveByTable_20 : decode cX1_decisiveByTable 20 = .ok (.iaload, 1) := by decide +kernel
theorem dX1_decisiveByTable_21 : decode cX1_decisiveByTable 21 = .ok (.isub, 1) := by decide +kernel
theorem dX1_decisiveByTable_22 : decode cX1_decisiveByTable 22 = .ok (.invokestatic 57, 3) := by decide +kernel
theorem dX1_decisiveByTable_25 : decode cX1_decisiveByTable 25 = .ok (.iload_n 3, 1) := by decide +kernel
theorem dX1_decisiveByTable_26 : decode cX1_decisiveByTable 26 = .ok (.iconst 1, 1) := by decide +kernel
theorem dX1_decisiveByTable_27 : decode cX1_decisiveByTable 27 = .ok (.isub, 1) := by decide +kernel
theorem dX1_decisiveByTable_28 : decode cX1_decisiveByTable 28 = .ok (.invokevirtual 54, 3) := by decide +kernel
theorem dX1_decisiveByTable_31 : decode cX1_decisiveByTable 31 = .ok (.ireturn, 1) := by decide +kernel
theorem dX1_addUpGroups_0 : decode cX1_addUpGroups 0 = .ok (.aload_n 0, 1) := by decide +kernel
theorem dX1_addUpGroups_1 : decode cX1_addUpGroups 1 = .ok (.getfield 9, 3) := by decide +kernel
theorem dX1_addUpGroups_4 : decode cX1_addUpGroups 4 = .ok (.iconst 0, 1) := by decide +kernel
theorem dX1_addUpGroups_5 : decode cX1_addUpGroups 5 = .ok (.iconst 0, 1) := by decide +kernel
theorem dX1_addUpGroups_6 : decode cX1_addUpGroups 6 = .ok (.iastore, 1) := by decide +kernel
theorem dX1_addUpGroups_7 : decode cX1_addUpGroups 7 = .ok (.iconst 1, 1) := by decide +kernel
theorem dX1_addUpGroups_8 : decode cX1_addUpGroups 8 = .ok (.istore_n 2, 1) := by decide +kernel
theorem dX1_addUpGroups_9 : decode cX1_addUpGroups 9 = .ok (.iconst 0, 1) := by decide +kernel
theorem dX1_addUpGroups_10 : decode cX1_addUpGroups 10 = .ok (.istore_n 3, 1) := by decide +kernel
theorem dX1_addUpGroups_11 : decode cX1_addUpGroups 11 = .ok (.iload_n 3, 1) := by decide +kernel
theorem dX1_addUpGroups_12 : decode cX1_addUpGroups 12 = .ok (.aload_n 1, 1) := by decide +kernel
theorem dX1_addUpGroups_13 : decode cX1_addUpGroups 13 = .ok (.getfield 31, 3) := by decide +kernel
theorem dX1_addUpGroups_16 : decode cX1_addUpGroups 16 = .ok (.if_icmp .ge 51, 3) := by decide +kernel
theorem dX1_addUpGroups_19 : decode cX1_addUpGroups 19 = .ok (.iconst 0, 1) := by decide +kernel
theorem dX1_addUpGroups_20 : decode cX1_addUpGroups 20 = .ok (.istore 4, 2) := by decide +kernel
theorem dX1_addUpGroups_22 : decode cX1_addUpGroups 22 = .ok (.iload 4, 2) := by decide +kernel
theorem dX1_addUpGroups_24 : decode cX1_addUpGroups 24 = .ok (.iload_n 2, 1) := by decide +kernel
theorem dX1_addUpGroups_25 : decode cX1_addUpGroups 25 = .ok (.if_icmp .ge 32, 3) := by decide +kernel
theorem dX1_addUpGroups_28 : decode cX1_addUpGroups 28 = .ok (.aload_n 0, 1) := by decide +kernel
theorem dX1_addUpGroups_29 : decode cX1_addUpGroups 29 = .ok (.getfield 9, 3) := by decide +kernel
theorem dX1_addUpGroups_32 : decode cX1_addUpGroups 32 = .ok (.iload_n 2, 1) := by decide +kernel
theorem dX1_addUpGroups_33 : decode cX1_addUpGroups 33 = .ok (.iload 4, 2) := by decide +kernel
theorem dX1_addUpGroups_35 : decode cX1_addUpGroups 35 = .ok (.iadd, 1) := by decide +kernel
theorem dX1_addUpGroups_36 : decode cX1_addUpGroups 36 = .ok (.aload_n 0, 1) := by decide +kernel
theorem dX1_addUpGroups_37 : decode cX1_addUpGroups 37 = .ok (.getfield 9, 3) := by decide +kernel
theorem dX1_addUpGroups_40 : decode cX1_addUpGroups 40 = .ok (.iload 4, 2) := by decide +kernel
theorem dX1_addUpGroups_42 : decode cX1_addUpGroups 42 = .ok (.iaload, 1) := by decide +kernel
theorem dX1_addUpGroups_43 : decode cX1_addUpGroups 43 = .ok (.aload_n 1, 1) := by decide +kernel
theorem dX1_addUpGroups_44 : decode cX1_addUpGroups 44 = .ok (.getfield 28, 3) := by decide +kernel
theorem dX1_addUpGroups_47 : decode cX1_addUpGroups 47 = .ok (.iload_n 3, 1) := by decide +kernel
theorem dX1_addUpGroups_48 : decode cX1_addUpGroups 48 = .ok (.iaload, 1) := by decide +kernel
theorem dX1_addUpGroups_49 : decode cX1_addUpGroups 49 = .ok (.iadd, 1) := by decide +kernel
theorem dX1_addUpGroups_50 : decode cX1_addUpGroups 50 = .ok (.iastore, 1) := by decide +kernel
theorem dX1_addUpGroups_51 : decode cX1_addUpGroups 51 = .ok (.iinc 4 1, 3) := by decide +kernel
theorem dX1_addUpGroups_54 : decode cX1_addUpGroups 54 = .ok (.goto (-32), 3) := by decide +kernel
theorem dX1_addUpGroups_57 : decode cX1_addUpGroups 57 = .ok (.iload_n 2, 1) := by decide +kernel
theorem dX1_addUpGroups_58 : decode cX1_addUpGroups 58 = .ok (.iconst 2, 1) := by decide +kernel
theorem dX1_addUpGroups_59 : decode cX1_addUpGroups 59 = .ok (.imul, 1) := by decide +kernel
theorem dX1_addUpGroups_60 : decode cX1_addUpGroups 60 = .ok (.istore_n 2, 1) := by decide +kernel
theorem dX1_addUpGroups_61 : decode cX1_addUpGroups 61 = .ok (.iinc 3 1, 3) := by decide +kernel
theorem dX1_addUpGroups_64 : decode cX1_addUpGroups 64 = .ok (.goto (-53), 3) := by decide +kernel
theorem dX1_addUpGroups_67 : decode cX1_addUpGroups 67 = .ok (.iload_n 2, 1) := by decide +kernel
theorem dX1_addUpGroups_68 : decode cX1_addUpGroups 68 = .ok (.ireturn, 1) := by decide +kernel
theorem dX1_fillTable_0 : decode cX1_fillTable 0 = .ok (.aload_n 1, 1) := by decide +kernel
theorem dX1_fillTable_1 : decode cX1_fillTable 1 = .ok (.invokevirtual 60, 3) := by decide +kernel
theorem dX1_fillTable_4 : decode cX1_fillTable 4 = .ok (.istore_n 3, 1) := by decide +kernel
theorem dX1_fillTable_5 : decode cX1_fillTable 5 = .ok (.iconst 1, 1) := by decide +kernel
theorem dX1_fillTable_6 : decode cX1_fillTable 6 = .ok (.istore 4, 2) := by decide +kernel
theorem dX1_fillTable_8 : decode cX1_fillTable 8 = .ok (.iload 4, 2) := by decide +kernel
theorem dX1_fillTable_10 : decode cX1_fillTable 10 = .ok (.iload_n 3, 1) := by decide +kernel
theorem dX1_fillTable_11 : decode cX1_fillTable 11 = .ok (.if_icmp .gt 17, 3) := by decide +kernel
theorem dX1_fillTable_14 : decode cX1_fillTable 14 = .ok (.aload_n 0, 1) := by decide +kernel
theorem dX1_fillTable_15 : decode cX1_fillTable 15 = .ok (.getfield 15, 3) := by decide +kernel
theorem dX1_fillTable_18 : decode cX1_fillTable 18 = .ok (.iload 4, 2) := by decide +kernel
theorem dX1_fillTable_20 : decode cX1_fillTable 20 = .ok (.iconst 0, 1) := by decide +kernel
theorem dX1_fillTable_21 : decode cX1_fillTable 21 = .ok (.iastore, 1) := by decide +kernel
theorem dX1_fillTable_22 : decode cX1_fillTable 22 = .ok (.iinc 4 1, 3) := by decide +kernel
theorem dX1_fillTable_25 : decode cX1_fillTable 25 = .ok (.goto (-17), 3) := by decide +kernel
theorem dX1_fillTable_28 : decode cX1_fillTable 28 = .ok (.aload_n 0, 1) := by decide +kernel
theorem dX1_fillTable_29 : decode cX1_fillTable 29 = .ok (.getfield 15, 3) := by decide +kernel
theorem dX1_fillTable_32 : decode cX1_fillTable 32 = .ok (.iconst 0, 1) := by decide +kernel
theorem dX1_fillTable_33 : decode cX1_fillTable 33 = .ok (.iconst 1, 1) := by decide +kernel
theorem dX1_fillTable_34 : decode cX1_fillTable 34 = .ok (.iastore, 1) := by decide +kernel
theorem dX1_fillTable_35 : decode cX1_fillTable 35 = .ok (.iconst 0, 1) := by decide +kernel
theorem dX1_fillTable_36 : decode cX1_fillTable 36 = .ok (.istore 4, 2) := by decide +kernel
theorem dX1_fillTable_38 : decode cX1_fillTable 38 = .ok (.iload 4, 2) := by decide +kernel
theorem dX1_fillTable_40 : decode cX1_fillTable 40 = .ok (.aload_n 1, 1) := by decide +kernel
theorem dX1_fillTable_41 : decode cX1_fillTable 41 = .ok (.getfield 31, 3) := by decide +kernel
theorem dX1_fillTable_44 : decode cX1_fillTable 44 = .ok (.if_icmp .ge 60, 3) := by decide +kernel
theorem dX1_fillTable_47 : decode cX1_fillTable 47 = .ok (.aload_n 1, 1) := by decide +kernel
theorem dX1_fillTable_48 : decode cX1_fillTable 48 = .ok (.getfield 28, 3) := by decide +kernel
theorem dX1_fillTable_51 : decode cX1_fillTable 51 = .ok (.iload 4, 2) := by decide +kernel
theorem dX1_fillTable_53 : decode cX1_fillTable 53 = .ok (.iaload, 1) := by decide +kernel
theorem dX1_fillTable_54 : decode cX1_fillTable 54 = .ok (.istore 5, 2) := by decide +kernel
theorem dX1_fillTable_56 : decode cX1_fillTable 56 = .ok (.iload_n 3, 1) := by decide +kernel
theorem dX1_fillTable_57 : decode cX1_fillTable 57 = .ok (.istore 6, 2) := by decide +kernel
theorem dX1_fillTable_59 : decode cX1_fillTable 59 = .ok (.iload 6, 2) := by decide +kernel
theorem dX1_fillTable_61 : decode cX1_fillTable 61 = .ok (.iload 5, 2) := by decide +kernel
theorem dX1_fillTable_63 : decode cX1_fillTable 63 = .ok (.if_icmp .lt 35, 3) := by decide +kernel
theorem dX1_fillTable_66 : decode cX1_fillTable 66 = .ok (.iload 4, 2) := by decide +kernel
theorem dX1_fillTable_68 : decode cX1_fillTable 68 = .ok (.iload_n 2, 1) := by decide +kernel
theorem dX1_fillTable_69 : decode cX1_fillTable 69 = .ok (.if_icmp .eq 29, 3) := by decide +kernel
theorem dX1_fillTable_72 : decode cX1_fillTable 72 = .ok (.aload_n 0, 1) := by decide +kernel
theorem dX1_fillTable_73 : decode cX1_fillTable 73 = .ok (.getfield 15, 3) := by decide +kernel
theorem dX1_fillTable_76 : decode cX1_fillTable 76 = .ok (.iload 6, 2) := by decide +kernel
theorem dX1_fillTable_78 : decode cX1_fillTable 78 = .ok (.dup2, 1) := by decide +kernel
theorem dX1_fillTable_79 : decode cX1_fillTable 79 = .ok (.iaload, 1) := by decide +kernel
theorem dX1_fillTable_80 : decode cX1_fillTable 80 = .ok (.aload_n 0, 1) := by decide +kernel
theorem dX1_fillTable_81 : decode cX1_fillTable 81 = .ok (.getfield 15, 3) := by decide +kernel
theorem dX1_fillTable_84 : decode cX1_fillTable 84 = .ok (.iload 6, 2) := by decide +kernel
theorem dX1_fillTable_86 : decode cX1_fillTable 86 = .ok (.iload 5, 2) := by decide +kernel
theorem dX1_fillTable_88 : decode cX1_fillTable 88 = .ok (.isub, 1) := by decide +kernel
theorem dX1_fillTable_89 : decode cX1_fillTable 89 = .ok (.iaload, 1) := by decide +kernel
theorem dX1_fillTable_90 : decode cX1_fillTable 90 = .ok (.iadd, 1) := by decide +kernel
theorem dX1_fillTable_91 : decode cX1_fillTable 91 = .ok (.iastore, 1) := by decide +kernel
theorem dX1_fillTable_92 : decode cX1_fillTable 92 = .ok (.iinc 6 (-1), 3) := by decide +kernel
theorem dX1_fillTable_95 : decode cX1_fillTable 95 = .ok (.goto (-36), 3) := by decide +kernel
theorem dX1_fillTable_98 : decode cX1_fillTable 98 = .ok (.iinc 4 1, 3) := by decide +kernel
theorem dX1_fillTable_101 : decode cX1_fillTable 101 = .ok (.goto (-63), 3) := by decide +kernel
theorem dX1_fillTable_104 : decode cX1_fillTable 104 = .ok (.iload_n 3, 1) := by decide +kernel
theorem dX1_fillTable_105 : decode cX1_fillTable 105 = .ok (.ireturn, 1) := by decide +kernel
theorem dX1_countBetween_0 : decode cX1_countBetween 0 = .ok (.iconst 0, 1) := by decide +kernel
theorem dX1_countBetween_1 : decode cX1_countBetween 1 = .ok (.istore_n 3, 1) := by decide +kernel
theorem dX1_countBetween_2 : decode cX1_countBetween 2 = .ok (.iload_n 1, 1) := by decide +kernel
theorem dX1_countBetween_3 : decode cX1_countBetween 3 = .ok (.istore 4, 2) := by decide +kernel
theorem dX1_countBetween_5 : decode cX1_countBetween 5 = .ok (.iload 4, 2) := by decide +kernel
theorem dX1_countBetween_7 : decode cX1_countBetween 7 = .ok (.iload_n 2, 1) := by decide +kernel
theorem dX1_countBetween_8 : decode cX1_countBetween 8 = .ok (.if_icmp .gt 19, 3) := by decide +kernel
theorem dX1_countBetween_11 : decode cX1_countBetween 11 = .ok (.iload_n 3, 1) := by decide +kernel
theorem dX1_countBetween_12 : decode cX1_countBetween 12 = .ok (.aload_n 0, 1) := by decide +kernel
theorem dX1_countBetween_13 : decode cX1_countBetween 13 = .ok (.getfield 15, 3) := by decide +kernel
theorem dX1_countBetween_16 : decode cX1_countBetween 16 = .ok (.iload 4, 2) := by decide +kernel
theorem dX1_countBetween_18 : decode cX1_countBetween 18 = .ok (.iaload, 1) := by decide +kernel
theorem dX1_countBetween_19 : decode cX1_countBetween 19 = .ok (.iadd, 1) := by decide +kernel
theorem dX1_countBetween_20 : decode cX1_countBetween 20 = .ok (.istore_n 3, 1) := by decide +kernel
theorem dX1_countBetween_21 : decode cX1_countBetween 21 = .ok (.iinc 4 1, 3) := by decide +kernel
theorem dX1_countBetween_24 : decode cX1_countBetween 24 = .ok (.goto (-19), 3) := by decide +kernel
theorem dX1_countBetween_27 : decode cX1_countBetween 27 = .ok (.iload_n 3, 1) := by decide +kernel
theorem dX1_countBetween_28 : decode cX1_countBetween 28 = .ok (.ireturn, 1) := by decide +kernel
theorem dX2_init_0 : decode cX2_init 0 = .ok (.aload_n 0, 1) := by decide +kernel
theorem dX2_init_1 : decode cX2_init 1 = .ok (.invokespecial 1, 3) := by decide +kernel
theorem dX2_init_4 : decode cX2_init 4 = .ok (.aload_n 0, 1) := by decide +kernel
theorem dX2_init_5 : decode cX2_init 5 = .ok (.bipush 8, 2) := by decide +kernel
theorem dX2_init_7 : decode cX2_init 7 = .ok (.anewarray 7, 3) := by decide +kernel
theorem dX2_init_10 : decode cX2_init 10 = .ok (.dup, 1) := by decide +kernel
theorem dX2_init_11 : decode cX2_init 11 = .ok (.iconst 0, 1) := by decide +kernel
theorem dX2_init_12 : decode cX2_init 12 = .ok (.new 7, 3) := by decide +kernel
theorem dX2_init_15 : decode cX2_init 15 = .ok (.dup, 1) := by decide +kernel
theorem dX2_init_16 : decode cX2_init 16 = .ok (.invokespecial 9, 3) := by decide +kernel
theorem dX2_init_19 : decode cX2_init 19 = .ok (.aastore, 1) := by decide +kernel
theorem dX2_init_20 : decode cX2_init 20 = .ok (.dup, 1) := by decide +kernel
theorem dX2_init_21 : decode cX2_init 21 = .ok (.iconst 1, 1) := by decide +kernel
theorem dX2_init_22 : decode cX2_init 22 = .ok (.new 7, 3) := by decide +kernel
theorem dX2_init_25 : decode cX2_init 25 = .ok (.dup, 1) := by decide +kernel
theorem dX2_init_26 : decode cX2_init 26 = .ok (.invokespecial 9, 3) := by decide +kernel
theorem dX2_init_29 : decode cX2_init 29 = .ok (.aastore, 1) := by decide +kernel
theorem dX2_init_30 : decode cX2_init 30 = .ok (.dup, 1) := by decide +kernel
theorem dX2_init_31 : decode cX2_init 31 = .ok (.iconst 2, 1) := by decide +kernel
theorem dX2_init_32 : decode cX2_init 32 = .ok (.new 7, 3) := by decide +kernel
theorem dX2_init_35 : decode cX2_init 35 = .ok (.dup, 1) := by decide +kernel
theorem dX2_init_36 : decode cX2_init 36 = .ok (.invokespecial 9, 3) := by decide +kernel
theorem dX2_init_39 : decode cX2_init 39 = .ok (.aastore, 1) := by decide +kernel
theorem dX2_init_40 : decode cX2_init 40 = .ok (.dup, 1) := by decide +kernel
theorem dX2_init_41 : decode cX2_init 41 = .ok (.iconst 3, 1) := by decide +kernel
theorem dX2_init_42 : decode cX2_init 42 = .ok (.new 7, 3) := by decide +kernel
theorem dX2_init_45 : decode cX2_init 45 = .ok (.dup, 1) := by decide +kernel
theorem dX2_init_46 : decode cX2_init 46 = .ok (.invokespecial 9, 3) := by decide +kernel
theorem dX2_init_49 : decode cX2_init 49 = .ok (.aastore, 1) := by decide +kernel
theorem dX2_init_50 : decode cX2_init 50 = .ok (.dup, 1) := by decide +kernel
theorem dX2_init_51 : decode cX2_init 51 = .ok (.iconst 4, 1) := by decide +kernel
theorem dX2_init_52 : decode cX2_init 52 = .ok (.new 7, 3) := by decide +kernel
theorem dX2_init_55 : decode cX2_init 55 = .ok (.dup, 1) := by decide +kernel
theorem dX2_init_56 : decode cX2_init 56 = .ok (.invokespecial 9, 3) := by decide +kernel
theorem dX2_init_59 : decode cX2_init 59 = .ok (.aastore, 1) := by decide +kernel
theorem dX2_init_60 : decode cX2_init 60 = .ok (.dup, 1) := by decide +kernel
theorem dX2_init_61 : decode cX2_init 61 = .ok (.iconst 5, 1) := by decide +kernel
theorem dX2_init_62 : decode cX2_init 62 = .ok (.new 7, 3) := by decide +kernel
theorem dX2_init_65 : decode cX2_init 65 = .ok (.dup, 1) := by decide +kernel
theorem dX2_init_66 : decode cX2_init 66 = .ok (.invokespecial 9, 3) := by decide +kernel
theorem dX2_init_69 : decode cX2_init 69 = .ok (.aastore, 1) := by decide +kernel
theorem dX2_init_70 : decode cX2_init 70 = .ok (.dup, 1) := by decide +kernel
theorem dX2_init_71 : decode cX2_init 71 = .ok (.bipush 6, 2) := by decide +kernel
theorem dX2_init_73 : decode cX2_init 73 = .ok (.new 7, 3) := by decide +kernel
theorem dX2_init_76 : decode cX2_init 76 = .ok (.dup, 1) := by decide +kernel
theorem dX2_init_77 : decode cX2_init 77 = .ok (.invokespecial 9, 3) := by decide +kernel
theorem dX2_init_80 : decode cX2_init 80 = .ok (.aastore, 1) := by decide +kernel
theorem dX2_init_81 : decode cX2_init 81 = .ok (.dup, 1) := by decide +kernel
theorem dX2_init_82 : decode cX2_init 82 = .ok (.bipush 7, 2) := by decide +kernel
theorem dX2_init_84 : decode cX2_init 84 = .ok (.new 7, 3) := by decide +kernel
theorem dX2_init_87 : decode cX2_init 87 = .ok (.dup, 1) := by decide +kernel
theorem dX2_init_88 : decode cX2_init 88 = .ok (.invokespecial 9, 3) := by decide +kernel
theorem dX2_init_91 : decode cX2_init 91 = .ok (.aastore, 1) := by decide +kernel
theorem dX2_init_92 : decode cX2_init 92 = .ok (.putfield 10, 3) := by decide +kernel
theorem dX2_init_95 : decode cX2_init 95 = .ok (.aload_n 0, 1) := by decide +kernel
theorem dX2_init_96 : decode cX2_init 96 = .ok (.iconst 0, 1) := by decide +kernel
theorem dX2_init_97 : decode cX2_init 97 = .ok (.putfield 16, 3) := by decide +kernel
theorem dX2_init_100 : decode cX2_init 100 = .ok (.aload_n 0, 1) := by decide +kernel
theorem dX2_init_101 : decode cX2_init 101 = .ok (.iconst 0, 1) := by decide +kernel
theorem dX2_init_102 : decode cX2_init 102 = .ok (.putfield 20, 3) := by decide +kernel
theorem dX2_init_105 : decode cX2_init 105 = .ok (.return_, 1) := by decide +kernel
theorem dX2_remember_0 : decode cX2_remember 0 = .ok (.aload_n 0, 1) := by decide +kernel
theorem dX2_remember_1 : decode cX2_remember 1 = .ok (.getfield 10, 3) := by decide +kernel
theorem dX2_remember_4 : decode cX2_remember 4 = .ok (.aload_n 0, 1) := by decide +kernel
theorem dX2_remember_5 : decode cX2_remember 5 = .ok (.getfield 16, 3) := by decide +kernel
theorem dX2_remember_8 : decode cX2_remember 8 = .ok (.aaload, 1) := by decide +kernel
theorem dX2_remember_9 : decode cX2_remember 9 = .ok (.aload_n 1, 1) := by decide +kernel
theorem dX2_remember_10 : decode cX2_remember 10 = .ok (.invokevirtual 23, 3) := by decide +kernel
theorem dX2_remember_13 : decode cX2_remember 13 = .ok (.aload_n 0, 1) := by decide +kernel
theorem dX2_remember_14 : decode cX2_remember 14 = .ok (.aload_n 0, 1) := by decide +kernel
theorem dX2_remember_15 : decode cX2_remember 15 = .ok (.getfield 16, 3) := by decide +kernel
theorem dX2_remember_18 : decode cX2_remember 18 = .ok (.iconst 1, 1) := by decide +kernel
theorem dX2_remember_19 : decode cX2_remember 19 = .ok (.iadd, 1) := by decide +kernel
theorem dX2_remember_20 : decode cX2_remember 20 = .ok (.bipush 8, 2) := by decide +kernel
theorem dX2_remember_22 : decode cX2_remember 22 = .ok (.irem, 1) := by decide +kernel
theorem dX2_remember_23 : decode cX2_remember 23 = .ok (.putfield 16, 3) := by decide +kernel
theorem dX2_remember_26 : decode cX2_remember 26 = .ok (.aload_n 0, 1) := by decide +kernel
theorem dX2_remember_27 : decode cX2_remember 27 = .ok (.aload_n 0, 1) := by decide +kernel
theorem dX2_remember_28 : decode cX2_remember 28 = .ok (.getfield 20, 3) := by decide +kernel
theorem dX2_remember_31 : decode cX2_remember 31 = .ok (.iconst 1, 1) := by decide +kernel
theorem dX2_remember_32 : decode cX2_remember 32 = .ok (.iadd, 1) := by decide +kernel
theorem dX2_remember_33 : decode cX2_remember 33 = .ok (.bipush 8, 2) := by decide +kernel
theorem dX2_remember_35 : decode cX2_remember 35 = .ok (.invokestatic 27, 3) := by decide +kernel
theorem dX2_remember_38 : decode cX2_remember 38 = .ok (.putfield 20, 3) := by decide +kernel
theorem dX2_remember_41 : decode cX2_remember 41 = .ok (.return_, 1) := by decide +kernel
theorem dX2_takeBack_0 : decode cX2_takeBack 0 = .ok (.aload_n 0, 1) := by decide +kernel
theorem dX2_takeBack_1 : decode cX2_takeBack 1 = .ok (.aload_n 0, 1) := by decide +kernel
theorem dX2_takeBack_2 : decode cX2_takeBack 2 = .ok (.getfield 16, 3) := by decide +kernel
theorem dX2_takeBack_5 : decode cX2_takeBack 5 = .ok (.bipush 8, 2) := by decide +kernel
theorem dX2_takeBack_7 : decode cX2_takeBack 7 = .ok (.iadd, 1) := by decide +kernel
theorem dX2_takeBack_8 : decode cX2_takeBack 8 = .ok (.iconst 1, 1) := by decide +kernel
theorem dX2_takeBack_9 : decode cX2_takeBack 9 = .ok (.isub, 1) := by decide +kernel
theorem dX2_takeBack_10 : decode cX2_takeBack 10 = .ok (.bipush 8, 2) := by decide +kernel
theorem dX2_takeBack_12 : decode cX2_takeBack 12 = .ok (.irem, 1) := by decide +kernel
theorem dX2_takeBack_13 : decode cX2_takeBack 13 = .ok (.putfield 16, 3) := by decide +kernel
theorem dX2_takeBack_16 : decode cX2_takeBack 16 = .ok (.aload_n 1, 1) := by decide +kernel
theorem dX2_takeBack_17 : decode cX2_takeBack 17 = .ok (.aload_n 0, 1) := by decide +kernel
theorem dX2_takeBack_18 : decode cX2_takeBack 18 = .ok (.getfield 10, 3) := by decide +kernel
theorem dX2_takeBack_21 : decode cX2_takeBack 21 = .ok (.aload_n 0, 1) := by decide +kernel
theorem dX2_takeBack_22 : decode cX2_takeBack 22 = .ok (.getfield 16, 3) := by decide +kernel
theorem dX2_takeBack_25 : decode cX2_takeBack 25 = .ok (.aaload, 1) := by decide +kernel
theorem dX2_takeBack_26 : decode cX2_takeBack 26 = .ok (.invokevirtual 23, 3) := by decide +kernel
theorem dX2_takeBack_29 : decode cX2_takeBack 29 = .ok (.aload_n 0, 1) := by decide +kernel
theorem dX2_takeBack_30 : decode cX2_takeBack 30 = .ok (.dup, 1) := by decide +kernel
theorem dX2_takeBack_31 : decode cX2_takeBack 31 = .ok (.getfield 20, 3) := by decide +kernel
theorem dX2_takeBack_34 : decode cX2_takeBack 34 = .ok (.iconst 1, 1) := by decide +kernel
theorem dX2_takeBack_35 : decode cX2_takeBack 35 = .ok (.isub, 1) := by decide +kernel
theorem dX2_takeBack_36 : decode cX2_takeBack 36 = .ok (.putfield 20, 3) := by decide +kernel
theorem dX2_takeBack_39 : decode cX2_takeBack 39 = .ok (.aload_n 0, 1) := by decide +kernel
theorem dX2_takeBack_40 : decode cX2_takeBack 40 = .ok (.getfield 20, 3) := by decide +kernel
theorem dX2_takeBack_43 : decode cX2_takeBack 43 = .ok (.ireturn, 1) := by decide +kernel
theorem dX2_forget_0 : decode cX2_forget 0 = .ok (.aload_n 0, 1) := by decide +kernel
theorem dX2_forget_1 : decode cX2_forget 1 = .ok (.iconst 0, 1) := by decide +kernel
theorem dX2_forget_2 : decode cX2_forget 2 = .ok (.putfield 20, 3) := by decide +kernel
theorem dX2_forget_5 : decode cX2_forget 5 = .ok (.return_, 1) := by decide +kernel
theorem dX3_init_0 : decode cX3_init 0 = .ok (.aload_n 0, 1) := by decide +kernel
theorem dX3_init_1 : decode cX3_init 1 = .ok (.invokespecial 1, 3) := by decide +kernel
theorem dX3_init_4 : decode cX3_init 4 = .ok (.aload_n 0, 1) := by decide +kernel
theorem dX3_init_5 : decode cX3_init 5 = .ok (.bipush 60, 2) := by decide +kernel
theorem dX3_init_7 : decode cX3_init 7 = .ok (.newarray .char, 2) := by decide +kernel
theorem dX3_init_9 : decode cX3_init 9 = .ok (.putfield 9, 3) := by decide +kernel
theorem dX3_init_12 : decode cX3_init 12 = .ok (.aload_n 0, 1) := by decide +kernel
theorem dX3_init_13 : decode cX3_init 13 = .ok (.bipush 8, 2) := by decide +kernel
theorem dX3_init_15 : decode cX3_init 15 = .ok (.newarray .int, 2) := by decide +kernel
theorem dX3_init_17 : decode cX3_init 17 = .ok (.putfield 13, 3) := by decide +kernel
theorem dX3_init_20 : decode cX3_init 20 = .ok (.aload_n 0, 1) := by decide +kernel
theorem dX3_init_21 : decode cX3_init 21 = .ok (.bipush 32, 2) := by decide +kernel
theorem dX3_init_23 : decode cX3_init 23 = .ok (.newarray .int, 2) := by decide +kernel
theorem dX3_init_25 : decode cX3_init 25 = .ok (.putfield 17, 3) := by decide +kernel
theorem dX3_init_28 : decode cX3_init 28 = .ok (.aload_n 0, 1) := by decide +kernel
theorem dX3_init_29 : decode cX3_init 29 = .ok (.iconst 0, 1) := by decide +kernel
theorem dX3_init_30 : decode cX3_init 30 = .ok (.putfield 20, 3) := by decide +kernel
theorem dX3_init_33 : decode cX3_init 33 = .ok (.aload_n 0, 1) := by decide +kernel
theorem dX3_init_34 : decode cX3_init 34 = .ok (.iconst 0, 1) := by decide +kernel
theorem dX3_init_35 : decode cX3_init 35 = .ok (.putfield 24, 3) := by decide +kernel
theorem dX3_init_38 : decode cX3_init 38 = .ok (.aload_n 0, 1) := by decide +kernel
theorem dX3_init_39 : decode cX3_init 39 = .ok (.iconst 0, 1) := by decide +kernel
theorem dX3_init_40 : decode cX3_init 40 = .ok (.putfield 27, 3) := by decide +kernel
theorem dX3_init_43 : decode cX3_init 43 = .ok (.return_, 1) := by decide +kernel
theorem dX3_isFull_0 : decode cX3_isFull 0 = .ok (.aload_n 0, 1) := by decide +kernel
theorem dX3_isFull_1 : decode cX3_isFull 1 = .ok (.getfield 20, 3) := by decide +kernel
theorem dX3_isFull_4 : decode cX3_isFull 4 = .ok (.bipush 60, 2) := by decide +kernel
theorem dX3_isFull_6 : decode cX3_isFull 6 = .ok (.if_icmp .lt 7, 3) := by decide +kernel
theorem dX3_isFull_9 : decode cX3_isFull 9 = .ok (.iconst 1, 1) := by decide +kernel
theorem dX3_isFull_10 : decode cX3_isFull 10 = .ok (.goto 4, 3) := by decide +kernel
theorem dX3_isFull_13 : decode cX3_isFull 13 = .ok (.iconst 0, 1) := by decide +kernel
theorem dX3_isFull_14 : decode cX3_isFull 14 = .ok (.ireturn, 1) := by decide +kernel
theorem dX3_add_0 : decode cX3_add 0 = .ok (.aload_n 0, 1) := by decide +kernel
theorem dX3_add_1 : decode cX3_add 1 = .ok (.getfield 9, 3) := by decide +kernel
theorem dX3_add_4 : decode cX3_add 4 = .ok (.aload_n 0, 1) := by decide +kernel
theorem dX3_add_5 : decode cX3_add 5 = .ok (.getfield 20, 3) := by decide +kernel
theorem dX3_add_8 : decode cX3_add 8 = .ok (.iload_n 1, 1) := by decide +kernel
theorem dX3_add_9 : decode cX3_add 9 = .ok (.castore, 1) := by decide +kernel
theorem dX3_add_10 : decode cX3_add 10 = .ok (.aload_n 0, 1) := by decide +kernel
theorem dX3_add_11 : decode cX3_add 11 = .ok (.dup, 1) := by decide +kernel
theorem dX3_add_12 : decode cX3_add 12 = .ok (.getfield 20, 3) := by decide +kernel
theorem dX3_add_15 : decode cX3_add 15 = .ok (.iconst 1, 1) := by decide +kernel
theorem dX3_add_16 : decode cX3_add 16 = .ok (.iadd, 1) := by decide +kernel
theorem dX3_add_17 : decode cX3_add 17 = .ok (.putfield 20, 3) := by decide +kernel
theorem dX3_add_20 : decode cX3_add 20 = .ok (.aload_n 0, 1) := by decide +kernel
theorem dX3_add_21 : decode cX3_add 21 = .ok (.getfield 20, 3) := by decide +kernel
theorem dX3_add_24 : decode cX3_add 24 = .ok (.ireturn, 1) := by decide +kernel
theorem dX3_emptyText_0 : decode cX3_emptyText 0 = .ok (.aload_n 0, 1) := by decide +kernel
theorem dX3_emptyText_1 : decode cX3_emptyText 1 = .ok (.iconst 0, 1) := by decide +kernel
theorem dX3_emptyText_2 : decode cX3_emptyText 2 = .ok (.putfield 20, 3) := by decide +kernel
theorem dX3_emptyText_5 : decode cX3_emptyText 5 = .ok (.return_, 1) := by decide +kernel
theorem dX3_kindOf_0 : decode cX3_kindOf 0 = .ok (.aload_n 0, 1) := by decide +kernel
theorem dX3_kindOf_1 : decode cX3_kindOf 1 = .ok (.getfield 13, 3) := by decide +kernel
theorem dX3_kindOf_4 : decode cX3_kindOf 4 = .ok (.iload_n 1, 1) := by decide +kernel
theorem dX3_kindOf_5 : decode cX3_kindOf 5 = .ok (.iaload, 1) := by decide +kernel
theorem dX3_kindOf_6 : decode cX3_kindOf 6 = .ok (.ireturn, 1) := by decide +kernel
theorem dX3_argument_0 : decode cX3_argument 0 = .ok (.aload_n 0, 1) := by decide +kernel
theorem dX3_argument_1 : decode cX3_argument 1 = .ok (.getfield 17, 3) := by decide +kernel
theorem dX3_argument_4 : decode cX3_argument 4 = .ok (.iload_n 1, 1) := by decide +kernel
theorem dX3_argument_5 : decode cX3_argument 5 = .ok (.iconst 4, 1) := by decide +kernel
theorem dX3_argument_6 : decode cX3_argument 6 = .ok (.imul, 1) := by decide +kernel
theorem dX3_argument_7 : decode cX3_argument 7 = .ok (.iload_n 2, 1) := by decide +kernel
theorem dX3_argument_8 : decode cX3_argument 8 = .ok (.iadd, 1) := by decide +kernel
theorem dX3_argument_9 : decode cX3_argument 9 = .ok (.iaload, 1) := by decide +kernel
theorem dX3_argument_10 : decode cX3_argument 10 = .ok (.ireturn, 1) := by decide +kernel
theorem dX3_parse_0 : decode cX3_parse 0 = .ok (.aload_n 0, 1) := by decide +kernel
theorem dX3_parse_1 : decode cX3_parse 1 = .ok (.iconst 0, 1) := by decide +kernel
theorem dX3_parse_2 : decode cX3_parse 2 = .ok (.putfield 27, 3) := by decide +kernel
theorem dX3_parse_5 : decode cX3_parse 5 = .ok (.aload_n 0, 1) := by decide +kernel
theorem dX3_parse_6 : decode cX3_parse 6 = .ok (.iconst 0, 1) := by decide +kernel
theorem dX3_parse_7 : decode cX3_parse 7 = .ok (.putfield 24, 3) := by decide +kernel
theorem dX3_parse_10 : decode cX3_parse 10 = .ok (.iconst 1, 1) := by decide +kernel
theorem dX3_parse_11 : decode cX3_parse 11 = .ok (.istore_n 1, 1) := by decide +kernel
theorem dX3_parse_12 : decode cX3_parse 12 = .ok (.iconst 0, 1) := by decide +kernel
theorem dX3_parse_13 : decode cX3_parse 13 = .ok (.istore_n 2, 1) := by decide +kernel
theorem dX3_parse_14 : decode cX3_parse 14 = .ok (.iload_n 1, 1) := by decide +kernel
theorem dX3_parse_15 : decode cX3_parse 15 = .ok (.ifCond .eq 39, 3) := by decide +kernel
theorem dX3_parse_18 : decode cX3_parse 18 = .ok (.iload_n 2, 1) := by decide +kernel
theorem dX3_parse_19 : decode cX3_parse 19 = .ok (.bipush 8, 2) := by decide +kernel
theorem dX3_parse_21 : decode cX3_parse 21 = .ok (.if_icmp .ge 33, 3) := by decide +kernel
theorem dX3_parse_24 : decode cX3_parse 24 = .ok (.aload_n 0, 1) := by decide +kernel
theorem dX3_parse_25 : decode cX3_parse 25 = .ok (.iload_n 2, 1) := by decide +kernel
theorem dX3_parse_26 : decode cX3_parse 26 = .ok (.invokevirtual 30, 3) := by decide +kernel
theorem dX3_parse_29 : decode cX3_parse 29 = .ok (.ifCond .ne 5, 3) := by decide +kernel
theorem dX3_parse_32 : decode cX3_parse 32 = .ok (.iconst 0, 1) := by decide +kernel
theorem dX3_parse_33 : decode cX3_parse 33 = .ok (.ireturn, 1) := by decide +kernel
theorem dX3_parse_34 : decode cX3_parse 34 = .ok (.aload_n 0, 1) := by decide +kernel
theorem dX3_parse_35 : decode cX3_parse 35 = .ok (.iload_n 2, 1) := by decide +kernel
theorem dX3_parse_36 : decode cX3_parse 36 = .ok (.iconst 1, 1) := by decide +kernel
theorem dX3_parse_37 : decode cX3_parse 37 = .ok (.iadd, 1) := by decide +kernel
theorem dX3_parse_38 : decode cX3_parse 38 = .ok (.putfield 24, 3) := by decide +kernel
theorem dX3_parse_41 : decode cX3_parse 41 = .ok (.aload_n 0, 1) := by decide +kernel
theorem dX3_parse_42 : decode cX3_parse 42 = .ok (.bipush 59, 2) := by decide +kernel
theorem dX3_parse_44 : decode cX3_parse 44 = .ok (.invokevirtual 34, 3) := by decide +kernel
theorem dX3_parse_47 : decode cX3_parse 47 = .ok (.istore_n 1, 1) := by decide +kernel
theorem dX3_parse_48 : decode cX3_parse 48 = .ok (.iinc 2 1, 3) := by decide +kernel
theorem dX3_parse_51 : decode cX3_parse 51 = .ok (.goto (-37), 3) := by decide +kernel
theorem dX3_parse_54 : decode cX3_parse 54 = .ok (.iload_n 1, 1) := by decide +kernel
theorem dX3_parse_55 : decode cX3_parse 55 = .ok (.ifCond .ne 18, 3) := by decide +kernel
theorem dX3_parse_58 : decode cX3_parse 58 = .ok (.aload_n 0, 1) := by decide +kernel
theorem dX3_parse_59 : decode cX3_parse 59 = .ok (.getfield 27, 3) := by decide +kernel
theorem dX3_parse_62 : decode cX3_parse 62 = .ok (.aload_n 0, 1) := by decide +kernel
theorem dX3_parse_63 : decode cX3_parse 63 = .ok (.getfield 20, 3) := by decide +kernel
theorem dX3_parse_66 : decode cX3_parse 66 = .ok (.if_icmp .ne 7, 3) := by decide +kernel
theorem dX3_parse_69 : decode cX3_parse 69 = .ok (.iconst 1, 1) := by decide +kernel
theorem dX3_parse_70 : decode cX3_parse 70 = .ok (.goto 4, 3) := by decide +kernel
theorem dX3_parse_73 : decode cX3_parse 73 = .ok (.iconst 0, 1) := by decide +kernel
theorem dX3_parse_74 : decode cX3_parse 74 = .ok (.ireturn, 1) := by decide +kernel
theorem dX3_readCommand_0 : decode cX3_readCommand 0 = .ok (.aload_n 0, 1) := by decide +kernel
theorem dX3_readCommand_1 : decode cX3_readCommand 1 = .ok (.getfield 27, 3) := by decide +kernel
theorem dX3_readCommand_4 : decode cX3_readCommand 4 = .ok (.istore_n 2, 1) := by decide +kernel
theorem dX3_readCommand_5 : decode cX3_readCommand 5 = .ok (.iload_n 2, 1) := by decide +kernel
theorem dX3_readCommand_6 : decode cX3_readCommand 6 = .ok (.istore_n 3, 1) := by decide +kernel
theorem dX3_readCommand_7 : decode cX3_readCommand 7 = .ok (.iconst 0, 1) := by decide +kernel
theorem dX3_readCommand_8 : decode cX3_readCommand 8 = .ok (.istore 4, 2) := by decide +kernel
theorem dX3_readCommand_10 : decode cX3_readCommand 10 = .ok (.iload 4, 2) := by decide +kernel
theorem dX3_readCommand_12 : decode cX3_readCommand 12 = .ok (.bipush 7, 2) := by decide +kernel
theorem dX3_readCommand_14 : decode cX3_readCommand 14 = .ok (.if_icmp .ge 46, 3) := by decide +kernel
theorem dX3_readCommand_17 : decode cX3_readCommand 17 = .ok (.aload_n 0, 1) := by decide +kernel
theorem dX3_readCommand_18 : decode cX3_readCommand 18 = .ok (.iload_n 2, 1) := by decide +kernel
theorem dX3_readCommand_19 : decode cX3_readCommand 19 = .ok (.putfield 27, 3) := by decide +kernel
theorem dX3_readCommand_22 : decode cX3_readCommand 22 = .ok (.aload_n 0, 1) := by decide +kernel
theorem dX3_readCommand_23 : decode cX3_readCommand 23 = .ok (.iload 4, 2) := by decide +kernel
theorem dX3_readCommand_25 : decode cX3_readCommand 25 = .ok (.invokestatic 38, 3) := by decide +kernel
theorem dX3_readCommand_28 : decode cX3_readCommand 28 = .ok (.iload_n 1, 1) := by decide +kernel
theorem dX3_readCommand_29 : decode cX3_readCommand 29 = .ok (.invokevirtual 42, 3) := by decide +kernel
theorem dX3_readCommand_32 : decode cX3_readCommand 32 = .ok (.ifCond .eq 13, 3) := by decide +kernel
theorem dX3_readCommand_35 : decode cX3_readCommand 35 = .ok (.aload_n 0, 1) := by decide +kernel
theorem dX3_readCommand_36 : decode cX3_readCommand 36 = .ok (.getfield 13, 3) := by decide +kernel
theorem dX3_readCommand_39 : decode cX3_readCommand 39 = .ok (.iload_n 1, 1) := by decide +kernel
theorem dX3_readCommand_40 : decode cX3_readCommand 40 = .ok (.iload 4, 2) := by decide +kernel
theorem dX3_readCommand_42 : decode cX3_readCommand 42 = .ok (.iastore, 1) := by decide +kernel
theorem dX3_readCommand_43 : decode cX3_readCommand 43 = .ok (.iconst 1, 1) := by decide +kernel
theorem dX3_readCommand_44 : decode cX3_readCommand 44 = .ok (.ireturn, 1) := by decide +kernel
theorem dX3_readCommand_45 : decode cX3_readCommand 45 = .ok (.iload_n 3, 1) := by decide +kernel
theorem dX3_readCommand_46 : decode cX3_readCommand 46 = .ok (.aload_n 0, 1) := by decide +kernel
theorem dX3_readCommand_47 : decode cX3_readCommand 47 = .ok (.getfield 27, 3) := by decide +kernel
theorem dX3_readCommand_50 : decode cX3_readCommand 50 = .ok (.invokestatic 46, 3) := by decide +kernel
theorem dX3_readCommand_53 : decode cX3_readCommand 53 = .ok (.istore_n 3, 1) := by decide +kernel
theorem dX3_readCommand_54 : decode cX3_readCommand 54 = .ok (.iinc 4 1, 3) := by decide +kernel
theorem dX3_readCommand_57 : decode cX3_readCommand 57 = .ok (.goto (-47), 3) := by decide +kernel
theorem dX3_readCommand_60 : decode cX3_readCommand 60 = .ok (.aload_n 0, 1) := by decide +kernel
theorem dX3_readCommand_61 : decode cX3_readCommand 61 = .ok (.iload_n 3, 1) := by decide +kernel
theorem dX3_readCommand_62 : decode cX3_readCommand 62 = .ok (.putfield 27, 3) := by decide +kernel
theorem dX3_readCommand_65 : decode cX3_readCommand 65 = .ok (.iconst 0, 1) := by decide +kernel
theorem dX3_readCommand_66 : decode cX3_readCommand 66 = .ok (.ireturn, 1) := by decide +kernel
theorem dX3_formOf_0 : decode cX3_formOf 0 = .ok (.iload_n 0, 1) := by decide +kernel
theorem dX3_formOf_1 : decode cX3_formOf 1 = .ok (.tableswitch 57 0 5 #[39, 42, 45, 48, 51, 54], 39) := by decide +kernel
theorem dX3_formOf_40 : decode cX3_formOf 40 = .ok (.ldc 52, 2) := by decide +kernel
theorem dX3_formOf_42 : decode cX3_formOf 42 = .ok (.areturn, 1) := by decide +kernel
theorem dX3_formOf_43 : decode cX3_formOf 43 = .ok (.ldc 54, 2) := by decide +kernel
theorem dX3_formOf_45 : decode cX3_formOf 45 = .ok (.areturn, 1) := by decide +kernel
theorem dX3_formOf_46 : decode cX3_formOf 46 = .ok (.ldc 56, 2) := by decide +kernel
theorem dX3_formOf_48 : decode cX3_formOf 48 = .ok (.areturn, 1) := by decide +kernel
theorem dX3_formOf_49 : decode cX3_formOf 49 = .ok (.ldc 58, 2) := by decide +kernel
theorem dX3_formOf_51 : decode cX3_formOf 51 = .ok (.areturn, 1) := by decide +kernel
theorem dX3_formOf_52 : decode cX3_formOf 52 = .ok (.ldc 60, 2) := by decide +kernel
theorem dX3_formOf_54 : decode cX3_formOf 54 = .ok (.areturn, 1) := by decide +kernel
theorem dX3_formOf_55 : decode cX3_formOf 55 = .ok (.ldc 62, 2) := by decide +kernel
theorem dX3_formOf_57 : decode cX3_formOf 57 = .ok (.areturn, 1) := by decide +kernel
theorem dX3_formOf_58 : decode cX3_formOf 58 = .ok (.ldc 64, 2) := by decide +kernel
theorem dX3_formOf_60 : decode cX3_formOf 60 = .ok (.areturn, 1) := by decide +kernel
theorem dX3_readForm_0 : decode cX3_readForm 0 = .ok (.iload_n 2, 1) := by decide +kernel
theorem dX3_readForm_1 : decode cX3_readForm 1 = .ok (.iconst 4, 1) := by decide +kernel
theorem dX3_readForm_2 : decode cX3_readForm 2 = .ok (.imul, 1) := by decide +kernel
theorem dX3_readForm_3 : decode cX3_readForm 3 = .ok (.istore_n 3, 1) := by decide +kernel
theorem dX3_readForm_4 : decode cX3_readForm 4 = .ok (.iconst 0, 1) := by decide +kernel
theorem dX3_readForm_5 : decode cX3_readForm 5 = .ok (.istore 4, 2) := by decide +kernel
theorem dX3_readForm_7 : decode cX3_readForm 7 = .ok (.iload 4, 2) := by decide +kernel
theorem dX3_readForm_9 : decode cX3_readForm 9 = .ok (.aload_n 1, 1) := by decide +kernel
theorem dX3_readForm_10 : decode cX3_readForm 10 = .ok (.invokevirtual 66, 3) := by decide +kernel
theorem dX3_readForm_13 : decode cX3_readForm 13 = .ok (.if_icmp .ge 88, 3) := by decide +kernel
theorem dX3_readForm_16 : decode cX3_readForm 16 = .ok (.aload_n 1, 1) := by decide +kernel
theorem dX3_readForm_17 : decode cX3_readForm 17 = .ok (.iload 4, 2) := by decide +kernel
theorem dX3_readForm_19 : decode cX3_readForm 19 = .ok (.invokevirtual 71, 3) := by decide +kernel
theorem dX3_readForm_22 : decode cX3_readForm 22 = .ok (.istore 5, 2) := by decide +kernel
theorem dX3_readForm_24 : decode cX3_readForm 24 = .ok (.iload 5, 2) := by decide +kernel
theorem dX3_readForm_26 : decode cX3_readForm 26 = .ok (.bipush 35, 2) := by decide +kernel
theorem dX3_readForm_28 : decode cX3_readForm 28 = .ok (.if_icmp .eq 21, 3) := by decide +kernel
theorem dX3_readForm_31 : decode cX3_readForm 31 = .ok (.iload 5, 2) := by decide +kernel
theorem dX3_readForm_33 : decode cX3_readForm 33 = .ok (.bipush 63, 2) := by decide +kernel
theorem dX3_readForm_35 : decode cX3_readForm 35 = .ok (.if_icmp .eq 14, 3) := by decide +kernel
theorem dX3_readForm_38 : decode cX3_readForm 38 = .ok (.aload_n 0, 1) := by decide +kernel
theorem dX3_readForm_39 : decode cX3_readForm 39 = .ok (.iload 5, 2) := by decide +kernel
theorem dX3_readForm_41 : decode cX3_readForm 41 = .ok (.invokevirtual 34, 3) := by decide +kernel
theorem dX3_readForm_44 : decode cX3_readForm 44 = .ok (.ifCond .ne 51, 3) := by decide +kernel
theorem dX3_readForm_47 : decode cX3_readForm 47 = .ok (.iconst 0, 1) := by decide +kernel
theorem dX3_readForm_48 : decode cX3_readForm 48 = .ok (.ireturn, 1) := by decide +kernel
theorem dX3_readForm_49 : decode cX3_readForm 49 = .ok (.aload_n 0, 1) := by decide +kernel
theorem dX3_readForm_50 : decode cX3_readForm 50 = .ok (.invokevirtual 75, 3) := by decide +kernel
theorem dX3_readForm_53 : decode cX3_readForm 53 = .ok (.ifCond .eq 40, 3) := by decide +kernel
theorem dX3_readForm_56 : decode cX3_readForm 56 = .ok (.iload_n 3, 1) := by decide +kernel
theorem dX3_readForm_57 : decode cX3_readForm 57 = .ok (.aload_n 0, 1) := by decide +kernel
theorem dX3_readForm_58 : decode cX3_readForm 58 = .ok (.getfield 17, 3) := by decide +kernel
theorem dX3_readForm_61 : decode cX3_readForm 61 = .ok (.arraylength, 1) := by decide +kernel
theorem dX3_readForm_62 : decode cX3_readForm 62 = .ok (.if_icmp .ge 31, 3) := by decide +kernel
theorem dX3_readForm_65 : decode cX3_readForm 65 = .ok (.aload_n 0, 1) := by decide +kernel
theorem dX3_readForm_66 : decode cX3_readForm 66 = .ok (.getfield 17, 3) := by decide +kernel
theorem dX3_readForm_69 : decode cX3_readForm 69 = .ok (.iload_n 3, 1) := by decide +kernel
theorem dX3_readForm_70 : decode cX3_readForm 70 = .ok (.aload_n 0, 1) := by decide +kernel
theorem dX3_readForm_71 : decode cX3_readForm 71 = .ok (.iload 5, 2) := by decide +kernel
theorem dX3_readForm_73 : decode cX3_readForm 73 = .ok (.bipush 35, 2) := by decide +kernel
theorem dX3_readForm_75 : decode cX3_readForm 75 = .ok (.if_icmp .ne 7, 3) := by decide +kernel
theorem dX3_readForm_78 : decode cX3_readForm 78 = .ok (.iconst 2, 1) := by decide +kernel
theorem dX3_readForm_79 : decode cX3_readForm 79 = .ok (.goto 4, 3) := by decide +kernel
theorem dX3_readForm_82 : decode cX3_readForm 82 = .ok (.iconst 1, 1) := by decide +kernel
theorem dX3_readForm_83 : decode cX3_readForm 83 = .ok (.invokevirtual 79, 3) := by decide +kernel
theorem dX3_readForm_86 : decode cX3_readForm 86 = .ok (.iastore, 1) := by decide +kernel
theorem dX3_readForm_87 : decode cX3_readForm 87 = .ok (.iinc 3 1, 3) := by decide +kernel
theorem dX3_readForm_90 : decode cX3_readForm 90 = .ok (.goto 5, 3) := by decide +kernel
theorem dX3_readForm_93 : decode cX3_readForm 93 = .ok (.iconst 0, 1) := by decide +kernel
theorem dX3_readForm_94 : decode cX3_readForm 94 = .ok (.ireturn, 1) := by decide +kernel
theorem dX3_readForm_95 : decode cX3_readForm 95 = .ok (.iinc 4 1, 3) := by decide +kernel
theorem dX3_readForm_98 : decode cX3_readForm 98 = .ok (.goto (-91), 3) := by decide +kernel
theorem dX3_readForm_101 : decode cX3_readForm 101 = .ok (.iconst 1, 1) := by decide +kernel
theorem dX3_readForm_102 : decode cX3_readForm 102 = .ok (.ireturn, 1) := by decide +kernel
theorem dX3_readSign_0 : decode cX3_readSign 0 = .ok (.aload_n 0, 1) := by decide +kernel
theorem dX3_readSign_1 : decode cX3_readSign 1 = .ok (.getfield 27, 3) := by decide +kernel
theorem dX3_readSign_4 : decode cX3_readSign 4 = .ok (.aload_n 0, 1) := by decide +kernel
theorem dX3_readSign_5 : decode cX3_readSign 5 = .ok (.getfield 20, 3) := by decide +kernel
theorem dX3_readSign_8 : decode cX3_readSign 8 = .ok (.if_icmp .ge 16, 3) := by decide +kernel
theorem dX3_readSign_11 : decode cX3_readSign 11 = .ok (.aload_n 0, 1) := by decide +kernel
theorem dX3_readSign_12 : decode cX3_readSign 12 = .ok (.getfield 9, 3) := by decide +kernel
theorem dX3_readSign_15 : decode cX3_readSign 15 = .ok (.aload_n 0, 1) := by decide +kernel
theorem dX3_readSign_16 : decode cX3_readSign 16 = .ok (.getfield 27, 3) := by decide +kernel
theorem dX3_readSign_19 : decode cX3_readSign 19 = .ok (.caload, 1) := by decide +kernel
theorem dX3_readSign_20 : decode cX3_readSign 20 = .ok (.iload_n 1, 1) := by decide +kernel
theorem dX3_readSign_21 : decode cX3_readSign 21 = .ok (.if_icmp .eq 5, 3) := by decide +kernel
theorem dX3_readSign_24 : decode cX3_readSign 24 = .ok (.iconst 0, 1) := by decide +kernel
theorem dX3_readSign_25 : decode cX3_readSign 25 = .ok (.ireturn, 1) := by decide +kernel
theorem dX3_readSign_26 : decode cX3_readSign 26 = .ok (.aload_n 0, 1) := by decide +kernel
theorem dX3_readSign_27 : decode cX3_readSign 27 = .ok (.dup, 1) := by decide +kernel
theorem dX3_readSign_28 : decode cX3_readSign 28 = .ok (.getfield 27, 3) := by decide +kernel
theorem dX3_readSign_31 : decode cX3_readSign 31 = .ok (.iconst 1, 1) := by decide +kernel
theorem dX3_readSign_32 : decode cX3_readSign 32 = .ok (.iadd, 1) := by decide +kernel
theorem dX3_readSign_33 : decode cX3_readSign 33 = .ok (.putfield 27, 3) := by decide +kernel
theorem dX3_readSign_36 : decode cX3_readSign 36 = .ok (.iconst 1, 1) := by decide +kernel
theorem dX3_readSign_37 : decode cX3_readSign 37 = .ok (.ireturn, 1) := by decide +kernel
theorem dX3_seesDigit_0 : decode cX3_seesDigit 0 = .ok (.aload_n 0, 1) := by decide +kernel
theorem dX3_seesDigit_1 : decode cX3_seesDigit 1 = .ok (.getfield 27, 3) := by decide +kernel
theorem dX3_seesDigit_4 : decode cX3_seesDigit 4 = .ok (.aload_n 0, 1) := by decide +kernel
theorem dX3_seesDigit_5 : decode cX3_seesDigit 5 = .ok (.getfield 20, 3) := by decide +kernel
theorem dX3_seesDigit_8 : decode cX3_seesDigit 8 = .ok (.if_icmp .ge 35, 3) := by decide +kernel
theorem dX3_seesDigit_11 : decode cX3_seesDigit 11 = .ok (.aload_n 0, 1) := by decide +kernel
theorem dX3_seesDigit_12 : decode cX3_seesDigit 12 = .ok (.getfield 9, 3) := by decide +kernel
theorem dX3_seesDigit_15 : decode cX3_seesDigit 15 = .ok (.aload_n 0, 1) := by decide +kernel
theorem dX3_seesDigit_16 : decode cX3_seesDigit 16 = .ok (.getfield 27, 3) := by decide +kernel
theorem dX3_seesDigit_19 : decode cX3_seesDigit 19 = .ok (.caload, 1) := by decide +kernel
theorem dX3_seesDigit_20 : decode cX3_seesDigit 20 = .ok (.bipush 48, 2) := by decide +kernel
theorem dX3_seesDigit_22 : decode cX3_seesDigit 22 = .ok (.if_icmp .lt 21, 3) := by decide +kernel
theorem dX3_seesDigit_25 : decode cX3_seesDigit 25 = .ok (.aload_n 0, 1) := by decide +kernel
theorem dX3_seesDigit_26 : decode cX3_seesDigit 26 = .ok (.getfield 9, 3) := by decide +kernel
theorem dX3_seesDigit_29 : decode cX3_seesDigit 29 = .ok (.aload_n 0, 1) := by decide +kernel
theorem dX3_seesDigit_30 : decode cX3_seesDigit 30 = .ok (.getfield 27, 3) := by decide +kernel
theorem dX3_seesDigit_33 : decode cX3_seesDigit 33 = .ok (.caload, 1) := by decide +kernel
theorem dX3_seesDigit_34 : decode cX3_seesDigit 34 = .ok (.bipush 57, 2) := by decide +kernel
theorem dX3_seesDigit_36 : decode cX3_seesDigit 36 = .ok (.if_icmp .gt 7, 3) := by decide +kernel
theorem dX3_seesDigit_39 : decode cX3_seesDigit 39 = .ok (.iconst 1, 1) := by decide +kernel
theorem dX3_seesDigit_40 : decode cX3_seesDigit 40 = .ok (.goto 4, 3) := by decide +kernel
theorem dX3_seesDigit_43 : decode cX3_seesDigit 43 = .ok (.iconst 0, 1) := by decide +kernel
theorem dX3_seesDigit_44 : decode cX3_seesDigit 44 = .ok (.ireturn, 1) := by decide +kernel
theorem dX3_readNumber_0 : decode cX3_readNumber 0 = .ok (.iconst 0, 1) := by decide +kernel
theorem dX3_readNumber_1 : decode cX3_readNumber 1 = .ok (.istore_n 2, 1) := by decide +kernel
theorem dX3_readNumber_2 : decode cX3_readNumber 2 = .ok (.iconst 0, 1) := by decide +kernel
theorem dX3_readNumber_3 : decode cX3_readNumber 3 = .ok (.istore_n 3, 1) := by decide +kernel
theorem dX3_readNumber_4 : decode cX3_readNumber 4 = .ok (.iload_n 3, 1) := by decide +kernel
theorem dX3_readNumber_5 : decode cX3_readNumber 5 = .ok (.iload_n 1, 1) := by decide +kernel
theorem dX3_readNumber_6 : decode cX3_readNumber 6 = .ok (.if_icmp .ge 44, 3) := by decide +kernel
theorem dX3_readNumber_9 : decode cX3_readNumber 9 = .ok (.aload_n 0, 1) := by decide +kernel
theorem dX3_readNumber_10 : decode cX3_readNumber 10 = .ok (.invokevirtual 75, 3) := by decide +kernel
theorem dX3_readNumber_13 : decode cX3_readNumber 13 = .ok (.ifCond .eq 37, 3) := by decide +kernel
theorem dX3_readNumber_16 : decode cX3_readNumber 16 = .ok (.iload_n 2, 1) := by decide +kernel
theorem dX3_readNumber_17 : decode cX3_readNumber 17 = .ok (.bipush 10, 2) := by decide +kernel
theorem dX3_readNumber_19 : decode cX3_readNumber 19 = .ok (.imul, 1) := by decide +kernel
theorem dX3_readNumber_20 : decode cX3_readNumber 20 = .ok (.aload_n 0, 1) := by decide +kernel
theorem dX3_readNumber_21 : decode cX3_readNumber 21 = .ok (.getfield 9, 3) := by decide +kernel
theorem dX3_readNumber_24 : decode cX3_readNumber 24 = .ok (.aload_n 0, 1) := by decide +kernel
theorem dX3_readNumber_25 : decode cX3_readNumber 25 = .ok (.getfield 27, 3) := by decide +kernel
theorem dX3_readNumber_28 : decode cX3_readNumber 28 = .ok (.caload, 1) := by decide +kernel
theorem dX3_readNumber_29 : decode cX3_readNumber 29 = .ok (.bipush 48, 2) := by decide +kernel
theorem dX3_readNumber_31 : decode cX3_readNumber 31 = .ok (.isub, 1) := by decide +kernel
theorem dX3_readNumber_32 : decode cX3_readNumber 32 = .ok (.iadd, 1) := by decide +kernel
theorem dX3_readNumber_33 : decode cX3_readNumber 33 = .ok (.istore_n 2, 1) := by decide +kernel
theorem dX3_readNumber_34 : decode cX3_readNumber 34 = .ok (.aload_n 0, 1) := by decide +kernel
theorem dX3_readNumber_35 : decode cX3_readNumber 35 = .ok (.dup, 1) := by decide +kernel
theorem dX3_readNumber_36 : decode cX3_readNumber 36 = .ok (.getfield 27, 3) := by decide +kernel
theorem dX3_readNumber_39 : decode cX3_readNumber 39 = .ok (.iconst 1, 1) := by decide +kernel
theorem dX3_readNumber_40 : decode cX3_readNumber 40 = .ok (.iadd, 1) := by decide +kernel
theorem dX3_readNumber_41 : decode cX3_readNumber 41 = .ok (.putfield 27, 3) := by decide +kernel
theorem dX3_readNumber_44 : decode cX3_readNumber 44 = .ok (.iinc 3 1, 3) := by decide +kernel
theorem dX3_readNumber_47 : decode cX3_readNumber 47 = .ok (.goto (-43), 3) := by decide +kernel
theorem dX3_readNumber_50 : decode cX3_readNumber 50 = .ok (.iload_n 2, 1) := by decide +kernel
theorem dX3_readNumber_51 : decode cX3_readNumber 51 = .ok (.ireturn, 1) := by decide +kernel
theorem dX4_init_0 : decode cX4_init 0 = .ok (.aload_n 0, 1) := by decide +kernel
theorem dX4_init_1 : decode cX4_init 1 = .ok (.invokespecial 3, 3) := by decide +kernel
theorem dX4_init_4 : decode cX4_init 4 = .ok (.aload_n 0, 1) := by decide +kernel
theorem dX4_init_5 : decode cX4_init 5 = .ok (.bipush 8, 2) := by decide +kernel
theorem dX4_init_7 : decode cX4_init 7 = .ok (.newarray .int, 2) := by decide +kernel
theorem dX4_init_9 : decode cX4_init 9 = .ok (.putfield 9, 3) := by decide +kernel
theorem dX4_init_12 : decode cX4_init 12 = .ok (.aload_n 0, 1) := by decide +kernel
theorem dX4_init_13 : decode cX4_init 13 = .ok (.bipush 8, 2) := by decide +kernel
theorem dX4_init_15 : decode cX4_init 15 = .ok (.newarray .int, 2) := by decide +kernel
theorem dX4_init_17 : decode cX4_init 17 = .ok (.putfield 15, 3) := by decide +kernel
theorem dX4_init_20 : decode cX4_init 20 = .ok (.aload_n 0, 1) := by decide +kernel
theorem dX4_init_21 : decode cX4_init 21 = .ok (.bipush 8, 2) := by decide +kernel
theorem dX4_init_23 : decode cX4_init 23 = .ok (.newarray .int, 2) := by decide +kernel
theorem dX4_init_25 : decode cX4_init 25 = .ok (.putfield 18, 3) := by decide +kernel
theorem dX4_init_28 : decode cX4_init 28 = .ok (.aload_n 0, 1) := by decide +kernel
theorem dX4_init_29 : decode cX4_init 29 = .ok (.bipush 8, 2) := by decide +kernel
theorem dX4_init_31 : decode cX4_init 31 = .ok (.newarray .int, 2) := by decide +kernel
theorem dX4_init_33 : decode cX4_init 33 = .ok (.putfield 21, 3) := by decide +kernel
theorem dX4_init_36 : decode cX4_init 36 = .ok (.aload_n 0, 1) := by decide +kernel
theorem dX4_init_37 : decode cX4_init 37 = .ok (.bipush 8, 2) := by decide +kernel
theorem dX4_init_39 : decode cX4_init 39 = .ok (.newarray .int, 2) := by decide +kernel
theorem dX4_init_41 : decode cX4_init 41 = .ok (.putfield 24, 3) := by decide +kernel
theorem dX4_init_44 : decode cX4_init 44 = .ok (.aload_n 0, 1) := by decide +kernel
theorem dX4_init_45 : decode cX4_init 45 = .ok (.bipush 8, 2) := by decide +kernel
theorem dX4_init_47 : decode cX4_init 47 = .ok (.newarray .int, 2) := by decide +kernel
theorem dX4_init_49 : decode cX4_init 49 = .ok (.putfield 27, 3) := by decide +kernel
theorem dX4_init_52 : decode cX4_init 52 = .ok (.aload_n 0, 1) := by decide +kernel
theorem dX4_init_53 : decode cX4_init 53 = .ok (.bipush 8, 2) := by decide +kernel
theorem dX4_init_55 : decode cX4_init 55 = .ok (.newarray .int, 2) := by decide +kernel
theorem dX4_init_57 : decode cX4_init 57 = .ok (.putfield 30, 3) := by decide +kernel
theorem dX4_init_60 : decode cX4_init 60 = .ok (.aload_n 0, 1) := by decide +kernel
theorem dX4_init_61 : decode cX4_init 61 = .ok (.bipush 10, 2) := by decide +kernel
theorem dX4_init_63 : decode cX4_init 63 = .ok (.newarray .int, 2) := by decide +kernel
theorem dX4_init_65 : decode cX4_init 65 = .ok (.putfield 33, 3) := by decide +kernel
theorem dX4_init_68 : decode cX4_init 68 = .ok (.aload_n 0, 1) := by decide +kernel
theorem dX4_init_69 : decode cX4_init 69 = .ok (.iconst 0, 1) := by decide +kernel
theorem dX4_init_70 : decode cX4_init 70 = .ok (.putfield 36, 3) := by decide +kernel
theorem dX4_init_73 : decode cX4_init 73 = .ok (.aload_n 0, 1) := by decide +kernel
theorem dX4_init_74 : decode cX4_init 74 = .ok (.iconst 0, 1) := by decide +kernel
theorem dX4_init_75 : decode cX4_init 75 = .ok (.putfield 40, 3) := by decide +kernel
theorem dX4_init_78 : decode cX4_init 78 = .ok (.aload_n 0, 1) := by decide +kernel
theorem dX4_init_79 : decode cX4_init 79 = .ok (.iconst 0, 1) := by decide +kernel
theorem dX4_init_80 : decode cX4_init 80 = .ok (.putfield 43, 3) := by decide +kernel
theorem dX4_init_83 : decode cX4_init 83 = .ok (.aload_n 0, 1) := by decide +kernel
theorem dX4_init_84 : decode cX4_init 84 = .ok (.iconst 0, 1) := by decide +kernel
theorem dX4_init_85 : decode cX4_init 85 = .ok (.putfield 46, 3) := by decide +kernel
theorem dX4_init_88 : decode cX4_init 88 = .ok (.aload_n 0, 1) := by decide +kernel
theorem dX4_init_89 : decode cX4_init 89 = .ok (.iconst 0, 1) := by decide +kernel
theorem dX4_init_90 : decode cX4_init 90 = .ok (.putfield 49, 3) := by decide +kernel
theorem dX4_init_93 : decode cX4_init 93 = .ok (.aload_n 0, 1) := by decide +kernel
theorem dX4_init_94 : decode cX4_init 94 = .ok (.iconst 0, 1) := by decide +kernel
theorem dX4_init_95 : decode cX4_init 95 = .ok (.putfield 52, 3) := by decide +kernel
theorem dX4_init_98 : decode cX4_init 98 = .ok (.aload_n 0, 1) := by decide +kernel
theorem dX4_init_99 : decode cX4_init 99 = .ok (.iconst 0, 1) := by decide +kernel
theorem dX4_init_100 : decode cX4_init 100 = .ok (.putfield 55, 3) := by decide +kernel
theorem dX4_init_103 : decode cX4_init 103 = .ok (.aload_n 0, 1) := by decide +kernel
theorem dX4_init_104 : decode cX4_init 104 = .ok (.iconst 0, 1) := by decide +kernel
theorem dX4_init_105 : decode cX4_init 105 = .ok (.putfield 58, 3) := by decide +kernel
theorem dX4_init_108 : decode cX4_init 108 = .ok (.return_, 1) := by decide +kernel
theorem dX4_copyFrom_0 : decode cX4_copyFrom 0 = .ok (.aload_n 1, 1) := by decide +kernel
theorem dX4_copyFrom_1 : decode cX4_copyFrom 1 = .ok (.getfield 9, 3) := by decide +kernel
theorem dX4_copyFrom_4 : decode cX4_copyFrom 4 = .ok (.iconst 0, 1) := by decide +kernel
theorem dX4_copyFrom_5 : decode cX4_copyFrom 5 = .ok (.aload_n 0, 1) := by decide +kernel
theorem dX4_copyFrom_6 : decode cX4_copyFrom 6 = .ok (.getfield 9, 3) := by decide +kernel
theorem dX4_copyFrom_9 : decode cX4_copyFrom 9 = .ok (.iconst 0, 1) := by decide +kernel
theorem dX4_copyFrom_10 : decode cX4_copyFrom 10 = .ok (.bipush 8, 2) := by decide +kernel
theorem dX4_copyFrom_12 : decode cX4_copyFrom 12 = .ok (.invokestatic 61, 3) := by decide +kernel
theorem dX4_copyFrom_15 : decode cX4_copyFrom 15 = .ok (.aload_n 1, 1) := by decide +kernel
theorem dX4_copyFrom_16 : decode cX4_copyFrom 16 = .ok (.getfield 15, 3) := by decide +kernel
theorem dX4_copyFrom_19 : decode cX4_copyFrom 19 = .ok (.iconst 0, 1) := by decide +kernel
theorem dX4_copyFrom_20 : decode cX4_copyFrom 20 = .ok (.aload_n 0, 1) := by decide +kernel
theorem dX4_copyFrom_21 : decode cX4_copyFrom 21 = .ok (.getfield 15, 3) := by decide +kernel
theorem dX4_copyFrom_24 : decode cX4_copyFrom 24 = .ok (.iconst 0, 1) := by decide +kernel
theorem dX4_copyFrom_25 : decode cX4_copyFrom 25 = .ok (.bipush 8, 2) := by decide +kernel
theorem dX4_copyFrom_27 : decode cX4_copyFrom 27 = .ok (.invokestatic 61, 3) := by decide +kernel
theorem dX4_copyFrom_30 : decode cX4_copyFrom 30 = .ok (.aload_n 1, 1) := by decide +kernel
theorem dX4_copyFrom_31 : decode cX4_copyFrom 31 = .ok (.getfield 18, 3) := by decide +kernel
theorem dX4_copyFrom_34 : decode cX4_copyFrom 34 = .ok (.iconst 0, 1) := by decide +kernel
theorem dX4_copyFrom_35 : decode cX4_copyFrom 35 = .ok (.aload_n 0, 1) := by decide +kernel
theorem dX4_copyFrom_36 : decode cX4_copyFrom 36 = .ok (.getfield 18, 3) := by decide +kernel
theorem dX4_copyFrom_39 : decode cX4_copyFrom 39 = .ok (.iconst 0, 1) := by decide +kernel
theorem dX4_copyFrom_40 : decode cX4_copyFrom 40 = .ok (.bipush 8, 2) := by decide +kernel
theorem dX4_copyFrom_42 : decode cX4_copyFrom 42 = .ok (.invokestatic 61, 3) := by decide +kernel
theorem dX4_copyFrom_45 : decode cX4_copyFrom 45 = .ok (.aload_n 1, 1) := by decide +kernel
theorem dX4_copyFrom_46 : decode cX4_copyFrom 46 = .ok (.getfield 21, 3) := by decide +kernel
theorem dX4_copyFrom_49 : decode cX4_copyFrom 49 = .ok (.iconst 0, 1) := by decide +kernel
theorem dX4_copyFrom_50 : decode cX4_copyFrom 50 = .ok (.aload_n 0, 1) := by decide +kernel
theorem dX4_copyFrom_51 : decode cX4_copyFrom 51 = .ok (.getfield 21, 3) := by decide +kernel
theorem dX4_copyFrom_54 : decode cX4_copyFrom 54 = .ok (.iconst 0, 1) := by decide +kernel
theorem dX4_copyFrom_55 : decode cX4_copyFrom 55 = .ok (.bipush 8, 2) := by decide +kernel
theorem dX4_copyFrom_57 : decode cX4_copyFrom 57 = .ok (.invokestatic 61, 3) := by decide +kernel
theorem dX4_copyFrom_60 : decode cX4_copyFrom 60 = .ok (.aload_n 1, 1) := by decide +kernel
theorem dX4_copyFrom_61 : decode cX4_copyFrom 61 = .ok (.getfield 24, 3) := by decide +kernel
theorem dX4_copyFrom_64 : decode cX4_copyFrom 64 = .ok (.iconst 0, 1) := by decide +kernel
theorem dX4_copyFrom_65 : decode cX4_copyFrom 65 = .ok (.aload_n 0, 1) := by decide +kernel
theorem dX4_copyFrom_66 : decode cX4_copyFrom 66 = .ok (.getfield 24, 3) := by decide +kernel
theorem dX4_copyFrom_69 : decode cX4_copyFrom 69 = .ok (.iconst 0, 1) := by decide +kernel
theorem dX4_copyFrom_70 : decode cX4_copyFrom 70 = .ok (.bipush 8, 2) := by decide +kernel
theorem dX4_copyFrom_72 : decode cX4_copyFrom 72 = .ok (.invokestatic 61, 3) := by decide +kernel
theorem dX4_copyFrom_75 : decode cX4_copyFrom 75 = .ok (.aload_n 1, 1) := by decide +kernel
theorem dX4_copyFrom_76 : decode cX4_copyFrom 76 = .ok (.getfield 27, 3) := by decide +kernel
theorem dX4_copyFrom_79 : decode cX4_copyFrom 79 = .ok (.iconst 0, 1) := by decide +kernel
theorem dX4_copyFrom_80 : decode cX4_copyFrom 80 = .ok (.aload_n 0, 1) := by decide +kernel
theorem dX4_copyFrom_81 : decode cX4_copyFrom 81 = .ok (.getfield 27, 3) := by decide +kernel
theorem dX4_copyFrom_84 : decode cX4_copyFrom 84 = .ok (.iconst 0, 1) := by decide +kernel
theorem dX4_copyFrom_85 : decode cX4_copyFrom 85 = .ok (.bipush 8, 2) := by decide +kernel
theorem dX4_copyFrom_87 : decode cX4_copyFrom 87 = .ok (.invokestatic 61, 3) := by decide +kernel
theorem dX4_copyFrom_90 : decode cX4_copyFrom 90 = .ok (.aload_n 1, 1) := by decide +kernel
theorem dX4_copyFrom_91 : decode cX4_copyFrom 91 = .ok (.getfield 30, 3) := by decide +kernel
theorem dX4_copyFrom_94 : decode cX4_copyFrom 94 = .ok (.iconst 0, 1) := by decide +kernel
theorem dX4_copyFrom_95 : decode cX4_copyFrom 95 = .ok (.aload_n 0, 1) := by decide +kernel
theorem dX4_copyFrom_96 : decode cX4_copyFrom 96 = .ok (.getfield 30, 3) := by decide +kernel
theorem dX4_copyFrom_99 : decode cX4_copyFrom 99 = .ok (.iconst 0, 1) := by decide +kernel
theorem dX4_copyFrom_100 : decode cX4_copyFrom 100 = .ok (.bipush 8, 2) := by decide +kernel
theorem dX4_copyFrom_102 : decode cX4_copyFrom 102 = .ok (.invokestatic 61, 3) := by decide +kernel
theorem dX4_copyFrom_105 : decode cX4_copyFrom 105 = .ok (.aload_n 1, 1) := by decide +kernel
theorem dX4_copyFrom_106 : decode cX4_copyFrom 106 = .ok (.getfield 33, 3) := by decide +kernel
theorem dX4_copyFrom_109 : decode cX4_copyFrom 109 = .ok (.iconst 0, 1) := by decide +kernel
theorem dX4_copyFrom_110 : decode cX4_copyFrom 110 = .ok (.aload_n 0, 1) := by decide +kernel
theorem dX4_copyFrom_111 : decode cX4_copyFrom 111 = .ok (.getfield 33, 3) := by decide +kernel
theorem dX4_copyFrom_114 : decode cX4_copyFrom 114 = .ok (.iconst 0, 1) := by decide +kernel
theorem dX4_copyFrom_115 : decode cX4_copyFrom 115 = .ok (.bipush 10, 2) := by decide +kernel
theorem dX4_copyFrom_117 : decode cX4_copyFrom 117 = .ok (.invokestatic 61, 3) := by decide +kernel
theorem dX4_copyFrom_120 : decode cX4_copyFrom 120 = .ok (.aload_n 0, 1) := by decide +kernel
theorem dX4_copyFrom_121 : decode cX4_copyFrom 121 = .ok (.aload_n 1, 1) := by decide +kernel
theorem dX4_copyFrom_122 : decode cX4_copyFrom 122 = .ok (.getfield 36, 3) := by decide +kernel
theorem dX4_copyFrom_125 : decode cX4_copyFrom 125 = .ok (.putfield 36, 3) := by decide +kernel
theorem dX4_copyFrom_128 : decode cX4_copyFrom 128 = .ok (.aload_n 0, 1) := by decide +kernel
theorem dX4_copyFrom_129 : decode cX4_copyFrom 129 = .ok (.aload_n 1, 1) := by decide +kernel
theorem dX4_copyFrom_130 : decode cX4_copyFrom 130 = .ok (.getfield 40, 3) := by decide +kernel
theorem dX4_copyFrom_133 : decode cX4_copyFrom 133 = .ok (.putfield 40, 3) := by decide +kernel
theorem dX4_copyFrom_136 : decode cX4_copyFrom 136 = .ok (.aload_n 0, 1) := by decide +kernel
theorem dX4_copyFrom_137 : decode cX4_copyFrom 137 = .ok (.aload_n 1, 1) := by decide +kernel
theorem dX4_copyFrom_138 : decode cX4_copyFrom 138 = .ok (.getfield 43, 3) := by decide +kernel
theorem dX4_copyFrom_141 : decode cX4_copyFrom 141 = .ok (.putfield 43, 3) := by decide +kernel
theorem dX4_copyFrom_144 : decode cX4_copyFrom 144 = .ok (.aload_n 0, 1) := by decide +kernel
theorem dX4_copyFrom_145 : decode cX4_copyFrom 145 = .ok (.aload_n 1, 1) := by decide +kernel
theorem dX4_copyFrom_146 : decode cX4_copyFrom 146 = .ok (.getfield 46, 3) := by decide +kernel
theorem dX4_copyFrom_149 : decode cX4_copyFrom 149 = .ok (.putfield 46, 3) := by decide +kernel
theorem dX4_copyFrom_152 : decode cX4_copyFrom 152 = .ok (.aload_n 0, 1) := by decide +kernel
theorem dX4_copyFrom_153 : decode cX4_copyFrom 153 = .ok (.aload_n 1, 1) := by decide +kernel
theorem dX4_copyFrom_154 : decode cX4_copyFrom 154 = .ok (.getfield 49, 3) := by decide +kernel
theorem dX4_copyFrom_157 : decode cX4_copyFrom 157 = .ok (.putfield 49, 3) := by decide +kernel
theorem dX4_copyFrom_160 : decode cX4_copyFrom 160 = .ok (.aload_n 0, 1) := by decide +kernel
theorem dX4_copyFrom_161 : decode cX4_copyFrom 161 = .ok (.aload_n 1, 1) := by decide +kernel
theorem dX4_copyFrom_162 : decode cX4_copyFrom 162 = .ok (.getfield 52, 3) := by decide +kernel
theorem dX4_copyFrom_165 : decode cX4_copyFrom 165 = .ok (.putfield 52, 3) := by decide +kernel
theorem dX4_copyFrom_168 : decode cX4_copyFrom 168 = .ok (.aload_n 0, 1) := by decide +kernel
theorem dX4_copyFrom_169 : decode cX4_copyFrom 169 = .ok (.aload_n 1, 1) := by decide +kernel
theorem dX4_copyFrom_170 : decode cX4_copyFrom 170 = .ok (.getfield 55, 3) := by decide +kernel
theorem dX4_copyFrom_173 : decode cX4_copyFrom 173 = .ok (.putfield 55, 3) := by decide +kernel
theorem dX4_copyFrom_176 : decode cX4_copyFrom 176 = .ok (.aload_n 0, 1) := by decide +kernel
theorem dX4_copyFrom_177 : decode cX4_copyFrom 177 = .ok (.aload_n 1, 1) := by decide +kernel
theorem dX4_copyFrom_178 : decode cX4_copyFrom 178 = .ok (.getfield 58, 3) := by decide +kernel
theorem dX4_copyFrom_181 : decode cX4_copyFrom 181 = .ok (.putfield 58, 3) := by decide +kernel
theorem dX4_copyFrom_184 : decode cX4_copyFrom 184 = .ok (.return_, 1) := by decide +kernel
theorem dX4_hasMember_0 : decode cX4_hasMember 0 = .ok (.iload_n 1, 1) := by decide +kernel
theorem dX4_hasMember_1 : decode cX4_hasMember 1 = .ok (.ifCond .lt 15, 3) := by decide +kernel
theorem dX4_hasMember_4 : decode cX4_hasMember 4 = .ok (.iload_n 1, 1) := by decide +kernel
theorem dX4_hasMember_5 : decode cX4_hasMember 5 = .ok (.aload_n 0, 1) := by decide +kernel
theorem dX4_hasMember_6 : decode cX4_hasMember 6 = .ok (.getfield 36, 3) := by decide +kernel
theorem dX4_hasMember_9 : decode cX4_hasMember 9 = .ok (.if_icmp .ge 7, 3) := by decide +kernel
theorem dX4_hasMember_12 : decode cX4_hasMember 12 = .ok (.iconst 1, 1) := by decide +kernel
theorem dX4_hasMember_13 : decode cX4_hasMember 13 = .ok (.goto 4, 3) := by decide +kernel
theorem dX4_hasMember_16 : decode cX4_hasMember 16 = .ok (.iconst 0, 1) := by decide +kernel
theorem dX4_hasMember_17 : decode cX4_hasMember 17 = .ok (.ireturn, 1) := by decide +kernel
theorem dX4_faultOfJoining_0 : decode cX4_faultOfJoining 0 = .ok (.iload_n 1, 1) := by decide +kernel
theorem dX4_faultOfJoining_1 : decode cX4_faultOfJoining 1 = .ok (.iconst 1, 1) := by decide +kernel
theorem dX4_faultOfJoining_2 : decode cX4_faultOfJoining 2 = .ok (.if_icmp .lt 37, 3) := by decide +kernel
theorem dX4_faultOfJoining_5 : decode cX4_faultOfJoining 5 = .ok (.iload_n 1, 1) := by decide +kernel
theorem dX4_faultOfJoining_6 : decode cX4_faultOfJoining 6 = .ok (.bipush 50, 2) := by decide +kernel
theorem dX4_faultOfJoining_8 : decode cX4_faultOfJoining 8 = .ok (.if_icmp .gt 31, 3) := by decide +kernel
theorem dX4_faultOfJoining_11 : decode cX4_faultOfJoining 11 = .ok (.iload_n 2, 1) := by decide +kernel
theorem dX4_faultOfJoining_12 : decode cX4_faultOfJoining 12 = .ok (.iconst 2, 1) := by decide +kernel
theorem dX4_faultOfJoining_13 : decode cX4_faultOfJoining 13 = .ok (.if_icmp .lt 26, 3) := by decide +kernel
theorem dX4_faultOfJoining_16 : decode cX4_faultOfJoining 16 = .ok (.iload_n 2, 1) := by decide +kernel
theorem dX4_faultOfJoining_17 : decode cX4_faultOfJoining 17 = .ok (.bipush 12, 2) := by decide +kernel
theorem dX4_faultOfJoining_19 : decode cX4_faultOfJoining 19 = .ok (.if_icmp .gt 20, 3) := by decide +kernel
theorem dX4_faultOfJoining_22 : decode cX4_faultOfJoining 22 = .ok (.iload_n 3, 1) := by decide +kernel
theorem dX4_faultOfJoining_23 : decode cX4_faultOfJoining 23 = .ok (.ifCond .lt 16, 3) := by decide +kernel
theorem dX4_faultOfJoining_26 : decode cX4_faultOfJoining 26 = .ok (.iload_n 3, 1) := by decide +kernel
theorem dX4_faultOfJoining_27 : decode cX4_faultOfJoining 27 = .ok (.iload_n 2, 1) := by decide +kernel
theorem dX4_faultOfJoining_28 : decode cX4_faultOfJoining 28 = .ok (.if_icmp .ge 11, 3) := by decide +kernel
theorem dX4_faultOfJoining_31 : decode cX4_faultOfJoining 31 = .ok (.iload 4, 2) := by decide +kernel
theorem dX4_faultOfJoining_33 : decode cX4_faultOfJoining 33 = .ok (.invokestatic 67, 3) := by decide +kernel
theorem dX4_faultOfJoining_36 : decode cX4_faultOfJoining 36 = .ok (.ifCond .ne 5, 3) := by decide +kernel
theorem dX4_faultOfJoining_39 : decode cX4_faultOfJoining 39 = .ok (.iconst 2, 1) := by decide +kernel
theorem dX4_faultOfJoining_40 : decode cX4_faultOfJoining 40 = .ok (.ireturn, 1) := by decide +kernel
theorem dX4_faultOfJoining_41 : decode cX4_faultOfJoining 41 = .ok (.aload_n 0, 1) := by decide +kernel
theorem dX4_faultOfJoining_42 : decode cX4_faultOfJoining 42 = .ok (.getfield 36, 3) := by decide +kernel
theorem dX4_faultOfJoining_45 : decode cX4_faultOfJoining 45 = .ok (.bipush 8, 2) := by decide +kernel
theorem dX4_faultOfJoining_47 : decode cX4_faultOfJoining 47 = .ok (.if_icmp .lt 7, 3) := by decide +kernel
theorem dX4_faultOfJoining_50 : decode cX4_faultOfJoining 50 = .ok (.iconst 3, 1) := by decide +kernel
theorem dX4_faultOfJoining_51 : decode cX4_faultOfJoining 51 = .ok (.goto 4, 3) := by decide +kernel
theorem dX4_faultOfJoining_54 : decode cX4_faultOfJoining 54 = .ok (.iconst 0, 1) := by decide +kernel
theorem dX4_faultOfJoining_55 : decode cX4_faultOfJoining 55 = .ok (.ireturn, 1) := by decide +kernel
theorem dX4_join_0 : decode cX4_join 0 = .ok (.aload_n 0, 1) := by decide +kernel
theorem dX4_join_1 : decode cX4_join 1 = .ok (.getfield 36, 3) := by decide +kernel
theorem dX4_join_4 : decode cX4_join 4 = .ok (.istore 5, 2) := by decide +kernel
theorem dX4_join_6 : decode cX4_join 6 = .ok (.aload_n 0, 1) := by decide +kernel
theorem dX4_join_7 : decode cX4_join 7 = .ok (.getfield 9, 3) := by decide +kernel
theorem dX4_join_10 : decode cX4_join 10 = .ok (.iload 5, 2) := by decide +kernel
theorem dX4_join_12 : decode cX4_join 12 = .ok (.iload_n 1, 1) := by decide +kernel
theorem dX4_join_13 : decode cX4_join 13 = .ok (.iastore, 1) := by decide +kernel
theorem dX4_join_14 : decode cX4_join 14 = .ok (.aload_n 0, 1) := by decide +kernel
theorem dX4_join_15 : decode cX4_join 15 = .ok (.getfield 15, 3) := by decide +kernel
theorem dX4_join_18 : decode cX4_join 18 = .ok (.iload 5, 2) := by decide +kernel
theorem dX4_join_20 : decode cX4_join 20 = .ok (.iload_n 2, 1) := by decide +kernel
theorem dX4_join_21 : decode cX4_join 21 = .ok (.iastore, 1) := by decide +kernel
theorem dX4_join_22 : decode cX4_join 22 = .ok (.aload_n 0, 1) := by decide +kernel
theorem dX4_join_23 : decode cX4_join 23 = .ok (.getfield 18, 3) := by decide +kernel
theorem dX4_join_26 : decode cX4_join 26 = .ok (.iload 5, 2) := by decide +kernel
theorem dX4_join_28 : decode cX4_join 28 = .ok (.iload_n 3, 1) := by decide +kernel
theorem dX4_join_29 : decode cX4_join 29 = .ok (.iastore, 1) := by decide +kernel
theorem dX4_join_30 : decode cX4_join 30 = .ok (.aload_n 0, 1) := by decide +kernel
theorem dX4_join_31 : decode cX4_join 31 = .ok (.getfield 21, 3) := by decide +kernel
theorem dX4_join_34 : decode cX4_join 34 = .ok (.iload 5, 2) := by decide +kernel
theorem dX4_join_36 : decode cX4_join 36 = .ok (.iload 4, 2) := by decide +kernel
theorem dX4_join_38 : decode cX4_join 38 = .ok (.iastore, 1) := by decide +kernel
theorem dX4_join_39 : decode cX4_join 39 = .ok (.aload_n 0, 1) := by decide +kernel
theorem dX4_join_40 : decode cX4_join 40 = .ok (.getfield 24, 3) := by decide +kernel
theorem dX4_join_43 : decode cX4_join 43 = .ok (.iload 5, 2) := by decide +kernel
theorem dX4_join_45 : decode cX4_join 45 = .ok (.iconst 0, 1) := by decide +kernel
theorem dX4_join_46 : decode cX4_join 46 = .ok (.iastore, 1) := by decide +kernel
theorem dX4_join_47 : decode cX4_join 47 = .ok (.aload_n 0, 1) := by decide +kernel
theorem dX4_join_48 : decode cX4_join 48 = .ok (.getfield 27, 3) := by decide +kernel
theorem dX4_join_51 : decode cX4_join 51 = .ok (.iload 5, 2) := by decide +kernel
theorem dX4_join_53 : decode cX4_join 53 = .ok (.iconst 0, 1) := by decide +kernel
theorem dX4_join_54 : decode cX4_join 54 = .ok (.iastore, 1) := by decide +kernel
theorem dX4_join_55 : decode cX4_join 55 = .ok (.aload_n 0, 1) := by decide +kernel
theorem dX4_join_56 : decode cX4_join 56 = .ok (.getfield 30, 3) := by decide +kernel
theorem dX4_join_59 : decode cX4_join 59 = .ok (.iload 5, 2) := by decide +kernel
theorem dX4_join_61 : decode cX4_join 61 = .ok (.iconst 0, 1) := by decide +kernel
theorem dX4_join_62 : decode cX4_join 62 = .ok (.iastore, 1) := by decide +kernel
theorem dX4_join_63 : decode cX4_join 63 = .ok (.aload_n 0, 1) := by decide +kernel
theorem dX4_join_64 : decode cX4_join 64 = .ok (.dup, 1) := by decide +kernel
theorem dX4_join_65 : decode cX4_join 65 = .ok (.getfield 36, 3) := by decide +kernel
theorem dX4_join_68 : decode cX4_join 68 = .ok (.iconst 1, 1) := by decide +kernel
theorem dX4_join_69 : decode cX4_join 69 = .ok (.iadd, 1) := by decide +kernel
theorem dX4_join_70 : decode cX4_join 70 = .ok (.putfield 36, 3) := by decide +kernel
theorem dX4_join_73 : decode cX4_join 73 = .ok (.iload 5, 2) := by decide +kernel
theorem dX4_join_75 : decode cX4_join 75 = .ok (.ireturn, 1) := by decide +kernel
theorem dX4_faultOfWinding_0 : decode cX4_faultOfWinding 0 = .ok (.aload_n 0, 1) := by decide +kernel
theorem dX4_faultOfWinding_1 : decode cX4_faultOfWinding 1 = .ok (.iload_n 1, 1) := by decide +kernel
theorem dX4_faultOfWinding_2 : decode cX4_faultOfWinding 2 = .ok (.invokevirtual 71, 3) := by decide +kernel
theorem dX4_faultOfWinding_5 : decode cX4_faultOfWinding 5 = .ok (.ifCond .ne 5, 3) := by decide +kernel
theorem dX4_faultOfWinding_8 : decode cX4_faultOfWinding 8 = .ok (.iconst 1, 1) := by decide +kernel
theorem dX4_faultOfWinding_9 : decode cX4_faultOfWinding 9 = .ok (.ireturn, 1) := by decide +kernel
theorem dX4_faultOfWinding_10 : decode cX4_faultOfWinding 10 = .ok (.iload_n 2, 1) := by decide +kernel
theorem dX4_faultOfWinding_11 : decode cX4_faultOfWinding 11 = .ok (.iconst 1, 1) := by decide +kernel
theorem dX4_faultOfWinding_12 : decode cX4_faultOfWinding 12 = .ok (.if_icmp .lt 9, 3) := by decide +kernel
theorem dX4_faultOfWinding_15 : decode cX4_faultOfWinding 15 = .ok (.iload_n 2, 1) := by decide +kernel
theorem dX4_faultOfWinding_16 : decode cX4_faultOfWinding 16 = .ok (.bipush 60, 2) := by decide +kernel
theorem dX4_faultOfWinding_18 : decode cX4_faultOfWinding 18 = .ok (.if_icmp .le 5, 3) := by decide +kernel
theorem dX4_faultOfWinding_21 : decode cX4_faultOfWinding 21 = .ok (.iconst 2, 1) := by decide +kernel
theorem dX4_faultOfWinding_22 : decode cX4_faultOfWinding 22 = .ok (.ireturn, 1) := by decide +kernel
theorem dX4_faultOfWinding_23 : decode cX4_faultOfWinding 23 = .ok (.aload_n 0, 1) := by decide +kernel
theorem dX4_faultOfWinding_24 : decode cX4_faultOfWinding 24 = .ok (.getfield 24, 3) := by decide +kernel
theorem dX4_faultOfWinding_27 : decode cX4_faultOfWinding 27 = .ok (.iload_n 1, 1) := by decide +kernel
theorem dX4_faultOfWinding_28 : decode cX4_faultOfWinding 28 = .ok (.iaload, 1) := by decide +kernel
theorem dX4_faultOfWinding_29 : decode cX4_faultOfWinding 29 = .ok (.iload_n 2, 1) := by decide +kernel
theorem dX4_faultOfWinding_30 : decode cX4_faultOfWinding 30 = .ok (.iadd, 1) := by decide +kernel
theorem dX4_faultOfWinding_31 : decode cX4_faultOfWinding 31 = .ok (.bipush 60, 2) := by decide +kernel
theorem dX4_faultOfWinding_33 : decode cX4_faultOfWinding 33 = .ok (.if_icmp .le 7, 3) := by decide +kernel
theorem dX4_faultOfWinding_36 : decode cX4_faultOfWinding 36 = .ok (.iconst 3, 1) := by decide +kernel
theorem dX4_faultOfWinding_37 : decode cX4_faultOfWinding 37 = .ok (.goto 4, 3) := by decide +kernel
theorem dX4_faultOfWinding_40 : decode cX4_faultOfWinding 40 = .ok (.iconst 0, 1) := by decide +kernel
theorem dX4_faultOfWinding_41 : decode cX4_faultOfWinding 41 = .ok (.ireturn, 1) := by decide +kernel
theorem dX4_windUp_0 : decode cX4_windUp 0 = .ok (.aload_n 0, 1) := by decide +kernel
theorem dX4_windUp_1 : decode cX4_windUp 1 = .ok (.getfield 24, 3) := by decide +kernel
theorem dX4_windUp_4 : decode cX4_windUp 4 = .ok (.iload_n 1, 1) := by decide +kernel
theorem dX4_windUp_5 : decode cX4_windUp 5 = .ok (.dup2, 1) := by decide +kernel
theorem dX4_windUp_6 : decode cX4_windUp 6 = .ok (.iaload, 1) := by decide +kernel
theorem dX4_windUp_7 : decode cX4_windUp 7 = .ok (.iload_n 2, 1) := by decide +kernel
theorem dX4_windUp_8 : decode cX4_windUp 8 = .ok (.iadd, 1) := by decide +kernel
theorem dX4_windUp_9 : decode cX4_windUp 9 = .ok (.iastore, 1) := by decide +kernel
theorem dX4_windUp_10 : decode cX4_windUp 10 = .ok (.aload_n 0, 1) := by decide +kernel
theorem dX4_windUp_11 : decode cX4_windUp 11 = .ok (.getfield 24, 3) := by decide +kernel
theorem dX4_windUp_14 : decode cX4_windUp 14 = .ok (.iload_n 1, 1) := by decide +kernel
theorem dX4_windUp_15 : decode cX4_windUp 15 = .ok (.iaload, 1) := by decide +kernel
theorem dX4_windUp_16 : decode cX4_windUp 16 = .ok (.ireturn, 1) := by decide +kernel
theorem dX4_faultOfTuning_0 : decode cX4_faultOfTuning 0 = .ok (.aload_n 0, 1) := by decide +kernel
theorem dX4_faultOfTuning_1 : decode cX4_faultOfTuning 1 = .ok (.iload_n 1, 1) := by decide +kernel
theorem dX4_faultOfTuning_2 : decode cX4_faultOfTuning 2 = .ok (.invokevirtual 71, 3) := by decide +kernel
theorem dX4_faultOfTuning_5 : decode cX4_faultOfTuning 5 = .ok (.ifCond .ne 5, 3) := by decide +kernel
theorem dX4_faultOfTuning_8 : decode cX4_faultOfTuning 8 = .ok (.iconst 1, 1) := by decide +kernel
theorem dX4_faultOfTuning_9 : decode cX4_faultOfTuning 9 = .ok (.ireturn, 1) := by decide +kernel
theorem dX4_faultOfTuning_10 : decode cX4_faultOfTuning 10 = .ok (.iload_n 2, 1) := by decide +kernel
theorem dX4_faultOfTuning_11 : decode cX4_faultOfTuning 11 = .ok (.invokestatic 67, 3) := by decide +kernel
theorem dX4_faultOfTuning_14 : decode cX4_faultOfTuning 14 = .ok (.ifCond .eq 7, 3) := by decide +kernel
theorem dX4_faultOfTuning_17 : decode cX4_faultOfTuning 17 = .ok (.iconst 0, 1) := by decide +kernel
theorem dX4_faultOfTuning_18 : decode cX4_faultOfTuning 18 = .ok (.goto 4, 3) := by decide +kernel
theorem dX4_faultOfTuning_21 : decode cX4_faultOfTuning 21 = .ok (.iconst 2, 1) := by decide +kernel
theorem dX4_faultOfTuning_22 : decode cX4_faultOfTuning 22 = .ok (.ireturn, 1) := by decide +kernel
theorem dX4_retune_0 : decode cX4_retune 0 = .ok (.aload_n 0, 1) := by decide +kernel
theorem dX4_retune_1 : decode cX4_retune 1 = .ok (.getfield 21, 3) := by decide +kernel
theorem dX4_retune_4 : decode cX4_retune 4 = .ok (.iload_n 1, 1) := by decide +kernel
theorem dX4_retune_5 : decode cX4_retune 5 = .ok (.iaload, 1) := by decide +kernel
theorem dX4_retune_6 : decode cX4_retune 6 = .ok (.istore_n 3, 1) := by decide +kernel
theorem dX4_retune_7 : decode cX4_retune 7 = .ok (.aload_n 0, 1) := by decide +kernel
theorem dX4_retune_8 : decode cX4_retune 8 = .ok (.getfield 21, 3) := by decide +kernel
theorem dX4_retune_11 : decode cX4_retune 11 = .ok (.iload_n 1, 1) := by decide +kernel
theorem dX4_retune_12 : decode cX4_retune 12 = .ok (.iload_n 2, 1) := by decide +kernel
theorem dX4_retune_13 : decode cX4_retune 13 = .ok (.iastore, 1) := by decide +kernel
theorem dX4_retune_14 : decode cX4_retune 14 = .ok (.iload_n 3, 1) := by decide +kernel
theorem dX4_retune_15 : decode cX4_retune 15 = .ok (.ireturn, 1) := by decide +kernel
theorem dX4_faultOfBuying_0 : decode cX4_faultOfBuying 0 = .ok (.aload_n 0, 1) := by decide +kernel
theorem dX4_faultOfBuying_1 : decode cX4_faultOfBuying 1 = .ok (.iload_n 1, 1) := by decide +kernel
theorem dX4_faultOfBuying_2 : decode cX4_faultOfBuying 2 = .ok (.invokevirtual 71, 3) := by decide +kernel
theorem dX4_faultOfBuying_5 : decode cX4_faultOfBuying 5 = .ok (.ifCond .ne 5, 3) := by decide +kernel
theorem dX4_faultOfBuying_8 : decode cX4_faultOfBuying 8 = .ok (.iconst 1, 1) := by decide +kernel
theorem dX4_faultOfBuying_9 : decode cX4_faultOfBuying 9 = .ok (.ireturn, 1) := by decide +kernel
theorem dX4_faultOfBuying_10 : decode cX4_faultOfBuying 10 = .ok (.iload_n 2, 1) := by decide +kernel
theorem dX4_faultOfBuying_11 : decode cX4_faultOfBuying 11 = .ok (.iconst 1, 1) := by decide +kernel
theorem dX4_faultOfBuying_12 : decode cX4_faultOfBuying 12 = .ok (.if_icmp .lt 9, 3) := by decide +kernel
theorem dX4_faultOfBuying_15 : decode cX4_faultOfBuying 15 = .ok (.iload_n 2, 1) := by decide +kernel
theorem dX4_faultOfBuying_16 : decode cX4_faultOfBuying 16 = .ok (.bipush 50, 2) := by decide +kernel
theorem dX4_faultOfBuying_18 : decode cX4_faultOfBuying 18 = .ok (.if_icmp .lt 5, 3) := by decide +kernel
theorem dX4_faultOfBuying_21 : decode cX4_faultOfBuying 21 = .ok (.iconst 2, 1) := by decide +kernel
theorem dX4_faultOfBuying_22 : decode cX4_faultOfBuying 22 = .ok (.ireturn, 1) := by decide +kernel
theorem dX4_faultOfBuying_23 : decode cX4_faultOfBuying 23 = .ok (.aload_n 0, 1) := by decide +kernel
theorem dX4_faultOfBuying_24 : decode cX4_faultOfBuying 24 = .ok (.getfield 9, 3) := by decide +kernel
theorem dX4_faultOfBuying_27 : decode cX4_faultOfBuying 27 = .ok (.iload_n 1, 1) := by decide +kernel
theorem dX4_faultOfBuying_28 : decode cX4_faultOfBuying 28 = .ok (.iaload, 1) := by decide +kernel
theorem dX4_faultOfBuying_29 : decode cX4_faultOfBuying 29 = .ok (.iload_n 2, 1) := by decide +kernel
theorem dX4_faultOfBuying_30 : decode cX4_faultOfBuying 30 = .ok (.iadd, 1) := by decide +kernel
theorem dX4_faultOfBuying_31 : decode cX4_faultOfBuying 31 = .ok (.bipush 50, 2) := by decide +kernel
theorem dX4_faultOfBuying_33 : decode cX4_faultOfBuying 33 = .ok (.if_icmp .le 5, 3) := by decide +kernel
theorem dX4_faultOfBuying_36 : decode cX4_faultOfBuying 36 = .ok (.iconst 3, 1) := by decide +kernel
theorem dX4_faultOfBuying_37 : decode cX4_faultOfBuying 37 = .ok (.ireturn, 1) := by decide +kernel
theorem dX4_faultOfBuying_38 : decode cX4_faultOfBuying 38 = .ok (.aload_n 0, 1) := by decide +kernel
theorem dX4_faultOfBuying_39 : decode cX4_faultOfBuying 39 = .ok (.getfield 27, 3) := by decide +kernel
theorem dX4_faultOfBuying_42 : decode cX4_faultOfBuying 42 = .ok (.iload_n 1, 1) := by decide +kernel
theorem dX4_faultOfBuying_43 : decode cX4_faultOfBuying 43 = .ok (.iaload, 1) := by decide +kernel
theorem dX4_faultOfBuying_44 : decode cX4_faultOfBuying 44 = .ok (.iload_n 2, 1) := by decide +kernel
theorem dX4_faultOfBuying_45 : decode cX4_faultOfBuying 45 = .ok (.iconst 5, 1) := by decide +kernel
theorem dX4_faultOfBuying_46 : decode cX4_faultOfBuying 46 = .ok (.imul, 1) := by decide +kernel
theorem dX4_faultOfBuying_47 : decode cX4_faultOfBuying 47 = .ok (.if_icmp .ge 7, 3) := by decide +kernel
theorem dX4_faultOfBuying_50 : decode cX4_faultOfBuying 50 = .ok (.iconst 4, 1) := by decide +kernel
theorem dX4_faultOfBuying_51 : decode cX4_faultOfBuying 51 = .ok (.goto 4, 3) := by decide +kernel
theorem dX4_faultOfBuying_54 : decode cX4_faultOfBuying 54 = .ok (.iconst 0, 1) := by decide +kernel
theorem dX4_faultOfBuying_55 : decode cX4_faultOfBuying 55 = .ok (.ireturn, 1) := by decide +kernel
theorem dX4_buy_0 : decode cX4_buy 0 = .ok (.aload_n 0, 1) := by decide +kernel
theorem dX4_buy_1 : decode cX4_buy 1 = .ok (.getfield 27, 3) := by decide +kernel
theorem dX4_buy_4 : decode cX4_buy 4 = .ok (.iload_n 1, 1) := by decide +kernel
theorem dX4_buy_5 : decode cX4_buy 5 = .ok (.dup2, 1) := by decide +kernel
theorem dX4_buy_6 : decode cX4_buy 6 = .ok (.iaload, 1) := by decide +kernel
theorem dX4_buy_7 : decode cX4_buy 7 = .ok (.iload_n 2, 1) := by decide +kernel
theorem dX4_buy_8 : decode cX4_buy 8 = .ok (.iconst 5, 1) := by decide +kernel
theorem dX4_buy_9 : decode cX4_buy 9 = .ok (.imul, 1) := by decide +kernel
theorem dX4_buy_10 : decode cX4_buy 10 = .ok (.isub, 1) := by decide +kernel
theorem dX4_buy_11 : decode cX4_buy 11 = .ok (.iastore, 1) := by decide +kernel
theorem dX4_buy_12 : decode cX4_buy 12 = .ok (.aload_n 0, 1) := by decide +kernel
theorem dX4_buy_13 : decode cX4_buy 13 = .ok (.dup, 1) := by decide +kernel
theorem dX4_buy_14 : decode cX4_buy 14 = .ok (.getfield 46, 3) := by decide +kernel
theorem dX4_buy_17 : decode cX4_buy 17 = .ok (.iload_n 2, 1) := by decide +kernel
theorem dX4_buy_18 : decode cX4_buy 18 = .ok (.iconst 5, 1) := by decide +kernel
theorem dX4_buy_19 : decode cX4_buy 19 = .ok (.imul, 1) := by decide +kernel
theorem dX4_buy_20 : decode cX4_buy 20 = .ok (.iadd, 1) := by decide +kernel
theorem dX4_buy_21 : decode cX4_buy 21 = .ok (.putfield 46, 3) := by decide +kernel
theorem dX4_buy_24 : decode cX4_buy 24 = .ok (.aload_n 0, 1) := by decide +kernel
theorem dX4_buy_25 : decode cX4_buy 25 = .ok (.getfield 9, 3) := by decide +kernel
theorem dX4_buy_28 : decode cX4_buy 28 = .ok (.iload_n 1, 1) := by decide +kernel
theorem dX4_buy_29 : decode cX4_buy 29 = .ok (.dup2, 1) := by decide +kernel
theorem dX4_buy_30 : decode cX4_buy 30 = .ok (.iaload, 1) := by decide +kernel
theorem dX4_buy_31 : decode cX4_buy 31 = .ok (.iload_n 2, 1) := by decide +kernel
theorem dX4_buy_32 : decode cX4_buy 32 = .ok (.iadd, 1) := by decide +kernel
theorem dX4_buy_33 : decode cX4_buy 33 = .ok (.iastore, 1) := by decide +kernel
theorem dX4_buy_34 : decode cX4_buy 34 = .ok (.aload_n 0, 1) := by decide +kernel
theorem dX4_buy_35 : decode cX4_buy 35 = .ok (.getfield 9, 3) := by decide +kernel
theorem dX4_buy_38 : decode cX4_buy 38 = .ok (.iload_n 1, 1) := by decide +kernel
theorem dX4_buy_39 : decode cX4_buy 39 = .ok (.iaload, 1) := by decide +kernel
theorem dX4_buy_40 : decode cX4_buy 40 = .ok (.ireturn, 1) := by decide +kernel
theorem dX4_faultOfPassing_0 : decode cX4_faultOfPassing 0 = .ok (.iload_n 1, 1) := by decide +kernel
theorem dX4_faultOfPassing_1 : decode cX4_faultOfPassing 1 = .ok (.iconst 1, 1) := by decide +kernel
theorem dX4_faultOfPassing_2 : decode cX4_faultOfPassing 2 = .ok (.if_icmp .lt 9, 3) := by decide +kernel
theorem dX4_faultOfPassing_5 : decode cX4_faultOfPassing 5 = .ok (.iload_n 1, 1) := by decide +kernel
theorem dX4_faultOfPassing_6 : decode cX4_faultOfPassing 6 = .ok (.bipush 60, 2) := by decide +kernel
theorem dX4_faultOfPassing_8 : decode cX4_faultOfPassing 8 = .ok (.if_icmp .le 7, 3) := by decide +kernel
theorem dX4_faultOfPassing_11 : decode cX4_faultOfPassing 11 = .ok (.iconst 2, 1) := by decide +kernel
theorem dX4_faultOfPassing_12 : decode cX4_faultOfPassing 12 = .ok (.goto 4, 3) := by decide +kernel
theorem dX4_faultOfPassing_15 : decode cX4_faultOfPassing 15 = .ok (.iconst 0, 1) := by decide +kernel
theorem dX4_faultOfPassing_16 : decode cX4_faultOfPassing 16 = .ok (.ireturn, 1) := by decide +kernel
theorem dX4_letPass_0 : decode cX4_letPass 0 = .ok (.aload_n 0, 1) := by decide +kernel
theorem dX4_letPass_1 : decode cX4_letPass 1 = .ok (.getfield 46, 3) := by decide +kernel
theorem dX4_letPass_4 : decode cX4_letPass 4 = .ok (.istore_n 2, 1) := by decide +kernel
theorem dX4_letPass_5 : decode cX4_letPass 5 = .ok (.iconst 0, 1) := by decide +kernel
theorem dX4_letPass_6 : decode cX4_letPass 6 = .ok (.istore_n 3, 1) := by decide +kernel
theorem dX4_letPass_7 : decode cX4_letPass 7 = .ok (.iload_n 3, 1) := by decide +kernel
theorem dX4_letPass_8 : decode cX4_letPass 8 = .ok (.iload_n 1, 1) := by decide +kernel
theorem dX4_letPass_9 : decode cX4_letPass 9 = .ok (.if_icmp .ge 13, 3) := by decide +kernel
theorem dX4_letPass_12 : decode cX4_letPass 12 = .ok (.aload_n 0, 1) := by decide +kernel
theorem dX4_letPass_13 : decode cX4_letPass 13 = .ok (.invokevirtual 74, 3) := by decide +kernel
theorem dX4_letPass_16 : decode cX4_letPass 16 = .ok (.iinc 3 1, 3) := by decide +kernel
theorem dX4_letPass_19 : decode cX4_letPass 19 = .ok (.goto (-12), 3) := by decide +kernel
theorem dX4_letPass_22 : decode cX4_letPass 22 = .ok (.aload_n 0, 1) := by decide +kernel
theorem dX4_letPass_23 : decode cX4_letPass 23 = .ok (.getfield 46, 3) := by decide +kernel
theorem dX4_letPass_26 : decode cX4_letPass 26 = .ok (.iload_n 2, 1) := by decide +kernel
theorem dX4_letPass_27 : decode cX4_letPass 27 = .ok (.isub, 1) := by decide +kernel
theorem dX4_letPass_28 : decode cX4_letPass 28 = .ok (.ireturn, 1) := by decide +kernel
theorem dX4_passOne_0 : decode cX4_passOne 0 = .ok (.aload_n 0, 1) := by decide +kernel
theorem dX4_passOne_1 : decode cX4_passOne 1 = .ok (.dup, 1) := by decide +kernel
theorem dX4_passOne_2 : decode cX4_passOne 2 = .ok (.getfield 43, 3) := by decide +kernel
theorem dX4_passOne_5 : decode cX4_passOne 5 = .ok (.iconst 1, 1) := by decide +kernel
theorem dX4_passOne_6 : decode cX4_passOne 6 = .ok (.iadd, 1) := by decide +kernel
theorem dX4_passOne_7 : decode cX4_passOne 7 = .ok (.putfield 43, 3) := by decide +kernel
theorem dX4_passOne_10 : decode cX4_passOne 10 = .ok (.iconst 0, 1) := by decide +kernel
theorem dX4_passOne_11 : decode cX4_passOne 11 = .ok (.istore_n 1, 1) := by decide +kernel
theorem dX4_passOne_12 : decode cX4_passOne 12 = .ok (.iconst 0, 1) := by decide +kernel
theorem dX4_passOne_13 : decode cX4_passOne 13 = .ok (.istore_n 2, 1) := by decide +kernel
theorem dX4_passOne_14 : decode cX4_passOne 14 = .ok (.iconst 0, 1) := by decide +kernel
theorem dX4_passOne_15 : decode cX4_passOne 15 = .ok (.istore_n 3, 1) := by decide +kernel
theorem dX4_passOne_16 : decode cX4_passOne 16 = .ok (.iload_n 3, 1) := by decide +kernel
theorem dX4_passOne_17 : decode cX4_passOne 17 = .ok (.aload_n 0, 1) := by decide +kernel
theorem dX4_passOne_18 : decode cX4_passOne 18 = .ok (.getfield 36, 3) := by decide +kernel
theorem dX4_passOne_21 : decode cX4_passOne 21 = .ok (.if_icmp .ge 54, 3) := by decide +kernel
theorem dX4_passOne_24 : decode cX4_passOne 24 = .ok (.aload_n 0, 1) := by decide +kernel
theorem dX4_passOne_25 : decode cX4_passOne 25 = .ok (.iload_n 3, 1) := by decide +kernel
theorem dX4_passOne_26 : decode cX4_passOne 26 = .ok (.aload_n 0, 1) := by decide +kernel
theorem dX4_passOne_27 : decode cX4_passOne 27 = .ok (.getfield 43, 3) := by decide +kernel
theorem dX4_passOne_30 : decode cX4_passOne 30 = .ok (.invokevirtual 77, 3) := by decide +kernel
theorem dX4_passOne_33 : decode cX4_passOne 33 = .ok (.ifCond .eq 36, 3) := by decide +kernel
theorem dX4_passOne_36 : decode cX4_passOne 36 = .ok (.aload_n 0, 1) := by decide +kernel
theorem dX4_passOne_37 : decode cX4_passOne 37 = .ok (.getfield 24, 3) := by decide +kernel
theorem dX4_passOne_40 : decode cX4_passOne 40 = .ok (.iload_n 3, 1) := by decide +kernel
theorem dX4_passOne_41 : decode cX4_passOne 41 = .ok (.iaload, 1) := by decide +kernel
theorem dX4_passOne_42 : decode cX4_passOne 42 = .ok (.ifCond .le 27, 3) := by decide +kernel
theorem dX4_passOne_45 : decode cX4_passOne 45 = .ok (.aload_n 0, 1) := by decide +kernel
theorem dX4_passOne_46 : decode cX4_passOne 46 = .ok (.getfield 24, 3) := by decide +kernel
theorem dX4_passOne_49 : decode cX4_passOne 49 = .ok (.iload_n 3, 1) := by decide +kernel
theorem dX4_passOne_50 : decode cX4_passOne 50 = .ok (.dup2, 1) := by decide +kernel
theorem dX4_passOne_51 : decode cX4_passOne 51 = .ok (.iaload, 1) := by decide +kernel
theorem dX4_passOne_52 : decode cX4_passOne 52 = .ok (.iconst 1, 1) := by decide +kernel
theorem dX4_passOne_53 : decode cX4_passOne 53 = .ok (.isub, 1) := by decide +kernel
theorem dX4_passOne_54 : decode cX4_passOne 54 = .ok (.iastore, 1) := by decide +kernel
theorem dX4_passOne_55 : decode cX4_passOne 55 = .ok (.iinc 1 1, 3) := by decide +kernel
theorem dX4_passOne_58 : decode cX4_passOne 58 = .ok (.iload_n 2, 1) := by decide +kernel
theorem dX4_passOne_59 : decode cX4_passOne 59 = .ok (.iconst 1, 1) := by decide +kernel
theorem dX4_passOne_60 : decode cX4_passOne 60 = .ok (.aload_n 0, 1) := by decide +kernel
theorem dX4_passOne_61 : decode cX4_passOne 61 = .ok (.getfield 21, 3) := by decide +kernel
theorem dX4_passOne_64 : decode cX4_passOne 64 = .ok (.iload_n 3, 1) := by decide +kernel
theorem dX4_passOne_65 : decode cX4_passOne 65 = .ok (.iaload, 1) := by decide +kernel
theorem dX4_passOne_66 : decode cX4_passOne 66 = .ok (.ishl, 1) := by decide +kernel
theorem dX4_passOne_67 : decode cX4_passOne 67 = .ok (.ior, 1) := by decide +kernel
theorem dX4_passOne_68 : decode cX4_passOne 68 = .ok (.istore_n 2, 1) := by decide +kernel
theorem dX4_passOne_69 : decode cX4_passOne 69 = .ok (.iinc 3 1, 3) := by decide +kernel
theorem dX4_passOne_72 : decode cX4_passOne 72 = .ok (.goto (-56), 3) := by decide +kernel
theorem dX4_passOne_75 : decode cX4_passOne 75 = .ok (.aload_n 0, 1) := by decide +kernel
theorem dX4_passOne_76 : decode cX4_passOne 76 = .ok (.dup, 1) := by decide +kernel
theorem dX4_passOne_77 : decode cX4_passOne 77 = .ok (.getfield 58, 3) := by decide +kernel
theorem dX4_passOne_80 : decode cX4_passOne 80 = .ok (.iload_n 1, 1) := by decide +kernel
theorem dX4_passOne_81 : decode cX4_passOne 81 = .ok (.iadd, 1) := by decide +kernel
theorem dX4_passOne_82 : decode cX4_passOne 82 = .ok (.putfield 58, 3) := by decide +kernel
theorem dX4_passOne_85 : decode cX4_passOne 85 = .ok (.iload_n 2, 1) := by decide +kernel
theorem dX4_passOne_86 : decode cX4_passOne 86 = .ok (.invokestatic 81, 3) := by decide +kernel
theorem dX4_passOne_89 : decode cX4_passOne 89 = .ok (.ifCond .eq 10, 3) := by decide +kernel
theorem dX4_passOne_92 : decode cX4_passOne 92 = .ok (.aload_n 0, 1) := by decide +kernel
theorem dX4_passOne_93 : decode cX4_passOne 93 = .ok (.invokevirtual 84, 3) := by decide +kernel
theorem dX4_passOne_96 : decode cX4_passOne 96 = .ok (.goto 23, 3) := by decide +kernel
theorem dX4_passOne_99 : decode cX4_passOne 99 = .ok (.aload_n 0, 1) := by decide +kernel
theorem dX4_passOne_100 : decode cX4_passOne 100 = .ok (.dup, 1) := by decide +kernel
theorem dX4_passOne_101 : decode cX4_passOne 101 = .ok (.getfield 46, 3) := by decide +kernel
theorem dX4_passOne_104 : decode cX4_passOne 104 = .ok (.iload_n 1, 1) := by decide +kernel
theorem dX4_passOne_105 : decode cX4_passOne 105 = .ok (.iadd, 1) := by decide +kernel
theorem dX4_passOne_106 : decode cX4_passOne 106 = .ok (.putfield 46, 3) := by decide +kernel
theorem dX4_passOne_109 : decode cX4_passOne 109 = .ok (.aload_n 0, 1) := by decide +kernel
theorem dX4_passOne_110 : decode cX4_passOne 110 = .ok (.dup, 1) := by decide +kernel
theorem dX4_passOne_111 : decode cX4_passOne 111 = .ok (.getfield 55, 3) := by decide +kernel
theorem dX4_passOne_114 : decode cX4_passOne 114 = .ok (.iload_n 1, 1) := by decide +kernel
theorem dX4_passOne_115 : decode cX4_passOne 115 = .ok (.iadd, 1) := by decide +kernel
theorem dX4_passOne_116 : decode cX4_passOne 116 = .ok (.putfield 55, 3) := by decide +kernel
theorem dX4_passOne_119 : decode cX4_passOne 119 = .ok (.return_, 1) := by decide +kernel
theorem dX4_hasClash_0 : decode cX4_hasClash 0 = .ok (.iload_n 0, 1) := by decide +kernel
theorem dX4_hasClash_1 : decode cX4_hasClash 1 = .ok (.iload_n 0, 1) := by decide +kernel
theorem dX4_hasClash_2 : decode cX4_hasClash 2 = .ok (.iconst 1, 1) := by decide +kernel
theorem dX4_hasClash_3 : decode cX4_hasClash 3 = .ok (.invokestatic 87, 3) := by decide +kernel
theorem dX4_hasClash_6 : decode cX4_hasClash 6 = .ok (.iand, 1) := by decide +kernel
theorem dX4_hasClash_7 : decode cX4_hasClash 7 = .ok (.ifCond .ne 14, 3) := by decide +kernel
theorem dX4_hasClash_10 : decode cX4_hasClash 10 = .ok (.iload_n 0, 1) := by decide +kernel
theorem dX4_hasClash_11 : decode cX4_hasClash 11 = .ok (.iload_n 0, 1) := by decide +kernel
theorem dX4_hasClash_12 : decode cX4_hasClash 12 = .ok (.bipush 6, 2) := by decide +kernel
theorem dX4_hasClash_14 : decode cX4_hasClash 14 = .ok (.invokestatic 87, 3) := by decide +kernel
theorem dX4_hasClash_17 : decode cX4_hasClash 17 = .ok (.iand, 1) := by decide +kernel
theorem dX4_hasClash_18 : decode cX4_hasClash 18 = .ok (.ifCond .eq 7, 3) := by decide +kernel
theorem dX4_hasClash_21 : decode cX4_hasClash 21 = .ok (.iconst 1, 1) := by decide +kernel
theorem dX4_hasClash_22 : decode cX4_hasClash 22 = .ok (.goto 4, 3) := by decide +kernel
theorem dX4_hasClash_25 : decode cX4_hasClash 25 = .ok (.iconst 0, 1) := by decide +kernel
theorem dX4_hasClash_26 : decode cX4_hasClash 26 = .ok (.ireturn, 1) := by decide +kernel
theorem dX4_turned_0 : decode cX4_turned 0 = .ok (.iload_n 0, 1) := by decide +kernel
theorem dX4_turned_1 : decode cX4_turned 1 = .ok (.iload_n 1, 1) := by decide +kernel
theorem dX4_turned_2 : decode cX4_turned 2 = .ok (.ishl, 1) := by decide +kernel
theorem dX4_turned_3 : decode cX4_turned 3 = .ok (.iload_n 0, 1) := by decide +kernel
theorem dX4_turned_4 : decode cX4_turned 4 = .ok (.bipush 12, 2) := by decide +kernel
theorem dX4_turned_6 : decode cX4_turned 6 = .ok (.iload_n 1, 1) := by decide +kernel
theorem dX4_turned_7 : decode cX4_turned 7 = .ok (.isub, 1) := by decide +kernel
theorem dX4_turned_8 : decode cX4_turned 8 = .ok (.iushr, 1) := by decide +kernel
theorem dX4_turned_9 : decode cX4_turned 9 = .ok (.ior, 1) := by decide +kernel
theorem dX4_turned_10 : decode cX4_turned 10 = .ok (.sipush 4095, 3) := by decide +kernel
theorem dX4_turned_13 : decode cX4_turned 13 = .ok (.iand, 1) := by decide +kernel
theorem dX4_turned_14 : decode cX4_turned 14 = .ok (.ireturn, 1) := by decide +kernel
theorem dX4_keepSpoiltBeat_0 : decode cX4_keepSpoiltBeat 0 = .ok (.bipush 9, 2) := by decide +kernel
theorem dX4_keepSpoiltBeat_2 : decode cX4_keepSpoiltBeat 2 = .ok (.istore_n 1, 1) := by decide +kernel
theorem dX4_keepSpoiltBeat_3 : decode cX4_keepSpoiltBeat 3 = .ok (.iload_n 1, 1) := by decide +kernel
theorem dX4_keepSpoiltBeat_4 : decode cX4_keepSpoiltBeat 4 = .ok (.ifCond .le 23, 3) := by decide +kernel
theorem dX4_keepSpoiltBeat_7 : decode cX4_keepSpoiltBeat 7 = .ok (.aload_n 0, 1) := by decide +kernel
theorem dX4_keepSpoiltBeat_8 : decode cX4_keepSpoiltBeat 8 = .ok (.getfield 33, 3) := by decide +kernel
theorem dX4_keepSpoiltBeat_11 : decode cX4_keepSpoiltBeat 11 = .ok (.iload_n 1, 1) := by decide +kernel
theorem dX4_keepSpoiltBeat_12 : decode cX4_keepSpoiltBeat 12 = .ok (.aload_n 0, 1) := by decide +kernel
theorem dX4_keepSpoiltBeat_13 : decode cX4_keepSpoiltBeat 13 = .ok (.getfield 33, 3) := by decide +kernel
theorem dX4_keepSpoiltBeat_16 : decode cX4_keepSpoiltBeat 16 = .ok (.iload_n 1, 1) := by decide +kernel
theorem dX4_keepSpoiltBeat_17 : decode cX4_keepSpoiltBeat 17 = .ok (.iconst 1, 1) := by decide +kernel
theorem dX4_keepSpoiltBeat_18 : decode cX4_keepSpoiltBeat 18 = .ok (.isub, 1) := by decide +kernel
theorem dX4_keepSpoiltBeat_19 : decode cX4_keepSpoiltBeat 19 = .ok (.iaload, 1) := by decide +kernel
theorem dX4_keepSpoiltBeat_20 : decode cX4_keepSpoiltBeat 20 = .ok (.iastore, 1) := by decide +kernel
theorem dX4_keepSpoiltBeat_21 : decode cX4_keepSpoiltBeat 21 = .ok (.iinc 1 (-1), 3) := by decide +kernel
theorem dX4_keepSpoiltBeat_24 : decode cX4_keepSpoiltBeat 24 = .ok (.goto (-21), 3) := by decide +kernel
theorem dX4_keepSpoiltBeat_27 : decode cX4_keepSpoiltBeat 27 = .ok (.aload_n 0, 1) := by decide +kernel
theorem dX4_keepSpoiltBeat_28 : decode cX4_keepSpoiltBeat 28 = .ok (.getfield 33, 3) := by decide +kernel
theorem dX4_keepSpoiltBeat_31 : decode cX4_keepSpoiltBeat 31 = .ok (.iconst 0, 1) := by decide +kernel
theorem dX4_keepSpoiltBeat_32 : decode cX4_keepSpoiltBeat 32 = .ok (.aload_n 0, 1) := by decide +kernel
theorem dX4_keepSpoiltBeat_33 : decode cX4_keepSpoiltBeat 33 = .ok (.getfield 43, 3) := by decide +kernel
theorem dX4_keepSpoiltBeat_36 : decode cX4_keepSpoiltBeat 36 = .ok (.iastore, 1) := by decide +kernel
theorem dX4_keepSpoiltBeat_37 : decode cX4_keepSpoiltBeat 37 = .ok (.aload_n 0, 1) := by decide +kernel
theorem dX4_keepSpoiltBeat_38 : decode cX4_keepSpoiltBeat 38 = .ok (.aload_n 0, 1) := by decide +kernel
theorem dX4_keepSpoiltBeat_39 : decode cX4_keepSpoiltBeat 39 = .ok (.getfield 40, 3) := by decide +kernel
theorem dX4_keepSpoiltBeat_42 : decode cX4_keepSpoiltBeat 42 = .ok (.iconst 1, 1) := by decide +kernel
theorem dX4_keepSpoiltBeat_43 : decode cX4_keepSpoiltBeat 43 = .ok (.iadd, 1) := by decide +kernel
theorem dX4_keepSpoiltBeat_44 : decode cX4_keepSpoiltBeat 44 = .ok (.bipush 10, 2) := by decide +kernel
theorem dX4_keepSpoiltBeat_46 : decode cX4_keepSpoiltBeat 46 = .ok (.invokestatic 91, 3) := by decide +kernel
theorem dX4_keepSpoiltBeat_49 : decode cX4_keepSpoiltBeat 49 = .ok (.putfield 40, 3) := by decide +kernel
theorem dX4_keepSpoiltBeat_52 : decode cX4_keepSpoiltBeat 52 = .ok (.return_, 1) := by decide +kernel
theorem dX4_isDue_0 : decode cX4_isDue 0 = .ok (.aload_n 0, 1) := by decide +kernel
theorem dX4_isDue_1 : decode cX4_isDue 1 = .ok (.getfield 15, 3) := by decide +kernel
theorem dX4_isDue_4 : decode cX4_isDue 4 = .ok (.iload_n 1, 1) := by decide +kernel
theorem dX4_isDue_5 : decode cX4_isDue 5 = .ok (.iaload, 1) := by decide +kernel
theorem dX4_isDue_6 : decode cX4_isDue 6 = .ok (.istore_n 3, 1) := by decide +kernel
theorem dX4_isDue_7 : decode cX4_isDue 7 = .ok (.iload_n 3, 1) := by decide +kernel
theorem dX4_isDue_8 : decode cX4_isDue 8 = .ok (.ifCond .le 20, 3) := by decide +kernel
theorem dX4_isDue_11 : decode cX4_isDue 11 = .ok (.iload_n 2, 1) := by decide +kernel
theorem dX4_isDue_12 : decode cX4_isDue 12 = .ok (.aload_n 0, 1) := by decide +kernel
theorem dX4_isDue_13 : decode cX4_isDue 13 = .ok (.getfield 18, 3) := by decide +kernel
theorem dX4_isDue_16 : decode cX4_isDue 16 = .ok (.iload_n 1, 1) := by decide +kernel
theorem dX4_isDue_17 : decode cX4_isDue 17 = .ok (.iaload, 1) := by decide +kernel
theorem dX4_isDue_18 : decode cX4_isDue 18 = .ok (.isub, 1) := by decide +kernel
theorem dX4_isDue_19 : decode cX4_isDue 19 = .ok (.iload_n 3, 1) := by decide +kernel
theorem dX4_isDue_20 : decode cX4_isDue 20 = .ok (.irem, 1) := by decide +kernel
theorem dX4_isDue_21 : decode cX4_isDue 21 = .ok (.ifCond .ne 7, 3) := by decide +kernel
theorem dX4_isDue_24 : decode cX4_isDue 24 = .ok (.iconst 1, 1) := by decide +kernel
theorem dX4_isDue_25 : decode cX4_isDue 25 = .ok (.goto 4, 3) := by decide +kernel
theorem dX4_isDue_28 : decode cX4_isDue 28 = .ok (.iconst 0, 1) := by decide +kernel
theorem dX4_isDue_29 : decode cX4_isDue 29 = .ok (.ireturn, 1) := by decide +kernel
theorem dX4_isChorus_0 : decode cX4_isChorus 0 = .ok (.iconst 0, 1) := by decide +kernel
theorem dX4_isChorus_1 : decode cX4_isChorus 1 = .ok (.istore_n 2, 1) := by decide +kernel
theorem dX4_isChorus_2 : decode cX4_isChorus 2 = .ok (.iload_n 2, 1) := by decide +kernel
theorem dX4_isChorus_3 : decode cX4_isChorus 3 = .ok (.aload_n 0, 1) := by decide +kernel
theorem dX4_isChorus_4 : decode cX4_isChorus 4 = .ok (.getfield 36, 3) := by decide +kernel
theorem dX4_isChorus_7 : decode cX4_isChorus 7 = .ok (.if_icmp .ge 20, 3) := by decide +kernel
theorem dX4_isChorus_10 : decode cX4_isChorus 10 = .ok (.aload_n 0, 1) := by decide +kernel
theorem dX4_isChorus_11 : decode cX4_isChorus 11 = .ok (.iload_n 2, 1) := by decide +kernel
theorem dX4_isChorus_12 : decode cX4_isChorus 12 = .ok (.iload_n 1, 1) := by decide +kernel
theorem dX4_isChorus_13 : decode cX4_isChorus 13 = .ok (.invokevirtual 77, 3) := by decide +kernel
theorem dX4_isChorus_16 : decode cX4_isChorus 16 = .ok (.ifCond .ne 5, 3) := by decide +kernel
theorem dX4_isChorus_19 : decode cX4_isChorus 19 = .ok (.iconst 0, 1) := by decide +kernel
theorem dX4_isChorus_20 : decode cX4_isChorus 20 = .ok (.ireturn, 1) := by decide +kernel
theorem dX4_isChorus_21 : decode cX4_isChorus 21 = .ok (.iinc 2 1, 3) := by decide +kernel
theorem dX4_isChorus_24 : decode cX4_isChorus 24 = .ok (.goto (-22), 3) := by decide +kernel
theorem dX4_isChorus_27 : decode cX4_isChorus 27 = .ok (.aload_n 0, 1) := by decide +kernel
theorem dX4_isChorus_28 : decode cX4_isChorus 28 = .ok (.getfield 36, 3) := by decide +kernel
theorem dX4_isChorus_31 : decode cX4_isChorus 31 = .ok (.ifCond .le 7, 3) := by decide +kernel
theorem dX4_isChorus_34 : decode cX4_isChorus 34 = .ok (.iconst 1, 1) := by decide +kernel
theorem dX4_isChorus_35 : decode cX4_isChorus 35 = .ok (.goto 4, 3) := by decide +kernel
theorem dX4_isChorus_38 : decode cX4_isChorus 38 = .ok (.iconst 0, 1) := by decide +kernel
theorem dX4_isChorus_39 : decode cX4_isChorus 39 = .ok (.ireturn, 1) := by decide +kernel
theorem dX4_dueByLooking_0 : decode cX4_dueByLooking 0 = .ok (.lconst 0, 1) := by decide +kernel
theorem dX4_dueByLooking_1 : decode cX4_dueByLooking 1 = .ok (.lstore_n 2, 1) := by decide +kernel
theorem dX4_dueByLooking_2 : decode cX4_dueByLooking 2 = .ok (.iconst 0, 1) := by decide +kernel
theorem dX4_dueByLooking_3 : decode cX4_dueByLooking 3 = .ok (.istore 4, 2) := by decide +kernel
theorem dX4_dueByLooking_5 : decode cX4_dueByLooking 5 = .ok (.iload 4, 2) := by decide +kernel
theorem dX4_dueByLooking_7 : decode cX4_dueByLooking 7 = .ok (.bipush 60, 2) := by decide +kernel
theorem dX4_dueByLooking_9 : decode cX4_dueByLooking 9 = .ok (.if_icmp .ge 33, 3) := by decide +kernel
theorem dX4_dueByLooking_12 : decode cX4_dueByLooking 12 = .ok (.aload_n 0, 1) := by decide +kernel
theorem dX4_dueByLooking_13 : decode cX4_dueByLooking 13 = .ok (.iload_n 1, 1) := by decide +kernel
theorem dX4_dueByLooking_14 : decode cX4_dueByLooking 14 = .ok (.aload_n 0, 1) := by decide +kernel
theorem dX4_dueByLooking_15 : decode cX4_dueByLooking 15 = .ok (.getfield 43, 3) := by decide +kernel
theorem dX4_dueByLooking_18 : decode cX4_dueByLooking 18 = .ok (.iconst 1, 1) := by decide +kernel
theorem dX4_dueByLooking_19 : decode cX4_dueByLooking 19 = .ok (.iadd, 1) := by decide +kernel
theorem dX4_dueByLooking_20 : decode cX4_dueByLooking 20 = .ok (.iload 4, 2) := by decide +kernel
theorem dX4_dueByLooking_22 : decode cX4_dueByLooking 22 = .ok (.iadd, 1) := by decide +kernel
theorem dX4_dueByLooking_23 : decode cX4_dueByLooking 23 = .ok (.invokevirtual 77, 3) := by decide +kernel
theorem dX4_dueByLooking_26 : decode cX4_dueByLooking 26 = .ok (.ifCond .eq 10, 3) := by decide +kernel
theorem dX4_dueByLooking_29 : decode cX4_dueByLooking 29 = .ok (.lload_n 2, 1) := by decide +kernel
theorem dX4_dueByLooking_30 : decode cX4_dueByLooking 30 = .ok (.lconst 1, 1) := by decide +kernel
theorem dX4_dueByLooking_31 : decode cX4_dueByLooking 31 = .ok (.iload 4, 2) := by decide +kernel
theorem dX4_dueByLooking_33 : decode cX4_dueByLooking 33 = .ok (.lshl, 1) := by decide +kernel
theorem dX4_dueByLooking_34 : decode cX4_dueByLooking 34 = .ok (.lor, 1) := by decide +kernel
theorem dX4_dueByLooking_35 : decode cX4_dueByLooking 35 = .ok (.lstore_n 2, 1) := by decide +kernel
theorem dX4_dueByLooking_36 : decode cX4_dueByLooking 36 = .ok (.iinc 4 1, 3) := by decide +kernel
theorem dX4_dueByLooking_39 : decode cX4_dueByLooking 39 = .ok (.goto (-34), 3) := by decide +kernel
theorem dX4_dueByLooking_42 : decode cX4_dueByLooking 42 = .ok (.lload_n 2, 1) := by decide +kernel
theorem dX4_dueByLooking_43 : decode cX4_dueByLooking 43 = .ok (.lreturn, 1) := by decide +kernel
theorem dX4_dueByPattern_0 : decode cX4_dueByPattern 0 = .ok (.aload_n 0, 1) := by decide +kernel
theorem dX4_dueByPattern_1 : decode cX4_dueByPattern 1 = .ok (.getfield 15, 3) := by decide +kernel
theorem dX4_dueByPattern_4 : decode cX4_dueByPattern 4 = .ok (.iload_n 1, 1) := by decide +kernel
theorem dX4_dueByPattern_5 : decode cX4_dueByPattern 5 = .ok (.iaload, 1) := by decide +kernel
theorem dX4_dueByPattern_6 : decode cX4_dueByPattern 6 = .ok (.istore_n 2, 1) := by decide +kernel
theorem dX4_dueByPattern_7 : decode cX4_dueByPattern 7 = .ok (.iload_n 2, 1) := by decide +kernel
theorem dX4_dueByPattern_8 : decode cX4_dueByPattern 8 = .ok (.ifCond .gt 5, 3) := by decide +kernel
theorem dX4_dueByPattern_11 : decode cX4_dueByPattern 11 = .ok (.lconst 0, 1) := by decide +kernel
theorem dX4_dueByPattern_12 : decode cX4_dueByPattern 12 = .ok (.lreturn, 1) := by decide +kernel
theorem dX4_dueByPattern_13 : decode cX4_dueByPattern 13 = .ok (.lconst 1, 1) := by decide +kernel
theorem dX4_dueByPattern_14 : decode cX4_dueByPattern 14 = .ok (.aload_n 0, 1) := by decide +kernel
theorem dX4_dueByPattern_15 : decode cX4_dueByPattern 15 = .ok (.getfield 18, 3) := by decide +kernel
theorem dX4_dueByPattern_18 : decode cX4_dueByPattern 18 = .ok (.iload_n 1, 1) := by decide +kernel
theorem dX4_dueByPattern_19 : decode cX4_dueByPattern 19 = .ok (.iaload, 1) := by decide +kernel
theorem dX4_dueByPattern_20 : decode cX4_dueByPattern 20 = .ok (.aload_n 0, 1) := by decide +kernel
theorem dX4_dueByPattern_21 : decode cX4_dueByPattern 21 = .ok (.getfield 43, 3) := by decide +kernel
theorem dX4_dueByPattern_24 : decode cX4_dueByPattern 24 = .ok (.isub, 1) := by decide +kernel
theorem dX4_dueByPattern_25 : decode cX4_dueByPattern 25 = .ok (.iconst 1, 1) := by decide +kernel
theorem dX4_dueByPattern_26 : decode cX4_dueByPattern 26 = .ok (.isub, 1) := by decide +kernel
theorem dX4_dueByPattern_27 : decode cX4_dueByPattern 27 = .ok (.iload_n 2, 1) := by decide +kernel
theorem dX4_dueByPattern_28 : decode cX4_dueByPattern 28 = .ok (.invokestatic 96, 3) := by decide +kernel
theorem dX4_dueByPattern_31 : decode cX4_dueByPattern 31 = .ok (.lshl, 1) := by decide +kernel
theorem dX4_dueByPattern_32 : decode cX4_dueByPattern 32 = .ok (.lstore_n 3, 1) := by decide +kernel
theorem dX4_dueByPattern_33 : decode cX4_dueByPattern 33 = .ok (.iconst 0, 1) := by decide +kernel
theorem dX4_dueByPattern_34 : decode cX4_dueByPattern 34 = .ok (.istore 5, 2) := by decide +kernel
theorem dX4_dueByPattern_36 : decode cX4_dueByPattern 36 = .ok (.iload 5, 2) := by decide +kernel
theorem dX4_dueByPattern_38 : decode cX4_dueByPattern 38 = .ok (.iconst 5, 1) := by decide +kernel
theorem dX4_dueByPattern_39 : decode cX4_dueByPattern 39 = .ok (.if_icmp .ge 25, 3) := by decide +kernel
theorem dX4_dueByPattern_42 : decode cX4_dueByPattern 42 = .ok (.iload_n 2, 1) := by decide +kernel
theorem dX4_dueByPattern_43 : decode cX4_dueByPattern 43 = .ok (.bipush 60, 2) := by decide +kernel
theorem dX4_dueByPattern_45 : decode cX4_dueByPattern 45 = .ok (.if_icmp .ge 19, 3) := by decide +kernel
theorem dX4_dueByPattern_48 : decode cX4_dueByPattern 48 = .ok (.lload_n 3, 1) := by decide +kernel
theorem dX4_dueByPattern_49 : decode cX4_dueByPattern 49 = .ok (.lload_n 3, 1) := by decide +kernel
theorem dX4_dueByPattern_50 : decode cX4_dueByPattern 50 = .ok (.iload_n 2, 1) := by decide +kernel
theorem dX4_dueByPattern_51 : decode cX4_dueByPattern 51 = .ok (.lshl, 1) := by decide +kernel
theorem dX4_dueByPattern_52 : decode cX4_dueByPattern 52 = .ok (.lor, 1) := by decide +kernel
theorem dX4_dueByPattern_53 : decode cX4_dueByPattern 53 = .ok (.lstore_n 3, 1) := by decide +kernel
theorem dX4_dueByPattern_54 : decode cX4_dueByPattern 54 = .ok (.iload_n 2, 1) := by decide +kernel
theorem dX4_dueByPattern_55 : decode cX4_dueByPattern 55 = .ok (.iconst 2, 1) := by decide +kernel
theorem dX4_dueByPattern_56 : decode cX4_dueByPattern 56 = .ok (.imul, 1) := by decide +kernel
theorem dX4_dueByPattern_57 : decode cX4_dueByPattern 57 = .ok (.istore_n 2, 1) := by decide +kernel
theorem dX4_dueByPattern_58 : decode cX4_dueByPattern 58 = .ok (.iinc 5 1, 3) := by decide +kernel
theorem dX4_dueByPattern_61 : decode cX4_dueByPattern 61 = .ok (.goto (-25), 3) := by decide +kernel
theorem dX4_dueByPattern_64 : decode cX4_dueByPattern 64 = .ok (.lload_n 3, 1) := by decide +kernel
theorem dX4_dueByPattern_65 : decode cX4_dueByPattern 65 = .ok (.ldc2_w 99, 3) := by decide +kernel
theorem dX4_dueByPattern_68 : decode cX4_dueByPattern 68 = .ok (.land, 1) := by decide +kernel
theorem dX4_dueByPattern_69 : decode cX4_dueByPattern 69 = .ok (.lreturn, 1) := by decide +kernel
theorem dX4_faultOfQuarter_0 : decode cX4_faultOfQuarter 0 = .ok (.aload_n 0, 1) := by decide +kernel
theorem dX4_faultOfQuarter_1 : decode cX4_faultOfQuarter 1 = .ok (.getfield 36, 3) := by decide +kernel
theorem dX4_faultOfQuarter_4 : decode cX4_faultOfQuarter 4 = .ok (.ifCond .ne 7, 3) := by decide +kernel
theorem dX4_faultOfQuarter_7 : decode cX4_faultOfQuarter 7 = .ok (.iconst 3, 1) := by decide +kernel
theorem dX4_faultOfQuarter_8 : decode cX4_faultOfQuarter 8 = .ok (.goto 4, 3) := by decide +kernel
theorem dX4_faultOfQuarter_11 : decode cX4_faultOfQuarter 11 = .ok (.iconst 0, 1) := by decide +kernel
theorem dX4_faultOfQuarter_12 : decode cX4_faultOfQuarter 12 = .ok (.ireturn, 1) := by decide +kernel
theorem dX4_faultOfMotion_0 : decode cX4_faultOfMotion 0 = .ok (.iload_n 1, 1) := by decide +kernel
theorem dX4_faultOfMotion_1 : decode cX4_faultOfMotion 1 = .ok (.invokestatic 67, 3) := by decide +kernel
theorem dX4_faultOfMotion_4 : decode cX4_faultOfMotion 4 = .ok (.ifCond .eq 17, 3) := by decide +kernel
theorem dX4_faultOfMotion_7 : decode cX4_faultOfMotion 7 = .ok (.iload_n 2, 1) := by decide +kernel
theorem dX4_faultOfMotion_8 : decode cX4_faultOfMotion 8 = .ok (.ifCond .lt 13, 3) := by decide +kernel
theorem dX4_faultOfMotion_11 : decode cX4_faultOfMotion 11 = .ok (.iload_n 2, 1) := by decide +kernel
theorem dX4_faultOfMotion_12 : decode cX4_faultOfMotion 12 = .ok (.bipush 6, 2) := by decide +kernel
theorem dX4_faultOfMotion_14 : decode cX4_faultOfMotion 14 = .ok (.if_icmp .gt 7, 3) := by decide +kernel
theorem dX4_faultOfMotion_17 : decode cX4_faultOfMotion 17 = .ok (.iconst 0, 1) := by decide +kernel
theorem dX4_faultOfMotion_18 : decode cX4_faultOfMotion 18 = .ok (.goto 4, 3) := by decide +kernel
theorem dX4_faultOfMotion_21 : decode cX4_faultOfMotion 21 = .ok (.iconst 2, 1) := by decide +kernel
theorem dX4_faultOfMotion_22 : decode cX4_faultOfMotion 22 = .ok (.ireturn, 1) := by decide +kernel
theorem dX4_decide_0 : decode cX4_decide 0 = .ok (.aload_n 0, 1) := by decide +kernel
theorem dX4_decide_1 : decode cX4_decide 1 = .ok (.iload_n 1, 1) := by decide +kernel
theorem dX4_decide_2 : decode cX4_decide 2 = .ok (.iload_n 2, 1) := by decide +kernel
theorem dX4_decide_3 : decode cX4_decide 3 = .ok (.invokevirtual 101, 3) := by decide +kernel
theorem dX4_decide_6 : decode cX4_decide 6 = .ok (.aload_n 0, 1) := by decide +kernel
theorem dX4_decide_7 : decode cX4_decide 7 = .ok (.invokevirtual 104, 3) := by decide +kernel
theorem dX4_decide_10 : decode cX4_decide 10 = .ok (.if_icmp .ge 5, 3) := by decide +kernel
theorem dX4_decide_13 : decode cX4_decide 13 = .ok (.iconst 0, 1) := by decide +kernel
theorem dX4_decide_14 : decode cX4_decide 14 = .ok (.ireturn, 1) := by decide +kernel
theorem dX4_decide_15 : decode cX4_decide 15 = .ok (.aload_n 0, 1) := by decide +kernel
theorem dX4_decide_16 : decode cX4_decide 16 = .ok (.iload_n 1, 1) := by decide +kernel
theorem dX4_decide_17 : decode cX4_decide 17 = .ok (.putfield 49, 3) := by decide +kernel
theorem dX4_decide_20 : decode cX4_decide 20 = .ok (.iconst 0, 1) := by decide +kernel
theorem dX4_decide_21 : decode cX4_decide 21 = .ok (.istore_n 3, 1) := by decide +kernel
theorem dX4_decide_22 : decode cX4_decide 22 = .ok (.iload_n 3, 1) := by decide +kernel
theorem dX4_decide_23 : decode cX4_decide 23 = .ok (.aload_n 0, 1) := by decide +kernel
theorem dX4_decide_24 : decode cX4_decide 24 = .ok (.getfield 36, 3) := by decide +kernel
theorem dX4_decide_27 : decode cX4_decide 27 = .ok (.if_icmp .ge 29, 3) := by decide +kernel
theorem dX4_decide_30 : decode cX4_decide 30 = .ok (.aload_n 0, 1) := by decide +kernel
theorem dX4_decide_31 : decode cX4_decide 31 = .ok (.iload_n 3, 1) := by decide +kernel
theorem dX4_decide_32 : decode cX4_decide 32 = .ok (.iload_n 1, 1) := by decide +kernel
theorem dX4_decide_33 : decode cX4_decide 33 = .ok (.iload_n 2, 1) := by decide +kernel
theorem dX4_decide_34 : decode cX4_decide 34 = .ok (.invokevirtual 108, 3) := by decide +kernel
theorem dX4_decide_37 : decode cX4_decide 37 = .ok (.ifCond .ne 13, 3) := by decide +kernel
theorem dX4_decide_40 : decode cX4_decide 40 = .ok (.aload_n 0, 1) := by decide +kernel
theorem dX4_decide_41 : decode cX4_decide 41 = .ok (.getfield 30, 3) := by decide +kernel
theorem dX4_decide_44 : decode cX4_decide 44 = .ok (.iload_n 3, 1) := by decide +kernel
theorem dX4_decide_45 : decode cX4_decide 45 = .ok (.dup2, 1) := by decide +kernel
theorem dX4_decide_46 : decode cX4_decide 46 = .ok (.iaload, 1) := by decide +kernel
theorem dX4_decide_47 : decode cX4_decide 47 = .ok (.iconst 1, 1) := by decide +kernel
theorem dX4_decide_48 : decode cX4_decide 48 = .ok (.iadd, 1) := by decide +kernel
theorem dX4_decide_49 : decode cX4_decide 49 = .ok (.iastore, 1) := by decide +kernel
theorem dX4_decide_50 : decode cX4_decide 50 = .ok (.iinc 3 1, 3) := by decide +kernel
theorem dX4_decide_53 : decode cX4_decide 53 = .ok (.goto (-31), 3) := by decide +kernel
theorem dX4_decide_56 : decode cX4_decide 56 = .ok (.iconst 1, 1) := by decide +kernel
theorem dX4_decide_57 : decode cX4_decide 57 = .ok (.ireturn, 1) := by decide +kernel
theorem dX4_sharesFor_0 : decode cX4_sharesFor 0 = .ok (.iconst 0, 1) := by decide +kernel
theorem dX4_sharesFor_1 : decode cX4_sharesFor 1 = .ok (.istore_n 3, 1) := by decide +kernel
theorem dX4_sharesFor_2 : decode cX4_sharesFor 2 = .ok (.iconst 0, 1) := by decide +kernel
theorem dX4_sharesFor_3 : decode cX4_sharesFor 3 = .ok (.istore 4, 2) := by decide +kernel
theorem dX4_sharesFor_5 : decode cX4_sharesFor 5 = .ok (.iload 4, 2) := by decide +kernel
theorem dX4_sharesFor_7 : decode cX4_sharesFor 7 = .ok (.aload_n 0, 1) := by decide +kernel
theorem dX4_sharesFor_8 : decode cX4_sharesFor 8 = .ok (.getfield 36, 3) := by decide +kernel
theorem dX4_sharesFor_11 : decode cX4_sharesFor 11 = .ok (.if_icmp .ge 30, 3) := by decide +kernel
theorem dX4_sharesFor_14 : decode cX4_sharesFor 14 = .ok (.aload_n 0, 1) := by decide +kernel
theorem dX4_sharesFor_15 : decode cX4_sharesFor 15 = .ok (.iload 4, 2) := by decide +kernel
theorem dX4_sharesFor_17 : decode cX4_sharesFor 17 = .ok (.iload_n 1, 1) := by decide +kernel
theorem dX4_sharesFor_18 : decode cX4_sharesFor 18 = .ok (.iload_n 2, 1) := by decide +kernel
theorem dX4_sharesFor_19 : decode cX4_sharesFor 19 = .ok (.invokevirtual 108, 3) := by decide +kernel
theorem dX4_sharesFor_22 : decode cX4_sharesFor 22 = .ok (.ifCond .eq 13, 3) := by decide +kernel
theorem dX4_sharesFor_25 : decode cX4_sharesFor 25 = .ok (.iload_n 3, 1) := by decide +kernel
theorem dX4_sharesFor_26 : decode cX4_sharesFor 26 = .ok (.aload_n 0, 1) := by decide +kernel
theorem dX4_sharesFor_27 : decode cX4_sharesFor 27 = .ok (.getfield 9, 3) := by decide +kernel
theorem dX4_sharesFor_30 : decode cX4_sharesFor 30 = .ok (.iload 4, 2) := by decide +kernel
theorem dX4_sharesFor_32 : decode cX4_sharesFor 32 = .ok (.iaload, 1) := by decide +kernel
theorem dX4_sharesFor_33 : decode cX4_sharesFor 33 = .ok (.iadd, 1) := by decide +kernel
theorem dX4_sharesFor_34 : decode cX4_sharesFor 34 = .ok (.istore_n 3, 1) := by decide +kernel
theorem dX4_sharesFor_35 : decode cX4_sharesFor 35 = .ok (.iinc 4 1, 3) := by decide +kernel
theorem dX4_sharesFor_38 : decode cX4_sharesFor 38 = .ok (.goto (-33), 3) := by decide +kernel
theorem dX4_sharesFor_41 : decode cX4_sharesFor 41 = .ok (.iload_n 3, 1) := by decide +kernel
theorem dX4_sharesFor_42 : decode cX4_sharesFor 42 = .ok (.ireturn, 1) := by decide +kernel
theorem dX4_isInFavour_0 : decode cX4_isInFavour 0 = .ok (.aload_n 0, 1) := by decide +kernel
theorem dX4_isInFavour_1 : decode cX4_isInFavour 1 = .ok (.getfield 21, 3) := by decide +kernel
theorem dX4_isInFavour_4 : decode cX4_isInFavour 4 = .ok (.iload_n 1, 1) := by decide +kernel
theorem dX4_isInFavour_5 : decode cX4_isInFavour 5 = .ok (.iaload, 1) := by decide +kernel
theorem dX4_isInFavour_6 : decode cX4_isInFavour 6 = .ok (.iload_n 2, 1) := by decide +kernel
theorem dX4_isInFavour_7 : decode cX4_isInFavour 7 = .ok (.invokestatic 112, 3) := by decide +kernel
theorem dX4_isInFavour_10 : decode cX4_isInFavour 10 = .ok (.iload_n 3, 1) := by decide +kernel
theorem dX4_isInFavour_11 : decode cX4_isInFavour 11 = .ok (.if_icmp .gt 7, 3) := by decide +kernel
theorem dX4_isInFavour_14 : decode cX4_isInFavour 14 = .ok (.iconst 1, 1) := by decide +kernel
theorem dX4_isInFavour_15 : decode cX4_isInFavour 15 = .ok (.goto 4, 3) := by decide +kernel
theorem dX4_isInFavour_18 : decode cX4_isInFavour 18 = .ok (.iconst 0, 1) := by decide +kernel
theorem dX4_isInFavour_19 : decode cX4_isInFavour 19 = .ok (.ireturn, 1) := by decide +kernel
theorem dX4_isTone_0 : decode cX4_isTone 0 = .ok (.iload_n 0, 1) := by decide +kernel
theorem dX4_isTone_1 : decode cX4_isTone 1 = .ok (.ifCond .lt 13, 3) := by decide +kernel
theorem dX4_isTone_4 : decode cX4_isTone 4 = .ok (.iload_n 0, 1) := by decide +kernel
theorem dX4_isTone_5 : decode cX4_isTone 5 = .ok (.bipush 12, 2) := by decide +kernel
theorem dX4_isTone_7 : decode cX4_isTone 7 = .ok (.if_icmp .ge 7, 3) := by decide +kernel
theorem dX4_isTone_10 : decode cX4_isTone 10 = .ok (.iconst 1, 1) := by decide +kernel
theorem dX4_isTone_11 : decode cX4_isTone 11 = .ok (.goto 4, 3) := by decide +kernel
theorem dX4_isTone_14 : decode cX4_isTone 14 = .ok (.iconst 0, 1) := by decide +kernel
theorem dX4_isTone_15 : decode cX4_isTone 15 = .ok (.ireturn, 1) := by decide +kernel
theorem dX4_neededShares_0 : decode cX4_neededShares 0 = .ok (.aload_n 0, 1) := by decide +kernel
theorem dX4_neededShares_1 : decode cX4_neededShares 1 = .ok (.invokevirtual 115, 3) := by decide +kernel
theorem dX4_neededShares_4 : decode cX4_neededShares 4 = .ok (.iconst 2, 1) := by decide +kernel
theorem dX4_neededShares_5 : decode cX4_neededShares 5 = .ok (.idiv, 1) := by decide +kernel
theorem dX4_neededShares_6 : decode cX4_neededShares 6 = .ok (.iconst 1, 1) := by decide +kernel
theorem dX4_neededShares_7 : decode cX4_neededShares 7 = .ok (.iadd, 1) := by decide +kernel
theorem dX4_neededShares_8 : decode cX4_neededShares 8 = .ok (.ireturn, 1) := by decide +kernel
theorem dX4_allShares_0 : decode cX4_allShares 0 = .ok (.iconst 0, 1) := by decide +kernel
theorem dX4_allShares_1 : decode cX4_allShares 1 = .ok (.istore_n 1, 1) := by decide +kernel
theorem dX4_allShares_2 : decode cX4_allShares 2 = .ok (.iconst 0, 1) := by decide +kernel
theorem dX4_allShares_3 : decode cX4_allShares 3 = .ok (.istore_n 2, 1) := by decide +kernel
theorem dX4_allShares_4 : decode cX4_allShares 4 = .ok (.iload_n 2, 1) := by decide +kernel
theorem dX4_allShares_5 : decode cX4_allShares 5 = .ok (.aload_n 0, 1) := by decide +kernel
theorem dX4_allShares_6 : decode cX4_allShares 6 = .ok (.getfield 36, 3) := by decide +kernel
theorem dX4_allShares_9 : decode cX4_allShares 9 = .ok (.if_icmp .ge 18, 3) := by decide +kernel
theorem dX4_allShares_12 : decode cX4_allShares 12 = .ok (.iload_n 1, 1) := by decide +kernel
theorem dX4_allShares_13 : decode cX4_allShares 13 = .ok (.aload_n 0, 1) := by decide +kernel
theorem dX4_allShares_14 : decode cX4_allShares 14 = .ok (.getfield 9, 3) := by decide +kernel
theorem dX4_allShares_17 : decode cX4_allShares 17 = .ok (.iload_n 2, 1) := by decide +kernel
theorem dX4_allShares_18 : decode cX4_allShares 18 = .ok (.iaload, 1) := by decide +kernel
theorem dX4_allShares_19 : decode cX4_allShares 19 = .ok (.iadd, 1) := by decide +kernel
theorem dX4_allShares_20 : decode cX4_allShares 20 = .ok (.istore_n 1, 1) := by decide +kernel
theorem dX4_allShares_21 : decode cX4_allShares 21 = .ok (.iinc 2 1, 3) := by decide +kernel
theorem dX4_allShares_24 : decode cX4_allShares 24 = .ok (.goto (-20), 3) := by decide +kernel
theorem dX4_allShares_27 : decode cX4_allShares 27 = .ok (.iload_n 1, 1) := by decide +kernel
theorem dX4_allShares_28 : decode cX4_allShares 28 = .ok (.ireturn, 1) := by decide +kernel
theorem dX4_coinsInPurses_0 : decode cX4_coinsInPurses 0 = .ok (.iconst 0, 1) := by decide +kernel
theorem dX4_coinsInPurses_1 : decode cX4_coinsInPurses 1 = .ok (.istore_n 1, 1) := by decide +kernel
theorem dX4_coinsInPurses_2 : decode cX4_coinsInPurses 2 = .ok (.iconst 0, 1) := by decide +kernel
theorem dX4_coinsInPurses_3 : decode cX4_coinsInPurses 3 = .ok (.istore_n 2, 1) := by decide +kernel
theorem dX4_coinsInPurses_4 : decode cX4_coinsInPurses 4 = .ok (.iload_n 2, 1) := by decide +kernel
theorem dX4_coinsInPurses_5 : decode cX4_coinsInPurses 5 = .ok (.aload_n 0, 1) := by decide +kernel
theorem dX4_coinsInPurses_6 : decode cX4_coinsInPurses 6 = .ok (.getfield 36, 3) := by decide +kernel
theorem dX4_coinsInPurses_9 : decode cX4_coinsInPurses 9 = .ok (.if_icmp .ge 18, 3) := by decide +kernel
theorem dX4_coinsInPurses_12 : decode cX4_coinsInPurses 12 = .ok (.iload_n 1, 1) := by decide +kernel
theorem dX4_coinsInPurses_13 : decode cX4_coinsInPurses 13 = .ok (.aload_n 0, 1) := by decide +kernel
theorem dX4_coinsInPurses_14 : decode cX4_coinsInPurses 14 = .ok (.getfield 27, 3) := by decide +kernel
theorem dX4_coinsInPurses_17 : decode cX4_coinsInPurses 17 = .ok (.iload_n 2, 1) := by decide +kernel
theorem dX4_coinsInPurses_18 : decode cX4_coinsInPurses 18 = .ok (.iaload, 1) := by decide +kernel
theorem dX4_coinsInPurses_19 : decode cX4_coinsInPurses 19 = .ok (.iadd, 1) := by decide +kernel
theorem dX4_coinsInPurses_20 : decode cX4_coinsInPurses 20 = .ok (.istore_n 1, 1) := by decide +kernel
theorem dX4_coinsInPurses_21 : decode cX4_coinsInPurses 21 = .ok (.iinc 2 1, 3) := by decide +kernel
theorem dX4_coinsInPurses_24 : decode cX4_coinsInPurses 24 = .ok (.goto (-20), 3) := by decide +kernel
theorem dX4_coinsInPurses_27 : decode cX4_coinsInPurses 27 = .ok (.iload_n 1, 1) := by decide +kernel
theorem dX4_coinsInPurses_28 : decode cX4_coinsInPurses 28 = .ok (.ireturn, 1) := by decide +kernel
theorem dX4_membersAhead_0 : decode cX4_membersAhead 0 = .ok (.iconst 0, 1) := by decide +kernel
theorem dX4_membersAhead_1 : decode cX4_membersAhead 1 = .ok (.istore_n 2, 1) := by decide +kernel
theorem dX4_membersAhead_2 : decode cX4_membersAhead 2 = .ok (.iconst 0, 1) := by decide +kernel
theorem dX4_membersAhead_3 : decode cX4_membersAhead 3 = .ok (.istore_n 3, 1) := by decide +kernel
theorem dX4_membersAhead_4 : decode cX4_membersAhead 4 = .ok (.iload_n 3, 1) := by decide +kernel
theorem dX4_membersAhead_5 : decode cX4_membersAhead 5 = .ok (.aload_n 0, 1) := by decide +kernel
theorem dX4_membersAhead_6 : decode cX4_membersAhead 6 = .ok (.getfield 36, 3) := by decide +kernel
theorem dX4_membersAhead_9 : decode cX4_membersAhead 9 = .ok (.if_icmp .ge 21, 3) := by decide +kernel
theorem dX4_membersAhead_12 : decode cX4_membersAhead 12 = .ok (.aload_n 0, 1) := by decide +kernel
theorem dX4_membersAhead_13 : decode cX4_membersAhead 13 = .ok (.iload_n 3, 1) := by decide +kernel
theorem dX4_membersAhead_14 : decode cX4_membersAhead 14 = .ok (.iload_n 1, 1) := by decide +kernel
theorem dX4_membersAhead_15 : decode cX4_membersAhead 15 = .ok (.invokevirtual 118, 3) := by decide +kernel
theorem dX4_membersAhead_18 : decode cX4_membersAhead 18 = .ok (.ifCond .eq 6, 3) := by decide +kernel
theorem dX4_membersAhead_21 : decode cX4_membersAhead 21 = .ok (.iinc 2 1, 3) := by decide +kernel
theorem dX4_membersAhead_24 : decode cX4_membersAhead 24 = .ok (.iinc 3 1, 3) := by decide +kernel
theorem dX4_membersAhead_27 : decode cX4_membersAhead 27 = .ok (.goto (-23), 3) := by decide +kernel
theorem dX4_membersAhead_30 : decode cX4_membersAhead 30 = .ok (.iload_n 2, 1) := by decide +kernel
theorem dX4_membersAhead_31 : decode cX4_membersAhead 31 = .ok (.ireturn, 1) := by decide +kernel
theorem dX4_isAhead_0 : decode cX4_isAhead 0 = .ok (.aload_n 0, 1) := by decide +kernel
theorem dX4_isAhead_1 : decode cX4_isAhead 1 = .ok (.getfield 9, 3) := by decide +kernel
theorem dX4_isAhead_4 : decode cX4_isAhead 4 = .ok (.iload_n 1, 1) := by decide +kernel
theorem dX4_isAhead_5 : decode cX4_isAhead 5 = .ok (.iaload, 1) := by decide +kernel
theorem dX4_isAhead_6 : decode cX4_isAhead 6 = .ok (.aload_n 0, 1) := by decide +kernel
theorem dX4_isAhead_7 : decode cX4_isAhead 7 = .ok (.getfield 9, 3) := by decide +kernel
theorem dX4_isAhead_10 : decode cX4_isAhead 10 = .ok (.iload_n 2, 1) := by decide +kernel
theorem dX4_isAhead_11 : decode cX4_isAhead 11 = .ok (.iaload, 1) := by decide +kernel
theorem dX4_isAhead_12 : decode cX4_isAhead 12 = .ok (.if_icmp .eq 24, 3) := by decide +kernel
theorem dX4_isAhead_15 : decode cX4_isAhead 15 = .ok (.aload_n 0, 1) := by decide +kernel
theorem dX4_isAhead_16 : decode cX4_isAhead 16 = .ok (.getfield 9, 3) := by decide +kernel
theorem dX4_isAhead_19 : decode cX4_isAhead 19 = .ok (.iload_n 1, 1) := by decide +kernel
theorem dX4_isAhead_20 : decode cX4_isAhead 20 = .ok (.iaload, 1) := by decide +kernel
theorem dX4_isAhead_21 : decode cX4_isAhead 21 = .ok (.aload_n 0, 1) := by decide +kernel
theorem dX4_isAhead_22 : decode cX4_isAhead 22 = .ok (.getfield 9, 3) := by decide +kernel
theorem dX4_isAhead_25 : decode cX4_isAhead 25 = .ok (.iload_n 2, 1) := by decide +kernel
theorem dX4_isAhead_26 : decode cX4_isAhead 26 = .ok (.iaload, 1) := by decide +kernel
theorem dX4_isAhead_27 : decode cX4_isAhead 27 = .ok (.if_icmp .le 7, 3) := by decide +kernel
theorem dX4_isAhead_30 : decode cX4_isAhead 30 = .ok (.iconst 1, 1) := by decide +kernel
theorem dX4_isAhead_31 : decode cX4_isAhead 31 = .ok (.goto 4, 3) := by decide +kernel
theorem dX4_isAhead_34 : decode cX4_isAhead 34 = .ok (.iconst 0, 1) := by decide +kernel
theorem dX4_isAhead_35 : decode cX4_isAhead 35 = .ok (.ireturn, 1) := by decide +kernel
theorem dX4_isAhead_36 : decode cX4_isAhead 36 = .ok (.aload_n 0, 1) := by decide +kernel
theorem dX4_isAhead_37 : decode cX4_isAhead 37 = .ok (.getfield 27, 3) := by decide +kernel
theorem dX4_isAhead_40 : decode cX4_isAhead 40 = .ok (.iload_n 1, 1) := by decide +kernel
theorem dX4_isAhead_41 : decode cX4_isAhead 41 = .ok (.iaload, 1) := by decide +kernel
theorem dX4_isAhead_42 : decode cX4_isAhead 42 = .ok (.aload_n 0, 1) := by decide +kernel
theorem dX4_isAhead_43 : decode cX4_isAhead 43 = .ok (.getfield 27, 3) := by decide +kernel
theorem dX4_isAhead_46 : decode cX4_isAhead 46 = .ok (.iload_n 2, 1) := by decide +kernel
theorem dX4_isAhead_47 : decode cX4_isAhead 47 = .ok (.iaload, 1) := by decide +kernel
theorem dX4_isAhead_48 : decode cX4_isAhead 48 = .ok (.if_icmp .eq 24, 3) := by decide +kernel
theorem dX4_isAhead_51 : decode cX4_isAhead 51 = .ok (.aload_n 0, 1) := by decide +kernel
theorem dX4_isAhead_52 : decode cX4_isAhead 52 = .ok (.getfield 27, 3) := by decide +kernel
theorem dX4_isAhead_55 : decode cX4_isAhead 55 = .ok (.iload_n 1, 1) := by decide +kernel
theorem dX4_isAhead_56 : decode cX4_isAhead 56 = .ok (.iaload, 1) := by decide +kernel
theorem dX4_isAhead_57 : decode cX4_isAhead 57 = .ok (.aload_n 0, 1) := by decide +kernel
theorem dX4_isAhead_58 : decode cX4_isAhead 58 = .ok (.getfield 27, 3) := by decide +kernel
theorem dX4_isAhead_61 : decode cX4_isAhead 61 = .ok (.iload_n 2, 1) := by decide +kernel
theorem dX4_isAhead_62 : decode cX4_isAhead 62 = .ok (.iaload, 1) := by decide +kernel
theorem dX4_isAhead_63 : decode cX4_isAhead 63 = .ok (.if_icmp .le 7, 3) := by decide +kernel
theorem dX4_isAhead_66 : decode cX4_isAhead 66 = .ok (.iconst 1, 1) := by decide +kernel
theorem dX4_isAhead_67 : decode cX4_isAhead 67 = .ok (.goto 4, 3) := by decide +kernel
theorem dX4_isAhead_70 : decode cX4_isAhead 70 = .ok (.iconst 0, 1) := by decide +kernel
theorem dX4_isAhead_71 : decode cX4_isAhead 71 = .ok (.ireturn, 1) := by decide +kernel
theorem dX4_isAhead_72 : decode cX4_isAhead 72 = .ok (.iload_n 1, 1) := by decide +kernel
theorem dX4_isAhead_73 : decode cX4_isAhead 73 = .ok (.iload_n 2, 1) := by decide +kernel
theorem dX4_isAhead_74 : decode cX4_isAhead 74 = .ok (.if_icmp .ge 7, 3) := by decide +kernel
theorem dX4_isAhead_77 : decode cX4_isAhead 77 = .ok (.iconst 1, 1) := by decide +kernel
theorem dX4_isAhead_78 : decode cX4_isAhead 78 = .ok (.goto 4, 3) := by decide +kernel
theorem dX4_isAhead_81 : decode cX4_isAhead 81 = .ok (.iconst 0, 1) := by decide +kernel
theorem dX4_isAhead_82 : decode cX4_isAhead 82 = .ok (.ireturn, 1) := by decide +kernel
theorem dX5_init_0 : decode cX5_init 0 = .ok (.aload_n 0, 1) := by decide +kernel
theorem dX5_init_1 : decode cX5_init 1 = .ok (.invokespecial 1, 3) := by decide +kernel
theorem dX5_init_4 : decode cX5_init 4 = .ok (.aload_n 0, 1) := by decide +kernel
theorem dX5_init_5 : decode cX5_init 5 = .ok (.new 7, 3) := by decide +kernel
theorem dX5_init_8 : decode cX5_init 8 = .ok (.dup, 1) := by decide +kernel
theorem dX5_init_9 : decode cX5_init 9 = .ok (.invokespecial 9, 3) := by decide +kernel
theorem dX5_init_12 : decode cX5_init 12 = .ok (.putfield 10, 3) := by decide +kernel
theorem dX5_init_15 : decode cX5_init 15 = .ok (.aload_n 0, 1) := by decide +kernel
theorem dX5_init_16 : decode cX5_init 16 = .ok (.new 7, 3) := by decide +kernel
theorem dX5_init_19 : decode cX5_init 19 = .ok (.dup, 1) := by decide +kernel
theorem dX5_init_20 : decode cX5_init 20 = .ok (.invokespecial 9, 3) := by decide +kernel
theorem dX5_init_23 : decode cX5_init 23 = .ok (.putfield 16, 3) := by decide +kernel
theorem dX5_init_26 : decode cX5_init 26 = .ok (.aload_n 0, 1) := by decide +kernel
theorem dX5_init_27 : decode cX5_init 27 = .ok (.new 7, 3) := by decide +kernel
theorem dX5_init_30 : decode cX5_init 30 = .ok (.dup, 1) := by decide +kernel
theorem dX5_init_31 : decode cX5_init 31 = .ok (.invokespecial 9, 3) := by decide +kernel
theorem dX5_init_34 : decode cX5_init 34 = .ok (.putfield 19, 3) := by decide +kernel
theorem dX5_init_37 : decode cX5_init 37 = .ok (.aload_n 0, 1) := by decide +kernel
theorem dX5_init_38 : decode cX5_init 38 = .ok (.new 22, 3) := by decide +kernel
theorem dX5_init_41 : decode cX5_init 41 = .ok (.dup, 1) := by decide +kernel
theorem dX5_init_42 : decode cX5_init 42 = .ok (.invokespecial 24, 3) := by decide +kernel
theorem dX5_init_45 : decode cX5_init 45 = .ok (.putfield 25, 3) := by decide +kernel
theorem dX5_init_48 : decode cX5_init 48 = .ok (.aload_n 0, 1) := by decide +kernel
theorem dX5_init_49 : decode cX5_init 49 = .ok (.new 29, 3) := by decide +kernel
theorem dX5_init_52 : decode cX5_init 52 = .ok (.dup, 1) := by decide +kernel
theorem dX5_init_53 : decode cX5_init 53 = .ok (.invokespecial 31, 3) := by decide +kernel
theorem dX5_init_56 : decode cX5_init 56 = .ok (.putfield 32, 3) := by decide +kernel
theorem dX5_init_59 : decode cX5_init 59 = .ok (.aload_n 0, 1) := by decide +kernel
theorem dX5_init_60 : decode cX5_init 60 = .ok (.new 36, 3) := by decide +kernel
theorem dX5_init_63 : decode cX5_init 63 = .ok (.dup, 1) := by decide +kernel
theorem dX5_init_64 : decode cX5_init 64 = .ok (.invokespecial 38, 3) := by decide +kernel
theorem dX5_init_67 : decode cX5_init 67 = .ok (.putfield 39, 3) := by decide +kernel
theorem dX5_init_70 : decode cX5_init 70 = .ok (.aload_n 0, 1) := by decide +kernel
theorem dX5_init_71 : decode cX5_init 71 = .ok (.new 43, 3) := by decide +kernel
theorem dX5_init_74 : decode cX5_init 74 = .ok (.dup, 1) := by decide +kernel
theorem dX5_init_75 : decode cX5_init 75 = .ok (.invokespecial 45, 3) := by decide +kernel
theorem dX5_init_78 : decode cX5_init 78 = .ok (.putfield 46, 3) := by decide +kernel
theorem dX5_init_81 : decode cX5_init 81 = .ok (.aload_n 0, 1) := by decide +kernel
theorem dX5_init_82 : decode cX5_init 82 = .ok (.new 50, 3) := by decide +kernel
theorem dX5_init_85 : decode cX5_init 85 = .ok (.dup, 1) := by decide +kernel
theorem dX5_init_86 : decode cX5_init 86 = .ok (.invokespecial 52, 3) := by decide +kernel
theorem dX5_init_89 : decode cX5_init 89 = .ok (.putfield 53, 3) := by decide +kernel
theorem dX5_init_92 : decode cX5_init 92 = .ok (.aload_n 0, 1) := by decide +kernel
theorem dX5_init_93 : decode cX5_init 93 = .ok (.iconst 0, 1) := by decide +kernel
theorem dX5_init_94 : decode cX5_init 94 = .ok (.putfield 57, 3) := by decide +kernel
theorem dX5_init_97 : decode cX5_init 97 = .ok (.aload_n 0, 1) := by decide +kernel
theorem dX5_init_98 : decode cX5_init 98 = .ok (.iconst (-1), 1) := by decide +kernel
theorem dX5_init_99 : decode cX5_init 99 = .ok (.putfield 61, 3) := by decide +kernel
theorem dX5_init_102 : decode cX5_init 102 = .ok (.aload_n 0, 1) := by decide +kernel
theorem dX5_init_103 : decode cX5_init 103 = .ok (.iconst (-1), 1) := by decide +kernel
theorem dX5_init_104 : decode cX5_init 104 = .ok (.putfield 65, 3) := by decide +kernel
theorem dX5_init_107 : decode cX5_init 107 = .ok (.return_, 1) := by decide +kernel
theorem dX5_addMember_0 : decode cX5_addMember 0 = .ok (.aload_n 0, 1) := by decide +kernel
theorem dX5_addMember_1 : decode cX5_addMember 1 = .ok (.getfield 10, 3) := by decide +kernel
theorem dX5_addMember_4 : decode cX5_addMember 4 = .ok (.iload_n 1, 1) := by decide +kernel
theorem dX5_addMember_5 : decode cX5_addMember 5 = .ok (.iload_n 2, 1) := by decide +kernel
theorem dX5_addMember_6 : decode cX5_addMember 6 = .ok (.iload_n 3, 1) := by decide +kernel
theorem dX5_addMember_7 : decode cX5_addMember 7 = .ok (.iload 4, 2) := by decide +kernel
theorem dX5_addMember_9 : decode cX5_addMember 9 = .ok (.invokevirtual 68, 3) := by decide +kernel
theorem dX5_addMember_12 : decode cX5_addMember 12 = .ok (.invokestatic 72, 3) := by decide +kernel
theorem dX5_addMember_15 : decode cX5_addMember 15 = .ok (.aload_n 0, 1) := by decide +kernel
theorem dX5_addMember_16 : decode cX5_addMember 16 = .ok (.getfield 25, 3) := by decide +kernel
theorem dX5_addMember_19 : decode cX5_addMember 19 = .ok (.aload_n 0, 1) := by decide +kernel
theorem dX5_addMember_20 : decode cX5_addMember 20 = .ok (.getfield 10, 3) := by decide +kernel
theorem dX5_addMember_23 : decode cX5_addMember 23 = .ok (.invokevirtual 76, 3) := by decide +kernel
theorem dX5_addMember_26 : decode cX5_addMember 26 = .ok (.aload_n 0, 1) := by decide +kernel
theorem dX5_addMember_27 : decode cX5_addMember 27 = .ok (.getfield 10, 3) := by decide +kernel
theorem dX5_addMember_30 : decode cX5_addMember 30 = .ok (.iload_n 1, 1) := by decide +kernel
theorem dX5_addMember_31 : decode cX5_addMember 31 = .ok (.iload_n 2, 1) := by decide +kernel
theorem dX5_addMember_32 : decode cX5_addMember 32 = .ok (.iload_n 3, 1) := by decide +kernel
theorem dX5_addMember_33 : decode cX5_addMember 33 = .ok (.iload 4, 2) := by decide +kernel
theorem dX5_addMember_35 : decode cX5_addMember 35 = .ok (.invokevirtual 80, 3) := by decide +kernel
theorem dX5_addMember_38 : decode cX5_addMember 38 = .ok (.ireturn, 1) := by decide +kernel
theorem dX5_wind_0 : decode cX5_wind 0 = .ok (.aload_n 0, 1) := by decide +kernel
theorem dX5_wind_1 : decode cX5_wind 1 = .ok (.getfield 10, 3) := by decide +kernel
theorem dX5_wind_4 : decode cX5_wind 4 = .ok (.iload_n 1, 1) := by decide +kernel
theorem dX5_wind_5 : decode cX5_wind 5 = .ok (.iload_n 2, 1) := by decide +kernel
theorem dX5_wind_6 : decode cX5_wind 6 = .ok (.invokevirtual 83, 3) := by decide +kernel
theorem dX5_wind_9 : decode cX5_wind 9 = .ok (.invokestatic 72, 3) := by decide +kernel
theorem dX5_wind_12 : decode cX5_wind 12 = .ok (.aload_n 0, 1) := by decide +kernel
theorem dX5_wind_13 : decode cX5_wind 13 = .ok (.getfield 25, 3) := by decide +kernel
theorem dX5_wind_16 : decode cX5_wind 16 = .ok (.aload_n 0, 1) := by decide +kernel
theorem dX5_wind_17 : decode cX5_wind 17 = .ok (.getfield 10, 3) := by decide +kernel
theorem dX5_wind_20 : decode cX5_wind 20 = .ok (.invokevirtual 76, 3) := by decide +kernel
theorem dX5_wind_23 : decode cX5_wind 23 = .ok (.aload_n 0, 1) := by decide +kernel
theorem dX5_wind_24 : decode cX5_wind 24 = .ok (.getfield 10, 3) := by decide +kernel
theorem dX5_wind_27 : decode cX5_wind 27 = .ok (.iload_n 1, 1) := by decide +kernel
theorem dX5_wind_28 : decode cX5_wind 28 = .ok (.iload_n 2, 1) := by decide +kernel
theorem dX5_wind_29 : decode cX5_wind 29 = .ok (.invokevirtual 87, 3) := by decide +kernel
theorem dX5_wind_32 : decode cX5_wind 32 = .ok (.ireturn, 1) := by decide +kernel
theorem dX5_tune_0 : decode cX5_tune 0 = .ok (.aload_n 0, 1) := by decide +kernel
theorem dX5_tune_1 : decode cX5_tune 1 = .ok (.getfield 10, 3) := by decide +kernel
theorem dX5_tune_4 : decode cX5_tune 4 = .ok (.iload_n 1, 1) := by decide +kernel
theorem dX5_tune_5 : decode cX5_tune 5 = .ok (.iload_n 2, 1) := by decide +kernel
theorem dX5_tune_6 : decode cX5_tune 6 = .ok (.invokevirtual 90, 3) := by decide +kernel
theorem dX5_tune_9 : decode cX5_tune 9 = .ok (.invokestatic 72, 3) := by decide +kernel
theorem dX5_tune_12 : decode cX5_tune 12 = .ok (.aload_n 0, 1) := by decide +kernel
theorem dX5_tune_13 : decode cX5_tune 13 = .ok (.getfield 25, 3) := by decide +kernel
theorem dX5_tune_16 : decode cX5_tune 16 = .ok (.aload_n 0, 1) := by decide +kernel
theorem dX5_tune_17 : decode cX5_tune 17 = .ok (.getfield 10, 3) := by decide +kernel
theorem dX5_tune_20 : decode cX5_tune 20 = .ok (.invokevirtual 76, 3) := by decide +kernel
theorem dX5_tune_23 : decode cX5_tune 23 = .ok (.aload_n 0, 1) := by decide +kernel
theorem dX5_tune_24 : decode cX5_tune 24 = .ok (.getfield 10, 3) := by decide +kernel
theorem dX5_tune_27 : decode cX5_tune 27 = .ok (.iload_n 1, 1) := by decide +kernel
theorem dX5_tune_28 : decode cX5_tune 28 = .ok (.iload_n 2, 1) := by decide +kernel
theorem dX5_tune_29 : decode cX5_tune 29 = .ok (.invokevirtual 93, 3) := by decide +kernel
theorem dX5_tune_32 : decode cX5_tune 32 = .ok (.ireturn, 1) := by decide +kernel
theorem dX5_buyShares_0 : decode cX5_buyShares 0 = .ok (.aload_n 0, 1) := by decide +kernel
theorem dX5_buyShares_1 : decode cX5_buyShares 1 = .ok (.getfield 10, 3) := by decide +kernel
theorem dX5_buyShares_4 : decode cX5_buyShares 4 = .ok (.iload_n 1, 1) := by decide +kernel
theorem dX5_buyShares_5 : decode cX5_buyShares 5 = .ok (.iload_n 2, 1) := by decide +kernel
theorem dX5_buyShares_6 : decode cX5_buyShares 6 = .ok (.invokevirtual 96, 3) := by decide +kernel
theorem dX5_buyShares_9 : decode cX5_buyShares 9 = .ok (.invokestatic 72, 3) := by decide +kernel
theorem dX5_buyShares_12 : decode cX5_buyShares 12 = .ok (.aload_n 0, 1) := by decide +kernel
theorem dX5_buyShares_13 : decode cX5_buyShares 13 = .ok (.getfield 25, 3) := by decide +kernel
theorem dX5_buyShares_16 : decode cX5_buyShares 16 = .ok (.aload_n 0, 1) := by decide +kernel
theorem dX5_buyShares_17 : decode cX5_buyShares 17 = .ok (.getfield 10, 3) := by decide +kernel
theorem dX5_buyShares_20 : decode cX5_buyShares 20 = .ok (.invokevirtual 76, 3) := by decide +kernel
theorem dX5_buyShares_23 : decode cX5_buyShares 23 = .ok (.aload_n 0, 1) := by decide +kernel
theorem dX5_buyShares_24 : decode cX5_buyShares 24 = .ok (.getfield 10, 3) := by decide +kernel
theorem dX5_buyShares_27 : decode cX5_buyShares 27 = .ok (.iload_n 1, 1) := by decide +kernel
theorem dX5_buyShares_28 : decode cX5_buyShares 28 = .ok (.iload_n 2, 1) := by decide +kernel
theorem dX5_buyShares_29 : decode cX5_buyShares 29 = .ok (.invokevirtual 99, 3) := by decide +kernel
theorem dX5_buyShares_32 : decode cX5_buyShares 32 = .ok (.ireturn, 1) := by decide +kernel
theorem dX5_passBeats_0 : decode cX5_passBeats 0 = .ok (.aload_n 0, 1) := by decide +kernel
theorem dX5_passBeats_1 : decode cX5_passBeats 1 = .ok (.getfield 10, 3) := by decide +kernel
theorem dX5_passBeats_4 : decode cX5_passBeats 4 = .ok (.iload_n 1, 1) := by decide +kernel
theorem dX5_passBeats_5 : decode cX5_passBeats 5 = .ok (.invokevirtual 102, 3) := by decide +kernel
theorem dX5_passBeats_8 : decode cX5_passBeats 8 = .ok (.invokestatic 72, 3) := by decide +kernel
theorem dX5_passBeats_11 : decode cX5_passBeats 11 = .ok (.aload_n 0, 1) := by decide +kernel
theorem dX5_passBeats_12 : decode cX5_passBeats 12 = .ok (.getfield 25, 3) := by decide +kernel
theorem dX5_passBeats_15 : decode cX5_passBeats 15 = .ok (.aload_n 0, 1) := by decide +kernel
theorem dX5_passBeats_16 : decode cX5_passBeats 16 = .ok (.getfield 10, 3) := by decide +kernel
theorem dX5_passBeats_19 : decode cX5_passBeats 19 = .ok (.invokevirtual 76, 3) := by decide +kernel
theorem dX5_passBeats_22 : decode cX5_passBeats 22 = .ok (.aload_n 0, 1) := by decide +kernel
theorem dX5_passBeats_23 : decode cX5_passBeats 23 = .ok (.getfield 10, 3) := by decide +kernel
theorem dX5_passBeats_26 : decode cX5_passBeats 26 = .ok (.iload_n 1, 1) := by decide +kernel
theorem dX5_passBeats_27 : decode cX5_passBeats 27 = .ok (.invokevirtual 106, 3) := by decide +kernel
theorem dX5_passBeats_30 : decode cX5_passBeats 30 = .ok (.ireturn, 1) := by decide +kernel
theorem dX5_endQuarter_0 : decode cX5_endQuarter 0 = .ok (.aload_n 0, 1) := by decide +kernel
theorem dX5_endQuarter_1 : decode cX5_endQuarter 1 = .ok (.getfield 10, 3) := by decide +kernel
theorem dX5_endQuarter_4 : decode cX5_endQuarter 4 = .ok (.invokevirtual 109, 3) := by decide +kernel
theorem dX5_endQuarter_7 : decode cX5_endQuarter 7 = .ok (.invokestatic 72, 3) := by decide +kernel
theorem dX5_endQuarter_10 : decode cX5_endQuarter 10 = .ok (.aload_n 0, 1) := by decide +kernel
theorem dX5_endQuarter_11 : decode cX5_endQuarter 11 = .ok (.getfield 25, 3) := by decide +kernel
theorem dX5_endQuarter_14 : decode cX5_endQuarter 14 = .ok (.aload_n 0, 1) := by decide +kernel
theorem dX5_endQuarter_15 : decode cX5_endQuarter 15 = .ok (.getfield 10, 3) := by decide +kernel
theorem dX5_endQuarter_18 : decode cX5_endQuarter 18 = .ok (.invokevirtual 76, 3) := by decide +kernel
theorem dX5_endQuarter_21 : decode cX5_endQuarter 21 = .ok (.aload_n 0, 1) := by decide +kernel
theorem dX5_endQuarter_22 : decode cX5_endQuarter 22 = .ok (.getfield 32, 3) := by decide +kernel
theorem dX5_endQuarter_25 : decode cX5_endQuarter 25 = .ok (.aload_n 0, 1) := by decide +kernel
theorem dX5_endQuarter_26 : decode cX5_endQuarter 26 = .ok (.getfield 10, 3) := by decide +kernel
theorem dX5_endQuarter_29 : decode cX5_endQuarter 29 = .ok (.invokevirtual 113, 3) := by decide +kernel
theorem dX5_endQuarter_32 : decode cX5_endQuarter 32 = .ok (.ireturn, 1) := by decide +kernel
theorem dX5_vote_0 : decode cX5_vote 0 = .ok (.aload_n 0, 1) := by decide +kernel
theorem dX5_vote_1 : decode cX5_vote 1 = .ok (.getfield 10, 3) := by decide +kernel
theorem dX5_vote_4 : decode cX5_vote 4 = .ok (.iload_n 1, 1) := by decide +kernel
theorem dX5_vote_5 : decode cX5_vote 5 = .ok (.iload_n 2, 1) := by decide +kernel
theorem dX5_vote_6 : decode cX5_vote 6 = .ok (.invokevirtual 117, 3) := by decide +kernel
theorem dX5_vote_9 : decode cX5_vote 9 = .ok (.invokestatic 72, 3) := by decide +kernel
theorem dX5_vote_12 : decode cX5_vote 12 = .ok (.aload_n 0, 1) := by decide +kernel
theorem dX5_vote_13 : decode cX5_vote 13 = .ok (.getfield 25, 3) := by decide +kernel
theorem dX5_vote_16 : decode cX5_vote 16 = .ok (.aload_n 0, 1) := by decide +kernel
theorem dX5_vote_17 : decode cX5_vote 17 = .ok (.getfield 10, 3) := by decide +kernel
theorem dX5_vote_20 : decode cX5_vote 20 = .ok (.invokevirtual 76, 3) := by decide +kernel
theorem dX5_vote_23 : decode cX5_vote 23 = .ok (.aload_n 0, 1) := by decide +kernel
theorem dX5_vote_24 : decode cX5_vote 24 = .ok (.getfield 10, 3) := by decide +kernel
theorem dX5_vote_27 : decode cX5_vote 27 = .ok (.iload_n 1, 1) := by decide +kernel
theorem dX5_vote_28 : decode cX5_vote 28 = .ok (.iload_n 2, 1) := by decide +kernel
theorem dX5_vote_29 : decode cX5_vote 29 = .ok (.invokevirtual 120, 3) := by decide +kernel
theorem dX5_vote_32 : decode cX5_vote 32 = .ok (.ireturn, 1) := by decide +kernel
theorem dX5_memberCount_0 : decode cX5_memberCount 0 = .ok (.aload_n 0, 1) := by decide +kernel
theorem dX5_memberCount_1 : decode cX5_memberCount 1 = .ok (.getfield 10, 3) := by decide +kernel
theorem dX5_memberCount_4 : decode cX5_memberCount 4 = .ok (.getfield 124, 3) := by decide +kernel
theorem dX5_memberCount_7 : decode cX5_memberCount 7 = .ok (.ireturn, 1) := by decide +kernel
theorem dX5_shares_0 : decode cX5_shares 0 = .ok (.aload_n 0, 1) := by decide +kernel
theorem dX5_shares_1 : decode cX5_shares 1 = .ok (.iload_n 1, 1) := by decide +kernel
theorem dX5_shares_2 : decode cX5_shares 2 = .ok (.invokevirtual 127, 3) := by decide +kernel
theorem dX5_shares_5 : decode cX5_shares 5 = .ok (.aload_n 0, 1) := by decide +kernel
theorem dX5_shares_6 : decode cX5_shares 6 = .ok (.getfield 10, 3) := by decide +kernel
theorem dX5_shares_9 : decode cX5_shares 9 = .ok (.getfield 130, 3) := by decide +kernel
theorem dX5_shares_12 : decode cX5_shares 12 = .ok (.iload_n 1, 1) := by decide +kernel
theorem dX5_shares_13 : decode cX5_shares 13 = .ok (.iaload, 1) := by decide +kernel
theorem dX5_shares_14 : decode cX5_shares 14 = .ok (.ireturn, 1) := by decide +kernel
theorem dX5_spring_0 : decode cX5_spring 0 = .ok (.aload_n 0, 1) := by decide +kernel
theorem dX5_spring_1 : decode cX5_spring 1 = .ok (.iload_n 1, 1) := by decide +kernel
theorem dX5_spring_2 : decode cX5_spring 2 = .ok (.invokevirtual 127, 3) := by decide +kernel
theorem dX5_spring_5 : decode cX5_spring 5 = .ok (.aload_n 0, 1) := by decide +kernel
theorem dX5_spring_6 : decode cX5_spring 6 = .ok (.getfield 10, 3) := by decide +kernel
theorem dX5_spring_9 : decode cX5_spring 9 = .ok (.getfield 134, 3) := by decide +kernel
theorem dX5_spring_12 : decode cX5_spring 12 = .ok (.iload_n 1, 1) := by decide +kernel
theorem dX5_spring_13 : decode cX5_spring 13 = .ok (.iaload, 1) := by decide +kernel
theorem dX5_spring_14 : decode cX5_spring 14 = .ok (.ireturn, 1) := by decide +kernel
theorem dX5_tone_0 : decode cX5_tone 0 = .ok (.aload_n 0, 1) := by decide +kernel
theorem dX5_tone_1 : decode cX5_tone 1 = .ok (.iload_n 1, 1) := by decide +kernel
theorem dX5_tone_2 : decode cX5_tone 2 = .ok (.invokevirtual 127, 3) := by decide +kernel
theorem dX5_tone_5 : decode cX5_tone 5 = .ok (.aload_n 0, 1) := by decide +kernel
theorem dX5_tone_6 : decode cX5_tone 6 = .ok (.getfield 10, 3) := by decide +kernel
theorem dX5_tone_9 : decode cX5_tone 9 = .ok (.getfield 137, 3) := by decide +kernel
theorem dX5_tone_12 : decode cX5_tone 12 = .ok (.iload_n 1, 1) := by decide +kernel
theorem dX5_tone_13 : decode cX5_tone 13 = .ok (.iaload, 1) := by decide +kernel
theorem dX5_tone_14 : decode cX5_tone 14 = .ok (.ireturn, 1) := by decide +kernel
theorem dX5_purse_0 : decode cX5_purse 0 = .ok (.aload_n 0, 1) := by decide +kernel
theorem dX5_purse_1 : decode cX5_purse 1 = .ok (.iload_n 1, 1) := by decide +kernel
theorem dX5_purse_2 : decode cX5_purse 2 = .ok (.invokevirtual 127, 3) := by decide +kernel
theorem dX5_purse_5 : decode cX5_purse 5 = .ok (.aload_n 0, 1) := by decide +kernel
theorem dX5_purse_6 : decode cX5_purse 6 = .ok (.getfield 10, 3) := by decide +kernel
theorem dX5_purse_9 : decode cX5_purse 9 = .ok (.getfield 140, 3) := by decide +kernel
theorem dX5_purse_12 : decode cX5_purse 12 = .ok (.iload_n 1, 1) := by decide +kernel
theorem dX5_purse_13 : decode cX5_purse 13 = .ok (.iaload, 1) := by decide +kernel
theorem dX5_purse_14 : decode cX5_purse 14 = .ok (.ireturn, 1) := by decide +kernel
theorem dX5_dissents_0 : decode cX5_dissents 0 = .ok (.aload_n 0, 1) := by decide +kernel
theorem dX5_dissents_1 : decode cX5_dissents 1 = .ok (.iload_n 1, 1) := by decide +kernel
theorem dX5_dissents_2 : decode cX5_dissents 2 = .ok (.invokevirtual 127, 3) := by decide +kernel
theorem dX5_dissents_5 : decode cX5_dissents 5 = .ok (.aload_n 0, 1) := by decide +kernel
theorem dX5_dissents_6 : decode cX5_dissents 6 = .ok (.getfield 10, 3) := by decide +kernel
theorem dX5_dissents_9 : decode cX5_dissents 9 = .ok (.getfield 143, 3) := by decide +kernel
theorem dX5_dissents_12 : decode cX5_dissents 12 = .ok (.iload_n 1, 1) := by decide +kernel
theorem dX5_dissents_13 : decode cX5_dissents 13 = .ok (.iaload, 1) := by decide +kernel
theorem dX5_dissents_14 : decode cX5_dissents 14 = .ok (.ireturn, 1) := by decide +kernel
theorem dX5_interval_0 : decode cX5_interval 0 = .ok (.aload_n 0, 1) := by decide +kernel
theorem dX5_interval_1 : decode cX5_interval 1 = .ok (.iload_n 1, 1) := by decide +kernel
theorem dX5_interval_2 : decode cX5_interval 2 = .ok (.invokevirtual 127, 3) := by decide +kernel
theorem dX5_interval_5 : decode cX5_interval 5 = .ok (.aload_n 0, 1) := by decide +kernel
theorem dX5_interval_6 : decode cX5_interval 6 = .ok (.iload_n 2, 1) := by decide +kernel
theorem dX5_interval_7 : decode cX5_interval 7 = .ok (.invokevirtual 127, 3) := by decide +kernel
theorem dX5_interval_10 : decode cX5_interval 10 = .ok (.aload_n 0, 1) := by decide +kernel
theorem dX5_interval_11 : decode cX5_interval 11 = .ok (.getfield 10, 3) := by decide +kernel
theorem dX5_interval_14 : decode cX5_interval 14 = .ok (.getfield 137, 3) := by decide +kernel
theorem dX5_interval_17 : decode cX5_interval 17 = .ok (.iload_n 1, 1) := by decide +kernel
theorem dX5_interval_18 : decode cX5_interval 18 = .ok (.iaload, 1) := by decide +kernel
theorem dX5_interval_19 : decode cX5_interval 19 = .ok (.aload_n 0, 1) := by decide +kernel
theorem dX5_interval_20 : decode cX5_interval 20 = .ok (.getfield 10, 3) := by decide +kernel
theorem dX5_interval_23 : decode cX5_interval 23 = .ok (.getfield 137, 3) := by decide +kernel
theorem dX5_interval_26 : decode cX5_interval 26 = .ok (.iload_n 2, 1) := by decide +kernel
theorem dX5_interval_27 : decode cX5_interval 27 = .ok (.iaload, 1) := by decide +kernel
theorem dX5_interval_28 : decode cX5_interval 28 = .ok (.invokestatic 146, 3) := by decide +kernel
theorem dX5_interval_31 : decode cX5_interval 31 = .ok (.ireturn, 1) := by decide +kernel
theorem dX5_memberAtRank_0 : decode cX5_memberAtRank 0 = .ok (.iconst 0, 1) := by decide +kernel
theorem dX5_memberAtRank_1 : decode cX5_memberAtRank 1 = .ok (.istore_n 2, 1) := by decide +kernel
theorem dX5_memberAtRank_2 : decode cX5_memberAtRank 2 = .ok (.iload_n 2, 1) := by decide +kernel
theorem dX5_memberAtRank_3 : decode cX5_memberAtRank 3 = .ok (.aload_n 0, 1) := by decide +kernel
theorem dX5_memberAtRank_4 : decode cX5_memberAtRank 4 = .ok (.getfield 10, 3) := by decide +kernel
theorem dX5_memberAtRank_7 : decode cX5_memberAtRank 7 = .ok (.getfield 124, 3) := by decide +kernel
theorem dX5_memberAtRank_10 : decode cX5_memberAtRank 10 = .ok (.if_icmp .ge 23, 3) := by decide +kernel
theorem dX5_memberAtRank_13 : decode cX5_memberAtRank 13 = .ok (.aload_n 0, 1) := by decide +kernel
theorem dX5_memberAtRank_14 : decode cX5_memberAtRank 14 = .ok (.getfield 10, 3) := by decide +kernel
theorem dX5_memberAtRank_17 : decode cX5_memberAtRank 17 = .ok (.iload_n 2, 1) := by decide +kernel
theorem dX5_memberAtRank_18 : decode cX5_memberAtRank 18 = .ok (.invokevirtual 149, 3) := by decide +kernel
theorem dX5_memberAtRank_21 : decode cX5_memberAtRank 21 = .ok (.iload_n 1, 1) := by decide +kernel
theorem dX5_memberAtRank_22 : decode cX5_memberAtRank 22 = .ok (.if_icmp .ne 5, 3) := by decide +kernel
theorem dX5_memberAtRank_25 : decode cX5_memberAtRank 25 = .ok (.iload_n 2, 1) := by decide +kernel
theorem dX5_memberAtRank_26 : decode cX5_memberAtRank 26 = .ok (.ireturn, 1) := by decide +kernel
theorem dX5_memberAtRank_27 : decode cX5_memberAtRank 27 = .ok (.iinc 2 1, 3) := by decide +kernel
theorem dX5_memberAtRank_30 : decode cX5_memberAtRank 30 = .ok (.goto (-28), 3) := by decide +kernel
theorem dX5_memberAtRank_33 : decode cX5_memberAtRank 33 = .ok (.new 152, 3) := by decide +kernel
theorem dX5_memberAtRank_36 : decode cX5_memberAtRank 36 = .ok (.dup, 1) := by decide +kernel
theorem dX5_memberAtRank_37 : decode cX5_memberAtRank 37 = .ok (.ldc 154, 2) := by decide +kernel
theorem dX5_memberAtRank_39 : decode cX5_memberAtRank 39 = .ok (.invokespecial 156, 3) := by decide +kernel
theorem dX5_memberAtRank_42 : decode cX5_memberAtRank 42 = .ok (.athrow, 1) := by decide +kernel
theorem dX5_dueBeats_0 : decode cX5_dueBeats 0 = .ok (.aload_n 0, 1) := by decide +kernel
theorem dX5_dueBeats_1 : decode cX5_dueBeats 1 = .ok (.iload_n 1, 1) := by decide +kernel
theorem dX5_dueBeats_2 : decode cX5_dueBeats 2 = .ok (.invokevirtual 127, 3) := by decide +kernel
theorem dX5_dueBeats_5 : decode cX5_dueBeats 5 = .ok (.aload_n 0, 1) := by decide +kernel
theorem dX5_dueBeats_6 : decode cX5_dueBeats 6 = .ok (.getfield 10, 3) := by decide +kernel
theorem dX5_dueBeats_9 : decode cX5_dueBeats 9 = .ok (.iload_n 1, 1) := by decide +kernel
theorem dX5_dueBeats_10 : decode cX5_dueBeats 10 = .ok (.invokevirtual 159, 3) := by decide +kernel
theorem dX5_dueBeats_13 : decode cX5_dueBeats 13 = .ok (.lreturn, 1) := by decide +kernel
theorem dX5_dueBeatsByDoubling_0 : decode cX5_dueBeatsByDoubling 0 = .ok (.aload_n 0, 1) := by decide +kernel
theorem dX5_dueBeatsByDoubling_1 : decode cX5_dueBeatsByDoubling 1 = .ok (.iload_n 1, 1) := by decide +kernel
theorem dX5_dueBeatsByDoubling_2 : decode cX5_dueBeatsByDoubling 2 = .ok (.invokevirtual 127, 3) := by decide +kernel
theorem dX5_dueBeatsByDoubling_5 : decode cX5_dueBeatsByDoubling 5 = .ok (.aload_n 0, 1) := by decide +kernel
theorem dX5_dueBeatsByDoubling_6 : decode cX5_dueBeatsByDoubling 6 = .ok (.getfield 10, 3) := by decide +kernel
theorem dX5_dueBeatsByDoubling_9 : decode cX5_dueBeatsByDoubling 9 = .ok (.iload_n 1, 1) := by decide +kernel
theorem dX5_dueBeatsByDoubling_10 : decode cX5_dueBeatsByDoubling 10 = .ok (.invokevirtual 163, 3) := by decide +kernel
theorem dX5_dueBeatsByDoubling_13 : decode cX5_dueBeatsByDoubling 13 = .ok (.lreturn, 1) := by decide +kernel
theorem dX5_commonBeats_0 : decode cX5_commonBeats 0 = .ok (.aload_n 0, 1) := by decide +kernel
theorem dX5_commonBeats_1 : decode cX5_commonBeats 1 = .ok (.iload_n 1, 1) := by decide +kernel
theorem dX5_commonBeats_2 : decode cX5_commonBeats 2 = .ok (.invokevirtual 127, 3) := by decide +kernel
theorem dX5_commonBeats_5 : decode cX5_commonBeats 5 = .ok (.aload_n 0, 1) := by decide +kernel
theorem dX5_commonBeats_6 : decode cX5_commonBeats 6 = .ok (.iload_n 2, 1) := by decide +kernel
theorem dX5_commonBeats_7 : decode cX5_commonBeats 7 = .ok (.invokevirtual 127, 3) := by decide +kernel
theorem dX5_commonBeats_10 : decode cX5_commonBeats 10 = .ok (.aload_n 0, 1) := by decide +kernel
theorem dX5_commonBeats_11 : decode cX5_commonBeats 11 = .ok (.getfield 10, 3) := by decide +kernel
theorem dX5_commonBeats_14 : decode cX5_commonBeats 14 = .ok (.iload_n 1, 1) := by decide +kernel
theorem dX5_commonBeats_15 : decode cX5_commonBeats 15 = .ok (.invokevirtual 159, 3) := by decide +kernel
theorem dX5_commonBeats_18 : decode cX5_commonBeats 18 = .ok (.aload_n 0, 1) := by decide +kernel
theorem dX5_commonBeats_19 : decode cX5_commonBeats 19 = .ok (.getfield 10, 3) := by decide +kernel
theorem dX5_commonBeats_22 : decode cX5_commonBeats 22 = .ok (.iload_n 2, 1) := by decide +kernel
theorem dX5_commonBeats_23 : decode cX5_commonBeats 23 = .ok (.invokevirtual 159, 3) := by decide +kernel
theorem dX5_commonBeats_26 : decode cX5_commonBeats 26 = .ok (.land, 1) := by decide +kernel
theorem dX5_commonBeats_27 : decode cX5_commonBeats 27 = .ok (.invokestatic 166, 3) := by decide +kernel
theorem dX5_commonBeats_30 : decode cX5_commonBeats 30 = .ok (.ireturn, 1) := by decide +kernel
theorem dX5_beatsUntilChorus_0 : decode cX5_beatsUntilChorus 0 = .ok (.iconst 1, 1) := by decide +kernel
theorem dX5_beatsUntilChorus_1 : decode cX5_beatsUntilChorus 1 = .ok (.istore_n 1, 1) := by decide +kernel
theorem dX5_beatsUntilChorus_2 : decode cX5_beatsUntilChorus 2 = .ok (.iload_n 1, 1) := by decide +kernel
theorem dX5_beatsUntilChorus_3 : decode cX5_beatsUntilChorus 3 = .ok (.bipush 60, 2) := by decide +kernel
theorem dX5_beatsUntilChorus_5 : decode cX5_beatsUntilChorus 5 = .ok (.if_icmp .gt 30, 3) := by decide +kernel
theorem dX5_beatsUntilChorus_8 : decode cX5_beatsUntilChorus 8 = .ok (.aload_n 0, 1) := by decide +kernel
theorem dX5_beatsUntilChorus_9 : decode cX5_beatsUntilChorus 9 = .ok (.getfield 10, 3) := by decide +kernel
theorem dX5_beatsUntilChorus_12 : decode cX5_beatsUntilChorus 12 = .ok (.aload_n 0, 1) := by decide +kernel
theorem dX5_beatsUntilChorus_13 : decode cX5_beatsUntilChorus 13 = .ok (.getfield 10, 3) := by decide +kernel
theorem dX5_beatsUntilChorus_16 : decode cX5_beatsUntilChorus 16 = .ok (.getfield 172, 3) := by decide +kernel
theorem dX5_beatsUntilChorus_19 : decode cX5_beatsUntilChorus 19 = .ok (.iload_n 1, 1) := by decide +kernel
theorem dX5_beatsUntilChorus_20 : decode cX5_beatsUntilChorus 20 = .ok (.iadd, 1) := by decide +kernel
theorem dX5_beatsUntilChorus_21 : decode cX5_beatsUntilChorus 21 = .ok (.invokevirtual 175, 3) := by decide +kernel
theorem dX5_beatsUntilChorus_24 : decode cX5_beatsUntilChorus 24 = .ok (.ifCond .eq 5, 3) := by decide +kernel
theorem dX5_beatsUntilChorus_27 : decode cX5_beatsUntilChorus 27 = .ok (.iload_n 1, 1) := by decide +kernel
theorem dX5_beatsUntilChorus_28 : decode cX5_beatsUntilChorus 28 = .ok (.ireturn, 1) := by decide +kernel
theorem dX5_beatsUntilChorus_29 : decode cX5_beatsUntilChorus 29 = .ok (.iinc 1 1, 3) := by decide +kernel
theorem dX5_beatsUntilChorus_32 : decode cX5_beatsUntilChorus 32 = .ok (.goto (-30), 3) := by decide +kernel
theorem dX5_beatsUntilChorus_35 : decode cX5_beatsUntilChorus 35 = .ok (.new 152, 3) := by decide +kernel
theorem dX5_beatsUntilChorus_38 : decode cX5_beatsUntilChorus 38 = .ok (.dup, 1) := by decide +kernel
theorem dX5_beatsUntilChorus_39 : decode cX5_beatsUntilChorus 39 = .ok (.ldc 179, 2) := by decide +kernel
theorem dX5_beatsUntilChorus_41 : decode cX5_beatsUntilChorus 41 = .ok (.invokespecial 156, 3) := by decide +kernel
theorem dX5_beatsUntilChorus_44 : decode cX5_beatsUntilChorus 44 = .ok (.athrow, 1) := by decide +kernel
theorem dX5_earningsIn_0 : decode cX5_earningsIn 0 = .ok (.iload_n 1, 1) := by decide +kernel
theorem dX5_earningsIn_1 : decode cX5_earningsIn 1 = .ok (.ifCond .lt 9, 3) := by decide +kernel
theorem dX5_earningsIn_4 : decode cX5_earningsIn 4 = .ok (.iload_n 1, 1) := by decide +kernel
theorem dX5_earningsIn_5 : decode cX5_earningsIn 5 = .ok (.bipush 60, 2) := by decide +kernel
theorem dX5_earningsIn_7 : decode cX5_earningsIn 7 = .ok (.if_icmp .le 13, 3) := by decide +kernel
theorem dX5_earningsIn_10 : decode cX5_earningsIn 10 = .ok (.new 181, 3) := by decide +kernel
theorem dX5_earningsIn_13 : decode cX5_earningsIn 13 = .ok (.dup, 1) := by decide +kernel
theorem dX5_earningsIn_14 : decode cX5_earningsIn 14 = .ok (.ldc 183, 2) := by decide +kernel
theorem dX5_earningsIn_16 : decode cX5_earningsIn 16 = .ok (.invokespecial 185, 3) := by decide +kernel
theorem dX5_earningsIn_19 : decode cX5_earningsIn 19 = .ok (.athrow, 1) := by decide +kernel
theorem dX5_earningsIn_20 : decode cX5_earningsIn 20 = .ok (.aload_n 0, 1) := by decide +kernel
theorem dX5_earningsIn_21 : decode cX5_earningsIn 21 = .ok (.getfield 19, 3) := by decide +kernel
theorem dX5_earningsIn_24 : decode cX5_earningsIn 24 = .ok (.aload_n 0, 1) := by decide +kernel
theorem dX5_earningsIn_25 : decode cX5_earningsIn 25 = .ok (.getfield 10, 3) := by decide +kernel
theorem dX5_earningsIn_28 : decode cX5_earningsIn 28 = .ok (.invokevirtual 186, 3) := by decide +kernel
theorem dX5_earningsIn_31 : decode cX5_earningsIn 31 = .ok (.aload_n 0, 1) := by decide +kernel
theorem dX5_earningsIn_32 : decode cX5_earningsIn 32 = .ok (.getfield 19, 3) := by decide +kernel
theorem dX5_earningsIn_35 : decode cX5_earningsIn 35 = .ok (.iload_n 1, 1) := by decide +kernel
theorem dX5_earningsIn_36 : decode cX5_earningsIn 36 = .ok (.invokevirtual 106, 3) := by decide +kernel
theorem dX5_earningsIn_39 : decode cX5_earningsIn 39 = .ok (.ireturn, 1) := by decide +kernel
theorem dX5_dividend_0 : decode cX5_dividend 0 = .ok (.aload_n 0, 1) := by decide +kernel
theorem dX5_dividend_1 : decode cX5_dividend 1 = .ok (.iload_n 1, 1) := by decide +kernel
theorem dX5_dividend_2 : decode cX5_dividend 2 = .ok (.invokevirtual 127, 3) := by decide +kernel
theorem dX5_dividend_5 : decode cX5_dividend 5 = .ok (.aload_n 0, 1) := by decide +kernel
theorem dX5_dividend_6 : decode cX5_dividend 6 = .ok (.getfield 32, 3) := by decide +kernel
theorem dX5_dividend_9 : decode cX5_dividend 9 = .ok (.aload_n 0, 1) := by decide +kernel
theorem dX5_dividend_10 : decode cX5_dividend 10 = .ok (.getfield 10, 3) := by decide +kernel
theorem dX5_dividend_13 : decode cX5_dividend 13 = .ok (.iload_n 1, 1) := by decide +kernel
theorem dX5_dividend_14 : decode cX5_dividend 14 = .ok (.invokevirtual 189, 3) := by decide +kernel
theorem dX5_dividend_17 : decode cX5_dividend 17 = .ok (.ireturn, 1) := by decide +kernel
theorem dX5_dividendByCounting_0 : decode cX5_dividendByCounting 0 = .ok (.aload_n 0, 1) := by decide +kernel
theorem dX5_dividendByCounting_1 : decode cX5_dividendByCounting 1 = .ok (.iload_n 1, 1) := by decide +kernel
theorem dX5_dividendByCounting_2 : decode cX5_dividendByCounting 2 = .ok (.invokevirtual 127, 3) := by decide +kernel
theorem dX5_dividendByCounting_5 : decode cX5_dividendByCounting 5 = .ok (.aload_n 0, 1) := by decide +kernel
theorem dX5_dividendByCounting_6 : decode cX5_dividendByCounting 6 = .ok (.getfield 32, 3) := by decide +kernel
theorem dX5_dividendByCounting_9 : decode cX5_dividendByCounting 9 = .ok (.aload_n 0, 1) := by decide +kernel
theorem dX5_dividendByCounting_10 : decode cX5_dividendByCounting 10 = .ok (.getfield 10, 3) := by decide +kernel
theorem dX5_dividendByCounting_13 : decode cX5_dividendByCounting 13 = .ok (.iload_n 1, 1) := by decide +kernel
theorem dX5_dividendByCounting_14 : decode cX5_dividendByCounting 14 = .ok (.invokevirtual 193, 3) := by decide +kernel
theorem dX5_dividendByCounting_17 : decode cX5_dividendByCounting 17 = .ok (.ireturn, 1) := by decide +kernel
theorem dX5_sharesInFavour_0 : decode cX5_sharesInFavour 0 = .ok (.aload_n 0, 1) := by decide +kernel
theorem dX5_sharesInFavour_1 : decode cX5_sharesInFavour 1 = .ok (.getfield 10, 3) := by decide +kernel
theorem dX5_sharesInFavour_4 : decode cX5_sharesInFavour 4 = .ok (.iload_n 1, 1) := by decide +kernel
theorem dX5_sharesInFavour_5 : decode cX5_sharesInFavour 5 = .ok (.iload_n 2, 1) := by decide +kernel
theorem dX5_sharesInFavour_6 : decode cX5_sharesInFavour 6 = .ok (.invokevirtual 117, 3) := by decide +kernel
theorem dX5_sharesInFavour_9 : decode cX5_sharesInFavour 9 = .ok (.invokestatic 72, 3) := by decide +kernel
theorem dX5_sharesInFavour_12 : decode cX5_sharesInFavour 12 = .ok (.aload_n 0, 1) := by decide +kernel
theorem dX5_sharesInFavour_13 : decode cX5_sharesInFavour 13 = .ok (.getfield 10, 3) := by decide +kernel
theorem dX5_sharesInFavour_16 : decode cX5_sharesInFavour 16 = .ok (.iload_n 1, 1) := by decide +kernel
theorem dX5_sharesInFavour_17 : decode cX5_sharesInFavour 17 = .ok (.iload_n 2, 1) := by decide +kernel
theorem dX5_sharesInFavour_18 : decode cX5_sharesInFavour 18 = .ok (.invokevirtual 196, 3) := by decide +kernel
theorem dX5_sharesInFavour_21 : decode cX5_sharesInFavour 21 = .ok (.ireturn, 1) := by decide +kernel
theorem dX5_carriedTone_0 : decode cX5_carriedTone 0 = .ok (.aload_n 0, 1) := by decide +kernel
theorem dX5_carriedTone_1 : decode cX5_carriedTone 1 = .ok (.getfield 10, 3) := by decide +kernel
theorem dX5_carriedTone_4 : decode cX5_carriedTone 4 = .ok (.iconst 0, 1) := by decide +kernel
theorem dX5_carriedTone_5 : decode cX5_carriedTone 5 = .ok (.iload_n 1, 1) := by decide +kernel
theorem dX5_carriedTone_6 : decode cX5_carriedTone 6 = .ok (.invokevirtual 117, 3) := by decide +kernel
theorem dX5_carriedTone_9 : decode cX5_carriedTone 9 = .ok (.invokestatic 72, 3) := by decide +kernel
theorem dX5_carriedTone_12 : decode cX5_carriedTone 12 = .ok (.iconst 0, 1) := by decide +kernel
theorem dX5_carriedTone_13 : decode cX5_carriedTone 13 = .ok (.istore_n 2, 1) := by decide +kernel
theorem dX5_carriedTone_14 : decode cX5_carriedTone 14 = .ok (.iload_n 2, 1) := by decide +kernel
theorem dX5_carriedTone_15 : decode cX5_carriedTone 15 = .ok (.bipush 12, 2) := by decide +kernel
theorem dX5_carriedTone_17 : decode cX5_carriedTone 17 = .ok (.if_icmp .ge 30, 3) := by decide +kernel
theorem dX5_carriedTone_20 : decode cX5_carriedTone 20 = .ok (.aload_n 0, 1) := by decide +kernel
theorem dX5_carriedTone_21 : decode cX5_carriedTone 21 = .ok (.getfield 10, 3) := by decide +kernel
theorem dX5_carriedTone_24 : decode cX5_carriedTone 24 = .ok (.iload_n 2, 1) := by decide +kernel
theorem dX5_carriedTone_25 : decode cX5_carriedTone 25 = .ok (.iload_n 1, 1) := by decide +kernel
theorem dX5_carriedTone_26 : decode cX5_carriedTone 26 = .ok (.invokevirtual 196, 3) := by decide +kernel
theorem dX5_carriedTone_29 : decode cX5_carriedTone 29 = .ok (.aload_n 0, 1) := by decide +kernel
theorem dX5_carriedTone_30 : decode cX5_carriedTone 30 = .ok (.getfield 10, 3) := by decide +kernel
theorem dX5_carriedTone_33 : decode cX5_carriedTone 33 = .ok (.invokevirtual 199, 3) := by decide +kernel
theorem dX5_carriedTone_36 : decode cX5_carriedTone 36 = .ok (.if_icmp .lt 5, 3) := by decide +kernel
theorem dX5_carriedTone_39 : decode cX5_carriedTone 39 = .ok (.iload_n 2, 1) := by decide +kernel
theorem dX5_carriedTone_40 : decode cX5_carriedTone 40 = .ok (.ireturn, 1) := by decide +kernel
theorem dX5_carriedTone_41 : decode cX5_carriedTone 41 = .ok (.iinc 2 1, 3) := by decide +kernel
theorem dX5_carriedTone_44 : decode cX5_carriedTone 44 = .ok (.goto (-30), 3) := by decide +kernel
theorem dX5_carriedTone_47 : decode cX5_carriedTone 47 = .ok (.new 152, 3) := by decide +kernel
theorem dX5_carriedTone_50 : decode cX5_carriedTone 50 = .ok (.dup, 1) := by decide +kernel
theorem dX5_carriedTone_51 : decode cX5_carriedTone 51 = .ok (.ldc 202, 2) := by decide +kernel
theorem dX5_carriedTone_53 : decode cX5_carriedTone 53 = .ok (.invokespecial 156, 3) := by decide +kernel
theorem dX5_carriedTone_56 : decode cX5_carriedTone 56 = .ok (.athrow, 1) := by decide +kernel
theorem dX5_quota_0 : decode cX5_quota 0 = .ok (.aload_n 0, 1) := by decide +kernel
theorem dX5_quota_1 : decode cX5_quota 1 = .ok (.getfield 10, 3) := by decide +kernel
theorem dX5_quota_4 : decode cX5_quota 4 = .ok (.invokevirtual 199, 3) := by decide +kernel
theorem dX5_quota_7 : decode cX5_quota 7 = .ok (.ireturn, 1) := by decide +kernel
theorem dX5_winningGroups_0 : decode cX5_winningGroups 0 = .ok (.aload_n 0, 1) := by decide +kernel
theorem dX5_winningGroups_1 : decode cX5_winningGroups 1 = .ok (.getfield 39, 3) := by decide +kernel
theorem dX5_winningGroups_4 : decode cX5_winningGroups 4 = .ok (.aload_n 0, 1) := by decide +kernel
theorem dX5_winningGroups_5 : decode cX5_winningGroups 5 = .ok (.getfield 10, 3) := by decide +kernel
theorem dX5_winningGroups_8 : decode cX5_winningGroups 8 = .ok (.invokevirtual 204, 3) := by decide +kernel
theorem dX5_winningGroups_11 : decode cX5_winningGroups 11 = .ok (.ireturn, 1) := by decide +kernel
theorem dX5_winningGroupsByTable_0 : decode cX5_winningGroupsByTable 0 = .ok (.aload_n 0, 1) := by decide +kernel
theorem dX5_winningGroupsByTable_1 : decode cX5_winningGroupsByTable 1 = .ok (.getfield 39, 3) := by decide +kernel
theorem dX5_winningGroupsByTable_4 : decode cX5_winningGroupsByTable 4 = .ok (.aload_n 0, 1) := by decide +kernel
theorem dX5_winningGroupsByTable_5 : decode cX5_winningGroupsByTable 5 = .ok (.getfield 10, 3) := by decide +kernel
theorem dX5_winningGroupsByTable_8 : decode cX5_winningGroupsByTable 8 = .ok (.invokevirtual 207, 3) := by decide +kernel
theorem dX5_winningGroupsByTable_11 : decode cX5_winningGroupsByTable 11 = .ok (.ireturn, 1) := by decide +kernel
theorem dX5_power_0 : decode cX5_power 0 = .ok (.aload_n 0, 1) := by decide +kernel
theorem dX5_power_1 : decode cX5_power 1 = .ok (.iload_n 1, 1) := by decide +kernel
theorem dX5_power_2 : decode cX5_power 2 = .ok (.invokevirtual 127, 3) := by decide +kernel
theorem dX5_power_5 : decode cX5_power 5 = .ok (.aload_n 0, 1) := by decide +kernel
theorem dX5_power_6 : decode cX5_power 6 = .ok (.getfield 39, 3) := by decide +kernel
theorem dX5_power_9 : decode cX5_power 9 = .ok (.aload_n 0, 1) := by decide +kernel
theorem dX5_power_10 : decode cX5_power 10 = .ok (.getfield 10, 3) := by decide +kernel
theorem dX5_power_13 : decode cX5_power 13 = .ok (.iload_n 1, 1) := by decide +kernel
theorem dX5_power_14 : decode cX5_power 14 = .ok (.invokevirtual 210, 3) := by decide +kernel
theorem dX5_power_17 : decode cX5_power 17 = .ok (.ireturn, 1) := by decide +kernel
theorem dX5_powerByTable_0 : decode cX5_powerByTable 0 = .ok (.aload_n 0, 1) := by decide +kernel
theorem dX5_powerByTable_1 : decode cX5_powerByTable 1 = .ok (.iload_n 1, 1) := by decide +kernel
theorem dX5_powerByTable_2 : decode cX5_powerByTable 2 = .ok (.invokevirtual 127, 3) := by decide +kernel
theorem dX5_powerByTable_5 : decode cX5_powerByTable 5 = .ok (.aload_n 0, 1) := by decide +kernel
theorem dX5_powerByTable_6 : decode cX5_powerByTable 6 = .ok (.getfield 39, 3) := by decide +kernel
theorem dX5_powerByTable_9 : decode cX5_powerByTable 9 = .ok (.aload_n 0, 1) := by decide +kernel
theorem dX5_powerByTable_10 : decode cX5_powerByTable 10 = .ok (.getfield 10, 3) := by decide +kernel
theorem dX5_powerByTable_13 : decode cX5_powerByTable 13 = .ok (.iload_n 1, 1) := by decide +kernel
theorem dX5_powerByTable_14 : decode cX5_powerByTable 14 = .ok (.invokevirtual 213, 3) := by decide +kernel
theorem dX5_powerByTable_17 : decode cX5_powerByTable 17 = .ok (.ireturn, 1) := by decide +kernel
theorem dX5_smallestMajority_0 : decode cX5_smallestMajority 0 = .ok (.aload_n 0, 1) := by decide +kernel
theorem dX5_smallestMajority_1 : decode cX5_smallestMajority 1 = .ok (.getfield 10, 3) := by decide +kernel
theorem dX5_smallestMajority_4 : decode cX5_smallestMajority 4 = .ok (.getfield 124, 3) := by decide +kernel
theorem dX5_smallestMajority_7 : decode cX5_smallestMajority 7 = .ok (.ifCond .ne 13, 3) := by decide +kernel
theorem dX5_smallestMajority_10 : decode cX5_smallestMajority 10 = .ok (.new 152, 3) := by decide +kernel
theorem dX5_smallestMajority_13 : decode cX5_smallestMajority 13 = .ok (.dup, 1) := by decide +kernel
theorem dX5_smallestMajority_14 : decode cX5_smallestMajority 14 = .ok (.ldc 216, 2) := by decide +kernel
theorem dX5_smallestMajority_16 : decode cX5_smallestMajority 16 = .ok (.invokespecial 156, 3) := by decide +kernel
theorem dX5_smallestMajority_19 : decode cX5_smallestMajority 19 = .ok (.athrow, 1) := by decide +kernel
theorem dX5_smallestMajority_20 : decode cX5_smallestMajority 20 = .ok (.aload_n 0, 1) := by decide +kernel
theorem dX5_smallestMajority_21 : decode cX5_smallestMajority 21 = .ok (.getfield 39, 3) := by decide +kernel
theorem dX5_smallestMajority_24 : decode cX5_smallestMajority 24 = .ok (.aload_n 0, 1) := by decide +kernel
theorem dX5_smallestMajority_25 : decode cX5_smallestMajority 25 = .ok (.getfield 10, 3) := by decide +kernel
theorem dX5_smallestMajority_28 : decode cX5_smallestMajority 28 = .ok (.invokevirtual 218, 3) := by decide +kernel
theorem dX5_smallestMajority_31 : decode cX5_smallestMajority 31 = .ok (.ireturn, 1) := by decide +kernel
theorem dX5_beat_0 : decode cX5_beat 0 = .ok (.aload_n 0, 1) := by decide +kernel
theorem dX5_beat_1 : decode cX5_beat 1 = .ok (.getfield 10, 3) := by decide +kernel
theorem dX5_beat_4 : decode cX5_beat 4 = .ok (.getfield 172, 3) := by decide +kernel
theorem dX5_beat_7 : decode cX5_beat 7 = .ok (.ireturn, 1) := by decide +kernel
theorem dX5_surplus_0 : decode cX5_surplus 0 = .ok (.aload_n 0, 1) := by decide +kernel
theorem dX5_surplus_1 : decode cX5_surplus 1 = .ok (.getfield 10, 3) := by decide +kernel
theorem dX5_surplus_4 : decode cX5_surplus 4 = .ok (.getfield 221, 3) := by decide +kernel
theorem dX5_surplus_7 : decode cX5_surplus 7 = .ok (.ireturn, 1) := by decide +kernel
theorem dX5_houseTone_0 : decode cX5_houseTone 0 = .ok (.aload_n 0, 1) := by decide +kernel
theorem dX5_houseTone_1 : decode cX5_houseTone 1 = .ok (.getfield 10, 3) := by decide +kernel
theorem dX5_houseTone_4 : decode cX5_houseTone 4 = .ok (.getfield 224, 3) := by decide +kernel
theorem dX5_houseTone_7 : decode cX5_houseTone 7 = .ok (.ireturn, 1) := by decide +kernel
theorem dX5_quarters_0 : decode cX5_quarters 0 = .ok (.aload_n 0, 1) := by decide +kernel
theorem dX5_quarters_1 : decode cX5_quarters 1 = .ok (.getfield 10, 3) := by decide +kernel
theorem dX5_quarters_4 : decode cX5_quarters 4 = .ok (.getfield 227, 3) := by decide +kernel
theorem dX5_quarters_7 : decode cX5_quarters 7 = .ok (.ireturn, 1) := by decide +kernel
theorem dX5_coinTotal_0 : decode cX5_coinTotal 0 = .ok (.aload_n 0, 1) := by decide +kernel
theorem dX5_coinTotal_1 : decode cX5_coinTotal 1 = .ok (.getfield 10, 3) := by decide +kernel
theorem dX5_coinTotal_4 : decode cX5_coinTotal 4 = .ok (.invokevirtual 230, 3) := by decide +kernel
theorem dX5_coinTotal_7 : decode cX5_coinTotal 7 = .ok (.aload_n 0, 1) := by decide +kernel
theorem dX5_coinTotal_8 : decode cX5_coinTotal 8 = .ok (.getfield 10, 3) := by decide +kernel
theorem dX5_coinTotal_11 : decode cX5_coinTotal 11 = .ok (.getfield 221, 3) := by decide +kernel
theorem dX5_coinTotal_14 : decode cX5_coinTotal 14 = .ok (.iadd, 1) := by decide +kernel
theorem dX5_coinTotal_15 : decode cX5_coinTotal 15 = .ok (.ireturn, 1) := by decide +kernel
theorem dX5_coinsByAccounts_0 : decode cX5_coinsByAccounts 0 = .ok (.aload_n 0, 1) := by decide +kernel
theorem dX5_coinsByAccounts_1 : decode cX5_coinsByAccounts 1 = .ok (.getfield 10, 3) := by decide +kernel
theorem dX5_coinsByAccounts_4 : decode cX5_coinsByAccounts 4 = .ok (.getfield 233, 3) := by decide +kernel
theorem dX5_coinsByAccounts_7 : decode cX5_coinsByAccounts 7 = .ok (.ireturn, 1) := by decide +kernel
theorem dX5_chirps_0 : decode cX5_chirps 0 = .ok (.aload_n 0, 1) := by decide +kernel
theorem dX5_chirps_1 : decode cX5_chirps 1 = .ok (.getfield 10, 3) := by decide +kernel
theorem dX5_chirps_4 : decode cX5_chirps 4 = .ok (.getfield 236, 3) := by decide +kernel
theorem dX5_chirps_7 : decode cX5_chirps 7 = .ok (.ireturn, 1) := by decide +kernel
theorem dX5_spoiltBeat_0 : decode cX5_spoiltBeat 0 = .ok (.iload_n 1, 1) := by decide +kernel
theorem dX5_spoiltBeat_1 : decode cX5_spoiltBeat 1 = .ok (.ifCond .lt 14, 3) := by decide +kernel
theorem dX5_spoiltBeat_4 : decode cX5_spoiltBeat 4 = .ok (.iload_n 1, 1) := by decide +kernel
theorem dX5_spoiltBeat_5 : decode cX5_spoiltBeat 5 = .ok (.aload_n 0, 1) := by decide +kernel
theorem dX5_spoiltBeat_6 : decode cX5_spoiltBeat 6 = .ok (.getfield 10, 3) := by decide +kernel
theorem dX5_spoiltBeat_9 : decode cX5_spoiltBeat 9 = .ok (.getfield 239, 3) := by decide +kernel
theorem dX5_spoiltBeat_12 : decode cX5_spoiltBeat 12 = .ok (.if_icmp .lt 13, 3) := by decide +kernel
theorem dX5_spoiltBeat_15 : decode cX5_spoiltBeat 15 = .ok (.new 242, 3) := by decide +kernel
theorem dX5_spoiltBeat_18 : decode cX5_spoiltBeat 18 = .ok (.dup, 1) := by decide +kernel
theorem dX5_spoiltBeat_19 : decode cX5_spoiltBeat 19 = .ok (.ldc 244, 2) := by decide +kernel
theorem dX5_spoiltBeat_21 : decode cX5_spoiltBeat 21 = .ok (.invokespecial 246, 3) := by decide +kernel
theorem dX5_spoiltBeat_24 : decode cX5_spoiltBeat 24 = .ok (.athrow, 1) := by decide +kernel
theorem dX5_spoiltBeat_25 : decode cX5_spoiltBeat 25 = .ok (.aload_n 0, 1) := by decide +kernel
theorem dX5_spoiltBeat_26 : decode cX5_spoiltBeat 26 = .ok (.getfield 10, 3) := by decide +kernel
theorem dX5_spoiltBeat_29 : decode cX5_spoiltBeat 29 = .ok (.getfield 247, 3) := by decide +kernel
theorem dX5_spoiltBeat_32 : decode cX5_spoiltBeat 32 = .ok (.iload_n 1, 1) := by decide +kernel
theorem dX5_spoiltBeat_33 : decode cX5_spoiltBeat 33 = .ok (.iaload, 1) := by decide +kernel
theorem dX5_spoiltBeat_34 : decode cX5_spoiltBeat 34 = .ok (.ireturn, 1) := by decide +kernel
theorem dX5_meanPurse_0 : decode cX5_meanPurse 0 = .ok (.aload_n 0, 1) := by decide +kernel
theorem dX5_meanPurse_1 : decode cX5_meanPurse 1 = .ok (.getfield 10, 3) := by decide +kernel
theorem dX5_meanPurse_4 : decode cX5_meanPurse 4 = .ok (.getfield 124, 3) := by decide +kernel
theorem dX5_meanPurse_7 : decode cX5_meanPurse 7 = .ok (.ifCond .ne 13, 3) := by decide +kernel
theorem dX5_meanPurse_10 : decode cX5_meanPurse 10 = .ok (.new 250, 3) := by decide +kernel
theorem dX5_meanPurse_13 : decode cX5_meanPurse 13 = .ok (.dup, 1) := by decide +kernel
theorem dX5_meanPurse_14 : decode cX5_meanPurse 14 = .ok (.ldc 216, 2) := by decide +kernel
theorem dX5_meanPurse_16 : decode cX5_meanPurse 16 = .ok (.invokespecial 252, 3) := by decide +kernel
theorem dX5_meanPurse_19 : decode cX5_meanPurse 19 = .ok (.athrow, 1) := by decide +kernel
theorem dX5_meanPurse_20 : decode cX5_meanPurse 20 = .ok (.aload_n 0, 1) := by decide +kernel
theorem dX5_meanPurse_21 : decode cX5_meanPurse 21 = .ok (.getfield 10, 3) := by decide +kernel
theorem dX5_meanPurse_24 : decode cX5_meanPurse 24 = .ok (.invokevirtual 230, 3) := by decide +kernel
theorem dX5_meanPurse_27 : decode cX5_meanPurse 27 = .ok (.i2d, 1) := by decide +kernel
theorem dX5_meanPurse_28 : decode cX5_meanPurse 28 = .ok (.aload_n 0, 1) := by decide +kernel
theorem dX5_meanPurse_29 : decode cX5_meanPurse 29 = .ok (.getfield 10, 3) := by decide +kernel
theorem dX5_meanPurse_32 : decode cX5_meanPurse 32 = .ok (.getfield 124, 3) := by decide +kernel
theorem dX5_meanPurse_35 : decode cX5_meanPurse 35 = .ok (.i2d, 1) := by decide +kernel
theorem dX5_meanPurse_36 : decode cX5_meanPurse 36 = .ok (.ddiv, 1) := by decide +kernel
theorem dX5_meanPurse_37 : decode cX5_meanPurse 37 = .ok (.dreturn, 1) := by decide +kernel
theorem dX5_powerShare_0 : decode cX5_powerShare 0 = .ok (.aload_n 0, 1) := by decide +kernel
theorem dX5_powerShare_1 : decode cX5_powerShare 1 = .ok (.iload_n 1, 1) := by decide +kernel
theorem dX5_powerShare_2 : decode cX5_powerShare 2 = .ok (.invokevirtual 127, 3) := by decide +kernel
theorem dX5_powerShare_5 : decode cX5_powerShare 5 = .ok (.aload_n 0, 1) := by decide +kernel
theorem dX5_powerShare_6 : decode cX5_powerShare 6 = .ok (.getfield 39, 3) := by decide +kernel
theorem dX5_powerShare_9 : decode cX5_powerShare 9 = .ok (.aload_n 0, 1) := by decide +kernel
theorem dX5_powerShare_10 : decode cX5_powerShare 10 = .ok (.getfield 10, 3) := by decide +kernel
theorem dX5_powerShare_13 : decode cX5_powerShare 13 = .ok (.invokevirtual 253, 3) := by decide +kernel
theorem dX5_powerShare_16 : decode cX5_powerShare 16 = .ok (.istore_n 2, 1) := by decide +kernel
theorem dX5_powerShare_17 : decode cX5_powerShare 17 = .ok (.iload_n 2, 1) := by decide +kernel
theorem dX5_powerShare_18 : decode cX5_powerShare 18 = .ok (.ifCond .ne 7, 3) := by decide +kernel
theorem dX5_powerShare_21 : decode cX5_powerShare 21 = .ok (.fconst 0, 1) := by decide +kernel
theorem dX5_powerShare_22 : decode cX5_powerShare 22 = .ok (.goto 19, 3) := by decide +kernel
theorem dX5_powerShare_25 : decode cX5_powerShare 25 = .ok (.aload_n 0, 1) := by decide +kernel
theorem dX5_powerShare_26 : decode cX5_powerShare 26 = .ok (.getfield 39, 3) := by decide +kernel
theorem dX5_powerShare_29 : decode cX5_powerShare 29 = .ok (.aload_n 0, 1) := by decide +kernel
theorem dX5_powerShare_30 : decode cX5_powerShare 30 = .ok (.getfield 10, 3) := by decide +kernel
theorem dX5_powerShare_33 : decode cX5_powerShare 33 = .ok (.iload_n 1, 1) := by decide +kernel
theorem dX5_powerShare_34 : decode cX5_powerShare 34 = .ok (.invokevirtual 210, 3) := by decide +kernel
theorem dX5_powerShare_37 : decode cX5_powerShare 37 = .ok (.i2f, 1) := by decide +kernel
theorem dX5_powerShare_38 : decode cX5_powerShare 38 = .ok (.iload_n 2, 1) := by decide +kernel
theorem dX5_powerShare_39 : decode cX5_powerShare 39 = .ok (.i2f, 1) := by decide +kernel
theorem dX5_powerShare_40 : decode cX5_powerShare 40 = .ok (.fdiv, 1) := by decide +kernel
theorem dX5_powerShare_41 : decode cX5_powerShare 41 = .ok (.freturn, 1) := by decide +kernel
theorem dX5_isConsistent_0 : decode cX5_isConsistent 0 = .ok (.aload_n 0, 1) := by decide +kernel
theorem dX5_isConsistent_1 : decode cX5_isConsistent 1 = .ok (.getfield 10, 3) := by decide +kernel
theorem dX5_isConsistent_4 : decode cX5_isConsistent 4 = .ok (.invokevirtual 230, 3) := by decide +kernel
theorem dX5_isConsistent_7 : decode cX5_isConsistent 7 = .ok (.aload_n 0, 1) := by decide +kernel
theorem dX5_isConsistent_8 : decode cX5_isConsistent 8 = .ok (.getfield 10, 3) := by decide +kernel
theorem dX5_isConsistent_11 : decode cX5_isConsistent 11 = .ok (.getfield 221, 3) := by decide +kernel
theorem dX5_isConsistent_14 : decode cX5_isConsistent 14 = .ok (.iadd, 1) := by decide +kernel
theorem dX5_isConsistent_15 : decode cX5_isConsistent 15 = .ok (.aload_n 0, 1) := by decide +kernel
theorem dX5_isConsistent_16 : decode cX5_isConsistent 16 = .ok (.getfield 10, 3) := by decide +kernel
theorem dX5_isConsistent_19 : decode cX5_isConsistent 19 = .ok (.getfield 233, 3) := by decide +kernel
theorem dX5_isConsistent_22 : decode cX5_isConsistent 22 = .ok (.if_icmp .ne 28, 3) := by decide +kernel
theorem dX5_isConsistent_25 : decode cX5_isConsistent 25 = .ok (.aload_n 0, 1) := by decide +kernel
theorem dX5_isConsistent_26 : decode cX5_isConsistent 26 = .ok (.getfield 39, 3) := by decide +kernel
theorem dX5_isConsistent_29 : decode cX5_isConsistent 29 = .ok (.aload_n 0, 1) := by decide +kernel
theorem dX5_isConsistent_30 : decode cX5_isConsistent 30 = .ok (.getfield 10, 3) := by decide +kernel
theorem dX5_isConsistent_33 : decode cX5_isConsistent 33 = .ok (.invokevirtual 204, 3) := by decide +kernel
theorem dX5_isConsistent_36 : decode cX5_isConsistent 36 = .ok (.aload_n 0, 1) := by decide +kernel
theorem dX5_isConsistent_37 : decode cX5_isConsistent 37 = .ok (.getfield 39, 3) := by decide +kernel
theorem dX5_isConsistent_40 : decode cX5_isConsistent 40 = .ok (.aload_n 0, 1) := by decide +kernel
theorem dX5_isConsistent_41 : decode cX5_isConsistent 41 = .ok (.getfield 10, 3) := by decide +kernel
theorem dX5_isConsistent_44 : decode cX5_isConsistent 44 = .ok (.invokevirtual 207, 3) := by decide +kernel
theorem dX5_isConsistent_47 : decode cX5_isConsistent 47 = .ok (.if_icmp .eq 5, 3) := by decide +kernel
theorem dX5_isConsistent_50 : decode cX5_isConsistent 50 = .ok (.iconst 0, 1) := by decide +kernel
theorem dX5_isConsistent_51 : decode cX5_isConsistent 51 = .ok (.ireturn, 1) := by decide +kernel
theorem dX5_isConsistent_52 : decode cX5_isConsistent 52 = .ok (.iconst 0, 1) := by decide +kernel
theorem dX5_isConsistent_53 : decode cX5_isConsistent 53 = .ok (.istore_n 1, 1) := by decide +kernel
theorem dX5_isConsistent_54 : decode cX5_isConsistent 54 = .ok (.iconst 0, 1) := by decide +kernel
theorem dX5_isConsistent_55 : decode cX5_isConsistent 55 = .ok (.istore_n 2, 1) := by decide +kernel
theorem dX5_isConsistent_56 : decode cX5_isConsistent 56 = .ok (.iload_n 2, 1) := by decide +kernel
theorem dX5_isConsistent_57 : decode cX5_isConsistent 57 = .ok (.aload_n 0, 1) := by decide +kernel
theorem dX5_isConsistent_58 : decode cX5_isConsistent 58 = .ok (.getfield 10, 3) := by decide +kernel
theorem dX5_isConsistent_61 : decode cX5_isConsistent 61 = .ok (.getfield 124, 3) := by decide +kernel
theorem dX5_isConsistent_64 : decode cX5_isConsistent 64 = .ok (.if_icmp .ge 34, 3) := by decide +kernel
theorem dX5_isConsistent_67 : decode cX5_isConsistent 67 = .ok (.aload_n 0, 1) := by decide +kernel
theorem dX5_isConsistent_68 : decode cX5_isConsistent 68 = .ok (.iload_n 2, 1) := by decide +kernel
theorem dX5_isConsistent_69 : decode cX5_isConsistent 69 = .ok (.invokevirtual 256, 3) := by decide +kernel
theorem dX5_isConsistent_72 : decode cX5_isConsistent 72 = .ok (.ifCond .ne 5, 3) := by decide +kernel
theorem dX5_isConsistent_75 : decode cX5_isConsistent 75 = .ok (.iconst 0, 1) := by decide +kernel
theorem dX5_isConsistent_76 : decode cX5_isConsistent 76 = .ok (.ireturn, 1) := by decide +kernel
theorem dX5_isConsistent_77 : decode cX5_isConsistent 77 = .ok (.iload_n 1, 1) := by decide +kernel
theorem dX5_isConsistent_78 : decode cX5_isConsistent 78 = .ok (.aload_n 0, 1) := by decide +kernel
theorem dX5_isConsistent_79 : decode cX5_isConsistent 79 = .ok (.getfield 32, 3) := by decide +kernel
theorem dX5_isConsistent_82 : decode cX5_isConsistent 82 = .ok (.aload_n 0, 1) := by decide +kernel
theorem dX5_isConsistent_83 : decode cX5_isConsistent 83 = .ok (.getfield 10, 3) := by decide +kernel
theorem dX5_isConsistent_86 : decode cX5_isConsistent 86 = .ok (.iload_n 2, 1) := by decide +kernel
theorem dX5_isConsistent_87 : decode cX5_isConsistent 87 = .ok (.invokevirtual 189, 3) := by decide +kernel
theorem dX5_isConsistent_90 : decode cX5_isConsistent 90 = .ok (.iadd, 1) := by decide +kernel
theorem dX5_isConsistent_91 : decode cX5_isConsistent 91 = .ok (.istore_n 1, 1) := by decide +kernel
theorem dX5_isConsistent_92 : decode cX5_isConsistent 92 = .ok (.iinc 2 1, 3) := by decide +kernel
theorem dX5_isConsistent_95 : decode cX5_isConsistent 95 = .ok (.goto (-39), 3) := by decide +kernel
theorem dX5_isConsistent_98 : decode cX5_isConsistent 98 = .ok (.aload_n 0, 1) := by decide +kernel
theorem dX5_isConsistent_99 : decode cX5_isConsistent 99 = .ok (.getfield 10, 3) := by decide +kernel
theorem dX5_isConsistent_102 : decode cX5_isConsistent 102 = .ok (.getfield 124, 3) := by decide +kernel
theorem dX5_isConsistent_105 : decode cX5_isConsistent 105 = .ok (.ifCond .eq 14, 3) := by decide +kernel
theorem dX5_isConsistent_108 : decode cX5_isConsistent 108 = .ok (.iload_n 1, 1) := by decide +kernel
theorem dX5_isConsistent_109 : decode cX5_isConsistent 109 = .ok (.aload_n 0, 1) := by decide +kernel
theorem dX5_isConsistent_110 : decode cX5_isConsistent 110 = .ok (.getfield 10, 3) := by decide +kernel
theorem dX5_isConsistent_113 : decode cX5_isConsistent 113 = .ok (.getfield 221, 3) := by decide +kernel
theorem dX5_isConsistent_116 : decode cX5_isConsistent 116 = .ok (.if_icmp .ne 7, 3) := by decide +kernel
theorem dX5_isConsistent_119 : decode cX5_isConsistent 119 = .ok (.iconst 1, 1) := by decide +kernel
theorem dX5_isConsistent_120 : decode cX5_isConsistent 120 = .ok (.goto 4, 3) := by decide +kernel
theorem dX5_isConsistent_123 : decode cX5_isConsistent 123 = .ok (.iconst 0, 1) := by decide +kernel
theorem dX5_isConsistent_124 : decode cX5_isConsistent 124 = .ok (.ireturn, 1) := by decide +kernel
theorem dX5_append_0 : decode cX5_append 0 = .ok (.aload_n 0, 1) := by decide +kernel
theorem dX5_append_1 : decode cX5_append 1 = .ok (.getfield 46, 3) := by decide +kernel
theorem dX5_append_4 : decode cX5_append 4 = .ok (.invokevirtual 259, 3) := by decide +kernel
theorem dX5_append_7 : decode cX5_append 7 = .ok (.ifCond .eq 14, 3) := by decide +kernel
theorem dX5_append_10 : decode cX5_append 10 = .ok (.new 263, 3) := by decide +kernel
theorem dX5_append_13 : decode cX5_append 13 = .ok (.dup, 1) := by decide +kernel
theorem dX5_append_14 : decode cX5_append 14 = .ok (.ldc_w 265, 3) := by decide +kernel
theorem dX5_append_17 : decode cX5_append 17 = .ok (.invokespecial 267, 3) := by decide +kernel
theorem dX5_append_20 : decode cX5_append 20 = .ok (.athrow, 1) := by decide +kernel
theorem dX5_append_21 : decode cX5_append 21 = .ok (.aload_n 0, 1) := by decide +kernel
theorem dX5_append_22 : decode cX5_append 22 = .ok (.getfield 46, 3) := by decide +kernel
theorem dX5_append_25 : decode cX5_append 25 = .ok (.iload_n 1, 1) := by decide +kernel
theorem dX5_append_26 : decode cX5_append 26 = .ok (.invokevirtual 268, 3) := by decide +kernel
theorem dX5_append_29 : decode cX5_append 29 = .ok (.ireturn, 1) := by decide +kernel
theorem dX5_run_0 : decode cX5_run 0 = .ok (.aload_n 0, 1) := by decide +kernel
theorem dX5_run_1 : decode cX5_run 1 = .ok (.getfield 46, 3) := by decide +kernel
theorem dX5_run_4 : decode cX5_run 4 = .ok (.invokevirtual 272, 3) := by decide +kernel
theorem dX5_run_7 : decode cX5_run 7 = .ok (.istore_n 1, 1) := by decide +kernel
theorem dX5_run_8 : decode cX5_run 8 = .ok (.aload_n 0, 1) := by decide +kernel
theorem dX5_run_9 : decode cX5_run 9 = .ok (.getfield 46, 3) := by decide +kernel
theorem dX5_run_12 : decode cX5_run 12 = .ok (.invokevirtual 275, 3) := by decide +kernel
theorem dX5_run_15 : decode cX5_run 15 = .ok (.iload_n 1, 1) := by decide +kernel
theorem dX5_run_16 : decode cX5_run 16 = .ok (.ifCond .ne 25, 3) := by decide +kernel
theorem dX5_run_19 : decode cX5_run 19 = .ok (.aload_n 0, 1) := by decide +kernel
theorem dX5_run_20 : decode cX5_run 20 = .ok (.aload_n 0, 1) := by decide +kernel
theorem dX5_run_21 : decode cX5_run 21 = .ok (.getfield 46, 3) := by decide +kernel
theorem dX5_run_24 : decode cX5_run 24 = .ok (.getfield 278, 3) := by decide +kernel
theorem dX5_run_27 : decode cX5_run 27 = .ok (.putfield 61, 3) := by decide +kernel
theorem dX5_run_30 : decode cX5_run 30 = .ok (.new 181, 3) := by decide +kernel
theorem dX5_run_33 : decode cX5_run 33 = .ok (.dup, 1) := by decide +kernel
theorem dX5_run_34 : decode cX5_run 34 = .ok (.ldc_w 281, 3) := by decide +kernel
theorem dX5_run_37 : decode cX5_run 37 = .ok (.invokespecial 185, 3) := by decide +kernel
theorem dX5_run_40 : decode cX5_run 40 = .ok (.athrow, 1) := by decide +kernel
theorem dX5_run_41 : decode cX5_run 41 = .ok (.aload_n 0, 1) := by decide +kernel
theorem dX5_run_42 : decode cX5_run 42 = .ok (.getfield 19, 3) := by decide +kernel
theorem dX5_run_45 : decode cX5_run 45 = .ok (.aload_n 0, 1) := by decide +kernel
theorem dX5_run_46 : decode cX5_run 46 = .ok (.getfield 10, 3) := by decide +kernel
theorem dX5_run_49 : decode cX5_run 49 = .ok (.invokevirtual 186, 3) := by decide +kernel
theorem dX5_run_52 : decode cX5_run 52 = .ok (.aload_n 0, 1) := by decide +kernel
theorem dX5_run_53 : decode cX5_run 53 = .ok (.invokevirtual 283, 3) := by decide +kernel
theorem dX5_run_56 : decode cX5_run 56 = .ok (.istore_n 2, 1) := by decide +kernel
theorem dX5_run_57 : decode cX5_run 57 = .ok (.iload_n 2, 1) := by decide +kernel
theorem dX5_run_58 : decode cX5_run 58 = .ok (.iconst (-1), 1) := by decide +kernel
theorem dX5_run_59 : decode cX5_run 59 = .ok (.if_icmp .eq 30, 3) := by decide +kernel
theorem dX5_run_62 : decode cX5_run 62 = .ok (.aload_n 0, 1) := by decide +kernel
theorem dX5_run_63 : decode cX5_run 63 = .ok (.getfield 10, 3) := by decide +kernel
theorem dX5_run_66 : decode cX5_run 66 = .ok (.aload_n 0, 1) := by decide +kernel
theorem dX5_run_67 : decode cX5_run 67 = .ok (.getfield 19, 3) := by decide +kernel
theorem dX5_run_70 : decode cX5_run 70 = .ok (.invokevirtual 186, 3) := by decide +kernel
theorem dX5_run_73 : decode cX5_run 73 = .ok (.aload_n 0, 1) := by decide +kernel
theorem dX5_run_74 : decode cX5_run 74 = .ok (.iload_n 2, 1) := by decide +kernel
theorem dX5_run_75 : decode cX5_run 75 = .ok (.putfield 65, 3) := by decide +kernel
theorem dX5_run_78 : decode cX5_run 78 = .ok (.new 286, 3) := by decide +kernel
theorem dX5_run_81 : decode cX5_run 81 = .ok (.dup, 1) := by decide +kernel
theorem dX5_run_82 : decode cX5_run 82 = .ok (.ldc_w 288, 3) := by decide +kernel
theorem dX5_run_85 : decode cX5_run 85 = .ok (.invokespecial 290, 3) := by decide +kernel
theorem dX5_run_88 : decode cX5_run 88 = .ok (.athrow, 1) := by decide +kernel
theorem dX5_run_89 : decode cX5_run 89 = .ok (.aload_n 0, 1) := by decide +kernel
theorem dX5_run_90 : decode cX5_run 90 = .ok (.getfield 25, 3) := by decide +kernel
theorem dX5_run_93 : decode cX5_run 93 = .ok (.aload_n 0, 1) := by decide +kernel
theorem dX5_run_94 : decode cX5_run 94 = .ok (.getfield 19, 3) := by decide +kernel
theorem dX5_run_97 : decode cX5_run 97 = .ok (.invokevirtual 76, 3) := by decide +kernel
theorem dX5_run_100 : decode cX5_run 100 = .ok (.aload_n 0, 1) := by decide +kernel
theorem dX5_run_101 : decode cX5_run 101 = .ok (.getfield 46, 3) := by decide +kernel
theorem dX5_run_104 : decode cX5_run 104 = .ok (.getfield 291, 3) := by decide +kernel
theorem dX5_run_107 : decode cX5_run 107 = .ok (.ireturn, 1) := by decide +kernel
theorem dX5_writeMember_0 : decode cX5_writeMember 0 = .ok (.aload_n 0, 1) := by decide +kernel
theorem dX5_writeMember_1 : decode cX5_writeMember 1 = .ok (.iload_n 1, 1) := by decide +kernel
theorem dX5_writeMember_2 : decode cX5_writeMember 2 = .ok (.invokevirtual 127, 3) := by decide +kernel
theorem dX5_writeMember_5 : decode cX5_writeMember 5 = .ok (.aload_n 0, 1) := by decide +kernel
theorem dX5_writeMember_6 : decode cX5_writeMember 6 = .ok (.getfield 53, 3) := by decide +kernel
theorem dX5_writeMember_9 : decode cX5_writeMember 9 = .ok (.iconst 0, 1) := by decide +kernel
theorem dX5_writeMember_10 : decode cX5_writeMember 10 = .ok (.invokevirtual 298, 3) := by decide +kernel
theorem dX5_writeMember_13 : decode cX5_writeMember 13 = .ok (.aload_n 0, 1) := by decide +kernel
theorem dX5_writeMember_14 : decode cX5_writeMember 14 = .ok (.getfield 53, 3) := by decide +kernel
theorem dX5_writeMember_17 : decode cX5_writeMember 17 = .ok (.aload_n 0, 1) := by decide +kernel
theorem dX5_writeMember_18 : decode cX5_writeMember 18 = .ok (.getfield 10, 3) := by decide +kernel
theorem dX5_writeMember_21 : decode cX5_writeMember 21 = .ok (.getfield 130, 3) := by decide +kernel
theorem dX5_writeMember_24 : decode cX5_writeMember 24 = .ok (.iload_n 1, 1) := by decide +kernel
theorem dX5_writeMember_25 : decode cX5_writeMember 25 = .ok (.iaload, 1) := by decide +kernel
theorem dX5_writeMember_26 : decode cX5_writeMember 26 = .ok (.invokevirtual 301, 3) := by decide +kernel
theorem dX5_writeMember_29 : decode cX5_writeMember 29 = .ok (.bipush 37, 2) := by decide +kernel
theorem dX5_writeMember_31 : decode cX5_writeMember 31 = .ok (.invokevirtual 305, 3) := by decide +kernel
theorem dX5_writeMember_34 : decode cX5_writeMember 34 = .ok (.aload_n 0, 1) := by decide +kernel
theorem dX5_writeMember_35 : decode cX5_writeMember 35 = .ok (.getfield 10, 3) := by decide +kernel
theorem dX5_writeMember_38 : decode cX5_writeMember 38 = .ok (.getfield 308, 3) := by decide +kernel
theorem dX5_writeMember_41 : decode cX5_writeMember 41 = .ok (.iload_n 1, 1) := by decide +kernel
theorem dX5_writeMember_42 : decode cX5_writeMember 42 = .ok (.iaload, 1) := by decide +kernel
theorem dX5_writeMember_43 : decode cX5_writeMember 43 = .ok (.invokevirtual 301, 3) := by decide +kernel
theorem dX5_writeMember_46 : decode cX5_writeMember 46 = .ok (.pop, 1) := by decide +kernel
theorem dX5_writeMember_47 : decode cX5_writeMember 47 = .ok (.aload_n 0, 1) := by decide +kernel
theorem dX5_writeMember_48 : decode cX5_writeMember 48 = .ok (.getfield 53, 3) := by decide +kernel
theorem dX5_writeMember_51 : decode cX5_writeMember 51 = .ok (.bipush 43, 2) := by decide +kernel
theorem dX5_writeMember_53 : decode cX5_writeMember 53 = .ok (.invokevirtual 305, 3) := by decide +kernel
theorem dX5_writeMember_56 : decode cX5_writeMember 56 = .ok (.aload_n 0, 1) := by decide +kernel
theorem dX5_writeMember_57 : decode cX5_writeMember 57 = .ok (.getfield 10, 3) := by decide +kernel
theorem dX5_writeMember_60 : decode cX5_writeMember 60 = .ok (.getfield 311, 3) := by decide +kernel
theorem dX5_writeMember_63 : decode cX5_writeMember 63 = .ok (.iload_n 1, 1) := by decide +kernel
theorem dX5_writeMember_64 : decode cX5_writeMember 64 = .ok (.iaload, 1) := by decide +kernel
theorem dX5_writeMember_65 : decode cX5_writeMember 65 = .ok (.invokevirtual 301, 3) := by decide +kernel
theorem dX5_writeMember_68 : decode cX5_writeMember 68 = .ok (.bipush 94, 2) := by decide +kernel
theorem dX5_writeMember_70 : decode cX5_writeMember 70 = .ok (.invokevirtual 305, 3) := by decide +kernel
theorem dX5_writeMember_73 : decode cX5_writeMember 73 = .ok (.aload_n 0, 1) := by decide +kernel
theorem dX5_writeMember_74 : decode cX5_writeMember 74 = .ok (.getfield 10, 3) := by decide +kernel
theorem dX5_writeMember_77 : decode cX5_writeMember 77 = .ok (.getfield 137, 3) := by decide +kernel
theorem dX5_writeMember_80 : decode cX5_writeMember 80 = .ok (.iload_n 1, 1) := by decide +kernel
theorem dX5_writeMember_81 : decode cX5_writeMember 81 = .ok (.iaload, 1) := by decide +kernel
theorem dX5_writeMember_82 : decode cX5_writeMember 82 = .ok (.invokevirtual 301, 3) := by decide +kernel
theorem dX5_writeMember_85 : decode cX5_writeMember 85 = .ok (.pop, 1) := by decide +kernel
theorem dX5_writeMember_86 : decode cX5_writeMember 86 = .ok (.aload_n 0, 1) := by decide +kernel
theorem dX5_writeMember_87 : decode cX5_writeMember 87 = .ok (.getfield 53, 3) := by decide +kernel
theorem dX5_writeMember_90 : decode cX5_writeMember 90 = .ok (.bipush 126, 2) := by decide +kernel
theorem dX5_writeMember_92 : decode cX5_writeMember 92 = .ok (.invokevirtual 305, 3) := by decide +kernel
theorem dX5_writeMember_95 : decode cX5_writeMember 95 = .ok (.aload_n 0, 1) := by decide +kernel
theorem dX5_writeMember_96 : decode cX5_writeMember 96 = .ok (.getfield 10, 3) := by decide +kernel
theorem dX5_writeMember_99 : decode cX5_writeMember 99 = .ok (.getfield 134, 3) := by decide +kernel
theorem dX5_writeMember_102 : decode cX5_writeMember 102 = .ok (.iload_n 1, 1) := by decide +kernel
theorem dX5_writeMember_103 : decode cX5_writeMember 103 = .ok (.iaload, 1) := by decide +kernel
theorem dX5_writeMember_104 : decode cX5_writeMember 104 = .ok (.invokevirtual 301, 3) := by decide +kernel
theorem dX5_writeMember_107 : decode cX5_writeMember 107 = .ok (.bipush 36, 2) := by decide +kernel
theorem dX5_writeMember_109 : decode cX5_writeMember 109 = .ok (.invokevirtual 305, 3) := by decide +kernel
theorem dX5_writeMember_112 : decode cX5_writeMember 112 = .ok (.aload_n 0, 1) := by decide +kernel
theorem dX5_writeMember_113 : decode cX5_writeMember 113 = .ok (.getfield 10, 3) := by decide +kernel
theorem dX5_writeMember_116 : decode cX5_writeMember 116 = .ok (.getfield 140, 3) := by decide +kernel
theorem dX5_writeMember_119 : decode cX5_writeMember 119 = .ok (.iload_n 1, 1) := by decide +kernel
theorem dX5_writeMember_120 : decode cX5_writeMember 120 = .ok (.iaload, 1) := by decide +kernel
theorem dX5_writeMember_121 : decode cX5_writeMember 121 = .ok (.invokevirtual 301, 3) := by decide +kernel
theorem dX5_writeMember_124 : decode cX5_writeMember 124 = .ok (.pop, 1) := by decide +kernel
theorem dX5_writeMember_125 : decode cX5_writeMember 125 = .ok (.aload_n 0, 1) := by decide +kernel
theorem dX5_writeMember_126 : decode cX5_writeMember 126 = .ok (.getfield 53, 3) := by decide +kernel
theorem dX5_writeMember_129 : decode cX5_writeMember 129 = .ok (.invokevirtual 314, 3) := by decide +kernel
theorem dX5_writeMember_132 : decode cX5_writeMember 132 = .ok (.ireturn, 1) := by decide +kernel
theorem dX5_undo_0 : decode cX5_undo 0 = .ok (.aload_n 0, 1) := by decide +kernel
theorem dX5_undo_1 : decode cX5_undo 1 = .ok (.getfield 25, 3) := by decide +kernel
theorem dX5_undo_4 : decode cX5_undo 4 = .ok (.getfield 323, 3) := by decide +kernel
theorem dX5_undo_7 : decode cX5_undo 7 = .ok (.ifCond .ne 14, 3) := by decide +kernel
theorem dX5_undo_10 : decode cX5_undo 10 = .ok (.new 263, 3) := by decide +kernel
theorem dX5_undo_13 : decode cX5_undo 13 = .ok (.dup, 1) := by decide +kernel
theorem dX5_undo_14 : decode cX5_undo 14 = .ok (.ldc_w 326, 3) := by decide +kernel
theorem dX5_undo_17 : decode cX5_undo 17 = .ok (.invokespecial 267, 3) := by decide +kernel
theorem dX5_undo_20 : decode cX5_undo 20 = .ok (.athrow, 1) := by decide +kernel
theorem dX5_undo_21 : decode cX5_undo 21 = .ok (.aload_n 0, 1) := by decide +kernel
theorem dX5_undo_22 : decode cX5_undo 22 = .ok (.getfield 25, 3) := by decide +kernel
theorem dX5_undo_25 : decode cX5_undo 25 = .ok (.aload_n 0, 1) := by decide +kernel
theorem dX5_undo_26 : decode cX5_undo 26 = .ok (.getfield 10, 3) := by decide +kernel
theorem dX5_undo_29 : decode cX5_undo 29 = .ok (.invokevirtual 328, 3) := by decide +kernel
theorem dX5_undo_32 : decode cX5_undo 32 = .ok (.ireturn, 1) := by decide +kernel
theorem dX5_save_0 : decode cX5_save 0 = .ok (.aload_n 0, 1) := by decide +kernel
theorem dX5_save_1 : decode cX5_save 1 = .ok (.getfield 16, 3) := by decide +kernel
theorem dX5_save_4 : decode cX5_save 4 = .ok (.aload_n 0, 1) := by decide +kernel
theorem dX5_save_5 : decode cX5_save 5 = .ok (.getfield 10, 3) := by decide +kernel
theorem dX5_save_8 : decode cX5_save 8 = .ok (.invokevirtual 186, 3) := by decide +kernel
theorem dX5_save_11 : decode cX5_save 11 = .ok (.aload_n 0, 1) := by decide +kernel
theorem dX5_save_12 : decode cX5_save 12 = .ok (.iconst 1, 1) := by decide +kernel
theorem dX5_save_13 : decode cX5_save 13 = .ok (.putfield 57, 3) := by decide +kernel
theorem dX5_save_16 : decode cX5_save 16 = .ok (.return_, 1) := by decide +kernel
theorem dX5_restore_0 : decode cX5_restore 0 = .ok (.aload_n 0, 1) := by decide +kernel
theorem dX5_restore_1 : decode cX5_restore 1 = .ok (.getfield 57, 3) := by decide +kernel
theorem dX5_restore_4 : decode cX5_restore 4 = .ok (.ifCond .ne 14, 3) := by decide +kernel
theorem dX5_restore_7 : decode cX5_restore 7 = .ok (.new 263, 3) := by decide +kernel
theorem dX5_restore_10 : decode cX5_restore 10 = .ok (.dup, 1) := by decide +kernel
theorem dX5_restore_11 : decode cX5_restore 11 = .ok (.ldc_w 331, 3) := by decide +kernel
theorem dX5_restore_14 : decode cX5_restore 14 = .ok (.invokespecial 267, 3) := by decide +kernel
theorem dX5_restore_17 : decode cX5_restore 17 = .ok (.athrow, 1) := by decide +kernel
theorem dX5_restore_18 : decode cX5_restore 18 = .ok (.aload_n 0, 1) := by decide +kernel
theorem dX5_restore_19 : decode cX5_restore 19 = .ok (.getfield 10, 3) := by decide +kernel
theorem dX5_restore_22 : decode cX5_restore 22 = .ok (.aload_n 0, 1) := by decide +kernel
theorem dX5_restore_23 : decode cX5_restore 23 = .ok (.getfield 16, 3) := by decide +kernel
theorem dX5_restore_26 : decode cX5_restore 26 = .ok (.invokevirtual 186, 3) := by decide +kernel
theorem dX5_restore_29 : decode cX5_restore 29 = .ok (.aload_n 0, 1) := by decide +kernel
theorem dX5_restore_30 : decode cX5_restore 30 = .ok (.getfield 25, 3) := by decide +kernel
theorem dX5_restore_33 : decode cX5_restore 33 = .ok (.invokevirtual 333, 3) := by decide +kernel
theorem dX5_restore_36 : decode cX5_restore 36 = .ok (.return_, 1) := by decide +kernel
theorem dX5_needMember_0 : decode cX5_needMember 0 = .ok (.aload_n 0, 1) := by decide +kernel
theorem dX5_needMember_1 : decode cX5_needMember 1 = .ok (.getfield 10, 3) := by decide +kernel
theorem dX5_needMember_4 : decode cX5_needMember 4 = .ok (.iload_n 1, 1) := by decide +kernel
theorem dX5_needMember_5 : decode cX5_needMember 5 = .ok (.invokevirtual 336, 3) := by decide +kernel
theorem dX5_needMember_8 : decode cX5_needMember 8 = .ok (.ifCond .ne 14, 3) := by decide +kernel
theorem dX5_needMember_11 : decode cX5_needMember 11 = .ok (.new 242, 3) := by decide +kernel
theorem dX5_needMember_14 : decode cX5_needMember 14 = .ok (.dup, 1) := by decide +kernel
theorem dX5_needMember_15 : decode cX5_needMember 15 = .ok (.ldc_w 339, 3) := by decide +kernel
theorem dX5_needMember_18 : decode cX5_needMember 18 = .ok (.invokespecial 246, 3) := by decide +kernel
theorem dX5_needMember_21 : decode cX5_needMember 21 = .ok (.athrow, 1) := by decide +kernel
theorem dX5_needMember_22 : decode cX5_needMember 22 = .ok (.return_, 1) := by decide +kernel
theorem dX5_refuse_0 : decode cX5_refuse 0 = .ok (.iload_n 0, 1) := by decide +kernel
theorem dX5_refuse_1 : decode cX5_refuse 1 = .ok (.tableswitch 75 1 4 #[31, 42, 53, 64], 31) := by decide +kernel
theorem dX5_refuse_32 : decode cX5_refuse 32 = .ok (.new 242, 3) := by decide +kernel
theorem dX5_refuse_35 : decode cX5_refuse 35 = .ok (.dup, 1) := by decide +kernel
theorem dX5_refuse_36 : decode cX5_refuse 36 = .ok (.ldc_w 339, 3) := by decide +kernel
theorem dX5_refuse_39 : decode cX5_refuse 39 = .ok (.invokespecial 246, 3) := by decide +kernel
theorem dX5_refuse_42 : decode cX5_refuse 42 = .ok (.athrow, 1) := by decide +kernel
theorem dX5_refuse_43 : decode cX5_refuse 43 = .ok (.new 181, 3) := by decide +kernel
theorem dX5_refuse_46 : decode cX5_refuse 46 = .ok (.dup, 1) := by decide +kernel
theorem dX5_refuse_47 : decode cX5_refuse 47 = .ok (.ldc_w 341, 3) := by decide +kernel
theorem dX5_refuse_50 : decode cX5_refuse 50 = .ok (.invokespecial 185, 3) := by decide +kernel
theorem dX5_refuse_53 : decode cX5_refuse 53 = .ok (.athrow, 1) := by decide +kernel
theorem dX5_refuse_54 : decode cX5_refuse 54 = .ok (.new 263, 3) := by decide +kernel
theorem dX5_refuse_57 : decode cX5_refuse 57 = .ok (.dup, 1) := by decide +kernel
theorem dX5_refuse_58 : decode cX5_refuse 58 = .ok (.ldc_w 343, 3) := by decide +kernel
theorem dX5_refuse_61 : decode cX5_refuse 61 = .ok (.invokespecial 267, 3) := by decide +kernel
theorem dX5_refuse_64 : decode cX5_refuse 64 = .ok (.athrow, 1) := by decide +kernel
theorem dX5_refuse_65 : decode cX5_refuse 65 = .ok (.new 286, 3) := by decide +kernel
theorem dX5_refuse_68 : decode cX5_refuse 68 = .ok (.dup, 1) := by decide +kernel
theorem dX5_refuse_69 : decode cX5_refuse 69 = .ok (.ldc_w 345, 3) := by decide +kernel
theorem dX5_refuse_72 : decode cX5_refuse 72 = .ok (.invokespecial 290, 3) := by decide +kernel
theorem dX5_refuse_75 : decode cX5_refuse 75 = .ok (.athrow, 1) := by decide +kernel
theorem dX5_refuse_76 : decode cX5_refuse 76 = .ok (.return_, 1) := by decide +kernel
theorem dX5_bothWaysAgree_0 : decode cX5_bothWaysAgree 0 = .ok (.aload_n 0, 1) := by decide +kernel
theorem dX5_bothWaysAgree_1 : decode cX5_bothWaysAgree 1 = .ok (.getfield 10, 3) := by decide +kernel
theorem dX5_bothWaysAgree_4 : decode cX5_bothWaysAgree 4 = .ok (.iload_n 1, 1) := by decide +kernel
theorem dX5_bothWaysAgree_5 : decode cX5_bothWaysAgree 5 = .ok (.invokevirtual 159, 3) := by decide +kernel
theorem dX5_bothWaysAgree_8 : decode cX5_bothWaysAgree 8 = .ok (.aload_n 0, 1) := by decide +kernel
theorem dX5_bothWaysAgree_9 : decode cX5_bothWaysAgree 9 = .ok (.getfield 10, 3) := by decide +kernel
theorem dX5_bothWaysAgree_12 : decode cX5_bothWaysAgree 12 = .ok (.iload_n 1, 1) := by decide +kernel
theorem dX5_bothWaysAgree_13 : decode cX5_bothWaysAgree 13 = .ok (.invokevirtual 163, 3) := by decide +kernel
theorem dX5_bothWaysAgree_16 : decode cX5_bothWaysAgree 16 = .ok (.lcmp, 1) := by decide +kernel
theorem dX5_bothWaysAgree_17 : decode cX5_bothWaysAgree 17 = .ok (.ifCond .ne 61, 3) := by decide +kernel
theorem dX5_bothWaysAgree_20 : decode cX5_bothWaysAgree 20 = .ok (.aload_n 0, 1) := by decide +kernel
theorem dX5_bothWaysAgree_21 : decode cX5_bothWaysAgree 21 = .ok (.getfield 32, 3) := by decide +kernel
theorem dX5_bothWaysAgree_24 : decode cX5_bothWaysAgree 24 = .ok (.aload_n 0, 1) := by decide +kernel
theorem dX5_bothWaysAgree_25 : decode cX5_bothWaysAgree 25 = .ok (.getfield 10, 3) := by decide +kernel
theorem dX5_bothWaysAgree_28 : decode cX5_bothWaysAgree 28 = .ok (.iload_n 1, 1) := by decide +kernel
theorem dX5_bothWaysAgree_29 : decode cX5_bothWaysAgree 29 = .ok (.invokevirtual 189, 3) := by decide +kernel
theorem dX5_bothWaysAgree_32 : decode cX5_bothWaysAgree 32 = .ok (.aload_n 0, 1) := by decide +kernel
theorem dX5_bothWaysAgree_33 : decode cX5_bothWaysAgree 33 = .ok (.getfield 32, 3) := by decide +kernel
theorem dX5_bothWaysAgree_36 : decode cX5_bothWaysAgree 36 = .ok (.aload_n 0, 1) := by decide +kernel
theorem dX5_bothWaysAgree_37 : decode cX5_bothWaysAgree 37 = .ok (.getfield 10, 3) := by decide +kernel
theorem dX5_bothWaysAgree_40 : decode cX5_bothWaysAgree 40 = .ok (.iload_n 1, 1) := by decide +kernel
theorem dX5_bothWaysAgree_41 : decode cX5_bothWaysAgree 41 = .ok (.invokevirtual 193, 3) := by decide +kernel
theorem dX5_bothWaysAgree_44 : decode cX5_bothWaysAgree 44 = .ok (.if_icmp .ne 34, 3) := by decide +kernel
theorem dX5_bothWaysAgree_47 : decode cX5_bothWaysAgree 47 = .ok (.aload_n 0, 1) := by decide +kernel
theorem dX5_bothWaysAgree_48 : decode cX5_bothWaysAgree 48 = .ok (.getfield 39, 3) := by decide +kernel
theorem dX5_bothWaysAgree_51 : decode cX5_bothWaysAgree 51 = .ok (.aload_n 0, 1) := by decide +kernel
theorem dX5_bothWaysAgree_52 : decode cX5_bothWaysAgree 52 = .ok (.getfield 10, 3) := by decide +kernel
theorem dX5_bothWaysAgree_55 : decode cX5_bothWaysAgree 55 = .ok (.iload_n 1, 1) := by decide +kernel
theorem dX5_bothWaysAgree_56 : decode cX5_bothWaysAgree 56 = .ok (.invokevirtual 210, 3) := by decide +kernel
theorem dX5_bothWaysAgree_59 : decode cX5_bothWaysAgree 59 = .ok (.aload_n 0, 1) := by decide +kernel
theorem dX5_bothWaysAgree_60 : decode cX5_bothWaysAgree 60 = .ok (.getfield 39, 3) := by decide +kernel
theorem dX5_bothWaysAgree_63 : decode cX5_bothWaysAgree 63 = .ok (.aload_n 0, 1) := by decide +kernel
theorem dX5_bothWaysAgree_64 : decode cX5_bothWaysAgree 64 = .ok (.getfield 10, 3) := by decide +kernel
theorem dX5_bothWaysAgree_67 : decode cX5_bothWaysAgree 67 = .ok (.iload_n 1, 1) := by decide +kernel
theorem dX5_bothWaysAgree_68 : decode cX5_bothWaysAgree 68 = .ok (.invokevirtual 213, 3) := by decide +kernel
theorem dX5_bothWaysAgree_71 : decode cX5_bothWaysAgree 71 = .ok (.if_icmp .ne 7, 3) := by decide +kernel
theorem dX5_bothWaysAgree_74 : decode cX5_bothWaysAgree 74 = .ok (.iconst 1, 1) := by decide +kernel
theorem dX5_bothWaysAgree_75 : decode cX5_bothWaysAgree 75 = .ok (.goto 4, 3) := by decide +kernel
theorem dX5_bothWaysAgree_78 : decode cX5_bothWaysAgree 78 = .ok (.iconst 0, 1) := by decide +kernel
theorem dX5_bothWaysAgree_79 : decode cX5_bothWaysAgree 79 = .ok (.ireturn, 1) := by decide +kernel
theorem dX5_firstFailingCommand_0 : decode cX5_firstFailingCommand 0 = .ok (.iconst 0, 1) := by decide +kernel
theorem dX5_firstFailingCommand_1 : decode cX5_firstFailingCommand 1 = .ok (.istore_n 1, 1) := by decide +kernel
theorem dX5_firstFailingCommand_2 : decode cX5_firstFailingCommand 2 = .ok (.iload_n 1, 1) := by decide +kernel
theorem dX5_firstFailingCommand_3 : decode cX5_firstFailingCommand 3 = .ok (.aload_n 0, 1) := by decide +kernel
theorem dX5_firstFailingCommand_4 : decode cX5_firstFailingCommand 4 = .ok (.getfield 46, 3) := by decide +kernel
theorem dX5_firstFailingCommand_7 : decode cX5_firstFailingCommand 7 = .ok (.getfield 291, 3) := by decide +kernel
theorem dX5_firstFailingCommand_10 : decode cX5_firstFailingCommand 10 = .ok (.if_icmp .ge 24, 3) := by decide +kernel
theorem dX5_firstFailingCommand_13 : decode cX5_firstFailingCommand 13 = .ok (.aload_n 0, 1) := by decide +kernel
theorem dX5_firstFailingCommand_14 : decode cX5_firstFailingCommand 14 = .ok (.iload_n 1, 1) := by decide +kernel
theorem dX5_firstFailingCommand_15 : decode cX5_firstFailingCommand 15 = .ok (.invokevirtual 347, 3) := by decide +kernel
theorem dX5_firstFailingCommand_18 : decode cX5_firstFailingCommand 18 = .ok (.ifCond .eq 5, 3) := by decide +kernel
theorem dX5_firstFailingCommand_21 : decode cX5_firstFailingCommand 21 = .ok (.iload_n 1, 1) := by decide +kernel
theorem dX5_firstFailingCommand_22 : decode cX5_firstFailingCommand 22 = .ok (.ireturn, 1) := by decide +kernel
theorem dX5_firstFailingCommand_23 : decode cX5_firstFailingCommand 23 = .ok (.aload_n 0, 1) := by decide +kernel
theorem dX5_firstFailingCommand_24 : decode cX5_firstFailingCommand 24 = .ok (.iload_n 1, 1) := by decide +kernel
theorem dX5_firstFailingCommand_25 : decode cX5_firstFailingCommand 25 = .ok (.invokevirtual 350, 3) := by decide +kernel
theorem dX5_firstFailingCommand_28 : decode cX5_firstFailingCommand 28 = .ok (.iinc 1 1, 3) := by decide +kernel
theorem dX5_firstFailingCommand_31 : decode cX5_firstFailingCommand 31 = .ok (.goto (-29), 3) := by decide +kernel
theorem dX5_firstFailingCommand_34 : decode cX5_firstFailingCommand 34 = .ok (.iconst (-1), 1) := by decide +kernel
theorem dX5_firstFailingCommand_35 : decode cX5_firstFailingCommand 35 = .ok (.ireturn, 1) := by decide +kernel
theorem dX5_faultOfCommand_0 : decode cX5_faultOfCommand 0 = .ok (.aload_n 0, 1) := by decide +kernel
theorem dX5_faultOfCommand_1 : decode cX5_faultOfCommand 1 = .ok (.getfield 46, 3) := by decide +kernel
theorem dX5_faultOfCommand_4 : decode cX5_faultOfCommand 4 = .ok (.iload_n 1, 1) := by decide +kernel
theorem dX5_faultOfCommand_5 : decode cX5_faultOfCommand 5 = .ok (.iconst 0, 1) := by decide +kernel
theorem dX5_faultOfCommand_6 : decode cX5_faultOfCommand 6 = .ok (.invokevirtual 353, 3) := by decide +kernel
theorem dX5_faultOfCommand_9 : decode cX5_faultOfCommand 9 = .ok (.istore_n 2, 1) := by decide +kernel
theorem dX5_faultOfCommand_10 : decode cX5_faultOfCommand 10 = .ok (.aload_n 0, 1) := by decide +kernel
theorem dX5_faultOfCommand_11 : decode cX5_faultOfCommand 11 = .ok (.getfield 46, 3) := by decide +kernel
theorem dX5_faultOfCommand_14 : decode cX5_faultOfCommand 14 = .ok (.iload_n 1, 1) := by decide +kernel
theorem dX5_faultOfCommand_15 : decode cX5_faultOfCommand 15 = .ok (.iconst 1, 1) := by decide +kernel
theorem dX5_faultOfCommand_16 : decode cX5_faultOfCommand 16 = .ok (.invokevirtual 353, 3) := by decide +kernel
theorem dX5_faultOfCommand_19 : decode cX5_faultOfCommand 19 = .ok (.istore_n 3, 1) := by decide +kernel
theorem dX5_faultOfCommand_20 : decode cX5_faultOfCommand 20 = .ok (.aload_n 0, 1) := by decide +kernel
theorem dX5_faultOfCommand_21 : decode cX5_faultOfCommand 21 = .ok (.getfield 46, 3) := by decide +kernel
theorem dX5_faultOfCommand_24 : decode cX5_faultOfCommand 24 = .ok (.iload_n 1, 1) := by decide +kernel
theorem dX5_faultOfCommand_25 : decode cX5_faultOfCommand 25 = .ok (.invokevirtual 356, 3) := by decide +kernel
theorem dX5_faultOfCommand_28 : decode cX5_faultOfCommand 28 = .ok (.tableswitch 115 0 5 #[40, 68, 78, 88, 98, 107], 40) := by decide +kernel
theorem dX5_faultOfCommand_68 : decode cX5_faultOfCommand 68 = .ok (.aload_n 0, 1) := by decide +kernel
theorem dX5_faultOfCommand_69 : decode cX5_faultOfCommand 69 = .ok (.getfield 10, 3) := by decide +kernel
theorem dX5_faultOfCommand_72 : decode cX5_faultOfCommand 72 = .ok (.iload_n 2, 1) := by decide +kernel
theorem dX5_faultOfCommand_73 : decode cX5_faultOfCommand 73 = .ok (.iload_n 3, 1) := by decide +kernel
theorem dX5_faultOfCommand_74 : decode cX5_faultOfCommand 74 = .ok (.aload_n 0, 1) := by decide +kernel
theorem dX5_faultOfCommand_75 : decode cX5_faultOfCommand 75 = .ok (.getfield 46, 3) := by decide +kernel
theorem dX5_faultOfCommand_78 : decode cX5_faultOfCommand 78 = .ok (.iload_n 1, 1) := by decide +kernel
theorem dX5_faultOfCommand_79 : decode cX5_faultOfCommand 79 = .ok (.iconst 2, 1) := by decide +kernel
theorem dX5_faultOfCommand_80 : decode cX5_faultOfCommand 80 = .ok (.invokevirtual 353, 3) := by decide +kernel
theorem dX5_faultOfCommand_83 : decode cX5_faultOfCommand 83 = .ok (.aload_n 0, 1) := by decide +kernel
theorem dX5_faultOfCommand_84 : decode cX5_faultOfCommand 84 = .ok (.getfield 46, 3) := by decide +kernel
theorem dX5_faultOfCommand_87 : decode cX5_faultOfCommand 87 = .ok (.iload_n 1, 1) := by decide +kernel
theorem dX5_faultOfCommand_88 : decode cX5_faultOfCommand 88 = .ok (.iconst 3, 1) := by decide +kernel
theorem dX5_faultOfCommand_89 : decode cX5_faultOfCommand 89 = .ok (.invokevirtual 353, 3) := by decide +kernel
theorem dX5_faultOfCommand_92 : decode cX5_faultOfCommand 92 = .ok (.invokevirtual 68, 3) := by decide +kernel
theorem dX5_faultOfCommand_95 : decode cX5_faultOfCommand 95 = .ok (.ireturn, 1) := by decide +kernel
theorem dX5_faultOfCommand_96 : decode cX5_faultOfCommand 96 = .ok (.aload_n 0, 1) := by decide +kernel
theorem dX5_faultOfCommand_97 : decode cX5_faultOfCommand 97 = .ok (.getfield 10, 3) := by decide +kernel
theorem dX5_faultOfCommand_100 : decode cX5_faultOfCommand 100 = .ok (.iload_n 2, 1) := by decide +kernel
theorem dX5_faultOfCommand_101 : decode cX5_faultOfCommand 101 = .ok (.iload_n 3, 1) := by decide +kernel
theorem dX5_faultOfCommand_102 : decode cX5_faultOfCommand 102 = .ok (.invokevirtual 83, 3) := by decide +kernel
theorem dX5_faultOfCommand_105 : decode cX5_faultOfCommand 105 = .ok (.ireturn, 1) := by decide +kernel
theorem dX5_faultOfCommand_106 : decode cX5_faultOfCommand 106 = .ok (.aload_n 0, 1) := by decide +kernel
theorem dX5_faultOfCommand_107 : decode cX5_faultOfCommand 107 = .ok (.getfield 10, 3) := by decide +kernel
theorem dX5_faultOfCommand_110 : decode cX5_faultOfCommand 110 = .ok (.iload_n 2, 1) := by decide +kernel
theorem dX5_faultOfCommand_111 : decode cX5_faultOfCommand 111 = .ok (.iload_n 3, 1) := by decide +kernel
theorem dX5_faultOfCommand_112 : decode cX5_faultOfCommand 112 = .ok (.invokevirtual 90, 3) := by decide +kernel
theorem dX5_faultOfCommand_115 : decode cX5_faultOfCommand 115 = .ok (.ireturn, 1) := by decide +kernel
theorem dX5_faultOfCommand_116 : decode cX5_faultOfCommand 116 = .ok (.aload_n 0, 1) := by decide +kernel
theorem dX5_faultOfCommand_117 : decode cX5_faultOfCommand 117 = .ok (.getfield 10, 3) := by decide +kernel
theorem dX5_faultOfCommand_120 : decode cX5_faultOfCommand 120 = .ok (.iload_n 2, 1) := by decide +kernel
theorem dX5_faultOfCommand_121 : decode cX5_faultOfCommand 121 = .ok (.iload_n 3, 1) := by decide +kernel
theorem dX5_faultOfCommand_122 : decode cX5_faultOfCommand 122 = .ok (.invokevirtual 96, 3) := by decide +kernel
theorem dX5_faultOfCommand_125 : decode cX5_faultOfCommand 125 = .ok (.ireturn, 1) := by decide +kernel
theorem dX5_faultOfCommand_126 : decode cX5_faultOfCommand 126 = .ok (.aload_n 0, 1) := by decide +kernel
theorem dX5_faultOfCommand_127 : decode cX5_faultOfCommand 127 = .ok (.getfield 10, 3) := by decide +kernel
theorem dX5_faultOfCommand_130 : decode cX5_faultOfCommand 130 = .ok (.iload_n 2, 1) := by decide +kernel
theorem dX5_faultOfCommand_131 : decode cX5_faultOfCommand 131 = .ok (.invokevirtual 102, 3) := by decide +kernel
theorem dX5_faultOfCommand_134 : decode cX5_faultOfCommand 134 = .ok (.ireturn, 1) := by decide +kernel
theorem dX5_faultOfCommand_135 : decode cX5_faultOfCommand 135 = .ok (.aload_n 0, 1) := by decide +kernel
theorem dX5_faultOfCommand_136 : decode cX5_faultOfCommand 136 = .ok (.getfield 10, 3) := by decide +kernel
theorem dX5_faultOfCommand_139 : decode cX5_faultOfCommand 139 = .ok (.invokevirtual 109, 3) := by decide +kernel
theorem dX5_faultOfCommand_142 : decode cX5_faultOfCommand 142 = .ok (.ireturn, 1) := by decide +kernel
theorem dX5_faultOfCommand_143 : decode cX5_faultOfCommand 143 = .ok (.aload_n 0, 1) := by decide +kernel
theorem dX5_faultOfCommand_144 : decode cX5_faultOfCommand 144 = .ok (.getfield 10, 3) := by decide +kernel
theorem dX5_faultOfCommand_147 : decode cX5_faultOfCommand 147 = .ok (.iload_n 2, 1) := by decide +kernel
theorem dX5_faultOfCommand_148 : decode cX5_faultOfCommand 148 = .ok (.iload_n 3, 1) := by decide +kernel
theorem dX5_faultOfCommand_149 : decode cX5_faultOfCommand 149 = .ok (.invokevirtual 117, 3) := by decide +kernel
theorem dX5_faultOfCommand_152 : decode cX5_faultOfCommand 152 = .ok (.ireturn, 1) := by decide +kernel
theorem dX5_carryOut_0 : decode cX5_carryOut 0 = .ok (.aload_n 0, 1) := by decide +kernel
theorem dX5_carryOut_1 : decode cX5_carryOut 1 = .ok (.getfield 46, 3) := by decide +kernel
theorem dX5_carryOut_4 : decode cX5_carryOut 4 = .ok (.iload_n 1, 1) := by decide +kernel
theorem dX5_carryOut_5 : decode cX5_carryOut 5 = .ok (.iconst 0, 1) := by decide +kernel
theorem dX5_carryOut_6 : decode cX5_carryOut 6 = .ok (.invokevirtual 353, 3) := by decide +kernel
theorem dX5_carryOut_9 : decode cX5_carryOut 9 = .ok (.istore_n 2, 1) := by decide +kernel
theorem dX5_carryOut_10 : decode cX5_carryOut 10 = .ok (.aload_n 0, 1) := by decide +kernel
theorem dX5_carryOut_11 : decode cX5_carryOut 11 = .ok (.getfield 46, 3) := by decide +kernel
theorem dX5_carryOut_14 : decode cX5_carryOut 14 = .ok (.iload_n 1, 1) := by decide +kernel
theorem dX5_carryOut_15 : decode cX5_carryOut 15 = .ok (.iconst 1, 1) := by decide +kernel
theorem dX5_carryOut_16 : decode cX5_carryOut 16 = .ok (.invokevirtual 353, 3) := by decide +kernel
theorem dX5_carryOut_19 : decode cX5_carryOut 19 = .ok (.istore_n 3, 1) := by decide +kernel
theorem dX5_carryOut_20 : decode cX5_carryOut 20 = .ok (.aload_n 0, 1) := by decide +kernel
theorem dX5_carryOut_21 : decode cX5_carryOut 21 = .ok (.getfield 46, 3) := by decide +kernel
theorem dX5_carryOut_24 : decode cX5_carryOut 24 = .ok (.iload_n 1, 1) := by decide +kernel
theorem dX5_carryOut_25 : decode cX5_carryOut 25 = .ok (.invokevirtual 356, 3) := by decide +kernel
theorem dX5_carryOut_28 : decode cX5_carryOut 28 = .ok (.tableswitch 137 0 5 #[40, 71, 84, 97, 110, 122], 40) := by decide +kernel
theorem dX5_carryOut_68 : decode cX5_carryOut 68 = .ok (.aload_n 0, 1) := by decide +kernel
theorem dX5_carryOut_69 : decode cX5_carryOut 69 = .ok (.getfield 10, 3) := by decide +kernel
theorem dX5_carryOut_72 : decode cX5_carryOut 72 = .ok (.iload_n 2, 1) := by decide +kernel
theorem dX5_carryOut_73 : decode cX5_carryOut 73 = .ok (.iload_n 3, 1) := by decide +kernel
theorem dX5_carryOut_74 : decode cX5_carryOut 74 = .ok (.aload_n 0, 1) := by decide +kernel
theorem dX5_carryOut_75 : decode cX5_carryOut 75 = .ok (.getfield 46, 3) := by decide +kernel
theorem dX5_carryOut_78 : decode cX5_carryOut 78 = .ok (.iload_n 1, 1) := by decide +kernel
theorem dX5_carryOut_79 : decode cX5_carryOut 79 = .ok (.iconst 2, 1) := by decide +kernel
theorem dX5_carryOut_80 : decode cX5_carryOut 80 = .ok (.invokevirtual 353, 3) := by decide +kernel
theorem dX5_carryOut_83 : decode cX5_carryOut 83 = .ok (.aload_n 0, 1) := by decide +kernel
theorem dX5_carryOut_84 : decode cX5_carryOut 84 = .ok (.getfield 46, 3) := by decide +kernel
theorem dX5_carryOut_87 : decode cX5_carryOut 87 = .ok (.iload_n 1, 1) := by decide +kernel
theorem dX5_carryOut_88 : decode cX5_carryOut 88 = .ok (.iconst 3, 1) := by decide +kernel
theorem dX5_carryOut_89 : decode cX5_carryOut 89 = .ok (.invokevirtual 353, 3) := by decide +kernel
theorem dX5_carryOut_92 : decode cX5_carryOut 92 = .ok (.invokevirtual 80, 3) := by decide +kernel
theorem dX5_carryOut_95 : decode cX5_carryOut 95 = .ok (.pop, 1) := by decide +kernel
theorem dX5_carryOut_96 : decode cX5_carryOut 96 = .ok (.goto 79, 3) := by decide +kernel
theorem dX5_carryOut_99 : decode cX5_carryOut 99 = .ok (.aload_n 0, 1) := by decide +kernel
theorem dX5_carryOut_100 : decode cX5_carryOut 100 = .ok (.getfield 10, 3) := by decide +kernel
theorem dX5_carryOut_103 : decode cX5_carryOut 103 = .ok (.iload_n 2, 1) := by decide +kernel
theorem dX5_carryOut_104 : decode cX5_carryOut 104 = .ok (.iload_n 3, 1) := by decide +kernel
theorem dX5_carryOut_105 : decode cX5_carryOut 105 = .ok (.invokevirtual 87, 3) := by decide +kernel
theorem dX5_carryOut_108 : decode cX5_carryOut 108 = .ok (.pop, 1) := by decide +kernel
theorem dX5_carryOut_109 : decode cX5_carryOut 109 = .ok (.goto 66, 3) := by decide +kernel
theorem dX5_carryOut_112 : decode cX5_carryOut 112 = .ok (.aload_n 0, 1) := by decide +kernel
theorem dX5_carryOut_113 : decode cX5_carryOut 113 = .ok (.getfield 10, 3) := by decide +kernel
theorem dX5_carryOut_116 : decode cX5_carryOut 116 = .ok (.iload_n 2, 1) := by decide +kernel
theorem dX5_carryOut_117 : decode cX5_carryOut 117 = .ok (.iload_n 3, 1) := by decide +kernel
theorem dX5_carryOut_118 : decode cX5_carryOut 118 = .ok (.invokevirtual 93, 3) := by decide +kernel
theorem dX5_carryOut_121 : decode cX5_carryOut 121 = .ok (.pop, 1) := by decide +kernel
theorem dX5_carryOut_122 : decode cX5_carryOut 122 = .ok (.goto 53, 3) := by decide +kernel
theorem dX5_carryOut_125 : decode cX5_carryOut 125 = .ok (.aload_n 0, 1) := by decide +kernel
theorem dX5_carryOut_126 : decode cX5_carryOut 126 = .ok (.getfield 10, 3) := by decide +kernel
theorem dX5_carryOut_129 : decode cX5_carryOut 129 = .ok (.iload_n 2, 1) := by decide +kernel
theorem dX5_carryOut_130 : decode cX5_carryOut 130 = .ok (.iload_n 3, 1) := by decide +kernel
theorem dX5_carryOut_131 : decode cX5_carryOut 131 = .ok (.invokevirtual 99, 3) := by decide +kernel
theorem dX5_carryOut_134 : decode cX5_carryOut 134 = .ok (.pop, 1) := by decide +kernel
theorem dX5_carryOut_135 : decode cX5_carryOut 135 = .ok (.goto 40, 3) := by decide +kernel
theorem dX5_carryOut_138 : decode cX5_carryOut 138 = .ok (.aload_n 0, 1) := by decide +kernel
theorem dX5_carryOut_139 : decode cX5_carryOut 139 = .ok (.getfield 10, 3) := by decide +kernel
theorem dX5_carryOut_142 : decode cX5_carryOut 142 = .ok (.iload_n 2, 1) := by decide +kernel
theorem dX5_carryOut_143 : decode cX5_carryOut 143 = .ok (.invokevirtual 106, 3) := by decide +kernel
theorem dX5_carryOut_146 : decode cX5_carryOut 146 = .ok (.pop, 1) := by decide +kernel
theorem dX5_carryOut_147 : decode cX5_carryOut 147 = .ok (.goto 28, 3) := by decide +kernel
theorem dX5_carryOut_150 : decode cX5_carryOut 150 = .ok (.aload_n 0, 1) := by decide +kernel
theorem dX5_carryOut_151 : decode cX5_carryOut 151 = .ok (.getfield 32, 3) := by decide +kernel
theorem dX5_carryOut_154 : decode cX5_carryOut 154 = .ok (.aload_n 0, 1) := by decide +kernel
theorem dX5_carryOut_155 : decode cX5_carryOut 155 = .ok (.getfield 10, 3) := by decide +kernel
theorem dX5_carryOut_158 : decode cX5_carryOut 158 = .ok (.invokevirtual 113, 3) := by decide +kernel
theorem dX5_carryOut_161 : decode cX5_carryOut 161 = .ok (.pop, 1) := by decide +kernel
theorem dX5_carryOut_162 : decode cX5_carryOut 162 = .ok (.goto 13, 3) := by decide +kernel
theorem dX5_carryOut_165 : decode cX5_carryOut 165 = .ok (.aload_n 0, 1) := by decide +kernel
theorem dX5_carryOut_166 : decode cX5_carryOut 166 = .ok (.getfield 10, 3) := by decide +kernel
theorem dX5_carryOut_169 : decode cX5_carryOut 169 = .ok (.iload_n 2, 1) := by decide +kernel
theorem dX5_carryOut_170 : decode cX5_carryOut 170 = .ok (.iload_n 3, 1) := by decide +kernel
theorem dX5_carryOut_171 : decode cX5_carryOut 171 = .ok (.invokevirtual 120, 3) := by decide +kernel
theorem dX5_carryOut_174 : decode cX5_carryOut 174 = .ok (.pop, 1) := by decide +kernel
theorem dX5_carryOut_175 : decode cX5_carryOut 175 = .ok (.return_, 1) := by decide +kernel
theorem dX5_stepsBetween_0 : decode cX5_stepsBetween 0 = .ok (.iload_n 0, 1) := by decide +kernel
theorem dX5_stepsBetween_1 : decode cX5_stepsBetween 1 = .ok (.iload_n 1, 1) := by decide +kernel
theorem dX5_stepsBetween_2 : decode cX5_stepsBetween 2 = .ok (.if_icmp .ge 9, 3) := by decide +kernel
theorem dX5_stepsBetween_5 : decode cX5_stepsBetween 5 = .ok (.iload_n 1, 1) := by decide +kernel
theorem dX5_stepsBetween_6 : decode cX5_stepsBetween 6 = .ok (.iload_n 0, 1) := by decide +kernel
theorem dX5_stepsBetween_7 : decode cX5_stepsBetween 7 = .ok (.isub, 1) := by decide +kernel
theorem dX5_stepsBetween_8 : decode cX5_stepsBetween 8 = .ok (.goto 6, 3) := by decide +kernel
theorem dX5_stepsBetween_11 : decode cX5_stepsBetween 11 = .ok (.iload_n 0, 1) := by decide +kernel
theorem dX5_stepsBetween_12 : decode cX5_stepsBetween 12 = .ok (.iload_n 1, 1) := by decide +kernel
theorem dX5_stepsBetween_13 : decode cX5_stepsBetween 13 = .ok (.isub, 1) := by decide +kernel
theorem dX5_stepsBetween_14 : decode cX5_stepsBetween 14 = .ok (.istore_n 2, 1) := by decide +kernel
theorem dX5_stepsBetween_15 : decode cX5_stepsBetween 15 = .ok (.iload_n 2, 1) := by decide +kernel
theorem dX5_stepsBetween_16 : decode cX5_stepsBetween 16 = .ok (.bipush 6, 2) := by decide +kernel
theorem dX5_stepsBetween_18 : decode cX5_stepsBetween 18 = .ok (.if_icmp .le 10, 3) := by decide +kernel
theorem dX5_stepsBetween_21 : decode cX5_stepsBetween 21 = .ok (.bipush 12, 2) := by decide +kernel
theorem dX5_stepsBetween_23 : decode cX5_stepsBetween 23 = .ok (.iload_n 2, 1) := by decide +kernel
theorem dX5_stepsBetween_24 : decode cX5_stepsBetween 24 = .ok (.isub, 1) := by decide +kernel
theorem dX5_stepsBetween_25 : decode cX5_stepsBetween 25 = .ok (.goto 4, 3) := by decide +kernel
theorem dX5_stepsBetween_28 : decode cX5_stepsBetween 28 = .ok (.iload_n 2, 1) := by decide +kernel
theorem dX5_stepsBetween_29 : decode cX5_stepsBetween 29 = .ok (.ireturn, 1) := by decide +kernel
