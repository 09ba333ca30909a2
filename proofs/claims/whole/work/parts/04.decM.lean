theorem dX6_init_0 : decode cX6_init 0 = .ok (.aload_n 0, 1) := by decide +kernel
theorem dX6_init_1 : decode cX6_init 1 = .ok (.invokespecial 1, 3) := by decide +kernel
theorem dX6_init_4 : decode cX6_init 4 = .ok (.aload_n 0, 1) := by decide +kernel
theorem dX6_init_5 : decode cX6_init 5 = .ok (.bipush 74, 2) := by decide +kernel
theorem dX6_init_7 : decode cX6_init 7 = .ok (.newarray .int, 2) := by decide +kernel
theorem dX6_init_9 : decode cX6_init 9 = .ok (.putfield 7, 3) := by decide +kernel
theorem dX6_init_12 : decode cX6_init 12 = .ok (.aload_n 0, 1) := by decide +kernel
theorem dX6_init_13 : decode cX6_init 13 = .ok (.bipush 74, 2) := by decide +kernel
theorem dX6_init_15 : decode cX6_init 15 = .ok (.newarray .int, 2) := by decide +kernel
theorem dX6_init_17 : decode cX6_init 17 = .ok (.putfield 13, 3) := by decide +kernel
theorem dX6_init_20 : decode cX6_init 20 = .ok (.aload_n 0, 1) := by decide +kernel
theorem dX6_init_21 : decode cX6_init 21 = .ok (.bipush 74, 2) := by decide +kernel
theorem dX6_init_23 : decode cX6_init 23 = .ok (.newarray .int, 2) := by decide +kernel
theorem dX6_init_25 : decode cX6_init 25 = .ok (.putfield 16, 3) := by decide +kernel
theorem dX6_init_28 : decode cX6_init 28 = .ok (.aload_n 0, 1) := by decide +kernel
theorem dX6_init_29 : decode cX6_init 29 = .ok (.sipush 592, 3) := by decide +kernel
theorem dX6_init_32 : decode cX6_init 32 = .ok (.newarray .int, 2) := by decide +kernel
theorem dX6_init_34 : decode cX6_init 34 = .ok (.putfield 19, 3) := by decide +kernel
theorem dX6_init_37 : decode cX6_init 37 = .ok (.aload_n 0, 1) := by decide +kernel
theorem dX6_init_38 : decode cX6_init 38 = .ok (.bipush 74, 2) := by decide +kernel
theorem dX6_init_40 : decode cX6_init 40 = .ok (.newarray .int, 2) := by decide +kernel
theorem dX6_init_42 : decode cX6_init 42 = .ok (.putfield 22, 3) := by decide +kernel
theorem dX6_init_45 : decode cX6_init 45 = .ok (.aload_n 0, 1) := by decide +kernel
theorem dX6_init_46 : decode cX6_init 46 = .ok (.bipush 60, 2) := by decide +kernel
theorem dX6_init_48 : decode cX6_init 48 = .ok (.newarray .int, 2) := by decide +kernel
theorem dX6_init_50 : decode cX6_init 50 = .ok (.putfield 25, 3) := by decide +kernel
theorem dX6_init_53 : decode cX6_init 53 = .ok (.aload_n 0, 1) := by decide +kernel
theorem dX6_init_54 : decode cX6_init 54 = .ok (.sipush 300, 3) := by decide +kernel
theorem dX6_init_57 : decode cX6_init 57 = .ok (.newarray .int, 2) := by decide +kernel
theorem dX6_init_59 : decode cX6_init 59 = .ok (.putfield 28, 3) := by decide +kernel
theorem dX6_init_62 : decode cX6_init 62 = .ok (.aload_n 0, 1) := by decide +kernel
theorem dX6_init_63 : decode cX6_init 63 = .ok (.bipush 60, 2) := by decide +kernel
theorem dX6_init_65 : decode cX6_init 65 = .ok (.newarray .int, 2) := by decide +kernel
theorem dX6_init_67 : decode cX6_init 67 = .ok (.putfield 31, 3) := by decide +kernel
theorem dX6_init_70 : decode cX6_init 70 = .ok (.aload_n 0, 1) := by decide +kernel
theorem dX6_init_71 : decode cX6_init 71 = .ok (.iconst (-1), 1) := by decide +kernel
theorem dX6_init_72 : decode cX6_init 72 = .ok (.putfield 34, 3) := by decide +kernel
theorem dX6_init_75 : decode cX6_init 75 = .ok (.aload_n 0, 1) := by decide +kernel
theorem dX6_init_76 : decode cX6_init 76 = .ok (.iconst (-1), 1) := by decide +kernel
theorem dX6_init_77 : decode cX6_init 77 = .ok (.putfield 38, 3) := by decide +kernel
theorem dX6_init_80 : decode cX6_init 80 = .ok (.return_, 1) := by decide +kernel
theorem dX6_thrown_0 : decode cX6_thrown 0 = .ok (.aload_n 0, 1) := by decide +kernel
theorem dX6_thrown_1 : decode cX6_thrown 1 = .ok (.getfield 41, 3) := by decide +kernel
theorem dX6_thrown_4 : decode cX6_thrown 4 = .ok (.ireturn, 1) := by decide +kernel
theorem dX6_fails_0 : decode cX6_fails 0 = .ok (.aload_n 0, 1) := by decide +kernel
theorem dX6_fails_1 : decode cX6_fails 1 = .ok (.iload_n 1, 1) := by decide +kernel
theorem dX6_fails_2 : decode cX6_fails 2 = .ok (.putfield 41, 3) := by decide +kernel
theorem dX6_fails_5 : decode cX6_fails 5 = .ok (.iconst 0, 1) := by decide +kernel
theorem dX6_fails_6 : decode cX6_fails 6 = .ok (.ireturn, 1) := by decide +kernel
theorem dX6_in_0 : decode cX6_in 0 = .ok (.iload_n 0, 1) := by decide +kernel
theorem dX6_in_1 : decode cX6_in 1 = .ok (.iload_n 1, 1) := by decide +kernel
theorem dX6_in_2 : decode cX6_in 2 = .ok (.if_icmp .lt 12, 3) := by decide +kernel
theorem dX6_in_5 : decode cX6_in 5 = .ok (.iload_n 0, 1) := by decide +kernel
theorem dX6_in_6 : decode cX6_in 6 = .ok (.iload_n 2, 1) := by decide +kernel
theorem dX6_in_7 : decode cX6_in 7 = .ok (.if_icmp .gt 7, 3) := by decide +kernel
theorem dX6_in_10 : decode cX6_in 10 = .ok (.iconst 1, 1) := by decide +kernel
theorem dX6_in_11 : decode cX6_in 11 = .ok (.goto 4, 3) := by decide +kernel
theorem dX6_in_14 : decode cX6_in 14 = .ok (.iconst 0, 1) := by decide +kernel
theorem dX6_in_15 : decode cX6_in 15 = .ok (.ireturn, 1) := by decide +kernel
theorem dX6_remembers_0 : decode cX6_remembers 0 = .ok (.aload_n 0, 1) := by decide +kernel
theorem dX6_remembers_1 : decode cX6_remembers 1 = .ok (.iconst 0, 1) := by decide +kernel
theorem dX6_remembers_2 : decode cX6_remembers 2 = .ok (.putfield 41, 3) := by decide +kernel
theorem dX6_remembers_5 : decode cX6_remembers 5 = .ok (.iconst 0, 1) := by decide +kernel
theorem dX6_remembers_6 : decode cX6_remembers 6 = .ok (.istore_n 1, 1) := by decide +kernel
theorem dX6_remembers_7 : decode cX6_remembers 7 = .ok (.iload_n 1, 1) := by decide +kernel
theorem dX6_remembers_8 : decode cX6_remembers 8 = .ok (.bipush 74, 2) := by decide +kernel
theorem dX6_remembers_10 : decode cX6_remembers 10 = .ok (.if_icmp .ge 21, 3) := by decide +kernel
theorem dX6_remembers_13 : decode cX6_remembers 13 = .ok (.aload_n 0, 1) := by decide +kernel
theorem dX6_remembers_14 : decode cX6_remembers 14 = .ok (.getfield 13, 3) := by decide +kernel
theorem dX6_remembers_17 : decode cX6_remembers 17 = .ok (.iload_n 1, 1) := by decide +kernel
theorem dX6_remembers_18 : decode cX6_remembers 18 = .ok (.aload_n 0, 1) := by decide +kernel
theorem dX6_remembers_19 : decode cX6_remembers 19 = .ok (.getfield 7, 3) := by decide +kernel
theorem dX6_remembers_22 : decode cX6_remembers 22 = .ok (.iload_n 1, 1) := by decide +kernel
theorem dX6_remembers_23 : decode cX6_remembers 23 = .ok (.iaload, 1) := by decide +kernel
theorem dX6_remembers_24 : decode cX6_remembers 24 = .ok (.iastore, 1) := by decide +kernel
theorem dX6_remembers_25 : decode cX6_remembers 25 = .ok (.iinc 1 1, 3) := by decide +kernel
theorem dX6_remembers_28 : decode cX6_remembers 28 = .ok (.goto (-21), 3) := by decide +kernel
theorem dX6_remembers_31 : decode cX6_remembers 31 = .ok (.return_, 1) := by decide +kernel
theorem dX6_changed_0 : decode cX6_changed 0 = .ok (.aload_n 0, 1) := by decide +kernel
theorem dX6_changed_1 : decode cX6_changed 1 = .ok (.getfield 44, 3) := by decide +kernel
theorem dX6_changed_4 : decode cX6_changed 4 = .ok (.bipush 8, 2) := by decide +kernel
theorem dX6_changed_6 : decode cX6_changed 6 = .ok (.if_icmp .ne 36, 3) := by decide +kernel
theorem dX6_changed_9 : decode cX6_changed 9 = .ok (.iconst 0, 1) := by decide +kernel
theorem dX6_changed_10 : decode cX6_changed 10 = .ok (.istore_n 2, 1) := by decide +kernel
theorem dX6_changed_11 : decode cX6_changed 11 = .ok (.iload_n 2, 1) := by decide +kernel
theorem dX6_changed_12 : decode cX6_changed 12 = .ok (.sipush 518, 3) := by decide +kernel
theorem dX6_changed_15 : decode cX6_changed 15 = .ok (.if_icmp .ge 24, 3) := by decide +kernel
theorem dX6_changed_18 : decode cX6_changed 18 = .ok (.aload_n 0, 1) := by decide +kernel
theorem dX6_changed_19 : decode cX6_changed 19 = .ok (.getfield 19, 3) := by decide +kernel
theorem dX6_changed_22 : decode cX6_changed 22 = .ok (.iload_n 2, 1) := by decide +kernel
theorem dX6_changed_23 : decode cX6_changed 23 = .ok (.aload_n 0, 1) := by decide +kernel
theorem dX6_changed_24 : decode cX6_changed 24 = .ok (.getfield 19, 3) := by decide +kernel
theorem dX6_changed_27 : decode cX6_changed 27 = .ok (.iload_n 2, 1) := by decide +kernel
theorem dX6_changed_28 : decode cX6_changed 28 = .ok (.bipush 74, 2) := by decide +kernel
theorem dX6_changed_30 : decode cX6_changed 30 = .ok (.iadd, 1) := by decide +kernel
theorem dX6_changed_31 : decode cX6_changed 31 = .ok (.iaload, 1) := by decide +kernel
theorem dX6_changed_32 : decode cX6_changed 32 = .ok (.iastore, 1) := by decide +kernel
theorem dX6_changed_33 : decode cX6_changed 33 = .ok (.iinc 2 1, 3) := by decide +kernel
theorem dX6_changed_36 : decode cX6_changed 36 = .ok (.goto (-25), 3) := by decide +kernel
theorem dX6_changed_39 : decode cX6_changed 39 = .ok (.goto 13, 3) := by decide +kernel
theorem dX6_changed_42 : decode cX6_changed 42 = .ok (.aload_n 0, 1) := by decide +kernel
theorem dX6_changed_43 : decode cX6_changed 43 = .ok (.dup, 1) := by decide +kernel
theorem dX6_changed_44 : decode cX6_changed 44 = .ok (.getfield 44, 3) := by decide +kernel
theorem dX6_changed_47 : decode cX6_changed 47 = .ok (.iconst 1, 1) := by decide +kernel
theorem dX6_changed_48 : decode cX6_changed 48 = .ok (.iadd, 1) := by decide +kernel
theorem dX6_changed_49 : decode cX6_changed 49 = .ok (.putfield 44, 3) := by decide +kernel
theorem dX6_changed_52 : decode cX6_changed 52 = .ok (.iconst 0, 1) := by decide +kernel
theorem dX6_changed_53 : decode cX6_changed 53 = .ok (.istore_n 2, 1) := by decide +kernel
theorem dX6_changed_54 : decode cX6_changed 54 = .ok (.iload_n 2, 1) := by decide +kernel
theorem dX6_changed_55 : decode cX6_changed 55 = .ok (.bipush 74, 2) := by decide +kernel
theorem dX6_changed_57 : decode cX6_changed 57 = .ok (.if_icmp .ge 31, 3) := by decide +kernel
theorem dX6_changed_60 : decode cX6_changed 60 = .ok (.aload_n 0, 1) := by decide +kernel
theorem dX6_changed_61 : decode cX6_changed 61 = .ok (.getfield 19, 3) := by decide +kernel
theorem dX6_changed_64 : decode cX6_changed 64 = .ok (.bipush 74, 2) := by decide +kernel
theorem dX6_changed_66 : decode cX6_changed 66 = .ok (.aload_n 0, 1) := by decide +kernel
theorem dX6_changed_67 : decode cX6_changed 67 = .ok (.getfield 44, 3) := by decide +kernel
theorem dX6_changed_70 : decode cX6_changed 70 = .ok (.iconst 1, 1) := by decide +kernel
theorem dX6_changed_71 : decode cX6_changed 71 = .ok (.isub, 1) := by decide +kernel
theorem dX6_changed_72 : decode cX6_changed 72 = .ok (.imul, 1) := by decide +kernel
theorem dX6_changed_73 : decode cX6_changed 73 = .ok (.iload_n 2, 1) := by decide +kernel
theorem dX6_changed_74 : decode cX6_changed 74 = .ok (.iadd, 1) := by decide +kernel
theorem dX6_changed_75 : decode cX6_changed 75 = .ok (.aload_n 0, 1) := by decide +kernel
theorem dX6_changed_76 : decode cX6_changed 76 = .ok (.getfield 13, 3) := by decide +kernel
theorem dX6_changed_79 : decode cX6_changed 79 = .ok (.iload_n 2, 1) := by decide +kernel
theorem dX6_changed_80 : decode cX6_changed 80 = .ok (.iaload, 1) := by decide +kernel
theorem dX6_changed_81 : decode cX6_changed 81 = .ok (.iastore, 1) := by decide +kernel
theorem dX6_changed_82 : decode cX6_changed 82 = .ok (.iinc 2 1, 3) := by decide +kernel
theorem dX6_changed_85 : decode cX6_changed 85 = .ok (.goto (-31), 3) := by decide +kernel
theorem dX6_changed_88 : decode cX6_changed 88 = .ok (.iload_n 1, 1) := by decide +kernel
theorem dX6_changed_89 : decode cX6_changed 89 = .ok (.ireturn, 1) := by decide +kernel
theorem dX6_done_0 : decode cX6_done 0 = .ok (.aload_n 0, 1) := by decide +kernel
theorem dX6_done_1 : decode cX6_done 1 = .ok (.iload_n 1, 1) := by decide +kernel
theorem dX6_done_2 : decode cX6_done 2 = .ok (.putfield 47, 3) := by decide +kernel
theorem dX6_done_5 : decode cX6_done 5 = .ok (.iconst 0, 1) := by decide +kernel
theorem dX6_done_6 : decode cX6_done 6 = .ok (.ireturn, 1) := by decide +kernel
theorem dX6_ends_0 : decode cX6_ends 0 = .ok (.iload_n 1, 1) := by decide +kernel
theorem dX6_ends_1 : decode cX6_ends 1 = .ok (.ifCond .ne 14, 3) := by decide +kernel
theorem dX6_ends_4 : decode cX6_ends 4 = .ok (.aload_n 0, 1) := by decide +kernel
theorem dX6_ends_5 : decode cX6_ends 5 = .ok (.aload_n 0, 1) := by decide +kernel
theorem dX6_ends_6 : decode cX6_ends 6 = .ok (.getfield 47, 3) := by decide +kernel
theorem dX6_ends_9 : decode cX6_ends 9 = .ok (.invokevirtual 50, 3) := by decide +kernel
theorem dX6_ends_12 : decode cX6_ends 12 = .ok (.goto 8, 3) := by decide +kernel
theorem dX6_ends_15 : decode cX6_ends 15 = .ok (.aload_n 0, 1) := by decide +kernel
theorem dX6_ends_16 : decode cX6_ends 16 = .ok (.iload_n 1, 1) := by decide +kernel
theorem dX6_ends_17 : decode cX6_ends 17 = .ok (.invokevirtual 54, 3) := by decide +kernel
theorem dX6_ends_20 : decode cX6_ends 20 = .ok (.ireturn, 1) := by decide +kernel
theorem dX6_isMember_0 : decode cX6_isMember 0 = .ok (.iload_n 1, 1) := by decide +kernel
theorem dX6_isMember_1 : decode cX6_isMember 1 = .ok (.iconst 0, 1) := by decide +kernel
theorem dX6_isMember_2 : decode cX6_isMember 2 = .ok (.aload_n 0, 1) := by decide +kernel
theorem dX6_isMember_3 : decode cX6_isMember 3 = .ok (.getfield 7, 3) := by decide +kernel
theorem dX6_isMember_6 : decode cX6_isMember 6 = .ok (.iconst 0, 1) := by decide +kernel
theorem dX6_isMember_7 : decode cX6_isMember 7 = .ok (.iaload, 1) := by decide +kernel
theorem dX6_isMember_8 : decode cX6_isMember 8 = .ok (.iconst 1, 1) := by decide +kernel
theorem dX6_isMember_9 : decode cX6_isMember 9 = .ok (.isub, 1) := by decide +kernel
theorem dX6_isMember_10 : decode cX6_isMember 10 = .ok (.invokestatic 57, 3) := by decide +kernel
theorem dX6_isMember_13 : decode cX6_isMember 13 = .ok (.ireturn, 1) := by decide +kernel
theorem dX6_of_0 : decode cX6_of 0 = .ok (.aload_n 0, 1) := by decide +kernel
theorem dX6_of_1 : decode cX6_of 1 = .ok (.getfield 7, 3) := by decide +kernel
theorem dX6_of_4 : decode cX6_of 4 = .ok (.bipush 8, 2) := by decide +kernel
theorem dX6_of_6 : decode cX6_of 6 = .ok (.bipush 7, 2) := by decide +kernel
theorem dX6_of_8 : decode cX6_of 8 = .ok (.iload_n 1, 1) := by decide +kernel
theorem dX6_of_9 : decode cX6_of 9 = .ok (.imul, 1) := by decide +kernel
theorem dX6_of_10 : decode cX6_of 10 = .ok (.iadd, 1) := by decide +kernel
theorem dX6_of_11 : decode cX6_of 11 = .ok (.iload_n 2, 1) := by decide +kernel
theorem dX6_of_12 : decode cX6_of 12 = .ok (.iadd, 1) := by decide +kernel
theorem dX6_of_13 : decode cX6_of 13 = .ok (.iaload, 1) := by decide +kernel
theorem dX6_of_14 : decode cX6_of 14 = .ok (.ireturn, 1) := by decide +kernel
theorem dX6_sets_0 : decode cX6_sets 0 = .ok (.aload_n 0, 1) := by decide +kernel
theorem dX6_sets_1 : decode cX6_sets 1 = .ok (.getfield 7, 3) := by decide +kernel
theorem dX6_sets_4 : decode cX6_sets 4 = .ok (.bipush 8, 2) := by decide +kernel
theorem dX6_sets_6 : decode cX6_sets 6 = .ok (.bipush 7, 2) := by decide +kernel
theorem dX6_sets_8 : decode cX6_sets 8 = .ok (.iload_n 1, 1) := by decide +kernel
theorem dX6_sets_9 : decode cX6_sets 9 = .ok (.imul, 1) := by decide +kernel
theorem dX6_sets_10 : decode cX6_sets 10 = .ok (.iadd, 1) := by decide +kernel
theorem dX6_sets_11 : decode cX6_sets 11 = .ok (.iload_n 2, 1) := by decide +kernel
theorem dX6_sets_12 : decode cX6_sets 12 = .ok (.iadd, 1) := by decide +kernel
theorem dX6_sets_13 : decode cX6_sets 13 = .ok (.iload_n 3, 1) := by decide +kernel
theorem dX6_sets_14 : decode cX6_sets 14 = .ok (.iastore, 1) := by decide +kernel
theorem dX6_sets_15 : decode cX6_sets 15 = .ok (.return_, 1) := by decide +kernel
theorem dX6_apart_0 : decode cX6_apart 0 = .ok (.iload_n 0, 1) := by decide +kernel
theorem dX6_apart_1 : decode cX6_apart 1 = .ok (.iload_n 1, 1) := by decide +kernel
theorem dX6_apart_2 : decode cX6_apart 2 = .ok (.isub, 1) := by decide +kernel
theorem dX6_apart_3 : decode cX6_apart 3 = .ok (.bipush 12, 2) := by decide +kernel
theorem dX6_apart_5 : decode cX6_apart 5 = .ok (.iadd, 1) := by decide +kernel
theorem dX6_apart_6 : decode cX6_apart 6 = .ok (.bipush 12, 2) := by decide +kernel
theorem dX6_apart_8 : decode cX6_apart 8 = .ok (.irem, 1) := by decide +kernel
theorem dX6_apart_9 : decode cX6_apart 9 = .ok (.istore_n 2, 1) := by decide +kernel
theorem dX6_apart_10 : decode cX6_apart 10 = .ok (.iload_n 2, 1) := by decide +kernel
theorem dX6_apart_11 : decode cX6_apart 11 = .ok (.bipush 6, 2) := by decide +kernel
theorem dX6_apart_13 : decode cX6_apart 13 = .ok (.if_icmp .le 10, 3) := by decide +kernel
theorem dX6_apart_16 : decode cX6_apart 16 = .ok (.bipush 12, 2) := by decide +kernel
theorem dX6_apart_18 : decode cX6_apart 18 = .ok (.iload_n 2, 1) := by decide +kernel
theorem dX6_apart_19 : decode cX6_apart 19 = .ok (.isub, 1) := by decide +kernel
theorem dX6_apart_20 : decode cX6_apart 20 = .ok (.goto 4, 3) := by decide +kernel
theorem dX6_apart_23 : decode cX6_apart 23 = .ok (.iload_n 2, 1) := by decide +kernel
theorem dX6_apart_24 : decode cX6_apart 24 = .ok (.ireturn, 1) := by decide +kernel
theorem dX6_isClash_0 : decode cX6_isClash 0 = .ok (.iload_n 0, 1) := by decide +kernel
theorem dX6_isClash_1 : decode cX6_isClash 1 = .ok (.iload_n 1, 1) := by decide +kernel
theorem dX6_isClash_2 : decode cX6_isClash 2 = .ok (.invokestatic 61, 3) := by decide +kernel
theorem dX6_isClash_5 : decode cX6_isClash 5 = .ok (.iconst 1, 1) := by decide +kernel
theorem dX6_isClash_6 : decode cX6_isClash 6 = .ok (.if_icmp .eq 13, 3) := by decide +kernel
theorem dX6_isClash_9 : decode cX6_isClash 9 = .ok (.iload_n 0, 1) := by decide +kernel
theorem dX6_isClash_10 : decode cX6_isClash 10 = .ok (.iload_n 1, 1) := by decide +kernel
theorem dX6_isClash_11 : decode cX6_isClash 11 = .ok (.invokestatic 61, 3) := by decide +kernel
theorem dX6_isClash_14 : decode cX6_isClash 14 = .ok (.bipush 6, 2) := by decide +kernel
theorem dX6_isClash_16 : decode cX6_isClash 16 = .ok (.if_icmp .ne 7, 3) := by decide +kernel
theorem dX6_isClash_19 : decode cX6_isClash 19 = .ok (.iconst 1, 1) := by decide +kernel
theorem dX6_isClash_20 : decode cX6_isClash 20 = .ok (.goto 4, 3) := by decide +kernel
theorem dX6_isClash_23 : decode cX6_isClash 23 = .ok (.iconst 0, 1) := by decide +kernel
theorem dX6_isClash_24 : decode cX6_isClash 24 = .ok (.ireturn, 1) := by decide +kernel
theorem dX6_isDue_0 : decode cX6_isDue 0 = .ok (.iload_n 2, 1) := by decide +kernel
theorem dX6_isDue_1 : decode cX6_isDue 1 = .ok (.aload_n 0, 1) := by decide +kernel
theorem dX6_isDue_2 : decode cX6_isDue 2 = .ok (.iload_n 1, 1) := by decide +kernel
theorem dX6_isDue_3 : decode cX6_isDue 3 = .ok (.iconst 2, 1) := by decide +kernel
theorem dX6_isDue_4 : decode cX6_isDue 4 = .ok (.invokevirtual 65, 3) := by decide +kernel
theorem dX6_isDue_7 : decode cX6_isDue 7 = .ok (.isub, 1) := by decide +kernel
theorem dX6_isDue_8 : decode cX6_isDue 8 = .ok (.aload_n 0, 1) := by decide +kernel
theorem dX6_isDue_9 : decode cX6_isDue 9 = .ok (.iload_n 1, 1) := by decide +kernel
theorem dX6_isDue_10 : decode cX6_isDue 10 = .ok (.iconst 1, 1) := by decide +kernel
theorem dX6_isDue_11 : decode cX6_isDue 11 = .ok (.invokevirtual 65, 3) := by decide +kernel
theorem dX6_isDue_14 : decode cX6_isDue 14 = .ok (.irem, 1) := by decide +kernel
theorem dX6_isDue_15 : decode cX6_isDue 15 = .ok (.ifCond .ne 7, 3) := by decide +kernel
theorem dX6_isDue_18 : decode cX6_isDue 18 = .ok (.iconst 1, 1) := by decide +kernel
theorem dX6_isDue_19 : decode cX6_isDue 19 = .ok (.goto 4, 3) := by decide +kernel
theorem dX6_isDue_22 : decode cX6_isDue 22 = .ok (.iconst 0, 1) := by decide +kernel
theorem dX6_isDue_23 : decode cX6_isDue 23 = .ok (.ireturn, 1) := by decide +kernel
theorem dX6_allShares_0 : decode cX6_allShares 0 = .ok (.iconst 0, 1) := by decide +kernel
theorem dX6_allShares_1 : decode cX6_allShares 1 = .ok (.istore_n 1, 1) := by decide +kernel
theorem dX6_allShares_2 : decode cX6_allShares 2 = .ok (.iconst 0, 1) := by decide +kernel
theorem dX6_allShares_3 : decode cX6_allShares 3 = .ok (.istore_n 2, 1) := by decide +kernel
theorem dX6_allShares_4 : decode cX6_allShares 4 = .ok (.iload_n 2, 1) := by decide +kernel
theorem dX6_allShares_5 : decode cX6_allShares 5 = .ok (.aload_n 0, 1) := by decide +kernel
theorem dX6_allShares_6 : decode cX6_allShares 6 = .ok (.getfield 7, 3) := by decide +kernel
theorem dX6_allShares_9 : decode cX6_allShares 9 = .ok (.iconst 0, 1) := by decide +kernel
theorem dX6_allShares_10 : decode cX6_allShares 10 = .ok (.iaload, 1) := by decide +kernel
theorem dX6_allShares_11 : decode cX6_allShares 11 = .ok (.if_icmp .ge 18, 3) := by decide +kernel
theorem dX6_allShares_14 : decode cX6_allShares 14 = .ok (.iload_n 1, 1) := by decide +kernel
theorem dX6_allShares_15 : decode cX6_allShares 15 = .ok (.aload_n 0, 1) := by decide +kernel
theorem dX6_allShares_16 : decode cX6_allShares 16 = .ok (.iload_n 2, 1) := by decide +kernel
theorem dX6_allShares_17 : decode cX6_allShares 17 = .ok (.iconst 0, 1) := by decide +kernel
theorem dX6_allShares_18 : decode cX6_allShares 18 = .ok (.invokevirtual 65, 3) := by decide +kernel
theorem dX6_allShares_21 : decode cX6_allShares 21 = .ok (.iadd, 1) := by decide +kernel
theorem dX6_allShares_22 : decode cX6_allShares 22 = .ok (.istore_n 1, 1) := by decide +kernel
theorem dX6_allShares_23 : decode cX6_allShares 23 = .ok (.iinc 2 1, 3) := by decide +kernel
theorem dX6_allShares_26 : decode cX6_allShares 26 = .ok (.goto (-22), 3) := by decide +kernel
theorem dX6_allShares_29 : decode cX6_allShares 29 = .ok (.iload_n 1, 1) := by decide +kernel
theorem dX6_allShares_30 : decode cX6_allShares 30 = .ok (.ireturn, 1) := by decide +kernel
theorem dX6_most_0 : decode cX6_most 0 = .ok (.aload_n 0, 1) := by decide +kernel
theorem dX6_most_1 : decode cX6_most 1 = .ok (.invokevirtual 68, 3) := by decide +kernel
theorem dX6_most_4 : decode cX6_most 4 = .ok (.iconst 2, 1) := by decide +kernel
theorem dX6_most_5 : decode cX6_most 5 = .ok (.idiv, 1) := by decide +kernel
theorem dX6_most_6 : decode cX6_most 6 = .ok (.iconst 1, 1) := by decide +kernel
theorem dX6_most_7 : decode cX6_most 7 = .ok (.iadd, 1) := by decide +kernel
theorem dX6_most_8 : decode cX6_most 8 = .ok (.ireturn, 1) := by decide +kernel
theorem dX6_oneBeat_0 : decode cX6_oneBeat 0 = .ok (.aload_n 0, 1) := by decide +kernel
theorem dX6_oneBeat_1 : decode cX6_oneBeat 1 = .ok (.getfield 7, 3) := by decide +kernel
theorem dX6_oneBeat_4 : decode cX6_oneBeat 4 = .ok (.iconst 1, 1) := by decide +kernel
theorem dX6_oneBeat_5 : decode cX6_oneBeat 5 = .ok (.dup2, 1) := by decide +kernel
theorem dX6_oneBeat_6 : decode cX6_oneBeat 6 = .ok (.iaload, 1) := by decide +kernel
theorem dX6_oneBeat_7 : decode cX6_oneBeat 7 = .ok (.iconst 1, 1) := by decide +kernel
theorem dX6_oneBeat_8 : decode cX6_oneBeat 8 = .ok (.iadd, 1) := by decide +kernel
theorem dX6_oneBeat_9 : decode cX6_oneBeat 9 = .ok (.iastore, 1) := by decide +kernel
theorem dX6_oneBeat_10 : decode cX6_oneBeat 10 = .ok (.iconst 0, 1) := by decide +kernel
theorem dX6_oneBeat_11 : decode cX6_oneBeat 11 = .ok (.istore_n 1, 1) := by decide +kernel
theorem dX6_oneBeat_12 : decode cX6_oneBeat 12 = .ok (.iconst 0, 1) := by decide +kernel
theorem dX6_oneBeat_13 : decode cX6_oneBeat 13 = .ok (.istore_n 2, 1) := by decide +kernel
theorem dX6_oneBeat_14 : decode cX6_oneBeat 14 = .ok (.iconst 0, 1) := by decide +kernel
theorem dX6_oneBeat_15 : decode cX6_oneBeat 15 = .ok (.istore_n 3, 1) := by decide +kernel
theorem dX6_oneBeat_16 : decode cX6_oneBeat 16 = .ok (.iload_n 3, 1) := by decide +kernel
theorem dX6_oneBeat_17 : decode cX6_oneBeat 17 = .ok (.aload_n 0, 1) := by decide +kernel
theorem dX6_oneBeat_18 : decode cX6_oneBeat 18 = .ok (.getfield 7, 3) := by decide +kernel
theorem dX6_oneBeat_21 : decode cX6_oneBeat 21 = .ok (.iconst 0, 1) := by decide +kernel
theorem dX6_oneBeat_22 : decode cX6_oneBeat 22 = .ok (.iaload, 1) := by decide +kernel
theorem dX6_oneBeat_23 : decode cX6_oneBeat 23 = .ok (.if_icmp .ge 58, 3) := by decide +kernel
theorem dX6_oneBeat_26 : decode cX6_oneBeat 26 = .ok (.aload_n 0, 1) := by decide +kernel
theorem dX6_oneBeat_27 : decode cX6_oneBeat 27 = .ok (.iload_n 3, 1) := by decide +kernel
theorem dX6_oneBeat_28 : decode cX6_oneBeat 28 = .ok (.aload_n 0, 1) := by decide +kernel
theorem dX6_oneBeat_29 : decode cX6_oneBeat 29 = .ok (.getfield 7, 3) := by decide +kernel
theorem dX6_oneBeat_32 : decode cX6_oneBeat 32 = .ok (.iconst 1, 1) := by decide +kernel
theorem dX6_oneBeat_33 : decode cX6_oneBeat 33 = .ok (.iaload, 1) := by decide +kernel
theorem dX6_oneBeat_34 : decode cX6_oneBeat 34 = .ok (.invokevirtual 72, 3) := by decide +kernel
theorem dX6_oneBeat_37 : decode cX6_oneBeat 37 = .ok (.ifCond .eq 38, 3) := by decide +kernel
theorem dX6_oneBeat_40 : decode cX6_oneBeat 40 = .ok (.aload_n 0, 1) := by decide +kernel
theorem dX6_oneBeat_41 : decode cX6_oneBeat 41 = .ok (.iload_n 3, 1) := by decide +kernel
theorem dX6_oneBeat_42 : decode cX6_oneBeat 42 = .ok (.iconst 4, 1) := by decide +kernel
theorem dX6_oneBeat_43 : decode cX6_oneBeat 43 = .ok (.invokevirtual 65, 3) := by decide +kernel
theorem dX6_oneBeat_46 : decode cX6_oneBeat 46 = .ok (.ifCond .ne 6, 3) := by decide +kernel
theorem dX6_oneBeat_49 : decode cX6_oneBeat 49 = .ok (.goto 26, 3) := by decide +kernel
theorem dX6_oneBeat_52 : decode cX6_oneBeat 52 = .ok (.aload_n 0, 1) := by decide +kernel
theorem dX6_oneBeat_53 : decode cX6_oneBeat 53 = .ok (.iload_n 3, 1) := by decide +kernel
theorem dX6_oneBeat_54 : decode cX6_oneBeat 54 = .ok (.iconst 4, 1) := by decide +kernel
theorem dX6_oneBeat_55 : decode cX6_oneBeat 55 = .ok (.aload_n 0, 1) := by decide +kernel
theorem dX6_oneBeat_56 : decode cX6_oneBeat 56 = .ok (.iload_n 3, 1) := by decide +kernel
theorem dX6_oneBeat_57 : decode cX6_oneBeat 57 = .ok (.iconst 4, 1) := by decide +kernel
theorem dX6_oneBeat_58 : decode cX6_oneBeat 58 = .ok (.invokevirtual 65, 3) := by decide +kernel
theorem dX6_oneBeat_61 : decode cX6_oneBeat 61 = .ok (.iconst 1, 1) := by decide +kernel
theorem dX6_oneBeat_62 : decode cX6_oneBeat 62 = .ok (.isub, 1) := by decide +kernel
theorem dX6_oneBeat_63 : decode cX6_oneBeat 63 = .ok (.invokevirtual 76, 3) := by decide +kernel
theorem dX6_oneBeat_66 : decode cX6_oneBeat 66 = .ok (.iload_n 1, 1) := by decide +kernel
theorem dX6_oneBeat_67 : decode cX6_oneBeat 67 = .ok (.iconst 1, 1) := by decide +kernel
theorem dX6_oneBeat_68 : decode cX6_oneBeat 68 = .ok (.iload_n 3, 1) := by decide +kernel
theorem dX6_oneBeat_69 : decode cX6_oneBeat 69 = .ok (.ishl, 1) := by decide +kernel
theorem dX6_oneBeat_70 : decode cX6_oneBeat 70 = .ok (.ior, 1) := by decide +kernel
theorem dX6_oneBeat_71 : decode cX6_oneBeat 71 = .ok (.istore_n 1, 1) := by decide +kernel
theorem dX6_oneBeat_72 : decode cX6_oneBeat 72 = .ok (.iinc 2 1, 3) := by decide +kernel
theorem dX6_oneBeat_75 : decode cX6_oneBeat 75 = .ok (.iinc 3 1, 3) := by decide +kernel
theorem dX6_oneBeat_78 : decode cX6_oneBeat 78 = .ok (.goto (-62), 3) := by decide +kernel
theorem dX6_oneBeat_81 : decode cX6_oneBeat 81 = .ok (.aload_n 0, 1) := by decide +kernel
theorem dX6_oneBeat_82 : decode cX6_oneBeat 82 = .ok (.getfield 7, 3) := by decide +kernel
theorem dX6_oneBeat_85 : decode cX6_oneBeat 85 = .ok (.bipush 6, 2) := by decide +kernel
theorem dX6_oneBeat_87 : decode cX6_oneBeat 87 = .ok (.dup2, 1) := by decide +kernel
theorem dX6_oneBeat_88 : decode cX6_oneBeat 88 = .ok (.iaload, 1) := by decide +kernel
theorem dX6_oneBeat_89 : decode cX6_oneBeat 89 = .ok (.iload_n 2, 1) := by decide +kernel
theorem dX6_oneBeat_90 : decode cX6_oneBeat 90 = .ok (.iadd, 1) := by decide +kernel
theorem dX6_oneBeat_91 : decode cX6_oneBeat 91 = .ok (.iastore, 1) := by decide +kernel
theorem dX6_oneBeat_92 : decode cX6_oneBeat 92 = .ok (.iconst 0, 1) := by decide +kernel
theorem dX6_oneBeat_93 : decode cX6_oneBeat 93 = .ok (.istore_n 3, 1) := by decide +kernel
theorem dX6_oneBeat_94 : decode cX6_oneBeat 94 = .ok (.iconst 0, 1) := by decide +kernel
theorem dX6_oneBeat_95 : decode cX6_oneBeat 95 = .ok (.istore 4, 2) := by decide +kernel
theorem dX6_oneBeat_97 : decode cX6_oneBeat 97 = .ok (.iload 4, 2) := by decide +kernel
theorem dX6_oneBeat_99 : decode cX6_oneBeat 99 = .ok (.aload_n 0, 1) := by decide +kernel
theorem dX6_oneBeat_100 : decode cX6_oneBeat 100 = .ok (.getfield 7, 3) := by decide +kernel
theorem dX6_oneBeat_103 : decode cX6_oneBeat 103 = .ok (.iconst 0, 1) := by decide +kernel
theorem dX6_oneBeat_104 : decode cX6_oneBeat 104 = .ok (.iaload, 1) := by decide +kernel
theorem dX6_oneBeat_105 : decode cX6_oneBeat 105 = .ok (.if_icmp .ge 73, 3) := by decide +kernel
theorem dX6_oneBeat_108 : decode cX6_oneBeat 108 = .ok (.iconst 0, 1) := by decide +kernel
theorem dX6_oneBeat_109 : decode cX6_oneBeat 109 = .ok (.istore 5, 2) := by decide +kernel
theorem dX6_oneBeat_111 : decode cX6_oneBeat 111 = .ok (.iload 5, 2) := by decide +kernel
theorem dX6_oneBeat_113 : decode cX6_oneBeat 113 = .ok (.iload 4, 2) := by decide +kernel
theorem dX6_oneBeat_115 : decode cX6_oneBeat 115 = .ok (.if_icmp .ge 57, 3) := by decide +kernel
theorem dX6_oneBeat_118 : decode cX6_oneBeat 118 = .ok (.iload_n 3, 1) := by decide +kernel
theorem dX6_oneBeat_119 : decode cX6_oneBeat 119 = .ok (.iload_n 1, 1) := by decide +kernel
theorem dX6_oneBeat_120 : decode cX6_oneBeat 120 = .ok (.iload 4, 2) := by decide +kernel
theorem dX6_oneBeat_122 : decode cX6_oneBeat 122 = .ok (.ishr, 1) := by decide +kernel
theorem dX6_oneBeat_123 : decode cX6_oneBeat 123 = .ok (.iconst 1, 1) := by decide +kernel
theorem dX6_oneBeat_124 : decode cX6_oneBeat 124 = .ok (.iand, 1) := by decide +kernel
theorem dX6_oneBeat_125 : decode cX6_oneBeat 125 = .ok (.iconst 1, 1) := by decide +kernel
theorem dX6_oneBeat_126 : decode cX6_oneBeat 126 = .ok (.if_icmp .ne 37, 3) := by decide +kernel
theorem dX6_oneBeat_129 : decode cX6_oneBeat 129 = .ok (.iload_n 1, 1) := by decide +kernel
theorem dX6_oneBeat_130 : decode cX6_oneBeat 130 = .ok (.iload 5, 2) := by decide +kernel
theorem dX6_oneBeat_132 : decode cX6_oneBeat 132 = .ok (.ishr, 1) := by decide +kernel
theorem dX6_oneBeat_133 : decode cX6_oneBeat 133 = .ok (.iconst 1, 1) := by decide +kernel
theorem dX6_oneBeat_134 : decode cX6_oneBeat 134 = .ok (.iand, 1) := by decide +kernel
theorem dX6_oneBeat_135 : decode cX6_oneBeat 135 = .ok (.iconst 1, 1) := by decide +kernel
theorem dX6_oneBeat_136 : decode cX6_oneBeat 136 = .ok (.if_icmp .ne 27, 3) := by decide +kernel
theorem dX6_oneBeat_139 : decode cX6_oneBeat 139 = .ok (.aload_n 0, 1) := by decide +kernel
theorem dX6_oneBeat_140 : decode cX6_oneBeat 140 = .ok (.iload 4, 2) := by decide +kernel
theorem dX6_oneBeat_142 : decode cX6_oneBeat 142 = .ok (.iconst 3, 1) := by decide +kernel
theorem dX6_oneBeat_143 : decode cX6_oneBeat 143 = .ok (.invokevirtual 65, 3) := by decide +kernel
theorem dX6_oneBeat_146 : decode cX6_oneBeat 146 = .ok (.aload_n 0, 1) := by decide +kernel
theorem dX6_oneBeat_147 : decode cX6_oneBeat 147 = .ok (.iload 5, 2) := by decide +kernel
theorem dX6_oneBeat_149 : decode cX6_oneBeat 149 = .ok (.iconst 3, 1) := by decide +kernel
theorem dX6_oneBeat_150 : decode cX6_oneBeat 150 = .ok (.invokevirtual 65, 3) := by decide +kernel
theorem dX6_oneBeat_153 : decode cX6_oneBeat 153 = .ok (.invokestatic 80, 3) := by decide +kernel
theorem dX6_oneBeat_156 : decode cX6_oneBeat 156 = .ok (.ifCond .eq 7, 3) := by decide +kernel
theorem dX6_oneBeat_159 : decode cX6_oneBeat 159 = .ok (.iconst 1, 1) := by decide +kernel
theorem dX6_oneBeat_160 : decode cX6_oneBeat 160 = .ok (.goto 4, 3) := by decide +kernel
theorem dX6_oneBeat_163 : decode cX6_oneBeat 163 = .ok (.iconst 0, 1) := by decide +kernel
theorem dX6_oneBeat_164 : decode cX6_oneBeat 164 = .ok (.ior, 1) := by decide +kernel
theorem dX6_oneBeat_165 : decode cX6_oneBeat 165 = .ok (.istore_n 3, 1) := by decide +kernel
theorem dX6_oneBeat_166 : decode cX6_oneBeat 166 = .ok (.iinc 5 1, 3) := by decide +kernel
theorem dX6_oneBeat_169 : decode cX6_oneBeat 169 = .ok (.goto (-58), 3) := by decide +kernel
theorem dX6_oneBeat_172 : decode cX6_oneBeat 172 = .ok (.iinc 4 1, 3) := by decide +kernel
theorem dX6_oneBeat_175 : decode cX6_oneBeat 175 = .ok (.goto (-78), 3) := by decide +kernel
theorem dX6_oneBeat_178 : decode cX6_oneBeat 178 = .ok (.iload_n 3, 1) := by decide +kernel
theorem dX6_oneBeat_179 : decode cX6_oneBeat 179 = .ok (.ifCond .eq 82, 3) := by decide +kernel
theorem dX6_oneBeat_182 : decode cX6_oneBeat 182 = .ok (.bipush 9, 2) := by decide +kernel
theorem dX6_oneBeat_184 : decode cX6_oneBeat 184 = .ok (.istore 4, 2) := by decide +kernel
theorem dX6_oneBeat_186 : decode cX6_oneBeat 186 = .ok (.iload 4, 2) := by decide +kernel
theorem dX6_oneBeat_188 : decode cX6_oneBeat 188 = .ok (.ifCond .le 31, 3) := by decide +kernel
theorem dX6_oneBeat_191 : decode cX6_oneBeat 191 = .ok (.aload_n 0, 1) := by decide +kernel
theorem dX6_oneBeat_192 : decode cX6_oneBeat 192 = .ok (.getfield 7, 3) := by decide +kernel
theorem dX6_oneBeat_195 : decode cX6_oneBeat 195 = .ok (.bipush 64, 2) := by decide +kernel
theorem dX6_oneBeat_197 : decode cX6_oneBeat 197 = .ok (.iload 4, 2) := by decide +kernel
theorem dX6_oneBeat_199 : decode cX6_oneBeat 199 = .ok (.iadd, 1) := by decide +kernel
theorem dX6_oneBeat_200 : decode cX6_oneBeat 200 = .ok (.aload_n 0, 1) := by decide +kernel
theorem dX6_oneBeat_201 : decode cX6_oneBeat 201 = .ok (.getfield 7, 3) := by decide +kernel
theorem dX6_oneBeat_204 : decode cX6_oneBeat 204 = .ok (.bipush 64, 2) := by decide +kernel
theorem dX6_oneBeat_206 : decode cX6_oneBeat 206 = .ok (.iload 4, 2) := by decide +kernel
theorem dX6_oneBeat_208 : decode cX6_oneBeat 208 = .ok (.iadd, 1) := by decide +kernel
theorem dX6_oneBeat_209 : decode cX6_oneBeat 209 = .ok (.iconst 1, 1) := by decide +kernel
theorem dX6_oneBeat_210 : decode cX6_oneBeat 210 = .ok (.isub, 1) := by decide +kernel
theorem dX6_oneBeat_211 : decode cX6_oneBeat 211 = .ok (.iaload, 1) := by decide +kernel
theorem dX6_oneBeat_212 : decode cX6_oneBeat 212 = .ok (.iastore, 1) := by decide +kernel
theorem dX6_oneBeat_213 : decode cX6_oneBeat 213 = .ok (.iinc 4 (-1), 3) := by decide +kernel
theorem dX6_oneBeat_216 : decode cX6_oneBeat 216 = .ok (.goto (-30), 3) := by decide +kernel
theorem dX6_oneBeat_219 : decode cX6_oneBeat 219 = .ok (.aload_n 0, 1) := by decide +kernel
theorem dX6_oneBeat_220 : decode cX6_oneBeat 220 = .ok (.getfield 7, 3) := by decide +kernel
theorem dX6_oneBeat_223 : decode cX6_oneBeat 223 = .ok (.bipush 64, 2) := by decide +kernel
theorem dX6_oneBeat_225 : decode cX6_oneBeat 225 = .ok (.aload_n 0, 1) := by decide +kernel
theorem dX6_oneBeat_226 : decode cX6_oneBeat 226 = .ok (.getfield 7, 3) := by decide +kernel
theorem dX6_oneBeat_229 : decode cX6_oneBeat 229 = .ok (.iconst 1, 1) := by decide +kernel
theorem dX6_oneBeat_230 : decode cX6_oneBeat 230 = .ok (.iaload, 1) := by decide +kernel
theorem dX6_oneBeat_231 : decode cX6_oneBeat 231 = .ok (.iastore, 1) := by decide +kernel
theorem dX6_oneBeat_232 : decode cX6_oneBeat 232 = .ok (.aload_n 0, 1) := by decide +kernel
theorem dX6_oneBeat_233 : decode cX6_oneBeat 233 = .ok (.getfield 7, 3) := by decide +kernel
theorem dX6_oneBeat_236 : decode cX6_oneBeat 236 = .ok (.bipush 7, 2) := by decide +kernel
theorem dX6_oneBeat_238 : decode cX6_oneBeat 238 = .ok (.dup2, 1) := by decide +kernel
theorem dX6_oneBeat_239 : decode cX6_oneBeat 239 = .ok (.iaload, 1) := by decide +kernel
theorem dX6_oneBeat_240 : decode cX6_oneBeat 240 = .ok (.aload_n 0, 1) := by decide +kernel
theorem dX6_oneBeat_241 : decode cX6_oneBeat 241 = .ok (.getfield 7, 3) := by decide +kernel
theorem dX6_oneBeat_244 : decode cX6_oneBeat 244 = .ok (.bipush 7, 2) := by decide +kernel
theorem dX6_oneBeat_246 : decode cX6_oneBeat 246 = .ok (.iaload, 1) := by decide +kernel
theorem dX6_oneBeat_247 : decode cX6_oneBeat 247 = .ok (.bipush 10, 2) := by decide +kernel
theorem dX6_oneBeat_249 : decode cX6_oneBeat 249 = .ok (.if_icmp .ge 7, 3) := by decide +kernel
theorem dX6_oneBeat_252 : decode cX6_oneBeat 252 = .ok (.iconst 1, 1) := by decide +kernel
theorem dX6_oneBeat_253 : decode cX6_oneBeat 253 = .ok (.goto 4, 3) := by decide +kernel
theorem dX6_oneBeat_256 : decode cX6_oneBeat 256 = .ok (.iconst 0, 1) := by decide +kernel
theorem dX6_oneBeat_257 : decode cX6_oneBeat 257 = .ok (.iadd, 1) := by decide +kernel
theorem dX6_oneBeat_258 : decode cX6_oneBeat 258 = .ok (.iastore, 1) := by decide +kernel
theorem dX6_oneBeat_259 : decode cX6_oneBeat 259 = .ok (.iconst 0, 1) := by decide +kernel
theorem dX6_oneBeat_260 : decode cX6_oneBeat 260 = .ok (.ireturn, 1) := by decide +kernel
theorem dX6_oneBeat_261 : decode cX6_oneBeat 261 = .ok (.aload_n 0, 1) := by decide +kernel
theorem dX6_oneBeat_262 : decode cX6_oneBeat 262 = .ok (.getfield 7, 3) := by decide +kernel
theorem dX6_oneBeat_265 : decode cX6_oneBeat 265 = .ok (.iconst 2, 1) := by decide +kernel
theorem dX6_oneBeat_266 : decode cX6_oneBeat 266 = .ok (.dup2, 1) := by decide +kernel
theorem dX6_oneBeat_267 : decode cX6_oneBeat 267 = .ok (.iaload, 1) := by decide +kernel
theorem dX6_oneBeat_268 : decode cX6_oneBeat 268 = .ok (.iload_n 2, 1) := by decide +kernel
theorem dX6_oneBeat_269 : decode cX6_oneBeat 269 = .ok (.iadd, 1) := by decide +kernel
theorem dX6_oneBeat_270 : decode cX6_oneBeat 270 = .ok (.iastore, 1) := by decide +kernel
theorem dX6_oneBeat_271 : decode cX6_oneBeat 271 = .ok (.aload_n 0, 1) := by decide +kernel
theorem dX6_oneBeat_272 : decode cX6_oneBeat 272 = .ok (.getfield 7, 3) := by decide +kernel
theorem dX6_oneBeat_275 : decode cX6_oneBeat 275 = .ok (.iconst 5, 1) := by decide +kernel
theorem dX6_oneBeat_276 : decode cX6_oneBeat 276 = .ok (.dup2, 1) := by decide +kernel
theorem dX6_oneBeat_277 : decode cX6_oneBeat 277 = .ok (.iaload, 1) := by decide +kernel
theorem dX6_oneBeat_278 : decode cX6_oneBeat 278 = .ok (.iload_n 2, 1) := by decide +kernel
theorem dX6_oneBeat_279 : decode cX6_oneBeat 279 = .ok (.iadd, 1) := by decide +kernel
theorem dX6_oneBeat_280 : decode cX6_oneBeat 280 = .ok (.iastore, 1) := by decide +kernel
theorem dX6_oneBeat_281 : decode cX6_oneBeat 281 = .ok (.iload_n 2, 1) := by decide +kernel
theorem dX6_oneBeat_282 : decode cX6_oneBeat 282 = .ok (.ireturn, 1) := by decide +kernel
theorem dX6_due_0 : decode cX6_due 0 = .ok (.aload_n 0, 1) := by decide +kernel
theorem dX6_due_1 : decode cX6_due 1 = .ok (.invokevirtual 68, 3) := by decide +kernel
theorem dX6_due_4 : decode cX6_due 4 = .ok (.istore_n 2, 1) := by decide +kernel
theorem dX6_due_5 : decode cX6_due 5 = .ok (.aload_n 0, 1) := by decide +kernel
theorem dX6_due_6 : decode cX6_due 6 = .ok (.getfield 7, 3) := by decide +kernel
theorem dX6_due_9 : decode cX6_due 9 = .ok (.iconst 2, 1) := by decide +kernel
theorem dX6_due_10 : decode cX6_due 10 = .ok (.iaload, 1) := by decide +kernel
theorem dX6_due_11 : decode cX6_due 11 = .ok (.istore_n 3, 1) := by decide +kernel
theorem dX6_due_12 : decode cX6_due 12 = .ok (.iconst 0, 1) := by decide +kernel
theorem dX6_due_13 : decode cX6_due 13 = .ok (.istore 4, 2) := by decide +kernel
theorem dX6_due_15 : decode cX6_due 15 = .ok (.aload_n 0, 1) := by decide +kernel
theorem dX6_due_16 : decode cX6_due 16 = .ok (.getfield 7, 3) := by decide +kernel
theorem dX6_due_19 : decode cX6_due 19 = .ok (.iconst 2, 1) := by decide +kernel
theorem dX6_due_20 : decode cX6_due 20 = .ok (.iaload, 1) := by decide +kernel
theorem dX6_due_21 : decode cX6_due 21 = .ok (.aload_n 0, 1) := by decide +kernel
theorem dX6_due_22 : decode cX6_due 22 = .ok (.iload_n 1, 1) := by decide +kernel
theorem dX6_due_23 : decode cX6_due 23 = .ok (.iconst 0, 1) := by decide +kernel
theorem dX6_due_24 : decode cX6_due 24 = .ok (.invokevirtual 65, 3) := by decide +kernel
theorem dX6_due_27 : decode cX6_due 27 = .ok (.imul, 1) := by decide +kernel
theorem dX6_due_28 : decode cX6_due 28 = .ok (.iload_n 2, 1) := by decide +kernel
theorem dX6_due_29 : decode cX6_due 29 = .ok (.irem, 1) := by decide +kernel
theorem dX6_due_30 : decode cX6_due 30 = .ok (.istore 5, 2) := by decide +kernel
theorem dX6_due_32 : decode cX6_due 32 = .ok (.iconst 0, 1) := by decide +kernel
theorem dX6_due_33 : decode cX6_due 33 = .ok (.istore 6, 2) := by decide +kernel
theorem dX6_due_35 : decode cX6_due 35 = .ok (.iload 6, 2) := by decide +kernel
theorem dX6_due_37 : decode cX6_due 37 = .ok (.aload_n 0, 1) := by decide +kernel
theorem dX6_due_38 : decode cX6_due 38 = .ok (.getfield 7, 3) := by decide +kernel
theorem dX6_due_41 : decode cX6_due 41 = .ok (.iconst 0, 1) := by decide +kernel
theorem dX6_due_42 : decode cX6_due 42 = .ok (.iaload, 1) := by decide +kernel
theorem dX6_due_43 : decode cX6_due 43 = .ok (.if_icmp .ge 76, 3) := by decide +kernel
theorem dX6_due_46 : decode cX6_due 46 = .ok (.aload_n 0, 1) := by decide +kernel
theorem dX6_due_47 : decode cX6_due 47 = .ok (.getfield 7, 3) := by decide +kernel
theorem dX6_due_50 : decode cX6_due 50 = .ok (.iconst 2, 1) := by decide +kernel
theorem dX6_due_51 : decode cX6_due 51 = .ok (.iaload, 1) := by decide +kernel
theorem dX6_due_52 : decode cX6_due 52 = .ok (.aload_n 0, 1) := by decide +kernel
theorem dX6_due_53 : decode cX6_due 53 = .ok (.iload 6, 2) := by decide +kernel
theorem dX6_due_55 : decode cX6_due 55 = .ok (.iconst 0, 1) := by decide +kernel
theorem dX6_due_56 : decode cX6_due 56 = .ok (.invokevirtual 65, 3) := by decide +kernel
theorem dX6_due_59 : decode cX6_due 59 = .ok (.imul, 1) := by decide +kernel
theorem dX6_due_60 : decode cX6_due 60 = .ok (.iload_n 2, 1) := by decide +kernel
theorem dX6_due_61 : decode cX6_due 61 = .ok (.irem, 1) := by decide +kernel
theorem dX6_due_62 : decode cX6_due 62 = .ok (.istore 7, 2) := by decide +kernel
theorem dX6_due_64 : decode cX6_due 64 = .ok (.iload_n 3, 1) := by decide +kernel
theorem dX6_due_65 : decode cX6_due 65 = .ok (.aload_n 0, 1) := by decide +kernel
theorem dX6_due_66 : decode cX6_due 66 = .ok (.getfield 7, 3) := by decide +kernel
theorem dX6_due_69 : decode cX6_due 69 = .ok (.iconst 2, 1) := by decide +kernel
theorem dX6_due_70 : decode cX6_due 70 = .ok (.iaload, 1) := by decide +kernel
theorem dX6_due_71 : decode cX6_due 71 = .ok (.aload_n 0, 1) := by decide +kernel
theorem dX6_due_72 : decode cX6_due 72 = .ok (.iload 6, 2) := by decide +kernel
theorem dX6_due_74 : decode cX6_due 74 = .ok (.iconst 0, 1) := by decide +kernel
theorem dX6_due_75 : decode cX6_due 75 = .ok (.invokevirtual 65, 3) := by decide +kernel
theorem dX6_due_78 : decode cX6_due 78 = .ok (.imul, 1) := by decide +kernel
theorem dX6_due_79 : decode cX6_due 79 = .ok (.iload_n 2, 1) := by decide +kernel
theorem dX6_due_80 : decode cX6_due 80 = .ok (.idiv, 1) := by decide +kernel
theorem dX6_due_81 : decode cX6_due 81 = .ok (.isub, 1) := by decide +kernel
theorem dX6_due_82 : decode cX6_due 82 = .ok (.istore_n 3, 1) := by decide +kernel
theorem dX6_due_83 : decode cX6_due 83 = .ok (.iload 4, 2) := by decide +kernel
theorem dX6_due_85 : decode cX6_due 85 = .ok (.iload 7, 2) := by decide +kernel
theorem dX6_due_87 : decode cX6_due 87 = .ok (.iload 5, 2) := by decide +kernel
theorem dX6_due_89 : decode cX6_due 89 = .ok (.if_icmp .gt 16, 3) := by decide +kernel
theorem dX6_due_92 : decode cX6_due 92 = .ok (.iload 7, 2) := by decide +kernel
theorem dX6_due_94 : decode cX6_due 94 = .ok (.iload 5, 2) := by decide +kernel
theorem dX6_due_96 : decode cX6_due 96 = .ok (.if_icmp .ne 13, 3) := by decide +kernel
theorem dX6_due_99 : decode cX6_due 99 = .ok (.iload 6, 2) := by decide +kernel
theorem dX6_due_101 : decode cX6_due 101 = .ok (.iload_n 1, 1) := by decide +kernel
theorem dX6_due_102 : decode cX6_due 102 = .ok (.if_icmp .ge 7, 3) := by decide +kernel
theorem dX6_due_105 : decode cX6_due 105 = .ok (.iconst 1, 1) := by decide +kernel
theorem dX6_due_106 : decode cX6_due 106 = .ok (.goto 4, 3) := by decide +kernel
theorem dX6_due_109 : decode cX6_due 109 = .ok (.iconst 0, 1) := by decide +kernel
theorem dX6_due_110 : decode cX6_due 110 = .ok (.iadd, 1) := by decide +kernel
theorem dX6_due_111 : decode cX6_due 111 = .ok (.istore 4, 2) := by decide +kernel
theorem dX6_due_113 : decode cX6_due 113 = .ok (.iinc 6 1, 3) := by decide +kernel
theorem dX6_due_116 : decode cX6_due 116 = .ok (.goto (-81), 3) := by decide +kernel
theorem dX6_due_119 : decode cX6_due 119 = .ok (.aload_n 0, 1) := by decide +kernel
theorem dX6_due_120 : decode cX6_due 120 = .ok (.getfield 7, 3) := by decide +kernel
theorem dX6_due_123 : decode cX6_due 123 = .ok (.iconst 2, 1) := by decide +kernel
theorem dX6_due_124 : decode cX6_due 124 = .ok (.iaload, 1) := by decide +kernel
theorem dX6_due_125 : decode cX6_due 125 = .ok (.aload_n 0, 1) := by decide +kernel
theorem dX6_due_126 : decode cX6_due 126 = .ok (.iload_n 1, 1) := by decide +kernel
theorem dX6_due_127 : decode cX6_due 127 = .ok (.iconst 0, 1) := by decide +kernel
theorem dX6_due_128 : decode cX6_due 128 = .ok (.invokevirtual 65, 3) := by decide +kernel
theorem dX6_due_131 : decode cX6_due 131 = .ok (.imul, 1) := by decide +kernel
theorem dX6_due_132 : decode cX6_due 132 = .ok (.iload_n 2, 1) := by decide +kernel
theorem dX6_due_133 : decode cX6_due 133 = .ok (.idiv, 1) := by decide +kernel
theorem dX6_due_134 : decode cX6_due 134 = .ok (.iload 4, 2) := by decide +kernel
theorem dX6_due_136 : decode cX6_due 136 = .ok (.iload_n 3, 1) := by decide +kernel
theorem dX6_due_137 : decode cX6_due 137 = .ok (.if_icmp .ge 7, 3) := by decide +kernel
theorem dX6_due_140 : decode cX6_due 140 = .ok (.iconst 1, 1) := by decide +kernel
theorem dX6_due_141 : decode cX6_due 141 = .ok (.goto 4, 3) := by decide +kernel
theorem dX6_due_144 : decode cX6_due 144 = .ok (.iconst 0, 1) := by decide +kernel
theorem dX6_due_145 : decode cX6_due 145 = .ok (.iadd, 1) := by decide +kernel
theorem dX6_due_146 : decode cX6_due 146 = .ok (.ireturn, 1) := by decide +kernel
theorem dX6_favour_0 : decode cX6_favour 0 = .ok (.iconst 0, 1) := by decide +kernel
theorem dX6_favour_1 : decode cX6_favour 1 = .ok (.istore_n 3, 1) := by decide +kernel
theorem dX6_favour_2 : decode cX6_favour 2 = .ok (.iconst 0, 1) := by decide +kernel
theorem dX6_favour_3 : decode cX6_favour 3 = .ok (.istore 4, 2) := by decide +kernel
theorem dX6_favour_5 : decode cX6_favour 5 = .ok (.iload 4, 2) := by decide +kernel
theorem dX6_favour_7 : decode cX6_favour 7 = .ok (.aload_n 0, 1) := by decide +kernel
theorem dX6_favour_8 : decode cX6_favour 8 = .ok (.getfield 7, 3) := by decide +kernel
theorem dX6_favour_11 : decode cX6_favour 11 = .ok (.iconst 0, 1) := by decide +kernel
theorem dX6_favour_12 : decode cX6_favour 12 = .ok (.iaload, 1) := by decide +kernel
theorem dX6_favour_13 : decode cX6_favour 13 = .ok (.if_icmp .ge 38, 3) := by decide +kernel
theorem dX6_favour_16 : decode cX6_favour 16 = .ok (.iload_n 3, 1) := by decide +kernel
theorem dX6_favour_17 : decode cX6_favour 17 = .ok (.aload_n 0, 1) := by decide +kernel
theorem dX6_favour_18 : decode cX6_favour 18 = .ok (.iload 4, 2) := by decide +kernel
theorem dX6_favour_20 : decode cX6_favour 20 = .ok (.iconst 3, 1) := by decide +kernel
theorem dX6_favour_21 : decode cX6_favour 21 = .ok (.invokevirtual 65, 3) := by decide +kernel
theorem dX6_favour_24 : decode cX6_favour 24 = .ok (.iload_n 1, 1) := by decide +kernel
theorem dX6_favour_25 : decode cX6_favour 25 = .ok (.invokestatic 61, 3) := by decide +kernel
theorem dX6_favour_28 : decode cX6_favour 28 = .ok (.iload_n 2, 1) := by decide +kernel
theorem dX6_favour_29 : decode cX6_favour 29 = .ok (.if_icmp .gt 13, 3) := by decide +kernel
theorem dX6_favour_32 : decode cX6_favour 32 = .ok (.aload_n 0, 1) := by decide +kernel
theorem dX6_favour_33 : decode cX6_favour 33 = .ok (.iload 4, 2) := by decide +kernel
theorem dX6_favour_35 : decode cX6_favour 35 = .ok (.iconst 0, 1) := by decide +kernel
theorem dX6_favour_36 : decode cX6_favour 36 = .ok (.invokevirtual 65, 3) := by decide +kernel
theorem dX6_favour_39 : decode cX6_favour 39 = .ok (.goto 4, 3) := by decide +kernel
theorem dX6_favour_42 : decode cX6_favour 42 = .ok (.iconst 0, 1) := by decide +kernel
theorem dX6_favour_43 : decode cX6_favour 43 = .ok (.iadd, 1) := by decide +kernel
theorem dX6_favour_44 : decode cX6_favour 44 = .ok (.istore_n 3, 1) := by decide +kernel
theorem dX6_favour_45 : decode cX6_favour 45 = .ok (.iinc 4 1, 3) := by decide +kernel
theorem dX6_favour_48 : decode cX6_favour 48 = .ok (.goto (-43), 3) := by decide +kernel
theorem dX6_favour_51 : decode cX6_favour 51 = .ok (.iload_n 3, 1) := by decide +kernel
theorem dX6_favour_52 : decode cX6_favour 52 = .ok (.ireturn, 1) := by decide +kernel
theorem dX6_sharesOf_0 : decode cX6_sharesOf 0 = .ok (.iconst 0, 1) := by decide +kernel
theorem dX6_sharesOf_1 : decode cX6_sharesOf 1 = .ok (.istore_n 2, 1) := by decide +kernel
theorem dX6_sharesOf_2 : decode cX6_sharesOf 2 = .ok (.iconst 0, 1) := by decide +kernel
theorem dX6_sharesOf_3 : decode cX6_sharesOf 3 = .ok (.istore_n 3, 1) := by decide +kernel
theorem dX6_sharesOf_4 : decode cX6_sharesOf 4 = .ok (.iload_n 3, 1) := by decide +kernel
theorem dX6_sharesOf_5 : decode cX6_sharesOf 5 = .ok (.aload_n 0, 1) := by decide +kernel
theorem dX6_sharesOf_6 : decode cX6_sharesOf 6 = .ok (.getfield 7, 3) := by decide +kernel
theorem dX6_sharesOf_9 : decode cX6_sharesOf 9 = .ok (.iconst 0, 1) := by decide +kernel
theorem dX6_sharesOf_10 : decode cX6_sharesOf 10 = .ok (.iaload, 1) := by decide +kernel
theorem dX6_sharesOf_11 : decode cX6_sharesOf 11 = .ok (.if_icmp .ge 31, 3) := by decide +kernel
theorem dX6_sharesOf_14 : decode cX6_sharesOf 14 = .ok (.iload_n 2, 1) := by decide +kernel
theorem dX6_sharesOf_15 : decode cX6_sharesOf 15 = .ok (.iload_n 1, 1) := by decide +kernel
theorem dX6_sharesOf_16 : decode cX6_sharesOf 16 = .ok (.iload_n 3, 1) := by decide +kernel
theorem dX6_sharesOf_17 : decode cX6_sharesOf 17 = .ok (.ishr, 1) := by decide +kernel
theorem dX6_sharesOf_18 : decode cX6_sharesOf 18 = .ok (.iconst 1, 1) := by decide +kernel
theorem dX6_sharesOf_19 : decode cX6_sharesOf 19 = .ok (.iand, 1) := by decide +kernel
theorem dX6_sharesOf_20 : decode cX6_sharesOf 20 = .ok (.iconst 1, 1) := by decide +kernel
theorem dX6_sharesOf_21 : decode cX6_sharesOf 21 = .ok (.if_icmp .ne 12, 3) := by decide +kernel
theorem dX6_sharesOf_24 : decode cX6_sharesOf 24 = .ok (.aload_n 0, 1) := by decide +kernel
theorem dX6_sharesOf_25 : decode cX6_sharesOf 25 = .ok (.iload_n 3, 1) := by decide +kernel
theorem dX6_sharesOf_26 : decode cX6_sharesOf 26 = .ok (.iconst 0, 1) := by decide +kernel
theorem dX6_sharesOf_27 : decode cX6_sharesOf 27 = .ok (.invokevirtual 65, 3) := by decide +kernel
theorem dX6_sharesOf_30 : decode cX6_sharesOf 30 = .ok (.goto 4, 3) := by decide +kernel
theorem dX6_sharesOf_33 : decode cX6_sharesOf 33 = .ok (.iconst 0, 1) := by decide +kernel
theorem dX6_sharesOf_34 : decode cX6_sharesOf 34 = .ok (.iadd, 1) := by decide +kernel
theorem dX6_sharesOf_35 : decode cX6_sharesOf 35 = .ok (.istore_n 2, 1) := by decide +kernel
theorem dX6_sharesOf_36 : decode cX6_sharesOf 36 = .ok (.iinc 3 1, 3) := by decide +kernel
theorem dX6_sharesOf_39 : decode cX6_sharesOf 39 = .ok (.goto (-35), 3) := by decide +kernel
theorem dX6_sharesOf_42 : decode cX6_sharesOf 42 = .ok (.iload_n 2, 1) := by decide +kernel
theorem dX6_sharesOf_43 : decode cX6_sharesOf 43 = .ok (.ireturn, 1) := by decide +kernel
theorem dX6_decisive_0 : decode cX6_decisive 0 = .ok (.iconst 0, 1) := by decide +kernel
theorem dX6_decisive_1 : decode cX6_decisive 1 = .ok (.istore_n 2, 1) := by decide +kernel
theorem dX6_decisive_2 : decode cX6_decisive 2 = .ok (.iconst 0, 1) := by decide +kernel
theorem dX6_decisive_3 : decode cX6_decisive 3 = .ok (.istore_n 3, 1) := by decide +kernel
theorem dX6_decisive_4 : decode cX6_decisive 4 = .ok (.iload_n 3, 1) := by decide +kernel
theorem dX6_decisive_5 : decode cX6_decisive 5 = .ok (.iconst 1, 1) := by decide +kernel
theorem dX6_decisive_6 : decode cX6_decisive 6 = .ok (.aload_n 0, 1) := by decide +kernel
theorem dX6_decisive_7 : decode cX6_decisive 7 = .ok (.getfield 7, 3) := by decide +kernel
theorem dX6_decisive_10 : decode cX6_decisive 10 = .ok (.iconst 0, 1) := by decide +kernel
theorem dX6_decisive_11 : decode cX6_decisive 11 = .ok (.iaload, 1) := by decide +kernel
theorem dX6_decisive_12 : decode cX6_decisive 12 = .ok (.ishl, 1) := by decide +kernel
theorem dX6_decisive_13 : decode cX6_decisive 13 = .ok (.if_icmp .ge 61, 3) := by decide +kernel
theorem dX6_decisive_16 : decode cX6_decisive 16 = .ok (.iload_n 3, 1) := by decide +kernel
theorem dX6_decisive_17 : decode cX6_decisive 17 = .ok (.iload_n 1, 1) := by decide +kernel
theorem dX6_decisive_18 : decode cX6_decisive 18 = .ok (.ishr, 1) := by decide +kernel
theorem dX6_decisive_19 : decode cX6_decisive 19 = .ok (.iconst 1, 1) := by decide +kernel
theorem dX6_decisive_20 : decode cX6_decisive 20 = .ok (.iand, 1) := by decide +kernel
theorem dX6_decisive_21 : decode cX6_decisive 21 = .ok (.iconst 1, 1) := by decide +kernel
theorem dX6_decisive_22 : decode cX6_decisive 22 = .ok (.if_icmp .ne 6, 3) := by decide +kernel
theorem dX6_decisive_25 : decode cX6_decisive 25 = .ok (.goto 43, 3) := by decide +kernel
theorem dX6_decisive_28 : decode cX6_decisive 28 = .ok (.aload_n 0, 1) := by decide +kernel
theorem dX6_decisive_29 : decode cX6_decisive 29 = .ok (.iload_n 3, 1) := by decide +kernel
theorem dX6_decisive_30 : decode cX6_decisive 30 = .ok (.invokevirtual 83, 3) := by decide +kernel
theorem dX6_decisive_33 : decode cX6_decisive 33 = .ok (.istore 4, 2) := by decide +kernel
theorem dX6_decisive_35 : decode cX6_decisive 35 = .ok (.iload_n 2, 1) := by decide +kernel
theorem dX6_decisive_36 : decode cX6_decisive 36 = .ok (.iload 4, 2) := by decide +kernel
theorem dX6_decisive_38 : decode cX6_decisive 38 = .ok (.aload_n 0, 1) := by decide +kernel
theorem dX6_decisive_39 : decode cX6_decisive 39 = .ok (.invokevirtual 86, 3) := by decide +kernel
theorem dX6_decisive_42 : decode cX6_decisive 42 = .ok (.if_icmp .ge 23, 3) := by decide +kernel
theorem dX6_decisive_45 : decode cX6_decisive 45 = .ok (.iload 4, 2) := by decide +kernel
theorem dX6_decisive_47 : decode cX6_decisive 47 = .ok (.aload_n 0, 1) := by decide +kernel
theorem dX6_decisive_48 : decode cX6_decisive 48 = .ok (.iload_n 1, 1) := by decide +kernel
theorem dX6_decisive_49 : decode cX6_decisive 49 = .ok (.iconst 0, 1) := by decide +kernel
theorem dX6_decisive_50 : decode cX6_decisive 50 = .ok (.invokevirtual 65, 3) := by decide +kernel
theorem dX6_decisive_53 : decode cX6_decisive 53 = .ok (.iadd, 1) := by decide +kernel
theorem dX6_decisive_54 : decode cX6_decisive 54 = .ok (.aload_n 0, 1) := by decide +kernel
theorem dX6_decisive_55 : decode cX6_decisive 55 = .ok (.invokevirtual 86, 3) := by decide +kernel
theorem dX6_decisive_58 : decode cX6_decisive 58 = .ok (.if_icmp .lt 7, 3) := by decide +kernel
theorem dX6_decisive_61 : decode cX6_decisive 61 = .ok (.iconst 1, 1) := by decide +kernel
theorem dX6_decisive_62 : decode cX6_decisive 62 = .ok (.goto 4, 3) := by decide +kernel
theorem dX6_decisive_65 : decode cX6_decisive 65 = .ok (.iconst 0, 1) := by decide +kernel
theorem dX6_decisive_66 : decode cX6_decisive 66 = .ok (.iadd, 1) := by decide +kernel
theorem dX6_decisive_67 : decode cX6_decisive 67 = .ok (.istore_n 2, 1) := by decide +kernel
theorem dX6_decisive_68 : decode cX6_decisive 68 = .ok (.iinc 3 1, 3) := by decide +kernel
theorem dX6_decisive_71 : decode cX6_decisive 71 = .ok (.goto (-67), 3) := by decide +kernel
theorem dX6_decisive_74 : decode cX6_decisive 74 = .ok (.iload_n 2, 1) := by decide +kernel
theorem dX6_decisive_75 : decode cX6_decisive 75 = .ok (.ireturn, 1) := by decide +kernel
theorem dX6_joins_0 : decode cX6_joins 0 = .ok (.iload_n 1, 1) := by decide +kernel
theorem dX6_joins_1 : decode cX6_joins 1 = .ok (.iconst 1, 1) := by decide +kernel
theorem dX6_joins_2 : decode cX6_joins 2 = .ok (.bipush 50, 2) := by decide +kernel
theorem dX6_joins_4 : decode cX6_joins 4 = .ok (.invokestatic 57, 3) := by decide +kernel
theorem dX6_joins_7 : decode cX6_joins 7 = .ok (.ifCond .eq 35, 3) := by decide +kernel
theorem dX6_joins_10 : decode cX6_joins 10 = .ok (.iload_n 2, 1) := by decide +kernel
theorem dX6_joins_11 : decode cX6_joins 11 = .ok (.iconst 2, 1) := by decide +kernel
theorem dX6_joins_12 : decode cX6_joins 12 = .ok (.bipush 12, 2) := by decide +kernel
theorem dX6_joins_14 : decode cX6_joins 14 = .ok (.invokestatic 57, 3) := by decide +kernel
theorem dX6_joins_17 : decode cX6_joins 17 = .ok (.ifCond .eq 25, 3) := by decide +kernel
theorem dX6_joins_20 : decode cX6_joins 20 = .ok (.iload_n 3, 1) := by decide +kernel
theorem dX6_joins_21 : decode cX6_joins 21 = .ok (.iconst 0, 1) := by decide +kernel
theorem dX6_joins_22 : decode cX6_joins 22 = .ok (.iload_n 2, 1) := by decide +kernel
theorem dX6_joins_23 : decode cX6_joins 23 = .ok (.iconst 1, 1) := by decide +kernel
theorem dX6_joins_24 : decode cX6_joins 24 = .ok (.isub, 1) := by decide +kernel
theorem dX6_joins_25 : decode cX6_joins 25 = .ok (.invokestatic 57, 3) := by decide +kernel
theorem dX6_joins_28 : decode cX6_joins 28 = .ok (.ifCond .eq 14, 3) := by decide +kernel
theorem dX6_joins_31 : decode cX6_joins 31 = .ok (.iload 4, 2) := by decide +kernel
theorem dX6_joins_33 : decode cX6_joins 33 = .ok (.iconst 0, 1) := by decide +kernel
theorem dX6_joins_34 : decode cX6_joins 34 = .ok (.bipush 11, 2) := by decide +kernel
theorem dX6_joins_36 : decode cX6_joins 36 = .ok (.invokestatic 57, 3) := by decide +kernel
theorem dX6_joins_39 : decode cX6_joins 39 = .ok (.ifCond .ne 5, 3) := by decide +kernel
theorem dX6_joins_42 : decode cX6_joins 42 = .ok (.iconst 1, 1) := by decide +kernel
theorem dX6_joins_43 : decode cX6_joins 43 = .ok (.ireturn, 1) := by decide +kernel
theorem dX6_joins_44 : decode cX6_joins 44 = .ok (.aload_n 0, 1) := by decide +kernel
theorem dX6_joins_45 : decode cX6_joins 45 = .ok (.getfield 7, 3) := by decide +kernel
theorem dX6_joins_48 : decode cX6_joins 48 = .ok (.iconst 0, 1) := by decide +kernel
theorem dX6_joins_49 : decode cX6_joins 49 = .ok (.iaload, 1) := by decide +kernel
theorem dX6_joins_50 : decode cX6_joins 50 = .ok (.istore 5, 2) := by decide +kernel
theorem dX6_joins_52 : decode cX6_joins 52 = .ok (.iload 5, 2) := by decide +kernel
theorem dX6_joins_54 : decode cX6_joins 54 = .ok (.bipush 8, 2) := by decide +kernel
theorem dX6_joins_56 : decode cX6_joins 56 = .ok (.if_icmp .ne 5, 3) := by decide +kernel
theorem dX6_joins_59 : decode cX6_joins 59 = .ok (.iconst 2, 1) := by decide +kernel
theorem dX6_joins_60 : decode cX6_joins 60 = .ok (.ireturn, 1) := by decide +kernel
theorem dX6_joins_61 : decode cX6_joins 61 = .ok (.aload_n 0, 1) := by decide +kernel
theorem dX6_joins_62 : decode cX6_joins 62 = .ok (.iload 5, 2) := by decide +kernel
theorem dX6_joins_64 : decode cX6_joins 64 = .ok (.iconst 0, 1) := by decide +kernel
theorem dX6_joins_65 : decode cX6_joins 65 = .ok (.iload_n 1, 1) := by decide +kernel
theorem dX6_joins_66 : decode cX6_joins 66 = .ok (.invokevirtual 76, 3) := by decide +kernel
theorem dX6_joins_69 : decode cX6_joins 69 = .ok (.aload_n 0, 1) := by decide +kernel
theorem dX6_joins_70 : decode cX6_joins 70 = .ok (.iload 5, 2) := by decide +kernel
theorem dX6_joins_72 : decode cX6_joins 72 = .ok (.iconst 1, 1) := by decide +kernel
theorem dX6_joins_73 : decode cX6_joins 73 = .ok (.iload_n 2, 1) := by decide +kernel
theorem dX6_joins_74 : decode cX6_joins 74 = .ok (.invokevirtual 76, 3) := by decide +kernel
theorem dX6_joins_77 : decode cX6_joins 77 = .ok (.aload_n 0, 1) := by decide +kernel
theorem dX6_joins_78 : decode cX6_joins 78 = .ok (.iload 5, 2) := by decide +kernel
theorem dX6_joins_80 : decode cX6_joins 80 = .ok (.iconst 2, 1) := by decide +kernel
theorem dX6_joins_81 : decode cX6_joins 81 = .ok (.iload_n 3, 1) := by decide +kernel
theorem dX6_joins_82 : decode cX6_joins 82 = .ok (.invokevirtual 76, 3) := by decide +kernel
theorem dX6_joins_85 : decode cX6_joins 85 = .ok (.aload_n 0, 1) := by decide +kernel
theorem dX6_joins_86 : decode cX6_joins 86 = .ok (.iload 5, 2) := by decide +kernel
theorem dX6_joins_88 : decode cX6_joins 88 = .ok (.iconst 3, 1) := by decide +kernel
theorem dX6_joins_89 : decode cX6_joins 89 = .ok (.iload 4, 2) := by decide +kernel
theorem dX6_joins_91 : decode cX6_joins 91 = .ok (.invokevirtual 76, 3) := by decide +kernel
theorem dX6_joins_94 : decode cX6_joins 94 = .ok (.aload_n 0, 1) := by decide +kernel
theorem dX6_joins_95 : decode cX6_joins 95 = .ok (.getfield 7, 3) := by decide +kernel
theorem dX6_joins_98 : decode cX6_joins 98 = .ok (.iconst 0, 1) := by decide +kernel
theorem dX6_joins_99 : decode cX6_joins 99 = .ok (.iload 5, 2) := by decide +kernel
theorem dX6_joins_101 : decode cX6_joins 101 = .ok (.iconst 1, 1) := by decide +kernel
theorem dX6_joins_102 : decode cX6_joins 102 = .ok (.iadd, 1) := by decide +kernel
theorem dX6_joins_103 : decode cX6_joins 103 = .ok (.iastore, 1) := by decide +kernel
theorem dX6_joins_104 : decode cX6_joins 104 = .ok (.aload_n 0, 1) := by decide +kernel
theorem dX6_joins_105 : decode cX6_joins 105 = .ok (.iload 5, 2) := by decide +kernel
theorem dX6_joins_107 : decode cX6_joins 107 = .ok (.invokevirtual 89, 3) := by decide +kernel
theorem dX6_joins_110 : decode cX6_joins 110 = .ok (.ireturn, 1) := by decide +kernel
theorem dX6_winds_0 : decode cX6_winds 0 = .ok (.aload_n 0, 1) := by decide +kernel
theorem dX6_winds_1 : decode cX6_winds 1 = .ok (.iload_n 1, 1) := by decide +kernel
theorem dX6_winds_2 : decode cX6_winds 2 = .ok (.invokevirtual 92, 3) := by decide +kernel
theorem dX6_winds_5 : decode cX6_winds 5 = .ok (.ifCond .ne 5, 3) := by decide +kernel
theorem dX6_winds_8 : decode cX6_winds 8 = .ok (.iconst 1, 1) := by decide +kernel
theorem dX6_winds_9 : decode cX6_winds 9 = .ok (.ireturn, 1) := by decide +kernel
theorem dX6_winds_10 : decode cX6_winds 10 = .ok (.iload_n 2, 1) := by decide +kernel
theorem dX6_winds_11 : decode cX6_winds 11 = .ok (.iconst 1, 1) := by decide +kernel
theorem dX6_winds_12 : decode cX6_winds 12 = .ok (.bipush 60, 2) := by decide +kernel
theorem dX6_winds_14 : decode cX6_winds 14 = .ok (.invokestatic 57, 3) := by decide +kernel
theorem dX6_winds_17 : decode cX6_winds 17 = .ok (.ifCond .ne 5, 3) := by decide +kernel
theorem dX6_winds_20 : decode cX6_winds 20 = .ok (.iconst 2, 1) := by decide +kernel
theorem dX6_winds_21 : decode cX6_winds 21 = .ok (.ireturn, 1) := by decide +kernel
theorem dX6_winds_22 : decode cX6_winds 22 = .ok (.aload_n 0, 1) := by decide +kernel
theorem dX6_winds_23 : decode cX6_winds 23 = .ok (.iload_n 1, 1) := by decide +kernel
theorem dX6_winds_24 : decode cX6_winds 24 = .ok (.iconst 4, 1) := by decide +kernel
theorem dX6_winds_25 : decode cX6_winds 25 = .ok (.invokevirtual 65, 3) := by decide +kernel
theorem dX6_winds_28 : decode cX6_winds 28 = .ok (.iload_n 2, 1) := by decide +kernel
theorem dX6_winds_29 : decode cX6_winds 29 = .ok (.iadd, 1) := by decide +kernel
theorem dX6_winds_30 : decode cX6_winds 30 = .ok (.bipush 60, 2) := by decide +kernel
theorem dX6_winds_32 : decode cX6_winds 32 = .ok (.if_icmp .le 5, 3) := by decide +kernel
theorem dX6_winds_35 : decode cX6_winds 35 = .ok (.iconst 3, 1) := by decide +kernel
theorem dX6_winds_36 : decode cX6_winds 36 = .ok (.ireturn, 1) := by decide +kernel
theorem dX6_winds_37 : decode cX6_winds 37 = .ok (.aload_n 0, 1) := by decide +kernel
theorem dX6_winds_38 : decode cX6_winds 38 = .ok (.iload_n 1, 1) := by decide +kernel
theorem dX6_winds_39 : decode cX6_winds 39 = .ok (.iconst 4, 1) := by decide +kernel
theorem dX6_winds_40 : decode cX6_winds 40 = .ok (.aload_n 0, 1) := by decide +kernel
theorem dX6_winds_41 : decode cX6_winds 41 = .ok (.iload_n 1, 1) := by decide +kernel
theorem dX6_winds_42 : decode cX6_winds 42 = .ok (.iconst 4, 1) := by decide +kernel
theorem dX6_winds_43 : decode cX6_winds 43 = .ok (.invokevirtual 65, 3) := by decide +kernel
theorem dX6_winds_46 : decode cX6_winds 46 = .ok (.iload_n 2, 1) := by decide +kernel
theorem dX6_winds_47 : decode cX6_winds 47 = .ok (.iadd, 1) := by decide +kernel
theorem dX6_winds_48 : decode cX6_winds 48 = .ok (.invokevirtual 76, 3) := by decide +kernel
theorem dX6_winds_51 : decode cX6_winds 51 = .ok (.aload_n 0, 1) := by decide +kernel
theorem dX6_winds_52 : decode cX6_winds 52 = .ok (.aload_n 0, 1) := by decide +kernel
theorem dX6_winds_53 : decode cX6_winds 53 = .ok (.iload_n 1, 1) := by decide +kernel
theorem dX6_winds_54 : decode cX6_winds 54 = .ok (.iconst 4, 1) := by decide +kernel
theorem dX6_winds_55 : decode cX6_winds 55 = .ok (.invokevirtual 65, 3) := by decide +kernel
theorem dX6_winds_58 : decode cX6_winds 58 = .ok (.invokevirtual 89, 3) := by decide +kernel
theorem dX6_winds_61 : decode cX6_winds 61 = .ok (.ireturn, 1) := by decide +kernel
theorem dX6_tunes_0 : decode cX6_tunes 0 = .ok (.aload_n 0, 1) := by decide +kernel
theorem dX6_tunes_1 : decode cX6_tunes 1 = .ok (.iload_n 1, 1) := by decide +kernel
theorem dX6_tunes_2 : decode cX6_tunes 2 = .ok (.invokevirtual 92, 3) := by decide +kernel
theorem dX6_tunes_5 : decode cX6_tunes 5 = .ok (.ifCond .ne 5, 3) := by decide +kernel
theorem dX6_tunes_8 : decode cX6_tunes 8 = .ok (.iconst 1, 1) := by decide +kernel
theorem dX6_tunes_9 : decode cX6_tunes 9 = .ok (.ireturn, 1) := by decide +kernel
theorem dX6_tunes_10 : decode cX6_tunes 10 = .ok (.iload_n 2, 1) := by decide +kernel
theorem dX6_tunes_11 : decode cX6_tunes 11 = .ok (.iconst 0, 1) := by decide +kernel
theorem dX6_tunes_12 : decode cX6_tunes 12 = .ok (.bipush 11, 2) := by decide +kernel
theorem dX6_tunes_14 : decode cX6_tunes 14 = .ok (.invokestatic 57, 3) := by decide +kernel
theorem dX6_tunes_17 : decode cX6_tunes 17 = .ok (.ifCond .ne 5, 3) := by decide +kernel
theorem dX6_tunes_20 : decode cX6_tunes 20 = .ok (.iconst 2, 1) := by decide +kernel
theorem dX6_tunes_21 : decode cX6_tunes 21 = .ok (.ireturn, 1) := by decide +kernel
theorem dX6_tunes_22 : decode cX6_tunes 22 = .ok (.aload_n 0, 1) := by decide +kernel
theorem dX6_tunes_23 : decode cX6_tunes 23 = .ok (.iload_n 1, 1) := by decide +kernel
theorem dX6_tunes_24 : decode cX6_tunes 24 = .ok (.iconst 3, 1) := by decide +kernel
theorem dX6_tunes_25 : decode cX6_tunes 25 = .ok (.invokevirtual 65, 3) := by decide +kernel
theorem dX6_tunes_28 : decode cX6_tunes 28 = .ok (.istore_n 3, 1) := by decide +kernel
theorem dX6_tunes_29 : decode cX6_tunes 29 = .ok (.aload_n 0, 1) := by decide +kernel
theorem dX6_tunes_30 : decode cX6_tunes 30 = .ok (.iload_n 1, 1) := by decide +kernel
theorem dX6_tunes_31 : decode cX6_tunes 31 = .ok (.iconst 3, 1) := by decide +kernel
theorem dX6_tunes_32 : decode cX6_tunes 32 = .ok (.iload_n 2, 1) := by decide +kernel
theorem dX6_tunes_33 : decode cX6_tunes 33 = .ok (.invokevirtual 76, 3) := by decide +kernel
theorem dX6_tunes_36 : decode cX6_tunes 36 = .ok (.aload_n 0, 1) := by decide +kernel
theorem dX6_tunes_37 : decode cX6_tunes 37 = .ok (.iload_n 3, 1) := by decide +kernel
theorem dX6_tunes_38 : decode cX6_tunes 38 = .ok (.invokevirtual 89, 3) := by decide +kernel
theorem dX6_tunes_41 : decode cX6_tunes 41 = .ok (.ireturn, 1) := by decide +kernel
theorem dX6_buys_0 : decode cX6_buys 0 = .ok (.aload_n 0, 1) := by decide +kernel
theorem dX6_buys_1 : decode cX6_buys 1 = .ok (.iload_n 1, 1) := by decide +kernel
theorem dX6_buys_2 : decode cX6_buys 2 = .ok (.invokevirtual 92, 3) := by decide +kernel
theorem dX6_buys_5 : decode cX6_buys 5 = .ok (.ifCond .ne 5, 3) := by decide +kernel
theorem dX6_buys_8 : decode cX6_buys 8 = .ok (.iconst 1, 1) := by decide +kernel
theorem dX6_buys_9 : decode cX6_buys 9 = .ok (.ireturn, 1) := by decide +kernel
theorem dX6_buys_10 : decode cX6_buys 10 = .ok (.iload_n 2, 1) := by decide +kernel
theorem dX6_buys_11 : decode cX6_buys 11 = .ok (.iconst 1, 1) := by decide +kernel
theorem dX6_buys_12 : decode cX6_buys 12 = .ok (.bipush 49, 2) := by decide +kernel
theorem dX6_buys_14 : decode cX6_buys 14 = .ok (.invokestatic 57, 3) := by decide +kernel
theorem dX6_buys_17 : decode cX6_buys 17 = .ok (.ifCond .ne 5, 3) := by decide +kernel
theorem dX6_buys_20 : decode cX6_buys 20 = .ok (.iconst 2, 1) := by decide +kernel
theorem dX6_buys_21 : decode cX6_buys 21 = .ok (.ireturn, 1) := by decide +kernel
theorem dX6_buys_22 : decode cX6_buys 22 = .ok (.aload_n 0, 1) := by decide +kernel
theorem dX6_buys_23 : decode cX6_buys 23 = .ok (.iload_n 1, 1) := by decide +kernel
theorem dX6_buys_24 : decode cX6_buys 24 = .ok (.iconst 0, 1) := by decide +kernel
theorem dX6_buys_25 : decode cX6_buys 25 = .ok (.invokevirtual 65, 3) := by decide +kernel
theorem dX6_buys_28 : decode cX6_buys 28 = .ok (.iload_n 2, 1) := by decide +kernel
theorem dX6_buys_29 : decode cX6_buys 29 = .ok (.iadd, 1) := by decide +kernel
theorem dX6_buys_30 : decode cX6_buys 30 = .ok (.bipush 50, 2) := by decide +kernel
theorem dX6_buys_32 : decode cX6_buys 32 = .ok (.if_icmp .le 5, 3) := by decide +kernel
theorem dX6_buys_35 : decode cX6_buys 35 = .ok (.iconst 3, 1) := by decide +kernel
theorem dX6_buys_36 : decode cX6_buys 36 = .ok (.ireturn, 1) := by decide +kernel
theorem dX6_buys_37 : decode cX6_buys 37 = .ok (.aload_n 0, 1) := by decide +kernel
theorem dX6_buys_38 : decode cX6_buys 38 = .ok (.iload_n 1, 1) := by decide +kernel
theorem dX6_buys_39 : decode cX6_buys 39 = .ok (.iconst 5, 1) := by decide +kernel
theorem dX6_buys_40 : decode cX6_buys 40 = .ok (.invokevirtual 65, 3) := by decide +kernel
theorem dX6_buys_43 : decode cX6_buys 43 = .ok (.iconst 5, 1) := by decide +kernel
theorem dX6_buys_44 : decode cX6_buys 44 = .ok (.iload_n 2, 1) := by decide +kernel
theorem dX6_buys_45 : decode cX6_buys 45 = .ok (.imul, 1) := by decide +kernel
theorem dX6_buys_46 : decode cX6_buys 46 = .ok (.if_icmp .ge 5, 3) := by decide +kernel
theorem dX6_buys_49 : decode cX6_buys 49 = .ok (.iconst 4, 1) := by decide +kernel
theorem dX6_buys_50 : decode cX6_buys 50 = .ok (.ireturn, 1) := by decide +kernel
theorem dX6_buys_51 : decode cX6_buys 51 = .ok (.aload_n 0, 1) := by decide +kernel
theorem dX6_buys_52 : decode cX6_buys 52 = .ok (.iload_n 1, 1) := by decide +kernel
theorem dX6_buys_53 : decode cX6_buys 53 = .ok (.iconst 5, 1) := by decide +kernel
theorem dX6_buys_54 : decode cX6_buys 54 = .ok (.aload_n 0, 1) := by decide +kernel
theorem dX6_buys_55 : decode cX6_buys 55 = .ok (.iload_n 1, 1) := by decide +kernel
theorem dX6_buys_56 : decode cX6_buys 56 = .ok (.iconst 5, 1) := by decide +kernel
theorem dX6_buys_57 : decode cX6_buys 57 = .ok (.invokevirtual 65, 3) := by decide +kernel
theorem dX6_buys_60 : decode cX6_buys 60 = .ok (.iconst 5, 1) := by decide +kernel
theorem dX6_buys_61 : decode cX6_buys 61 = .ok (.iload_n 2, 1) := by decide +kernel
theorem dX6_buys_62 : decode cX6_buys 62 = .ok (.imul, 1) := by decide +kernel
theorem dX6_buys_63 : decode cX6_buys 63 = .ok (.isub, 1) := by decide +kernel
theorem dX6_buys_64 : decode cX6_buys 64 = .ok (.invokevirtual 76, 3) := by decide +kernel
theorem dX6_buys_67 : decode cX6_buys 67 = .ok (.aload_n 0, 1) := by decide +kernel
theorem dX6_buys_68 : decode cX6_buys 68 = .ok (.getfield 7, 3) := by decide +kernel
theorem dX6_buys_71 : decode cX6_buys 71 = .ok (.iconst 2, 1) := by decide +kernel
theorem dX6_buys_72 : decode cX6_buys 72 = .ok (.dup2, 1) := by decide +kernel
theorem dX6_buys_73 : decode cX6_buys 73 = .ok (.iaload, 1) := by decide +kernel
theorem dX6_buys_74 : decode cX6_buys 74 = .ok (.iconst 5, 1) := by decide +kernel
theorem dX6_buys_75 : decode cX6_buys 75 = .ok (.iload_n 2, 1) := by decide +kernel
theorem dX6_buys_76 : decode cX6_buys 76 = .ok (.imul, 1) := by decide +kernel
theorem dX6_buys_77 : decode cX6_buys 77 = .ok (.iadd, 1) := by decide +kernel
theorem dX6_buys_78 : decode cX6_buys 78 = .ok (.iastore, 1) := by decide +kernel
theorem dX6_buys_79 : decode cX6_buys 79 = .ok (.aload_n 0, 1) := by decide +kernel
theorem dX6_buys_80 : decode cX6_buys 80 = .ok (.iload_n 1, 1) := by decide +kernel
theorem dX6_buys_81 : decode cX6_buys 81 = .ok (.iconst 0, 1) := by decide +kernel
theorem dX6_buys_82 : decode cX6_buys 82 = .ok (.aload_n 0, 1) := by decide +kernel
theorem dX6_buys_83 : decode cX6_buys 83 = .ok (.iload_n 1, 1) := by decide +kernel
theorem dX6_buys_84 : decode cX6_buys 84 = .ok (.iconst 0, 1) := by decide +kernel
theorem dX6_buys_85 : decode cX6_buys 85 = .ok (.invokevirtual 65, 3) := by decide +kernel
theorem dX6_buys_88 : decode cX6_buys 88 = .ok (.iload_n 2, 1) := by decide +kernel
theorem dX6_buys_89 : decode cX6_buys 89 = .ok (.iadd, 1) := by decide +kernel
theorem dX6_buys_90 : decode cX6_buys 90 = .ok (.invokevirtual 76, 3) := by decide +kernel
theorem dX6_buys_93 : decode cX6_buys 93 = .ok (.aload_n 0, 1) := by decide +kernel
theorem dX6_buys_94 : decode cX6_buys 94 = .ok (.aload_n 0, 1) := by decide +kernel
theorem dX6_buys_95 : decode cX6_buys 95 = .ok (.iload_n 1, 1) := by decide +kernel
theorem dX6_buys_96 : decode cX6_buys 96 = .ok (.iconst 0, 1) := by decide +kernel
theorem dX6_buys_97 : decode cX6_buys 97 = .ok (.invokevirtual 65, 3) := by decide +kernel
theorem dX6_buys_100 : decode cX6_buys 100 = .ok (.invokevirtual 89, 3) := by decide +kernel
theorem dX6_buys_103 : decode cX6_buys 103 = .ok (.ireturn, 1) := by decide +kernel
theorem dX6_passes_0 : decode cX6_passes 0 = .ok (.iload_n 1, 1) := by decide +kernel
theorem dX6_passes_1 : decode cX6_passes 1 = .ok (.iconst 1, 1) := by decide +kernel
theorem dX6_passes_2 : decode cX6_passes 2 = .ok (.bipush 60, 2) := by decide +kernel
theorem dX6_passes_4 : decode cX6_passes 4 = .ok (.invokestatic 57, 3) := by decide +kernel
theorem dX6_passes_7 : decode cX6_passes 7 = .ok (.ifCond .ne 5, 3) := by decide +kernel
theorem dX6_passes_10 : decode cX6_passes 10 = .ok (.iconst 1, 1) := by decide +kernel
theorem dX6_passes_11 : decode cX6_passes 11 = .ok (.ireturn, 1) := by decide +kernel
theorem dX6_passes_12 : decode cX6_passes 12 = .ok (.iconst 0, 1) := by decide +kernel
theorem dX6_passes_13 : decode cX6_passes 13 = .ok (.istore_n 2, 1) := by decide +kernel
theorem dX6_passes_14 : decode cX6_passes 14 = .ok (.iconst 0, 1) := by decide +kernel
theorem dX6_passes_15 : decode cX6_passes 15 = .ok (.istore_n 3, 1) := by decide +kernel
theorem dX6_passes_16 : decode cX6_passes 16 = .ok (.iload_n 3, 1) := by decide +kernel
theorem dX6_passes_17 : decode cX6_passes 17 = .ok (.iload_n 1, 1) := by decide +kernel
theorem dX6_passes_18 : decode cX6_passes 18 = .ok (.if_icmp .ge 16, 3) := by decide +kernel
theorem dX6_passes_21 : decode cX6_passes 21 = .ok (.iload_n 2, 1) := by decide +kernel
theorem dX6_passes_22 : decode cX6_passes 22 = .ok (.aload_n 0, 1) := by decide +kernel
theorem dX6_passes_23 : decode cX6_passes 23 = .ok (.invokevirtual 96, 3) := by decide +kernel
theorem dX6_passes_26 : decode cX6_passes 26 = .ok (.iadd, 1) := by decide +kernel
theorem dX6_passes_27 : decode cX6_passes 27 = .ok (.istore_n 2, 1) := by decide +kernel
theorem dX6_passes_28 : decode cX6_passes 28 = .ok (.iinc 3 1, 3) := by decide +kernel
theorem dX6_passes_31 : decode cX6_passes 31 = .ok (.goto (-15), 3) := by decide +kernel
theorem dX6_passes_34 : decode cX6_passes 34 = .ok (.aload_n 0, 1) := by decide +kernel
theorem dX6_passes_35 : decode cX6_passes 35 = .ok (.iload_n 2, 1) := by decide +kernel
theorem dX6_passes_36 : decode cX6_passes 36 = .ok (.invokevirtual 89, 3) := by decide +kernel
theorem dX6_passes_39 : decode cX6_passes 39 = .ok (.ireturn, 1) := by decide +kernel
theorem dX6_pays_0 : decode cX6_pays 0 = .ok (.aload_n 0, 1) := by decide +kernel
theorem dX6_pays_1 : decode cX6_pays 1 = .ok (.getfield 7, 3) := by decide +kernel
theorem dX6_pays_4 : decode cX6_pays 4 = .ok (.iconst 0, 1) := by decide +kernel
theorem dX6_pays_5 : decode cX6_pays 5 = .ok (.iaload, 1) := by decide +kernel
theorem dX6_pays_6 : decode cX6_pays 6 = .ok (.ifCond .ne 5, 3) := by decide +kernel
theorem dX6_pays_9 : decode cX6_pays 9 = .ok (.iconst 1, 1) := by decide +kernel
theorem dX6_pays_10 : decode cX6_pays 10 = .ok (.ireturn, 1) := by decide +kernel
theorem dX6_pays_11 : decode cX6_pays 11 = .ok (.aload_n 0, 1) := by decide +kernel
theorem dX6_pays_12 : decode cX6_pays 12 = .ok (.getfield 7, 3) := by decide +kernel
theorem dX6_pays_15 : decode cX6_pays 15 = .ok (.iconst 2, 1) := by decide +kernel
theorem dX6_pays_16 : decode cX6_pays 16 = .ok (.iaload, 1) := by decide +kernel
theorem dX6_pays_17 : decode cX6_pays 17 = .ok (.istore_n 1, 1) := by decide +kernel
theorem dX6_pays_18 : decode cX6_pays 18 = .ok (.iconst 0, 1) := by decide +kernel
theorem dX6_pays_19 : decode cX6_pays 19 = .ok (.istore_n 2, 1) := by decide +kernel
theorem dX6_pays_20 : decode cX6_pays 20 = .ok (.iload_n 2, 1) := by decide +kernel
theorem dX6_pays_21 : decode cX6_pays 21 = .ok (.aload_n 0, 1) := by decide +kernel
theorem dX6_pays_22 : decode cX6_pays 22 = .ok (.getfield 7, 3) := by decide +kernel
theorem dX6_pays_25 : decode cX6_pays 25 = .ok (.iconst 0, 1) := by decide +kernel
theorem dX6_pays_26 : decode cX6_pays 26 = .ok (.iaload, 1) := by decide +kernel
theorem dX6_pays_27 : decode cX6_pays 27 = .ok (.if_icmp .ge 27, 3) := by decide +kernel
theorem dX6_pays_30 : decode cX6_pays 30 = .ok (.aload_n 0, 1) := by decide +kernel
theorem dX6_pays_31 : decode cX6_pays 31 = .ok (.iload_n 2, 1) := by decide +kernel
theorem dX6_pays_32 : decode cX6_pays 32 = .ok (.iconst 5, 1) := by decide +kernel
theorem dX6_pays_33 : decode cX6_pays 33 = .ok (.aload_n 0, 1) := by decide +kernel
theorem dX6_pays_34 : decode cX6_pays 34 = .ok (.iload_n 2, 1) := by decide +kernel
theorem dX6_pays_35 : decode cX6_pays 35 = .ok (.iconst 5, 1) := by decide +kernel
theorem dX6_pays_36 : decode cX6_pays 36 = .ok (.invokevirtual 65, 3) := by decide +kernel
theorem dX6_pays_39 : decode cX6_pays 39 = .ok (.aload_n 0, 1) := by decide +kernel
theorem dX6_pays_40 : decode cX6_pays 40 = .ok (.iload_n 2, 1) := by decide +kernel
theorem dX6_pays_41 : decode cX6_pays 41 = .ok (.invokevirtual 99, 3) := by decide +kernel
theorem dX6_pays_44 : decode cX6_pays 44 = .ok (.iadd, 1) := by decide +kernel
theorem dX6_pays_45 : decode cX6_pays 45 = .ok (.invokevirtual 76, 3) := by decide +kernel
theorem dX6_pays_48 : decode cX6_pays 48 = .ok (.iinc 2 1, 3) := by decide +kernel
theorem dX6_pays_51 : decode cX6_pays 51 = .ok (.goto (-31), 3) := by decide +kernel
theorem dX6_pays_54 : decode cX6_pays 54 = .ok (.aload_n 0, 1) := by decide +kernel
theorem dX6_pays_55 : decode cX6_pays 55 = .ok (.getfield 7, 3) := by decide +kernel
theorem dX6_pays_58 : decode cX6_pays 58 = .ok (.iconst 2, 1) := by decide +kernel
theorem dX6_pays_59 : decode cX6_pays 59 = .ok (.iconst 0, 1) := by decide +kernel
theorem dX6_pays_60 : decode cX6_pays 60 = .ok (.iastore, 1) := by decide +kernel
theorem dX6_pays_61 : decode cX6_pays 61 = .ok (.aload_n 0, 1) := by decide +kernel
theorem dX6_pays_62 : decode cX6_pays 62 = .ok (.getfield 7, 3) := by decide +kernel
theorem dX6_pays_65 : decode cX6_pays 65 = .ok (.iconst 4, 1) := by decide +kernel
theorem dX6_pays_66 : decode cX6_pays 66 = .ok (.dup2, 1) := by decide +kernel
theorem dX6_pays_67 : decode cX6_pays 67 = .ok (.iaload, 1) := by decide +kernel
theorem dX6_pays_68 : decode cX6_pays 68 = .ok (.iconst 1, 1) := by decide +kernel
theorem dX6_pays_69 : decode cX6_pays 69 = .ok (.iadd, 1) := by decide +kernel
theorem dX6_pays_70 : decode cX6_pays 70 = .ok (.iastore, 1) := by decide +kernel
theorem dX6_pays_71 : decode cX6_pays 71 = .ok (.aload_n 0, 1) := by decide +kernel
theorem dX6_pays_72 : decode cX6_pays 72 = .ok (.iload_n 1, 1) := by decide +kernel
theorem dX6_pays_73 : decode cX6_pays 73 = .ok (.invokevirtual 89, 3) := by decide +kernel
theorem dX6_pays_76 : decode cX6_pays 76 = .ok (.ireturn, 1) := by decide +kernel
theorem dX6_votes_0 : decode cX6_votes 0 = .ok (.iload_n 1, 1) := by decide +kernel
theorem dX6_votes_1 : decode cX6_votes 1 = .ok (.iconst 0, 1) := by decide +kernel
theorem dX6_votes_2 : decode cX6_votes 2 = .ok (.bipush 11, 2) := by decide +kernel
theorem dX6_votes_4 : decode cX6_votes 4 = .ok (.invokestatic 57, 3) := by decide +kernel
theorem dX6_votes_7 : decode cX6_votes 7 = .ok (.ifCond .eq 13, 3) := by decide +kernel
theorem dX6_votes_10 : decode cX6_votes 10 = .ok (.iload_n 2, 1) := by decide +kernel
theorem dX6_votes_11 : decode cX6_votes 11 = .ok (.iconst 0, 1) := by decide +kernel
theorem dX6_votes_12 : decode cX6_votes 12 = .ok (.bipush 6, 2) := by decide +kernel
theorem dX6_votes_14 : decode cX6_votes 14 = .ok (.invokestatic 57, 3) := by decide +kernel
theorem dX6_votes_17 : decode cX6_votes 17 = .ok (.ifCond .ne 5, 3) := by decide +kernel
theorem dX6_votes_20 : decode cX6_votes 20 = .ok (.iconst 1, 1) := by decide +kernel
theorem dX6_votes_21 : decode cX6_votes 21 = .ok (.ireturn, 1) := by decide +kernel
theorem dX6_votes_22 : decode cX6_votes 22 = .ok (.aload_n 0, 1) := by decide +kernel
theorem dX6_votes_23 : decode cX6_votes 23 = .ok (.iload_n 1, 1) := by decide +kernel
theorem dX6_votes_24 : decode cX6_votes 24 = .ok (.iload_n 2, 1) := by decide +kernel
theorem dX6_votes_25 : decode cX6_votes 25 = .ok (.invokevirtual 102, 3) := by decide +kernel
theorem dX6_votes_28 : decode cX6_votes 28 = .ok (.aload_n 0, 1) := by decide +kernel
theorem dX6_votes_29 : decode cX6_votes 29 = .ok (.invokevirtual 86, 3) := by decide +kernel
theorem dX6_votes_32 : decode cX6_votes 32 = .ok (.if_icmp .ge 9, 3) := by decide +kernel
theorem dX6_votes_35 : decode cX6_votes 35 = .ok (.aload_n 0, 1) := by decide +kernel
theorem dX6_votes_36 : decode cX6_votes 36 = .ok (.iconst 0, 1) := by decide +kernel
theorem dX6_votes_37 : decode cX6_votes 37 = .ok (.invokevirtual 89, 3) := by decide +kernel
theorem dX6_votes_40 : decode cX6_votes 40 = .ok (.ireturn, 1) := by decide +kernel
theorem dX6_votes_41 : decode cX6_votes 41 = .ok (.aload_n 0, 1) := by decide +kernel
theorem dX6_votes_42 : decode cX6_votes 42 = .ok (.getfield 7, 3) := by decide +kernel
theorem dX6_votes_45 : decode cX6_votes 45 = .ok (.iconst 3, 1) := by decide +kernel
theorem dX6_votes_46 : decode cX6_votes 46 = .ok (.iload_n 1, 1) := by decide +kernel
theorem dX6_votes_47 : decode cX6_votes 47 = .ok (.iastore, 1) := by decide +kernel
theorem dX6_votes_48 : decode cX6_votes 48 = .ok (.iconst 0, 1) := by decide +kernel
theorem dX6_votes_49 : decode cX6_votes 49 = .ok (.istore_n 3, 1) := by decide +kernel
theorem dX6_votes_50 : decode cX6_votes 50 = .ok (.iload_n 3, 1) := by decide +kernel
theorem dX6_votes_51 : decode cX6_votes 51 = .ok (.aload_n 0, 1) := by decide +kernel
theorem dX6_votes_52 : decode cX6_votes 52 = .ok (.getfield 7, 3) := by decide +kernel
theorem dX6_votes_55 : decode cX6_votes 55 = .ok (.iconst 0, 1) := by decide +kernel
theorem dX6_votes_56 : decode cX6_votes 56 = .ok (.iaload, 1) := by decide +kernel
theorem dX6_votes_57 : decode cX6_votes 57 = .ok (.if_icmp .ge 43, 3) := by decide +kernel
theorem dX6_votes_60 : decode cX6_votes 60 = .ok (.aload_n 0, 1) := by decide +kernel
theorem dX6_votes_61 : decode cX6_votes 61 = .ok (.iload_n 3, 1) := by decide +kernel
theorem dX6_votes_62 : decode cX6_votes 62 = .ok (.bipush 6, 2) := by decide +kernel
theorem dX6_votes_64 : decode cX6_votes 64 = .ok (.aload_n 0, 1) := by decide +kernel
theorem dX6_votes_65 : decode cX6_votes 65 = .ok (.iload_n 3, 1) := by decide +kernel
theorem dX6_votes_66 : decode cX6_votes 66 = .ok (.bipush 6, 2) := by decide +kernel
theorem dX6_votes_68 : decode cX6_votes 68 = .ok (.invokevirtual 65, 3) := by decide +kernel
theorem dX6_votes_71 : decode cX6_votes 71 = .ok (.aload_n 0, 1) := by decide +kernel
theorem dX6_votes_72 : decode cX6_votes 72 = .ok (.iload_n 3, 1) := by decide +kernel
theorem dX6_votes_73 : decode cX6_votes 73 = .ok (.iconst 3, 1) := by decide +kernel
theorem dX6_votes_74 : decode cX6_votes 74 = .ok (.invokevirtual 65, 3) := by decide +kernel
theorem dX6_votes_77 : decode cX6_votes 77 = .ok (.iload_n 1, 1) := by decide +kernel
theorem dX6_votes_78 : decode cX6_votes 78 = .ok (.invokestatic 61, 3) := by decide +kernel
theorem dX6_votes_81 : decode cX6_votes 81 = .ok (.iload_n 2, 1) := by decide +kernel
theorem dX6_votes_82 : decode cX6_votes 82 = .ok (.if_icmp .gt 7, 3) := by decide +kernel
theorem dX6_votes_85 : decode cX6_votes 85 = .ok (.iconst 0, 1) := by decide +kernel
theorem dX6_votes_86 : decode cX6_votes 86 = .ok (.goto 4, 3) := by decide +kernel
theorem dX6_votes_89 : decode cX6_votes 89 = .ok (.iconst 1, 1) := by decide +kernel
theorem dX6_votes_90 : decode cX6_votes 90 = .ok (.iadd, 1) := by decide +kernel
theorem dX6_votes_91 : decode cX6_votes 91 = .ok (.invokevirtual 76, 3) := by decide +kernel
theorem dX6_votes_94 : decode cX6_votes 94 = .ok (.iinc 3 1, 3) := by decide +kernel
theorem dX6_votes_97 : decode cX6_votes 97 = .ok (.goto (-47), 3) := by decide +kernel
theorem dX6_votes_100 : decode cX6_votes 100 = .ok (.aload_n 0, 1) := by decide +kernel
theorem dX6_votes_101 : decode cX6_votes 101 = .ok (.iconst 1, 1) := by decide +kernel
theorem dX6_votes_102 : decode cX6_votes 102 = .ok (.invokevirtual 89, 3) := by decide +kernel
theorem dX6_votes_105 : decode cX6_votes 105 = .ok (.ireturn, 1) := by decide +kernel
theorem dX6_addMember_0 : decode cX6_addMember 0 = .ok (.aload_n 0, 1) := by decide +kernel
theorem dX6_addMember_1 : decode cX6_addMember 1 = .ok (.invokevirtual 105, 3) := by decide +kernel
theorem dX6_addMember_4 : decode cX6_addMember 4 = .ok (.aload_n 0, 1) := by decide +kernel
theorem dX6_addMember_5 : decode cX6_addMember 5 = .ok (.aload_n 0, 1) := by decide +kernel
theorem dX6_addMember_6 : decode cX6_addMember 6 = .ok (.iload_n 1, 1) := by decide +kernel
theorem dX6_addMember_7 : decode cX6_addMember 7 = .ok (.iload_n 2, 1) := by decide +kernel
theorem dX6_addMember_8 : decode cX6_addMember 8 = .ok (.iload_n 3, 1) := by decide +kernel
theorem dX6_addMember_9 : decode cX6_addMember 9 = .ok (.iload 4, 2) := by decide +kernel
theorem dX6_addMember_11 : decode cX6_addMember 11 = .ok (.invokevirtual 108, 3) := by decide +kernel
theorem dX6_addMember_14 : decode cX6_addMember 14 = .ok (.invokevirtual 112, 3) := by decide +kernel
theorem dX6_addMember_17 : decode cX6_addMember 17 = .ok (.ireturn, 1) := by decide +kernel
theorem dX6_wind_0 : decode cX6_wind 0 = .ok (.aload_n 0, 1) := by decide +kernel
theorem dX6_wind_1 : decode cX6_wind 1 = .ok (.invokevirtual 105, 3) := by decide +kernel
theorem dX6_wind_4 : decode cX6_wind 4 = .ok (.aload_n 0, 1) := by decide +kernel
theorem dX6_wind_5 : decode cX6_wind 5 = .ok (.aload_n 0, 1) := by decide +kernel
theorem dX6_wind_6 : decode cX6_wind 6 = .ok (.iload_n 1, 1) := by decide +kernel
theorem dX6_wind_7 : decode cX6_wind 7 = .ok (.iload_n 2, 1) := by decide +kernel
theorem dX6_wind_8 : decode cX6_wind 8 = .ok (.invokevirtual 115, 3) := by decide +kernel
theorem dX6_wind_11 : decode cX6_wind 11 = .ok (.invokevirtual 112, 3) := by decide +kernel
theorem dX6_wind_14 : decode cX6_wind 14 = .ok (.ireturn, 1) := by decide +kernel
theorem dX6_tune_0 : decode cX6_tune 0 = .ok (.aload_n 0, 1) := by decide +kernel
theorem dX6_tune_1 : decode cX6_tune 1 = .ok (.invokevirtual 105, 3) := by decide +kernel
theorem dX6_tune_4 : decode cX6_tune 4 = .ok (.aload_n 0, 1) := by decide +kernel
theorem dX6_tune_5 : decode cX6_tune 5 = .ok (.aload_n 0, 1) := by decide +kernel
theorem dX6_tune_6 : decode cX6_tune 6 = .ok (.iload_n 1, 1) := by decide +kernel
theorem dX6_tune_7 : decode cX6_tune 7 = .ok (.iload_n 2, 1) := by decide +kernel
theorem dX6_tune_8 : decode cX6_tune 8 = .ok (.invokevirtual 118, 3) := by decide +kernel
theorem dX6_tune_11 : decode cX6_tune 11 = .ok (.invokevirtual 112, 3) := by decide +kernel
theorem dX6_tune_14 : decode cX6_tune 14 = .ok (.ireturn, 1) := by decide +kernel
theorem dX6_buyShares_0 : decode cX6_buyShares 0 = .ok (.aload_n 0, 1) := by decide +kernel
theorem dX6_buyShares_1 : decode cX6_buyShares 1 = .ok (.invokevirtual 105, 3) := by decide +kernel
theorem dX6_buyShares_4 : decode cX6_buyShares 4 = .ok (.aload_n 0, 1) := by decide +kernel
theorem dX6_buyShares_5 : decode cX6_buyShares 5 = .ok (.aload_n 0, 1) := by decide +kernel
theorem dX6_buyShares_6 : decode cX6_buyShares 6 = .ok (.iload_n 1, 1) := by decide +kernel
theorem dX6_buyShares_7 : decode cX6_buyShares 7 = .ok (.iload_n 2, 1) := by decide +kernel
theorem dX6_buyShares_8 : decode cX6_buyShares 8 = .ok (.invokevirtual 121, 3) := by decide +kernel
theorem dX6_buyShares_11 : decode cX6_buyShares 11 = .ok (.invokevirtual 112, 3) := by decide +kernel
theorem dX6_buyShares_14 : decode cX6_buyShares 14 = .ok (.ireturn, 1) := by decide +kernel
theorem dX6_passBeats_0 : decode cX6_passBeats 0 = .ok (.aload_n 0, 1) := by decide +kernel
theorem dX6_passBeats_1 : decode cX6_passBeats 1 = .ok (.invokevirtual 105, 3) := by decide +kernel
theorem dX6_passBeats_4 : decode cX6_passBeats 4 = .ok (.aload_n 0, 1) := by decide +kernel
theorem dX6_passBeats_5 : decode cX6_passBeats 5 = .ok (.aload_n 0, 1) := by decide +kernel
theorem dX6_passBeats_6 : decode cX6_passBeats 6 = .ok (.iload_n 1, 1) := by decide +kernel
theorem dX6_passBeats_7 : decode cX6_passBeats 7 = .ok (.invokevirtual 124, 3) := by decide +kernel
theorem dX6_passBeats_10 : decode cX6_passBeats 10 = .ok (.invokevirtual 112, 3) := by decide +kernel
theorem dX6_passBeats_13 : decode cX6_passBeats 13 = .ok (.ireturn, 1) := by decide +kernel
theorem dX6_endQuarter_0 : decode cX6_endQuarter 0 = .ok (.aload_n 0, 1) := by decide +kernel
theorem dX6_endQuarter_1 : decode cX6_endQuarter 1 = .ok (.invokevirtual 105, 3) := by decide +kernel
theorem dX6_endQuarter_4 : decode cX6_endQuarter 4 = .ok (.aload_n 0, 1) := by decide +kernel
theorem dX6_endQuarter_5 : decode cX6_endQuarter 5 = .ok (.aload_n 0, 1) := by decide +kernel
theorem dX6_endQuarter_6 : decode cX6_endQuarter 6 = .ok (.invokevirtual 127, 3) := by decide +kernel
theorem dX6_endQuarter_9 : decode cX6_endQuarter 9 = .ok (.invokevirtual 112, 3) := by decide +kernel
theorem dX6_endQuarter_12 : decode cX6_endQuarter 12 = .ok (.ireturn, 1) := by decide +kernel
theorem dX6_vote_0 : decode cX6_vote 0 = .ok (.aload_n 0, 1) := by decide +kernel
theorem dX6_vote_1 : decode cX6_vote 1 = .ok (.invokevirtual 105, 3) := by decide +kernel
theorem dX6_vote_4 : decode cX6_vote 4 = .ok (.aload_n 0, 1) := by decide +kernel
theorem dX6_vote_5 : decode cX6_vote 5 = .ok (.aload_n 0, 1) := by decide +kernel
theorem dX6_vote_6 : decode cX6_vote 6 = .ok (.iload_n 1, 1) := by decide +kernel
theorem dX6_vote_7 : decode cX6_vote 7 = .ok (.iload_n 2, 1) := by decide +kernel
theorem dX6_vote_8 : decode cX6_vote 8 = .ok (.invokevirtual 130, 3) := by decide +kernel
theorem dX6_vote_11 : decode cX6_vote 11 = .ok (.invokevirtual 112, 3) := by decide +kernel
theorem dX6_vote_14 : decode cX6_vote 14 = .ok (.iconst 1, 1) := by decide +kernel
theorem dX6_vote_15 : decode cX6_vote 15 = .ok (.if_icmp .ne 7, 3) := by decide +kernel
theorem dX6_vote_18 : decode cX6_vote 18 = .ok (.iconst 1, 1) := by decide +kernel
theorem dX6_vote_19 : decode cX6_vote 19 = .ok (.goto 4, 3) := by decide +kernel
theorem dX6_vote_22 : decode cX6_vote 22 = .ok (.iconst 0, 1) := by decide +kernel
theorem dX6_vote_23 : decode cX6_vote 23 = .ok (.ireturn, 1) := by decide +kernel
theorem dX6_memberCount_0 : decode cX6_memberCount 0 = .ok (.aload_n 0, 1) := by decide +kernel
theorem dX6_memberCount_1 : decode cX6_memberCount 1 = .ok (.iconst 0, 1) := by decide +kernel
theorem dX6_memberCount_2 : decode cX6_memberCount 2 = .ok (.putfield 41, 3) := by decide +kernel
theorem dX6_memberCount_5 : decode cX6_memberCount 5 = .ok (.aload_n 0, 1) := by decide +kernel
theorem dX6_memberCount_6 : decode cX6_memberCount 6 = .ok (.getfield 7, 3) := by decide +kernel
theorem dX6_memberCount_9 : decode cX6_memberCount 9 = .ok (.iconst 0, 1) := by decide +kernel
theorem dX6_memberCount_10 : decode cX6_memberCount 10 = .ok (.iaload, 1) := by decide +kernel
theorem dX6_memberCount_11 : decode cX6_memberCount 11 = .ok (.ireturn, 1) := by decide +kernel
theorem dX6_isAsked_0 : decode cX6_isAsked 0 = .ok (.aload_n 0, 1) := by decide +kernel
theorem dX6_isAsked_1 : decode cX6_isAsked 1 = .ok (.aload_n 0, 1) := by decide +kernel
theorem dX6_isAsked_2 : decode cX6_isAsked 2 = .ok (.iload_n 1, 1) := by decide +kernel
theorem dX6_isAsked_3 : decode cX6_isAsked 3 = .ok (.invokevirtual 92, 3) := by decide +kernel
theorem dX6_isAsked_6 : decode cX6_isAsked 6 = .ok (.ifCond .eq 7, 3) := by decide +kernel
theorem dX6_isAsked_9 : decode cX6_isAsked 9 = .ok (.iconst 0, 1) := by decide +kernel
theorem dX6_isAsked_10 : decode cX6_isAsked 10 = .ok (.goto 4, 3) := by decide +kernel
theorem dX6_isAsked_13 : decode cX6_isAsked 13 = .ok (.iconst 1, 1) := by decide +kernel
theorem dX6_isAsked_14 : decode cX6_isAsked 14 = .ok (.putfield 41, 3) := by decide +kernel
theorem dX6_isAsked_17 : decode cX6_isAsked 17 = .ok (.aload_n 0, 1) := by decide +kernel
theorem dX6_isAsked_18 : decode cX6_isAsked 18 = .ok (.getfield 41, 3) := by decide +kernel
theorem dX6_isAsked_21 : decode cX6_isAsked 21 = .ok (.ifCond .ne 7, 3) := by decide +kernel
theorem dX6_isAsked_24 : decode cX6_isAsked 24 = .ok (.iconst 1, 1) := by decide +kernel
theorem dX6_isAsked_25 : decode cX6_isAsked 25 = .ok (.goto 4, 3) := by decide +kernel
theorem dX6_isAsked_28 : decode cX6_isAsked 28 = .ok (.iconst 0, 1) := by decide +kernel
theorem dX6_isAsked_29 : decode cX6_isAsked 29 = .ok (.ireturn, 1) := by decide +kernel
theorem dX6_shares_0 : decode cX6_shares 0 = .ok (.aload_n 0, 1) := by decide +kernel
theorem dX6_shares_1 : decode cX6_shares 1 = .ok (.iload_n 1, 1) := by decide +kernel
theorem dX6_shares_2 : decode cX6_shares 2 = .ok (.invokevirtual 133, 3) := by decide +kernel
theorem dX6_shares_5 : decode cX6_shares 5 = .ok (.ifCond .eq 12, 3) := by decide +kernel
theorem dX6_shares_8 : decode cX6_shares 8 = .ok (.aload_n 0, 1) := by decide +kernel
theorem dX6_shares_9 : decode cX6_shares 9 = .ok (.iload_n 1, 1) := by decide +kernel
theorem dX6_shares_10 : decode cX6_shares 10 = .ok (.iconst 0, 1) := by decide +kernel
theorem dX6_shares_11 : decode cX6_shares 11 = .ok (.invokevirtual 65, 3) := by decide +kernel
theorem dX6_shares_14 : decode cX6_shares 14 = .ok (.goto 4, 3) := by decide +kernel
theorem dX6_shares_17 : decode cX6_shares 17 = .ok (.iconst 0, 1) := by decide +kernel
theorem dX6_shares_18 : decode cX6_shares 18 = .ok (.ireturn, 1) := by decide +kernel
theorem dX6_spring_0 : decode cX6_spring 0 = .ok (.aload_n 0, 1) := by decide +kernel
theorem dX6_spring_1 : decode cX6_spring 1 = .ok (.iload_n 1, 1) := by decide +kernel
theorem dX6_spring_2 : decode cX6_spring 2 = .ok (.invokevirtual 133, 3) := by decide +kernel
theorem dX6_spring_5 : decode cX6_spring 5 = .ok (.ifCond .eq 12, 3) := by decide +kernel
theorem dX6_spring_8 : decode cX6_spring 8 = .ok (.aload_n 0, 1) := by decide +kernel
theorem dX6_spring_9 : decode cX6_spring 9 = .ok (.iload_n 1, 1) := by decide +kernel
theorem dX6_spring_10 : decode cX6_spring 10 = .ok (.iconst 4, 1) := by decide +kernel
theorem dX6_spring_11 : decode cX6_spring 11 = .ok (.invokevirtual 65, 3) := by decide +kernel
theorem dX6_spring_14 : decode cX6_spring 14 = .ok (.goto 4, 3) := by decide +kernel
theorem dX6_spring_17 : decode cX6_spring 17 = .ok (.iconst 0, 1) := by decide +kernel
theorem dX6_spring_18 : decode cX6_spring 18 = .ok (.ireturn, 1) := by decide +kernel
theorem dX6_tone_0 : decode cX6_tone 0 = .ok (.aload_n 0, 1) := by decide +kernel
theorem dX6_tone_1 : decode cX6_tone 1 = .ok (.iload_n 1, 1) := by decide +kernel
theorem dX6_tone_2 : decode cX6_tone 2 = .ok (.invokevirtual 133, 3) := by decide +kernel
theorem dX6_tone_5 : decode cX6_tone 5 = .ok (.ifCond .eq 12, 3) := by decide +kernel
theorem dX6_tone_8 : decode cX6_tone 8 = .ok (.aload_n 0, 1) := by decide +kernel
theorem dX6_tone_9 : decode cX6_tone 9 = .ok (.iload_n 1, 1) := by decide +kernel
theorem dX6_tone_10 : decode cX6_tone 10 = .ok (.iconst 3, 1) := by decide +kernel
theorem dX6_tone_11 : decode cX6_tone 11 = .ok (.invokevirtual 65, 3) := by decide +kernel
theorem dX6_tone_14 : decode cX6_tone 14 = .ok (.goto 4, 3) := by decide +kernel
theorem dX6_tone_17 : decode cX6_tone 17 = .ok (.iconst 0, 1) := by decide +kernel
theorem dX6_tone_18 : decode cX6_tone 18 = .ok (.ireturn, 1) := by decide +kernel
theorem dX6_purse_0 : decode cX6_purse 0 = .ok (.aload_n 0, 1) := by decide +kernel
theorem dX6_purse_1 : decode cX6_purse 1 = .ok (.iload_n 1, 1) := by decide +kernel
theorem dX6_purse_2 : decode cX6_purse 2 = .ok (.invokevirtual 133, 3) := by decide +kernel
theorem dX6_purse_5 : decode cX6_purse 5 = .ok (.ifCond .eq 12, 3) := by decide +kernel
theorem dX6_purse_8 : decode cX6_purse 8 = .ok (.aload_n 0, 1) := by decide +kernel
theorem dX6_purse_9 : decode cX6_purse 9 = .ok (.iload_n 1, 1) := by decide +kernel
theorem dX6_purse_10 : decode cX6_purse 10 = .ok (.iconst 5, 1) := by decide +kernel
theorem dX6_purse_11 : decode cX6_purse 11 = .ok (.invokevirtual 65, 3) := by decide +kernel
theorem dX6_purse_14 : decode cX6_purse 14 = .ok (.goto 4, 3) := by decide +kernel
theorem dX6_purse_17 : decode cX6_purse 17 = .ok (.iconst 0, 1) := by decide +kernel
theorem dX6_purse_18 : decode cX6_purse 18 = .ok (.ireturn, 1) := by decide +kernel
theorem dX6_dissents_0 : decode cX6_dissents 0 = .ok (.aload_n 0, 1) := by decide +kernel
theorem dX6_dissents_1 : decode cX6_dissents 1 = .ok (.iload_n 1, 1) := by decide +kernel
theorem dX6_dissents_2 : decode cX6_dissents 2 = .ok (.invokevirtual 133, 3) := by decide +kernel
theorem dX6_dissents_5 : decode cX6_dissents 5 = .ok (.ifCond .eq 13, 3) := by decide +kernel
theorem dX6_dissents_8 : decode cX6_dissents 8 = .ok (.aload_n 0, 1) := by decide +kernel
theorem dX6_dissents_9 : decode cX6_dissents 9 = .ok (.iload_n 1, 1) := by decide +kernel
theorem dX6_dissents_10 : decode cX6_dissents 10 = .ok (.bipush 6, 2) := by decide +kernel
theorem dX6_dissents_12 : decode cX6_dissents 12 = .ok (.invokevirtual 65, 3) := by decide +kernel
theorem dX6_dissents_15 : decode cX6_dissents 15 = .ok (.goto 4, 3) := by decide +kernel
theorem dX6_dissents_18 : decode cX6_dissents 18 = .ok (.iconst 0, 1) := by decide +kernel
theorem dX6_dissents_19 : decode cX6_dissents 19 = .ok (.ireturn, 1) := by decide +kernel
theorem dX6_areAsked_0 : decode cX6_areAsked 0 = .ok (.aload_n 0, 1) := by decide +kernel
theorem dX6_areAsked_1 : decode cX6_areAsked 1 = .ok (.aload_n 0, 1) := by decide +kernel
theorem dX6_areAsked_2 : decode cX6_areAsked 2 = .ok (.iload_n 1, 1) := by decide +kernel
theorem dX6_areAsked_3 : decode cX6_areAsked 3 = .ok (.invokevirtual 92, 3) := by decide +kernel
theorem dX6_areAsked_6 : decode cX6_areAsked 6 = .ok (.ifCond .eq 15, 3) := by decide +kernel
theorem dX6_areAsked_9 : decode cX6_areAsked 9 = .ok (.aload_n 0, 1) := by decide +kernel
theorem dX6_areAsked_10 : decode cX6_areAsked 10 = .ok (.iload_n 2, 1) := by decide +kernel
theorem dX6_areAsked_11 : decode cX6_areAsked 11 = .ok (.invokevirtual 92, 3) := by decide +kernel
theorem dX6_areAsked_14 : decode cX6_areAsked 14 = .ok (.ifCond .eq 7, 3) := by decide +kernel
theorem dX6_areAsked_17 : decode cX6_areAsked 17 = .ok (.iconst 0, 1) := by decide +kernel
theorem dX6_areAsked_18 : decode cX6_areAsked 18 = .ok (.goto 4, 3) := by decide +kernel
theorem dX6_areAsked_21 : decode cX6_areAsked 21 = .ok (.iconst 1, 1) := by decide +kernel
theorem dX6_areAsked_22 : decode cX6_areAsked 22 = .ok (.putfield 41, 3) := by decide +kernel
theorem dX6_areAsked_25 : decode cX6_areAsked 25 = .ok (.aload_n 0, 1) := by decide +kernel
theorem dX6_areAsked_26 : decode cX6_areAsked 26 = .ok (.getfield 41, 3) := by decide +kernel
theorem dX6_areAsked_29 : decode cX6_areAsked 29 = .ok (.ifCond .ne 7, 3) := by decide +kernel
theorem dX6_areAsked_32 : decode cX6_areAsked 32 = .ok (.iconst 1, 1) := by decide +kernel
theorem dX6_areAsked_33 : decode cX6_areAsked 33 = .ok (.goto 4, 3) := by decide +kernel
theorem dX6_areAsked_36 : decode cX6_areAsked 36 = .ok (.iconst 0, 1) := by decide +kernel
theorem dX6_areAsked_37 : decode cX6_areAsked 37 = .ok (.ireturn, 1) := by decide +kernel
theorem dX6_interval_0 : decode cX6_interval 0 = .ok (.aload_n 0, 1) := by decide +kernel
theorem dX6_interval_1 : decode cX6_interval 1 = .ok (.iload_n 1, 1) := by decide +kernel
theorem dX6_interval_2 : decode cX6_interval 2 = .ok (.iload_n 2, 1) := by decide +kernel
theorem dX6_interval_3 : decode cX6_interval 3 = .ok (.invokevirtual 136, 3) := by decide +kernel
theorem dX6_interval_6 : decode cX6_interval 6 = .ok (.ifCond .eq 21, 3) := by decide +kernel
theorem dX6_interval_9 : decode cX6_interval 9 = .ok (.aload_n 0, 1) := by decide +kernel
theorem dX6_interval_10 : decode cX6_interval 10 = .ok (.iload_n 1, 1) := by decide +kernel
theorem dX6_interval_11 : decode cX6_interval 11 = .ok (.iconst 3, 1) := by decide +kernel
theorem dX6_interval_12 : decode cX6_interval 12 = .ok (.invokevirtual 65, 3) := by decide +kernel
theorem dX6_interval_15 : decode cX6_interval 15 = .ok (.aload_n 0, 1) := by decide +kernel
theorem dX6_interval_16 : decode cX6_interval 16 = .ok (.iload_n 2, 1) := by decide +kernel
theorem dX6_interval_17 : decode cX6_interval 17 = .ok (.iconst 3, 1) := by decide +kernel
theorem dX6_interval_18 : decode cX6_interval 18 = .ok (.invokevirtual 65, 3) := by decide +kernel
theorem dX6_interval_21 : decode cX6_interval 21 = .ok (.invokestatic 61, 3) := by decide +kernel
theorem dX6_interval_24 : decode cX6_interval 24 = .ok (.goto 4, 3) := by decide +kernel
theorem dX6_interval_27 : decode cX6_interval 27 = .ok (.iconst 0, 1) := by decide +kernel
theorem dX6_interval_28 : decode cX6_interval 28 = .ok (.ireturn, 1) := by decide +kernel
theorem dX6_isAhead_0 : decode cX6_isAhead 0 = .ok (.aload_n 0, 1) := by decide +kernel
theorem dX6_isAhead_1 : decode cX6_isAhead 1 = .ok (.iload_n 1, 1) := by decide +kernel
theorem dX6_isAhead_2 : decode cX6_isAhead 2 = .ok (.iconst 0, 1) := by decide +kernel
theorem dX6_isAhead_3 : decode cX6_isAhead 3 = .ok (.invokevirtual 65, 3) := by decide +kernel
theorem dX6_isAhead_6 : decode cX6_isAhead 6 = .ok (.aload_n 0, 1) := by decide +kernel
theorem dX6_isAhead_7 : decode cX6_isAhead 7 = .ok (.iload_n 2, 1) := by decide +kernel
theorem dX6_isAhead_8 : decode cX6_isAhead 8 = .ok (.iconst 0, 1) := by decide +kernel
theorem dX6_isAhead_9 : decode cX6_isAhead 9 = .ok (.invokevirtual 65, 3) := by decide +kernel
theorem dX6_isAhead_12 : decode cX6_isAhead 12 = .ok (.if_icmp .eq 24, 3) := by decide +kernel
theorem dX6_isAhead_15 : decode cX6_isAhead 15 = .ok (.aload_n 0, 1) := by decide +kernel
theorem dX6_isAhead_16 : decode cX6_isAhead 16 = .ok (.iload_n 1, 1) := by decide +kernel
theorem dX6_isAhead_17 : decode cX6_isAhead 17 = .ok (.iconst 0, 1) := by decide +kernel
theorem dX6_isAhead_18 : decode cX6_isAhead 18 = .ok (.invokevirtual 65, 3) := by decide +kernel
theorem dX6_isAhead_21 : decode cX6_isAhead 21 = .ok (.aload_n 0, 1) := by decide +kernel
theorem dX6_isAhead_22 : decode cX6_isAhead 22 = .ok (.iload_n 2, 1) := by decide +kernel
theorem dX6_isAhead_23 : decode cX6_isAhead 23 = .ok (.iconst 0, 1) := by decide +kernel
theorem dX6_isAhead_24 : decode cX6_isAhead 24 = .ok (.invokevirtual 65, 3) := by decide +kernel
theorem dX6_isAhead_27 : decode cX6_isAhead 27 = .ok (.if_icmp .le 7, 3) := by decide +kernel
theorem dX6_isAhead_30 : decode cX6_isAhead 30 = .ok (.iconst 1, 1) := by decide +kernel
theorem dX6_isAhead_31 : decode cX6_isAhead 31 = .ok (.goto 4, 3) := by decide +kernel
theorem dX6_isAhead_34 : decode cX6_isAhead 34 = .ok (.iconst 0, 1) := by decide +kernel
theorem dX6_isAhead_35 : decode cX6_isAhead 35 = .ok (.ireturn, 1) := by decide +kernel
theorem dX6_isAhead_36 : decode cX6_isAhead 36 = .ok (.aload_n 0, 1) := by decide +kernel
theorem dX6_isAhead_37 : decode cX6_isAhead 37 = .ok (.iload_n 1, 1) := by decide +kernel
theorem dX6_isAhead_38 : decode cX6_isAhead 38 = .ok (.iconst 5, 1) := by decide +kernel
theorem dX6_isAhead_39 : decode cX6_isAhead 39 = .ok (.invokevirtual 65, 3) := by decide +kernel
theorem dX6_isAhead_42 : decode cX6_isAhead 42 = .ok (.aload_n 0, 1) := by decide +kernel
theorem dX6_isAhead_43 : decode cX6_isAhead 43 = .ok (.iload_n 2, 1) := by decide +kernel
theorem dX6_isAhead_44 : decode cX6_isAhead 44 = .ok (.iconst 5, 1) := by decide +kernel
theorem dX6_isAhead_45 : decode cX6_isAhead 45 = .ok (.invokevirtual 65, 3) := by decide +kernel
theorem dX6_isAhead_48 : decode cX6_isAhead 48 = .ok (.if_icmp .ne 16, 3) := by decide +kernel
theorem dX6_isAhead_51 : decode cX6_isAhead 51 = .ok (.iload_n 1, 1) := by decide +kernel
theorem dX6_isAhead_52 : decode cX6_isAhead 52 = .ok (.iload_n 2, 1) := by decide +kernel
theorem dX6_isAhead_53 : decode cX6_isAhead 53 = .ok (.if_icmp .ge 7, 3) := by decide +kernel
theorem dX6_isAhead_56 : decode cX6_isAhead 56 = .ok (.iconst 1, 1) := by decide +kernel
theorem dX6_isAhead_57 : decode cX6_isAhead 57 = .ok (.goto 27, 3) := by decide +kernel
theorem dX6_isAhead_60 : decode cX6_isAhead 60 = .ok (.iconst 0, 1) := by decide +kernel
theorem dX6_isAhead_61 : decode cX6_isAhead 61 = .ok (.goto 23, 3) := by decide +kernel
theorem dX6_isAhead_64 : decode cX6_isAhead 64 = .ok (.aload_n 0, 1) := by decide +kernel
theorem dX6_isAhead_65 : decode cX6_isAhead 65 = .ok (.iload_n 1, 1) := by decide +kernel
theorem dX6_isAhead_66 : decode cX6_isAhead 66 = .ok (.iconst 5, 1) := by decide +kernel
theorem dX6_isAhead_67 : decode cX6_isAhead 67 = .ok (.invokevirtual 65, 3) := by decide +kernel
theorem dX6_isAhead_70 : decode cX6_isAhead 70 = .ok (.aload_n 0, 1) := by decide +kernel
theorem dX6_isAhead_71 : decode cX6_isAhead 71 = .ok (.iload_n 2, 1) := by decide +kernel
theorem dX6_isAhead_72 : decode cX6_isAhead 72 = .ok (.iconst 5, 1) := by decide +kernel
theorem dX6_isAhead_73 : decode cX6_isAhead 73 = .ok (.invokevirtual 65, 3) := by decide +kernel
theorem dX6_isAhead_76 : decode cX6_isAhead 76 = .ok (.if_icmp .le 7, 3) := by decide +kernel
theorem dX6_isAhead_79 : decode cX6_isAhead 79 = .ok (.iconst 1, 1) := by decide +kernel
theorem dX6_isAhead_80 : decode cX6_isAhead 80 = .ok (.goto 4, 3) := by decide +kernel
theorem dX6_isAhead_83 : decode cX6_isAhead 83 = .ok (.iconst 0, 1) := by decide +kernel
theorem dX6_isAhead_84 : decode cX6_isAhead 84 = .ok (.ireturn, 1) := by decide +kernel
theorem dX6_memberAtRank_0 : decode cX6_memberAtRank 0 = .ok (.aload_n 0, 1) := by decide +kernel
theorem dX6_memberAtRank_1 : decode cX6_memberAtRank 1 = .ok (.iconst 0, 1) := by decide +kernel
theorem dX6_memberAtRank_2 : decode cX6_memberAtRank 2 = .ok (.putfield 41, 3) := by decide +kernel
theorem dX6_memberAtRank_5 : decode cX6_memberAtRank 5 = .ok (.iconst 0, 1) := by decide +kernel
theorem dX6_memberAtRank_6 : decode cX6_memberAtRank 6 = .ok (.istore_n 2, 1) := by decide +kernel
theorem dX6_memberAtRank_7 : decode cX6_memberAtRank 7 = .ok (.iload_n 2, 1) := by decide +kernel
theorem dX6_memberAtRank_8 : decode cX6_memberAtRank 8 = .ok (.aload_n 0, 1) := by decide +kernel
theorem dX6_memberAtRank_9 : decode cX6_memberAtRank 9 = .ok (.getfield 7, 3) := by decide +kernel
theorem dX6_memberAtRank_12 : decode cX6_memberAtRank 12 = .ok (.iconst 0, 1) := by decide +kernel
theorem dX6_memberAtRank_13 : decode cX6_memberAtRank 13 = .ok (.iaload, 1) := by decide +kernel
theorem dX6_memberAtRank_14 : decode cX6_memberAtRank 14 = .ok (.if_icmp .ge 62, 3) := by decide +kernel
theorem dX6_memberAtRank_17 : decode cX6_memberAtRank 17 = .ok (.iconst 0, 1) := by decide +kernel
theorem dX6_memberAtRank_18 : decode cX6_memberAtRank 18 = .ok (.istore_n 3, 1) := by decide +kernel
theorem dX6_memberAtRank_19 : decode cX6_memberAtRank 19 = .ok (.iconst 0, 1) := by decide +kernel
theorem dX6_memberAtRank_20 : decode cX6_memberAtRank 20 = .ok (.istore 4, 2) := by decide +kernel
theorem dX6_memberAtRank_22 : decode cX6_memberAtRank 22 = .ok (.iload 4, 2) := by decide +kernel
theorem dX6_memberAtRank_24 : decode cX6_memberAtRank 24 = .ok (.aload_n 0, 1) := by decide +kernel
theorem dX6_memberAtRank_25 : decode cX6_memberAtRank 25 = .ok (.getfield 7, 3) := by decide +kernel
theorem dX6_memberAtRank_28 : decode cX6_memberAtRank 28 = .ok (.iconst 0, 1) := by decide +kernel
theorem dX6_memberAtRank_29 : decode cX6_memberAtRank 29 = .ok (.iaload, 1) := by decide +kernel
theorem dX6_memberAtRank_30 : decode cX6_memberAtRank 30 = .ok (.if_icmp .ge 33, 3) := by decide +kernel
theorem dX6_memberAtRank_33 : decode cX6_memberAtRank 33 = .ok (.iload_n 3, 1) := by decide +kernel
theorem dX6_memberAtRank_34 : decode cX6_memberAtRank 34 = .ok (.iload 4, 2) := by decide +kernel
theorem dX6_memberAtRank_36 : decode cX6_memberAtRank 36 = .ok (.iload_n 2, 1) := by decide +kernel
theorem dX6_memberAtRank_37 : decode cX6_memberAtRank 37 = .ok (.if_icmp .eq 17, 3) := by decide +kernel
theorem dX6_memberAtRank_40 : decode cX6_memberAtRank 40 = .ok (.aload_n 0, 1) := by decide +kernel
theorem dX6_memberAtRank_41 : decode cX6_memberAtRank 41 = .ok (.iload 4, 2) := by decide +kernel
theorem dX6_memberAtRank_43 : decode cX6_memberAtRank 43 = .ok (.iload_n 2, 1) := by decide +kernel
theorem dX6_memberAtRank_44 : decode cX6_memberAtRank 44 = .ok (.invokevirtual 139, 3) := by decide +kernel
theorem dX6_memberAtRank_47 : decode cX6_memberAtRank 47 = .ok (.ifCond .eq 7, 3) := by decide +kernel
theorem dX6_memberAtRank_50 : decode cX6_memberAtRank 50 = .ok (.iconst 1, 1) := by decide +kernel
theorem dX6_memberAtRank_51 : decode cX6_memberAtRank 51 = .ok (.goto 4, 3) := by decide +kernel
theorem dX6_memberAtRank_54 : decode cX6_memberAtRank 54 = .ok (.iconst 0, 1) := by decide +kernel
theorem dX6_memberAtRank_55 : decode cX6_memberAtRank 55 = .ok (.iadd, 1) := by decide +kernel
theorem dX6_memberAtRank_56 : decode cX6_memberAtRank 56 = .ok (.istore_n 3, 1) := by decide +kernel
theorem dX6_memberAtRank_57 : decode cX6_memberAtRank 57 = .ok (.iinc 4 1, 3) := by decide +kernel
theorem dX6_memberAtRank_60 : decode cX6_memberAtRank 60 = .ok (.goto (-38), 3) := by decide +kernel
theorem dX6_memberAtRank_63 : decode cX6_memberAtRank 63 = .ok (.iload_n 3, 1) := by decide +kernel
theorem dX6_memberAtRank_64 : decode cX6_memberAtRank 64 = .ok (.iload_n 1, 1) := by decide +kernel
theorem dX6_memberAtRank_65 : decode cX6_memberAtRank 65 = .ok (.if_icmp .ne 5, 3) := by decide +kernel
theorem dX6_memberAtRank_68 : decode cX6_memberAtRank 68 = .ok (.iload_n 2, 1) := by decide +kernel
theorem dX6_memberAtRank_69 : decode cX6_memberAtRank 69 = .ok (.ireturn, 1) := by decide +kernel
theorem dX6_memberAtRank_70 : decode cX6_memberAtRank 70 = .ok (.iinc 2 1, 3) := by decide +kernel
theorem dX6_memberAtRank_73 : decode cX6_memberAtRank 73 = .ok (.goto (-66), 3) := by decide +kernel
theorem dX6_memberAtRank_76 : decode cX6_memberAtRank 76 = .ok (.aload_n 0, 1) := by decide +kernel
theorem dX6_memberAtRank_77 : decode cX6_memberAtRank 77 = .ok (.iconst 1, 1) := by decide +kernel
theorem dX6_memberAtRank_78 : decode cX6_memberAtRank 78 = .ok (.invokevirtual 54, 3) := by decide +kernel
theorem dX6_memberAtRank_81 : decode cX6_memberAtRank 81 = .ok (.ireturn, 1) := by decide +kernel
theorem dX6_dueBeats_0 : decode cX6_dueBeats 0 = .ok (.lconst 0, 1) := by decide +kernel
theorem dX6_dueBeats_1 : decode cX6_dueBeats 1 = .ok (.lstore_n 2, 1) := by decide +kernel
theorem dX6_dueBeats_2 : decode cX6_dueBeats 2 = .ok (.aload_n 0, 1) := by decide +kernel
theorem dX6_dueBeats_3 : decode cX6_dueBeats 3 = .ok (.iload_n 1, 1) := by decide +kernel
theorem dX6_dueBeats_4 : decode cX6_dueBeats 4 = .ok (.invokevirtual 133, 3) := by decide +kernel
theorem dX6_dueBeats_7 : decode cX6_dueBeats 7 = .ok (.ifCond .ne 5, 3) := by decide +kernel
theorem dX6_dueBeats_10 : decode cX6_dueBeats 10 = .ok (.lload_n 2, 1) := by decide +kernel
theorem dX6_dueBeats_11 : decode cX6_dueBeats 11 = .ok (.lreturn, 1) := by decide +kernel
theorem dX6_dueBeats_12 : decode cX6_dueBeats 12 = .ok (.iconst 0, 1) := by decide +kernel
theorem dX6_dueBeats_13 : decode cX6_dueBeats 13 = .ok (.istore 4, 2) := by decide +kernel
theorem dX6_dueBeats_15 : decode cX6_dueBeats 15 = .ok (.iload 4, 2) := by decide +kernel
theorem dX6_dueBeats_17 : decode cX6_dueBeats 17 = .ok (.bipush 60, 2) := by decide +kernel
theorem dX6_dueBeats_19 : decode cX6_dueBeats 19 = .ok (.if_icmp .ge 39, 3) := by decide +kernel
theorem dX6_dueBeats_22 : decode cX6_dueBeats 22 = .ok (.lload_n 2, 1) := by decide +kernel
theorem dX6_dueBeats_23 : decode cX6_dueBeats 23 = .ok (.aload_n 0, 1) := by decide +kernel
theorem dX6_dueBeats_24 : decode cX6_dueBeats 24 = .ok (.iload_n 1, 1) := by decide +kernel
theorem dX6_dueBeats_25 : decode cX6_dueBeats 25 = .ok (.aload_n 0, 1) := by decide +kernel
theorem dX6_dueBeats_26 : decode cX6_dueBeats 26 = .ok (.getfield 7, 3) := by decide +kernel
theorem dX6_dueBeats_29 : decode cX6_dueBeats 29 = .ok (.iconst 1, 1) := by decide +kernel
theorem dX6_dueBeats_30 : decode cX6_dueBeats 30 = .ok (.iaload, 1) := by decide +kernel
theorem dX6_dueBeats_31 : decode cX6_dueBeats 31 = .ok (.iconst 1, 1) := by decide +kernel
theorem dX6_dueBeats_32 : decode cX6_dueBeats 32 = .ok (.iadd, 1) := by decide +kernel
theorem dX6_dueBeats_33 : decode cX6_dueBeats 33 = .ok (.iload 4, 2) := by decide +kernel
theorem dX6_dueBeats_35 : decode cX6_dueBeats 35 = .ok (.iadd, 1) := by decide +kernel
theorem dX6_dueBeats_36 : decode cX6_dueBeats 36 = .ok (.invokevirtual 72, 3) := by decide +kernel
theorem dX6_dueBeats_39 : decode cX6_dueBeats 39 = .ok (.ifCond .eq 10, 3) := by decide +kernel
theorem dX6_dueBeats_42 : decode cX6_dueBeats 42 = .ok (.lconst 1, 1) := by decide +kernel
theorem dX6_dueBeats_43 : decode cX6_dueBeats 43 = .ok (.iload 4, 2) := by decide +kernel
theorem dX6_dueBeats_45 : decode cX6_dueBeats 45 = .ok (.lshl, 1) := by decide +kernel
theorem dX6_dueBeats_46 : decode cX6_dueBeats 46 = .ok (.goto 4, 3) := by decide +kernel
theorem dX6_dueBeats_49 : decode cX6_dueBeats 49 = .ok (.lconst 0, 1) := by decide +kernel
theorem dX6_dueBeats_50 : decode cX6_dueBeats 50 = .ok (.lor, 1) := by decide +kernel
theorem dX6_dueBeats_51 : decode cX6_dueBeats 51 = .ok (.lstore_n 2, 1) := by decide +kernel
theorem dX6_dueBeats_52 : decode cX6_dueBeats 52 = .ok (.iinc 4 1, 3) := by decide +kernel
theorem dX6_dueBeats_55 : decode cX6_dueBeats 55 = .ok (.goto (-40), 3) := by decide +kernel
theorem dX6_dueBeats_58 : decode cX6_dueBeats 58 = .ok (.lload_n 2, 1) := by decide +kernel
theorem dX6_dueBeats_59 : decode cX6_dueBeats 59 = .ok (.lreturn, 1) := by decide +kernel
theorem dX6_dueBeatsByDoubling_0 : decode cX6_dueBeatsByDoubling 0 = .ok (.aload_n 0, 1) := by decide +kernel
theorem dX6_dueBeatsByDoubling_1 : decode cX6_dueBeatsByDoubling 1 = .ok (.iload_n 1, 1) := by decide +kernel
theorem dX6_dueBeatsByDoubling_2 : decode cX6_dueBeatsByDoubling 2 = .ok (.invokevirtual 142, 3) := by decide +kernel
theorem dX6_dueBeatsByDoubling_5 : decode cX6_dueBeatsByDoubling 5 = .ok (.lreturn, 1) := by decide +kernel
theorem dX6_commonBeats_0 : decode cX6_commonBeats 0 = .ok (.iconst 0, 1) := by decide +kernel
theorem dX6_commonBeats_1 : decode cX6_commonBeats 1 = .ok (.istore_n 3, 1) := by decide +kernel
theorem dX6_commonBeats_2 : decode cX6_commonBeats 2 = .ok (.aload_n 0, 1) := by decide +kernel
theorem dX6_commonBeats_3 : decode cX6_commonBeats 3 = .ok (.iload_n 1, 1) := by decide +kernel
theorem dX6_commonBeats_4 : decode cX6_commonBeats 4 = .ok (.iload_n 2, 1) := by decide +kernel
theorem dX6_commonBeats_5 : decode cX6_commonBeats 5 = .ok (.invokevirtual 136, 3) := by decide +kernel
theorem dX6_commonBeats_8 : decode cX6_commonBeats 8 = .ok (.ifCond .ne 5, 3) := by decide +kernel
theorem dX6_commonBeats_11 : decode cX6_commonBeats 11 = .ok (.iload_n 3, 1) := by decide +kernel
theorem dX6_commonBeats_12 : decode cX6_commonBeats 12 = .ok (.ireturn, 1) := by decide +kernel
theorem dX6_commonBeats_13 : decode cX6_commonBeats 13 = .ok (.iconst 1, 1) := by decide +kernel
theorem dX6_commonBeats_14 : decode cX6_commonBeats 14 = .ok (.istore 4, 2) := by decide +kernel
theorem dX6_commonBeats_16 : decode cX6_commonBeats 16 = .ok (.iload 4, 2) := by decide +kernel
theorem dX6_commonBeats_18 : decode cX6_commonBeats 18 = .ok (.bipush 60, 2) := by decide +kernel
theorem dX6_commonBeats_20 : decode cX6_commonBeats 20 = .ok (.if_icmp .gt 51, 3) := by decide +kernel
theorem dX6_commonBeats_23 : decode cX6_commonBeats 23 = .ok (.iload_n 3, 1) := by decide +kernel
theorem dX6_commonBeats_24 : decode cX6_commonBeats 24 = .ok (.aload_n 0, 1) := by decide +kernel
theorem dX6_commonBeats_25 : decode cX6_commonBeats 25 = .ok (.iload_n 1, 1) := by decide +kernel
theorem dX6_commonBeats_26 : decode cX6_commonBeats 26 = .ok (.aload_n 0, 1) := by decide +kernel
theorem dX6_commonBeats_27 : decode cX6_commonBeats 27 = .ok (.getfield 7, 3) := by decide +kernel
theorem dX6_commonBeats_30 : decode cX6_commonBeats 30 = .ok (.iconst 1, 1) := by decide +kernel
theorem dX6_commonBeats_31 : decode cX6_commonBeats 31 = .ok (.iaload, 1) := by decide +kernel
theorem dX6_commonBeats_32 : decode cX6_commonBeats 32 = .ok (.iload 4, 2) := by decide +kernel
theorem dX6_commonBeats_34 : decode cX6_commonBeats 34 = .ok (.iadd, 1) := by decide +kernel
theorem dX6_commonBeats_35 : decode cX6_commonBeats 35 = .ok (.invokevirtual 72, 3) := by decide +kernel
theorem dX6_commonBeats_38 : decode cX6_commonBeats 38 = .ok (.ifCond .eq 24, 3) := by decide +kernel
theorem dX6_commonBeats_41 : decode cX6_commonBeats 41 = .ok (.aload_n 0, 1) := by decide +kernel
theorem dX6_commonBeats_42 : decode cX6_commonBeats 42 = .ok (.iload_n 2, 1) := by decide +kernel
theorem dX6_commonBeats_43 : decode cX6_commonBeats 43 = .ok (.aload_n 0, 1) := by decide +kernel
theorem dX6_commonBeats_44 : decode cX6_commonBeats 44 = .ok (.getfield 7, 3) := by decide +kernel
theorem dX6_commonBeats_47 : decode cX6_commonBeats 47 = .ok (.iconst 1, 1) := by decide +kernel
theorem dX6_commonBeats_48 : decode cX6_commonBeats 48 = .ok (.iaload, 1) := by decide +kernel
theorem dX6_commonBeats_49 : decode cX6_commonBeats 49 = .ok (.iload 4, 2) := by decide +kernel
theorem dX6_commonBeats_51 : decode cX6_commonBeats 51 = .ok (.iadd, 1) := by decide +kernel
theorem dX6_commonBeats_52 : decode cX6_commonBeats 52 = .ok (.invokevirtual 72, 3) := by decide +kernel
theorem dX6_commonBeats_55 : decode cX6_commonBeats 55 = .ok (.ifCond .eq 7, 3) := by decide +kernel
theorem dX6_commonBeats_58 : decode cX6_commonBeats 58 = .ok (.iconst 1, 1) := by decide +kernel
theorem dX6_commonBeats_59 : decode cX6_commonBeats 59 = .ok (.goto 4, 3) := by decide +kernel
theorem dX6_commonBeats_62 : decode cX6_commonBeats 62 = .ok (.iconst 0, 1) := by decide +kernel
theorem dX6_commonBeats_63 : decode cX6_commonBeats 63 = .ok (.iadd, 1) := by decide +kernel
theorem dX6_commonBeats_64 : decode cX6_commonBeats 64 = .ok (.istore_n 3, 1) := by decide +kernel
theorem dX6_commonBeats_65 : decode cX6_commonBeats 65 = .ok (.iinc 4 1, 3) := by decide +kernel
theorem dX6_commonBeats_68 : decode cX6_commonBeats 68 = .ok (.goto (-52), 3) := by decide +kernel
theorem dX6_commonBeats_71 : decode cX6_commonBeats 71 = .ok (.iload_n 3, 1) := by decide +kernel
theorem dX6_commonBeats_72 : decode cX6_commonBeats 72 = .ok (.ireturn, 1) := by decide +kernel
theorem dX6_beatsUntilChorus_0 : decode cX6_beatsUntilChorus 0 = .ok (.aload_n 0, 1) := by decide +kernel
theorem dX6_beatsUntilChorus_1 : decode cX6_beatsUntilChorus 1 = .ok (.iconst 0, 1) := by decide +kernel
theorem dX6_beatsUntilChorus_2 : decode cX6_beatsUntilChorus 2 = .ok (.putfield 41, 3) := by decide +kernel
theorem dX6_beatsUntilChorus_5 : decode cX6_beatsUntilChorus 5 = .ok (.iconst 1, 1) := by decide +kernel
theorem dX6_beatsUntilChorus_6 : decode cX6_beatsUntilChorus 6 = .ok (.istore_n 1, 1) := by decide +kernel
theorem dX6_beatsUntilChorus_7 : decode cX6_beatsUntilChorus 7 = .ok (.iload_n 1, 1) := by decide +kernel
theorem dX6_beatsUntilChorus_8 : decode cX6_beatsUntilChorus 8 = .ok (.bipush 60, 2) := by decide +kernel
theorem dX6_beatsUntilChorus_10 : decode cX6_beatsUntilChorus 10 = .ok (.if_icmp .gt 70, 3) := by decide +kernel
theorem dX6_beatsUntilChorus_13 : decode cX6_beatsUntilChorus 13 = .ok (.aload_n 0, 1) := by decide +kernel
theorem dX6_beatsUntilChorus_14 : decode cX6_beatsUntilChorus 14 = .ok (.getfield 7, 3) := by decide +kernel
theorem dX6_beatsUntilChorus_17 : decode cX6_beatsUntilChorus 17 = .ok (.iconst 0, 1) := by decide +kernel
theorem dX6_beatsUntilChorus_18 : decode cX6_beatsUntilChorus 18 = .ok (.iaload, 1) := by decide +kernel
theorem dX6_beatsUntilChorus_19 : decode cX6_beatsUntilChorus 19 = .ok (.ifCond .le 61, 3) := by decide +kernel
theorem dX6_beatsUntilChorus_22 : decode cX6_beatsUntilChorus 22 = .ok (.iconst 1, 1) := by decide +kernel
theorem dX6_beatsUntilChorus_23 : decode cX6_beatsUntilChorus 23 = .ok (.istore_n 2, 1) := by decide +kernel
theorem dX6_beatsUntilChorus_24 : decode cX6_beatsUntilChorus 24 = .ok (.iconst 0, 1) := by decide +kernel
theorem dX6_beatsUntilChorus_25 : decode cX6_beatsUntilChorus 25 = .ok (.istore_n 3, 1) := by decide +kernel
theorem dX6_beatsUntilChorus_26 : decode cX6_beatsUntilChorus 26 = .ok (.iload_n 3, 1) := by decide +kernel
theorem dX6_beatsUntilChorus_27 : decode cX6_beatsUntilChorus 27 = .ok (.aload_n 0, 1) := by decide +kernel
theorem dX6_beatsUntilChorus_28 : decode cX6_beatsUntilChorus 28 = .ok (.getfield 7, 3) := by decide +kernel
theorem dX6_beatsUntilChorus_31 : decode cX6_beatsUntilChorus 31 = .ok (.iconst 0, 1) := by decide +kernel
theorem dX6_beatsUntilChorus_32 : decode cX6_beatsUntilChorus 32 = .ok (.iaload, 1) := by decide +kernel
theorem dX6_beatsUntilChorus_33 : decode cX6_beatsUntilChorus 33 = .ok (.if_icmp .ge 35, 3) := by decide +kernel
theorem dX6_beatsUntilChorus_36 : decode cX6_beatsUntilChorus 36 = .ok (.iload_n 2, 1) := by decide +kernel
theorem dX6_beatsUntilChorus_37 : decode cX6_beatsUntilChorus 37 = .ok (.ifCond .eq 23, 3) := by decide +kernel
theorem dX6_beatsUntilChorus_40 : decode cX6_beatsUntilChorus 40 = .ok (.aload_n 0, 1) := by decide +kernel
theorem dX6_beatsUntilChorus_41 : decode cX6_beatsUntilChorus 41 = .ok (.iload_n 3, 1) := by decide +kernel
theorem dX6_beatsUntilChorus_42 : decode cX6_beatsUntilChorus 42 = .ok (.aload_n 0, 1) := by decide +kernel
theorem dX6_beatsUntilChorus_43 : decode cX6_beatsUntilChorus 43 = .ok (.getfield 7, 3) := by decide +kernel
theorem dX6_beatsUntilChorus_46 : decode cX6_beatsUntilChorus 46 = .ok (.iconst 1, 1) := by decide +kernel
theorem dX6_beatsUntilChorus_47 : decode cX6_beatsUntilChorus 47 = .ok (.iaload, 1) := by decide +kernel
theorem dX6_beatsUntilChorus_48 : decode cX6_beatsUntilChorus 48 = .ok (.iload_n 1, 1) := by decide +kernel
theorem dX6_beatsUntilChorus_49 : decode cX6_beatsUntilChorus 49 = .ok (.iadd, 1) := by decide +kernel
theorem dX6_beatsUntilChorus_50 : decode cX6_beatsUntilChorus 50 = .ok (.invokevirtual 72, 3) := by decide +kernel
theorem dX6_beatsUntilChorus_53 : decode cX6_beatsUntilChorus 53 = .ok (.ifCond .eq 7, 3) := by decide +kernel
theorem dX6_beatsUntilChorus_56 : decode cX6_beatsUntilChorus 56 = .ok (.iconst 1, 1) := by decide +kernel
theorem dX6_beatsUntilChorus_57 : decode cX6_beatsUntilChorus 57 = .ok (.goto 4, 3) := by decide +kernel
theorem dX6_beatsUntilChorus_60 : decode cX6_beatsUntilChorus 60 = .ok (.iconst 0, 1) := by decide +kernel
theorem dX6_beatsUntilChorus_61 : decode cX6_beatsUntilChorus 61 = .ok (.istore_n 2, 1) := by decide +kernel
theorem dX6_beatsUntilChorus_62 : decode cX6_beatsUntilChorus 62 = .ok (.iinc 3 1, 3) := by decide +kernel
theorem dX6_beatsUntilChorus_65 : decode cX6_beatsUntilChorus 65 = .ok (.goto (-39), 3) := by decide +kernel
theorem dX6_beatsUntilChorus_68 : decode cX6_beatsUntilChorus 68 = .ok (.iload_n 2, 1) := by decide +kernel
theorem dX6_beatsUntilChorus_69 : decode cX6_beatsUntilChorus 69 = .ok (.ifCond .eq 5, 3) := by decide +kernel
theorem dX6_beatsUntilChorus_72 : decode cX6_beatsUntilChorus 72 = .ok (.iload_n 1, 1) := by decide +kernel
theorem dX6_beatsUntilChorus_73 : decode cX6_beatsUntilChorus 73 = .ok (.ireturn, 1) := by decide +kernel
theorem dX6_beatsUntilChorus_74 : decode cX6_beatsUntilChorus 74 = .ok (.iinc 1 1, 3) := by decide +kernel
theorem dX6_beatsUntilChorus_77 : decode cX6_beatsUntilChorus 77 = .ok (.goto (-70), 3) := by decide +kernel
theorem dX6_beatsUntilChorus_80 : decode cX6_beatsUntilChorus 80 = .ok (.aload_n 0, 1) := by decide +kernel
theorem dX6_beatsUntilChorus_81 : decode cX6_beatsUntilChorus 81 = .ok (.iconst 1, 1) := by decide +kernel
theorem dX6_beatsUntilChorus_82 : decode cX6_beatsUntilChorus 82 = .ok (.invokevirtual 54, 3) := by decide +kernel
theorem dX6_beatsUntilChorus_85 : decode cX6_beatsUntilChorus 85 = .ok (.ireturn, 1) := by decide +kernel
theorem dX6_earningsIn_0 : decode cX6_earningsIn 0 = .ok (.aload_n 0, 1) := by decide +kernel
theorem dX6_earningsIn_1 : decode cX6_earningsIn 1 = .ok (.iload_n 1, 1) := by decide +kernel
theorem dX6_earningsIn_2 : decode cX6_earningsIn 2 = .ok (.iconst 0, 1) := by decide +kernel
theorem dX6_earningsIn_3 : decode cX6_earningsIn 3 = .ok (.bipush 60, 2) := by decide +kernel
theorem dX6_earningsIn_5 : decode cX6_earningsIn 5 = .ok (.invokestatic 57, 3) := by decide +kernel
theorem dX6_earningsIn_8 : decode cX6_earningsIn 8 = .ok (.ifCond .eq 7, 3) := by decide +kernel
theorem dX6_earningsIn_11 : decode cX6_earningsIn 11 = .ok (.iconst 0, 1) := by decide +kernel
theorem dX6_earningsIn_12 : decode cX6_earningsIn 12 = .ok (.goto 4, 3) := by decide +kernel
theorem dX6_earningsIn_15 : decode cX6_earningsIn 15 = .ok (.iconst 1, 1) := by decide +kernel
theorem dX6_earningsIn_16 : decode cX6_earningsIn 16 = .ok (.putfield 41, 3) := by decide +kernel
theorem dX6_earningsIn_19 : decode cX6_earningsIn 19 = .ok (.aload_n 0, 1) := by decide +kernel
theorem dX6_earningsIn_20 : decode cX6_earningsIn 20 = .ok (.getfield 41, 3) := by decide +kernel
theorem dX6_earningsIn_23 : decode cX6_earningsIn 23 = .ok (.ifCond .le 5, 3) := by decide +kernel
theorem dX6_earningsIn_26 : decode cX6_earningsIn 26 = .ok (.iconst 0, 1) := by decide +kernel
theorem dX6_earningsIn_27 : decode cX6_earningsIn 27 = .ok (.ireturn, 1) := by decide +kernel
theorem dX6_earningsIn_28 : decode cX6_earningsIn 28 = .ok (.iconst 0, 1) := by decide +kernel
theorem dX6_earningsIn_29 : decode cX6_earningsIn 29 = .ok (.istore_n 2, 1) := by decide +kernel
theorem dX6_earningsIn_30 : decode cX6_earningsIn 30 = .ok (.iload_n 2, 1) := by decide +kernel
theorem dX6_earningsIn_31 : decode cX6_earningsIn 31 = .ok (.bipush 74, 2) := by decide +kernel
theorem dX6_earningsIn_33 : decode cX6_earningsIn 33 = .ok (.if_icmp .ge 21, 3) := by decide +kernel
theorem dX6_earningsIn_36 : decode cX6_earningsIn 36 = .ok (.aload_n 0, 1) := by decide +kernel
theorem dX6_earningsIn_37 : decode cX6_earningsIn 37 = .ok (.getfield 22, 3) := by decide +kernel
theorem dX6_earningsIn_40 : decode cX6_earningsIn 40 = .ok (.iload_n 2, 1) := by decide +kernel
theorem dX6_earningsIn_41 : decode cX6_earningsIn 41 = .ok (.aload_n 0, 1) := by decide +kernel
theorem dX6_earningsIn_42 : decode cX6_earningsIn 42 = .ok (.getfield 7, 3) := by decide +kernel
theorem dX6_earningsIn_45 : decode cX6_earningsIn 45 = .ok (.iload_n 2, 1) := by decide +kernel
theorem dX6_earningsIn_46 : decode cX6_earningsIn 46 = .ok (.iaload, 1) := by decide +kernel
theorem dX6_earningsIn_47 : decode cX6_earningsIn 47 = .ok (.iastore, 1) := by decide +kernel
theorem dX6_earningsIn_48 : decode cX6_earningsIn 48 = .ok (.iinc 2 1, 3) := by decide +kernel
theorem dX6_earningsIn_51 : decode cX6_earningsIn 51 = .ok (.goto (-21), 3) := by decide +kernel
theorem dX6_earningsIn_54 : decode cX6_earningsIn 54 = .ok (.iconst 0, 1) := by decide +kernel
theorem dX6_earningsIn_55 : decode cX6_earningsIn 55 = .ok (.istore_n 2, 1) := by decide +kernel
theorem dX6_earningsIn_56 : decode cX6_earningsIn 56 = .ok (.iconst 0, 1) := by decide +kernel
theorem dX6_earningsIn_57 : decode cX6_earningsIn 57 = .ok (.istore_n 3, 1) := by decide +kernel
theorem dX6_earningsIn_58 : decode cX6_earningsIn 58 = .ok (.iload_n 3, 1) := by decide +kernel
theorem dX6_earningsIn_59 : decode cX6_earningsIn 59 = .ok (.iload_n 1, 1) := by decide +kernel
theorem dX6_earningsIn_60 : decode cX6_earningsIn 60 = .ok (.if_icmp .ge 16, 3) := by decide +kernel
theorem dX6_earningsIn_63 : decode cX6_earningsIn 63 = .ok (.iload_n 2, 1) := by decide +kernel
theorem dX6_earningsIn_64 : decode cX6_earningsIn 64 = .ok (.aload_n 0, 1) := by decide +kernel
theorem dX6_earningsIn_65 : decode cX6_earningsIn 65 = .ok (.invokevirtual 96, 3) := by decide +kernel
theorem dX6_earningsIn_68 : decode cX6_earningsIn 68 = .ok (.iadd, 1) := by decide +kernel
theorem dX6_earningsIn_69 : decode cX6_earningsIn 69 = .ok (.istore_n 2, 1) := by decide +kernel
theorem dX6_earningsIn_70 : decode cX6_earningsIn 70 = .ok (.iinc 3 1, 3) := by decide +kernel
theorem dX6_earningsIn_73 : decode cX6_earningsIn 73 = .ok (.goto (-15), 3) := by decide +kernel
theorem dX6_earningsIn_76 : decode cX6_earningsIn 76 = .ok (.iconst 0, 1) := by decide +kernel
theorem dX6_earningsIn_77 : decode cX6_earningsIn 77 = .ok (.istore_n 3, 1) := by decide +kernel
theorem dX6_earningsIn_78 : decode cX6_earningsIn 78 = .ok (.iload_n 3, 1) := by decide +kernel
theorem dX6_earningsIn_79 : decode cX6_earningsIn 79 = .ok (.bipush 74, 2) := by decide +kernel
theorem dX6_earningsIn_81 : decode cX6_earningsIn 81 = .ok (.if_icmp .ge 21, 3) := by decide +kernel
theorem dX6_earningsIn_84 : decode cX6_earningsIn 84 = .ok (.aload_n 0, 1) := by decide +kernel
theorem dX6_earningsIn_85 : decode cX6_earningsIn 85 = .ok (.getfield 7, 3) := by decide +kernel
theorem dX6_earningsIn_88 : decode cX6_earningsIn 88 = .ok (.iload_n 3, 1) := by decide +kernel
theorem dX6_earningsIn_89 : decode cX6_earningsIn 89 = .ok (.aload_n 0, 1) := by decide +kernel
theorem dX6_earningsIn_90 : decode cX6_earningsIn 90 = .ok (.getfield 22, 3) := by decide +kernel
theorem dX6_earningsIn_93 : decode cX6_earningsIn 93 = .ok (.iload_n 3, 1) := by decide +kernel
theorem dX6_earningsIn_94 : decode cX6_earningsIn 94 = .ok (.iaload, 1) := by decide +kernel
theorem dX6_earningsIn_95 : decode cX6_earningsIn 95 = .ok (.iastore, 1) := by decide +kernel
theorem dX6_earningsIn_96 : decode cX6_earningsIn 96 = .ok (.iinc 3 1, 3) := by decide +kernel
theorem dX6_earningsIn_99 : decode cX6_earningsIn 99 = .ok (.goto (-21), 3) := by decide +kernel
theorem dX6_earningsIn_102 : decode cX6_earningsIn 102 = .ok (.iload_n 2, 1) := by decide +kernel
theorem dX6_earningsIn_103 : decode cX6_earningsIn 103 = .ok (.ireturn, 1) := by decide +kernel
theorem dX6_dividend_0 : decode cX6_dividend 0 = .ok (.aload_n 0, 1) := by decide +kernel
theorem dX6_dividend_1 : decode cX6_dividend 1 = .ok (.iload_n 1, 1) := by decide +kernel
theorem dX6_dividend_2 : decode cX6_dividend 2 = .ok (.invokevirtual 133, 3) := by decide +kernel
theorem dX6_dividend_5 : decode cX6_dividend 5 = .ok (.ifCond .eq 11, 3) := by decide +kernel
theorem dX6_dividend_8 : decode cX6_dividend 8 = .ok (.aload_n 0, 1) := by decide +kernel
theorem dX6_dividend_9 : decode cX6_dividend 9 = .ok (.iload_n 1, 1) := by decide +kernel
theorem dX6_dividend_10 : decode cX6_dividend 10 = .ok (.invokevirtual 99, 3) := by decide +kernel
theorem dX6_dividend_13 : decode cX6_dividend 13 = .ok (.goto 4, 3) := by decide +kernel
theorem dX6_dividend_16 : decode cX6_dividend 16 = .ok (.iconst 0, 1) := by decide +kernel
theorem dX6_dividend_17 : decode cX6_dividend 17 = .ok (.ireturn, 1) := by decide +kernel
theorem dX6_dividendByCounting_0 : decode cX6_dividendByCounting 0 = .ok (.aload_n 0, 1) := by decide +kernel
theorem dX6_dividendByCounting_1 : decode cX6_dividendByCounting 1 = .ok (.iload_n 1, 1) := by decide +kernel
theorem dX6_dividendByCounting_2 : decode cX6_dividendByCounting 2 = .ok (.invokevirtual 146, 3) := by decide +kernel
theorem dX6_dividendByCounting_5 : decode cX6_dividendByCounting 5 = .ok (.ireturn, 1) := by decide +kernel
theorem dX6_sharesInFavour_0 : decode cX6_sharesInFavour 0 = .ok (.aload_n 0, 1) := by decide +kernel
theorem dX6_sharesInFavour_1 : decode cX6_sharesInFavour 1 = .ok (.iload_n 1, 1) := by decide +kernel
theorem dX6_sharesInFavour_2 : decode cX6_sharesInFavour 2 = .ok (.iconst 0, 1) := by decide +kernel
theorem dX6_sharesInFavour_3 : decode cX6_sharesInFavour 3 = .ok (.bipush 11, 2) := by decide +kernel
theorem dX6_sharesInFavour_5 : decode cX6_sharesInFavour 5 = .ok (.invokestatic 57, 3) := by decide +kernel
theorem dX6_sharesInFavour_8 : decode cX6_sharesInFavour 8 = .ok (.ifCond .eq 17, 3) := by decide +kernel
theorem dX6_sharesInFavour_11 : decode cX6_sharesInFavour 11 = .ok (.iload_n 2, 1) := by decide +kernel
theorem dX6_sharesInFavour_12 : decode cX6_sharesInFavour 12 = .ok (.iconst 0, 1) := by decide +kernel
theorem dX6_sharesInFavour_13 : decode cX6_sharesInFavour 13 = .ok (.bipush 6, 2) := by decide +kernel
theorem dX6_sharesInFavour_15 : decode cX6_sharesInFavour 15 = .ok (.invokestatic 57, 3) := by decide +kernel
theorem dX6_sharesInFavour_18 : decode cX6_sharesInFavour 18 = .ok (.ifCond .eq 7, 3) := by decide +kernel
theorem dX6_sharesInFavour_21 : decode cX6_sharesInFavour 21 = .ok (.iconst 0, 1) := by decide +kernel
theorem dX6_sharesInFavour_22 : decode cX6_sharesInFavour 22 = .ok (.goto 4, 3) := by decide +kernel
theorem dX6_sharesInFavour_25 : decode cX6_sharesInFavour 25 = .ok (.iconst 1, 1) := by decide +kernel
theorem dX6_sharesInFavour_26 : decode cX6_sharesInFavour 26 = .ok (.putfield 41, 3) := by decide +kernel
theorem dX6_sharesInFavour_29 : decode cX6_sharesInFavour 29 = .ok (.aload_n 0, 1) := by decide +kernel
theorem dX6_sharesInFavour_30 : decode cX6_sharesInFavour 30 = .ok (.getfield 41, 3) := by decide +kernel
theorem dX6_sharesInFavour_33 : decode cX6_sharesInFavour 33 = .ok (.ifCond .le 7, 3) := by decide +kernel
theorem dX6_sharesInFavour_36 : decode cX6_sharesInFavour 36 = .ok (.iconst 0, 1) := by decide +kernel
theorem dX6_sharesInFavour_37 : decode cX6_sharesInFavour 37 = .ok (.goto 9, 3) := by decide +kernel
theorem dX6_sharesInFavour_40 : decode cX6_sharesInFavour 40 = .ok (.aload_n 0, 1) := by decide +kernel
theorem dX6_sharesInFavour_41 : decode cX6_sharesInFavour 41 = .ok (.iload_n 1, 1) := by decide +kernel
theorem dX6_sharesInFavour_42 : decode cX6_sharesInFavour 42 = .ok (.iload_n 2, 1) := by decide +kernel
theorem dX6_sharesInFavour_43 : decode cX6_sharesInFavour 43 = .ok (.invokevirtual 102, 3) := by decide +kernel
theorem dX6_sharesInFavour_46 : decode cX6_sharesInFavour 46 = .ok (.ireturn, 1) := by decide +kernel
theorem dX6_carriedTone_0 : decode cX6_carriedTone 0 = .ok (.aload_n 0, 1) := by decide +kernel
theorem dX6_carriedTone_1 : decode cX6_carriedTone 1 = .ok (.iload_n 1, 1) := by decide +kernel
theorem dX6_carriedTone_2 : decode cX6_carriedTone 2 = .ok (.iconst 0, 1) := by decide +kernel
theorem dX6_carriedTone_3 : decode cX6_carriedTone 3 = .ok (.bipush 6, 2) := by decide +kernel
theorem dX6_carriedTone_5 : decode cX6_carriedTone 5 = .ok (.invokestatic 57, 3) := by decide +kernel
theorem dX6_carriedTone_8 : decode cX6_carriedTone 8 = .ok (.ifCond .eq 7, 3) := by decide +kernel
theorem dX6_carriedTone_11 : decode cX6_carriedTone 11 = .ok (.iconst 0, 1) := by decide +kernel
theorem dX6_carriedTone_12 : decode cX6_carriedTone 12 = .ok (.goto 4, 3) := by decide +kernel
theorem dX6_carriedTone_15 : decode cX6_carriedTone 15 = .ok (.iconst 1, 1) := by decide +kernel
theorem dX6_carriedTone_16 : decode cX6_carriedTone 16 = .ok (.putfield 41, 3) := by decide +kernel
theorem dX6_carriedTone_19 : decode cX6_carriedTone 19 = .ok (.aload_n 0, 1) := by decide +kernel
theorem dX6_carriedTone_20 : decode cX6_carriedTone 20 = .ok (.getfield 41, 3) := by decide +kernel
theorem dX6_carriedTone_23 : decode cX6_carriedTone 23 = .ok (.ifCond .le 5, 3) := by decide +kernel
theorem dX6_carriedTone_26 : decode cX6_carriedTone 26 = .ok (.iconst 0, 1) := by decide +kernel
theorem dX6_carriedTone_27 : decode cX6_carriedTone 27 = .ok (.ireturn, 1) := by decide +kernel
theorem dX6_carriedTone_28 : decode cX6_carriedTone 28 = .ok (.iconst 0, 1) := by decide +kernel
theorem dX6_carriedTone_29 : decode cX6_carriedTone 29 = .ok (.istore_n 2, 1) := by decide +kernel
theorem dX6_carriedTone_30 : decode cX6_carriedTone 30 = .ok (.iload_n 2, 1) := by decide +kernel
theorem dX6_carriedTone_31 : decode cX6_carriedTone 31 = .ok (.bipush 12, 2) := by decide +kernel
theorem dX6_carriedTone_33 : decode cX6_carriedTone 33 = .ok (.if_icmp .ge 24, 3) := by decide +kernel
theorem dX6_carriedTone_36 : decode cX6_carriedTone 36 = .ok (.aload_n 0, 1) := by decide +kernel
theorem dX6_carriedTone_37 : decode cX6_carriedTone 37 = .ok (.iload_n 2, 1) := by decide +kernel
theorem dX6_carriedTone_38 : decode cX6_carriedTone 38 = .ok (.iload_n 1, 1) := by decide +kernel
theorem dX6_carriedTone_39 : decode cX6_carriedTone 39 = .ok (.invokevirtual 102, 3) := by decide +kernel
theorem dX6_carriedTone_42 : decode cX6_carriedTone 42 = .ok (.aload_n 0, 1) := by decide +kernel
theorem dX6_carriedTone_43 : decode cX6_carriedTone 43 = .ok (.invokevirtual 86, 3) := by decide +kernel
theorem dX6_carriedTone_46 : decode cX6_carriedTone 46 = .ok (.if_icmp .lt 5, 3) := by decide +kernel
theorem dX6_carriedTone_49 : decode cX6_carriedTone 49 = .ok (.iload_n 2, 1) := by decide +kernel
theorem dX6_carriedTone_50 : decode cX6_carriedTone 50 = .ok (.ireturn, 1) := by decide +kernel
theorem dX6_carriedTone_51 : decode cX6_carriedTone 51 = .ok (.iinc 2 1, 3) := by decide +kernel
theorem dX6_carriedTone_54 : decode cX6_carriedTone 54 = .ok (.goto (-24), 3) := by decide +kernel
theorem dX6_carriedTone_57 : decode cX6_carriedTone 57 = .ok (.aload_n 0, 1) := by decide +kernel
theorem dX6_carriedTone_58 : decode cX6_carriedTone 58 = .ok (.iconst 2, 1) := by decide +kernel
theorem dX6_carriedTone_59 : decode cX6_carriedTone 59 = .ok (.invokevirtual 54, 3) := by decide +kernel
theorem dX6_carriedTone_62 : decode cX6_carriedTone 62 = .ok (.ireturn, 1) := by decide +kernel
theorem dX6_quota_0 : decode cX6_quota 0 = .ok (.aload_n 0, 1) := by decide +kernel
theorem dX6_quota_1 : decode cX6_quota 1 = .ok (.iconst 0, 1) := by decide +kernel
theorem dX6_quota_2 : decode cX6_quota 2 = .ok (.putfield 41, 3) := by decide +kernel
theorem dX6_quota_5 : decode cX6_quota 5 = .ok (.aload_n 0, 1) := by decide +kernel
theorem dX6_quota_6 : decode cX6_quota 6 = .ok (.invokevirtual 86, 3) := by decide +kernel
theorem dX6_quota_9 : decode cX6_quota 9 = .ok (.ireturn, 1) := by decide +kernel
theorem dX6_winningGroups_0 : decode cX6_winningGroups 0 = .ok (.aload_n 0, 1) := by decide +kernel
theorem dX6_winningGroups_1 : decode cX6_winningGroups 1 = .ok (.iconst 0, 1) := by decide +kernel
theorem dX6_winningGroups_2 : decode cX6_winningGroups 2 = .ok (.putfield 41, 3) := by decide +kernel
theorem dX6_winningGroups_5 : decode cX6_winningGroups 5 = .ok (.iconst 0, 1) := by decide +kernel
theorem dX6_winningGroups_6 : decode cX6_winningGroups 6 = .ok (.istore_n 1, 1) := by decide +kernel
theorem dX6_winningGroups_7 : decode cX6_winningGroups 7 = .ok (.iconst 0, 1) := by decide +kernel
theorem dX6_winningGroups_8 : decode cX6_winningGroups 8 = .ok (.istore_n 2, 1) := by decide +kernel
theorem dX6_winningGroups_9 : decode cX6_winningGroups 9 = .ok (.iload_n 2, 1) := by decide +kernel
theorem dX6_winningGroups_10 : decode cX6_winningGroups 10 = .ok (.iconst 1, 1) := by decide +kernel
theorem dX6_winningGroups_11 : decode cX6_winningGroups 11 = .ok (.aload_n 0, 1) := by decide +kernel
theorem dX6_winningGroups_12 : decode cX6_winningGroups 12 = .ok (.getfield 7, 3) := by decide +kernel
theorem dX6_winningGroups_15 : decode cX6_winningGroups 15 = .ok (.iconst 0, 1) := by decide +kernel
theorem dX6_winningGroups_16 : decode cX6_winningGroups 16 = .ok (.iaload, 1) := by decide +kernel
theorem dX6_winningGroups_17 : decode cX6_winningGroups 17 = .ok (.ishl, 1) := by decide +kernel
theorem dX6_winningGroups_18 : decode cX6_winningGroups 18 = .ok (.if_icmp .ge 29, 3) := by decide +kernel
theorem dX6_winningGroups_21 : decode cX6_winningGroups 21 = .ok (.iload_n 1, 1) := by decide +kernel
theorem dX6_winningGroups_22 : decode cX6_winningGroups 22 = .ok (.aload_n 0, 1) := by decide +kernel
theorem dX6_winningGroups_23 : decode cX6_winningGroups 23 = .ok (.iload_n 2, 1) := by decide +kernel
theorem dX6_winningGroups_24 : decode cX6_winningGroups 24 = .ok (.invokevirtual 83, 3) := by decide +kernel
theorem dX6_winningGroups_27 : decode cX6_winningGroups 27 = .ok (.aload_n 0, 1) := by decide +kernel
theorem dX6_winningGroups_28 : decode cX6_winningGroups 28 = .ok (.invokevirtual 86, 3) := by decide +kernel
theorem dX6_winningGroups_31 : decode cX6_winningGroups 31 = .ok (.if_icmp .lt 7, 3) := by decide +kernel
theorem dX6_winningGroups_34 : decode cX6_winningGroups 34 = .ok (.iconst 1, 1) := by decide +kernel
theorem dX6_winningGroups_35 : decode cX6_winningGroups 35 = .ok (.goto 4, 3) := by decide +kernel
theorem dX6_winningGroups_38 : decode cX6_winningGroups 38 = .ok (.iconst 0, 1) := by decide +kernel
theorem dX6_winningGroups_39 : decode cX6_winningGroups 39 = .ok (.iadd, 1) := by decide +kernel
theorem dX6_winningGroups_40 : decode cX6_winningGroups 40 = .ok (.istore_n 1, 1) := by decide +kernel
theorem dX6_winningGroups_41 : decode cX6_winningGroups 41 = .ok (.iinc 2 1, 3) := by decide +kernel
theorem dX6_winningGroups_44 : decode cX6_winningGroups 44 = .ok (.goto (-35), 3) := by decide +kernel
theorem dX6_winningGroups_47 : decode cX6_winningGroups 47 = .ok (.iload_n 1, 1) := by decide +kernel
theorem dX6_winningGroups_48 : decode cX6_winningGroups 48 = .ok (.ireturn, 1) := by decide +kernel
theorem dX6_winningGroupsByTable_0 : decode cX6_winningGroupsByTable 0 = .ok (.aload_n 0, 1) := by decide +kernel
theorem dX6_winningGroupsByTable_1 : decode cX6_winningGroupsByTable 1 = .ok (.invokevirtual 149, 3) := by decide +kernel
theorem dX6_winningGroupsByTable_4 : decode cX6_winningGroupsByTable 4 = .ok (.ireturn, 1) := by decide +kernel
theorem dX6_power_0 : decode cX6_power 0 = .ok (.aload_n 0, 1) := by decide +kernel
theorem dX6_power_1 : decode cX6_power 1 = .ok (.iload_n 1, 1) := by decide +kernel
theorem dX6_power_2 : decode cX6_power 2 = .ok (.invokevirtual 133, 3) := by decide +kernel
theorem dX6_power_5 : decode cX6_power 5 = .ok (.ifCond .eq 11, 3) := by decide +kernel
theorem dX6_power_8 : decode cX6_power 8 = .ok (.aload_n 0, 1) := by decide +kernel
theorem dX6_power_9 : decode cX6_power 9 = .ok (.iload_n 1, 1) := by decide +kernel
theorem dX6_power_10 : decode cX6_power 10 = .ok (.invokevirtual 152, 3) := by decide +kernel
theorem dX6_power_13 : decode cX6_power 13 = .ok (.goto 4, 3) := by decide +kernel
theorem dX6_power_16 : decode cX6_power 16 = .ok (.iconst 0, 1) := by decide +kernel
theorem dX6_power_17 : decode cX6_power 17 = .ok (.ireturn, 1) := by decide +kernel
theorem dX6_powerByTable_0 : decode cX6_powerByTable 0 = .ok (.aload_n 0, 1) := by decide +kernel
theorem dX6_powerByTable_1 : decode cX6_powerByTable 1 = .ok (.iload_n 1, 1) := by decide +kernel
theorem dX6_powerByTable_2 : decode cX6_powerByTable 2 = .ok (.invokevirtual 155, 3) := by decide +kernel
theorem dX6_powerByTable_5 : decode cX6_powerByTable 5 = .ok (.ireturn, 1) := by decide +kernel
theorem dX6_smallestMajority_0 : decode cX6_smallestMajority 0 = .ok (.aload_n 0, 1) := by decide +kernel
theorem dX6_smallestMajority_1 : decode cX6_smallestMajority 1 = .ok (.aload_n 0, 1) := by decide +kernel
theorem dX6_smallestMajority_2 : decode cX6_smallestMajority 2 = .ok (.getfield 7, 3) := by decide +kernel
theorem dX6_smallestMajority_5 : decode cX6_smallestMajority 5 = .ok (.iconst 0, 1) := by decide +kernel
theorem dX6_smallestMajority_6 : decode cX6_smallestMajority 6 = .ok (.iaload, 1) := by decide +kernel
theorem dX6_smallestMajority_7 : decode cX6_smallestMajority 7 = .ok (.ifCond .ne 7, 3) := by decide +kernel
theorem dX6_smallestMajority_10 : decode cX6_smallestMajority 10 = .ok (.iconst 1, 1) := by decide +kernel
theorem dX6_smallestMajority_11 : decode cX6_smallestMajority 11 = .ok (.goto 4, 3) := by decide +kernel
theorem dX6_smallestMajority_14 : decode cX6_smallestMajority 14 = .ok (.iconst 0, 1) := by decide +kernel
theorem dX6_smallestMajority_15 : decode cX6_smallestMajority 15 = .ok (.putfield 41, 3) := by decide +kernel
theorem dX6_smallestMajority_18 : decode cX6_smallestMajority 18 = .ok (.bipush 8, 2) := by decide +kernel
theorem dX6_smallestMajority_20 : decode cX6_smallestMajority 20 = .ok (.istore_n 1, 1) := by decide +kernel
theorem dX6_smallestMajority_21 : decode cX6_smallestMajority 21 = .ok (.iconst 0, 1) := by decide +kernel
theorem dX6_smallestMajority_22 : decode cX6_smallestMajority 22 = .ok (.istore_n 2, 1) := by decide +kernel
theorem dX6_smallestMajority_23 : decode cX6_smallestMajority 23 = .ok (.iload_n 2, 1) := by decide +kernel
theorem dX6_smallestMajority_24 : decode cX6_smallestMajority 24 = .ok (.iconst 1, 1) := by decide +kernel
theorem dX6_smallestMajority_25 : decode cX6_smallestMajority 25 = .ok (.aload_n 0, 1) := by decide +kernel
theorem dX6_smallestMajority_26 : decode cX6_smallestMajority 26 = .ok (.getfield 7, 3) := by decide +kernel
theorem dX6_smallestMajority_29 : decode cX6_smallestMajority 29 = .ok (.iconst 0, 1) := by decide +kernel
theorem dX6_smallestMajority_30 : decode cX6_smallestMajority 30 = .ok (.iaload, 1) := by decide +kernel
theorem dX6_smallestMajority_31 : decode cX6_smallestMajority 31 = .ok (.ishl, 1) := by decide +kernel
theorem dX6_smallestMajority_32 : decode cX6_smallestMajority 32 = .ok (.if_icmp .ge 59, 3) := by decide +kernel
theorem dX6_smallestMajority_35 : decode cX6_smallestMajority 35 = .ok (.iconst 0, 1) := by decide +kernel
theorem dX6_smallestMajority_36 : decode cX6_smallestMajority 36 = .ok (.istore_n 3, 1) := by decide +kernel
theorem dX6_smallestMajority_37 : decode cX6_smallestMajority 37 = .ok (.iconst 0, 1) := by decide +kernel
theorem dX6_smallestMajority_38 : decode cX6_smallestMajority 38 = .ok (.istore 4, 2) := by decide +kernel
theorem dX6_smallestMajority_40 : decode cX6_smallestMajority 40 = .ok (.iload 4, 2) := by decide +kernel
theorem dX6_smallestMajority_42 : decode cX6_smallestMajority 42 = .ok (.bipush 8, 2) := by decide +kernel
theorem dX6_smallestMajority_44 : decode cX6_smallestMajority 44 = .ok (.if_icmp .ge 18, 3) := by decide +kernel
theorem dX6_smallestMajority_47 : decode cX6_smallestMajority 47 = .ok (.iload_n 3, 1) := by decide +kernel
theorem dX6_smallestMajority_48 : decode cX6_smallestMajority 48 = .ok (.iload_n 2, 1) := by decide +kernel
theorem dX6_smallestMajority_49 : decode cX6_smallestMajority 49 = .ok (.iload 4, 2) := by decide +kernel
theorem dX6_smallestMajority_51 : decode cX6_smallestMajority 51 = .ok (.ishr, 1) := by decide +kernel
theorem dX6_smallestMajority_52 : decode cX6_smallestMajority 52 = .ok (.iconst 1, 1) := by decide +kernel
theorem dX6_smallestMajority_53 : decode cX6_smallestMajority 53 = .ok (.iand, 1) := by decide +kernel
theorem dX6_smallestMajority_54 : decode cX6_smallestMajority 54 = .ok (.iadd, 1) := by decide +kernel
theorem dX6_smallestMajority_55 : decode cX6_smallestMajority 55 = .ok (.istore_n 3, 1) := by decide +kernel
theorem dX6_smallestMajority_56 : decode cX6_smallestMajority 56 = .ok (.iinc 4 1, 3) := by decide +kernel
theorem dX6_smallestMajority_59 : decode cX6_smallestMajority 59 = .ok (.goto (-19), 3) := by decide +kernel
theorem dX6_smallestMajority_62 : decode cX6_smallestMajority 62 = .ok (.aload_n 0, 1) := by decide +kernel
theorem dX6_smallestMajority_63 : decode cX6_smallestMajority 63 = .ok (.iload_n 2, 1) := by decide +kernel
theorem dX6_smallestMajority_64 : decode cX6_smallestMajority 64 = .ok (.invokevirtual 83, 3) := by decide +kernel
theorem dX6_smallestMajority_67 : decode cX6_smallestMajority 67 = .ok (.aload_n 0, 1) := by decide +kernel
theorem dX6_smallestMajority_68 : decode cX6_smallestMajority 68 = .ok (.invokevirtual 86, 3) := by decide +kernel
theorem dX6_smallestMajority_71 : decode cX6_smallestMajority 71 = .ok (.if_icmp .lt 12, 3) := by decide +kernel
theorem dX6_smallestMajority_74 : decode cX6_smallestMajority 74 = .ok (.iload_n 3, 1) := by decide +kernel
theorem dX6_smallestMajority_75 : decode cX6_smallestMajority 75 = .ok (.iload_n 1, 1) := by decide +kernel
theorem dX6_smallestMajority_76 : decode cX6_smallestMajority 76 = .ok (.if_icmp .ge 7, 3) := by decide +kernel
theorem dX6_smallestMajority_79 : decode cX6_smallestMajority 79 = .ok (.iload_n 3, 1) := by decide +kernel
theorem dX6_smallestMajority_80 : decode cX6_smallestMajority 80 = .ok (.goto 4, 3) := by decide +kernel
theorem dX6_smallestMajority_83 : decode cX6_smallestMajority 83 = .ok (.iload_n 1, 1) := by decide +kernel
theorem dX6_smallestMajority_84 : decode cX6_smallestMajority 84 = .ok (.istore_n 1, 1) := by decide +kernel
theorem dX6_smallestMajority_85 : decode cX6_smallestMajority 85 = .ok (.iinc 2 1, 3) := by decide +kernel
theorem dX6_smallestMajority_88 : decode cX6_smallestMajority 88 = .ok (.goto (-65), 3) := by decide +kernel
theorem dX6_smallestMajority_91 : decode cX6_smallestMajority 91 = .ok (.aload_n 0, 1) := by decide +kernel
theorem dX6_smallestMajority_92 : decode cX6_smallestMajority 92 = .ok (.getfield 41, 3) := by decide +kernel
theorem dX6_smallestMajority_95 : decode cX6_smallestMajority 95 = .ok (.ifCond .le 7, 3) := by decide +kernel
theorem dX6_smallestMajority_98 : decode cX6_smallestMajority 98 = .ok (.iconst 0, 1) := by decide +kernel
theorem dX6_smallestMajority_99 : decode cX6_smallestMajority 99 = .ok (.goto 4, 3) := by decide +kernel
theorem dX6_smallestMajority_102 : decode cX6_smallestMajority 102 = .ok (.iload_n 1, 1) := by decide +kernel
theorem dX6_smallestMajority_103 : decode cX6_smallestMajority 103 = .ok (.ireturn, 1) := by decide +kernel
theorem dX6_beat_0 : decode cX6_beat 0 = .ok (.aload_n 0, 1) := by decide +kernel
theorem dX6_beat_1 : decode cX6_beat 1 = .ok (.iconst 0, 1) := by decide +kernel
theorem dX6_beat_2 : decode cX6_beat 2 = .ok (.putfield 41, 3) := by decide +kernel
theorem dX6_beat_5 : decode cX6_beat 5 = .ok (.aload_n 0, 1) := by decide +kernel
theorem dX6_beat_6 : decode cX6_beat 6 = .ok (.getfield 7, 3) := by decide +kernel
theorem dX6_beat_9 : decode cX6_beat 9 = .ok (.iconst 1, 1) := by decide +kernel
theorem dX6_beat_10 : decode cX6_beat 10 = .ok (.iaload, 1) := by decide +kernel
theorem dX6_beat_11 : decode cX6_beat 11 = .ok (.ireturn, 1) := by decide +kernel
theorem dX6_surplus_0 : decode cX6_surplus 0 = .ok (.aload_n 0, 1) := by decide +kernel
theorem dX6_surplus_1 : decode cX6_surplus 1 = .ok (.iconst 0, 1) := by decide +kernel
theorem dX6_surplus_2 : decode cX6_surplus 2 = .ok (.putfield 41, 3) := by decide +kernel
theorem dX6_surplus_5 : decode cX6_surplus 5 = .ok (.aload_n 0, 1) := by decide +kernel
theorem dX6_surplus_6 : decode cX6_surplus 6 = .ok (.getfield 7, 3) := by decide +kernel
theorem dX6_surplus_9 : decode cX6_surplus 9 = .ok (.iconst 2, 1) := by decide +kernel
theorem dX6_surplus_10 : decode cX6_surplus 10 = .ok (.iaload, 1) := by decide +kernel
theorem dX6_surplus_11 : decode cX6_surplus 11 = .ok (.ireturn, 1) := by decide +kernel
theorem dX6_houseTone_0 : decode cX6_houseTone 0 = .ok (.aload_n 0, 1) := by decide +kernel
theorem dX6_houseTone_1 : decode cX6_houseTone 1 = .ok (.iconst 0, 1) := by decide +kernel
theorem dX6_houseTone_2 : decode cX6_houseTone 2 = .ok (.putfield 41, 3) := by decide +kernel
theorem dX6_houseTone_5 : decode cX6_houseTone 5 = .ok (.aload_n 0, 1) := by decide +kernel
theorem dX6_houseTone_6 : decode cX6_houseTone 6 = .ok (.getfield 7, 3) := by decide +kernel
theorem dX6_houseTone_9 : decode cX6_houseTone 9 = .ok (.iconst 3, 1) := by decide +kernel
theorem dX6_houseTone_10 : decode cX6_houseTone 10 = .ok (.iaload, 1) := by decide +kernel
theorem dX6_houseTone_11 : decode cX6_houseTone 11 = .ok (.ireturn, 1) := by decide +kernel
theorem dX6_quarters_0 : decode cX6_quarters 0 = .ok (.aload_n 0, 1) := by decide +kernel
theorem dX6_quarters_1 : decode cX6_quarters 1 = .ok (.iconst 0, 1) := by decide +kernel
theorem dX6_quarters_2 : decode cX6_quarters 2 = .ok (.putfield 41, 3) := by decide +kernel
theorem dX6_quarters_5 : decode cX6_quarters 5 = .ok (.aload_n 0, 1) := by decide +kernel
theorem dX6_quarters_6 : decode cX6_quarters 6 = .ok (.getfield 7, 3) := by decide +kernel
theorem dX6_quarters_9 : decode cX6_quarters 9 = .ok (.iconst 4, 1) := by decide +kernel
theorem dX6_quarters_10 : decode cX6_quarters 10 = .ok (.iaload, 1) := by decide +kernel
theorem dX6_quarters_11 : decode cX6_quarters 11 = .ok (.ireturn, 1) := by decide +kernel
theorem dX6_purses_0 : decode cX6_purses 0 = .ok (.iconst 0, 1) := by decide +kernel
theorem dX6_purses_1 : decode cX6_purses 1 = .ok (.istore_n 1, 1) := by decide +kernel
theorem dX6_purses_2 : decode cX6_purses 2 = .ok (.iconst 0, 1) := by decide +kernel
theorem dX6_purses_3 : decode cX6_purses 3 = .ok (.istore_n 2, 1) := by decide +kernel
theorem dX6_purses_4 : decode cX6_purses 4 = .ok (.iload_n 2, 1) := by decide +kernel
theorem dX6_purses_5 : decode cX6_purses 5 = .ok (.aload_n 0, 1) := by decide +kernel
theorem dX6_purses_6 : decode cX6_purses 6 = .ok (.getfield 7, 3) := by decide +kernel
theorem dX6_purses_9 : decode cX6_purses 9 = .ok (.iconst 0, 1) := by decide +kernel
theorem dX6_purses_10 : decode cX6_purses 10 = .ok (.iaload, 1) := by decide +kernel
theorem dX6_purses_11 : decode cX6_purses 11 = .ok (.if_icmp .ge 18, 3) := by decide +kernel
theorem dX6_purses_14 : decode cX6_purses 14 = .ok (.iload_n 1, 1) := by decide +kernel
theorem dX6_purses_15 : decode cX6_purses 15 = .ok (.aload_n 0, 1) := by decide +kernel
theorem dX6_purses_16 : decode cX6_purses 16 = .ok (.iload_n 2, 1) := by decide +kernel
theorem dX6_purses_17 : decode cX6_purses 17 = .ok (.iconst 5, 1) := by decide +kernel
theorem dX6_purses_18 : decode cX6_purses 18 = .ok (.invokevirtual 65, 3) := by decide +kernel
theorem dX6_purses_21 : decode cX6_purses 21 = .ok (.iadd, 1) := by decide +kernel
theorem dX6_purses_22 : decode cX6_purses 22 = .ok (.istore_n 1, 1) := by decide +kernel
theorem dX6_purses_23 : decode cX6_purses 23 = .ok (.iinc 2 1, 3) := by decide +kernel
theorem dX6_purses_26 : decode cX6_purses 26 = .ok (.goto (-22), 3) := by decide +kernel
theorem dX6_purses_29 : decode cX6_purses 29 = .ok (.iload_n 1, 1) := by decide +kernel
theorem dX6_purses_30 : decode cX6_purses 30 = .ok (.ireturn, 1) := by decide +kernel
theorem dX6_coinTotal_0 : decode cX6_coinTotal 0 = .ok (.aload_n 0, 1) := by decide +kernel
theorem dX6_coinTotal_1 : decode cX6_coinTotal 1 = .ok (.iconst 0, 1) := by decide +kernel
theorem dX6_coinTotal_2 : decode cX6_coinTotal 2 = .ok (.putfield 41, 3) := by decide +kernel
theorem dX6_coinTotal_5 : decode cX6_coinTotal 5 = .ok (.aload_n 0, 1) := by decide +kernel
theorem dX6_coinTotal_6 : decode cX6_coinTotal 6 = .ok (.invokevirtual 158, 3) := by decide +kernel
theorem dX6_coinTotal_9 : decode cX6_coinTotal 9 = .ok (.aload_n 0, 1) := by decide +kernel
theorem dX6_coinTotal_10 : decode cX6_coinTotal 10 = .ok (.getfield 7, 3) := by decide +kernel
theorem dX6_coinTotal_13 : decode cX6_coinTotal 13 = .ok (.iconst 2, 1) := by decide +kernel
theorem dX6_coinTotal_14 : decode cX6_coinTotal 14 = .ok (.iaload, 1) := by decide +kernel
theorem dX6_coinTotal_15 : decode cX6_coinTotal 15 = .ok (.iadd, 1) := by decide +kernel
theorem dX6_coinTotal_16 : decode cX6_coinTotal 16 = .ok (.ireturn, 1) := by decide +kernel
theorem dX6_coinsByAccounts_0 : decode cX6_coinsByAccounts 0 = .ok (.aload_n 0, 1) := by decide +kernel
theorem dX6_coinsByAccounts_1 : decode cX6_coinsByAccounts 1 = .ok (.iconst 0, 1) := by decide +kernel
theorem dX6_coinsByAccounts_2 : decode cX6_coinsByAccounts 2 = .ok (.putfield 41, 3) := by decide +kernel
theorem dX6_coinsByAccounts_5 : decode cX6_coinsByAccounts 5 = .ok (.aload_n 0, 1) := by decide +kernel
theorem dX6_coinsByAccounts_6 : decode cX6_coinsByAccounts 6 = .ok (.getfield 7, 3) := by decide +kernel
theorem dX6_coinsByAccounts_9 : decode cX6_coinsByAccounts 9 = .ok (.iconst 5, 1) := by decide +kernel
theorem dX6_coinsByAccounts_10 : decode cX6_coinsByAccounts 10 = .ok (.iaload, 1) := by decide +kernel
theorem dX6_coinsByAccounts_11 : decode cX6_coinsByAccounts 11 = .ok (.ireturn, 1) := by decide +kernel
theorem dX6_chirps_0 : decode cX6_chirps 0 = .ok (.aload_n 0, 1) := by decide +kernel
theorem dX6_chirps_1 : decode cX6_chirps 1 = .ok (.iconst 0, 1) := by decide +kernel
theorem dX6_chirps_2 : decode cX6_chirps 2 = .ok (.putfield 41, 3) := by decide +kernel
theorem dX6_chirps_5 : decode cX6_chirps 5 = .ok (.aload_n 0, 1) := by decide +kernel
theorem dX6_chirps_6 : decode cX6_chirps 6 = .ok (.getfield 7, 3) := by decide +kernel
theorem dX6_chirps_9 : decode cX6_chirps 9 = .ok (.bipush 6, 2) := by decide +kernel
theorem dX6_chirps_11 : decode cX6_chirps 11 = .ok (.iaload, 1) := by decide +kernel
theorem dX6_chirps_12 : decode cX6_chirps 12 = .ok (.ireturn, 1) := by decide +kernel
theorem dX6_spoiltBeat_0 : decode cX6_spoiltBeat 0 = .ok (.aload_n 0, 1) := by decide +kernel
theorem dX6_spoiltBeat_1 : decode cX6_spoiltBeat 1 = .ok (.iload_n 1, 1) := by decide +kernel
theorem dX6_spoiltBeat_2 : decode cX6_spoiltBeat 2 = .ok (.iconst 0, 1) := by decide +kernel
theorem dX6_spoiltBeat_3 : decode cX6_spoiltBeat 3 = .ok (.aload_n 0, 1) := by decide +kernel
theorem dX6_spoiltBeat_4 : decode cX6_spoiltBeat 4 = .ok (.getfield 7, 3) := by decide +kernel
theorem dX6_spoiltBeat_7 : decode cX6_spoiltBeat 7 = .ok (.bipush 7, 2) := by decide +kernel
theorem dX6_spoiltBeat_9 : decode cX6_spoiltBeat 9 = .ok (.iaload, 1) := by decide +kernel
theorem dX6_spoiltBeat_10 : decode cX6_spoiltBeat 10 = .ok (.iconst 1, 1) := by decide +kernel
theorem dX6_spoiltBeat_11 : decode cX6_spoiltBeat 11 = .ok (.isub, 1) := by decide +kernel
theorem dX6_spoiltBeat_12 : decode cX6_spoiltBeat 12 = .ok (.invokestatic 57, 3) := by decide +kernel
theorem dX6_spoiltBeat_15 : decode cX6_spoiltBeat 15 = .ok (.ifCond .eq 7, 3) := by decide +kernel
theorem dX6_spoiltBeat_18 : decode cX6_spoiltBeat 18 = .ok (.iconst 0, 1) := by decide +kernel
theorem dX6_spoiltBeat_19 : decode cX6_spoiltBeat 19 = .ok (.goto 4, 3) := by decide +kernel
theorem dX6_spoiltBeat_22 : decode cX6_spoiltBeat 22 = .ok (.iconst 1, 1) := by decide +kernel
theorem dX6_spoiltBeat_23 : decode cX6_spoiltBeat 23 = .ok (.putfield 41, 3) := by decide +kernel
theorem dX6_spoiltBeat_26 : decode cX6_spoiltBeat 26 = .ok (.aload_n 0, 1) := by decide +kernel
theorem dX6_spoiltBeat_27 : decode cX6_spoiltBeat 27 = .ok (.getfield 41, 3) := by decide +kernel
theorem dX6_spoiltBeat_30 : decode cX6_spoiltBeat 30 = .ok (.ifCond .le 7, 3) := by decide +kernel
theorem dX6_spoiltBeat_33 : decode cX6_spoiltBeat 33 = .ok (.iconst 0, 1) := by decide +kernel
theorem dX6_spoiltBeat_34 : decode cX6_spoiltBeat 34 = .ok (.goto 12, 3) := by decide +kernel
theorem dX6_spoiltBeat_37 : decode cX6_spoiltBeat 37 = .ok (.aload_n 0, 1) := by decide +kernel
theorem dX6_spoiltBeat_38 : decode cX6_spoiltBeat 38 = .ok (.getfield 7, 3) := by decide +kernel
theorem dX6_spoiltBeat_41 : decode cX6_spoiltBeat 41 = .ok (.bipush 64, 2) := by decide +kernel
theorem dX6_spoiltBeat_43 : decode cX6_spoiltBeat 43 = .ok (.iload_n 1, 1) := by decide +kernel
theorem dX6_spoiltBeat_44 : decode cX6_spoiltBeat 44 = .ok (.iadd, 1) := by decide +kernel
theorem dX6_spoiltBeat_45 : decode cX6_spoiltBeat 45 = .ok (.iaload, 1) := by decide +kernel
theorem dX6_spoiltBeat_46 : decode cX6_spoiltBeat 46 = .ok (.ireturn, 1) := by decide +kernel
theorem dX6_meanPurse_0 : decode cX6_meanPurse 0 = .ok (.aload_n 0, 1) := by decide +kernel
theorem dX6_meanPurse_1 : decode cX6_meanPurse 1 = .ok (.aload_n 0, 1) := by decide +kernel
theorem dX6_meanPurse_2 : decode cX6_meanPurse 2 = .ok (.getfield 7, 3) := by decide +kernel
theorem dX6_meanPurse_5 : decode cX6_meanPurse 5 = .ok (.iconst 0, 1) := by decide +kernel
theorem dX6_meanPurse_6 : decode cX6_meanPurse 6 = .ok (.iaload, 1) := by decide +kernel
theorem dX6_meanPurse_7 : decode cX6_meanPurse 7 = .ok (.ifCond .ne 7, 3) := by decide +kernel
theorem dX6_meanPurse_10 : decode cX6_meanPurse 10 = .ok (.iconst 1, 1) := by decide +kernel
theorem dX6_meanPurse_11 : decode cX6_meanPurse 11 = .ok (.goto 4, 3) := by decide +kernel
theorem dX6_meanPurse_14 : decode cX6_meanPurse 14 = .ok (.iconst 0, 1) := by decide +kernel
theorem dX6_meanPurse_15 : decode cX6_meanPurse 15 = .ok (.putfield 41, 3) := by decide +kernel
theorem dX6_meanPurse_18 : decode cX6_meanPurse 18 = .ok (.aload_n 0, 1) := by decide +kernel
theorem dX6_meanPurse_19 : decode cX6_meanPurse 19 = .ok (.getfield 41, 3) := by decide +kernel
theorem dX6_meanPurse_22 : decode cX6_meanPurse 22 = .ok (.ifCond .le 7, 3) := by decide +kernel
theorem dX6_meanPurse_25 : decode cX6_meanPurse 25 = .ok (.dconst 0, 1) := by decide +kernel
theorem dX6_meanPurse_26 : decode cX6_meanPurse 26 = .ok (.goto 16, 3) := by decide +kernel
theorem dX6_meanPurse_29 : decode cX6_meanPurse 29 = .ok (.aload_n 0, 1) := by decide +kernel
theorem dX6_meanPurse_30 : decode cX6_meanPurse 30 = .ok (.invokevirtual 158, 3) := by decide +kernel
theorem dX6_meanPurse_33 : decode cX6_meanPurse 33 = .ok (.i2d, 1) := by decide +kernel
theorem dX6_meanPurse_34 : decode cX6_meanPurse 34 = .ok (.aload_n 0, 1) := by decide +kernel
theorem dX6_meanPurse_35 : decode cX6_meanPurse 35 = .ok (.getfield 7, 3) := by decide +kernel
theorem dX6_meanPurse_38 : decode cX6_meanPurse 38 = .ok (.iconst 0, 1) := by decide +kernel
theorem dX6_meanPurse_39 : decode cX6_meanPurse 39 = .ok (.iaload, 1) := by decide +kernel
theorem dX6_meanPurse_40 : decode cX6_meanPurse 40 = .ok (.i2d, 1) := by decide +kernel
theorem dX6_meanPurse_41 : decode cX6_meanPurse 41 = .ok (.ddiv, 1) := by decide +kernel
theorem dX6_meanPurse_42 : decode cX6_meanPurse 42 = .ok (.dreturn, 1) := by decide +kernel
theorem dX6_powerShare_0 : decode cX6_powerShare 0 = .ok (.aload_n 0, 1) := by decide +kernel
theorem dX6_powerShare_1 : decode cX6_powerShare 1 = .ok (.iload_n 1, 1) := by decide +kernel
theorem dX6_powerShare_2 : decode cX6_powerShare 2 = .ok (.invokevirtual 133, 3) := by decide +kernel
theorem dX6_powerShare_5 : decode cX6_powerShare 5 = .ok (.ifCond .ne 5, 3) := by decide +kernel
theorem dX6_powerShare_8 : decode cX6_powerShare 8 = .ok (.fconst 0, 1) := by decide +kernel
theorem dX6_powerShare_9 : decode cX6_powerShare 9 = .ok (.freturn, 1) := by decide +kernel
theorem dX6_powerShare_10 : decode cX6_powerShare 10 = .ok (.iconst 0, 1) := by decide +kernel
theorem dX6_powerShare_11 : decode cX6_powerShare 11 = .ok (.istore_n 2, 1) := by decide +kernel
theorem dX6_powerShare_12 : decode cX6_powerShare 12 = .ok (.iconst 0, 1) := by decide +kernel
theorem dX6_powerShare_13 : decode cX6_powerShare 13 = .ok (.istore_n 3, 1) := by decide +kernel
theorem dX6_powerShare_14 : decode cX6_powerShare 14 = .ok (.iload_n 3, 1) := by decide +kernel
theorem dX6_powerShare_15 : decode cX6_powerShare 15 = .ok (.aload_n 0, 1) := by decide +kernel
theorem dX6_powerShare_16 : decode cX6_powerShare 16 = .ok (.getfield 7, 3) := by decide +kernel
theorem dX6_powerShare_19 : decode cX6_powerShare 19 = .ok (.iconst 0, 1) := by decide +kernel
theorem dX6_powerShare_20 : decode cX6_powerShare 20 = .ok (.iaload, 1) := by decide +kernel
theorem dX6_powerShare_21 : decode cX6_powerShare 21 = .ok (.if_icmp .ge 17, 3) := by decide +kernel
theorem dX6_powerShare_24 : decode cX6_powerShare 24 = .ok (.iload_n 2, 1) := by decide +kernel
theorem dX6_powerShare_25 : decode cX6_powerShare 25 = .ok (.aload_n 0, 1) := by decide +kernel
theorem dX6_powerShare_26 : decode cX6_powerShare 26 = .ok (.iload_n 3, 1) := by decide +kernel
theorem dX6_powerShare_27 : decode cX6_powerShare 27 = .ok (.invokevirtual 152, 3) := by decide +kernel
theorem dX6_powerShare_30 : decode cX6_powerShare 30 = .ok (.iadd, 1) := by decide +kernel
theorem dX6_powerShare_31 : decode cX6_powerShare 31 = .ok (.istore_n 2, 1) := by decide +kernel
theorem dX6_powerShare_32 : decode cX6_powerShare 32 = .ok (.iinc 3 1, 3) := by decide +kernel
theorem dX6_powerShare_35 : decode cX6_powerShare 35 = .ok (.goto (-21), 3) := by decide +kernel
theorem dX6_powerShare_38 : decode cX6_powerShare 38 = .ok (.aload_n 0, 1) := by decide +kernel
theorem dX6_powerShare_39 : decode cX6_powerShare 39 = .ok (.iload_n 1, 1) := by decide +kernel
theorem dX6_powerShare_40 : decode cX6_powerShare 40 = .ok (.invokevirtual 152, 3) := by decide +kernel
theorem dX6_powerShare_43 : decode cX6_powerShare 43 = .ok (.i2f, 1) := by decide +kernel
theorem dX6_powerShare_44 : decode cX6_powerShare 44 = .ok (.iload_n 2, 1) := by decide +kernel
theorem dX6_powerShare_45 : decode cX6_powerShare 45 = .ok (.i2f, 1) := by decide +kernel
theorem dX6_powerShare_46 : decode cX6_powerShare 46 = .ok (.fdiv, 1) := by decide +kernel
theorem dX6_powerShare_47 : decode cX6_powerShare 47 = .ok (.freturn, 1) := by decide +kernel
theorem dX6_isConsistent_0 : decode cX6_isConsistent 0 = .ok (.aload_n 0, 1) := by decide +kernel
theorem dX6_isConsistent_1 : decode cX6_isConsistent 1 = .ok (.iconst 0, 1) := by decide +kernel
theorem dX6_isConsistent_2 : decode cX6_isConsistent 2 = .ok (.putfield 41, 3) := by decide +kernel
theorem dX6_isConsistent_5 : decode cX6_isConsistent 5 = .ok (.iconst 1, 1) := by decide +kernel
theorem dX6_isConsistent_6 : decode cX6_isConsistent 6 = .ok (.ireturn, 1) := by decide +kernel
theorem dX6_append_0 : decode cX6_append 0 = .ok (.aload_n 0, 1) := by decide +kernel
theorem dX6_append_1 : decode cX6_append 1 = .ok (.aload_n 0, 1) := by decide +kernel
theorem dX6_append_2 : decode cX6_append 2 = .ok (.getfield 161, 3) := by decide +kernel
theorem dX6_append_5 : decode cX6_append 5 = .ok (.bipush 60, 2) := by decide +kernel
theorem dX6_append_7 : decode cX6_append 7 = .ok (.if_icmp .ne 7, 3) := by decide +kernel
theorem dX6_append_10 : decode cX6_append 10 = .ok (.iconst 1, 1) := by decide +kernel
theorem dX6_append_11 : decode cX6_append 11 = .ok (.goto 4, 3) := by decide +kernel
theorem dX6_append_14 : decode cX6_append 14 = .ok (.iconst 0, 1) := by decide +kernel
theorem dX6_append_15 : decode cX6_append 15 = .ok (.putfield 41, 3) := by decide +kernel
theorem dX6_append_18 : decode cX6_append 18 = .ok (.aload_n 0, 1) := by decide +kernel
theorem dX6_append_19 : decode cX6_append 19 = .ok (.getfield 41, 3) := by decide +kernel
theorem dX6_append_22 : decode cX6_append 22 = .ok (.ifCond .le 5, 3) := by decide +kernel
theorem dX6_append_25 : decode cX6_append 25 = .ok (.iconst 0, 1) := by decide +kernel
theorem dX6_append_26 : decode cX6_append 26 = .ok (.ireturn, 1) := by decide +kernel
theorem dX6_append_27 : decode cX6_append 27 = .ok (.aload_n 0, 1) := by decide +kernel
theorem dX6_append_28 : decode cX6_append 28 = .ok (.getfield 25, 3) := by decide +kernel
theorem dX6_append_31 : decode cX6_append 31 = .ok (.aload_n 0, 1) := by decide +kernel
theorem dX6_append_32 : decode cX6_append 32 = .ok (.getfield 161, 3) := by decide +kernel
theorem dX6_append_35 : decode cX6_append 35 = .ok (.iload_n 1, 1) := by decide +kernel
theorem dX6_append_36 : decode cX6_append 36 = .ok (.iastore, 1) := by decide +kernel
theorem dX6_append_37 : decode cX6_append 37 = .ok (.aload_n 0, 1) := by decide +kernel
theorem dX6_append_38 : decode cX6_append 38 = .ok (.dup, 1) := by decide +kernel
theorem dX6_append_39 : decode cX6_append 39 = .ok (.getfield 161, 3) := by decide +kernel
theorem dX6_append_42 : decode cX6_append 42 = .ok (.iconst 1, 1) := by decide +kernel
theorem dX6_append_43 : decode cX6_append 43 = .ok (.iadd, 1) := by decide +kernel
theorem dX6_append_44 : decode cX6_append 44 = .ok (.putfield 161, 3) := by decide +kernel
theorem dX6_append_47 : decode cX6_append 47 = .ok (.aload_n 0, 1) := by decide +kernel
theorem dX6_append_48 : decode cX6_append 48 = .ok (.getfield 161, 3) := by decide +kernel
theorem dX6_append_51 : decode cX6_append 51 = .ok (.ireturn, 1) := by decide +kernel
theorem dX6_here_0 : decode cX6_here 0 = .ok (.aload_n 0, 1) := by decide +kernel
theorem dX6_here_1 : decode cX6_here 1 = .ok (.getfield 164, 3) := by decide +kernel
theorem dX6_here_4 : decode cX6_here 4 = .ok (.iload_n 1, 1) := by decide +kernel
theorem dX6_here_5 : decode cX6_here 5 = .ok (.iadd, 1) := by decide +kernel
theorem dX6_here_6 : decode cX6_here 6 = .ok (.aload_n 0, 1) := by decide +kernel
theorem dX6_here_7 : decode cX6_here 7 = .ok (.getfield 167, 3) := by decide +kernel
theorem dX6_here_10 : decode cX6_here 10 = .ok (.if_icmp .ge 17, 3) := by decide +kernel
theorem dX6_here_13 : decode cX6_here 13 = .ok (.aload_n 0, 1) := by decide +kernel
theorem dX6_here_14 : decode cX6_here 14 = .ok (.getfield 25, 3) := by decide +kernel
theorem dX6_here_17 : decode cX6_here 17 = .ok (.aload_n 0, 1) := by decide +kernel
theorem dX6_here_18 : decode cX6_here 18 = .ok (.getfield 164, 3) := by decide +kernel
theorem dX6_here_21 : decode cX6_here 21 = .ok (.iload_n 1, 1) := by decide +kernel
theorem dX6_here_22 : decode cX6_here 22 = .ok (.iadd, 1) := by decide +kernel
theorem dX6_here_23 : decode cX6_here 23 = .ok (.iaload, 1) := by decide +kernel
theorem dX6_here_24 : decode cX6_here 24 = .ok (.goto 4, 3) := by decide +kernel
theorem dX6_here_27 : decode cX6_here 27 = .ok (.iconst (-1), 1) := by decide +kernel
theorem dX6_here_28 : decode cX6_here 28 = .ok (.ireturn, 1) := by decide +kernel
theorem dX6_says_0 : decode cX6_says 0 = .ok (.iconst 0, 1) := by decide +kernel
theorem dX6_says_1 : decode cX6_says 1 = .ok (.istore_n 2, 1) := by decide +kernel
theorem dX6_says_2 : decode cX6_says 2 = .ok (.iload_n 2, 1) := by decide +kernel
theorem dX6_says_3 : decode cX6_says 3 = .ok (.aload_n 1, 1) := by decide +kernel
theorem dX6_says_4 : decode cX6_says 4 = .ok (.invokevirtual 170, 3) := by decide +kernel
theorem dX6_says_7 : decode cX6_says 7 = .ok (.if_icmp .ge 59, 3) := by decide +kernel
theorem dX6_says_10 : decode cX6_says 10 = .ok (.aload_n 0, 1) := by decide +kernel
theorem dX6_says_11 : decode cX6_says 11 = .ok (.getfield 175, 3) := by decide +kernel
theorem dX6_says_14 : decode cX6_says 14 = .ok (.ifCond .ne 52, 3) := by decide +kernel
theorem dX6_says_17 : decode cX6_says 17 = .ok (.aload_n 0, 1) := by decide +kernel
theorem dX6_says_18 : decode cX6_says 18 = .ok (.aload_n 0, 1) := by decide +kernel
theorem dX6_says_19 : decode cX6_says 19 = .ok (.iconst 0, 1) := by decide +kernel
theorem dX6_says_20 : decode cX6_says 20 = .ok (.invokevirtual 179, 3) := by decide +kernel
theorem dX6_says_23 : decode cX6_says 23 = .ok (.aload_n 1, 1) := by decide +kernel
theorem dX6_says_24 : decode cX6_says 24 = .ok (.iload_n 2, 1) := by decide +kernel
theorem dX6_says_25 : decode cX6_says 25 = .ok (.invokevirtual 182, 3) := by decide +kernel
theorem dX6_says_28 : decode cX6_says 28 = .ok (.if_icmp .eq 7, 3) := by decide +kernel
theorem dX6_says_31 : decode cX6_says 31 = .ok (.iconst 1, 1) := by decide +kernel
theorem dX6_says_32 : decode cX6_says 32 = .ok (.goto 4, 3) := by decide +kernel
theorem dX6_says_35 : decode cX6_says 35 = .ok (.iconst 0, 1) := by decide +kernel
theorem dX6_says_36 : decode cX6_says 36 = .ok (.putfield 175, 3) := by decide +kernel
theorem dX6_says_39 : decode cX6_says 39 = .ok (.aload_n 0, 1) := by decide +kernel
theorem dX6_says_40 : decode cX6_says 40 = .ok (.dup, 1) := by decide +kernel
theorem dX6_says_41 : decode cX6_says 41 = .ok (.getfield 164, 3) := by decide +kernel
theorem dX6_says_44 : decode cX6_says 44 = .ok (.aload_n 0, 1) := by decide +kernel
theorem dX6_says_45 : decode cX6_says 45 = .ok (.getfield 175, 3) := by decide +kernel
theorem dX6_says_48 : decode cX6_says 48 = .ok (.ifCond .eq 7, 3) := by decide +kernel
theorem dX6_says_51 : decode cX6_says 51 = .ok (.iconst 0, 1) := by decide +kernel
theorem dX6_says_52 : decode cX6_says 52 = .ok (.goto 4, 3) := by decide +kernel
theorem dX6_says_55 : decode cX6_says 55 = .ok (.iconst 1, 1) := by decide +kernel
theorem dX6_says_56 : decode cX6_says 56 = .ok (.iadd, 1) := by decide +kernel
theorem dX6_says_57 : decode cX6_says 57 = .ok (.putfield 164, 3) := by decide +kernel
theorem dX6_says_60 : decode cX6_says 60 = .ok (.iinc 2 1, 3) := by decide +kernel
theorem dX6_says_63 : decode cX6_says 63 = .ok (.goto (-61), 3) := by decide +kernel
theorem dX6_says_66 : decode cX6_says 66 = .ok (.return_, 1) := by decide +kernel
theorem dX6_number_0 : decode cX6_number 0 = .ok (.aload_n 0, 1) := by decide +kernel
theorem dX6_number_1 : decode cX6_number 1 = .ok (.aload_n 1, 1) := by decide +kernel
theorem dX6_number_2 : decode cX6_number 2 = .ok (.invokevirtual 186, 3) := by decide +kernel
theorem dX6_number_5 : decode cX6_number 5 = .ok (.iconst 0, 1) := by decide +kernel
theorem dX6_number_6 : decode cX6_number 6 = .ok (.istore 4, 2) := by decide +kernel
theorem dX6_number_8 : decode cX6_number 8 = .ok (.iconst 0, 1) := by decide +kernel
theorem dX6_number_9 : decode cX6_number 9 = .ok (.istore 5, 2) := by decide +kernel
theorem dX6_number_11 : decode cX6_number 11 = .ok (.aload_n 0, 1) := by decide +kernel
theorem dX6_number_12 : decode cX6_number 12 = .ok (.getfield 175, 3) := by decide +kernel
theorem dX6_number_15 : decode cX6_number 15 = .ok (.ifCond .ne 56, 3) := by decide +kernel
theorem dX6_number_18 : decode cX6_number 18 = .ok (.iload 5, 2) := by decide +kernel
theorem dX6_number_20 : decode cX6_number 20 = .ok (.iload_n 3, 1) := by decide +kernel
theorem dX6_number_21 : decode cX6_number 21 = .ok (.if_icmp .ge 50, 3) := by decide +kernel
theorem dX6_number_24 : decode cX6_number 24 = .ok (.aload_n 0, 1) := by decide +kernel
theorem dX6_number_25 : decode cX6_number 25 = .ok (.iconst 0, 1) := by decide +kernel
theorem dX6_number_26 : decode cX6_number 26 = .ok (.invokevirtual 179, 3) := by decide +kernel
theorem dX6_number_29 : decode cX6_number 29 = .ok (.bipush 48, 2) := by decide +kernel
theorem dX6_number_31 : decode cX6_number 31 = .ok (.bipush 57, 2) := by decide +kernel
theorem dX6_number_33 : decode cX6_number 33 = .ok (.invokestatic 57, 3) := by decide +kernel
theorem dX6_number_36 : decode cX6_number 36 = .ok (.ifCond .eq 35, 3) := by decide +kernel
theorem dX6_number_39 : decode cX6_number 39 = .ok (.bipush 10, 2) := by decide +kernel
theorem dX6_number_41 : decode cX6_number 41 = .ok (.iload 4, 2) := by decide +kernel
theorem dX6_number_43 : decode cX6_number 43 = .ok (.imul, 1) := by decide +kernel
theorem dX6_number_44 : decode cX6_number 44 = .ok (.aload_n 0, 1) := by decide +kernel
theorem dX6_number_45 : decode cX6_number 45 = .ok (.iconst 0, 1) := by decide +kernel
theorem dX6_number_46 : decode cX6_number 46 = .ok (.invokevirtual 179, 3) := by decide +kernel
theorem dX6_number_49 : decode cX6_number 49 = .ok (.iadd, 1) := by decide +kernel
theorem dX6_number_50 : decode cX6_number 50 = .ok (.bipush 48, 2) := by decide +kernel
theorem dX6_number_52 : decode cX6_number 52 = .ok (.isub, 1) := by decide +kernel
theorem dX6_number_53 : decode cX6_number 53 = .ok (.istore 4, 2) := by decide +kernel
theorem dX6_number_55 : decode cX6_number 55 = .ok (.aload_n 0, 1) := by decide +kernel
theorem dX6_number_56 : decode cX6_number 56 = .ok (.dup, 1) := by decide +kernel
theorem dX6_number_57 : decode cX6_number 57 = .ok (.getfield 164, 3) := by decide +kernel
theorem dX6_number_60 : decode cX6_number 60 = .ok (.iconst 1, 1) := by decide +kernel
theorem dX6_number_61 : decode cX6_number 61 = .ok (.iadd, 1) := by decide +kernel
theorem dX6_number_62 : decode cX6_number 62 = .ok (.putfield 164, 3) := by decide +kernel
theorem dX6_number_65 : decode cX6_number 65 = .ok (.iinc 5 1, 3) := by decide +kernel
theorem dX6_number_68 : decode cX6_number 68 = .ok (.goto (-57), 3) := by decide +kernel
theorem dX6_number_71 : decode cX6_number 71 = .ok (.aload_n 0, 1) := by decide +kernel
theorem dX6_number_72 : decode cX6_number 72 = .ok (.aload_n 0, 1) := by decide +kernel
theorem dX6_number_73 : decode cX6_number 73 = .ok (.getfield 175, 3) := by decide +kernel
theorem dX6_number_76 : decode cX6_number 76 = .ok (.ifCond .ne 8, 3) := by decide +kernel
theorem dX6_number_79 : decode cX6_number 79 = .ok (.iload 5, 2) := by decide +kernel
theorem dX6_number_81 : decode cX6_number 81 = .ok (.ifCond .ne 7, 3) := by decide +kernel
theorem dX6_number_84 : decode cX6_number 84 = .ok (.iconst 1, 1) := by decide +kernel
theorem dX6_number_85 : decode cX6_number 85 = .ok (.goto 4, 3) := by decide +kernel
theorem dX6_number_88 : decode cX6_number 88 = .ok (.iconst 0, 1) := by decide +kernel
theorem dX6_number_89 : decode cX6_number 89 = .ok (.putfield 175, 3) := by decide +kernel
theorem dX6_number_92 : decode cX6_number 92 = .ok (.aload_n 0, 1) := by decide +kernel
theorem dX6_number_93 : decode cX6_number 93 = .ok (.getfield 28, 3) := by decide +kernel
theorem dX6_number_96 : decode cX6_number 96 = .ok (.iconst 5, 1) := by decide +kernel
theorem dX6_number_97 : decode cX6_number 97 = .ok (.aload_n 0, 1) := by decide +kernel
theorem dX6_number_98 : decode cX6_number 98 = .ok (.getfield 190, 3) := by decide +kernel
theorem dX6_number_101 : decode cX6_number 101 = .ok (.imul, 1) := by decide +kernel
theorem dX6_number_102 : decode cX6_number 102 = .ok (.iload_n 2, 1) := by decide +kernel
theorem dX6_number_103 : decode cX6_number 103 = .ok (.iadd, 1) := by decide +kernel
theorem dX6_number_104 : decode cX6_number 104 = .ok (.iload 4, 2) := by decide +kernel
theorem dX6_number_106 : decode cX6_number 106 = .ok (.iastore, 1) := by decide +kernel
theorem dX6_number_107 : decode cX6_number 107 = .ok (.return_, 1) := by decide +kernel
theorem dX6_two_0 : decode cX6_two 0 = .ok (.aload_n 0, 1) := by decide +kernel
theorem dX6_two_1 : decode cX6_two 1 = .ok (.aload_n 1, 1) := by decide +kernel
theorem dX6_two_2 : decode cX6_two 2 = .ok (.iconst 1, 1) := by decide +kernel
theorem dX6_two_3 : decode cX6_two 3 = .ok (.iload_n 2, 1) := by decide +kernel
theorem dX6_two_4 : decode cX6_two 4 = .ok (.invokevirtual 193, 3) := by decide +kernel
theorem dX6_two_7 : decode cX6_two 7 = .ok (.aload_n 0, 1) := by decide +kernel
theorem dX6_two_8 : decode cX6_two 8 = .ok (.ldc 197, 2) := by decide +kernel
theorem dX6_two_10 : decode cX6_two 10 = .ok (.iconst 2, 1) := by decide +kernel
theorem dX6_two_11 : decode cX6_two 11 = .ok (.iload_n 3, 1) := by decide +kernel
theorem dX6_two_12 : decode cX6_two 12 = .ok (.invokevirtual 193, 3) := by decide +kernel
theorem dX6_two_15 : decode cX6_two 15 = .ok (.return_, 1) := by decide +kernel
theorem dX6_readsOne_0 : decode cX6_readsOne 0 = .ok (.aload_n 0, 1) := by decide +kernel
theorem dX6_readsOne_1 : decode cX6_readsOne 1 = .ok (.iconst 0, 1) := by decide +kernel
theorem dX6_readsOne_2 : decode cX6_readsOne 2 = .ok (.invokevirtual 179, 3) := by decide +kernel
theorem dX6_readsOne_5 : decode cX6_readsOne 5 = .ok (.istore_n 1, 1) := by decide +kernel
theorem dX6_readsOne_6 : decode cX6_readsOne 6 = .ok (.iload_n 1, 1) := by decide +kernel
theorem dX6_readsOne_7 : decode cX6_readsOne 7 = .ok (.bipush 98, 2) := by decide +kernel
theorem dX6_readsOne_9 : decode cX6_readsOne 9 = .ok (.if_icmp .ne 17, 3) := by decide +kernel
theorem dX6_readsOne_12 : decode cX6_readsOne 12 = .ok (.aload_n 0, 1) := by decide +kernel
theorem dX6_readsOne_13 : decode cX6_readsOne 13 = .ok (.iconst 1, 1) := by decide +kernel
theorem dX6_readsOne_14 : decode cX6_readsOne 14 = .ok (.invokevirtual 179, 3) := by decide +kernel
theorem dX6_readsOne_17 : decode cX6_readsOne 17 = .ok (.bipush 101, 2) := by decide +kernel
theorem dX6_readsOne_19 : decode cX6_readsOne 19 = .ok (.if_icmp .ne 7, 3) := by decide +kernel
theorem dX6_readsOne_22 : decode cX6_readsOne 22 = .ok (.iconst 1, 1) := by decide +kernel
theorem dX6_readsOne_23 : decode cX6_readsOne 23 = .ok (.goto 4, 3) := by decide +kernel
theorem dX6_readsOne_26 : decode cX6_readsOne 26 = .ok (.iconst 0, 1) := by decide +kernel
theorem dX6_readsOne_27 : decode cX6_readsOne 27 = .ok (.istore_n 2, 1) := by decide +kernel
theorem dX6_readsOne_28 : decode cX6_readsOne 28 = .ok (.aload_n 0, 1) := by decide +kernel
theorem dX6_readsOne_29 : decode cX6_readsOne 29 = .ok (.getfield 28, 3) := by decide +kernel
theorem dX6_readsOne_32 : decode cX6_readsOne 32 = .ok (.iconst 5, 1) := by decide +kernel
theorem dX6_readsOne_33 : decode cX6_readsOne 33 = .ok (.aload_n 0, 1) := by decide +kernel
theorem dX6_readsOne_34 : decode cX6_readsOne 34 = .ok (.getfield 190, 3) := by decide +kernel
theorem dX6_readsOne_37 : decode cX6_readsOne 37 = .ok (.imul, 1) := by decide +kernel
theorem dX6_readsOne_38 : decode cX6_readsOne 38 = .ok (.iload_n 2, 1) := by decide +kernel
theorem dX6_readsOne_39 : decode cX6_readsOne 39 = .ok (.ifCond .eq 8, 3) := by decide +kernel
theorem dX6_readsOne_42 : decode cX6_readsOne 42 = .ok (.bipush 101, 2) := by decide +kernel
theorem dX6_readsOne_44 : decode cX6_readsOne 44 = .ok (.goto 4, 3) := by decide +kernel
theorem dX6_readsOne_47 : decode cX6_readsOne 47 = .ok (.iload_n 1, 1) := by decide +kernel
theorem dX6_readsOne_48 : decode cX6_readsOne 48 = .ok (.iastore, 1) := by decide +kernel
theorem dX6_readsOne_49 : decode cX6_readsOne 49 = .ok (.iload_n 1, 1) := by decide +kernel
theorem dX6_readsOne_50 : decode cX6_readsOne 50 = .ok (.lookupswitch 158 #[(98, 112), (106, 58), (113, 138), (116, 101), (118, 147), (119, 90)], 58) := by decide +kernel
theorem dX6_readsOne_108 : decode cX6_readsOne 108 = .ok (.aload_n 0, 1) := by decide +kernel
theorem dX6_readsOne_109 : decode cX6_readsOne 109 = .ok (.ldc 199, 2) := by decide +kernel
theorem dX6_readsOne_111 : decode cX6_readsOne 111 = .ok (.iconst 1, 1) := by decide +kernel
theorem dX6_readsOne_112 : decode cX6_readsOne 112 = .ok (.iconst 2, 1) := by decide +kernel
theorem dX6_readsOne_113 : decode cX6_readsOne 113 = .ok (.invokevirtual 193, 3) := by decide +kernel
theorem dX6_readsOne_116 : decode cX6_readsOne 116 = .ok (.iconst 2, 1) := by decide +kernel
theorem dX6_readsOne_117 : decode cX6_readsOne 117 = .ok (.istore_n 3, 1) := by decide +kernel
theorem dX6_readsOne_118 : decode cX6_readsOne 118 = .ok (.iload_n 3, 1) := by decide +kernel
theorem dX6_readsOne_119 : decode cX6_readsOne 119 = .ok (.iconst 5, 1) := by decide +kernel
theorem dX6_readsOne_120 : decode cX6_readsOne 120 = .ok (.if_icmp .ge 17, 3) := by decide +kernel
theorem dX6_readsOne_123 : decode cX6_readsOne 123 = .ok (.aload_n 0, 1) := by decide +kernel
theorem dX6_readsOne_124 : decode cX6_readsOne 124 = .ok (.ldc 197, 2) := by decide +kernel
theorem dX6_readsOne_126 : decode cX6_readsOne 126 = .ok (.iload_n 3, 1) := by decide +kernel
theorem dX6_readsOne_127 : decode cX6_readsOne 127 = .ok (.iconst 2, 1) := by decide +kernel
theorem dX6_readsOne_128 : decode cX6_readsOne 128 = .ok (.invokevirtual 193, 3) := by decide +kernel
theorem dX6_readsOne_131 : decode cX6_readsOne 131 = .ok (.iinc 3 1, 3) := by decide +kernel
theorem dX6_readsOne_134 : decode cX6_readsOne 134 = .ok (.goto (-16), 3) := by decide +kernel
theorem dX6_readsOne_137 : decode cX6_readsOne 137 = .ok (.goto 76, 3) := by decide +kernel
theorem dX6_readsOne_140 : decode cX6_readsOne 140 = .ok (.aload_n 0, 1) := by decide +kernel
theorem dX6_readsOne_141 : decode cX6_readsOne 141 = .ok (.ldc 201, 2) := by decide +kernel
theorem dX6_readsOne_143 : decode cX6_readsOne 143 = .ok (.iconst 1, 1) := by decide +kernel
theorem dX6_readsOne_144 : decode cX6_readsOne 144 = .ok (.iconst 2, 1) := by decide +kernel
theorem dX6_readsOne_145 : decode cX6_readsOne 145 = .ok (.invokevirtual 203, 3) := by decide +kernel
theorem dX6_readsOne_148 : decode cX6_readsOne 148 = .ok (.goto 65, 3) := by decide +kernel
theorem dX6_readsOne_151 : decode cX6_readsOne 151 = .ok (.aload_n 0, 1) := by decide +kernel
theorem dX6_readsOne_152 : decode cX6_readsOne 152 = .ok (.ldc 206, 2) := by decide +kernel
theorem dX6_readsOne_154 : decode cX6_readsOne 154 = .ok (.iconst 1, 1) := by decide +kernel
theorem dX6_readsOne_155 : decode cX6_readsOne 155 = .ok (.iconst 2, 1) := by decide +kernel
theorem dX6_readsOne_156 : decode cX6_readsOne 156 = .ok (.invokevirtual 203, 3) := by decide +kernel
theorem dX6_readsOne_159 : decode cX6_readsOne 159 = .ok (.goto 54, 3) := by decide +kernel
theorem dX6_readsOne_162 : decode cX6_readsOne 162 = .ok (.iload_n 2, 1) := by decide +kernel
theorem dX6_readsOne_163 : decode cX6_readsOne 163 = .ok (.ifCond .eq 14, 3) := by decide +kernel
theorem dX6_readsOne_166 : decode cX6_readsOne 166 = .ok (.aload_n 0, 1) := by decide +kernel
theorem dX6_readsOne_167 : decode cX6_readsOne 167 = .ok (.ldc 208, 2) := by decide +kernel
theorem dX6_readsOne_169 : decode cX6_readsOne 169 = .ok (.iconst 1, 1) := by decide +kernel
theorem dX6_readsOne_170 : decode cX6_readsOne 170 = .ok (.iconst 2, 1) := by decide +kernel
theorem dX6_readsOne_171 : decode cX6_readsOne 171 = .ok (.invokevirtual 193, 3) := by decide +kernel
theorem dX6_readsOne_174 : decode cX6_readsOne 174 = .ok (.goto 39, 3) := by decide +kernel
theorem dX6_readsOne_177 : decode cX6_readsOne 177 = .ok (.aload_n 0, 1) := by decide +kernel
theorem dX6_readsOne_178 : decode cX6_readsOne 178 = .ok (.ldc 210, 2) := by decide +kernel
theorem dX6_readsOne_180 : decode cX6_readsOne 180 = .ok (.iconst 1, 1) := by decide +kernel
theorem dX6_readsOne_181 : decode cX6_readsOne 181 = .ok (.iconst 2, 1) := by decide +kernel
theorem dX6_readsOne_182 : decode cX6_readsOne 182 = .ok (.invokevirtual 203, 3) := by decide +kernel
theorem dX6_readsOne_185 : decode cX6_readsOne 185 = .ok (.goto 28, 3) := by decide +kernel
theorem dX6_readsOne_188 : decode cX6_readsOne 188 = .ok (.aload_n 0, 1) := by decide +kernel
theorem dX6_readsOne_189 : decode cX6_readsOne 189 = .ok (.ldc 212, 2) := by decide +kernel
theorem dX6_readsOne_191 : decode cX6_readsOne 191 = .ok (.invokevirtual 186, 3) := by decide +kernel
theorem dX6_readsOne_194 : decode cX6_readsOne 194 = .ok (.goto 19, 3) := by decide +kernel
theorem dX6_readsOne_197 : decode cX6_readsOne 197 = .ok (.aload_n 0, 1) := by decide +kernel
theorem dX6_readsOne_198 : decode cX6_readsOne 198 = .ok (.ldc 214, 2) := by decide +kernel
theorem dX6_readsOne_200 : decode cX6_readsOne 200 = .ok (.iconst 2, 1) := by decide +kernel
theorem dX6_readsOne_201 : decode cX6_readsOne 201 = .ok (.iconst 1, 1) := by decide +kernel
theorem dX6_readsOne_202 : decode cX6_readsOne 202 = .ok (.invokevirtual 203, 3) := by decide +kernel
theorem dX6_readsOne_205 : decode cX6_readsOne 205 = .ok (.goto 8, 3) := by decide +kernel
theorem dX6_readsOne_208 : decode cX6_readsOne 208 = .ok (.aload_n 0, 1) := by decide +kernel
theorem dX6_readsOne_209 : decode cX6_readsOne 209 = .ok (.iconst 1, 1) := by decide +kernel
theorem dX6_readsOne_210 : decode cX6_readsOne 210 = .ok (.putfield 175, 3) := by decide +kernel
theorem dX6_readsOne_213 : decode cX6_readsOne 213 = .ok (.aload_n 0, 1) := by decide +kernel
theorem dX6_readsOne_214 : decode cX6_readsOne 214 = .ok (.dup, 1) := by decide +kernel
theorem dX6_readsOne_215 : decode cX6_readsOne 215 = .ok (.getfield 190, 3) := by decide +kernel
theorem dX6_readsOne_218 : decode cX6_readsOne 218 = .ok (.iconst 1, 1) := by decide +kernel
theorem dX6_readsOne_219 : decode cX6_readsOne 219 = .ok (.iadd, 1) := by decide +kernel
theorem dX6_readsOne_220 : decode cX6_readsOne 220 = .ok (.putfield 190, 3) := by decide +kernel
theorem dX6_readsOne_223 : decode cX6_readsOne 223 = .ok (.return_, 1) := by decide +kernel
theorem dX6_does_0 : decode cX6_does 0 = .ok (.aload_n 0, 1) := by decide +kernel
theorem dX6_does_1 : decode cX6_does 1 = .ok (.getfield 28, 3) := by decide +kernel
theorem dX6_does_4 : decode cX6_does 4 = .ok (.iconst 5, 1) := by decide +kernel
theorem dX6_does_5 : decode cX6_does 5 = .ok (.iload_n 1, 1) := by decide +kernel
theorem dX6_does_6 : decode cX6_does 6 = .ok (.imul, 1) := by decide +kernel
theorem dX6_does_7 : decode cX6_does 7 = .ok (.iconst 1, 1) := by decide +kernel
theorem dX6_does_8 : decode cX6_does 8 = .ok (.iadd, 1) := by decide +kernel
theorem dX6_does_9 : decode cX6_does 9 = .ok (.iaload, 1) := by decide +kernel
theorem dX6_does_10 : decode cX6_does 10 = .ok (.istore_n 2, 1) := by decide +kernel
theorem dX6_does_11 : decode cX6_does 11 = .ok (.aload_n 0, 1) := by decide +kernel
theorem dX6_does_12 : decode cX6_does 12 = .ok (.getfield 28, 3) := by decide +kernel
theorem dX6_does_15 : decode cX6_does 15 = .ok (.iconst 5, 1) := by decide +kernel
theorem dX6_does_16 : decode cX6_does 16 = .ok (.iload_n 1, 1) := by decide +kernel
theorem dX6_does_17 : decode cX6_does 17 = .ok (.imul, 1) := by decide +kernel
theorem dX6_does_18 : decode cX6_does 18 = .ok (.iconst 2, 1) := by decide +kernel
theorem dX6_does_19 : decode cX6_does 19 = .ok (.iadd, 1) := by decide +kernel
theorem dX6_does_20 : decode cX6_does 20 = .ok (.iaload, 1) := by decide +kernel
theorem dX6_does_21 : decode cX6_does 21 = .ok (.istore_n 3, 1) := by decide +kernel
theorem dX6_does_22 : decode cX6_does 22 = .ok (.aload_n 0, 1) := by decide +kernel
theorem dX6_does_23 : decode cX6_does 23 = .ok (.getfield 28, 3) := by decide +kernel
theorem dX6_does_26 : decode cX6_does 26 = .ok (.iconst 5, 1) := by decide +kernel
theorem dX6_does_27 : decode cX6_does 27 = .ok (.iload_n 1, 1) := by decide +kernel
theorem dX6_does_28 : decode cX6_does 28 = .ok (.imul, 1) := by decide +kernel
theorem dX6_does_29 : decode cX6_does 29 = .ok (.iaload, 1) := by decide +kernel
theorem dX6_does_30 : decode cX6_does 30 = .ok (.lookupswitch 117 #[(98, 99), (101, 106), (106, 58), (113, 112), (116, 92), (119, 85)], 58) := by decide +kernel
theorem dX6_does_88 : decode cX6_does 88 = .ok (.aload_n 0, 1) := by decide +kernel
theorem dX6_does_89 : decode cX6_does 89 = .ok (.iload_n 2, 1) := by decide +kernel
theorem dX6_does_90 : decode cX6_does 90 = .ok (.iload_n 3, 1) := by decide +kernel
theorem dX6_does_91 : decode cX6_does 91 = .ok (.aload_n 0, 1) := by decide +kernel
theorem dX6_does_92 : decode cX6_does 92 = .ok (.getfield 28, 3) := by decide +kernel
theorem dX6_does_95 : decode cX6_does 95 = .ok (.iconst 5, 1) := by decide +kernel
theorem dX6_does_96 : decode cX6_does 96 = .ok (.iload_n 1, 1) := by decide +kernel
theorem dX6_does_97 : decode cX6_does 97 = .ok (.imul, 1) := by decide +kernel
theorem dX6_does_98 : decode cX6_does 98 = .ok (.iconst 3, 1) := by decide +kernel
theorem dX6_does_99 : decode cX6_does 99 = .ok (.iadd, 1) := by decide +kernel
theorem dX6_does_100 : decode cX6_does 100 = .ok (.iaload, 1) := by decide +kernel
theorem dX6_does_101 : decode cX6_does 101 = .ok (.aload_n 0, 1) := by decide +kernel
theorem dX6_does_102 : decode cX6_does 102 = .ok (.getfield 28, 3) := by decide +kernel
theorem dX6_does_105 : decode cX6_does 105 = .ok (.iconst 5, 1) := by decide +kernel
theorem dX6_does_106 : decode cX6_does 106 = .ok (.iload_n 1, 1) := by decide +kernel
theorem dX6_does_107 : decode cX6_does 107 = .ok (.imul, 1) := by decide +kernel
theorem dX6_does_108 : decode cX6_does 108 = .ok (.iconst 4, 1) := by decide +kernel
theorem dX6_does_109 : decode cX6_does 109 = .ok (.iadd, 1) := by decide +kernel
theorem dX6_does_110 : decode cX6_does 110 = .ok (.iaload, 1) := by decide +kernel
theorem dX6_does_111 : decode cX6_does 111 = .ok (.invokevirtual 108, 3) := by decide +kernel
theorem dX6_does_114 : decode cX6_does 114 = .ok (.ireturn, 1) := by decide +kernel
theorem dX6_does_115 : decode cX6_does 115 = .ok (.aload_n 0, 1) := by decide +kernel
theorem dX6_does_116 : decode cX6_does 116 = .ok (.iload_n 2, 1) := by decide +kernel
theorem dX6_does_117 : decode cX6_does 117 = .ok (.iload_n 3, 1) := by decide +kernel
theorem dX6_does_118 : decode cX6_does 118 = .ok (.invokevirtual 115, 3) := by decide +kernel
theorem dX6_does_121 : decode cX6_does 121 = .ok (.ireturn, 1) := by decide +kernel
theorem dX6_does_122 : decode cX6_does 122 = .ok (.aload_n 0, 1) := by decide +kernel
theorem dX6_does_123 : decode cX6_does 123 = .ok (.iload_n 2, 1) := by decide +kernel
theorem dX6_does_124 : decode cX6_does 124 = .ok (.iload_n 3, 1) := by decide +kernel
theorem dX6_does_125 : decode cX6_does 125 = .ok (.invokevirtual 118, 3) := by decide +kernel
theorem dX6_does_128 : decode cX6_does 128 = .ok (.ireturn, 1) := by decide +kernel
theorem dX6_does_129 : decode cX6_does 129 = .ok (.aload_n 0, 1) := by decide +kernel
theorem dX6_does_130 : decode cX6_does 130 = .ok (.iload_n 2, 1) := by decide +kernel
theorem dX6_does_131 : decode cX6_does 131 = .ok (.iload_n 3, 1) := by decide +kernel
theorem dX6_does_132 : decode cX6_does 132 = .ok (.invokevirtual 121, 3) := by decide +kernel
theorem dX6_does_135 : decode cX6_does 135 = .ok (.ireturn, 1) := by decide +kernel
theorem dX6_does_136 : decode cX6_does 136 = .ok (.aload_n 0, 1) := by decide +kernel
theorem dX6_does_137 : decode cX6_does 137 = .ok (.iload_n 2, 1) := by decide +kernel
theorem dX6_does_138 : decode cX6_does 138 = .ok (.invokevirtual 124, 3) := by decide +kernel
theorem dX6_does_141 : decode cX6_does 141 = .ok (.ireturn, 1) := by decide +kernel
theorem dX6_does_142 : decode cX6_does 142 = .ok (.aload_n 0, 1) := by decide +kernel
theorem dX6_does_143 : decode cX6_does 143 = .ok (.invokevirtual 127, 3) := by decide +kernel
theorem dX6_does_146 : decode cX6_does 146 = .ok (.ireturn, 1) := by decide +kernel
theorem dX6_does_147 : decode cX6_does 147 = .ok (.aload_n 0, 1) := by decide +kernel
theorem dX6_does_148 : decode cX6_does 148 = .ok (.iload_n 2, 1) := by decide +kernel
theorem dX6_does_149 : decode cX6_does 149 = .ok (.iload_n 3, 1) := by decide +kernel
theorem dX6_does_150 : decode cX6_does 150 = .ok (.invokevirtual 130, 3) := by decide +kernel
theorem dX6_does_153 : decode cX6_does 153 = .ok (.ireturn, 1) := by decide +kernel
theorem dX6_run_0 : decode cX6_run 0 = .ok (.aload_n 0, 1) := by decide +kernel
theorem dX6_run_1 : decode cX6_run 1 = .ok (.invokevirtual 105, 3) := by decide +kernel
theorem dX6_run_4 : decode cX6_run 4 = .ok (.aload_n 0, 1) := by decide +kernel
theorem dX6_run_5 : decode cX6_run 5 = .ok (.iconst 0, 1) := by decide +kernel
theorem dX6_run_6 : decode cX6_run 6 = .ok (.putfield 164, 3) := by decide +kernel
theorem dX6_run_9 : decode cX6_run 9 = .ok (.aload_n 0, 1) := by decide +kernel
theorem dX6_run_10 : decode cX6_run 10 = .ok (.aload_n 0, 1) := by decide +kernel
theorem dX6_run_11 : decode cX6_run 11 = .ok (.getfield 161, 3) := by decide +kernel
theorem dX6_run_14 : decode cX6_run 14 = .ok (.putfield 167, 3) := by decide +kernel
theorem dX6_run_17 : decode cX6_run 17 = .ok (.aload_n 0, 1) := by decide +kernel
theorem dX6_run_18 : decode cX6_run 18 = .ok (.iconst 0, 1) := by decide +kernel
theorem dX6_run_19 : decode cX6_run 19 = .ok (.putfield 161, 3) := by decide +kernel
theorem dX6_run_22 : decode cX6_run 22 = .ok (.aload_n 0, 1) := by decide +kernel
theorem dX6_run_23 : decode cX6_run 23 = .ok (.iconst 0, 1) := by decide +kernel
theorem dX6_run_24 : decode cX6_run 24 = .ok (.putfield 190, 3) := by decide +kernel
theorem dX6_run_27 : decode cX6_run 27 = .ok (.aload_n 0, 1) := by decide +kernel
theorem dX6_run_28 : decode cX6_run 28 = .ok (.iconst 0, 1) := by decide +kernel
theorem dX6_run_29 : decode cX6_run 29 = .ok (.putfield 175, 3) := by decide +kernel
theorem dX6_run_32 : decode cX6_run 32 = .ok (.aload_n 0, 1) := by decide +kernel
theorem dX6_run_33 : decode cX6_run 33 = .ok (.invokevirtual 216, 3) := by decide +kernel
theorem dX6_run_36 : decode cX6_run 36 = .ok (.aload_n 0, 1) := by decide +kernel
theorem dX6_run_37 : decode cX6_run 37 = .ok (.getfield 175, 3) := by decide +kernel
theorem dX6_run_40 : decode cX6_run 40 = .ok (.ifCond .ne 30, 3) := by decide +kernel
theorem dX6_run_43 : decode cX6_run 43 = .ok (.aload_n 0, 1) := by decide +kernel
theorem dX6_run_44 : decode cX6_run 44 = .ok (.iconst 0, 1) := by decide +kernel
theorem dX6_run_45 : decode cX6_run 45 = .ok (.invokevirtual 179, 3) := by decide +kernel
theorem dX6_run_48 : decode cX6_run 48 = .ok (.bipush 59, 2) := by decide +kernel
theorem dX6_run_50 : decode cX6_run 50 = .ok (.if_icmp .ne 20, 3) := by decide +kernel
theorem dX6_run_53 : decode cX6_run 53 = .ok (.aload_n 0, 1) := by decide +kernel
theorem dX6_run_54 : decode cX6_run 54 = .ok (.dup, 1) := by decide +kernel
theorem dX6_run_55 : decode cX6_run 55 = .ok (.getfield 164, 3) := by decide +kernel
theorem dX6_run_58 : decode cX6_run 58 = .ok (.iconst 1, 1) := by decide +kernel
theorem dX6_run_59 : decode cX6_run 59 = .ok (.iadd, 1) := by decide +kernel
theorem dX6_run_60 : decode cX6_run 60 = .ok (.putfield 164, 3) := by decide +kernel
theorem dX6_run_63 : decode cX6_run 63 = .ok (.aload_n 0, 1) := by decide +kernel
theorem dX6_run_64 : decode cX6_run 64 = .ok (.invokevirtual 216, 3) := by decide +kernel
theorem dX6_run_67 : decode cX6_run 67 = .ok (.goto (-31), 3) := by decide +kernel
theorem dX6_run_70 : decode cX6_run 70 = .ok (.aload_n 0, 1) := by decide +kernel
theorem dX6_run_71 : decode cX6_run 71 = .ok (.getfield 175, 3) := by decide +kernel
theorem dX6_run_74 : decode cX6_run 74 = .ok (.ifCond .ne 14, 3) := by decide +kernel
theorem dX6_run_77 : decode cX6_run 77 = .ok (.aload_n 0, 1) := by decide +kernel
theorem dX6_run_78 : decode cX6_run 78 = .ok (.getfield 164, 3) := by decide +kernel
theorem dX6_run_81 : decode cX6_run 81 = .ok (.aload_n 0, 1) := by decide +kernel
theorem dX6_run_82 : decode cX6_run 82 = .ok (.getfield 167, 3) := by decide +kernel
theorem dX6_run_85 : decode cX6_run 85 = .ok (.if_icmp .ge 17, 3) := by decide +kernel
theorem dX6_run_88 : decode cX6_run 88 = .ok (.aload_n 0, 1) := by decide +kernel
theorem dX6_run_89 : decode cX6_run 89 = .ok (.aload_n 0, 1) := by decide +kernel
theorem dX6_run_90 : decode cX6_run 90 = .ok (.getfield 164, 3) := by decide +kernel
theorem dX6_run_93 : decode cX6_run 93 = .ok (.putfield 34, 3) := by decide +kernel
theorem dX6_run_96 : decode cX6_run 96 = .ok (.aload_n 0, 1) := by decide +kernel
theorem dX6_run_97 : decode cX6_run 97 = .ok (.iconst 1, 1) := by decide +kernel
theorem dX6_run_98 : decode cX6_run 98 = .ok (.invokevirtual 54, 3) := by decide +kernel
theorem dX6_run_101 : decode cX6_run 101 = .ok (.ireturn, 1) := by decide +kernel
theorem dX6_run_102 : decode cX6_run 102 = .ok (.iconst 0, 1) := by decide +kernel
theorem dX6_run_103 : decode cX6_run 103 = .ok (.istore_n 1, 1) := by decide +kernel
theorem dX6_run_104 : decode cX6_run 104 = .ok (.iload_n 1, 1) := by decide +kernel
theorem dX6_run_105 : decode cX6_run 105 = .ok (.aload_n 0, 1) := by decide +kernel
theorem dX6_run_106 : decode cX6_run 106 = .ok (.getfield 190, 3) := by decide +kernel
theorem dX6_run_109 : decode cX6_run 109 = .ok (.if_icmp .ge 57, 3) := by decide +kernel
theorem dX6_run_112 : decode cX6_run 112 = .ok (.aload_n 0, 1) := by decide +kernel
theorem dX6_run_113 : decode cX6_run 113 = .ok (.iload_n 1, 1) := by decide +kernel
theorem dX6_run_114 : decode cX6_run 114 = .ok (.invokevirtual 219, 3) := by decide +kernel
theorem dX6_run_117 : decode cX6_run 117 = .ok (.ifCond .ne 6, 3) := by decide +kernel
theorem dX6_run_120 : decode cX6_run 120 = .ok (.goto 40, 3) := by decide +kernel
theorem dX6_run_123 : decode cX6_run 123 = .ok (.iconst 0, 1) := by decide +kernel
theorem dX6_run_124 : decode cX6_run 124 = .ok (.istore_n 2, 1) := by decide +kernel
theorem dX6_run_125 : decode cX6_run 125 = .ok (.iload_n 2, 1) := by decide +kernel
theorem dX6_run_126 : decode cX6_run 126 = .ok (.bipush 74, 2) := by decide +kernel
theorem dX6_run_128 : decode cX6_run 128 = .ok (.if_icmp .ge 21, 3) := by decide +kernel
theorem dX6_run_131 : decode cX6_run 131 = .ok (.aload_n 0, 1) := by decide +kernel
theorem dX6_run_132 : decode cX6_run 132 = .ok (.getfield 7, 3) := by decide +kernel
theorem dX6_run_135 : decode cX6_run 135 = .ok (.iload_n 2, 1) := by decide +kernel
theorem dX6_run_136 : decode cX6_run 136 = .ok (.aload_n 0, 1) := by decide +kernel
theorem dX6_run_137 : decode cX6_run 137 = .ok (.getfield 13, 3) := by decide +kernel
theorem dX6_run_140 : decode cX6_run 140 = .ok (.iload_n 2, 1) := by decide +kernel
theorem dX6_run_141 : decode cX6_run 141 = .ok (.iaload, 1) := by decide +kernel
theorem dX6_run_142 : decode cX6_run 142 = .ok (.iastore, 1) := by decide +kernel
theorem dX6_run_143 : decode cX6_run 143 = .ok (.iinc 2 1, 3) := by decide +kernel
theorem dX6_run_146 : decode cX6_run 146 = .ok (.goto (-21), 3) := by decide +kernel
theorem dX6_run_149 : decode cX6_run 149 = .ok (.aload_n 0, 1) := by decide +kernel
theorem dX6_run_150 : decode cX6_run 150 = .ok (.iload_n 1, 1) := by decide +kernel
theorem dX6_run_151 : decode cX6_run 151 = .ok (.putfield 38, 3) := by decide +kernel
theorem dX6_run_154 : decode cX6_run 154 = .ok (.aload_n 0, 1) := by decide +kernel
theorem dX6_run_155 : decode cX6_run 155 = .ok (.iconst 2, 1) := by decide +kernel
theorem dX6_run_156 : decode cX6_run 156 = .ok (.invokevirtual 54, 3) := by decide +kernel
theorem dX6_run_159 : decode cX6_run 159 = .ok (.ireturn, 1) := by decide +kernel
theorem dX6_run_160 : decode cX6_run 160 = .ok (.iinc 1 1, 3) := by decide +kernel
theorem dX6_run_163 : decode cX6_run 163 = .ok (.goto (-59), 3) := by decide +kernel
theorem dX6_run_166 : decode cX6_run 166 = .ok (.aload_n 0, 1) := by decide +kernel
theorem dX6_run_167 : decode cX6_run 167 = .ok (.aload_n 0, 1) := by decide +kernel
theorem dX6_run_168 : decode cX6_run 168 = .ok (.getfield 190, 3) := by decide +kernel
theorem dX6_run_171 : decode cX6_run 171 = .ok (.invokevirtual 50, 3) := by decide +kernel
theorem dX6_run_174 : decode cX6_run 174 = .ok (.ireturn, 1) := by decide +kernel
theorem dX6_errorPosition_0 : decode cX6_errorPosition 0 = .ok (.aload_n 0, 1) := by decide +kernel
theorem dX6_errorPosition_1 : decode cX6_errorPosition 1 = .ok (.iconst 0, 1) := by decide +kernel
theorem dX6_errorPosition_2 : decode cX6_errorPosition 2 = .ok (.putfield 41, 3) := by decide +kernel
theorem dX6_errorPosition_5 : decode cX6_errorPosition 5 = .ok (.aload_n 0, 1) := by decide +kernel
theorem dX6_errorPosition_6 : decode cX6_errorPosition 6 = .ok (.getfield 34, 3) := by decide +kernel
theorem dX6_errorPosition_9 : decode cX6_errorPosition 9 = .ok (.iconst (-1), 1) := by decide +kernel
theorem dX6_errorPosition_10 : decode cX6_errorPosition 10 = .ok (.if_icmp .ne 11, 3) := by decide +kernel
theorem dX6_errorPosition_13 : decode cX6_errorPosition 13 = .ok (.aload_n 0, 1) := by decide +kernel
theorem dX6_errorPosition_14 : decode cX6_errorPosition 14 = .ok (.iconst 1, 1) := by decide +kernel
theorem dX6_errorPosition_15 : decode cX6_errorPosition 15 = .ok (.invokevirtual 54, 3) := by decide +kernel
theorem dX6_errorPosition_18 : decode cX6_errorPosition 18 = .ok (.goto 7, 3) := by decide +kernel
theorem dX6_errorPosition_21 : decode cX6_errorPosition 21 = .ok (.aload_n 0, 1) := by decide +kernel
theorem dX6_errorPosition_22 : decode cX6_errorPosition 22 = .ok (.getfield 34, 3) := by decide +kernel
theorem dX6_errorPosition_25 : decode cX6_errorPosition 25 = .ok (.ireturn, 1) := by decide +kernel
theorem dX6_failedCommand_0 : decode cX6_failedCommand 0 = .ok (.aload_n 0, 1) := by decide +kernel
theorem dX6_failedCommand_1 : decode cX6_failedCommand 1 = .ok (.iconst 0, 1) := by decide +kernel
theorem dX6_failedCommand_2 : decode cX6_failedCommand 2 = .ok (.putfield 41, 3) := by decide +kernel
theorem dX6_failedCommand_5 : decode cX6_failedCommand 5 = .ok (.aload_n 0, 1) := by decide +kernel
theorem dX6_failedCommand_6 : decode cX6_failedCommand 6 = .ok (.getfield 38, 3) := by decide +kernel
theorem dX6_failedCommand_9 : decode cX6_failedCommand 9 = .ok (.iconst (-1), 1) := by decide +kernel
theorem dX6_failedCommand_10 : decode cX6_failedCommand 10 = .ok (.if_icmp .ne 11, 3) := by decide +kernel
theorem dX6_failedCommand_13 : decode cX6_failedCommand 13 = .ok (.aload_n 0, 1) := by decide +kernel
theorem dX6_failedCommand_14 : decode cX6_failedCommand 14 = .ok (.iconst 1, 1) := by decide +kernel
theorem dX6_failedCommand_15 : decode cX6_failedCommand 15 = .ok (.invokevirtual 54, 3) := by decide +kernel
theorem dX6_failedCommand_18 : decode cX6_failedCommand 18 = .ok (.goto 7, 3) := by decide +kernel
theorem dX6_failedCommand_21 : decode cX6_failedCommand 21 = .ok (.aload_n 0, 1) := by decide +kernel
theorem dX6_failedCommand_22 : decode cX6_failedCommand 22 = .ok (.getfield 38, 3) := by decide +kernel
theorem dX6_failedCommand_25 : decode cX6_failedCommand 25 = .ok (.ireturn, 1) := by decide +kernel
theorem dX6_writes_0 : decode cX6_writes 0 = .ok (.aload_n 0, 1) := by decide +kernel
theorem dX6_writes_1 : decode cX6_writes 1 = .ok (.getfield 31, 3) := by decide +kernel
theorem dX6_writes_4 : decode cX6_writes 4 = .ok (.aload_n 0, 1) := by decide +kernel
theorem dX6_writes_5 : decode cX6_writes 5 = .ok (.getfield 222, 3) := by decide +kernel
theorem dX6_writes_8 : decode cX6_writes 8 = .ok (.iload_n 1, 1) := by decide +kernel
theorem dX6_writes_9 : decode cX6_writes 9 = .ok (.iastore, 1) := by decide +kernel
theorem dX6_writes_10 : decode cX6_writes 10 = .ok (.aload_n 0, 1) := by decide +kernel
theorem dX6_writes_11 : decode cX6_writes 11 = .ok (.dup, 1) := by decide +kernel
theorem dX6_writes_12 : decode cX6_writes 12 = .ok (.getfield 222, 3) := by decide +kernel
theorem dX6_writes_15 : decode cX6_writes 15 = .ok (.iconst 1, 1) := by decide +kernel
theorem dX6_writes_16 : decode cX6_writes 16 = .ok (.iadd, 1) := by decide +kernel
theorem dX6_writes_17 : decode cX6_writes 17 = .ok (.putfield 222, 3) := by decide +kernel
theorem dX6_writes_20 : decode cX6_writes 20 = .ok (.return_, 1) := by decide +kernel
theorem dX6_writesNumber_0 : decode cX6_writesNumber 0 = .ok (.iload_n 1, 1) := by decide +kernel
theorem dX6_writesNumber_1 : decode cX6_writesNumber 1 = .ok (.ldc 225, 2) := by decide +kernel
theorem dX6_writesNumber_3 : decode cX6_writesNumber 3 = .ok (.if_icmp .le 17, 3) := by decide +kernel
theorem dX6_writesNumber_6 : decode cX6_writesNumber 6 = .ok (.aload_n 0, 1) := by decide +kernel
theorem dX6_writesNumber_7 : decode cX6_writesNumber 7 = .ok (.bipush 48, 2) := by decide +kernel
theorem dX6_writesNumber_9 : decode cX6_writesNumber 9 = .ok (.iload_n 1, 1) := by decide +kernel
theorem dX6_writesNumber_10 : decode cX6_writesNumber 10 = .ok (.ldc 226, 2) := by decide +kernel
theorem dX6_writesNumber_12 : decode cX6_writesNumber 12 = .ok (.idiv, 1) := by decide +kernel
theorem dX6_writesNumber_13 : decode cX6_writesNumber 13 = .ok (.bipush 10, 2) := by decide +kernel
theorem dX6_writesNumber_15 : decode cX6_writesNumber 15 = .ok (.irem, 1) := by decide +kernel
theorem dX6_writesNumber_16 : decode cX6_writesNumber 16 = .ok (.iadd, 1) := by decide +kernel
theorem dX6_writesNumber_17 : decode cX6_writesNumber 17 = .ok (.invokevirtual 227, 3) := by decide +kernel
theorem dX6_writesNumber_20 : decode cX6_writesNumber 20 = .ok (.iload_n 1, 1) := by decide +kernel
theorem dX6_writesNumber_21 : decode cX6_writesNumber 21 = .ok (.sipush 9999, 3) := by decide +kernel
theorem dX6_writesNumber_24 : decode cX6_writesNumber 24 = .ok (.if_icmp .le 18, 3) := by decide +kernel
theorem dX6_writesNumber_27 : decode cX6_writesNumber 27 = .ok (.aload_n 0, 1) := by decide +kernel
theorem dX6_writesNumber_28 : decode cX6_writesNumber 28 = .ok (.bipush 48, 2) := by decide +kernel
theorem dX6_writesNumber_30 : decode cX6_writesNumber 30 = .ok (.iload_n 1, 1) := by decide +kernel
theorem dX6_writesNumber_31 : decode cX6_writesNumber 31 = .ok (.sipush 10000, 3) := by decide +kernel
theorem dX6_writesNumber_34 : decode cX6_writesNumber 34 = .ok (.idiv, 1) := by decide +kernel
theorem dX6_writesNumber_35 : decode cX6_writesNumber 35 = .ok (.bipush 10, 2) := by decide +kernel
theorem dX6_writesNumber_37 : decode cX6_writesNumber 37 = .ok (.irem, 1) := by decide +kernel
theorem dX6_writesNumber_38 : decode cX6_writesNumber 38 = .ok (.iadd, 1) := by decide +kernel
theorem dX6_writesNumber_39 : decode cX6_writesNumber 39 = .ok (.invokevirtual 227, 3) := by decide +kernel
theorem dX6_writesNumber_42 : decode cX6_writesNumber 42 = .ok (.iload_n 1, 1) := by decide +kernel
theorem dX6_writesNumber_43 : decode cX6_writesNumber 43 = .ok (.sipush 999, 3) := by decide +kernel
theorem dX6_writesNumber_46 : decode cX6_writesNumber 46 = .ok (.if_icmp .le 18, 3) := by decide +kernel
theorem dX6_writesNumber_49 : decode cX6_writesNumber 49 = .ok (.aload_n 0, 1) := by decide +kernel
theorem dX6_writesNumber_50 : decode cX6_writesNumber 50 = .ok (.bipush 48, 2) := by decide +kernel
theorem dX6_writesNumber_52 : decode cX6_writesNumber 52 = .ok (.iload_n 1, 1) := by decide +kernel
theorem dX6_writesNumber_53 : decode cX6_writesNumber 53 = .ok (.sipush 1000, 3) := by decide +kernel
theorem dX6_writesNumber_56 : decode cX6_writesNumber 56 = .ok (.idiv, 1) := by decide +kernel
theorem dX6_writesNumber_57 : decode cX6_writesNumber 57 = .ok (.bipush 10, 2) := by decide +kernel
theorem dX6_writesNumber_59 : decode cX6_writesNumber 59 = .ok (.irem, 1) := by decide +kernel
theorem dX6_writesNumber_60 : decode cX6_writesNumber 60 = .ok (.iadd, 1) := by decide +kernel
theorem dX6_writesNumber_61 : decode cX6_writesNumber 61 = .ok (.invokevirtual 227, 3) := by decide +kernel
theorem dX6_writesNumber_64 : decode cX6_writesNumber 64 = .ok (.iload_n 1, 1) := by decide +kernel
theorem dX6_writesNumber_65 : decode cX6_writesNumber 65 = .ok (.bipush 99, 2) := by decide +kernel
theorem dX6_writesNumber_67 : decode cX6_writesNumber 67 = .ok (.if_icmp .le 17, 3) := by decide +kernel
theorem dX6_writesNumber_70 : decode cX6_writesNumber 70 = .ok (.aload_n 0, 1) := by decide +kernel
theorem dX6_writesNumber_71 : decode cX6_writesNumber 71 = .ok (.bipush 48, 2) := by decide +kernel
theorem dX6_writesNumber_73 : decode cX6_writesNumber 73 = .ok (.iload_n 1, 1) := by decide +kernel
theorem dX6_writesNumber_74 : decode cX6_writesNumber 74 = .ok (.bipush 100, 2) := by decide +kernel
theorem dX6_writesNumber_76 : decode cX6_writesNumber 76 = .ok (.idiv, 1) := by decide +kernel
theorem dX6_writesNumber_77 : decode cX6_writesNumber 77 = .ok (.bipush 10, 2) := by decide +kernel
theorem dX6_writesNumber_79 : decode cX6_writesNumber 79 = .ok (.irem, 1) := by decide +kernel
theorem dX6_writesNumber_80 : decode cX6_writesNumber 80 = .ok (.iadd, 1) := by decide +kernel
theorem dX6_writesNumber_81 : decode cX6_writesNumber 81 = .ok (.invokevirtual 227, 3) := by decide +kernel
theorem dX6_writesNumber_84 : decode cX6_writesNumber 84 = .ok (.iload_n 1, 1) := by decide +kernel
theorem dX6_writesNumber_85 : decode cX6_writesNumber 85 = .ok (.bipush 9, 2) := by decide +kernel
theorem dX6_writesNumber_87 : decode cX6_writesNumber 87 = .ok (.if_icmp .le 17, 3) := by decide +kernel
theorem dX6_writesNumber_90 : decode cX6_writesNumber 90 = .ok (.aload_n 0, 1) := by decide +kernel
theorem dX6_writesNumber_91 : decode cX6_writesNumber 91 = .ok (.bipush 48, 2) := by decide +kernel
theorem dX6_writesNumber_93 : decode cX6_writesNumber 93 = .ok (.iload_n 1, 1) := by decide +kernel
theorem dX6_writesNumber_94 : decode cX6_writesNumber 94 = .ok (.bipush 10, 2) := by decide +kernel
theorem dX6_writesNumber_96 : decode cX6_writesNumber 96 = .ok (.idiv, 1) := by decide +kernel
theorem dX6_writesNumber_97 : decode cX6_writesNumber 97 = .ok (.bipush 10, 2) := by decide +kernel
theorem dX6_writesNumber_99 : decode cX6_writesNumber 99 = .ok (.irem, 1) := by decide +kernel
theorem dX6_writesNumber_100 : decode cX6_writesNumber 100 = .ok (.iadd, 1) := by decide +kernel
theorem dX6_writesNumber_101 : decode cX6_writesNumber 101 = .ok (.invokevirtual 227, 3) := by decide +kernel
theorem dX6_writesNumber_104 : decode cX6_writesNumber 104 = .ok (.aload_n 0, 1) := by decide +kernel
theorem dX6_writesNumber_105 : decode cX6_writesNumber 105 = .ok (.bipush 48, 2) := by decide +kernel
theorem dX6_writesNumber_107 : decode cX6_writesNumber 107 = .ok (.iload_n 1, 1) := by decide +kernel
theorem dX6_writesNumber_108 : decode cX6_writesNumber 108 = .ok (.bipush 10, 2) := by decide +kernel
theorem dX6_writesNumber_110 : decode cX6_writesNumber 110 = .ok (.irem, 1) := by decide +kernel
theorem dX6_writesNumber_111 : decode cX6_writesNumber 111 = .ok (.iadd, 1) := by decide +kernel
theorem dX6_writesNumber_112 : decode cX6_writesNumber 112 = .ok (.invokevirtual 227, 3) := by decide +kernel
theorem dX6_writesNumber_115 : decode cX6_writesNumber 115 = .ok (.return_, 1) := by decide +kernel
theorem dX6_writeMember_0 : decode cX6_writeMember 0 = .ok (.aload_n 0, 1) := by decide +kernel
theorem dX6_writeMember_1 : decode cX6_writeMember 1 = .ok (.iload_n 1, 1) := by decide +kernel
theorem dX6_writeMember_2 : decode cX6_writeMember 2 = .ok (.invokevirtual 133, 3) := by decide +kernel
theorem dX6_writeMember_5 : decode cX6_writeMember 5 = .ok (.ifCond .ne 5, 3) := by decide +kernel
theorem dX6_writeMember_8 : decode cX6_writeMember 8 = .ok (.iconst 0, 1) := by decide +kernel
theorem dX6_writeMember_9 : decode cX6_writeMember 9 = .ok (.ireturn, 1) := by decide +kernel
theorem dX6_writeMember_10 : decode cX6_writeMember 10 = .ok (.aload_n 0, 1) := by decide +kernel
theorem dX6_writeMember_11 : decode cX6_writeMember 11 = .ok (.iconst 0, 1) := by decide +kernel
theorem dX6_writeMember_12 : decode cX6_writeMember 12 = .ok (.putfield 222, 3) := by decide +kernel
theorem dX6_writeMember_15 : decode cX6_writeMember 15 = .ok (.aload_n 0, 1) := by decide +kernel
theorem dX6_writeMember_16 : decode cX6_writeMember 16 = .ok (.aload_n 0, 1) := by decide +kernel
theorem dX6_writeMember_17 : decode cX6_writeMember 17 = .ok (.iload_n 1, 1) := by decide +kernel
theorem dX6_writeMember_18 : decode cX6_writeMember 18 = .ok (.iconst 0, 1) := by decide +kernel
theorem dX6_writeMember_19 : decode cX6_writeMember 19 = .ok (.invokevirtual 65, 3) := by decide +kernel
theorem dX6_writeMember_22 : decode cX6_writeMember 22 = .ok (.invokevirtual 231, 3) := by decide +kernel
theorem dX6_writeMember_25 : decode cX6_writeMember 25 = .ok (.aload_n 0, 1) := by decide +kernel
theorem dX6_writeMember_26 : decode cX6_writeMember 26 = .ok (.bipush 37, 2) := by decide +kernel
theorem dX6_writeMember_28 : decode cX6_writeMember 28 = .ok (.invokevirtual 227, 3) := by decide +kernel
theorem dX6_writeMember_31 : decode cX6_writeMember 31 = .ok (.aload_n 0, 1) := by decide +kernel
theorem dX6_writeMember_32 : decode cX6_writeMember 32 = .ok (.aload_n 0, 1) := by decide +kernel
theorem dX6_writeMember_33 : decode cX6_writeMember 33 = .ok (.iload_n 1, 1) := by decide +kernel
theorem dX6_writeMember_34 : decode cX6_writeMember 34 = .ok (.iconst 1, 1) := by decide +kernel
theorem dX6_writeMember_35 : decode cX6_writeMember 35 = .ok (.invokevirtual 65, 3) := by decide +kernel
theorem dX6_writeMember_38 : decode cX6_writeMember 38 = .ok (.invokevirtual 231, 3) := by decide +kernel
theorem dX6_writeMember_41 : decode cX6_writeMember 41 = .ok (.aload_n 0, 1) := by decide +kernel
theorem dX6_writeMember_42 : decode cX6_writeMember 42 = .ok (.bipush 43, 2) := by decide +kernel
theorem dX6_writeMember_44 : decode cX6_writeMember 44 = .ok (.invokevirtual 227, 3) := by decide +kernel
theorem dX6_writeMember_47 : decode cX6_writeMember 47 = .ok (.aload_n 0, 1) := by decide +kernel
theorem dX6_writeMember_48 : decode cX6_writeMember 48 = .ok (.aload_n 0, 1) := by decide +kernel
theorem dX6_writeMember_49 : decode cX6_writeMember 49 = .ok (.iload_n 1, 1) := by decide +kernel
theorem dX6_writeMember_50 : decode cX6_writeMember 50 = .ok (.iconst 2, 1) := by decide +kernel
theorem dX6_writeMember_51 : decode cX6_writeMember 51 = .ok (.invokevirtual 65, 3) := by decide +kernel
theorem dX6_writeMember_54 : decode cX6_writeMember 54 = .ok (.invokevirtual 231, 3) := by decide +kernel
theorem dX6_writeMember_57 : decode cX6_writeMember 57 = .ok (.aload_n 0, 1) := by decide +kernel
theorem dX6_writeMember_58 : decode cX6_writeMember 58 = .ok (.bipush 94, 2) := by decide +kernel
theorem dX6_writeMember_60 : decode cX6_writeMember 60 = .ok (.invokevirtual 227, 3) := by decide +kernel
theorem dX6_writeMember_63 : decode cX6_writeMember 63 = .ok (.aload_n 0, 1) := by decide +kernel
theorem dX6_writeMember_64 : decode cX6_writeMember 64 = .ok (.aload_n 0, 1) := by decide +kernel
theorem dX6_writeMember_65 : decode cX6_writeMember 65 = .ok (.iload_n 1, 1) := by decide +kernel
theorem dX6_writeMember_66 : decode cX6_writeMember 66 = .ok (.iconst 3, 1) := by decide +kernel
theorem dX6_writeMember_67 : decode cX6_writeMember 67 = .ok (.invokevirtual 65, 3) := by decide +kernel
theorem dX6_writeMember_70 : decode cX6_writeMember 70 = .ok (.invokevirtual 231, 3) := by decide +kernel
theorem dX6_writeMember_73 : decode cX6_writeMember 73 = .ok (.aload_n 0, 1) := by decide +kernel
theorem dX6_writeMember_74 : decode cX6_writeMember 74 = .ok (.bipush 126, 2) := by decide +kernel
theorem dX6_writeMember_76 : decode cX6_writeMember 76 = .ok (.invokevirtual 227, 3) := by decide +kernel
theorem dX6_writeMember_79 : decode cX6_writeMember 79 = .ok (.aload_n 0, 1) := by decide +kernel
theorem dX6_writeMember_80 : decode cX6_writeMember 80 = .ok (.aload_n 0, 1) := by decide +kernel
theorem dX6_writeMember_81 : decode cX6_writeMember 81 = .ok (.iload_n 1, 1) := by decide +kernel
theorem dX6_writeMember_82 : decode cX6_writeMember 82 = .ok (.iconst 4, 1) := by decide +kernel
theorem dX6_writeMember_83 : decode cX6_writeMember 83 = .ok (.invokevirtual 65, 3) := by decide +kernel
theorem dX6_writeMember_86 : decode cX6_writeMember 86 = .ok (.invokevirtual 231, 3) := by decide +kernel
theorem dX6_writeMember_89 : decode cX6_writeMember 89 = .ok (.aload_n 0, 1) := by decide +kernel
theorem dX6_writeMember_90 : decode cX6_writeMember 90 = .ok (.bipush 36, 2) := by decide +kernel
theorem dX6_writeMember_92 : decode cX6_writeMember 92 = .ok (.invokevirtual 227, 3) := by decide +kernel
theorem dX6_writeMember_95 : decode cX6_writeMember 95 = .ok (.aload_n 0, 1) := by decide +kernel
theorem dX6_writeMember_96 : decode cX6_writeMember 96 = .ok (.aload_n 0, 1) := by decide +kernel
theorem dX6_writeMember_97 : decode cX6_writeMember 97 = .ok (.iload_n 1, 1) := by decide +kernel
theorem dX6_writeMember_98 : decode cX6_writeMember 98 = .ok (.iconst 5, 1) := by decide +kernel
theorem dX6_writeMember_99 : decode cX6_writeMember 99 = .ok (.invokevirtual 65, 3) := by decide +kernel
theorem dX6_writeMember_102 : decode cX6_writeMember 102 = .ok (.invokevirtual 231, 3) := by decide +kernel
theorem dX6_writeMember_105 : decode cX6_writeMember 105 = .ok (.aload_n 0, 1) := by decide +kernel
theorem dX6_writeMember_106 : decode cX6_writeMember 106 = .ok (.getfield 222, 3) := by decide +kernel
theorem dX6_writeMember_109 : decode cX6_writeMember 109 = .ok (.ireturn, 1) := by decide +kernel
theorem dX6_outputAt_0 : decode cX6_outputAt 0 = .ok (.aload_n 0, 1) := by decide +kernel
theorem dX6_outputAt_1 : decode cX6_outputAt 1 = .ok (.iload_n 1, 1) := by decide +kernel
theorem dX6_outputAt_2 : decode cX6_outputAt 2 = .ok (.iconst 0, 1) := by decide +kernel
theorem dX6_outputAt_3 : decode cX6_outputAt 3 = .ok (.aload_n 0, 1) := by decide +kernel
theorem dX6_outputAt_4 : decode cX6_outputAt 4 = .ok (.getfield 222, 3) := by decide +kernel
theorem dX6_outputAt_7 : decode cX6_outputAt 7 = .ok (.iconst 1, 1) := by decide +kernel
theorem dX6_outputAt_8 : decode cX6_outputAt 8 = .ok (.isub, 1) := by decide +kernel
theorem dX6_outputAt_9 : decode cX6_outputAt 9 = .ok (.invokestatic 57, 3) := by decide +kernel
theorem dX6_outputAt_12 : decode cX6_outputAt 12 = .ok (.ifCond .eq 7, 3) := by decide +kernel
theorem dX6_outputAt_15 : decode cX6_outputAt 15 = .ok (.iconst 0, 1) := by decide +kernel
theorem dX6_outputAt_16 : decode cX6_outputAt 16 = .ok (.goto 4, 3) := by decide +kernel
theorem dX6_outputAt_19 : decode cX6_outputAt 19 = .ok (.iconst 1, 1) := by decide +kernel
theorem dX6_outputAt_20 : decode cX6_outputAt 20 = .ok (.putfield 41, 3) := by decide +kernel
theorem dX6_outputAt_23 : decode cX6_outputAt 23 = .ok (.aload_n 0, 1) := by decide +kernel
theorem dX6_outputAt_24 : decode cX6_outputAt 24 = .ok (.getfield 41, 3) := by decide +kernel
theorem dX6_outputAt_27 : decode cX6_outputAt 27 = .ok (.ifCond .le 7, 3) := by decide +kernel
theorem dX6_outputAt_30 : decode cX6_outputAt 30 = .ok (.iconst 0, 1) := by decide +kernel
theorem dX6_outputAt_31 : decode cX6_outputAt 31 = .ok (.goto 10, 3) := by decide +kernel
theorem dX6_outputAt_34 : decode cX6_outputAt 34 = .ok (.aload_n 0, 1) := by decide +kernel
theorem dX6_outputAt_35 : decode cX6_outputAt 35 = .ok (.getfield 31, 3) := by decide +kernel
theorem dX6_outputAt_38 : decode cX6_outputAt 38 = .ok (.iload_n 1, 1) := by decide +kernel
theorem dX6_outputAt_39 : decode cX6_outputAt 39 = .ok (.iaload, 1) := by decide +kernel
theorem dX6_outputAt_40 : decode cX6_outputAt 40 = .ok (.i2c, 1) := by decide +kernel
theorem dX6_outputAt_41 : decode cX6_outputAt 41 = .ok (.ireturn, 1) := by decide +kernel
theorem dX6_undo_0 : decode cX6_undo 0 = .ok (.aload_n 0, 1) := by decide +kernel
theorem dX6_undo_1 : decode cX6_undo 1 = .ok (.iconst 0, 1) := by decide +kernel
theorem dX6_undo_2 : decode cX6_undo 2 = .ok (.putfield 41, 3) := by decide +kernel
theorem dX6_undo_5 : decode cX6_undo 5 = .ok (.aload_n 0, 1) := by decide +kernel
theorem dX6_undo_6 : decode cX6_undo 6 = .ok (.getfield 44, 3) := by decide +kernel
theorem dX6_undo_9 : decode cX6_undo 9 = .ok (.ifCond .ne 9, 3) := by decide +kernel
theorem dX6_undo_12 : decode cX6_undo 12 = .ok (.aload_n 0, 1) := by decide +kernel
theorem dX6_undo_13 : decode cX6_undo 13 = .ok (.iconst 1, 1) := by decide +kernel
theorem dX6_undo_14 : decode cX6_undo 14 = .ok (.invokevirtual 54, 3) := by decide +kernel
theorem dX6_undo_17 : decode cX6_undo 17 = .ok (.ireturn, 1) := by decide +kernel
theorem dX6_undo_18 : decode cX6_undo 18 = .ok (.aload_n 0, 1) := by decide +kernel
theorem dX6_undo_19 : decode cX6_undo 19 = .ok (.dup, 1) := by decide +kernel
theorem dX6_undo_20 : decode cX6_undo 20 = .ok (.getfield 44, 3) := by decide +kernel
theorem dX6_undo_23 : decode cX6_undo 23 = .ok (.iconst 1, 1) := by decide +kernel
theorem dX6_undo_24 : decode cX6_undo 24 = .ok (.isub, 1) := by decide +kernel
theorem dX6_undo_25 : decode cX6_undo 25 = .ok (.putfield 44, 3) := by decide +kernel
theorem dX6_undo_28 : decode cX6_undo 28 = .ok (.iconst 0, 1) := by decide +kernel
theorem dX6_undo_29 : decode cX6_undo 29 = .ok (.istore_n 1, 1) := by decide +kernel
theorem dX6_undo_30 : decode cX6_undo 30 = .ok (.iload_n 1, 1) := by decide +kernel
theorem dX6_undo_31 : decode cX6_undo 31 = .ok (.bipush 74, 2) := by decide +kernel
theorem dX6_undo_33 : decode cX6_undo 33 = .ok (.if_icmp .ge 29, 3) := by decide +kernel
theorem dX6_undo_36 : decode cX6_undo 36 = .ok (.aload_n 0, 1) := by decide +kernel
theorem dX6_undo_37 : decode cX6_undo 37 = .ok (.getfield 7, 3) := by decide +kernel
theorem dX6_undo_40 : decode cX6_undo 40 = .ok (.iload_n 1, 1) := by decide +kernel
theorem dX6_undo_41 : decode cX6_undo 41 = .ok (.aload_n 0, 1) := by decide +kernel
theorem dX6_undo_42 : decode cX6_undo 42 = .ok (.getfield 19, 3) := by decide +kernel
theorem dX6_undo_45 : decode cX6_undo 45 = .ok (.bipush 74, 2) := by decide +kernel
theorem dX6_undo_47 : decode cX6_undo 47 = .ok (.aload_n 0, 1) := by decide +kernel
theorem dX6_undo_48 : decode cX6_undo 48 = .ok (.getfield 44, 3) := by decide +kernel
theorem dX6_undo_51 : decode cX6_undo 51 = .ok (.imul, 1) := by decide +kernel
theorem dX6_undo_52 : decode cX6_undo 52 = .ok (.iload_n 1, 1) := by decide +kernel
theorem dX6_undo_53 : decode cX6_undo 53 = .ok (.iadd, 1) := by decide +kernel
theorem dX6_undo_54 : decode cX6_undo 54 = .ok (.iaload, 1) := by decide +kernel
theorem dX6_undo_55 : decode cX6_undo 55 = .ok (.iastore, 1) := by decide +kernel
theorem dX6_undo_56 : decode cX6_undo 56 = .ok (.iinc 1 1, 3) := by decide +kernel
theorem dX6_undo_59 : decode cX6_undo 59 = .ok (.goto (-29), 3) := by decide +kernel
theorem dX6_undo_62 : decode cX6_undo 62 = .ok (.aload_n 0, 1) := by decide +kernel
theorem dX6_undo_63 : decode cX6_undo 63 = .ok (.getfield 44, 3) := by decide +kernel
theorem dX6_undo_66 : decode cX6_undo 66 = .ok (.ireturn, 1) := by decide +kernel
theorem dX6_save_0 : decode cX6_save 0 = .ok (.aload_n 0, 1) := by decide +kernel
theorem dX6_save_1 : decode cX6_save 1 = .ok (.iconst 0, 1) := by decide +kernel
theorem dX6_save_2 : decode cX6_save 2 = .ok (.putfield 41, 3) := by decide +kernel
theorem dX6_save_5 : decode cX6_save 5 = .ok (.iconst 0, 1) := by decide +kernel
theorem dX6_save_6 : decode cX6_save 6 = .ok (.istore_n 1, 1) := by decide +kernel
theorem dX6_save_7 : decode cX6_save 7 = .ok (.iload_n 1, 1) := by decide +kernel
theorem dX6_save_8 : decode cX6_save 8 = .ok (.bipush 74, 2) := by decide +kernel
theorem dX6_save_10 : decode cX6_save 10 = .ok (.if_icmp .ge 21, 3) := by decide +kernel
theorem dX6_save_13 : decode cX6_save 13 = .ok (.aload_n 0, 1) := by decide +kernel
theorem dX6_save_14 : decode cX6_save 14 = .ok (.getfield 16, 3) := by decide +kernel
theorem dX6_save_17 : decode cX6_save 17 = .ok (.iload_n 1, 1) := by decide +kernel
theorem dX6_save_18 : decode cX6_save 18 = .ok (.aload_n 0, 1) := by decide +kernel
theorem dX6_save_19 : decode cX6_save 19 = .ok (.getfield 7, 3) := by decide +kernel
theorem dX6_save_22 : decode cX6_save 22 = .ok (.iload_n 1, 1) := by decide +kernel
theorem dX6_save_23 : decode cX6_save 23 = .ok (.iaload, 1) := by decide +kernel
theorem dX6_save_24 : decode cX6_save 24 = .ok (.iastore, 1) := by decide +kernel
theorem dX6_save_25 : decode cX6_save 25 = .ok (.iinc 1 1, 3) := by decide +kernel
theorem dX6_save_28 : decode cX6_save 28 = .ok (.goto (-21), 3) := by decide +kernel
theorem dX6_save_31 : decode cX6_save 31 = .ok (.aload_n 0, 1) := by decide +kernel
theorem dX6_save_32 : decode cX6_save 32 = .ok (.iconst 1, 1) := by decide +kernel
theorem dX6_save_33 : decode cX6_save 33 = .ok (.putfield 234, 3) := by decide +kernel
theorem dX6_save_36 : decode cX6_save 36 = .ok (.return_, 1) := by decide +kernel
theorem dX6_restore_0 : decode cX6_restore 0 = .ok (.aload_n 0, 1) := by decide +kernel
theorem dX6_restore_1 : decode cX6_restore 1 = .ok (.aload_n 0, 1) := by decide +kernel
theorem dX6_restore_2 : decode cX6_restore 2 = .ok (.getfield 234, 3) := by decide +kernel
theorem dX6_restore_5 : decode cX6_restore 5 = .ok (.ifCond .eq 7, 3) := by decide +kernel
theorem dX6_restore_8 : decode cX6_restore 8 = .ok (.iconst 0, 1) := by decide +kernel
theorem dX6_restore_9 : decode cX6_restore 9 = .ok (.goto 4, 3) := by decide +kernel
theorem dX6_restore_12 : decode cX6_restore 12 = .ok (.iconst 1, 1) := by decide +kernel
theorem dX6_restore_13 : decode cX6_restore 13 = .ok (.putfield 41, 3) := by decide +kernel
theorem dX6_restore_16 : decode cX6_restore 16 = .ok (.aload_n 0, 1) := by decide +kernel
theorem dX6_restore_17 : decode cX6_restore 17 = .ok (.getfield 41, 3) := by decide +kernel
theorem dX6_restore_20 : decode cX6_restore 20 = .ok (.ifCond .le 4, 3) := by decide +kernel
theorem dX6_restore_23 : decode cX6_restore 23 = .ok (.return_, 1) := by decide +kernel
theorem dX6_restore_24 : decode cX6_restore 24 = .ok (.iconst 0, 1) := by decide +kernel
theorem dX6_restore_25 : decode cX6_restore 25 = .ok (.istore_n 1, 1) := by decide +kernel
theorem dX6_restore_26 : decode cX6_restore 26 = .ok (.iload_n 1, 1) := by decide +kernel
theorem dX6_restore_27 : decode cX6_restore 27 = .ok (.bipush 74, 2) := by decide +kernel
theorem dX6_restore_29 : decode cX6_restore 29 = .ok (.if_icmp .ge 21, 3) := by decide +kernel
theorem dX6_restore_32 : decode cX6_restore 32 = .ok (.aload_n 0, 1) := by decide +kernel
theorem dX6_restore_33 : decode cX6_restore 33 = .ok (.getfield 7, 3) := by decide +kernel
theorem dX6_restore_36 : decode cX6_restore 36 = .ok (.iload_n 1, 1) := by decide +kernel
theorem dX6_restore_37 : decode cX6_restore 37 = .ok (.aload_n 0, 1) := by decide +kernel
theorem dX6_restore_38 : decode cX6_restore 38 = .ok (.getfield 16, 3) := by decide +kernel
theorem dX6_restore_41 : decode cX6_restore 41 = .ok (.iload_n 1, 1) := by decide +kernel
theorem dX6_restore_42 : decode cX6_restore 42 = .ok (.iaload, 1) := by decide +kernel
theorem dX6_restore_43 : decode cX6_restore 43 = .ok (.iastore, 1) := by decide +kernel
theorem dX6_restore_44 : decode cX6_restore 44 = .ok (.iinc 1 1, 3) := by decide +kernel
theorem dX6_restore_47 : decode cX6_restore 47 = .ok (.goto (-21), 3) := by decide +kernel
theorem dX6_restore_50 : decode cX6_restore 50 = .ok (.aload_n 0, 1) := by decide +kernel
theorem dX6_restore_51 : decode cX6_restore 51 = .ok (.iconst 0, 1) := by decide +kernel
theorem dX6_restore_52 : decode cX6_restore 52 = .ok (.putfield 44, 3) := by decide +kernel
theorem dX6_restore_55 : decode cX6_restore 55 = .ok (.return_, 1) := by decide +kernel
