theorem dX8_init_0 : decode cX8_init 0 = .ok (.aload_n 0, 1) := by decide +kernel
theorem dX8_init_1 : decode cX8_init 1 = .ok (.invokespecial 1, 3) := by decide +kernel
theorem dX8_init_4 : decode cX8_init 4 = .ok (.aload_n 0, 1) := by decide +kernel
theorem dX8_init_5 : decode cX8_init 5 = .ok (.new 7, 3) := by decide +kernel
theorem dX8_init_8 : decode cX8_init 8 = .ok (.dup, 1) := by decide +kernel
theorem dX8_init_9 : decode cX8_init 9 = .ok (.invokespecial 9, 3) := by decide +kernel
theorem dX8_init_12 : decode cX8_init 12 = .ok (.putfield 10, 3) := by decide +kernel
theorem dX8_init_15 : decode cX8_init 15 = .ok (.aload_n 0, 1) := by decide +kernel
theorem dX8_init_16 : decode cX8_init 16 = .ok (.new 16, 3) := by decide +kernel
theorem dX8_init_19 : decode cX8_init 19 = .ok (.dup, 1) := by decide +kernel
theorem dX8_init_20 : decode cX8_init 20 = .ok (.invokespecial 18, 3) := by decide +kernel
theorem dX8_init_23 : decode cX8_init 23 = .ok (.putfield 19, 3) := by decide +kernel
theorem dX8_init_26 : decode cX8_init 26 = .ok (.aload_n 0, 1) := by decide +kernel
theorem dX8_init_27 : decode cX8_init 27 = .ok (.iconst 2, 1) := by decide +kernel
theorem dX8_init_28 : decode cX8_init 28 = .ok (.anewarray 16, 3) := by decide +kernel
theorem dX8_init_31 : decode cX8_init 31 = .ok (.putfield 23, 3) := by decide +kernel
theorem dX8_init_34 : decode cX8_init 34 = .ok (.iconst 0, 1) := by decide +kernel
theorem dX8_init_35 : decode cX8_init 35 = .ok (.istore_n 1, 1) := by decide +kernel
theorem dX8_init_36 : decode cX8_init 36 = .ok (.iload_n 1, 1) := by decide +kernel
theorem dX8_init_37 : decode cX8_init 37 = .ok (.iconst 2, 1) := by decide +kernel
theorem dX8_init_38 : decode cX8_init 38 = .ok (.if_icmp .ge 22, 3) := by decide +kernel
theorem dX8_init_41 : decode cX8_init 41 = .ok (.aload_n 0, 1) := by decide +kernel
theorem dX8_init_42 : decode cX8_init 42 = .ok (.getfield 23, 3) := by decide +kernel
theorem dX8_init_45 : decode cX8_init 45 = .ok (.iload_n 1, 1) := by decide +kernel
theorem dX8_init_46 : decode cX8_init 46 = .ok (.new 16, 3) := by decide +kernel
theorem dX8_init_49 : decode cX8_init 49 = .ok (.dup, 1) := by decide +kernel
theorem dX8_init_50 : decode cX8_init 50 = .ok (.invokespecial 18, 3) := by decide +kernel
theorem dX8_init_53 : decode cX8_init 53 = .ok (.aastore, 1) := by decide +kernel
theorem dX8_init_54 : decode cX8_init 54 = .ok (.iinc 1 1, 3) := by decide +kernel
theorem dX8_init_57 : decode cX8_init 57 = .ok (.goto (-21), 3) := by decide +kernel
theorem dX8_init_60 : decode cX8_init 60 = .ok (.aload_n 0, 1) := by decide +kernel
theorem dX8_init_61 : decode cX8_init 61 = .ok (.iconst 2, 1) := by decide +kernel
theorem dX8_init_62 : decode cX8_init 62 = .ok (.newarray .boolean, 2) := by decide +kernel
theorem dX8_init_64 : decode cX8_init 64 = .ok (.putfield 27, 3) := by decide +kernel
theorem dX8_init_67 : decode cX8_init 67 = .ok (.aload_n 0, 1) := by decide +kernel
theorem dX8_init_68 : decode cX8_init 68 = .ok (.new 31, 3) := by decide +kernel
theorem dX8_init_71 : decode cX8_init 71 = .ok (.dup, 1) := by decide +kernel
theorem dX8_init_72 : decode cX8_init 72 = .ok (.invokespecial 33, 3) := by decide +kernel
theorem dX8_init_75 : decode cX8_init 75 = .ok (.putfield 34, 3) := by decide +kernel
theorem dX8_init_78 : decode cX8_init 78 = .ok (.aload_n 0, 1) := by decide +kernel
theorem dX8_init_79 : decode cX8_init 79 = .ok (.new 38, 3) := by decide +kernel
theorem dX8_init_82 : decode cX8_init 82 = .ok (.dup, 1) := by decide +kernel
theorem dX8_init_83 : decode cX8_init 83 = .ok (.invokespecial 40, 3) := by decide +kernel
theorem dX8_init_86 : decode cX8_init 86 = .ok (.putfield 41, 3) := by decide +kernel
theorem dX8_init_89 : decode cX8_init 89 = .ok (.aload_n 0, 1) := by decide +kernel
theorem dX8_init_90 : decode cX8_init 90 = .ok (.new 45, 3) := by decide +kernel
theorem dX8_init_93 : decode cX8_init 93 = .ok (.dup, 1) := by decide +kernel
theorem dX8_init_94 : decode cX8_init 94 = .ok (.invokespecial 47, 3) := by decide +kernel
theorem dX8_init_97 : decode cX8_init 97 = .ok (.putfield 48, 3) := by decide +kernel
theorem dX8_init_100 : decode cX8_init 100 = .ok (.aload_n 0, 1) := by decide +kernel
theorem dX8_init_101 : decode cX8_init 101 = .ok (.new 52, 3) := by decide +kernel
theorem dX8_init_104 : decode cX8_init 104 = .ok (.dup, 1) := by decide +kernel
theorem dX8_init_105 : decode cX8_init 105 = .ok (.invokespecial 54, 3) := by decide +kernel
theorem dX8_init_108 : decode cX8_init 108 = .ok (.putfield 55, 3) := by decide +kernel
theorem dX8_init_111 : decode cX8_init 111 = .ok (.return_, 1) := by decide +kernel
theorem dX8_monk_0 : decode cX8_monk 0 = .ok (.iload_n 1, 1) := by decide +kernel
theorem dX8_monk_1 : decode cX8_monk 1 = .ok (.iconst 0, 1) := by decide +kernel
theorem dX8_monk_2 : decode cX8_monk 2 = .ok (.iconst 5, 1) := by decide +kernel
theorem dX8_monk_3 : decode cX8_monk 3 = .ok (.invokestatic 59, 3) := by decide +kernel
theorem dX8_monk_6 : decode cX8_monk 6 = .ok (.ifCond .ne 5, 3) := by decide +kernel
theorem dX8_monk_9 : decode cX8_monk 9 = .ok (.iconst (-1), 1) := by decide +kernel
theorem dX8_monk_10 : decode cX8_monk 10 = .ok (.ireturn, 1) := by decide +kernel
theorem dX8_monk_11 : decode cX8_monk 11 = .ok (.iload_n 2, 1) := by decide +kernel
theorem dX8_monk_12 : decode cX8_monk 12 = .ok (.iconst 0, 1) := by decide +kernel
theorem dX8_monk_13 : decode cX8_monk 13 = .ok (.iconst 1, 1) := by decide +kernel
theorem dX8_monk_14 : decode cX8_monk 14 = .ok (.invokestatic 59, 3) := by decide +kernel
theorem dX8_monk_17 : decode cX8_monk 17 = .ok (.ifCond .eq 22, 3) := by decide +kernel
theorem dX8_monk_20 : decode cX8_monk 20 = .ok (.iload_n 3, 1) := by decide +kernel
theorem dX8_monk_21 : decode cX8_monk 21 = .ok (.iconst 0, 1) := by decide +kernel
theorem dX8_monk_22 : decode cX8_monk 22 = .ok (.iload_n 2, 1) := by decide +kernel
theorem dX8_monk_23 : decode cX8_monk 23 = .ok (.ifCond .ne 8, 3) := by decide +kernel
theorem dX8_monk_26 : decode cX8_monk 26 = .ok (.bipush 40, 2) := by decide +kernel
theorem dX8_monk_28 : decode cX8_monk 28 = .ok (.goto 5, 3) := by decide +kernel
theorem dX8_monk_31 : decode cX8_monk 31 = .ok (.bipush 9, 2) := by decide +kernel
theorem dX8_monk_33 : decode cX8_monk 33 = .ok (.invokestatic 59, 3) := by decide +kernel
theorem dX8_monk_36 : decode cX8_monk 36 = .ok (.ifCond .ne 6, 3) := by decide +kernel
theorem dX8_monk_39 : decode cX8_monk 39 = .ok (.bipush (-2), 2) := by decide +kernel
theorem dX8_monk_41 : decode cX8_monk 41 = .ok (.ireturn, 1) := by decide +kernel
theorem dX8_monk_42 : decode cX8_monk 42 = .ok (.iload_n 2, 1) := by decide +kernel
theorem dX8_monk_43 : decode cX8_monk 43 = .ok (.ifCond .ne 16, 3) := by decide +kernel
theorem dX8_monk_46 : decode cX8_monk 46 = .ok (.aload_n 0, 1) := by decide +kernel
theorem dX8_monk_47 : decode cX8_monk 47 = .ok (.getfield 19, 3) := by decide +kernel
theorem dX8_monk_50 : decode cX8_monk 50 = .ok (.getfield 63, 3) := by decide +kernel
theorem dX8_monk_53 : decode cX8_monk 53 = .ok (.getfield 66, 3) := by decide +kernel
theorem dX8_monk_56 : decode cX8_monk 56 = .ok (.goto 13, 3) := by decide +kernel
theorem dX8_monk_59 : decode cX8_monk 59 = .ok (.aload_n 0, 1) := by decide +kernel
theorem dX8_monk_60 : decode cX8_monk 60 = .ok (.getfield 19, 3) := by decide +kernel
theorem dX8_monk_63 : decode cX8_monk 63 = .ok (.getfield 63, 3) := by decide +kernel
theorem dX8_monk_66 : decode cX8_monk 66 = .ok (.getfield 70, 3) := by decide +kernel
theorem dX8_monk_69 : decode cX8_monk 69 = .ok (.astore 4, 2) := by decide +kernel
theorem dX8_monk_71 : decode cX8_monk 71 = .ok (.aload 4, 2) := by decide +kernel
theorem dX8_monk_73 : decode cX8_monk 73 = .ok (.iload_n 1, 1) := by decide +kernel
theorem dX8_monk_74 : decode cX8_monk 74 = .ok (.iaload, 1) := by decide +kernel
theorem dX8_monk_75 : decode cX8_monk 75 = .ok (.istore 5, 2) := by decide +kernel
theorem dX8_monk_77 : decode cX8_monk 77 = .ok (.aload 4, 2) := by decide +kernel
theorem dX8_monk_79 : decode cX8_monk 79 = .ok (.iload_n 1, 1) := by decide +kernel
theorem dX8_monk_80 : decode cX8_monk 80 = .ok (.iload_n 3, 1) := by decide +kernel
theorem dX8_monk_81 : decode cX8_monk 81 = .ok (.iastore, 1) := by decide +kernel
theorem dX8_monk_82 : decode cX8_monk 82 = .ok (.iload 5, 2) := by decide +kernel
theorem dX8_monk_84 : decode cX8_monk 84 = .ok (.ireturn, 1) := by decide +kernel
theorem dX8_wear_0 : decode cX8_wear 0 = .ok (.iload_n 1, 1) := by decide +kernel
theorem dX8_wear_1 : decode cX8_wear 1 = .ok (.iconst 0, 1) := by decide +kernel
theorem dX8_wear_2 : decode cX8_wear 2 = .ok (.bipush 9, 2) := by decide +kernel
theorem dX8_wear_4 : decode cX8_wear 4 = .ok (.invokestatic 59, 3) := by decide +kernel
theorem dX8_wear_7 : decode cX8_wear 7 = .ok (.ifCond .ne 6, 3) := by decide +kernel
theorem dX8_wear_10 : decode cX8_wear 10 = .ok (.bipush (-2), 2) := by decide +kernel
theorem dX8_wear_12 : decode cX8_wear 12 = .ok (.ireturn, 1) := by decide +kernel
theorem dX8_wear_13 : decode cX8_wear 13 = .ok (.aload_n 0, 1) := by decide +kernel
theorem dX8_wear_14 : decode cX8_wear 14 = .ok (.getfield 19, 3) := by decide +kernel
theorem dX8_wear_17 : decode cX8_wear 17 = .ok (.getfield 63, 3) := by decide +kernel
theorem dX8_wear_20 : decode cX8_wear 20 = .ok (.getfield 73, 3) := by decide +kernel
theorem dX8_wear_23 : decode cX8_wear 23 = .ok (.istore_n 2, 1) := by decide +kernel
theorem dX8_wear_24 : decode cX8_wear 24 = .ok (.aload_n 0, 1) := by decide +kernel
theorem dX8_wear_25 : decode cX8_wear 25 = .ok (.getfield 19, 3) := by decide +kernel
theorem dX8_wear_28 : decode cX8_wear 28 = .ok (.getfield 63, 3) := by decide +kernel
theorem dX8_wear_31 : decode cX8_wear 31 = .ok (.iload_n 1, 1) := by decide +kernel
theorem dX8_wear_32 : decode cX8_wear 32 = .ok (.putfield 73, 3) := by decide +kernel
theorem dX8_wear_35 : decode cX8_wear 35 = .ok (.iload_n 2, 1) := by decide +kernel
theorem dX8_wear_36 : decode cX8_wear 36 = .ok (.ireturn, 1) := by decide +kernel
theorem dX8_say_0 : decode cX8_say 0 = .ok (.iload_n 1, 1) := by decide +kernel
theorem dX8_say_1 : decode cX8_say 1 = .ok (.bipush 33, 2) := by decide +kernel
theorem dX8_say_3 : decode cX8_say 3 = .ok (.bipush 126, 2) := by decide +kernel
theorem dX8_say_5 : decode cX8_say 5 = .ok (.invokestatic 59, 3) := by decide +kernel
theorem dX8_say_8 : decode cX8_say 8 = .ok (.ifCond .ne 6, 3) := by decide +kernel
theorem dX8_say_11 : decode cX8_say 11 = .ok (.bipush (-2), 2) := by decide +kernel
theorem dX8_say_13 : decode cX8_say 13 = .ok (.ireturn, 1) := by decide +kernel
theorem dX8_say_14 : decode cX8_say 14 = .ok (.aload_n 0, 1) := by decide +kernel
theorem dX8_say_15 : decode cX8_say 15 = .ok (.getfield 10, 3) := by decide +kernel
theorem dX8_say_18 : decode cX8_say 18 = .ok (.iload_n 1, 1) := by decide +kernel
theorem dX8_say_19 : decode cX8_say 19 = .ok (.invokevirtual 77, 3) := by decide +kernel
theorem dX8_say_22 : decode cX8_say 22 = .ok (.ifCond .eq 13, 3) := by decide +kernel
theorem dX8_say_25 : decode cX8_say 25 = .ok (.aload_n 0, 1) := by decide +kernel
theorem dX8_say_26 : decode cX8_say 26 = .ok (.getfield 10, 3) := by decide +kernel
theorem dX8_say_29 : decode cX8_say 29 = .ok (.getfield 81, 3) := by decide +kernel
theorem dX8_say_32 : decode cX8_say 32 = .ok (.goto 5, 3) := by decide +kernel
theorem dX8_say_35 : decode cX8_say 35 = .ok (.bipush (-4), 2) := by decide +kernel
theorem dX8_say_37 : decode cX8_say 37 = .ok (.ireturn, 1) := by decide +kernel
theorem dX8_wipe_0 : decode cX8_wipe 0 = .ok (.aload_n 0, 1) := by decide +kernel
theorem dX8_wipe_1 : decode cX8_wipe 1 = .ok (.getfield 10, 3) := by decide +kernel
theorem dX8_wipe_4 : decode cX8_wipe 4 = .ok (.invokevirtual 84, 3) := by decide +kernel
theorem dX8_wipe_7 : decode cX8_wipe 7 = .ok (.ireturn, 1) := by decide +kernel
theorem dX8_fault_0 : decode cX8_fault 0 = .ok (.aload_n 0, 1) := by decide +kernel
theorem dX8_fault_1 : decode cX8_fault 1 = .ok (.getfield 10, 3) := by decide +kernel
theorem dX8_fault_4 : decode cX8_fault 4 = .ok (.invokevirtual 88, 3) := by decide +kernel
theorem dX8_fault_7 : decode cX8_fault 7 = .ok (.ireturn, 1) := by decide +kernel
theorem dX8_judge_0 : decode cX8_judge 0 = .ok (.iload_n 1, 1) := by decide +kernel
theorem dX8_judge_1 : decode cX8_judge 1 = .ok (.iconst 0, 1) := by decide +kernel
theorem dX8_judge_2 : decode cX8_judge 2 = .ok (.iconst 1, 1) := by decide +kernel
theorem dX8_judge_3 : decode cX8_judge 3 = .ok (.invokestatic 59, 3) := by decide +kernel
theorem dX8_judge_6 : decode cX8_judge 6 = .ok (.ifCond .ne 6, 3) := by decide +kernel
theorem dX8_judge_9 : decode cX8_judge 9 = .ok (.bipush (-2), 2) := by decide +kernel
theorem dX8_judge_11 : decode cX8_judge 11 = .ok (.ireturn, 1) := by decide +kernel
theorem dX8_judge_12 : decode cX8_judge 12 = .ok (.aload_n 0, 1) := by decide +kernel
theorem dX8_judge_13 : decode cX8_judge 13 = .ok (.getfield 10, 3) := by decide +kernel
theorem dX8_judge_16 : decode cX8_judge 16 = .ok (.invokevirtual 88, 3) := by decide +kernel
theorem dX8_judge_19 : decode cX8_judge 19 = .ok (.bipush (-6), 2) := by decide +kernel
theorem dX8_judge_21 : decode cX8_judge 21 = .ok (.if_icmp .eq 6, 3) := by decide +kernel
theorem dX8_judge_24 : decode cX8_judge 24 = .ok (.bipush (-5), 2) := by decide +kernel
theorem dX8_judge_26 : decode cX8_judge 26 = .ok (.ireturn, 1) := by decide +kernel
theorem dX8_judge_27 : decode cX8_judge 27 = .ok (.aload_n 0, 1) := by decide +kernel
theorem dX8_judge_28 : decode cX8_judge 28 = .ok (.invokevirtual 91, 3) := by decide +kernel
theorem dX8_judge_31 : decode cX8_judge 31 = .ok (.istore_n 2, 1) := by decide +kernel
theorem dX8_judge_32 : decode cX8_judge 32 = .ok (.iload_n 2, 1) := by decide +kernel
theorem dX8_judge_33 : decode cX8_judge 33 = .ok (.invokestatic 94, 3) := by decide +kernel
theorem dX8_judge_36 : decode cX8_judge 36 = .ok (.ifCond .ne 6, 3) := by decide +kernel
theorem dX8_judge_39 : decode cX8_judge 39 = .ok (.bipush (-6), 2) := by decide +kernel
theorem dX8_judge_41 : decode cX8_judge 41 = .ok (.ireturn, 1) := by decide +kernel
theorem dX8_judge_42 : decode cX8_judge 42 = .ok (.iload_n 1, 1) := by decide +kernel
theorem dX8_judge_43 : decode cX8_judge 43 = .ok (.ifCond .ne 10, 3) := by decide +kernel
theorem dX8_judge_46 : decode cX8_judge 46 = .ok (.iload_n 2, 1) := by decide +kernel
theorem dX8_judge_47 : decode cX8_judge 47 = .ok (.invokestatic 98, 3) := by decide +kernel
theorem dX8_judge_50 : decode cX8_judge 50 = .ok (.goto 7, 3) := by decide +kernel
theorem dX8_judge_53 : decode cX8_judge 53 = .ok (.iload_n 2, 1) := by decide +kernel
theorem dX8_judge_54 : decode cX8_judge 54 = .ok (.invokestatic 94, 3) := by decide +kernel
theorem dX8_judge_57 : decode cX8_judge 57 = .ok (.ireturn, 1) := by decide +kernel
theorem dX8_done_0 : decode cX8_done 0 = .ok (.aload_n 0, 1) := by decide +kernel
theorem dX8_done_1 : decode cX8_done 1 = .ok (.getfield 10, 3) := by decide +kernel
theorem dX8_done_4 : decode cX8_done 4 = .ok (.invokevirtual 88, 3) := by decide +kernel
theorem dX8_done_7 : decode cX8_done 7 = .ok (.bipush (-6), 2) := by decide +kernel
theorem dX8_done_9 : decode cX8_done 9 = .ok (.if_icmp .eq 6, 3) := by decide +kernel
theorem dX8_done_12 : decode cX8_done 12 = .ok (.bipush (-5), 2) := by decide +kernel
theorem dX8_done_14 : decode cX8_done 14 = .ok (.ireturn, 1) := by decide +kernel
theorem dX8_done_15 : decode cX8_done 15 = .ok (.aload_n 0, 1) := by decide +kernel
theorem dX8_done_16 : decode cX8_done 16 = .ok (.invokevirtual 91, 3) := by decide +kernel
theorem dX8_done_19 : decode cX8_done 19 = .ok (.istore_n 1, 1) := by decide +kernel
theorem dX8_done_20 : decode cX8_done 20 = .ok (.iload_n 1, 1) := by decide +kernel
theorem dX8_done_21 : decode cX8_done 21 = .ok (.invokestatic 94, 3) := by decide +kernel
theorem dX8_done_24 : decode cX8_done 24 = .ok (.ifCond .eq 6, 3) := by decide +kernel
theorem dX8_done_27 : decode cX8_done 27 = .ok (.bipush (-5), 2) := by decide +kernel
theorem dX8_done_29 : decode cX8_done 29 = .ok (.ireturn, 1) := by decide +kernel
theorem dX8_done_30 : decode cX8_done 30 = .ok (.aload_n 0, 1) := by decide +kernel
theorem dX8_done_31 : decode cX8_done 31 = .ok (.getfield 19, 3) := by decide +kernel
theorem dX8_done_34 : decode cX8_done 34 = .ok (.getfield 63, 3) := by decide +kernel
theorem dX8_done_37 : decode cX8_done 37 = .ok (.aload_n 0, 1) := by decide +kernel
theorem dX8_done_38 : decode cX8_done 38 = .ok (.getfield 34, 3) := by decide +kernel
theorem dX8_done_41 : decode cX8_done 41 = .ok (.invokevirtual 101, 3) := by decide +kernel
theorem dX8_done_44 : decode cX8_done 44 = .ok (.aload_n 0, 1) := by decide +kernel
theorem dX8_done_45 : decode cX8_done 45 = .ok (.getfield 10, 3) := by decide +kernel
theorem dX8_done_48 : decode cX8_done 48 = .ok (.invokevirtual 84, 3) := by decide +kernel
theorem dX8_done_51 : decode cX8_done 51 = .ok (.pop, 1) := by decide +kernel
theorem dX8_done_52 : decode cX8_done 52 = .ok (.iload_n 1, 1) := by decide +kernel
theorem dX8_done_53 : decode cX8_done 53 = .ok (.invokestatic 98, 3) := by decide +kernel
theorem dX8_done_56 : decode cX8_done 56 = .ok (.ireturn, 1) := by decide +kernel
theorem dX8_lock_0 : decode cX8_lock 0 = .ok (.iload_n 1, 1) := by decide +kernel
theorem dX8_lock_1 : decode cX8_lock 1 = .ok (.iconst 0, 1) := by decide +kernel
theorem dX8_lock_2 : decode cX8_lock 2 = .ok (.iconst 3, 1) := by decide +kernel
theorem dX8_lock_3 : decode cX8_lock 3 = .ok (.invokestatic 59, 3) := by decide +kernel
theorem dX8_lock_6 : decode cX8_lock 6 = .ok (.ifCond .ne 5, 3) := by decide +kernel
theorem dX8_lock_9 : decode cX8_lock 9 = .ok (.iconst (-1), 1) := by decide +kernel
theorem dX8_lock_10 : decode cX8_lock 10 = .ok (.ireturn, 1) := by decide +kernel
theorem dX8_lock_11 : decode cX8_lock 11 = .ok (.aload_n 0, 1) := by decide +kernel
theorem dX8_lock_12 : decode cX8_lock 12 = .ok (.getfield 19, 3) := by decide +kernel
theorem dX8_lock_15 : decode cX8_lock 15 = .ok (.getfield 63, 3) := by decide +kernel
theorem dX8_lock_18 : decode cX8_lock 18 = .ok (.getfield 105, 3) := by decide +kernel
theorem dX8_lock_21 : decode cX8_lock 21 = .ok (.iload_n 1, 1) := by decide +kernel
theorem dX8_lock_22 : decode cX8_lock 22 = .ok (.aaload, 1) := by decide +kernel
theorem dX8_lock_23 : decode cX8_lock 23 = .ok (.astore 4, 2) := by decide +kernel
theorem dX8_lock_25 : decode cX8_lock 25 = .ok (.iload_n 2, 1) := by decide +kernel
theorem dX8_lock_26 : decode cX8_lock 26 = .ok (.iconst 0, 1) := by decide +kernel
theorem dX8_lock_27 : decode cX8_lock 27 = .ok (.aload 4, 2) := by decide +kernel
theorem dX8_lock_29 : decode cX8_lock 29 = .ok (.getfield 109, 3) := by decide +kernel
theorem dX8_lock_32 : decode cX8_lock 32 = .ok (.iconst 1, 1) := by decide +kernel
theorem dX8_lock_33 : decode cX8_lock 33 = .ok (.isub, 1) := by decide +kernel
theorem dX8_lock_34 : decode cX8_lock 34 = .ok (.invokestatic 59, 3) := by decide +kernel
theorem dX8_lock_37 : decode cX8_lock 37 = .ok (.ifCond .ne 5, 3) := by decide +kernel
theorem dX8_lock_40 : decode cX8_lock 40 = .ok (.iconst (-1), 1) := by decide +kernel
theorem dX8_lock_41 : decode cX8_lock 41 = .ok (.ireturn, 1) := by decide +kernel
theorem dX8_lock_42 : decode cX8_lock 42 = .ok (.iload_n 3, 1) := by decide +kernel
theorem dX8_lock_43 : decode cX8_lock 43 = .ok (.tableswitch 60 0 2 #[25, 33, 41], 25) := by decide +kernel
theorem dX8_lock_68 : decode cX8_lock 68 = .ok (.aload 4, 2) := by decide +kernel
theorem dX8_lock_70 : decode cX8_lock 70 = .ok (.getfield 112, 3) := by decide +kernel
theorem dX8_lock_73 : decode cX8_lock 73 = .ok (.iload_n 2, 1) := by decide +kernel
theorem dX8_lock_74 : decode cX8_lock 74 = .ok (.iaload, 1) := by decide +kernel
theorem dX8_lock_75 : decode cX8_lock 75 = .ok (.ireturn, 1) := by decide +kernel
theorem dX8_lock_76 : decode cX8_lock 76 = .ok (.aload 4, 2) := by decide +kernel
theorem dX8_lock_78 : decode cX8_lock 78 = .ok (.getfield 115, 3) := by decide +kernel
theorem dX8_lock_81 : decode cX8_lock 81 = .ok (.iload_n 2, 1) := by decide +kernel
theorem dX8_lock_82 : decode cX8_lock 82 = .ok (.iaload, 1) := by decide +kernel
theorem dX8_lock_83 : decode cX8_lock 83 = .ok (.ireturn, 1) := by decide +kernel
theorem dX8_lock_84 : decode cX8_lock 84 = .ok (.aload_n 0, 1) := by decide +kernel
theorem dX8_lock_85 : decode cX8_lock 85 = .ok (.getfield 19, 3) := by decide +kernel
theorem dX8_lock_88 : decode cX8_lock 88 = .ok (.getfield 63, 3) := by decide +kernel
theorem dX8_lock_91 : decode cX8_lock 91 = .ok (.getfield 118, 3) := by decide +kernel
theorem dX8_lock_94 : decode cX8_lock 94 = .ok (.aload 4, 2) := by decide +kernel
theorem dX8_lock_96 : decode cX8_lock 96 = .ok (.getfield 121, 3) := by decide +kernel
theorem dX8_lock_99 : decode cX8_lock 99 = .ok (.iload_n 2, 1) := by decide +kernel
theorem dX8_lock_100 : decode cX8_lock 100 = .ok (.iaload, 1) := by decide +kernel
theorem dX8_lock_101 : decode cX8_lock 101 = .ok (.isub, 1) := by decide +kernel
theorem dX8_lock_102 : decode cX8_lock 102 = .ok (.ireturn, 1) := by decide +kernel
theorem dX8_lock_103 : decode cX8_lock 103 = .ok (.bipush (-2), 2) := by decide +kernel
theorem dX8_lock_105 : decode cX8_lock 105 = .ok (.ireturn, 1) := by decide +kernel
theorem dX8_power_0 : decode cX8_power 0 = .ok (.iload_n 1, 1) := by decide +kernel
theorem dX8_power_1 : decode cX8_power 1 = .ok (.iconst 0, 1) := by decide +kernel
theorem dX8_power_2 : decode cX8_power 2 = .ok (.iconst 3, 1) := by decide +kernel
theorem dX8_power_3 : decode cX8_power 3 = .ok (.invokestatic 59, 3) := by decide +kernel
theorem dX8_power_6 : decode cX8_power 6 = .ok (.ifCond .ne 5, 3) := by decide +kernel
theorem dX8_power_9 : decode cX8_power 9 = .ok (.iconst (-1), 1) := by decide +kernel
theorem dX8_power_10 : decode cX8_power 10 = .ok (.ireturn, 1) := by decide +kernel
theorem dX8_power_11 : decode cX8_power 11 = .ok (.aload_n 0, 1) := by decide +kernel
theorem dX8_power_12 : decode cX8_power 12 = .ok (.getfield 19, 3) := by decide +kernel
theorem dX8_power_15 : decode cX8_power 15 = .ok (.getfield 63, 3) := by decide +kernel
theorem dX8_power_18 : decode cX8_power 18 = .ok (.getfield 105, 3) := by decide +kernel
theorem dX8_power_21 : decode cX8_power 21 = .ok (.iload_n 1, 1) := by decide +kernel
theorem dX8_power_22 : decode cX8_power 22 = .ok (.aaload, 1) := by decide +kernel
theorem dX8_power_23 : decode cX8_power 23 = .ok (.iconst 0, 1) := by decide +kernel
theorem dX8_power_24 : decode cX8_power 24 = .ok (.aload_n 0, 1) := by decide +kernel
theorem dX8_power_25 : decode cX8_power 25 = .ok (.getfield 19, 3) := by decide +kernel
theorem dX8_power_28 : decode cX8_power 28 = .ok (.getfield 63, 3) := by decide +kernel
theorem dX8_power_31 : decode cX8_power 31 = .ok (.getfield 70, 3) := by decide +kernel
theorem dX8_power_34 : decode cX8_power 34 = .ok (.invokevirtual 123, 3) := by decide +kernel
theorem dX8_power_37 : decode cX8_power 37 = .ok (.ireturn, 1) := by decide +kernel
theorem dX8_bears_0 : decode cX8_bears 0 = .ok (.aload_n 0, 1) := by decide +kernel
theorem dX8_bears_1 : decode cX8_bears 1 = .ok (.getfield 19, 3) := by decide +kernel
theorem dX8_bears_4 : decode cX8_bears 4 = .ok (.getfield 63, 3) := by decide +kernel
theorem dX8_bears_7 : decode cX8_bears 7 = .ok (.iconst 0, 1) := by decide +kernel
theorem dX8_bears_8 : decode cX8_bears 8 = .ok (.invokevirtual 127, 3) := by decide +kernel
theorem dX8_bears_11 : decode cX8_bears 11 = .ok (.ireturn, 1) := by decide +kernel
theorem dX8_broken_0 : decode cX8_broken 0 = .ok (.iload_n 1, 1) := by decide +kernel
theorem dX8_broken_1 : decode cX8_broken 1 = .ok (.iconst 0, 1) := by decide +kernel
theorem dX8_broken_2 : decode cX8_broken 2 = .ok (.ldc 130, 2) := by decide +kernel
theorem dX8_broken_4 : decode cX8_broken 4 = .ok (.invokestatic 59, 3) := by decide +kernel
theorem dX8_broken_7 : decode cX8_broken 7 = .ok (.ifCond .ne 6, 3) := by decide +kernel
theorem dX8_broken_10 : decode cX8_broken 10 = .ok (.bipush (-2), 2) := by decide +kernel
theorem dX8_broken_12 : decode cX8_broken 12 = .ok (.ireturn, 1) := by decide +kernel
theorem dX8_broken_13 : decode cX8_broken 13 = .ok (.aload_n 0, 1) := by decide +kernel
theorem dX8_broken_14 : decode cX8_broken 14 = .ok (.getfield 19, 3) := by decide +kernel
theorem dX8_broken_17 : decode cX8_broken 17 = .ok (.getfield 63, 3) := by decide +kernel
theorem dX8_broken_20 : decode cX8_broken 20 = .ok (.iload_n 1, 1) := by decide +kernel
theorem dX8_broken_21 : decode cX8_broken 21 = .ok (.invokevirtual 131, 3) := by decide +kernel
theorem dX8_broken_24 : decode cX8_broken 24 = .ok (.ireturn, 1) := by decide +kernel
theorem dX8_share_0 : decode cX8_share 0 = .ok (.iload_n 1, 1) := by decide +kernel
theorem dX8_share_1 : decode cX8_share 1 = .ok (.iconst 0, 1) := by decide +kernel
theorem dX8_share_2 : decode cX8_share 2 = .ok (.iconst 5, 1) := by decide +kernel
theorem dX8_share_3 : decode cX8_share 3 = .ok (.invokestatic 59, 3) := by decide +kernel
theorem dX8_share_6 : decode cX8_share 6 = .ok (.ifCond .ne 7, 3) := by decide +kernel
theorem dX8_share_9 : decode cX8_share 9 = .ok (.ldc2_w 134, 3) := by decide +kernel
theorem dX8_share_12 : decode cX8_share 12 = .ok (.lreturn, 1) := by decide +kernel
theorem dX8_share_13 : decode cX8_share 13 = .ok (.iload_n 2, 1) := by decide +kernel
theorem dX8_share_14 : decode cX8_share 14 = .ok (.iconst 0, 1) := by decide +kernel
theorem dX8_share_15 : decode cX8_share 15 = .ok (.iconst 1, 1) := by decide +kernel
theorem dX8_share_16 : decode cX8_share 16 = .ok (.invokestatic 59, 3) := by decide +kernel
theorem dX8_share_19 : decode cX8_share 19 = .ok (.ifCond .ne 7, 3) := by decide +kernel
theorem dX8_share_22 : decode cX8_share 22 = .ok (.ldc2_w 136, 3) := by decide +kernel
theorem dX8_share_25 : decode cX8_share 25 = .ok (.lreturn, 1) := by decide +kernel
theorem dX8_share_26 : decode cX8_share 26 = .ok (.iconst 0, 1) := by decide +kernel
theorem dX8_share_27 : decode cX8_share 27 = .ok (.istore_n 3, 1) := by decide +kernel
theorem dX8_share_28 : decode cX8_share 28 = .ok (.iconst 0, 1) := by decide +kernel
theorem dX8_share_29 : decode cX8_share 29 = .ok (.istore 4, 2) := by decide +kernel
theorem dX8_share_31 : decode cX8_share 31 = .ok (.iload 4, 2) := by decide +kernel
theorem dX8_share_33 : decode cX8_share 33 = .ok (.bipush 6, 2) := by decide +kernel
theorem dX8_share_35 : decode cX8_share 35 = .ok (.if_icmp .ge 24, 3) := by decide +kernel
theorem dX8_share_38 : decode cX8_share 38 = .ok (.iload_n 3, 1) := by decide +kernel
theorem dX8_share_39 : decode cX8_share 39 = .ok (.aload_n 0, 1) := by decide +kernel
theorem dX8_share_40 : decode cX8_share 40 = .ok (.getfield 19, 3) := by decide +kernel
theorem dX8_share_43 : decode cX8_share 43 = .ok (.getfield 63, 3) := by decide +kernel
theorem dX8_share_46 : decode cX8_share 46 = .ok (.iload 4, 2) := by decide +kernel
theorem dX8_share_48 : decode cX8_share 48 = .ok (.invokevirtual 138, 3) := by decide +kernel
theorem dX8_share_51 : decode cX8_share 51 = .ok (.iadd, 1) := by decide +kernel
theorem dX8_share_52 : decode cX8_share 52 = .ok (.istore_n 3, 1) := by decide +kernel
theorem dX8_share_53 : decode cX8_share 53 = .ok (.iinc 4 1, 3) := by decide +kernel
theorem dX8_share_56 : decode cX8_share 56 = .ok (.goto (-25), 3) := by decide +kernel
theorem dX8_share_59 : decode cX8_share 59 = .ok (.iload_n 3, 1) := by decide +kernel
theorem dX8_share_60 : decode cX8_share 60 = .ok (.ifCond .ne 7, 3) := by decide +kernel
theorem dX8_share_63 : decode cX8_share 63 = .ok (.ldc2_w 141, 3) := by decide +kernel
theorem dX8_share_66 : decode cX8_share 66 = .ok (.lreturn, 1) := by decide +kernel
theorem dX8_share_67 : decode cX8_share 67 = .ok (.aload_n 0, 1) := by decide +kernel
theorem dX8_share_68 : decode cX8_share 68 = .ok (.getfield 19, 3) := by decide +kernel
theorem dX8_share_71 : decode cX8_share 71 = .ok (.getfield 63, 3) := by decide +kernel
theorem dX8_share_74 : decode cX8_share 74 = .ok (.iload_n 1, 1) := by decide +kernel
theorem dX8_share_75 : decode cX8_share 75 = .ok (.invokevirtual 138, 3) := by decide +kernel
theorem dX8_share_78 : decode cX8_share 78 = .ok (.istore 4, 2) := by decide +kernel
theorem dX8_share_80 : decode cX8_share 80 = .ok (.iload_n 3, 1) := by decide +kernel
theorem dX8_share_81 : decode cX8_share 81 = .ok (.iload 4, 2) := by decide +kernel
theorem dX8_share_83 : decode cX8_share 83 = .ok (.invokestatic 143, 3) := by decide +kernel
theorem dX8_share_86 : decode cX8_share 86 = .ok (.istore 5, 2) := by decide +kernel
theorem dX8_share_88 : decode cX8_share 88 = .ok (.iload_n 2, 1) := by decide +kernel
theorem dX8_share_89 : decode cX8_share 89 = .ok (.ifCond .ne 8, 3) := by decide +kernel
theorem dX8_share_92 : decode cX8_share 92 = .ok (.iload 4, 2) := by decide +kernel
theorem dX8_share_94 : decode cX8_share 94 = .ok (.goto 4, 3) := by decide +kernel
theorem dX8_share_97 : decode cX8_share 97 = .ok (.iload_n 3, 1) := by decide +kernel
theorem dX8_share_98 : decode cX8_share 98 = .ok (.iload 5, 2) := by decide +kernel
theorem dX8_share_100 : decode cX8_share 100 = .ok (.idiv, 1) := by decide +kernel
theorem dX8_share_101 : decode cX8_share 101 = .ok (.i2l, 1) := by decide +kernel
theorem dX8_share_102 : decode cX8_share 102 = .ok (.lreturn, 1) := by decide +kernel
theorem dX8_led_0 : decode cX8_led 0 = .ok (.iload_n 1, 1) := by decide +kernel
theorem dX8_led_1 : decode cX8_led 1 = .ok (.iconst 0, 1) := by decide +kernel
theorem dX8_led_2 : decode cX8_led 2 = .ok (.iconst 5, 1) := by decide +kernel
theorem dX8_led_3 : decode cX8_led 3 = .ok (.invokestatic 59, 3) := by decide +kernel
theorem dX8_led_6 : decode cX8_led 6 = .ok (.ifCond .ne 5, 3) := by decide +kernel
theorem dX8_led_9 : decode cX8_led 9 = .ok (.iconst (-1), 1) := by decide +kernel
theorem dX8_led_10 : decode cX8_led 10 = .ok (.ireturn, 1) := by decide +kernel
theorem dX8_led_11 : decode cX8_led 11 = .ok (.iload_n 2, 1) := by decide +kernel
theorem dX8_led_12 : decode cX8_led 12 = .ok (.iconst 0, 1) := by decide +kernel
theorem dX8_led_13 : decode cX8_led 13 = .ok (.iconst 1, 1) := by decide +kernel
theorem dX8_led_14 : decode cX8_led 14 = .ok (.invokestatic 59, 3) := by decide +kernel
theorem dX8_led_17 : decode cX8_led 17 = .ok (.ifCond .ne 6, 3) := by decide +kernel
theorem dX8_led_20 : decode cX8_led 20 = .ok (.bipush (-2), 2) := by decide +kernel
theorem dX8_led_22 : decode cX8_led 22 = .ok (.ireturn, 1) := by decide +kernel
theorem dX8_led_23 : decode cX8_led 23 = .ok (.iload_n 2, 1) := by decide +kernel
theorem dX8_led_24 : decode cX8_led 24 = .ok (.ifCond .ne 17, 3) := by decide +kernel
theorem dX8_led_27 : decode cX8_led 27 = .ok (.aload_n 0, 1) := by decide +kernel
theorem dX8_led_28 : decode cX8_led 28 = .ok (.getfield 19, 3) := by decide +kernel
theorem dX8_led_31 : decode cX8_led 31 = .ok (.getfield 63, 3) := by decide +kernel
theorem dX8_led_34 : decode cX8_led 34 = .ok (.iload_n 1, 1) := by decide +kernel
theorem dX8_led_35 : decode cX8_led 35 = .ok (.invokevirtual 147, 3) := by decide +kernel
theorem dX8_led_38 : decode cX8_led 38 = .ok (.goto 15, 3) := by decide +kernel
theorem dX8_led_41 : decode cX8_led 41 = .ok (.aload_n 0, 1) := by decide +kernel
theorem dX8_led_42 : decode cX8_led 42 = .ok (.getfield 19, 3) := by decide +kernel
theorem dX8_led_45 : decode cX8_led 45 = .ok (.getfield 63, 3) := by decide +kernel
theorem dX8_led_48 : decode cX8_led 48 = .ok (.getfield 150, 3) := by decide +kernel
theorem dX8_led_51 : decode cX8_led 51 = .ok (.iload_n 1, 1) := by decide +kernel
theorem dX8_led_52 : decode cX8_led 52 = .ok (.iaload, 1) := by decide +kernel
theorem dX8_led_53 : decode cX8_led 53 = .ok (.ireturn, 1) := by decide +kernel
theorem dX8_load_0 : decode cX8_load 0 = .ok (.iload_n 1, 1) := by decide +kernel
theorem dX8_load_1 : decode cX8_load 1 = .ok (.iconst 0, 1) := by decide +kernel
theorem dX8_load_2 : decode cX8_load 2 = .ok (.sipush 9999, 3) := by decide +kernel
theorem dX8_load_5 : decode cX8_load 5 = .ok (.invokestatic 59, 3) := by decide +kernel
theorem dX8_load_8 : decode cX8_load 8 = .ok (.ifCond .eq 13, 3) := by decide +kernel
theorem dX8_load_11 : decode cX8_load 11 = .ok (.iload_n 2, 1) := by decide +kernel
theorem dX8_load_12 : decode cX8_load 12 = .ok (.iconst 0, 1) := by decide +kernel
theorem dX8_load_13 : decode cX8_load 13 = .ok (.bipush 99, 2) := by decide +kernel
theorem dX8_load_15 : decode cX8_load 15 = .ok (.invokestatic 59, 3) := by decide +kernel
theorem dX8_load_18 : decode cX8_load 18 = .ok (.ifCond .ne 6, 3) := by decide +kernel
theorem dX8_load_21 : decode cX8_load 21 = .ok (.bipush (-2), 2) := by decide +kernel
theorem dX8_load_23 : decode cX8_load 23 = .ok (.ireturn, 1) := by decide +kernel
theorem dX8_load_24 : decode cX8_load 24 = .ok (.aload_n 0, 1) := by decide +kernel
theorem dX8_load_25 : decode cX8_load 25 = .ok (.getfield 19, 3) := by decide +kernel
theorem dX8_load_28 : decode cX8_load 28 = .ok (.getfield 153, 3) := by decide +kernel
theorem dX8_load_31 : decode cX8_load 31 = .ok (.iload_n 1, 1) := by decide +kernel
theorem dX8_load_32 : decode cX8_load 32 = .ok (.iload_n 2, 1) := by decide +kernel
theorem dX8_load_33 : decode cX8_load 33 = .ok (.invokevirtual 157, 3) := by decide +kernel
theorem dX8_load_36 : decode cX8_load 36 = .ok (.ifCond .eq 16, 3) := by decide +kernel
theorem dX8_load_39 : decode cX8_load 39 = .ok (.aload_n 0, 1) := by decide +kernel
theorem dX8_load_40 : decode cX8_load 40 = .ok (.getfield 19, 3) := by decide +kernel
theorem dX8_load_43 : decode cX8_load 43 = .ok (.getfield 153, 3) := by decide +kernel
theorem dX8_load_46 : decode cX8_load 46 = .ok (.getfield 162, 3) := by decide +kernel
theorem dX8_load_49 : decode cX8_load 49 = .ok (.goto 5, 3) := by decide +kernel
theorem dX8_load_52 : decode cX8_load 52 = .ok (.bipush (-4), 2) := by decide +kernel
theorem dX8_load_54 : decode cX8_load 54 = .ok (.ireturn, 1) := by decide +kernel
theorem dX8_drop_0 : decode cX8_drop 0 = .ok (.aload_n 0, 1) := by decide +kernel
theorem dX8_drop_1 : decode cX8_drop 1 = .ok (.getfield 19, 3) := by decide +kernel
theorem dX8_drop_4 : decode cX8_drop 4 = .ok (.getfield 153, 3) := by decide +kernel
theorem dX8_drop_7 : decode cX8_drop 7 = .ok (.invokevirtual 163, 3) := by decide +kernel
theorem dX8_drop_10 : decode cX8_drop 10 = .ok (.ireturn, 1) := by decide +kernel
theorem dX8_best_0 : decode cX8_best 0 = .ok (.iload_n 1, 1) := by decide +kernel
theorem dX8_best_1 : decode cX8_best 1 = .ok (.iconst (-1), 1) := by decide +kernel
theorem dX8_best_2 : decode cX8_best 2 = .ok (.aload_n 0, 1) := by decide +kernel
theorem dX8_best_3 : decode cX8_best 3 = .ok (.getfield 19, 3) := by decide +kernel
theorem dX8_best_6 : decode cX8_best 6 = .ok (.getfield 153, 3) := by decide +kernel
theorem dX8_best_9 : decode cX8_best 9 = .ok (.getfield 162, 3) := by decide +kernel
theorem dX8_best_12 : decode cX8_best 12 = .ok (.iconst 1, 1) := by decide +kernel
theorem dX8_best_13 : decode cX8_best 13 = .ok (.isub, 1) := by decide +kernel
theorem dX8_best_14 : decode cX8_best 14 = .ok (.invokestatic 59, 3) := by decide +kernel
theorem dX8_best_17 : decode cX8_best 17 = .ok (.ifCond .ne 6, 3) := by decide +kernel
theorem dX8_best_20 : decode cX8_best 20 = .ok (.bipush (-6), 2) := by decide +kernel
theorem dX8_best_22 : decode cX8_best 22 = .ok (.ireturn, 1) := by decide +kernel
theorem dX8_best_23 : decode cX8_best 23 = .ok (.aload_n 0, 1) := by decide +kernel
theorem dX8_best_24 : decode cX8_best 24 = .ok (.getfield 41, 3) := by decide +kernel
theorem dX8_best_27 : decode cX8_best 27 = .ok (.aload_n 0, 1) := by decide +kernel
theorem dX8_best_28 : decode cX8_best 28 = .ok (.getfield 19, 3) := by decide +kernel
theorem dX8_best_31 : decode cX8_best 31 = .ok (.getfield 63, 3) := by decide +kernel
theorem dX8_best_34 : decode cX8_best 34 = .ok (.aload_n 0, 1) := by decide +kernel
theorem dX8_best_35 : decode cX8_best 35 = .ok (.getfield 19, 3) := by decide +kernel
theorem dX8_best_38 : decode cX8_best 38 = .ok (.getfield 153, 3) := by decide +kernel
theorem dX8_best_41 : decode cX8_best 41 = .ok (.invokevirtual 164, 3) := by decide +kernel
theorem dX8_best_44 : decode cX8_best 44 = .ok (.iload_n 1, 1) := by decide +kernel
theorem dX8_best_45 : decode cX8_best 45 = .ok (.ifCond .ge 13, 3) := by decide +kernel
theorem dX8_best_48 : decode cX8_best 48 = .ok (.aload_n 0, 1) := by decide +kernel
theorem dX8_best_49 : decode cX8_best 49 = .ok (.getfield 41, 3) := by decide +kernel
theorem dX8_best_52 : decode cX8_best 52 = .ok (.invokevirtual 168, 3) := by decide +kernel
theorem dX8_best_55 : decode cX8_best 55 = .ok (.goto 11, 3) := by decide +kernel
theorem dX8_best_58 : decode cX8_best 58 = .ok (.aload_n 0, 1) := by decide +kernel
theorem dX8_best_59 : decode cX8_best 59 = .ok (.getfield 41, 3) := by decide +kernel
theorem dX8_best_62 : decode cX8_best 62 = .ok (.iload_n 1, 1) := by decide +kernel
theorem dX8_best_63 : decode cX8_best 63 = .ok (.invokevirtual 171, 3) := by decide +kernel
theorem dX8_best_66 : decode cX8_best 66 = .ok (.ireturn, 1) := by decide +kernel
theorem dX8_renewed_0 : decode cX8_renewed 0 = .ok (.iload_n 1, 1) := by decide +kernel
theorem dX8_renewed_1 : decode cX8_renewed 1 = .ok (.iconst 0, 1) := by decide +kernel
theorem dX8_renewed_2 : decode cX8_renewed 2 = .ok (.iconst 4, 1) := by decide +kernel
theorem dX8_renewed_3 : decode cX8_renewed 3 = .ok (.invokestatic 59, 3) := by decide +kernel
theorem dX8_renewed_6 : decode cX8_renewed 6 = .ok (.ifCond .eq 25, 3) := by decide +kernel
theorem dX8_renewed_9 : decode cX8_renewed 9 = .ok (.iload_n 2, 1) := by decide +kernel
theorem dX8_renewed_10 : decode cX8_renewed 10 = .ok (.iconst 0, 1) := by decide +kernel
theorem dX8_renewed_11 : decode cX8_renewed 11 = .ok (.sipush 9999, 3) := by decide +kernel
theorem dX8_renewed_14 : decode cX8_renewed 14 = .ok (.invokestatic 59, 3) := by decide +kernel
theorem dX8_renewed_17 : decode cX8_renewed 17 = .ok (.ifCond .eq 14, 3) := by decide +kernel
theorem dX8_renewed_20 : decode cX8_renewed 20 = .ok (.iload_n 3, 1) := by decide +kernel
theorem dX8_renewed_21 : decode cX8_renewed 21 = .ok (.iconst (-1), 1) := by decide +kernel
theorem dX8_renewed_22 : decode cX8_renewed 22 = .ok (.iload_n 1, 1) := by decide +kernel
theorem dX8_renewed_23 : decode cX8_renewed 23 = .ok (.iconst 1, 1) := by decide +kernel
theorem dX8_renewed_24 : decode cX8_renewed 24 = .ok (.isub, 1) := by decide +kernel
theorem dX8_renewed_25 : decode cX8_renewed 25 = .ok (.invokestatic 59, 3) := by decide +kernel
theorem dX8_renewed_28 : decode cX8_renewed 28 = .ok (.ifCond .ne 6, 3) := by decide +kernel
theorem dX8_renewed_31 : decode cX8_renewed 31 = .ok (.bipush (-2), 2) := by decide +kernel
theorem dX8_renewed_33 : decode cX8_renewed 33 = .ok (.ireturn, 1) := by decide +kernel
theorem dX8_renewed_34 : decode cX8_renewed 34 = .ok (.aload_n 0, 1) := by decide +kernel
theorem dX8_renewed_35 : decode cX8_renewed 35 = .ok (.getfield 48, 3) := by decide +kernel
theorem dX8_renewed_38 : decode cX8_renewed 38 = .ok (.aload_n 0, 1) := by decide +kernel
theorem dX8_renewed_39 : decode cX8_renewed 39 = .ok (.getfield 19, 3) := by decide +kernel
theorem dX8_renewed_42 : decode cX8_renewed 42 = .ok (.getfield 63, 3) := by decide +kernel
theorem dX8_renewed_45 : decode cX8_renewed 45 = .ok (.iload_n 1, 1) := by decide +kernel
theorem dX8_renewed_46 : decode cX8_renewed 46 = .ok (.iload_n 2, 1) := by decide +kernel
theorem dX8_renewed_47 : decode cX8_renewed 47 = .ok (.invokevirtual 174, 3) := by decide +kernel
theorem dX8_renewed_50 : decode cX8_renewed 50 = .ok (.istore 4, 2) := by decide +kernel
theorem dX8_renewed_52 : decode cX8_renewed 52 = .ok (.iload_n 3, 1) := by decide +kernel
theorem dX8_renewed_53 : decode cX8_renewed 53 = .ok (.ifCond .lt 10, 3) := by decide +kernel
theorem dX8_renewed_56 : decode cX8_renewed 56 = .ok (.iload 4, 2) := by decide +kernel
theorem dX8_renewed_58 : decode cX8_renewed 58 = .ok (.bipush (-6), 2) := by decide +kernel
theorem dX8_renewed_60 : decode cX8_renewed 60 = .ok (.if_icmp .ne 8, 3) := by decide +kernel
theorem dX8_renewed_63 : decode cX8_renewed 63 = .ok (.iload 4, 2) := by decide +kernel
theorem dX8_renewed_65 : decode cX8_renewed 65 = .ok (.goto 11, 3) := by decide +kernel
theorem dX8_renewed_68 : decode cX8_renewed 68 = .ok (.aload_n 0, 1) := by decide +kernel
theorem dX8_renewed_69 : decode cX8_renewed 69 = .ok (.getfield 48, 3) := by decide +kernel
theorem dX8_renewed_72 : decode cX8_renewed 72 = .ok (.iload_n 3, 1) := by decide +kernel
theorem dX8_renewed_73 : decode cX8_renewed 73 = .ok (.invokevirtual 178, 3) := by decide +kernel
theorem dX8_renewed_76 : decode cX8_renewed 76 = .ok (.ireturn, 1) := by decide +kernel
theorem dX8_soon_0 : decode cX8_soon 0 = .ok (.iload_n 3, 1) := by decide +kernel
theorem dX8_soon_1 : decode cX8_soon 1 = .ok (.iconst 0, 1) := by decide +kernel
theorem dX8_soon_2 : decode cX8_soon 2 = .ok (.iconst 3, 1) := by decide +kernel
theorem dX8_soon_3 : decode cX8_soon 3 = .ok (.invokestatic 59, 3) := by decide +kernel
theorem dX8_soon_6 : decode cX8_soon 6 = .ok (.ifCond .ne 5, 3) := by decide +kernel
theorem dX8_soon_9 : decode cX8_soon 9 = .ok (.iconst (-1), 1) := by decide +kernel
theorem dX8_soon_10 : decode cX8_soon 10 = .ok (.ireturn, 1) := by decide +kernel
theorem dX8_soon_11 : decode cX8_soon 11 = .ok (.iload_n 1, 1) := by decide +kernel
theorem dX8_soon_12 : decode cX8_soon 12 = .ok (.iconst 1, 1) := by decide +kernel
theorem dX8_soon_13 : decode cX8_soon 13 = .ok (.bipush 63, 2) := by decide +kernel
theorem dX8_soon_15 : decode cX8_soon 15 = .ok (.invokestatic 59, 3) := by decide +kernel
theorem dX8_soon_18 : decode cX8_soon 18 = .ok (.ifCond .eq 25, 3) := by decide +kernel
theorem dX8_soon_21 : decode cX8_soon 21 = .ok (.iload_n 2, 1) := by decide +kernel
theorem dX8_soon_22 : decode cX8_soon 22 = .ok (.iconst 1, 1) := by decide +kernel
theorem dX8_soon_23 : decode cX8_soon 23 = .ok (.bipush 9, 2) := by decide +kernel
theorem dX8_soon_25 : decode cX8_soon 25 = .ok (.invokestatic 59, 3) := by decide +kernel
theorem dX8_soon_28 : decode cX8_soon 28 = .ok (.ifCond .eq 15, 3) := by decide +kernel
theorem dX8_soon_31 : decode cX8_soon 31 = .ok (.iload 4, 2) := by decide +kernel
theorem dX8_soon_33 : decode cX8_soon 33 = .ok (.iconst 0, 1) := by decide +kernel
theorem dX8_soon_34 : decode cX8_soon 34 = .ok (.sipush 9999, 3) := by decide +kernel
theorem dX8_soon_37 : decode cX8_soon 37 = .ok (.invokestatic 59, 3) := by decide +kernel
theorem dX8_soon_40 : decode cX8_soon 40 = .ok (.ifCond .ne 6, 3) := by decide +kernel
theorem dX8_soon_43 : decode cX8_soon 43 = .ok (.bipush (-2), 2) := by decide +kernel
theorem dX8_soon_45 : decode cX8_soon 45 = .ok (.ireturn, 1) := by decide +kernel
theorem dX8_soon_46 : decode cX8_soon 46 = .ok (.aload_n 0, 1) := by decide +kernel
theorem dX8_soon_47 : decode cX8_soon 47 = .ok (.getfield 34, 3) := by decide +kernel
theorem dX8_soon_50 : decode cX8_soon 50 = .ok (.aload_n 0, 1) := by decide +kernel
theorem dX8_soon_51 : decode cX8_soon 51 = .ok (.getfield 19, 3) := by decide +kernel
theorem dX8_soon_54 : decode cX8_soon 54 = .ok (.getfield 63, 3) := by decide +kernel
theorem dX8_soon_57 : decode cX8_soon 57 = .ok (.invokevirtual 101, 3) := by decide +kernel
theorem dX8_soon_60 : decode cX8_soon 60 = .ok (.iconst 0, 1) := by decide +kernel
theorem dX8_soon_61 : decode cX8_soon 61 = .ok (.istore 5, 2) := by decide +kernel
theorem dX8_soon_63 : decode cX8_soon 63 = .ok (.iload 5, 2) := by decide +kernel
theorem dX8_soon_65 : decode cX8_soon 65 = .ok (.bipush 30, 2) := by decide +kernel
theorem dX8_soon_67 : decode cX8_soon 67 = .ok (.if_icmp .gt 42, 3) := by decide +kernel
theorem dX8_soon_70 : decode cX8_soon 70 = .ok (.aload_n 0, 1) := by decide +kernel
theorem dX8_soon_71 : decode cX8_soon 71 = .ok (.getfield 34, 3) := by decide +kernel
theorem dX8_soon_74 : decode cX8_soon 74 = .ok (.iconst 0, 1) := by decide +kernel
theorem dX8_soon_75 : decode cX8_soon 75 = .ok (.invokevirtual 127, 3) := by decide +kernel
theorem dX8_soon_78 : decode cX8_soon 78 = .ok (.iload 4, 2) := by decide +kernel
theorem dX8_soon_80 : decode cX8_soon 80 = .ok (.if_icmp .lt 6, 3) := by decide +kernel
theorem dX8_soon_83 : decode cX8_soon 83 = .ok (.iload 5, 2) := by decide +kernel
theorem dX8_soon_85 : decode cX8_soon 85 = .ok (.ireturn, 1) := by decide +kernel
theorem dX8_soon_86 : decode cX8_soon 86 = .ok (.aload_n 0, 1) := by decide +kernel
theorem dX8_soon_87 : decode cX8_soon 87 = .ok (.getfield 34, 3) := by decide +kernel
theorem dX8_soon_90 : decode cX8_soon 90 = .ok (.iload_n 1, 1) := by decide +kernel
theorem dX8_soon_91 : decode cX8_soon 91 = .ok (.iload_n 2, 1) := by decide +kernel
theorem dX8_soon_92 : decode cX8_soon 92 = .ok (.iload_n 3, 1) := by decide +kernel
theorem dX8_soon_93 : decode cX8_soon 93 = .ok (.invokevirtual 181, 3) := by decide +kernel
theorem dX8_soon_96 : decode cX8_soon 96 = .ok (.aload_n 0, 1) := by decide +kernel
theorem dX8_soon_97 : decode cX8_soon 97 = .ok (.getfield 34, 3) := by decide +kernel
theorem dX8_soon_100 : decode cX8_soon 100 = .ok (.invokevirtual 185, 3) := by decide +kernel
theorem dX8_soon_103 : decode cX8_soon 103 = .ok (.iinc 5 1, 3) := by decide +kernel
theorem dX8_soon_106 : decode cX8_soon 106 = .ok (.goto (-43), 3) := by decide +kernel
theorem dX8_soon_109 : decode cX8_soon 109 = .ok (.bipush (-6), 2) := by decide +kernel
theorem dX8_soon_111 : decode cX8_soon 111 = .ok (.ireturn, 1) := by decide +kernel
theorem dX8_weighed_0 : decode cX8_weighed 0 = .ok (.iload_n 1, 1) := by decide +kernel
theorem dX8_weighed_1 : decode cX8_weighed 1 = .ok (.iconst 1, 1) := by decide +kernel
theorem dX8_weighed_2 : decode cX8_weighed 2 = .ok (.bipush 63, 2) := by decide +kernel
theorem dX8_weighed_4 : decode cX8_weighed 4 = .ok (.invokestatic 59, 3) := by decide +kernel
theorem dX8_weighed_7 : decode cX8_weighed 7 = .ok (.ifCond .eq 14, 3) := by decide +kernel
theorem dX8_weighed_10 : decode cX8_weighed 10 = .ok (.iload_n 2, 1) := by decide +kernel
theorem dX8_weighed_11 : decode cX8_weighed 11 = .ok (.iconst 0, 1) := by decide +kernel
theorem dX8_weighed_12 : decode cX8_weighed 12 = .ok (.sipush 240, 3) := by decide +kernel
theorem dX8_weighed_15 : decode cX8_weighed 15 = .ok (.invokestatic 59, 3) := by decide +kernel
theorem dX8_weighed_18 : decode cX8_weighed 18 = .ok (.ifCond .ne 6, 3) := by decide +kernel
theorem dX8_weighed_21 : decode cX8_weighed 21 = .ok (.bipush (-2), 2) := by decide +kernel
theorem dX8_weighed_23 : decode cX8_weighed 23 = .ok (.ireturn, 1) := by decide +kernel
theorem dX8_weighed_24 : decode cX8_weighed 24 = .ok (.aload_n 0, 1) := by decide +kernel
theorem dX8_weighed_25 : decode cX8_weighed 25 = .ok (.getfield 19, 3) := by decide +kernel
theorem dX8_weighed_28 : decode cX8_weighed 28 = .ok (.getfield 188, 3) := by decide +kernel
theorem dX8_weighed_31 : decode cX8_weighed 31 = .ok (.iload_n 1, 1) := by decide +kernel
theorem dX8_weighed_32 : decode cX8_weighed 32 = .ok (.iload_n 2, 1) := by decide +kernel
theorem dX8_weighed_33 : decode cX8_weighed 33 = .ok (.invokevirtual 157, 3) := by decide +kernel
theorem dX8_weighed_36 : decode cX8_weighed 36 = .ok (.ifCond .eq 16, 3) := by decide +kernel
theorem dX8_weighed_39 : decode cX8_weighed 39 = .ok (.aload_n 0, 1) := by decide +kernel
theorem dX8_weighed_40 : decode cX8_weighed 40 = .ok (.getfield 19, 3) := by decide +kernel
theorem dX8_weighed_43 : decode cX8_weighed 43 = .ok (.getfield 188, 3) := by decide +kernel
theorem dX8_weighed_46 : decode cX8_weighed 46 = .ok (.getfield 162, 3) := by decide +kernel
theorem dX8_weighed_49 : decode cX8_weighed 49 = .ok (.goto 5, 3) := by decide +kernel
theorem dX8_weighed_52 : decode cX8_weighed 52 = .ok (.bipush (-4), 2) := by decide +kernel
theorem dX8_weighed_54 : decode cX8_weighed 54 = .ok (.ireturn, 1) := by decide +kernel
theorem dX8_forget_0 : decode cX8_forget 0 = .ok (.aload_n 0, 1) := by decide +kernel
theorem dX8_forget_1 : decode cX8_forget 1 = .ok (.getfield 19, 3) := by decide +kernel
theorem dX8_forget_4 : decode cX8_forget 4 = .ok (.getfield 188, 3) := by decide +kernel
theorem dX8_forget_7 : decode cX8_forget 7 = .ok (.invokevirtual 163, 3) := by decide +kernel
theorem dX8_forget_10 : decode cX8_forget 10 = .ok (.ireturn, 1) := by decide +kernel
theorem dX8_canBe_0 : decode cX8_canBe 0 = .ok (.aload_n 0, 1) := by decide +kernel
theorem dX8_canBe_1 : decode cX8_canBe 1 = .ok (.getfield 55, 3) := by decide +kernel
theorem dX8_canBe_4 : decode cX8_canBe 4 = .ok (.aload_n 0, 1) := by decide +kernel
theorem dX8_canBe_5 : decode cX8_canBe 5 = .ok (.getfield 19, 3) := by decide +kernel
theorem dX8_canBe_8 : decode cX8_canBe 8 = .ok (.getfield 63, 3) := by decide +kernel
theorem dX8_canBe_11 : decode cX8_canBe 11 = .ok (.getfield 66, 3) := by decide +kernel
theorem dX8_canBe_14 : decode cX8_canBe 14 = .ok (.aload_n 0, 1) := by decide +kernel
theorem dX8_canBe_15 : decode cX8_canBe 15 = .ok (.getfield 19, 3) := by decide +kernel
theorem dX8_canBe_18 : decode cX8_canBe 18 = .ok (.getfield 188, 3) := by decide +kernel
theorem dX8_canBe_21 : decode cX8_canBe 21 = .ok (.invokevirtual 191, 3) := by decide +kernel
theorem dX8_canBe_24 : decode cX8_canBe 24 = .ok (.iload_n 1, 1) := by decide +kernel
theorem dX8_canBe_25 : decode cX8_canBe 25 = .ok (.iconst (-1), 1) := by decide +kernel
theorem dX8_canBe_26 : decode cX8_canBe 26 = .ok (.if_icmp .ne 11, 3) := by decide +kernel
theorem dX8_canBe_29 : decode cX8_canBe 29 = .ok (.aload_n 0, 1) := by decide +kernel
theorem dX8_canBe_30 : decode cX8_canBe 30 = .ok (.getfield 55, 3) := by decide +kernel
theorem dX8_canBe_33 : decode cX8_canBe 33 = .ok (.getfield 195, 3) := by decide +kernel
theorem dX8_canBe_36 : decode cX8_canBe 36 = .ok (.ireturn, 1) := by decide +kernel
theorem dX8_canBe_37 : decode cX8_canBe 37 = .ok (.iload_n 1, 1) := by decide +kernel
theorem dX8_canBe_38 : decode cX8_canBe 38 = .ok (.iconst 0, 1) := by decide +kernel
theorem dX8_canBe_39 : decode cX8_canBe 39 = .ok (.aload_n 0, 1) := by decide +kernel
theorem dX8_canBe_40 : decode cX8_canBe 40 = .ok (.getfield 55, 3) := by decide +kernel
theorem dX8_canBe_43 : decode cX8_canBe 43 = .ok (.getfield 195, 3) := by decide +kernel
theorem dX8_canBe_46 : decode cX8_canBe 46 = .ok (.iconst 1, 1) := by decide +kernel
theorem dX8_canBe_47 : decode cX8_canBe 47 = .ok (.isub, 1) := by decide +kernel
theorem dX8_canBe_48 : decode cX8_canBe 48 = .ok (.invokestatic 59, 3) := by decide +kernel
theorem dX8_canBe_51 : decode cX8_canBe 51 = .ok (.ifCond .eq 15, 3) := by decide +kernel
theorem dX8_canBe_54 : decode cX8_canBe 54 = .ok (.aload_n 0, 1) := by decide +kernel
theorem dX8_canBe_55 : decode cX8_canBe 55 = .ok (.getfield 55, 3) := by decide +kernel
theorem dX8_canBe_58 : decode cX8_canBe 58 = .ok (.getfield 196, 3) := by decide +kernel
theorem dX8_canBe_61 : decode cX8_canBe 61 = .ok (.iload_n 1, 1) := by decide +kernel
theorem dX8_canBe_62 : decode cX8_canBe 62 = .ok (.iaload, 1) := by decide +kernel
theorem dX8_canBe_63 : decode cX8_canBe 63 = .ok (.goto 5, 3) := by decide +kernel
theorem dX8_canBe_66 : decode cX8_canBe 66 = .ok (.bipush (-6), 2) := by decide +kernel
theorem dX8_canBe_68 : decode cX8_canBe 68 = .ok (.ireturn, 1) := by decide +kernel
theorem dX8_sure_0 : decode cX8_sure 0 = .ok (.iload_n 1, 1) := by decide +kernel
theorem dX8_sure_1 : decode cX8_sure 1 = .ok (.iconst 0, 1) := by decide +kernel
theorem dX8_sure_2 : decode cX8_sure 2 = .ok (.iconst 2, 1) := by decide +kernel
theorem dX8_sure_3 : decode cX8_sure 3 = .ok (.invokestatic 59, 3) := by decide +kernel
theorem dX8_sure_6 : decode cX8_sure 6 = .ok (.ifCond .ne 6, 3) := by decide +kernel
theorem dX8_sure_9 : decode cX8_sure 9 = .ok (.bipush (-2), 2) := by decide +kernel
theorem dX8_sure_11 : decode cX8_sure 11 = .ok (.ireturn, 1) := by decide +kernel
theorem dX8_sure_12 : decode cX8_sure 12 = .ok (.aload_n 0, 1) := by decide +kernel
theorem dX8_sure_13 : decode cX8_sure 13 = .ok (.getfield 55, 3) := by decide +kernel
theorem dX8_sure_16 : decode cX8_sure 16 = .ok (.aload_n 0, 1) := by decide +kernel
theorem dX8_sure_17 : decode cX8_sure 17 = .ok (.getfield 19, 3) := by decide +kernel
theorem dX8_sure_20 : decode cX8_sure 20 = .ok (.getfield 63, 3) := by decide +kernel
theorem dX8_sure_23 : decode cX8_sure 23 = .ok (.getfield 66, 3) := by decide +kernel
theorem dX8_sure_26 : decode cX8_sure 26 = .ok (.aload_n 0, 1) := by decide +kernel
theorem dX8_sure_27 : decode cX8_sure 27 = .ok (.getfield 19, 3) := by decide +kernel
theorem dX8_sure_30 : decode cX8_sure 30 = .ok (.getfield 188, 3) := by decide +kernel
theorem dX8_sure_33 : decode cX8_sure 33 = .ok (.invokevirtual 191, 3) := by decide +kernel
theorem dX8_sure_36 : decode cX8_sure 36 = .ok (.aload_n 0, 1) := by decide +kernel
theorem dX8_sure_37 : decode cX8_sure 37 = .ok (.getfield 55, 3) := by decide +kernel
theorem dX8_sure_40 : decode cX8_sure 40 = .ok (.getfield 195, 3) := by decide +kernel
theorem dX8_sure_43 : decode cX8_sure 43 = .ok (.ifCond .ne 6, 3) := by decide +kernel
theorem dX8_sure_46 : decode cX8_sure 46 = .ok (.bipush (-5), 2) := by decide +kernel
theorem dX8_sure_48 : decode cX8_sure 48 = .ok (.ireturn, 1) := by decide +kernel
theorem dX8_sure_49 : decode cX8_sure 49 = .ok (.iload_n 1, 1) := by decide +kernel
theorem dX8_sure_50 : decode cX8_sure 50 = .ok (.lookupswitch 42 #[(0, 26), (1, 34)], 26) := by decide +kernel
theorem dX8_sure_76 : decode cX8_sure 76 = .ok (.aload_n 0, 1) := by decide +kernel
theorem dX8_sure_77 : decode cX8_sure 77 = .ok (.getfield 55, 3) := by decide +kernel
theorem dX8_sure_80 : decode cX8_sure 80 = .ok (.invokevirtual 199, 3) := by decide +kernel
theorem dX8_sure_83 : decode cX8_sure 83 = .ok (.ireturn, 1) := by decide +kernel
theorem dX8_sure_84 : decode cX8_sure 84 = .ok (.aload_n 0, 1) := by decide +kernel
theorem dX8_sure_85 : decode cX8_sure 85 = .ok (.getfield 55, 3) := by decide +kernel
theorem dX8_sure_88 : decode cX8_sure 88 = .ok (.invokevirtual 202, 3) := by decide +kernel
theorem dX8_sure_91 : decode cX8_sure 91 = .ok (.ireturn, 1) := by decide +kernel
theorem dX8_sure_92 : decode cX8_sure 92 = .ok (.aload_n 0, 1) := by decide +kernel
theorem dX8_sure_93 : decode cX8_sure 93 = .ok (.getfield 55, 3) := by decide +kernel
theorem dX8_sure_96 : decode cX8_sure 96 = .ok (.invokevirtual 205, 3) := by decide +kernel
theorem dX8_sure_99 : decode cX8_sure 99 = .ok (.ireturn, 1) := by decide +kernel
theorem dX8_year_0 : decode cX8_year 0 = .ok (.iload_n 1, 1) := by decide +kernel
theorem dX8_year_1 : decode cX8_year 1 = .ok (.iconst 0, 1) := by decide +kernel
theorem dX8_year_2 : decode cX8_year 2 = .ok (.sipush 9999, 3) := by decide +kernel
theorem dX8_year_5 : decode cX8_year 5 = .ok (.invokestatic 59, 3) := by decide +kernel
theorem dX8_year_8 : decode cX8_year 8 = .ok (.ifCond .eq 22, 3) := by decide +kernel
theorem dX8_year_11 : decode cX8_year 11 = .ok (.iload_n 2, 1) := by decide +kernel
theorem dX8_year_12 : decode cX8_year 12 = .ok (.iconst 1, 1) := by decide +kernel
theorem dX8_year_13 : decode cX8_year 13 = .ok (.bipush 60, 2) := by decide +kernel
theorem dX8_year_15 : decode cX8_year 15 = .ok (.invokestatic 59, 3) := by decide +kernel
theorem dX8_year_18 : decode cX8_year 18 = .ok (.ifCond .eq 12, 3) := by decide +kernel
theorem dX8_year_21 : decode cX8_year 21 = .ok (.iload_n 3, 1) := by decide +kernel
theorem dX8_year_22 : decode cX8_year 22 = .ok (.iconst 0, 1) := by decide +kernel
theorem dX8_year_23 : decode cX8_year 23 = .ok (.iconst 1, 1) := by decide +kernel
theorem dX8_year_24 : decode cX8_year 24 = .ok (.invokestatic 59, 3) := by decide +kernel
theorem dX8_year_27 : decode cX8_year 27 = .ok (.ifCond .ne 6, 3) := by decide +kernel
theorem dX8_year_30 : decode cX8_year 30 = .ok (.bipush (-2), 2) := by decide +kernel
theorem dX8_year_32 : decode cX8_year 32 = .ok (.ireturn, 1) := by decide +kernel
theorem dX8_year_33 : decode cX8_year 33 = .ok (.aload_n 0, 1) := by decide +kernel
theorem dX8_year_34 : decode cX8_year 34 = .ok (.getfield 34, 3) := by decide +kernel
theorem dX8_year_37 : decode cX8_year 37 = .ok (.aload_n 0, 1) := by decide +kernel
theorem dX8_year_38 : decode cX8_year 38 = .ok (.getfield 19, 3) := by decide +kernel
theorem dX8_year_41 : decode cX8_year 41 = .ok (.getfield 63, 3) := by decide +kernel
theorem dX8_year_44 : decode cX8_year 44 = .ok (.invokevirtual 101, 3) := by decide +kernel
theorem dX8_year_47 : decode cX8_year 47 = .ok (.iload_n 1, 1) := by decide +kernel
theorem dX8_year_48 : decode cX8_year 48 = .ok (.istore 4, 2) := by decide +kernel
theorem dX8_year_50 : decode cX8_year 50 = .ok (.iconst 0, 1) := by decide +kernel
theorem dX8_year_51 : decode cX8_year 51 = .ok (.istore 5, 2) := by decide +kernel
theorem dX8_year_53 : decode cX8_year 53 = .ok (.iconst 0, 1) := by decide +kernel
theorem dX8_year_54 : decode cX8_year 54 = .ok (.istore 6, 2) := by decide +kernel
theorem dX8_year_56 : decode cX8_year 56 = .ok (.iconst 0, 1) := by decide +kernel
theorem dX8_year_57 : decode cX8_year 57 = .ok (.istore 7, 2) := by decide +kernel
theorem dX8_year_59 : decode cX8_year 59 = .ok (.iload 7, 2) := by decide +kernel
theorem dX8_year_61 : decode cX8_year 61 = .ok (.iload_n 2, 1) := by decide +kernel
theorem dX8_year_62 : decode cX8_year 62 = .ok (.if_icmp .ge 56, 3) := by decide +kernel
theorem dX8_year_65 : decode cX8_year 65 = .ok (.aload_n 0, 1) := by decide +kernel
theorem dX8_year_66 : decode cX8_year 66 = .ok (.getfield 34, 3) := by decide +kernel
theorem dX8_year_69 : decode cX8_year 69 = .ok (.iload 4, 2) := by decide +kernel
theorem dX8_year_71 : decode cX8_year 71 = .ok (.invokevirtual 208, 3) := by decide +kernel
theorem dX8_year_74 : decode cX8_year 74 = .ok (.istore 4, 2) := by decide +kernel
theorem dX8_year_76 : decode cX8_year 76 = .ok (.aload_n 0, 1) := by decide +kernel
theorem dX8_year_77 : decode cX8_year 77 = .ok (.getfield 34, 3) := by decide +kernel
theorem dX8_year_80 : decode cX8_year 80 = .ok (.invokevirtual 185, 3) := by decide +kernel
theorem dX8_year_83 : decode cX8_year 83 = .ok (.aload_n 0, 1) := by decide +kernel
theorem dX8_year_84 : decode cX8_year 84 = .ok (.getfield 34, 3) := by decide +kernel
theorem dX8_year_87 : decode cX8_year 87 = .ok (.iconst 0, 1) := by decide +kernel
theorem dX8_year_88 : decode cX8_year 88 = .ok (.invokevirtual 127, 3) := by decide +kernel
theorem dX8_year_91 : decode cX8_year 91 = .ok (.istore 5, 2) := by decide +kernel
theorem dX8_year_93 : decode cX8_year 93 = .ok (.iload 7, 2) := by decide +kernel
theorem dX8_year_95 : decode cX8_year 95 = .ok (.ifCond .ne 8, 3) := by decide +kernel
theorem dX8_year_98 : decode cX8_year 98 = .ok (.iload 5, 2) := by decide +kernel
theorem dX8_year_100 : decode cX8_year 100 = .ok (.goto 10, 3) := by decide +kernel
theorem dX8_year_103 : decode cX8_year 103 = .ok (.iload 6, 2) := by decide +kernel
theorem dX8_year_105 : decode cX8_year 105 = .ok (.iload 5, 2) := by decide +kernel
theorem dX8_year_107 : decode cX8_year 107 = .ok (.invokestatic 211, 3) := by decide +kernel
theorem dX8_year_110 : decode cX8_year 110 = .ok (.istore 6, 2) := by decide +kernel
theorem dX8_year_112 : decode cX8_year 112 = .ok (.iinc 7 1, 3) := by decide +kernel
theorem dX8_year_115 : decode cX8_year 115 = .ok (.goto (-56), 3) := by decide +kernel
theorem dX8_year_118 : decode cX8_year 118 = .ok (.iload_n 3, 1) := by decide +kernel
theorem dX8_year_119 : decode cX8_year 119 = .ok (.ifCond .ne 8, 3) := by decide +kernel
theorem dX8_year_122 : decode cX8_year 122 = .ok (.iload 5, 2) := by decide +kernel
theorem dX8_year_124 : decode cX8_year 124 = .ok (.goto 5, 3) := by decide +kernel
theorem dX8_year_127 : decode cX8_year 127 = .ok (.iload 6, 2) := by decide +kernel
theorem dX8_year_129 : decode cX8_year 129 = .ok (.ireturn, 1) := by decide +kernel
theorem dX8_image_0 : decode cX8_image 0 = .ok (.iload_n 1, 1) := by decide +kernel
theorem dX8_image_1 : decode cX8_image 1 = .ok (.iconst 0, 1) := by decide +kernel
theorem dX8_image_2 : decode cX8_image 2 = .ok (.iconst 1, 1) := by decide +kernel
theorem dX8_image_3 : decode cX8_image 3 = .ok (.invokestatic 59, 3) := by decide +kernel
theorem dX8_image_6 : decode cX8_image 6 = .ok (.ifCond .ne 6, 3) := by decide +kernel
theorem dX8_image_9 : decode cX8_image 9 = .ok (.bipush (-2), 2) := by decide +kernel
theorem dX8_image_11 : decode cX8_image 11 = .ok (.ireturn, 1) := by decide +kernel
theorem dX8_image_12 : decode cX8_image 12 = .ok (.aload_n 0, 1) := by decide +kernel
theorem dX8_image_13 : decode cX8_image 13 = .ok (.getfield 23, 3) := by decide +kernel
theorem dX8_image_16 : decode cX8_image 16 = .ok (.iload_n 1, 1) := by decide +kernel
theorem dX8_image_17 : decode cX8_image 17 = .ok (.aaload, 1) := by decide +kernel
theorem dX8_image_18 : decode cX8_image 18 = .ok (.aload_n 0, 1) := by decide +kernel
theorem dX8_image_19 : decode cX8_image 19 = .ok (.getfield 19, 3) := by decide +kernel
theorem dX8_image_22 : decode cX8_image 22 = .ok (.invokevirtual 216, 3) := by decide +kernel
theorem dX8_image_25 : decode cX8_image 25 = .ok (.aload_n 0, 1) := by decide +kernel
theorem dX8_image_26 : decode cX8_image 26 = .ok (.getfield 27, 3) := by decide +kernel
theorem dX8_image_29 : decode cX8_image 29 = .ok (.iload_n 1, 1) := by decide +kernel
theorem dX8_image_30 : decode cX8_image 30 = .ok (.iconst 1, 1) := by decide +kernel
theorem dX8_image_31 : decode cX8_image 31 = .ok (.bastore, 1) := by decide +kernel
theorem dX8_image_32 : decode cX8_image 32 = .ok (.iconst 1, 1) := by decide +kernel
theorem dX8_image_33 : decode cX8_image 33 = .ok (.ireturn, 1) := by decide +kernel
theorem dX8_restore_0 : decode cX8_restore 0 = .ok (.iload_n 1, 1) := by decide +kernel
theorem dX8_restore_1 : decode cX8_restore 1 = .ok (.iconst 0, 1) := by decide +kernel
theorem dX8_restore_2 : decode cX8_restore 2 = .ok (.iconst 1, 1) := by decide +kernel
theorem dX8_restore_3 : decode cX8_restore 3 = .ok (.invokestatic 59, 3) := by decide +kernel
theorem dX8_restore_6 : decode cX8_restore 6 = .ok (.ifCond .ne 6, 3) := by decide +kernel
theorem dX8_restore_9 : decode cX8_restore 9 = .ok (.bipush (-2), 2) := by decide +kernel
theorem dX8_restore_11 : decode cX8_restore 11 = .ok (.ireturn, 1) := by decide +kernel
theorem dX8_restore_12 : decode cX8_restore 12 = .ok (.aload_n 0, 1) := by decide +kernel
theorem dX8_restore_13 : decode cX8_restore 13 = .ok (.getfield 27, 3) := by decide +kernel
theorem dX8_restore_16 : decode cX8_restore 16 = .ok (.iload_n 1, 1) := by decide +kernel
theorem dX8_restore_17 : decode cX8_restore 17 = .ok (.baload, 1) := by decide +kernel
theorem dX8_restore_18 : decode cX8_restore 18 = .ok (.ifCond .ne 6, 3) := by decide +kernel
theorem dX8_restore_21 : decode cX8_restore 21 = .ok (.bipush (-3), 2) := by decide +kernel
theorem dX8_restore_23 : decode cX8_restore 23 = .ok (.ireturn, 1) := by decide +kernel
theorem dX8_restore_24 : decode cX8_restore 24 = .ok (.aload_n 0, 1) := by decide +kernel
theorem dX8_restore_25 : decode cX8_restore 25 = .ok (.getfield 19, 3) := by decide +kernel
theorem dX8_restore_28 : decode cX8_restore 28 = .ok (.aload_n 0, 1) := by decide +kernel
theorem dX8_restore_29 : decode cX8_restore 29 = .ok (.getfield 23, 3) := by decide +kernel
theorem dX8_restore_32 : decode cX8_restore 32 = .ok (.iload_n 1, 1) := by decide +kernel
theorem dX8_restore_33 : decode cX8_restore 33 = .ok (.aaload, 1) := by decide +kernel
theorem dX8_restore_34 : decode cX8_restore 34 = .ok (.invokevirtual 216, 3) := by decide +kernel
theorem dX8_restore_37 : decode cX8_restore 37 = .ok (.iconst 1, 1) := by decide +kernel
theorem dX8_restore_38 : decode cX8_restore 38 = .ok (.ireturn, 1) := by decide +kernel
theorem dX8_told_0 : decode cX8_told 0 = .ok (.iload_n 1, 1) := by decide +kernel
theorem dX8_told_1 : decode cX8_told 1 = .ok (.tableswitch 87 0 4 #[35, 43, 54, 65, 76], 35) := by decide +kernel
theorem dX8_told_36 : decode cX8_told 36 = .ok (.aload_n 0, 1) := by decide +kernel
theorem dX8_told_37 : decode cX8_told 37 = .ok (.getfield 10, 3) := by decide +kernel
theorem dX8_told_40 : decode cX8_told 40 = .ok (.getfield 81, 3) := by decide +kernel
theorem dX8_told_43 : decode cX8_told 43 = .ok (.ireturn, 1) := by decide +kernel
theorem dX8_told_44 : decode cX8_told 44 = .ok (.aload_n 0, 1) := by decide +kernel
theorem dX8_told_45 : decode cX8_told 45 = .ok (.getfield 19, 3) := by decide +kernel
theorem dX8_told_48 : decode cX8_told 48 = .ok (.getfield 63, 3) := by decide +kernel
theorem dX8_told_51 : decode cX8_told 51 = .ok (.getfield 73, 3) := by decide +kernel
theorem dX8_told_54 : decode cX8_told 54 = .ok (.ireturn, 1) := by decide +kernel
theorem dX8_told_55 : decode cX8_told 55 = .ok (.aload_n 0, 1) := by decide +kernel
theorem dX8_told_56 : decode cX8_told 56 = .ok (.getfield 19, 3) := by decide +kernel
theorem dX8_told_59 : decode cX8_told 59 = .ok (.getfield 63, 3) := by decide +kernel
theorem dX8_told_62 : decode cX8_told 62 = .ok (.getfield 118, 3) := by decide +kernel
theorem dX8_told_65 : decode cX8_told 65 = .ok (.ireturn, 1) := by decide +kernel
theorem dX8_told_66 : decode cX8_told 66 = .ok (.aload_n 0, 1) := by decide +kernel
theorem dX8_told_67 : decode cX8_told 67 = .ok (.getfield 19, 3) := by decide +kernel
theorem dX8_told_70 : decode cX8_told 70 = .ok (.getfield 153, 3) := by decide +kernel
theorem dX8_told_73 : decode cX8_told 73 = .ok (.getfield 162, 3) := by decide +kernel
theorem dX8_told_76 : decode cX8_told 76 = .ok (.ireturn, 1) := by decide +kernel
theorem dX8_told_77 : decode cX8_told 77 = .ok (.aload_n 0, 1) := by decide +kernel
theorem dX8_told_78 : decode cX8_told 78 = .ok (.getfield 19, 3) := by decide +kernel
theorem dX8_told_81 : decode cX8_told 81 = .ok (.getfield 188, 3) := by decide +kernel
theorem dX8_told_84 : decode cX8_told 84 = .ok (.getfield 162, 3) := by decide +kernel
theorem dX8_told_87 : decode cX8_told 87 = .ok (.ireturn, 1) := by decide +kernel
theorem dX8_told_88 : decode cX8_told 88 = .ok (.aload_n 0, 1) := by decide +kernel
theorem dX8_told_89 : decode cX8_told 89 = .ok (.iload_n 1, 1) := by decide +kernel
theorem dX8_told_90 : decode cX8_told 90 = .ok (.invokevirtual 219, 3) := by decide +kernel
theorem dX8_told_93 : decode cX8_told 93 = .ok (.ireturn, 1) := by decide +kernel
theorem dX8_toldOfOne_0 : decode cX8_toldOfOne 0 = .ok (.iload_n 1, 1) := by decide +kernel
theorem dX8_toldOfOne_1 : decode cX8_toldOfOne 1 = .ok (.bipush 10, 2) := by decide +kernel
theorem dX8_toldOfOne_3 : decode cX8_toldOfOne 3 = .ok (.bipush 15, 2) := by decide +kernel
theorem dX8_toldOfOne_5 : decode cX8_toldOfOne 5 = .ok (.invokestatic 59, 3) := by decide +kernel
theorem dX8_toldOfOne_8 : decode cX8_toldOfOne 8 = .ok (.ifCond .eq 19, 3) := by decide +kernel
theorem dX8_toldOfOne_11 : decode cX8_toldOfOne 11 = .ok (.aload_n 0, 1) := by decide +kernel
theorem dX8_toldOfOne_12 : decode cX8_toldOfOne 12 = .ok (.getfield 19, 3) := by decide +kernel
theorem dX8_toldOfOne_15 : decode cX8_toldOfOne 15 = .ok (.getfield 63, 3) := by decide +kernel
theorem dX8_toldOfOne_18 : decode cX8_toldOfOne 18 = .ok (.getfield 66, 3) := by decide +kernel
theorem dX8_toldOfOne_21 : decode cX8_toldOfOne 21 = .ok (.iload_n 1, 1) := by decide +kernel
theorem dX8_toldOfOne_22 : decode cX8_toldOfOne 22 = .ok (.bipush 10, 2) := by decide +kernel
theorem dX8_toldOfOne_24 : decode cX8_toldOfOne 24 = .ok (.isub, 1) := by decide +kernel
theorem dX8_toldOfOne_25 : decode cX8_toldOfOne 25 = .ok (.iaload, 1) := by decide +kernel
theorem dX8_toldOfOne_26 : decode cX8_toldOfOne 26 = .ok (.ireturn, 1) := by decide +kernel
theorem dX8_toldOfOne_27 : decode cX8_toldOfOne 27 = .ok (.iload_n 1, 1) := by decide +kernel
theorem dX8_toldOfOne_28 : decode cX8_toldOfOne 28 = .ok (.bipush 20, 2) := by decide +kernel
theorem dX8_toldOfOne_30 : decode cX8_toldOfOne 30 = .ok (.bipush 25, 2) := by decide +kernel
theorem dX8_toldOfOne_32 : decode cX8_toldOfOne 32 = .ok (.invokestatic 59, 3) := by decide +kernel
theorem dX8_toldOfOne_35 : decode cX8_toldOfOne 35 = .ok (.ifCond .eq 19, 3) := by decide +kernel
theorem dX8_toldOfOne_38 : decode cX8_toldOfOne 38 = .ok (.aload_n 0, 1) := by decide +kernel
theorem dX8_toldOfOne_39 : decode cX8_toldOfOne 39 = .ok (.getfield 19, 3) := by decide +kernel
theorem dX8_toldOfOne_42 : decode cX8_toldOfOne 42 = .ok (.getfield 63, 3) := by decide +kernel
theorem dX8_toldOfOne_45 : decode cX8_toldOfOne 45 = .ok (.getfield 70, 3) := by decide +kernel
theorem dX8_toldOfOne_48 : decode cX8_toldOfOne 48 = .ok (.iload_n 1, 1) := by decide +kernel
theorem dX8_toldOfOne_49 : decode cX8_toldOfOne 49 = .ok (.bipush 20, 2) := by decide +kernel
theorem dX8_toldOfOne_51 : decode cX8_toldOfOne 51 = .ok (.isub, 1) := by decide +kernel
theorem dX8_toldOfOne_52 : decode cX8_toldOfOne 52 = .ok (.iaload, 1) := by decide +kernel
theorem dX8_toldOfOne_53 : decode cX8_toldOfOne 53 = .ok (.ireturn, 1) := by decide +kernel
theorem dX8_toldOfOne_54 : decode cX8_toldOfOne 54 = .ok (.iload_n 1, 1) := by decide +kernel
theorem dX8_toldOfOne_55 : decode cX8_toldOfOne 55 = .ok (.bipush 30, 2) := by decide +kernel
theorem dX8_toldOfOne_57 : decode cX8_toldOfOne 57 = .ok (.bipush 35, 2) := by decide +kernel
theorem dX8_toldOfOne_59 : decode cX8_toldOfOne 59 = .ok (.invokestatic 59, 3) := by decide +kernel
theorem dX8_toldOfOne_62 : decode cX8_toldOfOne 62 = .ok (.ifCond .eq 19, 3) := by decide +kernel
theorem dX8_toldOfOne_65 : decode cX8_toldOfOne 65 = .ok (.aload_n 0, 1) := by decide +kernel
theorem dX8_toldOfOne_66 : decode cX8_toldOfOne 66 = .ok (.getfield 19, 3) := by decide +kernel
theorem dX8_toldOfOne_69 : decode cX8_toldOfOne 69 = .ok (.getfield 63, 3) := by decide +kernel
theorem dX8_toldOfOne_72 : decode cX8_toldOfOne 72 = .ok (.getfield 222, 3) := by decide +kernel
theorem dX8_toldOfOne_75 : decode cX8_toldOfOne 75 = .ok (.iload_n 1, 1) := by decide +kernel
theorem dX8_toldOfOne_76 : decode cX8_toldOfOne 76 = .ok (.bipush 30, 2) := by decide +kernel
theorem dX8_toldOfOne_78 : decode cX8_toldOfOne 78 = .ok (.isub, 1) := by decide +kernel
theorem dX8_toldOfOne_79 : decode cX8_toldOfOne 79 = .ok (.iaload, 1) := by decide +kernel
theorem dX8_toldOfOne_80 : decode cX8_toldOfOne 80 = .ok (.ireturn, 1) := by decide +kernel
theorem dX8_toldOfOne_81 : decode cX8_toldOfOne 81 = .ok (.iload_n 1, 1) := by decide +kernel
theorem dX8_toldOfOne_82 : decode cX8_toldOfOne 82 = .ok (.bipush 40, 2) := by decide +kernel
theorem dX8_toldOfOne_84 : decode cX8_toldOfOne 84 = .ok (.bipush 43, 2) := by decide +kernel
theorem dX8_toldOfOne_86 : decode cX8_toldOfOne 86 = .ok (.invokestatic 59, 3) := by decide +kernel
theorem dX8_toldOfOne_89 : decode cX8_toldOfOne 89 = .ok (.ifCond .eq 22, 3) := by decide +kernel
theorem dX8_toldOfOne_92 : decode cX8_toldOfOne 92 = .ok (.aload_n 0, 1) := by decide +kernel
theorem dX8_toldOfOne_93 : decode cX8_toldOfOne 93 = .ok (.getfield 19, 3) := by decide +kernel
theorem dX8_toldOfOne_96 : decode cX8_toldOfOne 96 = .ok (.getfield 63, 3) := by decide +kernel
theorem dX8_toldOfOne_99 : decode cX8_toldOfOne 99 = .ok (.getfield 105, 3) := by decide +kernel
theorem dX8_toldOfOne_102 : decode cX8_toldOfOne 102 = .ok (.iload_n 1, 1) := by decide +kernel
theorem dX8_toldOfOne_103 : decode cX8_toldOfOne 103 = .ok (.bipush 40, 2) := by decide +kernel
theorem dX8_toldOfOne_105 : decode cX8_toldOfOne 105 = .ok (.isub, 1) := by decide +kernel
theorem dX8_toldOfOne_106 : decode cX8_toldOfOne 106 = .ok (.aaload, 1) := by decide +kernel
theorem dX8_toldOfOne_107 : decode cX8_toldOfOne 107 = .ok (.getfield 109, 3) := by decide +kernel
theorem dX8_toldOfOne_110 : decode cX8_toldOfOne 110 = .ok (.ireturn, 1) := by decide +kernel
theorem dX8_toldOfOne_111 : decode cX8_toldOfOne 111 = .ok (.bipush (-2), 2) := by decide +kernel
theorem dX8_toldOfOne_113 : decode cX8_toldOfOne 113 = .ok (.ireturn, 1) := by decide +kernel
theorem dX8_tryText_0 : decode cX8_tryText 0 = .ok (.aload_n 0, 1) := by decide +kernel
theorem dX8_tryText_1 : decode cX8_tryText 1 = .ok (.getfield 34, 3) := by decide +kernel
theorem dX8_tryText_4 : decode cX8_tryText 4 = .ok (.aload_n 0, 1) := by decide +kernel
theorem dX8_tryText_5 : decode cX8_tryText 5 = .ok (.getfield 19, 3) := by decide +kernel
theorem dX8_tryText_8 : decode cX8_tryText 8 = .ok (.getfield 63, 3) := by decide +kernel
theorem dX8_tryText_11 : decode cX8_tryText 11 = .ok (.invokevirtual 101, 3) := by decide +kernel
theorem dX8_tryText_14 : decode cX8_tryText 14 = .ok (.aload_n 0, 1) := by decide +kernel
theorem dX8_tryText_15 : decode cX8_tryText 15 = .ok (.getfield 10, 3) := by decide +kernel
theorem dX8_tryText_18 : decode cX8_tryText 18 = .ok (.aload_n 0, 1) := by decide +kernel
theorem dX8_tryText_19 : decode cX8_tryText 19 = .ok (.getfield 34, 3) := by decide +kernel
theorem dX8_tryText_22 : decode cX8_tryText 22 = .ok (.invokevirtual 225, 3) := by decide +kernel
theorem dX8_tryText_25 : decode cX8_tryText 25 = .ok (.ireturn, 1) := by decide +kernel
theorem dX8_isIn_0 : decode cX8_isIn 0 = .ok (.iload_n 0, 1) := by decide +kernel
theorem dX8_isIn_1 : decode cX8_isIn 1 = .ok (.iload_n 1, 1) := by decide +kernel
theorem dX8_isIn_2 : decode cX8_isIn 2 = .ok (.if_icmp .lt 12, 3) := by decide +kernel
theorem dX8_isIn_5 : decode cX8_isIn 5 = .ok (.iload_n 0, 1) := by decide +kernel
theorem dX8_isIn_6 : decode cX8_isIn 6 = .ok (.iload_n 2, 1) := by decide +kernel
theorem dX8_isIn_7 : decode cX8_isIn 7 = .ok (.if_icmp .gt 7, 3) := by decide +kernel
theorem dX8_isIn_10 : decode cX8_isIn 10 = .ok (.iconst 1, 1) := by decide +kernel
theorem dX8_isIn_11 : decode cX8_isIn 11 = .ok (.goto 4, 3) := by decide +kernel
theorem dX8_isIn_14 : decode cX8_isIn 14 = .ok (.iconst 0, 1) := by decide +kernel
theorem dX8_isIn_15 : decode cX8_isIn 15 = .ok (.ireturn, 1) := by decide +kernel
theorem dX8_commonDivisor_0 : decode cX8_commonDivisor 0 = .ok (.iload_n 0, 1) := by decide +kernel
theorem dX8_commonDivisor_1 : decode cX8_commonDivisor 1 = .ok (.istore_n 2, 1) := by decide +kernel
theorem dX8_commonDivisor_2 : decode cX8_commonDivisor 2 = .ok (.iload_n 1, 1) := by decide +kernel
theorem dX8_commonDivisor_3 : decode cX8_commonDivisor 3 = .ok (.istore_n 3, 1) := by decide +kernel
theorem dX8_commonDivisor_4 : decode cX8_commonDivisor 4 = .ok (.iconst 0, 1) := by decide +kernel
theorem dX8_commonDivisor_5 : decode cX8_commonDivisor 5 = .ok (.istore 4, 2) := by decide +kernel
theorem dX8_commonDivisor_7 : decode cX8_commonDivisor 7 = .ok (.iload 4, 2) := by decide +kernel
theorem dX8_commonDivisor_9 : decode cX8_commonDivisor 9 = .ok (.bipush 100, 2) := by decide +kernel
theorem dX8_commonDivisor_11 : decode cX8_commonDivisor 11 = .ok (.if_icmp .ge 23, 3) := by decide +kernel
theorem dX8_commonDivisor_14 : decode cX8_commonDivisor 14 = .ok (.iload_n 3, 1) := by decide +kernel
theorem dX8_commonDivisor_15 : decode cX8_commonDivisor 15 = .ok (.ifCond .eq 19, 3) := by decide +kernel
theorem dX8_commonDivisor_18 : decode cX8_commonDivisor 18 = .ok (.iload_n 2, 1) := by decide +kernel
theorem dX8_commonDivisor_19 : decode cX8_commonDivisor 19 = .ok (.iload_n 3, 1) := by decide +kernel
theorem dX8_commonDivisor_20 : decode cX8_commonDivisor 20 = .ok (.irem, 1) := by decide +kernel
theorem dX8_commonDivisor_21 : decode cX8_commonDivisor 21 = .ok (.istore 5, 2) := by decide +kernel
theorem dX8_commonDivisor_23 : decode cX8_commonDivisor 23 = .ok (.iload_n 3, 1) := by decide +kernel
theorem dX8_commonDivisor_24 : decode cX8_commonDivisor 24 = .ok (.istore_n 2, 1) := by decide +kernel
theorem dX8_commonDivisor_25 : decode cX8_commonDivisor 25 = .ok (.iload 5, 2) := by decide +kernel
theorem dX8_commonDivisor_27 : decode cX8_commonDivisor 27 = .ok (.istore_n 3, 1) := by decide +kernel
theorem dX8_commonDivisor_28 : decode cX8_commonDivisor 28 = .ok (.iinc 4 1, 3) := by decide +kernel
theorem dX8_commonDivisor_31 : decode cX8_commonDivisor 31 = .ok (.goto (-24), 3) := by decide +kernel
theorem dX8_commonDivisor_34 : decode cX8_commonDivisor 34 = .ok (.iconst 1, 1) := by decide +kernel
theorem dX8_commonDivisor_35 : decode cX8_commonDivisor 35 = .ok (.iload_n 2, 1) := by decide +kernel
theorem dX8_commonDivisor_36 : decode cX8_commonDivisor 36 = .ok (.invokestatic 229, 3) := by decide +kernel
theorem dX8_commonDivisor_39 : decode cX8_commonDivisor 39 = .ok (.ireturn, 1) := by decide +kernel
theorem dX8_greatestLoad_0 : decode cX8_greatestLoad 0 = .ok (.iconst 0, 1) := by decide +kernel
theorem dX8_greatestLoad_1 : decode cX8_greatestLoad 1 = .ok (.istore_n 1, 1) := by decide +kernel
theorem dX8_greatestLoad_2 : decode cX8_greatestLoad 2 = .ok (.aload_n 0, 1) := by decide +kernel
theorem dX8_greatestLoad_3 : decode cX8_greatestLoad 3 = .ok (.astore_n 2, 1) := by decide +kernel
theorem dX8_greatestLoad_4 : decode cX8_greatestLoad 4 = .ok (.aload_n 2, 1) := by decide +kernel
theorem dX8_greatestLoad_5 : decode cX8_greatestLoad 5 = .ok (.arraylength, 1) := by decide +kernel
theorem dX8_greatestLoad_6 : decode cX8_greatestLoad 6 = .ok (.istore_n 3, 1) := by decide +kernel
theorem dX8_greatestLoad_7 : decode cX8_greatestLoad 7 = .ok (.iconst 0, 1) := by decide +kernel
theorem dX8_greatestLoad_8 : decode cX8_greatestLoad 8 = .ok (.istore 4, 2) := by decide +kernel
theorem dX8_greatestLoad_10 : decode cX8_greatestLoad 10 = .ok (.iload 4, 2) := by decide +kernel
theorem dX8_greatestLoad_12 : decode cX8_greatestLoad 12 = .ok (.iload_n 3, 1) := by decide +kernel
theorem dX8_greatestLoad_13 : decode cX8_greatestLoad 13 = .ok (.if_icmp .ge 69, 3) := by decide +kernel
theorem dX8_greatestLoad_16 : decode cX8_greatestLoad 16 = .ok (.aload_n 2, 1) := by decide +kernel
theorem dX8_greatestLoad_17 : decode cX8_greatestLoad 17 = .ok (.iload 4, 2) := by decide +kernel
theorem dX8_greatestLoad_19 : decode cX8_greatestLoad 19 = .ok (.iaload, 1) := by decide +kernel
theorem dX8_greatestLoad_20 : decode cX8_greatestLoad 20 = .ok (.istore 5, 2) := by decide +kernel
theorem dX8_greatestLoad_22 : decode cX8_greatestLoad 22 = .ok (.iconst 0, 1) := by decide +kernel
theorem dX8_greatestLoad_23 : decode cX8_greatestLoad 23 = .ok (.istore 6, 2) := by decide +kernel
theorem dX8_greatestLoad_25 : decode cX8_greatestLoad 25 = .ok (.aload_n 0, 1) := by decide +kernel
theorem dX8_greatestLoad_26 : decode cX8_greatestLoad 26 = .ok (.astore 7, 2) := by decide +kernel
theorem dX8_greatestLoad_28 : decode cX8_greatestLoad 28 = .ok (.aload 7, 2) := by decide +kernel
theorem dX8_greatestLoad_30 : decode cX8_greatestLoad 30 = .ok (.arraylength, 1) := by decide +kernel
theorem dX8_greatestLoad_31 : decode cX8_greatestLoad 31 = .ok (.istore 8, 2) := by decide +kernel
theorem dX8_greatestLoad_33 : decode cX8_greatestLoad 33 = .ok (.iconst 0, 1) := by decide +kernel
theorem dX8_greatestLoad_34 : decode cX8_greatestLoad 34 = .ok (.istore 9, 2) := by decide +kernel
theorem dX8_greatestLoad_36 : decode cX8_greatestLoad 36 = .ok (.iload 9, 2) := by decide +kernel
theorem dX8_greatestLoad_38 : decode cX8_greatestLoad 38 = .ok (.iload 8, 2) := by decide +kernel
theorem dX8_greatestLoad_40 : decode cX8_greatestLoad 40 = .ok (.if_icmp .ge 26, 3) := by decide +kernel
theorem dX8_greatestLoad_43 : decode cX8_greatestLoad 43 = .ok (.aload 7, 2) := by decide +kernel
theorem dX8_greatestLoad_45 : decode cX8_greatestLoad 45 = .ok (.iload 9, 2) := by decide +kernel
theorem dX8_greatestLoad_47 : decode cX8_greatestLoad 47 = .ok (.iaload, 1) := by decide +kernel
theorem dX8_greatestLoad_48 : decode cX8_greatestLoad 48 = .ok (.istore 10, 2) := by decide +kernel
theorem dX8_greatestLoad_50 : decode cX8_greatestLoad 50 = .ok (.iload 10, 2) := by decide +kernel
theorem dX8_greatestLoad_52 : decode cX8_greatestLoad 52 = .ok (.iload 5, 2) := by decide +kernel
theorem dX8_greatestLoad_54 : decode cX8_greatestLoad 54 = .ok (.if_icmp .lt 6, 3) := by decide +kernel
theorem dX8_greatestLoad_57 : decode cX8_greatestLoad 57 = .ok (.iinc 6 1, 3) := by decide +kernel
theorem dX8_greatestLoad_60 : decode cX8_greatestLoad 60 = .ok (.iinc 9 1, 3) := by decide +kernel
theorem dX8_greatestLoad_63 : decode cX8_greatestLoad 63 = .ok (.goto (-27), 3) := by decide +kernel
theorem dX8_greatestLoad_66 : decode cX8_greatestLoad 66 = .ok (.iload_n 1, 1) := by decide +kernel
theorem dX8_greatestLoad_67 : decode cX8_greatestLoad 67 = .ok (.iload 6, 2) := by decide +kernel
theorem dX8_greatestLoad_69 : decode cX8_greatestLoad 69 = .ok (.iload 5, 2) := by decide +kernel
theorem dX8_greatestLoad_71 : decode cX8_greatestLoad 71 = .ok (.imul, 1) := by decide +kernel
theorem dX8_greatestLoad_72 : decode cX8_greatestLoad 72 = .ok (.invokestatic 229, 3) := by decide +kernel
theorem dX8_greatestLoad_75 : decode cX8_greatestLoad 75 = .ok (.istore_n 1, 1) := by decide +kernel
theorem dX8_greatestLoad_76 : decode cX8_greatestLoad 76 = .ok (.iinc 4 1, 3) := by decide +kernel
theorem dX8_greatestLoad_79 : decode cX8_greatestLoad 79 = .ok (.goto (-69), 3) := by decide +kernel
theorem dX8_greatestLoad_82 : decode cX8_greatestLoad 82 = .ok (.iload_n 1, 1) := by decide +kernel
theorem dX8_greatestLoad_83 : decode cX8_greatestLoad 83 = .ok (.ireturn, 1) := by decide +kernel
