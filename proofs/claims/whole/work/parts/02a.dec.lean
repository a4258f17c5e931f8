theorem dX0_init_0 : decode cX0_init 0 = .ok (.aload_n 0, 1) := by decide +kernel
theorem dX0_init_1 : decode cX0_init 1 = .ok (.invokespecial 3, 3) := by decide +kernel
theorem dX0_init_4 : decode cX0_init 4 = .ok (.aload_n 0, 1) := by decide +kernel
theorem dX0_init_5 : decode cX0_init 5 = .ok (.bipush 6, 2) := by decide +kernel
theorem dX0_init_7 : decode cX0_init 7 = .ok (.newarray .int, 2) := by decide +kernel
theorem dX0_init_9 : decode cX0_init 9 = .ok (.putfield 9, 3) := by decide +kernel
theorem dX0_init_12 : decode cX0_init 12 = .ok (.aload_n 0, 1) := by decide +kernel
theorem dX0_init_13 : decode cX0_init 13 = .ok (.bipush 6, 2) := by decide +kernel
theorem dX0_init_15 : decode cX0_init 15 = .ok (.newarray .int, 2) := by decide +kernel
theorem dX0_init_17 : decode cX0_init 17 = .ok (.putfield 15, 3) := by decide +kernel
theorem dX0_init_20 : decode cX0_init 20 = .ok (.aload_n 0, 1) := by decide +kernel
theorem dX0_init_21 : decode cX0_init 21 = .ok (.bipush 6, 2) := by decide +kernel
theorem dX0_init_23 : decode cX0_init 23 = .ok (.newarray .int, 2) := by decide +kernel
theorem dX0_init_25 : decode cX0_init 25 = .ok (.putfield 18, 3) := by decide +kernel
theorem dX0_init_28 : decode cX0_init 28 = .ok (.aload_n 0, 1) := by decide +kernel
theorem dX0_init_29 : decode cX0_init 29 = .ok (.bipush 6, 2) := by decide +kernel
theorem dX0_init_31 : decode cX0_init 31 = .ok (.newarray .int, 2) := by decide +kernel
theorem dX0_init_33 : decode cX0_init 33 = .ok (.putfield 21, 3) := by decide +kernel
theorem dX0_init_36 : decode cX0_init 36 = .ok (.aload_n 0, 1) := by decide +kernel
theorem dX0_init_37 : decode cX0_init 37 = .ok (.iconst 4, 1) := by decide +kernel
theorem dX0_init_38 : decode cX0_init 38 = .ok (.anewarray 24, 3) := by decide +kernel
theorem dX0_init_41 : decode cX0_init 41 = .ok (.putfield 26, 3) := by decide +kernel
theorem dX0_init_44 : decode cX0_init 44 = .ok (.aload_n 0, 1) := by decide +kernel
theorem dX0_init_45 : decode cX0_init 45 = .ok (.iconst 4, 1) := by decide +kernel
theorem dX0_init_46 : decode cX0_init 46 = .ok (.newarray .int, 2) := by decide +kernel
theorem dX0_init_48 : decode cX0_init 48 = .ok (.putfield 30, 3) := by decide +kernel
theorem dX0_init_51 : decode cX0_init 51 = .ok (.aload_n 0, 1) := by decide +kernel
theorem dX0_init_52 : decode cX0_init 52 = .ok (.getfield 9, 3) := by decide +kernel
theorem dX0_init_55 : decode cX0_init 55 = .ok (.bipush 10, 2) := by decide +kernel
theorem dX0_init_57 : decode cX0_init 57 = .ok (.invokestatic 33, 3) := by decide +kernel
theorem dX0_init_60 : decode cX0_init 60 = .ok (.aload_n 0, 1) := by decide +kernel
theorem dX0_init_61 : decode cX0_init 61 = .ok (.getfield 15, 3) := by decide +kernel
theorem dX0_init_64 : decode cX0_init 64 = .ok (.iconst 5, 1) := by decide +kernel
theorem dX0_init_65 : decode cX0_init 65 = .ok (.invokestatic 33, 3) := by decide +kernel
theorem dX0_init_68 : decode cX0_init 68 = .ok (.iconst 0, 1) := by decide +kernel
theorem dX0_init_69 : decode cX0_init 69 = .ok (.istore_n 1, 1) := by decide +kernel
theorem dX0_init_70 : decode cX0_init 70 = .ok (.iload_n 1, 1) := by decide +kernel
theorem dX0_init_71 : decode cX0_init 71 = .ok (.iconst 4, 1) := by decide +kernel
theorem dX0_init_72 : decode cX0_init 72 = .ok (.if_icmp .ge 22, 3) := by decide +kernel
theorem dX0_init_75 : decode cX0_init 75 = .ok (.aload_n 0, 1) := by decide +kernel
theorem dX0_init_76 : decode cX0_init 76 = .ok (.getfield 26, 3) := by decide +kernel
theorem dX0_init_79 : decode cX0_init 79 = .ok (.iload_n 1, 1) := by decide +kernel
theorem dX0_init_80 : decode cX0_init 80 = .ok (.new 24, 3) := by decide +kernel
theorem dX0_init_83 : decode cX0_init 83 = .ok (.dup, 1) := by decide +kernel
theorem dX0_init_84 : decode cX0_init 84 = .ok (.invokespecial 39, 3) := by decide +kernel
theorem dX0_init_87 : decode cX0_init 87 = .ok (.aastore, 1) := by decide +kernel
theorem dX0_init_88 : decode cX0_init 88 = .ok (.iinc 1 1, 3) := by decide +kernel
theorem dX0_init_91 : decode cX0_init 91 = .ok (.goto (-21), 3) := by decide +kernel
theorem dX0_init_94 : decode cX0_init 94 = .ok (.aload_n 0, 1) := by decide +kernel
theorem dX0_init_95 : decode cX0_init 95 = .ok (.iconst 1, 1) := by decide +kernel
theorem dX0_init_96 : decode cX0_init 96 = .ok (.putfield 40, 3) := by decide +kernel
theorem dX0_init_99 : decode cX0_init 99 = .ok (.return_, 1) := by decide +kernel
theorem dX0_become_0 : decode cX0_become 0 = .ok (.aload_n 1, 1) := by decide +kernel
theorem dX0_become_1 : decode cX0_become 1 = .ok (.getfield 9, 3) := by decide +kernel
theorem dX0_become_4 : decode cX0_become 4 = .ok (.iconst 0, 1) := by decide +kernel
theorem dX0_become_5 : decode cX0_become 5 = .ok (.aload_n 0, 1) := by decide +kernel
theorem dX0_become_6 : decode cX0_become 6 = .ok (.getfield 9, 3) := by decide +kernel
theorem dX0_become_9 : decode cX0_become 9 = .ok (.iconst 0, 1) := by decide +kernel
theorem dX0_become_10 : decode cX0_become 10 = .ok (.bipush 6, 2) := by decide +kernel
theorem dX0_become_12 : decode cX0_become 12 = .ok (.invokestatic 44, 3) := by decide +kernel
theorem dX0_become_15 : decode cX0_become 15 = .ok (.aload_n 1, 1) := by decide +kernel
theorem dX0_become_16 : decode cX0_become 16 = .ok (.getfield 15, 3) := by decide +kernel
theorem dX0_become_19 : decode cX0_become 19 = .ok (.iconst 0, 1) := by decide +kernel
theorem dX0_become_20 : decode cX0_become 20 = .ok (.aload_n 0, 1) := by decide +kernel
theorem dX0_become_21 : decode cX0_become 21 = .ok (.getfield 15, 3) := by decide +kernel
theorem dX0_become_24 : decode cX0_become 24 = .ok (.iconst 0, 1) := by decide +kernel
theorem dX0_become_25 : decode cX0_become 25 = .ok (.bipush 6, 2) := by decide +kernel
theorem dX0_become_27 : decode cX0_become 27 = .ok (.invokestatic 44, 3) := by decide +kernel
theorem dX0_become_30 : decode cX0_become 30 = .ok (.aload_n 1, 1) := by decide +kernel
theorem dX0_become_31 : decode cX0_become 31 = .ok (.getfield 18, 3) := by decide +kernel
theorem dX0_become_34 : decode cX0_become 34 = .ok (.iconst 0, 1) := by decide +kernel
theorem dX0_become_35 : decode cX0_become 35 = .ok (.aload_n 0, 1) := by decide +kernel
theorem dX0_become_36 : decode cX0_become 36 = .ok (.getfield 18, 3) := by decide +kernel
theorem dX0_become_39 : decode cX0_become 39 = .ok (.iconst 0, 1) := by decide +kernel
theorem dX0_become_40 : decode cX0_become 40 = .ok (.bipush 6, 2) := by decide +kernel
theorem dX0_become_42 : decode cX0_become 42 = .ok (.invokestatic 44, 3) := by decide +kernel
theorem dX0_become_45 : decode cX0_become 45 = .ok (.aload_n 1, 1) := by decide +kernel
theorem dX0_become_46 : decode cX0_become 46 = .ok (.getfield 21, 3) := by decide +kernel
theorem dX0_become_49 : decode cX0_become 49 = .ok (.iconst 0, 1) := by decide +kernel
theorem dX0_become_50 : decode cX0_become 50 = .ok (.aload_n 0, 1) := by decide +kernel
theorem dX0_become_51 : decode cX0_become 51 = .ok (.getfield 21, 3) := by decide +kernel
theorem dX0_become_54 : decode cX0_become 54 = .ok (.iconst 0, 1) := by decide +kernel
theorem dX0_become_55 : decode cX0_become 55 = .ok (.bipush 6, 2) := by decide +kernel
theorem dX0_become_57 : decode cX0_become 57 = .ok (.invokestatic 44, 3) := by decide +kernel
theorem dX0_become_60 : decode cX0_become 60 = .ok (.iconst 0, 1) := by decide +kernel
theorem dX0_become_61 : decode cX0_become 61 = .ok (.istore_n 2, 1) := by decide +kernel
theorem dX0_become_62 : decode cX0_become 62 = .ok (.iload_n 2, 1) := by decide +kernel
theorem dX0_become_63 : decode cX0_become 63 = .ok (.iconst 4, 1) := by decide +kernel
theorem dX0_become_64 : decode cX0_become 64 = .ok (.if_icmp .ge 24, 3) := by decide +kernel
theorem dX0_become_67 : decode cX0_become 67 = .ok (.aload_n 0, 1) := by decide +kernel
theorem dX0_become_68 : decode cX0_become 68 = .ok (.getfield 26, 3) := by decide +kernel
theorem dX0_become_71 : decode cX0_become 71 = .ok (.iload_n 2, 1) := by decide +kernel
theorem dX0_become_72 : decode cX0_become 72 = .ok (.aaload, 1) := by decide +kernel
theorem dX0_become_73 : decode cX0_become 73 = .ok (.aload_n 1, 1) := by decide +kernel
theorem dX0_become_74 : decode cX0_become 74 = .ok (.getfield 26, 3) := by decide +kernel
theorem dX0_become_77 : decode cX0_become 77 = .ok (.iload_n 2, 1) := by decide +kernel
theorem dX0_become_78 : decode cX0_become 78 = .ok (.aaload, 1) := by decide +kernel
theorem dX0_become_79 : decode cX0_become 79 = .ok (.invokevirtual 50, 3) := by decide +kernel
theorem dX0_become_82 : decode cX0_become 82 = .ok (.iinc 2 1, 3) := by decide +kernel
theorem dX0_become_85 : decode cX0_become 85 = .ok (.goto (-23), 3) := by decide +kernel
theorem dX0_become_88 : decode cX0_become 88 = .ok (.aload_n 0, 1) := by decide +kernel
theorem dX0_become_89 : decode cX0_become 89 = .ok (.aload_n 1, 1) := by decide +kernel
theorem dX0_become_90 : decode cX0_become 90 = .ok (.getfield 40, 3) := by decide +kernel
theorem dX0_become_93 : decode cX0_become 93 = .ok (.putfield 40, 3) := by decide +kernel
theorem dX0_become_96 : decode cX0_become 96 = .ok (.aload_n 0, 1) := by decide +kernel
theorem dX0_become_97 : decode cX0_become 97 = .ok (.aload_n 1, 1) := by decide +kernel
theorem dX0_become_98 : decode cX0_become 98 = .ok (.getfield 54, 3) := by decide +kernel
theorem dX0_become_101 : decode cX0_become 101 = .ok (.putfield 54, 3) := by decide +kernel
theorem dX0_become_104 : decode cX0_become 104 = .ok (.return_, 1) := by decide +kernel
theorem dX0_sin_0 : decode cX0_sin 0 = .ok (.aload_n 0, 1) := by decide +kernel
theorem dX0_sin_1 : decode cX0_sin 1 = .ok (.getfield 9, 3) := by decide +kernel
theorem dX0_sin_4 : decode cX0_sin 4 = .ok (.iload_n 1, 1) := by decide +kernel
theorem dX0_sin_5 : decode cX0_sin 5 = .ok (.iaload, 1) := by decide +kernel
theorem dX0_sin_6 : decode cX0_sin 6 = .ok (.iload_n 2, 1) := by decide +kernel
theorem dX0_sin_7 : decode cX0_sin 7 = .ok (.iadd, 1) := by decide +kernel
theorem dX0_sin_8 : decode cX0_sin 8 = .ok (.bipush 40, 2) := by decide +kernel
theorem dX0_sin_10 : decode cX0_sin 10 = .ok (.if_icmp .le 5, 3) := by decide +kernel
theorem dX0_sin_13 : decode cX0_sin 13 = .ok (.iconst 1, 1) := by decide +kernel
theorem dX0_sin_14 : decode cX0_sin 14 = .ok (.ireturn, 1) := by decide +kernel
theorem dX0_sin_15 : decode cX0_sin 15 = .ok (.aload_n 0, 1) := by decide +kernel
theorem dX0_sin_16 : decode cX0_sin 16 = .ok (.getfield 9, 3) := by decide +kernel
theorem dX0_sin_19 : decode cX0_sin 19 = .ok (.iload_n 1, 1) := by decide +kernel
theorem dX0_sin_20 : decode cX0_sin 20 = .ok (.dup2, 1) := by decide +kernel
theorem dX0_sin_21 : decode cX0_sin 21 = .ok (.iaload, 1) := by decide +kernel
theorem dX0_sin_22 : decode cX0_sin 22 = .ok (.iload_n 2, 1) := by decide +kernel
theorem dX0_sin_23 : decode cX0_sin 23 = .ok (.iadd, 1) := by decide +kernel
theorem dX0_sin_24 : decode cX0_sin 24 = .ok (.iastore, 1) := by decide +kernel
theorem dX0_sin_25 : decode cX0_sin 25 = .ok (.iconst 0, 1) := by decide +kernel
theorem dX0_sin_26 : decode cX0_sin 26 = .ok (.ireturn, 1) := by decide +kernel
theorem dX0_pray_0 : decode cX0_pray 0 = .ok (.aload_n 0, 1) := by decide +kernel
theorem dX0_pray_1 : decode cX0_pray 1 = .ok (.getfield 9, 3) := by decide +kernel
theorem dX0_pray_4 : decode cX0_pray 4 = .ok (.iload_n 1, 1) := by decide +kernel
theorem dX0_pray_5 : decode cX0_pray 5 = .ok (.iaload, 1) := by decide +kernel
theorem dX0_pray_6 : decode cX0_pray 6 = .ok (.iload_n 2, 1) := by decide +kernel
theorem dX0_pray_7 : decode cX0_pray 7 = .ok (.if_icmp .ge 5, 3) := by decide +kernel
theorem dX0_pray_10 : decode cX0_pray 10 = .ok (.iconst 2, 1) := by decide +kernel
theorem dX0_pray_11 : decode cX0_pray 11 = .ok (.ireturn, 1) := by decide +kernel
theorem dX0_pray_12 : decode cX0_pray 12 = .ok (.aload_n 0, 1) := by decide +kernel
theorem dX0_pray_13 : decode cX0_pray 13 = .ok (.getfield 18, 3) := by decide +kernel
theorem dX0_pray_16 : decode cX0_pray 16 = .ok (.iload_n 1, 1) := by decide +kernel
theorem dX0_pray_17 : decode cX0_pray 17 = .ok (.iaload, 1) := by decide +kernel
theorem dX0_pray_18 : decode cX0_pray 18 = .ok (.iload_n 2, 1) := by decide +kernel
theorem dX0_pray_19 : decode cX0_pray 19 = .ok (.iadd, 1) := by decide +kernel
theorem dX0_pray_20 : decode cX0_pray 20 = .ok (.bipush 99, 2) := by decide +kernel
theorem dX0_pray_22 : decode cX0_pray 22 = .ok (.if_icmp .le 5, 3) := by decide +kernel
theorem dX0_pray_25 : decode cX0_pray 25 = .ok (.iconst 5, 1) := by decide +kernel
theorem dX0_pray_26 : decode cX0_pray 26 = .ok (.ireturn, 1) := by decide +kernel
theorem dX0_pray_27 : decode cX0_pray 27 = .ok (.aload_n 0, 1) := by decide +kernel
theorem dX0_pray_28 : decode cX0_pray 28 = .ok (.getfield 9, 3) := by decide +kernel
theorem dX0_pray_31 : decode cX0_pray 31 = .ok (.iload_n 1, 1) := by decide +kernel
theorem dX0_pray_32 : decode cX0_pray 32 = .ok (.dup2, 1) := by decide +kernel
theorem dX0_pray_33 : decode cX0_pray 33 = .ok (.iaload, 1) := by decide +kernel
theorem dX0_pray_34 : decode cX0_pray 34 = .ok (.iload_n 2, 1) := by decide +kernel
theorem dX0_pray_35 : decode cX0_pray 35 = .ok (.isub, 1) := by decide +kernel
theorem dX0_pray_36 : decode cX0_pray 36 = .ok (.iastore, 1) := by decide +kernel
theorem dX0_pray_37 : decode cX0_pray 37 = .ok (.aload_n 0, 1) := by decide +kernel
theorem dX0_pray_38 : decode cX0_pray 38 = .ok (.getfield 18, 3) := by decide +kernel
theorem dX0_pray_41 : decode cX0_pray 41 = .ok (.iload_n 1, 1) := by decide +kernel
theorem dX0_pray_42 : decode cX0_pray 42 = .ok (.dup2, 1) := by decide +kernel
theorem dX0_pray_43 : decode cX0_pray 43 = .ok (.iaload, 1) := by decide +kernel
theorem dX0_pray_44 : decode cX0_pray 44 = .ok (.iload_n 2, 1) := by decide +kernel
theorem dX0_pray_45 : decode cX0_pray 45 = .ok (.iadd, 1) := by decide +kernel
theorem dX0_pray_46 : decode cX0_pray 46 = .ok (.iastore, 1) := by decide +kernel
theorem dX0_pray_47 : decode cX0_pray 47 = .ok (.iconst 0, 1) := by decide +kernel
theorem dX0_pray_48 : decode cX0_pray 48 = .ok (.ireturn, 1) := by decide +kernel
theorem dX0_weave_0 : decode cX0_weave 0 = .ok (.aload_n 0, 1) := by decide +kernel
theorem dX0_weave_1 : decode cX0_weave 1 = .ok (.getfield 18, 3) := by decide +kernel
theorem dX0_weave_4 : decode cX0_weave 4 = .ok (.iload_n 1, 1) := by decide +kernel
theorem dX0_weave_5 : decode cX0_weave 5 = .ok (.iaload, 1) := by decide +kernel
theorem dX0_weave_6 : decode cX0_weave 6 = .ok (.ifCond .ne 5, 3) := by decide +kernel
theorem dX0_weave_9 : decode cX0_weave 9 = .ok (.iconst 3, 1) := by decide +kernel
theorem dX0_weave_10 : decode cX0_weave 10 = .ok (.ireturn, 1) := by decide +kernel
theorem dX0_weave_11 : decode cX0_weave 11 = .ok (.aload_n 0, 1) := by decide +kernel
theorem dX0_weave_12 : decode cX0_weave 12 = .ok (.getfield 26, 3) := by decide +kernel
theorem dX0_weave_15 : decode cX0_weave 15 = .ok (.iload_n 2, 1) := by decide +kernel
theorem dX0_weave_16 : decode cX0_weave 16 = .ok (.aaload, 1) := by decide +kernel
theorem dX0_weave_17 : decode cX0_weave 17 = .ok (.invokevirtual 57, 3) := by decide +kernel
theorem dX0_weave_20 : decode cX0_weave 20 = .ok (.ifCond .ne 5, 3) := by decide +kernel
theorem dX0_weave_23 : decode cX0_weave 23 = .ok (.iconst 4, 1) := by decide +kernel
theorem dX0_weave_24 : decode cX0_weave 24 = .ok (.ireturn, 1) := by decide +kernel
theorem dX0_weave_25 : decode cX0_weave 25 = .ok (.aload_n 0, 1) := by decide +kernel
theorem dX0_weave_26 : decode cX0_weave 26 = .ok (.getfield 26, 3) := by decide +kernel
theorem dX0_weave_29 : decode cX0_weave 29 = .ok (.iload_n 2, 1) := by decide +kernel
theorem dX0_weave_30 : decode cX0_weave 30 = .ok (.aaload, 1) := by decide +kernel
theorem dX0_weave_31 : decode cX0_weave 31 = .ok (.iload_n 1, 1) := by decide +kernel
theorem dX0_weave_32 : decode cX0_weave 32 = .ok (.aload_n 0, 1) := by decide +kernel
theorem dX0_weave_33 : decode cX0_weave 33 = .ok (.getfield 18, 3) := by decide +kernel
theorem dX0_weave_36 : decode cX0_weave 36 = .ok (.iload_n 1, 1) := by decide +kernel
theorem dX0_weave_37 : decode cX0_weave 37 = .ok (.iaload, 1) := by decide +kernel
theorem dX0_weave_38 : decode cX0_weave 38 = .ok (.aload_n 0, 1) := by decide +kernel
theorem dX0_weave_39 : decode cX0_weave 39 = .ok (.getfield 54, 3) := by decide +kernel
theorem dX0_weave_42 : decode cX0_weave 42 = .ok (.invokevirtual 61, 3) := by decide +kernel
theorem dX0_weave_45 : decode cX0_weave 45 = .ok (.aload_n 0, 1) := by decide +kernel
theorem dX0_weave_46 : decode cX0_weave 46 = .ok (.getfield 18, 3) := by decide +kernel
theorem dX0_weave_49 : decode cX0_weave 49 = .ok (.iload_n 1, 1) := by decide +kernel
theorem dX0_weave_50 : decode cX0_weave 50 = .ok (.iconst 0, 1) := by decide +kernel
theorem dX0_weave_51 : decode cX0_weave 51 = .ok (.iastore, 1) := by decide +kernel
theorem dX0_weave_52 : decode cX0_weave 52 = .ok (.iconst 0, 1) := by decide +kernel
theorem dX0_weave_53 : decode cX0_weave 53 = .ok (.ireturn, 1) := by decide +kernel
theorem dX0_passWeek_0 : decode cX0_passWeek 0 = .ok (.iconst 0, 1) := by decide +kernel
theorem dX0_passWeek_1 : decode cX0_passWeek 1 = .ok (.istore_n 1, 1) := by decide +kernel
theorem dX0_passWeek_2 : decode cX0_passWeek 2 = .ok (.iload_n 1, 1) := by decide +kernel
theorem dX0_passWeek_3 : decode cX0_passWeek 3 = .ok (.iconst 4, 1) := by decide +kernel
theorem dX0_passWeek_4 : decode cX0_passWeek 4 = .ok (.if_icmp .ge 26, 3) := by decide +kernel
theorem dX0_passWeek_7 : decode cX0_passWeek 7 = .ok (.aload_n 0, 1) := by decide +kernel
theorem dX0_passWeek_8 : decode cX0_passWeek 8 = .ok (.getfield 26, 3) := by decide +kernel
theorem dX0_passWeek_11 : decode cX0_passWeek 11 = .ok (.iload_n 1, 1) := by decide +kernel
theorem dX0_passWeek_12 : decode cX0_passWeek 12 = .ok (.aaload, 1) := by decide +kernel
theorem dX0_passWeek_13 : decode cX0_passWeek 13 = .ok (.aload_n 0, 1) := by decide +kernel
theorem dX0_passWeek_14 : decode cX0_passWeek 14 = .ok (.getfield 40, 3) := by decide +kernel
theorem dX0_passWeek_17 : decode cX0_passWeek 17 = .ok (.aload_n 0, 1) := by decide +kernel
theorem dX0_passWeek_18 : decode cX0_passWeek 18 = .ok (.getfield 21, 3) := by decide +kernel
theorem dX0_passWeek_21 : decode cX0_passWeek 21 = .ok (.invokevirtual 65, 3) := by decide +kernel
theorem dX0_passWeek_24 : decode cX0_passWeek 24 = .ok (.iinc 1 1, 3) := by decide +kernel
theorem dX0_passWeek_27 : decode cX0_passWeek 27 = .ok (.goto (-25), 3) := by decide +kernel
theorem dX0_passWeek_30 : decode cX0_passWeek 30 = .ok (.aload_n 0, 1) := by decide +kernel
theorem dX0_passWeek_31 : decode cX0_passWeek 31 = .ok (.dup, 1) := by decide +kernel
theorem dX0_passWeek_32 : decode cX0_passWeek 32 = .ok (.getfield 54, 3) := by decide +kernel
theorem dX0_passWeek_35 : decode cX0_passWeek 35 = .ok (.iconst 1, 1) := by decide +kernel
theorem dX0_passWeek_36 : decode cX0_passWeek 36 = .ok (.iadd, 1) := by decide +kernel
theorem dX0_passWeek_37 : decode cX0_passWeek 37 = .ok (.putfield 54, 3) := by decide +kernel
theorem dX0_passWeek_40 : decode cX0_passWeek 40 = .ok (.return_, 1) := by decide +kernel
theorem dX0_giveAll_0 : decode cX0_giveAll 0 = .ok (.iconst 0, 1) := by decide +kernel
theorem dX0_giveAll_1 : decode cX0_giveAll 1 = .ok (.istore 4, 2) := by decide +kernel
theorem dX0_giveAll_3 : decode cX0_giveAll 3 = .ok (.iload 4, 2) := by decide +kernel
theorem dX0_giveAll_5 : decode cX0_giveAll 5 = .ok (.bipush 6, 2) := by decide +kernel
theorem dX0_giveAll_7 : decode cX0_giveAll 7 = .ok (.if_icmp .ge 72, 3) := by decide +kernel
theorem dX0_giveAll_10 : decode cX0_giveAll 10 = .ok (.iload_n 1, 1) := by decide +kernel
theorem dX0_giveAll_11 : decode cX0_giveAll 11 = .ok (.iload 4, 2) := by decide +kernel
theorem dX0_giveAll_13 : decode cX0_giveAll 13 = .ok (.ishr, 1) := by decide +kernel
theorem dX0_giveAll_14 : decode cX0_giveAll 14 = .ok (.iconst 1, 1) := by decide +kernel
theorem dX0_giveAll_15 : decode cX0_giveAll 15 = .ok (.iand, 1) := by decide +kernel
theorem dX0_giveAll_16 : decode cX0_giveAll 16 = .ok (.ifCond .eq 57, 3) := by decide +kernel
theorem dX0_giveAll_19 : decode cX0_giveAll 19 = .ok (.bipush 40, 2) := by decide +kernel
theorem dX0_giveAll_21 : decode cX0_giveAll 21 = .ok (.aload_n 0, 1) := by decide +kernel
theorem dX0_giveAll_22 : decode cX0_giveAll 22 = .ok (.getfield 9, 3) := by decide +kernel
theorem dX0_giveAll_25 : decode cX0_giveAll 25 = .ok (.iload 4, 2) := by decide +kernel
theorem dX0_giveAll_27 : decode cX0_giveAll 27 = .ok (.iaload, 1) := by decide +kernel
theorem dX0_giveAll_28 : decode cX0_giveAll 28 = .ok (.iload_n 2, 1) := by decide +kernel
theorem dX0_giveAll_29 : decode cX0_giveAll 29 = .ok (.iadd, 1) := by decide +kernel
theorem dX0_giveAll_30 : decode cX0_giveAll 30 = .ok (.invokestatic 69, 3) := by decide +kernel
theorem dX0_giveAll_33 : decode cX0_giveAll 33 = .ok (.istore 5, 2) := by decide +kernel
theorem dX0_giveAll_35 : decode cX0_giveAll 35 = .ok (.aload_n 0, 1) := by decide +kernel
theorem dX0_giveAll_36 : decode cX0_giveAll 36 = .ok (.getfield 9, 3) := by decide +kernel
theorem dX0_giveAll_39 : decode cX0_giveAll 39 = .ok (.iload 4, 2) := by decide +kernel
theorem dX0_giveAll_41 : decode cX0_giveAll 41 = .ok (.iconst 0, 1) := by decide +kernel
theorem dX0_giveAll_42 : decode cX0_giveAll 42 = .ok (.iastore, 1) := by decide +kernel
theorem dX0_giveAll_43 : decode cX0_giveAll 43 = .ok (.aload_n 0, 1) := by decide +kernel
theorem dX0_giveAll_44 : decode cX0_giveAll 44 = .ok (.getfield 18, 3) := by decide +kernel
theorem dX0_giveAll_47 : decode cX0_giveAll 47 = .ok (.iload 4, 2) := by decide +kernel
theorem dX0_giveAll_49 : decode cX0_giveAll 49 = .ok (.bipush 99, 2) := by decide +kernel
theorem dX0_giveAll_51 : decode cX0_giveAll 51 = .ok (.aload_n 0, 1) := by decide +kernel
theorem dX0_giveAll_52 : decode cX0_giveAll 52 = .ok (.getfield 18, 3) := by decide +kernel
theorem dX0_giveAll_55 : decode cX0_giveAll 55 = .ok (.iload 4, 2) := by decide +kernel
theorem dX0_giveAll_57 : decode cX0_giveAll 57 = .ok (.iaload, 1) := by decide +kernel
theorem dX0_giveAll_58 : decode cX0_giveAll 58 = .ok (.iload 5, 2) := by decide +kernel
theorem dX0_giveAll_60 : decode cX0_giveAll 60 = .ok (.iadd, 1) := by decide +kernel
theorem dX0_giveAll_61 : decode cX0_giveAll 61 = .ok (.invokestatic 69, 3) := by decide +kernel
theorem dX0_giveAll_64 : decode cX0_giveAll 64 = .ok (.iastore, 1) := by decide +kernel
theorem dX0_giveAll_65 : decode cX0_giveAll 65 = .ok (.aload_n 0, 1) := by decide +kernel
theorem dX0_giveAll_66 : decode cX0_giveAll 66 = .ok (.iload 4, 2) := by decide +kernel
theorem dX0_giveAll_68 : decode cX0_giveAll 68 = .ok (.iload_n 3, 1) := by decide +kernel
theorem dX0_giveAll_69 : decode cX0_giveAll 69 = .ok (.invokevirtual 75, 3) := by decide +kernel
theorem dX0_giveAll_72 : decode cX0_giveAll 72 = .ok (.pop, 1) := by decide +kernel
theorem dX0_giveAll_73 : decode cX0_giveAll 73 = .ok (.iinc 4 1, 3) := by decide +kernel
theorem dX0_giveAll_76 : decode cX0_giveAll 76 = .ok (.goto (-73), 3) := by decide +kernel
theorem dX0_giveAll_79 : decode cX0_giveAll 79 = .ok (.return_, 1) := by decide +kernel
theorem dX0_drawDeeds_0 : decode cX0_drawDeeds 0 = .ok (.iload_n 1, 1) := by decide +kernel
theorem dX0_drawDeeds_1 : decode cX0_drawDeeds 1 = .ok (.istore_n 2, 1) := by decide +kernel
theorem dX0_drawDeeds_2 : decode cX0_drawDeeds 2 = .ok (.iconst 0, 1) := by decide +kernel
theorem dX0_drawDeeds_3 : decode cX0_drawDeeds 3 = .ok (.istore_n 3, 1) := by decide +kernel
theorem dX0_drawDeeds_4 : decode cX0_drawDeeds 4 = .ok (.iload_n 3, 1) := by decide +kernel
theorem dX0_drawDeeds_5 : decode cX0_drawDeeds 5 = .ok (.bipush 6, 2) := by decide +kernel
theorem dX0_drawDeeds_7 : decode cX0_drawDeeds 7 = .ok (.if_icmp .ge 80, 3) := by decide +kernel
theorem dX0_drawDeeds_10 : decode cX0_drawDeeds 10 = .ok (.bipush 75, 2) := by decide +kernel
theorem dX0_drawDeeds_12 : decode cX0_drawDeeds 12 = .ok (.iload_n 2, 1) := by decide +kernel
theorem dX0_drawDeeds_13 : decode cX0_drawDeeds 13 = .ok (.imul, 1) := by decide +kernel
theorem dX0_drawDeeds_14 : decode cX0_drawDeeds 14 = .ok (.bipush 74, 2) := by decide +kernel
theorem dX0_drawDeeds_16 : decode cX0_drawDeeds 16 = .ok (.iadd, 1) := by decide +kernel
theorem dX0_drawDeeds_17 : decode cX0_drawDeeds 17 = .ok (.ldc 78, 2) := by decide +kernel
theorem dX0_drawDeeds_19 : decode cX0_drawDeeds 19 = .ok (.irem, 1) := by decide +kernel
theorem dX0_drawDeeds_20 : decode cX0_drawDeeds 20 = .ok (.istore_n 2, 1) := by decide +kernel
theorem dX0_drawDeeds_21 : decode cX0_drawDeeds 21 = .ok (.iload_n 2, 1) := by decide +kernel
theorem dX0_drawDeeds_22 : decode cX0_drawDeeds 22 = .ok (.iconst 3, 1) := by decide +kernel
theorem dX0_drawDeeds_23 : decode cX0_drawDeeds 23 = .ok (.irem, 1) := by decide +kernel
theorem dX0_drawDeeds_24 : decode cX0_drawDeeds 24 = .ok (.lookupswitch 48 #[(0, 28), (1, 38)], 28) := by decide +kernel
theorem dX0_drawDeeds_52 : decode cX0_drawDeeds 52 = .ok (.aload_n 0, 1) := by decide +kernel
theorem dX0_drawDeeds_53 : decode cX0_drawDeeds 53 = .ok (.iload_n 3, 1) := by decide +kernel
theorem dX0_drawDeeds_54 : decode cX0_drawDeeds 54 = .ok (.iconst 1, 1) := by decide +kernel
theorem dX0_drawDeeds_55 : decode cX0_drawDeeds 55 = .ok (.invokevirtual 79, 3) := by decide +kernel
theorem dX0_drawDeeds_58 : decode cX0_drawDeeds 58 = .ok (.pop, 1) := by decide +kernel
theorem dX0_drawDeeds_59 : decode cX0_drawDeeds 59 = .ok (.goto 22, 3) := by decide +kernel
theorem dX0_drawDeeds_62 : decode cX0_drawDeeds 62 = .ok (.aload_n 0, 1) := by decide +kernel
theorem dX0_drawDeeds_63 : decode cX0_drawDeeds 63 = .ok (.iload_n 3, 1) := by decide +kernel
theorem dX0_drawDeeds_64 : decode cX0_drawDeeds 64 = .ok (.iconst 1, 1) := by decide +kernel
theorem dX0_drawDeeds_65 : decode cX0_drawDeeds 65 = .ok (.invokevirtual 82, 3) := by decide +kernel
theorem dX0_drawDeeds_68 : decode cX0_drawDeeds 68 = .ok (.pop, 1) := by decide +kernel
theorem dX0_drawDeeds_69 : decode cX0_drawDeeds 69 = .ok (.goto 12, 3) := by decide +kernel
theorem dX0_drawDeeds_72 : decode cX0_drawDeeds 72 = .ok (.aload_n 0, 1) := by decide +kernel
theorem dX0_drawDeeds_73 : decode cX0_drawDeeds 73 = .ok (.iload_n 3, 1) := by decide +kernel
theorem dX0_drawDeeds_74 : decode cX0_drawDeeds 74 = .ok (.iload_n 2, 1) := by decide +kernel
theorem dX0_drawDeeds_75 : decode cX0_drawDeeds 75 = .ok (.iconst 4, 1) := by decide +kernel
theorem dX0_drawDeeds_76 : decode cX0_drawDeeds 76 = .ok (.irem, 1) := by decide +kernel
theorem dX0_drawDeeds_77 : decode cX0_drawDeeds 77 = .ok (.invokevirtual 75, 3) := by decide +kernel
theorem dX0_drawDeeds_80 : decode cX0_drawDeeds 80 = .ok (.pop, 1) := by decide +kernel
theorem dX0_drawDeeds_81 : decode cX0_drawDeeds 81 = .ok (.iinc 3 1, 3) := by decide +kernel
theorem dX0_drawDeeds_84 : decode cX0_drawDeeds 84 = .ok (.goto (-80), 3) := by decide +kernel
theorem dX0_drawDeeds_87 : decode cX0_drawDeeds 87 = .ok (.iload_n 2, 1) := by decide +kernel
theorem dX0_drawDeeds_88 : decode cX0_drawDeeds 88 = .ok (.ireturn, 1) := by decide +kernel
theorem dX0_bearsLess_0 : decode cX0_bearsLess 0 = .ok (.iconst 0, 1) := by decide +kernel
theorem dX0_bearsLess_1 : decode cX0_bearsLess 1 = .ok (.istore_n 2, 1) := by decide +kernel
theorem dX0_bearsLess_2 : decode cX0_bearsLess 2 = .ok (.iload_n 2, 1) := by decide +kernel
theorem dX0_bearsLess_3 : decode cX0_bearsLess 3 = .ok (.iconst 4, 1) := by decide +kernel
theorem dX0_bearsLess_4 : decode cX0_bearsLess 4 = .ok (.if_icmp .ge 29, 3) := by decide +kernel
theorem dX0_bearsLess_7 : decode cX0_bearsLess 7 = .ok (.aload_n 0, 1) := by decide +kernel
theorem dX0_bearsLess_8 : decode cX0_bearsLess 8 = .ok (.getfield 30, 3) := by decide +kernel
theorem dX0_bearsLess_11 : decode cX0_bearsLess 11 = .ok (.iload_n 2, 1) := by decide +kernel
theorem dX0_bearsLess_12 : decode cX0_bearsLess 12 = .ok (.aload_n 0, 1) := by decide +kernel
theorem dX0_bearsLess_13 : decode cX0_bearsLess 13 = .ok (.getfield 26, 3) := by decide +kernel
theorem dX0_bearsLess_16 : decode cX0_bearsLess 16 = .ok (.iload_n 2, 1) := by decide +kernel
theorem dX0_bearsLess_17 : decode cX0_bearsLess 17 = .ok (.aaload, 1) := by decide +kernel
theorem dX0_bearsLess_18 : decode cX0_bearsLess 18 = .ok (.iload_n 1, 1) := by decide +kernel
theorem dX0_bearsLess_19 : decode cX0_bearsLess 19 = .ok (.aload_n 0, 1) := by decide +kernel
theorem dX0_bearsLess_20 : decode cX0_bearsLess 20 = .ok (.getfield 15, 3) := by decide +kernel
theorem dX0_bearsLess_23 : decode cX0_bearsLess 23 = .ok (.invokevirtual 85, 3) := by decide +kernel
theorem dX0_bearsLess_26 : decode cX0_bearsLess 26 = .ok (.iastore, 1) := by decide +kernel
theorem dX0_bearsLess_27 : decode cX0_bearsLess 27 = .ok (.iinc 2 1, 3) := by decide +kernel
theorem dX0_bearsLess_30 : decode cX0_bearsLess 30 = .ok (.goto (-28), 3) := by decide +kernel
theorem dX0_bearsLess_33 : decode cX0_bearsLess 33 = .ok (.aload_n 0, 1) := by decide +kernel
theorem dX0_bearsLess_34 : decode cX0_bearsLess 34 = .ok (.getfield 30, 3) := by decide +kernel
theorem dX0_bearsLess_37 : decode cX0_bearsLess 37 = .ok (.invokestatic 89, 3) := by decide +kernel
theorem dX0_bearsLess_40 : decode cX0_bearsLess 40 = .ok (.ireturn, 1) := by decide +kernel
theorem dX0_brokenUnder_0 : decode cX0_brokenUnder 0 = .ok (.iconst 0, 1) := by decide +kernel
theorem dX0_brokenUnder_1 : decode cX0_brokenUnder 1 = .ok (.istore_n 2, 1) := by decide +kernel
theorem dX0_brokenUnder_2 : decode cX0_brokenUnder 2 = .ok (.iconst 0, 1) := by decide +kernel
theorem dX0_brokenUnder_3 : decode cX0_brokenUnder 3 = .ok (.istore_n 3, 1) := by decide +kernel
theorem dX0_brokenUnder_4 : decode cX0_brokenUnder 4 = .ok (.iload_n 3, 1) := by decide +kernel
theorem dX0_brokenUnder_5 : decode cX0_brokenUnder 5 = .ok (.iconst 4, 1) := by decide +kernel
theorem dX0_brokenUnder_6 : decode cX0_brokenUnder 6 = .ok (.if_icmp .ge 44, 3) := by decide +kernel
theorem dX0_brokenUnder_9 : decode cX0_brokenUnder 9 = .ok (.aload_n 0, 1) := by decide +kernel
theorem dX0_brokenUnder_10 : decode cX0_brokenUnder 10 = .ok (.getfield 30, 3) := by decide +kernel
theorem dX0_brokenUnder_13 : decode cX0_brokenUnder 13 = .ok (.iload_n 3, 1) := by decide +kernel
theorem dX0_brokenUnder_14 : decode cX0_brokenUnder 14 = .ok (.aload_n 0, 1) := by decide +kernel
theorem dX0_brokenUnder_15 : decode cX0_brokenUnder 15 = .ok (.getfield 26, 3) := by decide +kernel
theorem dX0_brokenUnder_18 : decode cX0_brokenUnder 18 = .ok (.iload_n 3, 1) := by decide +kernel
theorem dX0_brokenUnder_19 : decode cX0_brokenUnder 19 = .ok (.aaload, 1) := by decide +kernel
theorem dX0_brokenUnder_20 : decode cX0_brokenUnder 20 = .ok (.iconst 0, 1) := by decide +kernel
theorem dX0_brokenUnder_21 : decode cX0_brokenUnder 21 = .ok (.aload_n 0, 1) := by decide +kernel
theorem dX0_brokenUnder_22 : decode cX0_brokenUnder 22 = .ok (.getfield 15, 3) := by decide +kernel
theorem dX0_brokenUnder_25 : decode cX0_brokenUnder 25 = .ok (.invokevirtual 85, 3) := by decide +kernel
theorem dX0_brokenUnder_28 : decode cX0_brokenUnder 28 = .ok (.iastore, 1) := by decide +kernel
theorem dX0_brokenUnder_29 : decode cX0_brokenUnder 29 = .ok (.aload_n 0, 1) := by decide +kernel
theorem dX0_brokenUnder_30 : decode cX0_brokenUnder 30 = .ok (.getfield 30, 3) := by decide +kernel
theorem dX0_brokenUnder_33 : decode cX0_brokenUnder 33 = .ok (.iload_n 3, 1) := by decide +kernel
theorem dX0_brokenUnder_34 : decode cX0_brokenUnder 34 = .ok (.iaload, 1) := by decide +kernel
theorem dX0_brokenUnder_35 : decode cX0_brokenUnder 35 = .ok (.ifCond .le 9, 3) := by decide +kernel
theorem dX0_brokenUnder_38 : decode cX0_brokenUnder 38 = .ok (.iload_n 2, 1) := by decide +kernel
theorem dX0_brokenUnder_39 : decode cX0_brokenUnder 39 = .ok (.iconst 1, 1) := by decide +kernel
theorem dX0_brokenUnder_40 : decode cX0_brokenUnder 40 = .ok (.iload_n 3, 1) := by decide +kernel
theorem dX0_brokenUnder_41 : decode cX0_brokenUnder 41 = .ok (.ishl, 1) := by decide +kernel
theorem dX0_brokenUnder_42 : decode cX0_brokenUnder 42 = .ok (.ior, 1) := by decide +kernel
theorem dX0_brokenUnder_43 : decode cX0_brokenUnder 43 = .ok (.istore_n 2, 1) := by decide +kernel
theorem dX0_brokenUnder_44 : decode cX0_brokenUnder 44 = .ok (.iinc 3 1, 3) := by decide +kernel
theorem dX0_brokenUnder_47 : decode cX0_brokenUnder 47 = .ok (.goto (-43), 3) := by decide +kernel
theorem dX0_brokenUnder_50 : decode cX0_brokenUnder 50 = .ok (.iconst 0, 1) := by decide +kernel
theorem dX0_brokenUnder_51 : decode cX0_brokenUnder 51 = .ok (.istore_n 3, 1) := by decide +kernel
theorem dX0_brokenUnder_52 : decode cX0_brokenUnder 52 = .ok (.iconst 0, 1) := by decide +kernel
theorem dX0_brokenUnder_53 : decode cX0_brokenUnder 53 = .ok (.istore 4, 2) := by decide +kernel
theorem dX0_brokenUnder_55 : decode cX0_brokenUnder 55 = .ok (.iload 4, 2) := by decide +kernel
theorem dX0_brokenUnder_57 : decode cX0_brokenUnder 57 = .ok (.iconst 4, 1) := by decide +kernel
theorem dX0_brokenUnder_58 : decode cX0_brokenUnder 58 = .ok (.if_icmp .ge 29, 3) := by decide +kernel
theorem dX0_brokenUnder_61 : decode cX0_brokenUnder 61 = .ok (.aload_n 0, 1) := by decide +kernel
theorem dX0_brokenUnder_62 : decode cX0_brokenUnder 62 = .ok (.iload_n 2, 1) := by decide +kernel
theorem dX0_brokenUnder_63 : decode cX0_brokenUnder 63 = .ok (.iload_n 1, 1) := by decide +kernel
theorem dX0_brokenUnder_64 : decode cX0_brokenUnder 64 = .ok (.invokevirtual 93, 3) := by decide +kernel
theorem dX0_brokenUnder_67 : decode cX0_brokenUnder 67 = .ok (.istore 5, 2) := by decide +kernel
theorem dX0_brokenUnder_69 : decode cX0_brokenUnder 69 = .ok (.iload_n 3, 1) := by decide +kernel
theorem dX0_brokenUnder_70 : decode cX0_brokenUnder 70 = .ok (.iload 5, 2) := by decide +kernel
theorem dX0_brokenUnder_72 : decode cX0_brokenUnder 72 = .ok (.ior, 1) := by decide +kernel
theorem dX0_brokenUnder_73 : decode cX0_brokenUnder 73 = .ok (.istore_n 3, 1) := by decide +kernel
theorem dX0_brokenUnder_74 : decode cX0_brokenUnder 74 = .ok (.iload_n 2, 1) := by decide +kernel
theorem dX0_brokenUnder_75 : decode cX0_brokenUnder 75 = .ok (.iload 5, 2) := by decide +kernel
theorem dX0_brokenUnder_77 : decode cX0_brokenUnder 77 = .ok (.iconst (-1), 1) := by decide +kernel
theorem dX0_brokenUnder_78 : decode cX0_brokenUnder 78 = .ok (.ixor, 1) := by decide +kernel
theorem dX0_brokenUnder_79 : decode cX0_brokenUnder 79 = .ok (.iand, 1) := by decide +kernel
theorem dX0_brokenUnder_80 : decode cX0_brokenUnder 80 = .ok (.istore_n 2, 1) := by decide +kernel
theorem dX0_brokenUnder_81 : decode cX0_brokenUnder 81 = .ok (.iinc 4 1, 3) := by decide +kernel
theorem dX0_brokenUnder_84 : decode cX0_brokenUnder 84 = .ok (.goto (-29), 3) := by decide +kernel
theorem dX0_brokenUnder_87 : decode cX0_brokenUnder 87 = .ok (.iload_n 3, 1) := by decide +kernel
theorem dX0_brokenUnder_88 : decode cX0_brokenUnder 88 = .ok (.ireturn, 1) := by decide +kernel
theorem dX0_breaking_0 : decode cX0_breaking 0 = .ok (.iload_n 1, 1) := by decide +kernel
theorem dX0_breaking_1 : decode cX0_breaking 1 = .ok (.invokestatic 96, 3) := by decide +kernel
theorem dX0_breaking_4 : decode cX0_breaking 4 = .ok (.istore_n 3, 1) := by decide +kernel
theorem dX0_breaking_5 : decode cX0_breaking 5 = .ok (.iconst 0, 1) := by decide +kernel
theorem dX0_breaking_6 : decode cX0_breaking 6 = .ok (.istore 4, 2) := by decide +kernel
theorem dX0_breaking_8 : decode cX0_breaking 8 = .ok (.iconst 0, 1) := by decide +kernel
theorem dX0_breaking_9 : decode cX0_breaking 9 = .ok (.istore 5, 2) := by decide +kernel
theorem dX0_breaking_11 : decode cX0_breaking 11 = .ok (.iload 5, 2) := by decide +kernel
theorem dX0_breaking_13 : decode cX0_breaking 13 = .ok (.iconst 4, 1) := by decide +kernel
theorem dX0_breaking_14 : decode cX0_breaking 14 = .ok (.if_icmp .ge 40, 3) := by decide +kernel
theorem dX0_breaking_17 : decode cX0_breaking 17 = .ok (.iload_n 1, 1) := by decide +kernel
theorem dX0_breaking_18 : decode cX0_breaking 18 = .ok (.iload 5, 2) := by decide +kernel
theorem dX0_breaking_20 : decode cX0_breaking 20 = .ok (.ishr, 1) := by decide +kernel
theorem dX0_breaking_21 : decode cX0_breaking 21 = .ok (.iconst 1, 1) := by decide +kernel
theorem dX0_breaking_22 : decode cX0_breaking 22 = .ok (.iand, 1) := by decide +kernel
theorem dX0_breaking_23 : decode cX0_breaking 23 = .ok (.ifCond .eq 25, 3) := by decide +kernel
theorem dX0_breaking_26 : decode cX0_breaking 26 = .ok (.aload_n 0, 1) := by decide +kernel
theorem dX0_breaking_27 : decode cX0_breaking 27 = .ok (.getfield 30, 3) := by decide +kernel
theorem dX0_breaking_30 : decode cX0_breaking 30 = .ok (.iload 5, 2) := by decide +kernel
theorem dX0_breaking_32 : decode cX0_breaking 32 = .ok (.iaload, 1) := by decide +kernel
theorem dX0_breaking_33 : decode cX0_breaking 33 = .ok (.iload_n 3, 1) := by decide +kernel
theorem dX0_breaking_34 : decode cX0_breaking 34 = .ok (.imul, 1) := by decide +kernel
theorem dX0_breaking_35 : decode cX0_breaking 35 = .ok (.iload_n 2, 1) := by decide +kernel
theorem dX0_breaking_36 : decode cX0_breaking 36 = .ok (.if_icmp .ge 12, 3) := by decide +kernel
theorem dX0_breaking_39 : decode cX0_breaking 39 = .ok (.iload 4, 2) := by decide +kernel
theorem dX0_breaking_41 : decode cX0_breaking 41 = .ok (.iconst 1, 1) := by decide +kernel
theorem dX0_breaking_42 : decode cX0_breaking 42 = .ok (.iload 5, 2) := by decide +kernel
theorem dX0_breaking_44 : decode cX0_breaking 44 = .ok (.ishl, 1) := by decide +kernel
theorem dX0_breaking_45 : decode cX0_breaking 45 = .ok (.ior, 1) := by decide +kernel
theorem dX0_breaking_46 : decode cX0_breaking 46 = .ok (.istore 4, 2) := by decide +kernel
theorem dX0_breaking_48 : decode cX0_breaking 48 = .ok (.iinc 5 1, 3) := by decide +kernel
theorem dX0_breaking_51 : decode cX0_breaking 51 = .ok (.goto (-40), 3) := by decide +kernel
theorem dX0_breaking_54 : decode cX0_breaking 54 = .ok (.iload 4, 2) := by decide +kernel
theorem dX0_breaking_56 : decode cX0_breaking 56 = .ok (.ireturn, 1) := by decide +kernel
theorem dX0_powerInBasket_0 : decode cX0_powerInBasket 0 = .ok (.aload_n 0, 1) := by decide +kernel
theorem dX0_powerInBasket_1 : decode cX0_powerInBasket 1 = .ok (.getfield 18, 3) := by decide +kernel
theorem dX0_powerInBasket_4 : decode cX0_powerInBasket 4 = .ok (.iload_n 1, 1) := by decide +kernel
theorem dX0_powerInBasket_5 : decode cX0_powerInBasket 5 = .ok (.iaload, 1) := by decide +kernel
theorem dX0_powerInBasket_6 : decode cX0_powerInBasket 6 = .ok (.aload_n 0, 1) := by decide +kernel
theorem dX0_powerInBasket_7 : decode cX0_powerInBasket 7 = .ok (.getfield 15, 3) := by decide +kernel
theorem dX0_powerInBasket_10 : decode cX0_powerInBasket 10 = .ok (.iload_n 1, 1) := by decide +kernel
theorem dX0_powerInBasket_11 : decode cX0_powerInBasket 11 = .ok (.iaload, 1) := by decide +kernel
theorem dX0_powerInBasket_12 : decode cX0_powerInBasket 12 = .ok (.imul, 1) := by decide +kernel
theorem dX0_powerInBasket_13 : decode cX0_powerInBasket 13 = .ok (.ireturn, 1) := by decide +kernel
theorem dX0_inchesOf_0 : decode cX0_inchesOf 0 = .ok (.iconst 0, 1) := by decide +kernel
theorem dX0_inchesOf_1 : decode cX0_inchesOf 1 = .ok (.istore_n 2, 1) := by decide +kernel
theorem dX0_inchesOf_2 : decode cX0_inchesOf 2 = .ok (.iconst 0, 1) := by decide +kernel
theorem dX0_inchesOf_3 : decode cX0_inchesOf 3 = .ok (.istore_n 3, 1) := by decide +kernel
theorem dX0_inchesOf_4 : decode cX0_inchesOf 4 = .ok (.iload_n 3, 1) := by decide +kernel
theorem dX0_inchesOf_5 : decode cX0_inchesOf 5 = .ok (.iconst 4, 1) := by decide +kernel
theorem dX0_inchesOf_6 : decode cX0_inchesOf 6 = .ok (.if_icmp .ge 22, 3) := by decide +kernel
theorem dX0_inchesOf_9 : decode cX0_inchesOf 9 = .ok (.iload_n 2, 1) := by decide +kernel
theorem dX0_inchesOf_10 : decode cX0_inchesOf 10 = .ok (.aload_n 0, 1) := by decide +kernel
theorem dX0_inchesOf_11 : decode cX0_inchesOf 11 = .ok (.getfield 26, 3) := by decide +kernel
theorem dX0_inchesOf_14 : decode cX0_inchesOf 14 = .ok (.iload_n 3, 1) := by decide +kernel
theorem dX0_inchesOf_15 : decode cX0_inchesOf 15 = .ok (.aaload, 1) := by decide +kernel
theorem dX0_inchesOf_16 : decode cX0_inchesOf 16 = .ok (.iload_n 1, 1) := by decide +kernel
theorem dX0_inchesOf_17 : decode cX0_inchesOf 17 = .ok (.invokevirtual 102, 3) := by decide +kernel
theorem dX0_inchesOf_20 : decode cX0_inchesOf 20 = .ok (.iadd, 1) := by decide +kernel
theorem dX0_inchesOf_21 : decode cX0_inchesOf 21 = .ok (.istore_n 2, 1) := by decide +kernel
theorem dX0_inchesOf_22 : decode cX0_inchesOf 22 = .ok (.iinc 3 1, 3) := by decide +kernel
theorem dX0_inchesOf_25 : decode cX0_inchesOf 25 = .ok (.goto (-21), 3) := by decide +kernel
theorem dX0_inchesOf_28 : decode cX0_inchesOf 28 = .ok (.iload_n 2, 1) := by decide +kernel
theorem dX0_inchesOf_29 : decode cX0_inchesOf 29 = .ok (.ireturn, 1) := by decide +kernel
theorem dX0_powerOf_0 : decode cX0_powerOf 0 = .ok (.aload_n 0, 1) := by decide +kernel
theorem dX0_powerOf_1 : decode cX0_powerOf 1 = .ok (.iload_n 1, 1) := by decide +kernel
theorem dX0_powerOf_2 : decode cX0_powerOf 2 = .ok (.invokevirtual 105, 3) := by decide +kernel
theorem dX0_powerOf_5 : decode cX0_powerOf 5 = .ok (.aload_n 0, 1) := by decide +kernel
theorem dX0_powerOf_6 : decode cX0_powerOf 6 = .ok (.getfield 15, 3) := by decide +kernel
theorem dX0_powerOf_9 : decode cX0_powerOf 9 = .ok (.iload_n 1, 1) := by decide +kernel
theorem dX0_powerOf_10 : decode cX0_powerOf 10 = .ok (.iaload, 1) := by decide +kernel
theorem dX0_powerOf_11 : decode cX0_powerOf 11 = .ok (.imul, 1) := by decide +kernel
theorem dX0_powerOf_12 : decode cX0_powerOf 12 = .ok (.ireturn, 1) := by decide +kernel
theorem dX1_init_0 : decode cX1_init 0 = .ok (.aload_n 0, 1) := by decide +kernel
theorem dX1_init_1 : decode cX1_init 1 = .ok (.invokespecial 3, 3) := by decide +kernel
theorem dX1_init_4 : decode cX1_init 4 = .ok (.aload_n 0, 1) := by decide +kernel
theorem dX1_init_5 : decode cX1_init 5 = .ok (.new 9, 3) := by decide +kernel
theorem dX1_init_8 : decode cX1_init 8 = .ok (.dup, 1) := by decide +kernel
theorem dX1_init_9 : decode cX1_init 9 = .ok (.invokespecial 11, 3) := by decide +kernel
theorem dX1_init_12 : decode cX1_init 12 = .ok (.putfield 12, 3) := by decide +kernel
theorem dX1_init_15 : decode cX1_init 15 = .ok (.aload_n 0, 1) := by decide +kernel
theorem dX1_init_16 : decode cX1_init 16 = .ok (.bipush 7, 2) := by decide +kernel
theorem dX1_init_18 : decode cX1_init 18 = .ok (.newarray .int, 2) := by decide +kernel
theorem dX1_init_20 : decode cX1_init 20 = .ok (.putfield 18, 3) := by decide +kernel
theorem dX1_init_23 : decode cX1_init 23 = .ok (.aload_n 0, 1) := by decide +kernel
theorem dX1_init_24 : decode cX1_init 24 = .ok (.sipush 448, 3) := by decide +kernel
theorem dX1_init_27 : decode cX1_init 27 = .ok (.newarray .int, 2) := by decide +kernel
theorem dX1_init_29 : decode cX1_init 29 = .ok (.putfield 22, 3) := by decide +kernel
theorem dX1_init_32 : decode cX1_init 32 = .ok (.aload_n 0, 1) := by decide +kernel
theorem dX1_init_33 : decode cX1_init 33 = .ok (.bipush 6, 2) := by decide +kernel
theorem dX1_init_35 : decode cX1_init 35 = .ok (.newarray .int, 2) := by decide +kernel
theorem dX1_init_37 : decode cX1_init 37 = .ok (.putfield 25, 3) := by decide +kernel
theorem dX1_init_40 : decode cX1_init 40 = .ok (.return_, 1) := by decide +kernel
theorem dX1_most_0 : decode cX1_most 0 = .ok (.aload_n 0, 1) := by decide +kernel
theorem dX1_most_1 : decode cX1_most 1 = .ok (.getfield 22, 3) := by decide +kernel
theorem dX1_most_4 : decode cX1_most 4 = .ok (.iconst 0, 1) := by decide +kernel
theorem dX1_most_5 : decode cX1_most 5 = .ok (.iaload, 1) := by decide +kernel
theorem dX1_most_6 : decode cX1_most 6 = .ok (.ireturn, 1) := by decide +kernel
theorem dX1_turn_0 : decode cX1_turn 0 = .ok (.aload_n 0, 1) := by decide +kernel
theorem dX1_turn_1 : decode cX1_turn 1 = .ok (.getfield 25, 3) := by decide +kernel
theorem dX1_turn_4 : decode cX1_turn 4 = .ok (.iload_n 1, 1) := by decide +kernel
theorem dX1_turn_5 : decode cX1_turn 5 = .ok (.iaload, 1) := by decide +kernel
theorem dX1_turn_6 : decode cX1_turn 6 = .ok (.ireturn, 1) := by decide +kernel
theorem dX1_reckon_0 : decode cX1_reckon 0 = .ok (.aload_n 0, 1) := by decide +kernel
theorem dX1_reckon_1 : decode cX1_reckon 1 = .ok (.getfield 12, 3) := by decide +kernel
theorem dX1_reckon_4 : decode cX1_reckon 4 = .ok (.aload_n 2, 1) := by decide +kernel
theorem dX1_reckon_5 : decode cX1_reckon 5 = .ok (.invokevirtual 28, 3) := by decide +kernel
theorem dX1_reckon_8 : decode cX1_reckon 8 = .ok (.iconst 0, 1) := by decide +kernel
theorem dX1_reckon_9 : decode cX1_reckon 9 = .ok (.istore_n 3, 1) := by decide +kernel
theorem dX1_reckon_10 : decode cX1_reckon 10 = .ok (.iload_n 3, 1) := by decide +kernel
theorem dX1_reckon_11 : decode cX1_reckon 11 = .ok (.aload_n 0, 1) := by decide +kernel
theorem dX1_reckon_12 : decode cX1_reckon 12 = .ok (.getfield 12, 3) := by decide +kernel
theorem dX1_reckon_15 : decode cX1_reckon 15 = .ok (.getfield 32, 3) := by decide +kernel
theorem dX1_reckon_18 : decode cX1_reckon 18 = .ok (.if_icmp .gt 20, 3) := by decide +kernel
theorem dX1_reckon_21 : decode cX1_reckon 21 = .ok (.aload_n 0, 1) := by decide +kernel
theorem dX1_reckon_22 : decode cX1_reckon 22 = .ok (.getfield 18, 3) := by decide +kernel
theorem dX1_reckon_25 : decode cX1_reckon 25 = .ok (.iload_n 3, 1) := by decide +kernel
theorem dX1_reckon_26 : decode cX1_reckon 26 = .ok (.aload_n 1, 1) := by decide +kernel
theorem dX1_reckon_27 : decode cX1_reckon 27 = .ok (.iload_n 3, 1) := by decide +kernel
theorem dX1_reckon_28 : decode cX1_reckon 28 = .ok (.invokevirtual 36, 3) := by decide +kernel
theorem dX1_reckon_31 : decode cX1_reckon 31 = .ok (.iastore, 1) := by decide +kernel
theorem dX1_reckon_32 : decode cX1_reckon 32 = .ok (.iinc 3 1, 3) := by decide +kernel
theorem dX1_reckon_35 : decode cX1_reckon 35 = .ok (.goto (-25), 3) := by decide +kernel
theorem dX1_reckon_38 : decode cX1_reckon 38 = .ok (.iconst 1, 1) := by decide +kernel
theorem dX1_reckon_39 : decode cX1_reckon 39 = .ok (.aload_n 0, 1) := by decide +kernel
theorem dX1_reckon_40 : decode cX1_reckon 40 = .ok (.getfield 12, 3) := by decide +kernel
theorem dX1_reckon_43 : decode cX1_reckon 43 = .ok (.getfield 32, 3) := by decide +kernel
theorem dX1_reckon_46 : decode cX1_reckon 46 = .ok (.ishl, 1) := by decide +kernel
theorem dX1_reckon_47 : decode cX1_reckon 47 = .ok (.iconst 1, 1) := by decide +kernel
theorem dX1_reckon_48 : decode cX1_reckon 48 = .ok (.isub, 1) := by decide +kernel
theorem dX1_reckon_49 : decode cX1_reckon 49 = .ok (.istore_n 3, 1) := by decide +kernel
theorem dX1_reckon_50 : decode cX1_reckon 50 = .ok (.iload_n 3, 1) := by decide +kernel
theorem dX1_reckon_51 : decode cX1_reckon 51 = .ok (.ifCond .lt 45, 3) := by decide +kernel
theorem dX1_reckon_54 : decode cX1_reckon 54 = .ok (.iload_n 3, 1) := by decide +kernel
theorem dX1_reckon_55 : decode cX1_reckon 55 = .ok (.invokestatic 42, 3) := by decide +kernel
theorem dX1_reckon_58 : decode cX1_reckon 58 = .ok (.istore 4, 2) := by decide +kernel
theorem dX1_reckon_60 : decode cX1_reckon 60 = .ok (.iload 4, 2) := by decide +kernel
theorem dX1_reckon_62 : decode cX1_reckon 62 = .ok (.ifCond .lt 28, 3) := by decide +kernel
theorem dX1_reckon_65 : decode cX1_reckon 65 = .ok (.aload_n 0, 1) := by decide +kernel
theorem dX1_reckon_66 : decode cX1_reckon 66 = .ok (.getfield 22, 3) := by decide +kernel
theorem dX1_reckon_69 : decode cX1_reckon 69 = .ok (.iload_n 3, 1) := by decide +kernel
theorem dX1_reckon_70 : decode cX1_reckon 70 = .ok (.bipush 7, 2) := by decide +kernel
theorem dX1_reckon_72 : decode cX1_reckon 72 = .ok (.imul, 1) := by decide +kernel
theorem dX1_reckon_73 : decode cX1_reckon 73 = .ok (.iload 4, 2) := by decide +kernel
theorem dX1_reckon_75 : decode cX1_reckon 75 = .ok (.iadd, 1) := by decide +kernel
theorem dX1_reckon_76 : decode cX1_reckon 76 = .ok (.aload_n 0, 1) := by decide +kernel
theorem dX1_reckon_77 : decode cX1_reckon 77 = .ok (.iload_n 3, 1) := by decide +kernel
theorem dX1_reckon_78 : decode cX1_reckon 78 = .ok (.iload 4, 2) := by decide +kernel
theorem dX1_reckon_80 : decode cX1_reckon 80 = .ok (.invokevirtual 47, 3) := by decide +kernel
theorem dX1_reckon_83 : decode cX1_reckon 83 = .ok (.iastore, 1) := by decide +kernel
theorem dX1_reckon_84 : decode cX1_reckon 84 = .ok (.iinc 4 (-1), 3) := by decide +kernel
theorem dX1_reckon_87 : decode cX1_reckon 87 = .ok (.goto (-27), 3) := by decide +kernel
theorem dX1_reckon_90 : decode cX1_reckon 90 = .ok (.iinc 3 (-1), 3) := by decide +kernel
theorem dX1_reckon_93 : decode cX1_reckon 93 = .ok (.goto (-43), 3) := by decide +kernel
theorem dX1_reckon_96 : decode cX1_reckon 96 = .ok (.aload_n 0, 1) := by decide +kernel
theorem dX1_reckon_97 : decode cX1_reckon 97 = .ok (.invokevirtual 51, 3) := by decide +kernel
theorem dX1_reckon_100 : decode cX1_reckon 100 = .ok (.return_, 1) := by decide +kernel
theorem dX1_mostFrom_0 : decode cX1_mostFrom 0 = .ok (.iconst 0, 1) := by decide +kernel
theorem dX1_mostFrom_1 : decode cX1_mostFrom 1 = .ok (.istore_n 3, 1) := by decide +kernel
theorem dX1_mostFrom_2 : decode cX1_mostFrom 2 = .ok (.iconst 0, 1) := by decide +kernel
theorem dX1_mostFrom_3 : decode cX1_mostFrom 3 = .ok (.istore 4, 2) := by decide +kernel
theorem dX1_mostFrom_5 : decode cX1_mostFrom 5 = .ok (.iload 4, 2) := by decide +kernel
theorem dX1_mostFrom_7 : decode cX1_mostFrom 7 = .ok (.aload_n 0, 1) := by decide +kernel
theorem dX1_mostFrom_8 : decode cX1_mostFrom 8 = .ok (.getfield 12, 3) := by decide +kernel
theorem dX1_mostFrom_11 : decode cX1_mostFrom 11 = .ok (.getfield 32, 3) := by decide +kernel
theorem dX1_mostFrom_14 : decode cX1_mostFrom 14 = .ok (.if_icmp .ge 31, 3) := by decide +kernel
theorem dX1_mostFrom_17 : decode cX1_mostFrom 17 = .ok (.iload_n 1, 1) := by decide +kernel
theorem dX1_mostFrom_18 : decode cX1_mostFrom 18 = .ok (.iload 4, 2) := by decide +kernel
theorem dX1_mostFrom_20 : decode cX1_mostFrom 20 = .ok (.ishr, 1) := by decide +kernel
theorem dX1_mostFrom_21 : decode cX1_mostFrom 21 = .ok (.iconst 1, 1) := by decide +kernel
theorem dX1_mostFrom_22 : decode cX1_mostFrom 22 = .ok (.iand, 1) := by decide +kernel
theorem dX1_mostFrom_23 : decode cX1_mostFrom 23 = .ok (.ifCond .ne 16, 3) := by decide +kernel
theorem dX1_mostFrom_26 : decode cX1_mostFrom 26 = .ok (.iload_n 3, 1) := by decide +kernel
theorem dX1_mostFrom_27 : decode cX1_mostFrom 27 = .ok (.aload_n 0, 1) := by decide +kernel
theorem dX1_mostFrom_28 : decode cX1_mostFrom 28 = .ok (.iload 4, 2) := by decide +kernel
theorem dX1_mostFrom_30 : decode cX1_mostFrom 30 = .ok (.iload_n 1, 1) := by decide +kernel
theorem dX1_mostFrom_31 : decode cX1_mostFrom 31 = .ok (.iload_n 2, 1) := by decide +kernel
theorem dX1_mostFrom_32 : decode cX1_mostFrom 32 = .ok (.invokevirtual 54, 3) := by decide +kernel
theorem dX1_mostFrom_35 : decode cX1_mostFrom 35 = .ok (.invokestatic 58, 3) := by decide +kernel
theorem dX1_mostFrom_38 : decode cX1_mostFrom 38 = .ok (.istore_n 3, 1) := by decide +kernel
theorem dX1_mostFrom_39 : decode cX1_mostFrom 39 = .ok (.iinc 4 1, 3) := by decide +kernel
theorem dX1_mostFrom_42 : decode cX1_mostFrom 42 = .ok (.goto (-37), 3) := by decide +kernel
theorem dX1_mostFrom_45 : decode cX1_mostFrom 45 = .ok (.iload_n 3, 1) := by decide +kernel
theorem dX1_mostFrom_46 : decode cX1_mostFrom 46 = .ok (.ireturn, 1) := by decide +kernel
theorem dX1_crosses_0 : decode cX1_crosses 0 = .ok (.aload_n 0, 1) := by decide +kernel
theorem dX1_crosses_1 : decode cX1_crosses 1 = .ok (.getfield 12, 3) := by decide +kernel
theorem dX1_crosses_4 : decode cX1_crosses 4 = .ok (.getfield 63, 3) := by decide +kernel
theorem dX1_crosses_7 : decode cX1_crosses 7 = .ok (.iload_n 1, 1) := by decide +kernel
theorem dX1_crosses_8 : decode cX1_crosses 8 = .ok (.iaload, 1) := by decide +kernel
theorem dX1_crosses_9 : decode cX1_crosses 9 = .ok (.aload_n 0, 1) := by decide +kernel
theorem dX1_crosses_10 : decode cX1_crosses 10 = .ok (.getfield 18, 3) := by decide +kernel
theorem dX1_crosses_13 : decode cX1_crosses 13 = .ok (.iload_n 2, 1) := by decide +kernel
theorem dX1_crosses_14 : decode cX1_crosses 14 = .ok (.iaload, 1) := by decide +kernel
theorem dX1_crosses_15 : decode cX1_crosses 15 = .ok (.if_icmp .gt 7, 3) := by decide +kernel
theorem dX1_crosses_18 : decode cX1_crosses 18 = .ok (.iconst 1, 1) := by decide +kernel
theorem dX1_crosses_19 : decode cX1_crosses 19 = .ok (.goto 4, 3) := by decide +kernel
theorem dX1_crosses_22 : decode cX1_crosses 22 = .ok (.iconst 0, 1) := by decide +kernel
theorem dX1_crosses_23 : decode cX1_crosses 23 = .ok (.ireturn, 1) := by decide +kernel
theorem dX1_worthBy_0 : decode cX1_worthBy 0 = .ok (.iload_n 2, 1) := by decide +kernel
theorem dX1_worthBy_1 : decode cX1_worthBy 1 = .ok (.iconst 1, 1) := by decide +kernel
theorem dX1_worthBy_2 : decode cX1_worthBy 2 = .ok (.iload_n 1, 1) := by decide +kernel
theorem dX1_worthBy_3 : decode cX1_worthBy 3 = .ok (.ishl, 1) := by decide +kernel
theorem dX1_worthBy_4 : decode cX1_worthBy 4 = .ok (.ior, 1) := by decide +kernel
theorem dX1_worthBy_5 : decode cX1_worthBy 5 = .ok (.bipush 7, 2) := by decide +kernel
theorem dX1_worthBy_7 : decode cX1_worthBy 7 = .ok (.imul, 1) := by decide +kernel
theorem dX1_worthBy_8 : decode cX1_worthBy 8 = .ok (.iload_n 3, 1) := by decide +kernel
theorem dX1_worthBy_9 : decode cX1_worthBy 9 = .ok (.iadd, 1) := by decide +kernel
theorem dX1_worthBy_10 : decode cX1_worthBy 10 = .ok (.istore 4, 2) := by decide +kernel
theorem dX1_worthBy_12 : decode cX1_worthBy 12 = .ok (.aload_n 0, 1) := by decide +kernel
theorem dX1_worthBy_13 : decode cX1_worthBy 13 = .ok (.iload_n 1, 1) := by decide +kernel
theorem dX1_worthBy_14 : decode cX1_worthBy 14 = .ok (.iload_n 3, 1) := by decide +kernel
theorem dX1_worthBy_15 : decode cX1_worthBy 15 = .ok (.invokevirtual 66, 3) := by decide +kernel
theorem dX1_worthBy_18 : decode cX1_worthBy 18 = .ok (.ifCond .eq 25, 3) := by decide +kernel
theorem dX1_worthBy_21 : decode cX1_worthBy 21 = .ok (.aload_n 0, 1) := by decide +kernel
theorem dX1_worthBy_22 : decode cX1_worthBy 22 = .ok (.getfield 12, 3) := by decide +kernel
theorem dX1_worthBy_25 : decode cX1_worthBy 25 = .ok (.getfield 70, 3) := by decide +kernel
theorem dX1_worthBy_28 : decode cX1_worthBy 28 = .ok (.iload_n 1, 1) := by decide +kernel
theorem dX1_worthBy_29 : decode cX1_worthBy 29 = .ok (.iaload, 1) := by decide +kernel
theorem dX1_worthBy_30 : decode cX1_worthBy 30 = .ok (.aload_n 0, 1) := by decide +kernel
theorem dX1_worthBy_31 : decode cX1_worthBy 31 = .ok (.getfield 22, 3) := by decide +kernel
theorem dX1_worthBy_34 : decode cX1_worthBy 34 = .ok (.iload 4, 2) := by decide +kernel
theorem dX1_worthBy_36 : decode cX1_worthBy 36 = .ok (.iconst 1, 1) := by decide +kernel
theorem dX1_worthBy_37 : decode cX1_worthBy 37 = .ok (.iadd, 1) := by decide +kernel
theorem dX1_worthBy_38 : decode cX1_worthBy 38 = .ok (.iaload, 1) := by decide +kernel
theorem dX1_worthBy_39 : decode cX1_worthBy 39 = .ok (.iadd, 1) := by decide +kernel
theorem dX1_worthBy_40 : decode cX1_worthBy 40 = .ok (.goto 10, 3) := by decide +kernel
theorem dX1_worthBy_43 : decode cX1_worthBy 43 = .ok (.aload_n 0, 1) := by decide +kernel
theorem dX1_worthBy_44 : decode cX1_worthBy 44 = .ok (.getfield 22, 3) := by decide +kernel
theorem dX1_worthBy_47 : decode cX1_worthBy 47 = .ok (.iload 4, 2) := by decide +kernel
theorem dX1_worthBy_49 : decode cX1_worthBy 49 = .ok (.iaload, 1) := by decide +kernel
theorem dX1_worthBy_50 : decode cX1_worthBy 50 = .ok (.ireturn, 1) := by decide +kernel
theorem dX1_findOrder_0 : decode cX1_findOrder 0 = .ok (.iconst 0, 1) := by decide +kernel
theorem dX1_findOrder_1 : decode cX1_findOrder 1 = .ok (.istore_n 1, 1) := by decide +kernel
theorem dX1_findOrder_2 : decode cX1_findOrder 2 = .ok (.iconst 0, 1) := by decide +kernel
theorem dX1_findOrder_3 : decode cX1_findOrder 3 = .ok (.istore_n 2, 1) := by decide +kernel
theorem dX1_findOrder_4 : decode cX1_findOrder 4 = .ok (.iconst 0, 1) := by decide +kernel
theorem dX1_findOrder_5 : decode cX1_findOrder 5 = .ok (.istore_n 3, 1) := by decide +kernel
theorem dX1_findOrder_6 : decode cX1_findOrder 6 = .ok (.iload_n 3, 1) := by decide +kernel
theorem dX1_findOrder_7 : decode cX1_findOrder 7 = .ok (.aload_n 0, 1) := by decide +kernel
theorem dX1_findOrder_8 : decode cX1_findOrder 8 = .ok (.getfield 12, 3) := by decide +kernel
theorem dX1_findOrder_11 : decode cX1_findOrder 11 = .ok (.getfield 32, 3) := by decide +kernel
theorem dX1_findOrder_14 : decode cX1_findOrder 14 = .ok (.if_icmp .ge 45, 3) := by decide +kernel
theorem dX1_findOrder_17 : decode cX1_findOrder 17 = .ok (.aload_n 0, 1) := by decide +kernel
theorem dX1_findOrder_18 : decode cX1_findOrder 18 = .ok (.iload_n 1, 1) := by decide +kernel
theorem dX1_findOrder_19 : decode cX1_findOrder 19 = .ok (.iload_n 2, 1) := by decide +kernel
theorem dX1_findOrder_20 : decode cX1_findOrder 20 = .ok (.invokevirtual 73, 3) := by decide +kernel
theorem dX1_findOrder_23 : decode cX1_findOrder 23 = .ok (.istore 4, 2) := by decide +kernel
theorem dX1_findOrder_25 : decode cX1_findOrder 25 = .ok (.aload_n 0, 1) := by decide +kernel
theorem dX1_findOrder_26 : decode cX1_findOrder 26 = .ok (.getfield 25, 3) := by decide +kernel
theorem dX1_findOrder_29 : decode cX1_findOrder 29 = .ok (.iload_n 3, 1) := by decide +kernel
theorem dX1_findOrder_30 : decode cX1_findOrder 30 = .ok (.iload 4, 2) := by decide +kernel
theorem dX1_findOrder_32 : decode cX1_findOrder 32 = .ok (.iastore, 1) := by decide +kernel
theorem dX1_findOrder_33 : decode cX1_findOrder 33 = .ok (.iload_n 1, 1) := by decide +kernel
theorem dX1_findOrder_34 : decode cX1_findOrder 34 = .ok (.iconst 1, 1) := by decide +kernel
theorem dX1_findOrder_35 : decode cX1_findOrder 35 = .ok (.iload 4, 2) := by decide +kernel
theorem dX1_findOrder_37 : decode cX1_findOrder 37 = .ok (.ishl, 1) := by decide +kernel
theorem dX1_findOrder_38 : decode cX1_findOrder 38 = .ok (.ior, 1) := by decide +kernel
theorem dX1_findOrder_39 : decode cX1_findOrder 39 = .ok (.istore_n 1, 1) := by decide +kernel
theorem dX1_findOrder_40 : decode cX1_findOrder 40 = .ok (.aload_n 0, 1) := by decide +kernel
theorem dX1_findOrder_41 : decode cX1_findOrder 41 = .ok (.iload 4, 2) := by decide +kernel
theorem dX1_findOrder_43 : decode cX1_findOrder 43 = .ok (.iload_n 2, 1) := by decide +kernel
theorem dX1_findOrder_44 : decode cX1_findOrder 44 = .ok (.invokevirtual 66, 3) := by decide +kernel
theorem dX1_findOrder_47 : decode cX1_findOrder 47 = .ok (.ifCond .eq 6, 3) := by decide +kernel
theorem dX1_findOrder_50 : decode cX1_findOrder 50 = .ok (.iinc 2 1, 3) := by decide +kernel
theorem dX1_findOrder_53 : decode cX1_findOrder 53 = .ok (.iinc 3 1, 3) := by decide +kernel
theorem dX1_findOrder_56 : decode cX1_findOrder 56 = .ok (.goto (-50), 3) := by decide +kernel
theorem dX1_findOrder_59 : decode cX1_findOrder 59 = .ok (.return_, 1) := by decide +kernel
theorem dX1_firstBest_0 : decode cX1_firstBest 0 = .ok (.aload_n 0, 1) := by decide +kernel
theorem dX1_firstBest_1 : decode cX1_firstBest 1 = .ok (.getfield 22, 3) := by decide +kernel
theorem dX1_firstBest_4 : decode cX1_firstBest 4 = .ok (.iload_n 1, 1) := by decide +kernel
theorem dX1_firstBest_5 : decode cX1_firstBest 5 = .ok (.bipush 7, 2) := by decide +kernel
theorem dX1_firstBest_7 : decode cX1_firstBest 7 = .ok (.imul, 1) := by decide +kernel
theorem dX1_firstBest_8 : decode cX1_firstBest 8 = .ok (.iload_n 2, 1) := by decide +kernel
theorem dX1_firstBest_9 : decode cX1_firstBest 9 = .ok (.iadd, 1) := by decide +kernel
theorem dX1_firstBest_10 : decode cX1_firstBest 10 = .ok (.iaload, 1) := by decide +kernel
theorem dX1_firstBest_11 : decode cX1_firstBest 11 = .ok (.istore_n 3, 1) := by decide +kernel
theorem dX1_firstBest_12 : decode cX1_firstBest 12 = .ok (.iconst 0, 1) := by decide +kernel
theorem dX1_firstBest_13 : decode cX1_firstBest 13 = .ok (.istore 4, 2) := by decide +kernel
theorem dX1_firstBest_15 : decode cX1_firstBest 15 = .ok (.iload 4, 2) := by decide +kernel
theorem dX1_firstBest_17 : decode cX1_firstBest 17 = .ok (.aload_n 0, 1) := by decide +kernel
theorem dX1_firstBest_18 : decode cX1_firstBest 18 = .ok (.getfield 12, 3) := by decide +kernel
theorem dX1_firstBest_21 : decode cX1_firstBest 21 = .ok (.getfield 32, 3) := by decide +kernel
theorem dX1_firstBest_24 : decode cX1_firstBest 24 = .ok (.if_icmp .ge 33, 3) := by decide +kernel
theorem dX1_firstBest_27 : decode cX1_firstBest 27 = .ok (.iload_n 1, 1) := by decide +kernel
theorem dX1_firstBest_28 : decode cX1_firstBest 28 = .ok (.iload 4, 2) := by decide +kernel
theorem dX1_firstBest_30 : decode cX1_firstBest 30 = .ok (.ishr, 1) := by decide +kernel
theorem dX1_firstBest_31 : decode cX1_firstBest 31 = .ok (.iconst 1, 1) := by decide +kernel
theorem dX1_firstBest_32 : decode cX1_firstBest 32 = .ok (.iand, 1) := by decide +kernel
theorem dX1_firstBest_33 : decode cX1_firstBest 33 = .ok (.ifCond .ne 18, 3) := by decide +kernel
theorem dX1_firstBest_36 : decode cX1_firstBest 36 = .ok (.aload_n 0, 1) := by decide +kernel
theorem dX1_firstBest_37 : decode cX1_firstBest 37 = .ok (.iload 4, 2) := by decide +kernel
theorem dX1_firstBest_39 : decode cX1_firstBest 39 = .ok (.iload_n 1, 1) := by decide +kernel
theorem dX1_firstBest_40 : decode cX1_firstBest 40 = .ok (.iload_n 2, 1) := by decide +kernel
theorem dX1_firstBest_41 : decode cX1_firstBest 41 = .ok (.invokevirtual 54, 3) := by decide +kernel
theorem dX1_firstBest_44 : decode cX1_firstBest 44 = .ok (.iload_n 3, 1) := by decide +kernel
theorem dX1_firstBest_45 : decode cX1_firstBest 45 = .ok (.if_icmp .ne 6, 3) := by decide +kernel
theorem dX1_firstBest_48 : decode cX1_firstBest 48 = .ok (.iload 4, 2) := by decide +kernel
theorem dX1_firstBest_50 : decode cX1_firstBest 50 = .ok (.ireturn, 1) := by decide +kernel
theorem dX1_firstBest_51 : decode cX1_firstBest 51 = .ok (.iinc 4 1, 3) := by decide +kernel
theorem dX1_firstBest_54 : decode cX1_firstBest 54 = .ok (.goto (-39), 3) := by decide +kernel
theorem dX1_firstBest_57 : decode cX1_firstBest 57 = .ok (.iconst 0, 1) := by decide +kernel
theorem dX1_firstBest_58 : decode cX1_firstBest 58 = .ok (.ireturn, 1) := by decide +kernel
theorem dX2_init_0 : decode cX2_init 0 = .ok (.aload_n 0, 1) := by decide +kernel
theorem dX2_init_1 : decode cX2_init 1 = .ok (.invokespecial 3, 3) := by decide +kernel
theorem dX2_init_4 : decode cX2_init 4 = .ok (.aload_n 0, 1) := by decide +kernel
theorem dX2_init_5 : decode cX2_init 5 = .ok (.bipush 60, 2) := by decide +kernel
theorem dX2_init_7 : decode cX2_init 7 = .ok (.newarray .int, 2) := by decide +kernel
theorem dX2_init_9 : decode cX2_init 9 = .ok (.putfield 9, 3) := by decide +kernel
theorem dX2_init_12 : decode cX2_init 12 = .ok (.return_, 1) := by decide +kernel
theorem dX2_put_0 : decode cX2_put 0 = .ok (.aload_n 0, 1) := by decide +kernel
theorem dX2_put_1 : decode cX2_put 1 = .ok (.getfield 15, 3) := by decide +kernel
theorem dX2_put_4 : decode cX2_put 4 = .ok (.bipush 60, 2) := by decide +kernel
theorem dX2_put_6 : decode cX2_put 6 = .ok (.if_icmp .lt 5, 3) := by decide +kernel
theorem dX2_put_9 : decode cX2_put 9 = .ok (.iconst 0, 1) := by decide +kernel
theorem dX2_put_10 : decode cX2_put 10 = .ok (.ireturn, 1) := by decide +kernel
theorem dX2_put_11 : decode cX2_put 11 = .ok (.aload_n 0, 1) := by decide +kernel
theorem dX2_put_12 : decode cX2_put 12 = .ok (.getfield 9, 3) := by decide +kernel
theorem dX2_put_15 : decode cX2_put 15 = .ok (.aload_n 0, 1) := by decide +kernel
theorem dX2_put_16 : decode cX2_put 16 = .ok (.getfield 15, 3) := by decide +kernel
theorem dX2_put_19 : decode cX2_put 19 = .ok (.iload_n 1, 1) := by decide +kernel
theorem dX2_put_20 : decode cX2_put 20 = .ok (.iastore, 1) := by decide +kernel
theorem dX2_put_21 : decode cX2_put 21 = .ok (.aload_n 0, 1) := by decide +kernel
theorem dX2_put_22 : decode cX2_put 22 = .ok (.dup, 1) := by decide +kernel
theorem dX2_put_23 : decode cX2_put 23 = .ok (.getfield 15, 3) := by decide +kernel
theorem dX2_put_26 : decode cX2_put 26 = .ok (.iconst 1, 1) := by decide +kernel
theorem dX2_put_27 : decode cX2_put 27 = .ok (.iadd, 1) := by decide +kernel
theorem dX2_put_28 : decode cX2_put 28 = .ok (.putfield 15, 3) := by decide +kernel
theorem dX2_put_31 : decode cX2_put 31 = .ok (.iconst 1, 1) := by decide +kernel
theorem dX2_put_32 : decode cX2_put 32 = .ok (.ireturn, 1) := by decide +kernel
theorem dX2_clear_0 : decode cX2_clear 0 = .ok (.aload_n 0, 1) := by decide +kernel
theorem dX2_clear_1 : decode cX2_clear 1 = .ok (.getfield 15, 3) := by decide +kernel
theorem dX2_clear_4 : decode cX2_clear 4 = .ok (.istore_n 1, 1) := by decide +kernel
theorem dX2_clear_5 : decode cX2_clear 5 = .ok (.aload_n 0, 1) := by decide +kernel
theorem dX2_clear_6 : decode cX2_clear 6 = .ok (.iconst 0, 1) := by decide +kernel
theorem dX2_clear_7 : decode cX2_clear 7 = .ok (.putfield 15, 3) := by decide +kernel
theorem dX2_clear_10 : decode cX2_clear 10 = .ok (.iload_n 1, 1) := by decide +kernel
theorem dX2_clear_11 : decode cX2_clear 11 = .ok (.ireturn, 1) := by decide +kernel
theorem dX2_firstFault_0 : decode cX2_firstFault 0 = .ok (.iconst 0, 1) := by decide +kernel
theorem dX2_firstFault_1 : decode cX2_firstFault 1 = .ok (.istore_n 1, 1) := by decide +kernel
theorem dX2_firstFault_2 : decode cX2_firstFault 2 = .ok (.iconst 0, 1) := by decide +kernel
theorem dX2_firstFault_3 : decode cX2_firstFault 3 = .ok (.istore_n 2, 1) := by decide +kernel
theorem dX2_firstFault_4 : decode cX2_firstFault 4 = .ok (.iload_n 2, 1) := by decide +kernel
theorem dX2_firstFault_5 : decode cX2_firstFault 5 = .ok (.aload_n 0, 1) := by decide +kernel
theorem dX2_firstFault_6 : decode cX2_firstFault 6 = .ok (.getfield 15, 3) := by decide +kernel
theorem dX2_firstFault_9 : decode cX2_firstFault 9 = .ok (.if_icmp .ge 27, 3) := by decide +kernel
theorem dX2_firstFault_12 : decode cX2_firstFault 12 = .ok (.iload_n 1, 1) := by decide +kernel
theorem dX2_firstFault_13 : decode cX2_firstFault 13 = .ok (.aload_n 0, 1) := by decide +kernel
theorem dX2_firstFault_14 : decode cX2_firstFault 14 = .ok (.getfield 9, 3) := by decide +kernel
theorem dX2_firstFault_17 : decode cX2_firstFault 17 = .ok (.iload_n 2, 1) := by decide +kernel
theorem dX2_firstFault_18 : decode cX2_firstFault 18 = .ok (.iaload, 1) := by decide +kernel
theorem dX2_firstFault_19 : decode cX2_firstFault 19 = .ok (.invokestatic 19, 3) := by decide +kernel
theorem dX2_firstFault_22 : decode cX2_firstFault 22 = .ok (.istore_n 1, 1) := by decide +kernel
theorem dX2_firstFault_23 : decode cX2_firstFault 23 = .ok (.iload_n 1, 1) := by decide +kernel
theorem dX2_firstFault_24 : decode cX2_firstFault 24 = .ok (.iconst 3, 1) := by decide +kernel
theorem dX2_firstFault_25 : decode cX2_firstFault 25 = .ok (.if_icmp .ne 5, 3) := by decide +kernel
theorem dX2_firstFault_28 : decode cX2_firstFault 28 = .ok (.iload_n 2, 1) := by decide +kernel
theorem dX2_firstFault_29 : decode cX2_firstFault 29 = .ok (.ireturn, 1) := by decide +kernel
theorem dX2_firstFault_30 : decode cX2_firstFault 30 = .ok (.iinc 2 1, 3) := by decide +kernel
theorem dX2_firstFault_33 : decode cX2_firstFault 33 = .ok (.goto (-29), 3) := by decide +kernel
theorem dX2_firstFault_36 : decode cX2_firstFault 36 = .ok (.iload_n 1, 1) := by decide +kernel
theorem dX2_firstFault_37 : decode cX2_firstFault 37 = .ok (.ifCond .ne 8, 3) := by decide +kernel
theorem dX2_firstFault_40 : decode cX2_firstFault 40 = .ok (.bipush (-6), 2) := by decide +kernel
theorem dX2_firstFault_42 : decode cX2_firstFault 42 = .ok (.goto 7, 3) := by decide +kernel
theorem dX2_firstFault_45 : decode cX2_firstFault 45 = .ok (.aload_n 0, 1) := by decide +kernel
theorem dX2_firstFault_46 : decode cX2_firstFault 46 = .ok (.getfield 15, 3) := by decide +kernel
theorem dX2_firstFault_49 : decode cX2_firstFault 49 = .ok (.ireturn, 1) := by decide +kernel
theorem dX2_behind_0 : decode cX2_behind 0 = .ok (.iload_n 0, 1) := by decide +kernel
theorem dX2_behind_1 : decode cX2_behind 1 = .ok (.lookupswitch 87 #[(0, 27), (1, 54)], 27) := by decide +kernel
theorem dX2_behind_28 : decode cX2_behind 28 = .ok (.iload_n 1, 1) := by decide +kernel
theorem dX2_behind_29 : decode cX2_behind 29 = .ok (.bipush 46, 2) := by decide +kernel
theorem dX2_behind_31 : decode cX2_behind 31 = .ok (.if_icmp .ne 7, 3) := by decide +kernel
theorem dX2_behind_34 : decode cX2_behind 34 = .ok (.iconst 0, 1) := by decide +kernel
theorem dX2_behind_35 : decode cX2_behind 35 = .ok (.goto 19, 3) := by decide +kernel
theorem dX2_behind_38 : decode cX2_behind 38 = .ok (.iload_n 1, 1) := by decide +kernel
theorem dX2_behind_39 : decode cX2_behind 39 = .ok (.bipush 65, 2) := by decide +kernel
theorem dX2_behind_41 : decode cX2_behind 41 = .ok (.bipush 70, 2) := by decide +kernel
theorem dX2_behind_43 : decode cX2_behind 43 = .ok (.invokestatic 23, 3) := by decide +kernel
theorem dX2_behind_46 : decode cX2_behind 46 = .ok (.ifCond .eq 7, 3) := by decide +kernel
theorem dX2_behind_49 : decode cX2_behind 49 = .ok (.iconst 1, 1) := by decide +kernel
theorem dX2_behind_50 : decode cX2_behind 50 = .ok (.goto 4, 3) := by decide +kernel
theorem dX2_behind_53 : decode cX2_behind 53 = .ok (.iconst 3, 1) := by decide +kernel
theorem dX2_behind_54 : decode cX2_behind 54 = .ok (.ireturn, 1) := by decide +kernel
theorem dX2_behind_55 : decode cX2_behind 55 = .ok (.iload_n 1, 1) := by decide +kernel
theorem dX2_behind_56 : decode cX2_behind 56 = .ok (.bipush 43, 2) := by decide +kernel
theorem dX2_behind_58 : decode cX2_behind 58 = .ok (.if_icmp .eq 9, 3) := by decide +kernel
theorem dX2_behind_61 : decode cX2_behind 61 = .ok (.iload_n 1, 1) := by decide +kernel
theorem dX2_behind_62 : decode cX2_behind 62 = .ok (.bipush 45, 2) := by decide +kernel
theorem dX2_behind_64 : decode cX2_behind 64 = .ok (.if_icmp .ne 7, 3) := by decide +kernel
theorem dX2_behind_67 : decode cX2_behind 67 = .ok (.iconst 2, 1) := by decide +kernel
theorem dX2_behind_68 : decode cX2_behind 68 = .ok (.goto 19, 3) := by decide +kernel
theorem dX2_behind_71 : decode cX2_behind 71 = .ok (.iload_n 1, 1) := by decide +kernel
theorem dX2_behind_72 : decode cX2_behind 72 = .ok (.bipush 48, 2) := by decide +kernel
theorem dX2_behind_74 : decode cX2_behind 74 = .ok (.bipush 51, 2) := by decide +kernel
theorem dX2_behind_76 : decode cX2_behind 76 = .ok (.invokestatic 23, 3) := by decide +kernel
theorem dX2_behind_79 : decode cX2_behind 79 = .ok (.ifCond .eq 7, 3) := by decide +kernel
theorem dX2_behind_82 : decode cX2_behind 82 = .ok (.iconst 0, 1) := by decide +kernel
theorem dX2_behind_83 : decode cX2_behind 83 = .ok (.goto 4, 3) := by decide +kernel
theorem dX2_behind_86 : decode cX2_behind 86 = .ok (.iconst 3, 1) := by decide +kernel
theorem dX2_behind_87 : decode cX2_behind 87 = .ok (.ireturn, 1) := by decide +kernel
theorem dX2_behind_88 : decode cX2_behind 88 = .ok (.iload_n 1, 1) := by decide +kernel
theorem dX2_behind_89 : decode cX2_behind 89 = .ok (.bipush 49, 2) := by decide +kernel
theorem dX2_behind_91 : decode cX2_behind 91 = .ok (.bipush 57, 2) := by decide +kernel
theorem dX2_behind_93 : decode cX2_behind 93 = .ok (.invokestatic 23, 3) := by decide +kernel
theorem dX2_behind_96 : decode cX2_behind 96 = .ok (.ifCond .eq 7, 3) := by decide +kernel
theorem dX2_behind_99 : decode cX2_behind 99 = .ok (.iconst 0, 1) := by decide +kernel
theorem dX2_behind_100 : decode cX2_behind 100 = .ok (.goto 4, 3) := by decide +kernel
theorem dX2_behind_103 : decode cX2_behind 103 = .ok (.iconst 3, 1) := by decide +kernel
theorem dX2_behind_104 : decode cX2_behind 104 = .ok (.ireturn, 1) := by decide +kernel
theorem dX2_parts_0 : decode cX2_parts 0 = .ok (.iload_n 0, 1) := by decide +kernel
theorem dX2_parts_1 : decode cX2_parts 1 = .ok (.bipush 8, 2) := by decide +kernel
theorem dX2_parts_3 : decode cX2_parts 3 = .ok (.idiv, 1) := by decide +kernel
theorem dX2_parts_4 : decode cX2_parts 4 = .ok (.ireturn, 1) := by decide +kernel
theorem dX2_why_0 : decode cX2_why 0 = .ok (.iload_n 0, 1) := by decide +kernel
theorem dX2_why_1 : decode cX2_why 1 = .ok (.bipush 8, 2) := by decide +kernel
theorem dX2_why_3 : decode cX2_why 3 = .ok (.irem, 1) := by decide +kernel
theorem dX2_why_4 : decode cX2_why 4 = .ok (.ireturn, 1) := by decide +kernel
theorem dX2_follow_0 : decode cX2_follow 0 = .ok (.iconst 0, 1) := by decide +kernel
theorem dX2_follow_1 : decode cX2_follow 1 = .ok (.istore_n 2, 1) := by decide +kernel
theorem dX2_follow_2 : decode cX2_follow 2 = .ok (.iconst 0, 1) := by decide +kernel
theorem dX2_follow_3 : decode cX2_follow 3 = .ok (.istore_n 3, 1) := by decide +kernel
theorem dX2_follow_4 : decode cX2_follow 4 = .ok (.iconst 0, 1) := by decide +kernel
theorem dX2_follow_5 : decode cX2_follow 5 = .ok (.istore 4, 2) := by decide +kernel
theorem dX2_follow_7 : decode cX2_follow 7 = .ok (.iconst 0, 1) := by decide +kernel
theorem dX2_follow_8 : decode cX2_follow 8 = .ok (.istore 5, 2) := by decide +kernel
theorem dX2_follow_10 : decode cX2_follow 10 = .ok (.iload 5, 2) := by decide +kernel
theorem dX2_follow_12 : decode cX2_follow 12 = .ok (.aload_n 0, 1) := by decide +kernel
theorem dX2_follow_13 : decode cX2_follow 13 = .ok (.getfield 15, 3) := by decide +kernel
theorem dX2_follow_16 : decode cX2_follow 16 = .ok (.if_icmp .ge 63, 3) := by decide +kernel
theorem dX2_follow_19 : decode cX2_follow 19 = .ok (.iload_n 3, 1) := by decide +kernel
theorem dX2_follow_20 : decode cX2_follow 20 = .ok (.iconst 3, 1) := by decide +kernel
theorem dX2_follow_21 : decode cX2_follow 21 = .ok (.if_icmp .eq 58, 3) := by decide +kernel
theorem dX2_follow_24 : decode cX2_follow 24 = .ok (.iload_n 3, 1) := by decide +kernel
theorem dX2_follow_25 : decode cX2_follow 25 = .ok (.aload_n 0, 1) := by decide +kernel
theorem dX2_follow_26 : decode cX2_follow 26 = .ok (.getfield 9, 3) := by decide +kernel
theorem dX2_follow_29 : decode cX2_follow 29 = .ok (.iload 5, 2) := by decide +kernel
theorem dX2_follow_31 : decode cX2_follow 31 = .ok (.iaload, 1) := by decide +kernel
theorem dX2_follow_32 : decode cX2_follow 32 = .ok (.invokestatic 19, 3) := by decide +kernel
theorem dX2_follow_35 : decode cX2_follow 35 = .ok (.istore_n 3, 1) := by decide +kernel
theorem dX2_follow_36 : decode cX2_follow 36 = .ok (.iload_n 3, 1) := by decide +kernel
theorem dX2_follow_37 : decode cX2_follow 37 = .ok (.ifCond .ne 36, 3) := by decide +kernel
theorem dX2_follow_40 : decode cX2_follow 40 = .ok (.aload_n 0, 1) := by decide +kernel
theorem dX2_follow_41 : decode cX2_follow 41 = .ok (.aload_n 1, 1) := by decide +kernel
theorem dX2_follow_42 : decode cX2_follow 42 = .ok (.iload 4, 2) := by decide +kernel
theorem dX2_follow_44 : decode cX2_follow 44 = .ok (.iload 5, 2) := by decide +kernel
theorem dX2_follow_46 : decode cX2_follow 46 = .ok (.invokevirtual 27, 3) := by decide +kernel
theorem dX2_follow_49 : decode cX2_follow 49 = .ok (.istore 6, 2) := by decide +kernel
theorem dX2_follow_51 : decode cX2_follow 51 = .ok (.iload 6, 2) := by decide +kernel
theorem dX2_follow_53 : decode cX2_follow 53 = .ok (.ifCond .eq 11, 3) := by decide +kernel
theorem dX2_follow_56 : decode cX2_follow 56 = .ok (.iload_n 2, 1) := by decide +kernel
theorem dX2_follow_57 : decode cX2_follow 57 = .ok (.bipush 8, 2) := by decide +kernel
theorem dX2_follow_59 : decode cX2_follow 59 = .ok (.imul, 1) := by decide +kernel
theorem dX2_follow_60 : decode cX2_follow 60 = .ok (.iload 6, 2) := by decide +kernel
theorem dX2_follow_62 : decode cX2_follow 62 = .ok (.iadd, 1) := by decide +kernel
theorem dX2_follow_63 : decode cX2_follow 63 = .ok (.ireturn, 1) := by decide +kernel
theorem dX2_follow_64 : decode cX2_follow 64 = .ok (.iinc 2 1, 3) := by decide +kernel
theorem dX2_follow_67 : decode cX2_follow 67 = .ok (.iload 5, 2) := by decide +kernel
theorem dX2_follow_69 : decode cX2_follow 69 = .ok (.iconst 1, 1) := by decide +kernel
theorem dX2_follow_70 : decode cX2_follow 70 = .ok (.iadd, 1) := by decide +kernel
theorem dX2_follow_71 : decode cX2_follow 71 = .ok (.istore 4, 2) := by decide +kernel
theorem dX2_follow_73 : decode cX2_follow 73 = .ok (.iinc 5 1, 3) := by decide +kernel
theorem dX2_follow_76 : decode cX2_follow 76 = .ok (.goto (-66), 3) := by decide +kernel
theorem dX2_follow_79 : decode cX2_follow 79 = .ok (.iload_n 2, 1) := by decide +kernel
theorem dX2_follow_80 : decode cX2_follow 80 = .ok (.bipush 8, 2) := by decide +kernel
theorem dX2_follow_82 : decode cX2_follow 82 = .ok (.imul, 1) := by decide +kernel
theorem dX2_follow_83 : decode cX2_follow 83 = .ok (.ireturn, 1) := by decide +kernel
theorem dX2_doPart_0 : decode cX2_doPart 0 = .ok (.iload_n 2, 1) := by decide +kernel
theorem dX2_doPart_1 : decode cX2_doPart 1 = .ok (.iload_n 3, 1) := by decide +kernel
theorem dX2_doPart_2 : decode cX2_doPart 2 = .ok (.if_icmp .ne 9, 3) := by decide +kernel
theorem dX2_doPart_5 : decode cX2_doPart 5 = .ok (.aload_n 1, 1) := by decide +kernel
theorem dX2_doPart_6 : decode cX2_doPart 6 = .ok (.invokevirtual 31, 3) := by decide +kernel
theorem dX2_doPart_9 : decode cX2_doPart 9 = .ok (.iconst 0, 1) := by decide +kernel
theorem dX2_doPart_10 : decode cX2_doPart 10 = .ok (.ireturn, 1) := by decide +kernel
theorem dX2_doPart_11 : decode cX2_doPart 11 = .ok (.aload_n 0, 1) := by decide +kernel
theorem dX2_doPart_12 : decode cX2_doPart 12 = .ok (.getfield 9, 3) := by decide +kernel
theorem dX2_doPart_15 : decode cX2_doPart 15 = .ok (.iload_n 2, 1) := by decide +kernel
theorem dX2_doPart_16 : decode cX2_doPart 16 = .ok (.iaload, 1) := by decide +kernel
theorem dX2_doPart_17 : decode cX2_doPart 17 = .ok (.bipush 65, 2) := by decide +kernel
theorem dX2_doPart_19 : decode cX2_doPart 19 = .ok (.isub, 1) := by decide +kernel
theorem dX2_doPart_20 : decode cX2_doPart 20 = .ok (.istore 4, 2) := by decide +kernel
theorem dX2_doPart_22 : decode cX2_doPart 22 = .ok (.aload_n 0, 1) := by decide +kernel
theorem dX2_doPart_23 : decode cX2_doPart 23 = .ok (.getfield 9, 3) := by decide +kernel
theorem dX2_doPart_26 : decode cX2_doPart 26 = .ok (.iload_n 3, 1) := by decide +kernel
theorem dX2_doPart_27 : decode cX2_doPart 27 = .ok (.iaload, 1) := by decide +kernel
theorem dX2_doPart_28 : decode cX2_doPart 28 = .ok (.bipush 48, 2) := by decide +kernel
theorem dX2_doPart_30 : decode cX2_doPart 30 = .ok (.isub, 1) := by decide +kernel
theorem dX2_doPart_31 : decode cX2_doPart 31 = .ok (.istore 5, 2) := by decide +kernel
theorem dX2_doPart_33 : decode cX2_doPart 33 = .ok (.aload_n 0, 1) := by decide +kernel
theorem dX2_doPart_34 : decode cX2_doPart 34 = .ok (.getfield 9, 3) := by decide +kernel
theorem dX2_doPart_37 : decode cX2_doPart 37 = .ok (.iload_n 2, 1) := by decide +kernel
theorem dX2_doPart_38 : decode cX2_doPart 38 = .ok (.iconst 1, 1) := by decide +kernel
theorem dX2_doPart_39 : decode cX2_doPart 39 = .ok (.iadd, 1) := by decide +kernel
theorem dX2_doPart_40 : decode cX2_doPart 40 = .ok (.iaload, 1) := by decide +kernel
theorem dX2_doPart_41 : decode cX2_doPart 41 = .ok (.lookupswitch 45 #[(43, 27), (45, 36)], 27) := by decide +kernel
theorem dX2_doPart_68 : decode cX2_doPart 68 = .ok (.aload_n 1, 1) := by decide +kernel
theorem dX2_doPart_69 : decode cX2_doPart 69 = .ok (.iload 4, 2) := by decide +kernel
theorem dX2_doPart_71 : decode cX2_doPart 71 = .ok (.iload 5, 2) := by decide +kernel
theorem dX2_doPart_73 : decode cX2_doPart 73 = .ok (.invokevirtual 36, 3) := by decide +kernel
theorem dX2_doPart_76 : decode cX2_doPart 76 = .ok (.ireturn, 1) := by decide +kernel
theorem dX2_doPart_77 : decode cX2_doPart 77 = .ok (.aload_n 1, 1) := by decide +kernel
theorem dX2_doPart_78 : decode cX2_doPart 78 = .ok (.iload 4, 2) := by decide +kernel
theorem dX2_doPart_80 : decode cX2_doPart 80 = .ok (.iload 5, 2) := by decide +kernel
theorem dX2_doPart_82 : decode cX2_doPart 82 = .ok (.invokevirtual 39, 3) := by decide +kernel
theorem dX2_doPart_85 : decode cX2_doPart 85 = .ok (.ireturn, 1) := by decide +kernel
theorem dX2_doPart_86 : decode cX2_doPart 86 = .ok (.aload_n 1, 1) := by decide +kernel
theorem dX2_doPart_87 : decode cX2_doPart 87 = .ok (.iload 4, 2) := by decide +kernel
theorem dX2_doPart_89 : decode cX2_doPart 89 = .ok (.iload 5, 2) := by decide +kernel
theorem dX2_doPart_91 : decode cX2_doPart 91 = .ok (.invokevirtual 42, 3) := by decide +kernel
theorem dX2_doPart_94 : decode cX2_doPart 94 = .ok (.ireturn, 1) := by decide +kernel
theorem dX3_init_0 : decode cX3_init 0 = .ok (.aload_n 0, 1) := by decide +kernel
theorem dX3_init_1 : decode cX3_init 1 = .ok (.invokespecial 3, 3) := by decide +kernel
theorem dX3_init_4 : decode cX3_init 4 = .ok (.aload_n 0, 1) := by decide +kernel
theorem dX3_init_5 : decode cX3_init 5 = .ok (.bipush 6, 2) := by decide +kernel
theorem dX3_init_7 : decode cX3_init 7 = .ok (.newarray .int, 2) := by decide +kernel
theorem dX3_init_9 : decode cX3_init 9 = .ok (.putfield 9, 3) := by decide +kernel
theorem dX3_init_12 : decode cX3_init 12 = .ok (.aload_n 0, 1) := by decide +kernel
theorem dX3_init_13 : decode cX3_init 13 = .ok (.bipush 6, 2) := by decide +kernel
theorem dX3_init_15 : decode cX3_init 15 = .ok (.newarray .int, 2) := by decide +kernel
theorem dX3_init_17 : decode cX3_init 17 = .ok (.putfield 15, 3) := by decide +kernel
theorem dX3_init_20 : decode cX3_init 20 = .ok (.return_, 1) := by decide +kernel
theorem dX3_become_0 : decode cX3_become 0 = .ok (.aload_n 0, 1) := by decide +kernel
theorem dX3_become_1 : decode cX3_become 1 = .ok (.aload_n 1, 1) := by decide +kernel
theorem dX3_become_2 : decode cX3_become 2 = .ok (.getfield 18, 3) := by decide +kernel
theorem dX3_become_5 : decode cX3_become 5 = .ok (.putfield 18, 3) := by decide +kernel
theorem dX3_become_8 : decode cX3_become 8 = .ok (.aload_n 1, 1) := by decide +kernel
theorem dX3_become_9 : decode cX3_become 9 = .ok (.getfield 9, 3) := by decide +kernel
theorem dX3_become_12 : decode cX3_become 12 = .ok (.iconst 0, 1) := by decide +kernel
theorem dX3_become_13 : decode cX3_become 13 = .ok (.aload_n 0, 1) := by decide +kernel
theorem dX3_become_14 : decode cX3_become 14 = .ok (.getfield 9, 3) := by decide +kernel
theorem dX3_become_17 : decode cX3_become 17 = .ok (.iconst 0, 1) := by decide +kernel
theorem dX3_become_18 : decode cX3_become 18 = .ok (.aload_n 0, 1) := by decide +kernel
theorem dX3_become_19 : decode cX3_become 19 = .ok (.getfield 18, 3) := by decide +kernel
theorem dX3_become_22 : decode cX3_become 22 = .ok (.invokestatic 22, 3) := by decide +kernel
theorem dX3_become_25 : decode cX3_become 25 = .ok (.aload_n 1, 1) := by decide +kernel
theorem dX3_become_26 : decode cX3_become 26 = .ok (.getfield 15, 3) := by decide +kernel
theorem dX3_become_29 : decode cX3_become 29 = .ok (.iconst 0, 1) := by decide +kernel
theorem dX3_become_30 : decode cX3_become 30 = .ok (.aload_n 0, 1) := by decide +kernel
theorem dX3_become_31 : decode cX3_become 31 = .ok (.getfield 15, 3) := by decide +kernel
theorem dX3_become_34 : decode cX3_become 34 = .ok (.iconst 0, 1) := by decide +kernel
theorem dX3_become_35 : decode cX3_become 35 = .ok (.aload_n 0, 1) := by decide +kernel
theorem dX3_become_36 : decode cX3_become 36 = .ok (.getfield 18, 3) := by decide +kernel
theorem dX3_become_39 : decode cX3_become 39 = .ok (.invokestatic 22, 3) := by decide +kernel
theorem dX3_become_42 : decode cX3_become 42 = .ok (.return_, 1) := by decide +kernel
theorem dX3_put_0 : decode cX3_put 0 = .ok (.aload_n 0, 1) := by decide +kernel
theorem dX3_put_1 : decode cX3_put 1 = .ok (.getfield 18, 3) := by decide +kernel
theorem dX3_put_4 : decode cX3_put 4 = .ok (.bipush 6, 2) := by decide +kernel
theorem dX3_put_6 : decode cX3_put 6 = .ok (.if_icmp .lt 5, 3) := by decide +kernel
theorem dX3_put_9 : decode cX3_put 9 = .ok (.iconst 0, 1) := by decide +kernel
theorem dX3_put_10 : decode cX3_put 10 = .ok (.ireturn, 1) := by decide +kernel
theorem dX3_put_11 : decode cX3_put 11 = .ok (.aload_n 0, 1) := by decide +kernel
theorem dX3_put_12 : decode cX3_put 12 = .ok (.getfield 9, 3) := by decide +kernel
theorem dX3_put_15 : decode cX3_put 15 = .ok (.aload_n 0, 1) := by decide +kernel
theorem dX3_put_16 : decode cX3_put 16 = .ok (.getfield 18, 3) := by decide +kernel
theorem dX3_put_19 : decode cX3_put 19 = .ok (.iload_n 1, 1) := by decide +kernel
theorem dX3_put_20 : decode cX3_put 20 = .ok (.iastore, 1) := by decide +kernel
theorem dX3_put_21 : decode cX3_put 21 = .ok (.aload_n 0, 1) := by decide +kernel
theorem dX3_put_22 : decode cX3_put 22 = .ok (.getfield 15, 3) := by decide +kernel
theorem dX3_put_25 : decode cX3_put 25 = .ok (.aload_n 0, 1) := by decide +kernel
theorem dX3_put_26 : decode cX3_put 26 = .ok (.getfield 18, 3) := by decide +kernel
theorem dX3_put_29 : decode cX3_put 29 = .ok (.iload_n 2, 1) := by decide +kernel
theorem dX3_put_30 : decode cX3_put 30 = .ok (.iastore, 1) := by decide +kernel
theorem dX3_put_31 : decode cX3_put 31 = .ok (.aload_n 0, 1) := by decide +kernel
theorem dX3_put_32 : decode cX3_put 32 = .ok (.dup, 1) := by decide +kernel
theorem dX3_put_33 : decode cX3_put 33 = .ok (.getfield 18, 3) := by decide +kernel
theorem dX3_put_36 : decode cX3_put 36 = .ok (.iconst 1, 1) := by decide +kernel
theorem dX3_put_37 : decode cX3_put 37 = .ok (.iadd, 1) := by decide +kernel
theorem dX3_put_38 : decode cX3_put 38 = .ok (.putfield 18, 3) := by decide +kernel
theorem dX3_put_41 : decode cX3_put 41 = .ok (.iconst 1, 1) := by decide +kernel
theorem dX3_put_42 : decode cX3_put 42 = .ok (.ireturn, 1) := by decide +kernel
theorem dX3_clear_0 : decode cX3_clear 0 = .ok (.aload_n 0, 1) := by decide +kernel
theorem dX3_clear_1 : decode cX3_clear 1 = .ok (.getfield 18, 3) := by decide +kernel
theorem dX3_clear_4 : decode cX3_clear 4 = .ok (.istore_n 1, 1) := by decide +kernel
theorem dX3_clear_5 : decode cX3_clear 5 = .ok (.aload_n 0, 1) := by decide +kernel
theorem dX3_clear_6 : decode cX3_clear 6 = .ok (.iconst 0, 1) := by decide +kernel
theorem dX3_clear_7 : decode cX3_clear 7 = .ok (.putfield 18, 3) := by decide +kernel
theorem dX3_clear_10 : decode cX3_clear 10 = .ok (.iload_n 1, 1) := by decide +kernel
theorem dX3_clear_11 : decode cX3_clear 11 = .ok (.ireturn, 1) := by decide +kernel
