theorem dX4_init_0 : decode cX4_init 0 = .ok (.aload_n 0, 1) := by decide +kernel
theorem dX4_init_1 : decode cX4_init 1 = .ok (.invokespecial 3, 3) := by decide +kernel
theorem dX4_init_4 : decode cX4_init 4 = .ok (.aload_n 0, 1) := by decide +kernel
theorem dX4_init_5 : decode cX4_init 5 = .ok (.iconst 5, 1) := by decide +kernel
theorem dX4_init_6 : decode cX4_init 6 = .ok (.anewarray 9, 3) := by decide +kernel
theorem dX4_init_9 : decode cX4_init 9 = .ok (.putfield 11, 3) := by decide +kernel
theorem dX4_init_12 : decode cX4_init 12 = .ok (.iconst 0, 1) := by decide +kernel
theorem dX4_init_13 : decode cX4_init 13 = .ok (.istore_n 1, 1) := by decide +kernel
theorem dX4_init_14 : decode cX4_init 14 = .ok (.iload_n 1, 1) := by decide +kernel
theorem dX4_init_15 : decode cX4_init 15 = .ok (.iconst 4, 1) := by decide +kernel
theorem dX4_init_16 : decode cX4_init 16 = .ok (.if_icmp .gt 22, 3) := by decide +kernel
theorem dX4_init_19 : decode cX4_init 19 = .ok (.aload_n 0, 1) := by decide +kernel
theorem dX4_init_20 : decode cX4_init 20 = .ok (.getfield 11, 3) := by decide +kernel
theorem dX4_init_23 : decode cX4_init 23 = .ok (.iload_n 1, 1) := by decide +kernel
theorem dX4_init_24 : decode cX4_init 24 = .ok (.new 9, 3) := by decide +kernel
theorem dX4_init_27 : decode cX4_init 27 = .ok (.dup, 1) := by decide +kernel
theorem dX4_init_28 : decode cX4_init 28 = .ok (.invokespecial 17, 3) := by decide +kernel
theorem dX4_init_31 : decode cX4_init 31 = .ok (.aastore, 1) := by decide +kernel
theorem dX4_init_32 : decode cX4_init 32 = .ok (.iinc 1 1, 3) := by decide +kernel
theorem dX4_init_35 : decode cX4_init 35 = .ok (.goto (-21), 3) := by decide +kernel
theorem dX4_init_38 : decode cX4_init 38 = .ok (.aload_n 0, 1) := by decide +kernel
theorem dX4_init_39 : decode cX4_init 39 = .ok (.iconst 4, 1) := by decide +kernel
theorem dX4_init_40 : decode cX4_init 40 = .ok (.iconst 4, 1) := by decide +kernel
theorem dX4_init_41 : decode cX4_init 41 = .ok (.multianewarray 18 2, 4) := by decide +kernel
theorem dX4_init_45 : decode cX4_init 45 = .ok (.putfield 20, 3) := by decide +kernel
theorem dX4_init_48 : decode cX4_init 48 = .ok (.aload_n 0, 1) := by decide +kernel
theorem dX4_init_49 : decode cX4_init 49 = .ok (.iconst 4, 1) := by decide +kernel
theorem dX4_init_50 : decode cX4_init 50 = .ok (.iconst 4, 1) := by decide +kernel
theorem dX4_init_51 : decode cX4_init 51 = .ok (.multianewarray 18 2, 4) := by decide +kernel
theorem dX4_init_55 : decode cX4_init 55 = .ok (.putfield 23, 3) := by decide +kernel
theorem dX4_init_58 : decode cX4_init 58 = .ok (.aload_n 0, 1) := by decide +kernel
theorem dX4_init_59 : decode cX4_init 59 = .ok (.bipush 6, 2) := by decide +kernel
theorem dX4_init_61 : decode cX4_init 61 = .ok (.newarray .int, 2) := by decide +kernel
theorem dX4_init_63 : decode cX4_init 63 = .ok (.putfield 26, 3) := by decide +kernel
theorem dX4_init_66 : decode cX4_init 66 = .ok (.aload_n 0, 1) := by decide +kernel
theorem dX4_init_67 : decode cX4_init 67 = .ok (.iconst 4, 1) := by decide +kernel
theorem dX4_init_68 : decode cX4_init 68 = .ok (.newarray .int, 2) := by decide +kernel
theorem dX4_init_70 : decode cX4_init 70 = .ok (.putfield 30, 3) := by decide +kernel
theorem dX4_init_73 : decode cX4_init 73 = .ok (.aload_n 0, 1) := by decide +kernel
theorem dX4_init_74 : decode cX4_init 74 = .ok (.iconst 4, 1) := by decide +kernel
theorem dX4_init_75 : decode cX4_init 75 = .ok (.newarray .int, 2) := by decide +kernel
theorem dX4_init_77 : decode cX4_init 77 = .ok (.putfield 33, 3) := by decide +kernel
theorem dX4_init_80 : decode cX4_init 80 = .ok (.return_, 1) := by decide +kernel
theorem dX4_fewestInches_0 : decode cX4_fewestInches 0 = .ok (.aload_n 0, 1) := by decide +kernel
theorem dX4_fewestInches_1 : decode cX4_fewestInches 1 = .ok (.iload_n 2, 1) := by decide +kernel
theorem dX4_fewestInches_2 : decode cX4_fewestInches 2 = .ok (.putfield 36, 3) := by decide +kernel
theorem dX4_fewestInches_5 : decode cX4_fewestInches 5 = .ok (.aload_n 0, 1) := by decide +kernel
theorem dX4_fewestInches_6 : decode cX4_fewestInches 6 = .ok (.iload_n 3, 1) := by decide +kernel
theorem dX4_fewestInches_7 : decode cX4_fewestInches 7 = .ok (.putfield 40, 3) := by decide +kernel
theorem dX4_fewestInches_10 : decode cX4_fewestInches 10 = .ok (.aload_n 0, 1) := by decide +kernel
theorem dX4_fewestInches_11 : decode cX4_fewestInches 11 = .ok (.sipush 595, 3) := by decide +kernel
theorem dX4_fewestInches_14 : decode cX4_fewestInches 14 = .ok (.putfield 43, 3) := by decide +kernel
theorem dX4_fewestInches_17 : decode cX4_fewestInches 17 = .ok (.aload_n 0, 1) := by decide +kernel
theorem dX4_fewestInches_18 : decode cX4_fewestInches 18 = .ok (.getfield 11, 3) := by decide +kernel
theorem dX4_fewestInches_21 : decode cX4_fewestInches 21 = .ok (.iconst 0, 1) := by decide +kernel
theorem dX4_fewestInches_22 : decode cX4_fewestInches 22 = .ok (.aaload, 1) := by decide +kernel
theorem dX4_fewestInches_23 : decode cX4_fewestInches 23 = .ok (.aload_n 1, 1) := by decide +kernel
theorem dX4_fewestInches_24 : decode cX4_fewestInches 24 = .ok (.invokevirtual 46, 3) := by decide +kernel
theorem dX4_fewestInches_27 : decode cX4_fewestInches 27 = .ok (.aload_n 0, 1) := by decide +kernel
theorem dX4_fewestInches_28 : decode cX4_fewestInches 28 = .ok (.aload_n 1, 1) := by decide +kernel
theorem dX4_fewestInches_29 : decode cX4_fewestInches 29 = .ok (.invokevirtual 50, 3) := by decide +kernel
theorem dX4_fewestInches_32 : decode cX4_fewestInches 32 = .ok (.aload_n 0, 1) := by decide +kernel
theorem dX4_fewestInches_33 : decode cX4_fewestInches 33 = .ok (.iconst 0, 1) := by decide +kernel
theorem dX4_fewestInches_34 : decode cX4_fewestInches 34 = .ok (.iconst 0, 1) := by decide +kernel
theorem dX4_fewestInches_35 : decode cX4_fewestInches 35 = .ok (.invokevirtual 53, 3) := by decide +kernel
theorem dX4_fewestInches_38 : decode cX4_fewestInches 38 = .ok (.aload_n 0, 1) := by decide +kernel
theorem dX4_fewestInches_39 : decode cX4_fewestInches 39 = .ok (.getfield 43, 3) := by decide +kernel
theorem dX4_fewestInches_42 : decode cX4_fewestInches 42 = .ok (.sipush 595, 3) := by decide +kernel
theorem dX4_fewestInches_45 : decode cX4_fewestInches 45 = .ok (.if_icmp .ne 8, 3) := by decide +kernel
theorem dX4_fewestInches_48 : decode cX4_fewestInches 48 = .ok (.bipush (-6), 2) := by decide +kernel
theorem dX4_fewestInches_50 : decode cX4_fewestInches 50 = .ok (.goto 7, 3) := by decide +kernel
theorem dX4_fewestInches_53 : decode cX4_fewestInches 53 = .ok (.aload_n 0, 1) := by decide +kernel
theorem dX4_fewestInches_54 : decode cX4_fewestInches 54 = .ok (.getfield 43, 3) := by decide +kernel
theorem dX4_fewestInches_57 : decode cX4_fewestInches 57 = .ok (.ireturn, 1) := by decide +kernel
theorem dX4_wovenAhead_0 : decode cX4_wovenAhead 0 = .ok (.aload_n 0, 1) := by decide +kernel
theorem dX4_wovenAhead_1 : decode cX4_wovenAhead 1 = .ok (.getfield 33, 3) := by decide +kernel
theorem dX4_wovenAhead_4 : decode cX4_wovenAhead 4 = .ok (.iload_n 1, 1) := by decide +kernel
theorem dX4_wovenAhead_5 : decode cX4_wovenAhead 5 = .ok (.iaload, 1) := by decide +kernel
theorem dX4_wovenAhead_6 : decode cX4_wovenAhead 6 = .ok (.ireturn, 1) := by decide +kernel
theorem dX4_sortByBasket_0 : decode cX4_sortByBasket 0 = .ok (.iconst 0, 1) := by decide +kernel
theorem dX4_sortByBasket_1 : decode cX4_sortByBasket 1 = .ok (.istore_n 2, 1) := by decide +kernel
theorem dX4_sortByBasket_2 : decode cX4_sortByBasket 2 = .ok (.iload_n 2, 1) := by decide +kernel
theorem dX4_sortByBasket_3 : decode cX4_sortByBasket 3 = .ok (.bipush 6, 2) := by decide +kernel
theorem dX4_sortByBasket_5 : decode cX4_sortByBasket 5 = .ok (.if_icmp .ge 70, 3) := by decide +kernel
theorem dX4_sortByBasket_8 : decode cX4_sortByBasket 8 = .ok (.aload_n 1, 1) := by decide +kernel
theorem dX4_sortByBasket_9 : decode cX4_sortByBasket 9 = .ok (.iload_n 2, 1) := by decide +kernel
theorem dX4_sortByBasket_10 : decode cX4_sortByBasket 10 = .ok (.invokevirtual 57, 3) := by decide +kernel
theorem dX4_sortByBasket_13 : decode cX4_sortByBasket 13 = .ok (.istore_n 3, 1) := by decide +kernel
theorem dX4_sortByBasket_14 : decode cX4_sortByBasket 14 = .ok (.iload_n 2, 1) := by decide +kernel
theorem dX4_sortByBasket_15 : decode cX4_sortByBasket 15 = .ok (.istore 4, 2) := by decide +kernel
theorem dX4_sortByBasket_17 : decode cX4_sortByBasket 17 = .ok (.iload 4, 2) := by decide +kernel
theorem dX4_sortByBasket_19 : decode cX4_sortByBasket 19 = .ok (.ifCond .le 42, 3) := by decide +kernel
theorem dX4_sortByBasket_22 : decode cX4_sortByBasket 22 = .ok (.aload_n 1, 1) := by decide +kernel
theorem dX4_sortByBasket_23 : decode cX4_sortByBasket 23 = .ok (.aload_n 0, 1) := by decide +kernel
theorem dX4_sortByBasket_24 : decode cX4_sortByBasket 24 = .ok (.getfield 26, 3) := by decide +kernel
theorem dX4_sortByBasket_27 : decode cX4_sortByBasket 27 = .ok (.iload 4, 2) := by decide +kernel
theorem dX4_sortByBasket_29 : decode cX4_sortByBasket 29 = .ok (.iconst 1, 1) := by decide +kernel
theorem dX4_sortByBasket_30 : decode cX4_sortByBasket 30 = .ok (.isub, 1) := by decide +kernel
theorem dX4_sortByBasket_31 : decode cX4_sortByBasket 31 = .ok (.iaload, 1) := by decide +kernel
theorem dX4_sortByBasket_32 : decode cX4_sortByBasket 32 = .ok (.invokevirtual 57, 3) := by decide +kernel
theorem dX4_sortByBasket_35 : decode cX4_sortByBasket 35 = .ok (.iload_n 3, 1) := by decide +kernel
theorem dX4_sortByBasket_36 : decode cX4_sortByBasket 36 = .ok (.if_icmp .ge 25, 3) := by decide +kernel
theorem dX4_sortByBasket_39 : decode cX4_sortByBasket 39 = .ok (.aload_n 0, 1) := by decide +kernel
theorem dX4_sortByBasket_40 : decode cX4_sortByBasket 40 = .ok (.getfield 26, 3) := by decide +kernel
theorem dX4_sortByBasket_43 : decode cX4_sortByBasket 43 = .ok (.iload 4, 2) := by decide +kernel
theorem dX4_sortByBasket_45 : decode cX4_sortByBasket 45 = .ok (.aload_n 0, 1) := by decide +kernel
theorem dX4_sortByBasket_46 : decode cX4_sortByBasket 46 = .ok (.getfield 26, 3) := by decide +kernel
theorem dX4_sortByBasket_49 : decode cX4_sortByBasket 49 = .ok (.iload 4, 2) := by decide +kernel
theorem dX4_sortByBasket_51 : decode cX4_sortByBasket 51 = .ok (.iconst 1, 1) := by decide +kernel
theorem dX4_sortByBasket_52 : decode cX4_sortByBasket 52 = .ok (.isub, 1) := by decide +kernel
theorem dX4_sortByBasket_53 : decode cX4_sortByBasket 53 = .ok (.iaload, 1) := by decide +kernel
theorem dX4_sortByBasket_54 : decode cX4_sortByBasket 54 = .ok (.iastore, 1) := by decide +kernel
theorem dX4_sortByBasket_55 : decode cX4_sortByBasket 55 = .ok (.iinc 4 (-1), 3) := by decide +kernel
theorem dX4_sortByBasket_58 : decode cX4_sortByBasket 58 = .ok (.goto (-41), 3) := by decide +kernel
theorem dX4_sortByBasket_61 : decode cX4_sortByBasket 61 = .ok (.aload_n 0, 1) := by decide +kernel
theorem dX4_sortByBasket_62 : decode cX4_sortByBasket 62 = .ok (.getfield 26, 3) := by decide +kernel
theorem dX4_sortByBasket_65 : decode cX4_sortByBasket 65 = .ok (.iload 4, 2) := by decide +kernel
theorem dX4_sortByBasket_67 : decode cX4_sortByBasket 67 = .ok (.iload_n 2, 1) := by decide +kernel
theorem dX4_sortByBasket_68 : decode cX4_sortByBasket 68 = .ok (.iastore, 1) := by decide +kernel
theorem dX4_sortByBasket_69 : decode cX4_sortByBasket 69 = .ok (.iinc 2 1, 3) := by decide +kernel
theorem dX4_sortByBasket_72 : decode cX4_sortByBasket 72 = .ok (.goto (-70), 3) := by decide +kernel
theorem dX4_sortByBasket_75 : decode cX4_sortByBasket 75 = .ok (.return_, 1) := by decide +kernel
theorem dX4_tryFrom_0 : decode cX4_tryFrom 0 = .ok (.iload_n 1, 1) := by decide +kernel
theorem dX4_tryFrom_1 : decode cX4_tryFrom 1 = .ok (.aload_n 0, 1) := by decide +kernel
theorem dX4_tryFrom_2 : decode cX4_tryFrom 2 = .ok (.getfield 36, 3) := by decide +kernel
theorem dX4_tryFrom_5 : decode cX4_tryFrom 5 = .ok (.if_icmp .lt 26, 3) := by decide +kernel
theorem dX4_tryFrom_8 : decode cX4_tryFrom 8 = .ok (.aload_n 0, 1) := by decide +kernel
theorem dX4_tryFrom_9 : decode cX4_tryFrom 9 = .ok (.iload_n 2, 1) := by decide +kernel
theorem dX4_tryFrom_10 : decode cX4_tryFrom 10 = .ok (.putfield 43, 3) := by decide +kernel
theorem dX4_tryFrom_13 : decode cX4_tryFrom 13 = .ok (.aload_n 0, 1) := by decide +kernel
theorem dX4_tryFrom_14 : decode cX4_tryFrom 14 = .ok (.getfield 30, 3) := by decide +kernel
theorem dX4_tryFrom_17 : decode cX4_tryFrom 17 = .ok (.iconst 0, 1) := by decide +kernel
theorem dX4_tryFrom_18 : decode cX4_tryFrom 18 = .ok (.aload_n 0, 1) := by decide +kernel
theorem dX4_tryFrom_19 : decode cX4_tryFrom 19 = .ok (.getfield 33, 3) := by decide +kernel
theorem dX4_tryFrom_22 : decode cX4_tryFrom 22 = .ok (.iconst 0, 1) := by decide +kernel
theorem dX4_tryFrom_23 : decode cX4_tryFrom 23 = .ok (.aload_n 0, 1) := by decide +kernel
theorem dX4_tryFrom_24 : decode cX4_tryFrom 24 = .ok (.getfield 36, 3) := by decide +kernel
theorem dX4_tryFrom_27 : decode cX4_tryFrom 27 = .ok (.invokestatic 61, 3) := by decide +kernel
theorem dX4_tryFrom_30 : decode cX4_tryFrom 30 = .ok (.return_, 1) := by decide +kernel
theorem dX4_tryFrom_31 : decode cX4_tryFrom 31 = .ok (.aload_n 0, 1) := by decide +kernel
theorem dX4_tryFrom_32 : decode cX4_tryFrom 32 = .ok (.iload_n 1, 1) := by decide +kernel
theorem dX4_tryFrom_33 : decode cX4_tryFrom 33 = .ok (.invokevirtual 67, 3) := by decide +kernel
theorem dX4_tryFrom_36 : decode cX4_tryFrom 36 = .ok (.ifCond .eq 4, 3) := by decide +kernel
theorem dX4_tryFrom_39 : decode cX4_tryFrom 39 = .ok (.return_, 1) := by decide +kernel
theorem dX4_tryFrom_40 : decode cX4_tryFrom 40 = .ok (.aload_n 0, 1) := by decide +kernel
theorem dX4_tryFrom_41 : decode cX4_tryFrom 41 = .ok (.iload_n 1, 1) := by decide +kernel
theorem dX4_tryFrom_42 : decode cX4_tryFrom 42 = .ok (.invokevirtual 71, 3) := by decide +kernel
theorem dX4_tryFrom_45 : decode cX4_tryFrom 45 = .ok (.aload_n 0, 1) := by decide +kernel
theorem dX4_tryFrom_46 : decode cX4_tryFrom 46 = .ok (.iload_n 1, 1) := by decide +kernel
theorem dX4_tryFrom_47 : decode cX4_tryFrom 47 = .ok (.iload_n 2, 1) := by decide +kernel
theorem dX4_tryFrom_48 : decode cX4_tryFrom 48 = .ok (.iconst (-1), 1) := by decide +kernel
theorem dX4_tryFrom_49 : decode cX4_tryFrom 49 = .ok (.iconst 0, 1) := by decide +kernel
theorem dX4_tryFrom_50 : decode cX4_tryFrom 50 = .ok (.invokevirtual 75, 3) := by decide +kernel
theorem dX4_tryFrom_53 : decode cX4_tryFrom 53 = .ok (.iconst 0, 1) := by decide +kernel
theorem dX4_tryFrom_54 : decode cX4_tryFrom 54 = .ok (.istore_n 3, 1) := by decide +kernel
theorem dX4_tryFrom_55 : decode cX4_tryFrom 55 = .ok (.iload_n 3, 1) := by decide +kernel
theorem dX4_tryFrom_56 : decode cX4_tryFrom 56 = .ok (.bipush 6, 2) := by decide +kernel
theorem dX4_tryFrom_58 : decode cX4_tryFrom 58 = .ok (.if_icmp .ge 54, 3) := by decide +kernel
theorem dX4_tryFrom_61 : decode cX4_tryFrom 61 = .ok (.aload_n 0, 1) := by decide +kernel
theorem dX4_tryFrom_62 : decode cX4_tryFrom 62 = .ok (.getfield 11, 3) := by decide +kernel
theorem dX4_tryFrom_65 : decode cX4_tryFrom 65 = .ok (.iload_n 1, 1) := by decide +kernel
theorem dX4_tryFrom_66 : decode cX4_tryFrom 66 = .ok (.aaload, 1) := by decide +kernel
theorem dX4_tryFrom_67 : decode cX4_tryFrom 67 = .ok (.getfield 79, 3) := by decide +kernel
theorem dX4_tryFrom_70 : decode cX4_tryFrom 70 = .ok (.iload_n 3, 1) := by decide +kernel
theorem dX4_tryFrom_71 : decode cX4_tryFrom 71 = .ok (.iaload, 1) := by decide +kernel
theorem dX4_tryFrom_72 : decode cX4_tryFrom 72 = .ok (.istore 4, 2) := by decide +kernel
theorem dX4_tryFrom_74 : decode cX4_tryFrom 74 = .ok (.iconst 0, 1) := by decide +kernel
theorem dX4_tryFrom_75 : decode cX4_tryFrom 75 = .ok (.istore 5, 2) := by decide +kernel
theorem dX4_tryFrom_77 : decode cX4_tryFrom 77 = .ok (.iload 5, 2) := by decide +kernel
theorem dX4_tryFrom_79 : decode cX4_tryFrom 79 = .ok (.iconst 4, 1) := by decide +kernel
theorem dX4_tryFrom_80 : decode cX4_tryFrom 80 = .ok (.if_icmp .ge 26, 3) := by decide +kernel
theorem dX4_tryFrom_83 : decode cX4_tryFrom 83 = .ok (.iload 4, 2) := by decide +kernel
theorem dX4_tryFrom_85 : decode cX4_tryFrom 85 = .ok (.ifCond .le 21, 3) := by decide +kernel
theorem dX4_tryFrom_88 : decode cX4_tryFrom 88 = .ok (.aload_n 0, 1) := by decide +kernel
theorem dX4_tryFrom_89 : decode cX4_tryFrom 89 = .ok (.iload_n 1, 1) := by decide +kernel
theorem dX4_tryFrom_90 : decode cX4_tryFrom 90 = .ok (.iload_n 2, 1) := by decide +kernel
theorem dX4_tryFrom_91 : decode cX4_tryFrom 91 = .ok (.iload 4, 2) := by decide +kernel
theorem dX4_tryFrom_93 : decode cX4_tryFrom 93 = .ok (.iadd, 1) := by decide +kernel
theorem dX4_tryFrom_94 : decode cX4_tryFrom 94 = .ok (.iload_n 3, 1) := by decide +kernel
theorem dX4_tryFrom_95 : decode cX4_tryFrom 95 = .ok (.iload 5, 2) := by decide +kernel
theorem dX4_tryFrom_97 : decode cX4_tryFrom 97 = .ok (.invokevirtual 75, 3) := by decide +kernel
theorem dX4_tryFrom_100 : decode cX4_tryFrom 100 = .ok (.iinc 5 1, 3) := by decide +kernel
theorem dX4_tryFrom_103 : decode cX4_tryFrom 103 = .ok (.goto (-26), 3) := by decide +kernel
theorem dX4_tryFrom_106 : decode cX4_tryFrom 106 = .ok (.iinc 3 1, 3) := by decide +kernel
theorem dX4_tryFrom_109 : decode cX4_tryFrom 109 = .ok (.goto (-54), 3) := by decide +kernel
theorem dX4_tryFrom_112 : decode cX4_tryFrom 112 = .ok (.return_, 1) := by decide +kernel
theorem dX4_tryStep_0 : decode cX4_tryStep 0 = .ok (.iload_n 2, 1) := by decide +kernel
theorem dX4_tryStep_1 : decode cX4_tryStep 1 = .ok (.aload_n 0, 1) := by decide +kernel
theorem dX4_tryStep_2 : decode cX4_tryStep 2 = .ok (.getfield 43, 3) := by decide +kernel
theorem dX4_tryStep_5 : decode cX4_tryStep 5 = .ok (.if_icmp .ge 14, 3) := by decide +kernel
theorem dX4_tryStep_8 : decode cX4_tryStep 8 = .ok (.aload_n 0, 1) := by decide +kernel
theorem dX4_tryStep_9 : decode cX4_tryStep 9 = .ok (.iload_n 1, 1) := by decide +kernel
theorem dX4_tryStep_10 : decode cX4_tryStep 10 = .ok (.iload_n 3, 1) := by decide +kernel
theorem dX4_tryStep_11 : decode cX4_tryStep 11 = .ok (.iload 4, 2) := by decide +kernel
theorem dX4_tryStep_13 : decode cX4_tryStep 13 = .ok (.invokevirtual 82, 3) := by decide +kernel
theorem dX4_tryStep_16 : decode cX4_tryStep 16 = .ok (.ifCond .ne 4, 3) := by decide +kernel
theorem dX4_tryStep_19 : decode cX4_tryStep 19 = .ok (.return_, 1) := by decide +kernel
theorem dX4_tryStep_20 : decode cX4_tryStep 20 = .ok (.aload_n 0, 1) := by decide +kernel
theorem dX4_tryStep_21 : decode cX4_tryStep 21 = .ok (.getfield 11, 3) := by decide +kernel
theorem dX4_tryStep_24 : decode cX4_tryStep 24 = .ok (.iload_n 1, 1) := by decide +kernel
theorem dX4_tryStep_25 : decode cX4_tryStep 25 = .ok (.iconst 1, 1) := by decide +kernel
theorem dX4_tryStep_26 : decode cX4_tryStep 26 = .ok (.iadd, 1) := by decide +kernel
theorem dX4_tryStep_27 : decode cX4_tryStep 27 = .ok (.aaload, 1) := by decide +kernel
theorem dX4_tryStep_28 : decode cX4_tryStep 28 = .ok (.astore 5, 2) := by decide +kernel
theorem dX4_tryStep_30 : decode cX4_tryStep 30 = .ok (.aload 5, 2) := by decide +kernel
theorem dX4_tryStep_32 : decode cX4_tryStep 32 = .ok (.aload_n 0, 1) := by decide +kernel
theorem dX4_tryStep_33 : decode cX4_tryStep 33 = .ok (.getfield 11, 3) := by decide +kernel
theorem dX4_tryStep_36 : decode cX4_tryStep 36 = .ok (.iload_n 1, 1) := by decide +kernel
theorem dX4_tryStep_37 : decode cX4_tryStep 37 = .ok (.aaload, 1) := by decide +kernel
theorem dX4_tryStep_38 : decode cX4_tryStep 38 = .ok (.invokevirtual 46, 3) := by decide +kernel
theorem dX4_tryStep_41 : decode cX4_tryStep 41 = .ok (.iload_n 3, 1) := by decide +kernel
theorem dX4_tryStep_42 : decode cX4_tryStep 42 = .ok (.iconst (-1), 1) := by decide +kernel
theorem dX4_tryStep_43 : decode cX4_tryStep 43 = .ok (.if_icmp .eq 12, 3) := by decide +kernel
theorem dX4_tryStep_46 : decode cX4_tryStep 46 = .ok (.aload 5, 2) := by decide +kernel
theorem dX4_tryStep_48 : decode cX4_tryStep 48 = .ok (.iload_n 3, 1) := by decide +kernel
theorem dX4_tryStep_49 : decode cX4_tryStep 49 = .ok (.iload 4, 2) := by decide +kernel
theorem dX4_tryStep_51 : decode cX4_tryStep 51 = .ok (.invokevirtual 86, 3) := by decide +kernel
theorem dX4_tryStep_54 : decode cX4_tryStep 54 = .ok (.pop, 1) := by decide +kernel
theorem dX4_tryStep_55 : decode cX4_tryStep 55 = .ok (.aload 5, 2) := by decide +kernel
theorem dX4_tryStep_57 : decode cX4_tryStep 57 = .ok (.invokevirtual 90, 3) := by decide +kernel
theorem dX4_tryStep_60 : decode cX4_tryStep 60 = .ok (.aload_n 0, 1) := by decide +kernel
theorem dX4_tryStep_61 : decode cX4_tryStep 61 = .ok (.getfield 30, 3) := by decide +kernel
theorem dX4_tryStep_64 : decode cX4_tryStep 64 = .ok (.iload_n 1, 1) := by decide +kernel
theorem dX4_tryStep_65 : decode cX4_tryStep 65 = .ok (.iload_n 3, 1) := by decide +kernel
theorem dX4_tryStep_66 : decode cX4_tryStep 66 = .ok (.iconst (-1), 1) := by decide +kernel
theorem dX4_tryStep_67 : decode cX4_tryStep 67 = .ok (.if_icmp .ne 8, 3) := by decide +kernel
theorem dX4_tryStep_70 : decode cX4_tryStep 70 = .ok (.bipush (-6), 2) := by decide +kernel
theorem dX4_tryStep_72 : decode cX4_tryStep 72 = .ok (.goto 10, 3) := by decide +kernel
theorem dX4_tryStep_75 : decode cX4_tryStep 75 = .ok (.bipush 10, 2) := by decide +kernel
theorem dX4_tryStep_77 : decode cX4_tryStep 77 = .ok (.iload_n 3, 1) := by decide +kernel
theorem dX4_tryStep_78 : decode cX4_tryStep 78 = .ok (.imul, 1) := by decide +kernel
theorem dX4_tryStep_79 : decode cX4_tryStep 79 = .ok (.iload 4, 2) := by decide +kernel
theorem dX4_tryStep_81 : decode cX4_tryStep 81 = .ok (.iadd, 1) := by decide +kernel
theorem dX4_tryStep_82 : decode cX4_tryStep 82 = .ok (.iastore, 1) := by decide +kernel
theorem dX4_tryStep_83 : decode cX4_tryStep 83 = .ok (.aload_n 0, 1) := by decide +kernel
theorem dX4_tryStep_84 : decode cX4_tryStep 84 = .ok (.iload_n 1, 1) := by decide +kernel
theorem dX4_tryStep_85 : decode cX4_tryStep 85 = .ok (.iconst 1, 1) := by decide +kernel
theorem dX4_tryStep_86 : decode cX4_tryStep 86 = .ok (.iadd, 1) := by decide +kernel
theorem dX4_tryStep_87 : decode cX4_tryStep 87 = .ok (.iload_n 2, 1) := by decide +kernel
theorem dX4_tryStep_88 : decode cX4_tryStep 88 = .ok (.invokevirtual 53, 3) := by decide +kernel
theorem dX4_tryStep_91 : decode cX4_tryStep 91 = .ok (.return_, 1) := by decide +kernel
theorem dX4_holdsBehind_0 : decode cX4_holdsBehind 0 = .ok (.aload_n 0, 1) := by decide +kernel
theorem dX4_holdsBehind_1 : decode cX4_holdsBehind 1 = .ok (.getfield 20, 3) := by decide +kernel
theorem dX4_holdsBehind_4 : decode cX4_holdsBehind 4 = .ok (.iload_n 1, 1) := by decide +kernel
theorem dX4_holdsBehind_5 : decode cX4_holdsBehind 5 = .ok (.aaload, 1) := by decide +kernel
theorem dX4_holdsBehind_6 : decode cX4_holdsBehind 6 = .ok (.astore 4, 2) := by decide +kernel
theorem dX4_holdsBehind_8 : decode cX4_holdsBehind 8 = .ok (.iload_n 2, 1) := by decide +kernel
theorem dX4_holdsBehind_9 : decode cX4_holdsBehind 9 = .ok (.iconst (-1), 1) := by decide +kernel
theorem dX4_holdsBehind_10 : decode cX4_holdsBehind 10 = .ok (.if_icmp .ne 21, 3) := by decide +kernel
theorem dX4_holdsBehind_13 : decode cX4_holdsBehind 13 = .ok (.aload 4, 2) := by decide +kernel
theorem dX4_holdsBehind_15 : decode cX4_holdsBehind 15 = .ok (.invokestatic 93, 3) := by decide +kernel
theorem dX4_holdsBehind_18 : decode cX4_holdsBehind 18 = .ok (.aload_n 0, 1) := by decide +kernel
theorem dX4_holdsBehind_19 : decode cX4_holdsBehind 19 = .ok (.getfield 40, 3) := by decide +kernel
theorem dX4_holdsBehind_22 : decode cX4_holdsBehind 22 = .ok (.if_icmp .lt 7, 3) := by decide +kernel
theorem dX4_holdsBehind_25 : decode cX4_holdsBehind 25 = .ok (.iconst 1, 1) := by decide +kernel
theorem dX4_holdsBehind_26 : decode cX4_holdsBehind 26 = .ok (.goto 4, 3) := by decide +kernel
theorem dX4_holdsBehind_29 : decode cX4_holdsBehind 29 = .ok (.iconst 0, 1) := by decide +kernel
theorem dX4_holdsBehind_30 : decode cX4_holdsBehind 30 = .ok (.ireturn, 1) := by decide +kernel
theorem dX4_holdsBehind_31 : decode cX4_holdsBehind 31 = .ok (.aload_n 0, 1) := by decide +kernel
theorem dX4_holdsBehind_32 : decode cX4_holdsBehind 32 = .ok (.getfield 11, 3) := by decide +kernel
theorem dX4_holdsBehind_35 : decode cX4_holdsBehind 35 = .ok (.iload_n 1, 1) := by decide +kernel
theorem dX4_holdsBehind_36 : decode cX4_holdsBehind 36 = .ok (.aaload, 1) := by decide +kernel
theorem dX4_holdsBehind_37 : decode cX4_holdsBehind 37 = .ok (.astore 5, 2) := by decide +kernel
theorem dX4_holdsBehind_39 : decode cX4_holdsBehind 39 = .ok (.aload 4, 2) := by decide +kernel
theorem dX4_holdsBehind_41 : decode cX4_holdsBehind 41 = .ok (.iload_n 3, 1) := by decide +kernel
theorem dX4_holdsBehind_42 : decode cX4_holdsBehind 42 = .ok (.iaload, 1) := by decide +kernel
theorem dX4_holdsBehind_43 : decode cX4_holdsBehind 43 = .ok (.istore 6, 2) := by decide +kernel
theorem dX4_holdsBehind_45 : decode cX4_holdsBehind 45 = .ok (.aload 4, 2) := by decide +kernel
theorem dX4_holdsBehind_47 : decode cX4_holdsBehind 47 = .ok (.iload_n 3, 1) := by decide +kernel
theorem dX4_holdsBehind_48 : decode cX4_holdsBehind 48 = .ok (.dup2, 1) := by decide +kernel
theorem dX4_holdsBehind_49 : decode cX4_holdsBehind 49 = .ok (.iaload, 1) := by decide +kernel
theorem dX4_holdsBehind_50 : decode cX4_holdsBehind 50 = .ok (.iconst 0, 1) := by decide +kernel
theorem dX4_holdsBehind_51 : decode cX4_holdsBehind 51 = .ok (.aload 5, 2) := by decide +kernel
theorem dX4_holdsBehind_53 : decode cX4_holdsBehind 53 = .ok (.getfield 79, 3) := by decide +kernel
theorem dX4_holdsBehind_56 : decode cX4_holdsBehind 56 = .ok (.iload_n 2, 1) := by decide +kernel
theorem dX4_holdsBehind_57 : decode cX4_holdsBehind 57 = .ok (.iaload, 1) := by decide +kernel
theorem dX4_holdsBehind_58 : decode cX4_holdsBehind 58 = .ok (.aload_n 0, 1) := by decide +kernel
theorem dX4_holdsBehind_59 : decode cX4_holdsBehind 59 = .ok (.getfield 23, 3) := by decide +kernel
theorem dX4_holdsBehind_62 : decode cX4_holdsBehind 62 = .ok (.iload_n 1, 1) := by decide +kernel
theorem dX4_holdsBehind_63 : decode cX4_holdsBehind 63 = .ok (.aaload, 1) := by decide +kernel
theorem dX4_holdsBehind_64 : decode cX4_holdsBehind 64 = .ok (.iload_n 3, 1) := by decide +kernel
theorem dX4_holdsBehind_65 : decode cX4_holdsBehind 65 = .ok (.iaload, 1) := by decide +kernel
theorem dX4_holdsBehind_66 : decode cX4_holdsBehind 66 = .ok (.isub, 1) := by decide +kernel
theorem dX4_holdsBehind_67 : decode cX4_holdsBehind 67 = .ok (.invokestatic 97, 3) := by decide +kernel
theorem dX4_holdsBehind_70 : decode cX4_holdsBehind 70 = .ok (.aload 5, 2) := by decide +kernel
theorem dX4_holdsBehind_72 : decode cX4_holdsBehind 72 = .ok (.getfield 102, 3) := by decide +kernel
theorem dX4_holdsBehind_75 : decode cX4_holdsBehind 75 = .ok (.iload_n 2, 1) := by decide +kernel
theorem dX4_holdsBehind_76 : decode cX4_holdsBehind 76 = .ok (.iaload, 1) := by decide +kernel
theorem dX4_holdsBehind_77 : decode cX4_holdsBehind 77 = .ok (.imul, 1) := by decide +kernel
theorem dX4_holdsBehind_78 : decode cX4_holdsBehind 78 = .ok (.iadd, 1) := by decide +kernel
theorem dX4_holdsBehind_79 : decode cX4_holdsBehind 79 = .ok (.iastore, 1) := by decide +kernel
theorem dX4_holdsBehind_80 : decode cX4_holdsBehind 80 = .ok (.aload 5, 2) := by decide +kernel
theorem dX4_holdsBehind_82 : decode cX4_holdsBehind 82 = .ok (.getfield 105, 3) := by decide +kernel
theorem dX4_holdsBehind_85 : decode cX4_holdsBehind 85 = .ok (.iload_n 3, 1) := by decide +kernel
theorem dX4_holdsBehind_86 : decode cX4_holdsBehind 86 = .ok (.aaload, 1) := by decide +kernel
theorem dX4_holdsBehind_87 : decode cX4_holdsBehind 87 = .ok (.invokevirtual 109, 3) := by decide +kernel
theorem dX4_holdsBehind_90 : decode cX4_holdsBehind 90 = .ok (.ifCond .eq 19, 3) := by decide +kernel
theorem dX4_holdsBehind_93 : decode cX4_holdsBehind 93 = .ok (.aload 4, 2) := by decide +kernel
theorem dX4_holdsBehind_95 : decode cX4_holdsBehind 95 = .ok (.invokestatic 93, 3) := by decide +kernel
theorem dX4_holdsBehind_98 : decode cX4_holdsBehind 98 = .ok (.aload_n 0, 1) := by decide +kernel
theorem dX4_holdsBehind_99 : decode cX4_holdsBehind 99 = .ok (.getfield 40, 3) := by decide +kernel
theorem dX4_holdsBehind_102 : decode cX4_holdsBehind 102 = .ok (.if_icmp .lt 7, 3) := by decide +kernel
theorem dX4_holdsBehind_105 : decode cX4_holdsBehind 105 = .ok (.iconst 1, 1) := by decide +kernel
theorem dX4_holdsBehind_106 : decode cX4_holdsBehind 106 = .ok (.goto 4, 3) := by decide +kernel
theorem dX4_holdsBehind_109 : decode cX4_holdsBehind 109 = .ok (.iconst 0, 1) := by decide +kernel
theorem dX4_holdsBehind_110 : decode cX4_holdsBehind 110 = .ok (.istore 7, 2) := by decide +kernel
theorem dX4_holdsBehind_112 : decode cX4_holdsBehind 112 = .ok (.aload 4, 2) := by decide +kernel
theorem dX4_holdsBehind_114 : decode cX4_holdsBehind 114 = .ok (.iload_n 3, 1) := by decide +kernel
theorem dX4_holdsBehind_115 : decode cX4_holdsBehind 115 = .ok (.iload 6, 2) := by decide +kernel
theorem dX4_holdsBehind_117 : decode cX4_holdsBehind 117 = .ok (.iastore, 1) := by decide +kernel
theorem dX4_holdsBehind_118 : decode cX4_holdsBehind 118 = .ok (.iload 7, 2) := by decide +kernel
theorem dX4_holdsBehind_120 : decode cX4_holdsBehind 120 = .ok (.ireturn, 1) := by decide +kernel
theorem dX4_foresee_0 : decode cX4_foresee 0 = .ok (.aload_n 0, 1) := by decide +kernel
theorem dX4_foresee_1 : decode cX4_foresee 1 = .ok (.getfield 11, 3) := by decide +kernel
theorem dX4_foresee_4 : decode cX4_foresee 4 = .ok (.iload_n 1, 1) := by decide +kernel
theorem dX4_foresee_5 : decode cX4_foresee 5 = .ok (.aaload, 1) := by decide +kernel
theorem dX4_foresee_6 : decode cX4_foresee 6 = .ok (.astore_n 2, 1) := by decide +kernel
theorem dX4_foresee_7 : decode cX4_foresee 7 = .ok (.iconst 0, 1) := by decide +kernel
theorem dX4_foresee_8 : decode cX4_foresee 8 = .ok (.istore_n 3, 1) := by decide +kernel
theorem dX4_foresee_9 : decode cX4_foresee 9 = .ok (.iload_n 3, 1) := by decide +kernel
theorem dX4_foresee_10 : decode cX4_foresee 10 = .ok (.iconst 4, 1) := by decide +kernel
theorem dX4_foresee_11 : decode cX4_foresee 11 = .ok (.if_icmp .ge 60, 3) := by decide +kernel
theorem dX4_foresee_14 : decode cX4_foresee 14 = .ok (.aload_n 0, 1) := by decide +kernel
theorem dX4_foresee_15 : decode cX4_foresee 15 = .ok (.getfield 20, 3) := by decide +kernel
theorem dX4_foresee_18 : decode cX4_foresee 18 = .ok (.iload_n 1, 1) := by decide +kernel
theorem dX4_foresee_19 : decode cX4_foresee 19 = .ok (.aaload, 1) := by decide +kernel
theorem dX4_foresee_20 : decode cX4_foresee 20 = .ok (.iload_n 3, 1) := by decide +kernel
theorem dX4_foresee_21 : decode cX4_foresee 21 = .ok (.aload_n 2, 1) := by decide +kernel
theorem dX4_foresee_22 : decode cX4_foresee 22 = .ok (.getfield 105, 3) := by decide +kernel
theorem dX4_foresee_25 : decode cX4_foresee 25 = .ok (.iload_n 3, 1) := by decide +kernel
theorem dX4_foresee_26 : decode cX4_foresee 26 = .ok (.aaload, 1) := by decide +kernel
theorem dX4_foresee_27 : decode cX4_foresee 27 = .ok (.aload_n 2, 1) := by decide +kernel
theorem dX4_foresee_28 : decode cX4_foresee 28 = .ok (.getfield 115, 3) := by decide +kernel
theorem dX4_foresee_31 : decode cX4_foresee 31 = .ok (.aload_n 2, 1) := by decide +kernel
theorem dX4_foresee_32 : decode cX4_foresee 32 = .ok (.getfield 102, 3) := by decide +kernel
theorem dX4_foresee_35 : decode cX4_foresee 35 = .ok (.invokevirtual 118, 3) := by decide +kernel
theorem dX4_foresee_38 : decode cX4_foresee 38 = .ok (.iastore, 1) := by decide +kernel
theorem dX4_foresee_39 : decode cX4_foresee 39 = .ok (.aload_n 0, 1) := by decide +kernel
theorem dX4_foresee_40 : decode cX4_foresee 40 = .ok (.getfield 23, 3) := by decide +kernel
theorem dX4_foresee_43 : decode cX4_foresee 43 = .ok (.iload_n 1, 1) := by decide +kernel
theorem dX4_foresee_44 : decode cX4_foresee 44 = .ok (.aaload, 1) := by decide +kernel
theorem dX4_foresee_45 : decode cX4_foresee 45 = .ok (.iload_n 3, 1) := by decide +kernel
theorem dX4_foresee_46 : decode cX4_foresee 46 = .ok (.iconst 0, 1) := by decide +kernel
theorem dX4_foresee_47 : decode cX4_foresee 47 = .ok (.aload_n 2, 1) := by decide +kernel
theorem dX4_foresee_48 : decode cX4_foresee 48 = .ok (.getfield 115, 3) := by decide +kernel
theorem dX4_foresee_51 : decode cX4_foresee 51 = .ok (.aload_n 2, 1) := by decide +kernel
theorem dX4_foresee_52 : decode cX4_foresee 52 = .ok (.getfield 105, 3) := by decide +kernel
theorem dX4_foresee_55 : decode cX4_foresee 55 = .ok (.iload_n 3, 1) := by decide +kernel
theorem dX4_foresee_56 : decode cX4_foresee 56 = .ok (.aaload, 1) := by decide +kernel
theorem dX4_foresee_57 : decode cX4_foresee 57 = .ok (.invokevirtual 122, 3) := by decide +kernel
theorem dX4_foresee_60 : decode cX4_foresee 60 = .ok (.isub, 1) := by decide +kernel
theorem dX4_foresee_61 : decode cX4_foresee 61 = .ok (.invokestatic 97, 3) := by decide +kernel
theorem dX4_foresee_64 : decode cX4_foresee 64 = .ok (.iastore, 1) := by decide +kernel
theorem dX4_foresee_65 : decode cX4_foresee 65 = .ok (.iinc 3 1, 3) := by decide +kernel
theorem dX4_foresee_68 : decode cX4_foresee 68 = .ok (.goto (-59), 3) := by decide +kernel
theorem dX4_foresee_71 : decode cX4_foresee 71 = .ok (.return_, 1) := by decide +kernel
theorem dX4_isHopeless_0 : decode cX4_isHopeless 0 = .ok (.aload_n 0, 1) := by decide +kernel
theorem dX4_isHopeless_1 : decode cX4_isHopeless 1 = .ok (.getfield 11, 3) := by decide +kernel
theorem dX4_isHopeless_4 : decode cX4_isHopeless 4 = .ok (.iload_n 1, 1) := by decide +kernel
theorem dX4_isHopeless_5 : decode cX4_isHopeless 5 = .ok (.aaload, 1) := by decide +kernel
theorem dX4_isHopeless_6 : decode cX4_isHopeless 6 = .ok (.astore_n 2, 1) := by decide +kernel
theorem dX4_isHopeless_7 : decode cX4_isHopeless 7 = .ok (.aload_n 0, 1) := by decide +kernel
theorem dX4_isHopeless_8 : decode cX4_isHopeless 8 = .ok (.getfield 36, 3) := by decide +kernel
theorem dX4_isHopeless_11 : decode cX4_isHopeless 11 = .ok (.iload_n 1, 1) := by decide +kernel
theorem dX4_isHopeless_12 : decode cX4_isHopeless 12 = .ok (.isub, 1) := by decide +kernel
theorem dX4_isHopeless_13 : decode cX4_isHopeless 13 = .ok (.istore_n 3, 1) := by decide +kernel
theorem dX4_isHopeless_14 : decode cX4_isHopeless 14 = .ok (.iconst 0, 1) := by decide +kernel
theorem dX4_isHopeless_15 : decode cX4_isHopeless 15 = .ok (.istore 4, 2) := by decide +kernel
theorem dX4_isHopeless_17 : decode cX4_isHopeless 17 = .ok (.iconst 0, 1) := by decide +kernel
theorem dX4_isHopeless_18 : decode cX4_isHopeless 18 = .ok (.istore 5, 2) := by decide +kernel
theorem dX4_isHopeless_20 : decode cX4_isHopeless 20 = .ok (.iload 5, 2) := by decide +kernel
theorem dX4_isHopeless_22 : decode cX4_isHopeless 22 = .ok (.iconst 4, 1) := by decide +kernel
theorem dX4_isHopeless_23 : decode cX4_isHopeless 23 = .ok (.if_icmp .ge 34, 3) := by decide +kernel
theorem dX4_isHopeless_26 : decode cX4_isHopeless 26 = .ok (.iload 4, 2) := by decide +kernel
theorem dX4_isHopeless_28 : decode cX4_isHopeless 28 = .ok (.aload_n 2, 1) := by decide +kernel
theorem dX4_isHopeless_29 : decode cX4_isHopeless 29 = .ok (.getfield 105, 3) := by decide +kernel
theorem dX4_isHopeless_32 : decode cX4_isHopeless 32 = .ok (.iload 5, 2) := by decide +kernel
theorem dX4_isHopeless_34 : decode cX4_isHopeless 34 = .ok (.aaload, 1) := by decide +kernel
theorem dX4_isHopeless_35 : decode cX4_isHopeless 35 = .ok (.aload_n 2, 1) := by decide +kernel
theorem dX4_isHopeless_36 : decode cX4_isHopeless 36 = .ok (.getfield 115, 3) := by decide +kernel
theorem dX4_isHopeless_39 : decode cX4_isHopeless 39 = .ok (.iload_n 3, 1) := by decide +kernel
theorem dX4_isHopeless_40 : decode cX4_isHopeless 40 = .ok (.imul, 1) := by decide +kernel
theorem dX4_isHopeless_41 : decode cX4_isHopeless 41 = .ok (.aload_n 2, 1) := by decide +kernel
theorem dX4_isHopeless_42 : decode cX4_isHopeless 42 = .ok (.getfield 102, 3) := by decide +kernel
theorem dX4_isHopeless_45 : decode cX4_isHopeless 45 = .ok (.invokevirtual 118, 3) := by decide +kernel
theorem dX4_isHopeless_48 : decode cX4_isHopeless 48 = .ok (.iadd, 1) := by decide +kernel
theorem dX4_isHopeless_49 : decode cX4_isHopeless 49 = .ok (.istore 4, 2) := by decide +kernel
theorem dX4_isHopeless_51 : decode cX4_isHopeless 51 = .ok (.iinc 5 1, 3) := by decide +kernel
theorem dX4_isHopeless_54 : decode cX4_isHopeless 54 = .ok (.goto (-34), 3) := by decide +kernel
theorem dX4_isHopeless_57 : decode cX4_isHopeless 57 = .ok (.iconst 0, 1) := by decide +kernel
theorem dX4_isHopeless_58 : decode cX4_isHopeless 58 = .ok (.istore 5, 2) := by decide +kernel
theorem dX4_isHopeless_60 : decode cX4_isHopeless 60 = .ok (.iload 5, 2) := by decide +kernel
theorem dX4_isHopeless_62 : decode cX4_isHopeless 62 = .ok (.bipush 6, 2) := by decide +kernel
theorem dX4_isHopeless_64 : decode cX4_isHopeless 64 = .ok (.if_icmp .ge 46, 3) := by decide +kernel
theorem dX4_isHopeless_67 : decode cX4_isHopeless 67 = .ok (.iload_n 3, 1) := by decide +kernel
theorem dX4_isHopeless_68 : decode cX4_isHopeless 68 = .ok (.ifCond .le 42, 3) := by decide +kernel
theorem dX4_isHopeless_71 : decode cX4_isHopeless 71 = .ok (.aload_n 0, 1) := by decide +kernel
theorem dX4_isHopeless_72 : decode cX4_isHopeless 72 = .ok (.getfield 26, 3) := by decide +kernel
theorem dX4_isHopeless_75 : decode cX4_isHopeless 75 = .ok (.iload 5, 2) := by decide +kernel
theorem dX4_isHopeless_77 : decode cX4_isHopeless 77 = .ok (.iaload, 1) := by decide +kernel
theorem dX4_isHopeless_78 : decode cX4_isHopeless 78 = .ok (.istore 6, 2) := by decide +kernel
theorem dX4_isHopeless_80 : decode cX4_isHopeless 80 = .ok (.aload_n 2, 1) := by decide +kernel
theorem dX4_isHopeless_81 : decode cX4_isHopeless 81 = .ok (.getfield 79, 3) := by decide +kernel
theorem dX4_isHopeless_84 : decode cX4_isHopeless 84 = .ok (.iload 6, 2) := by decide +kernel
theorem dX4_isHopeless_86 : decode cX4_isHopeless 86 = .ok (.iaload, 1) := by decide +kernel
theorem dX4_isHopeless_87 : decode cX4_isHopeless 87 = .ok (.ifCond .le 17, 3) := by decide +kernel
theorem dX4_isHopeless_90 : decode cX4_isHopeless 90 = .ok (.iload 4, 2) := by decide +kernel
theorem dX4_isHopeless_92 : decode cX4_isHopeless 92 = .ok (.aload_n 2, 1) := by decide +kernel
theorem dX4_isHopeless_93 : decode cX4_isHopeless 93 = .ok (.iload 6, 2) := by decide +kernel
theorem dX4_isHopeless_95 : decode cX4_isHopeless 95 = .ok (.invokevirtual 57, 3) := by decide +kernel
theorem dX4_isHopeless_98 : decode cX4_isHopeless 98 = .ok (.iadd, 1) := by decide +kernel
theorem dX4_isHopeless_99 : decode cX4_isHopeless 99 = .ok (.istore 4, 2) := by decide +kernel
theorem dX4_isHopeless_101 : decode cX4_isHopeless 101 = .ok (.iinc 3 (-1), 3) := by decide +kernel
theorem dX4_isHopeless_104 : decode cX4_isHopeless 104 = .ok (.iinc 5 1, 3) := by decide +kernel
theorem dX4_isHopeless_107 : decode cX4_isHopeless 107 = .ok (.goto (-47), 3) := by decide +kernel
theorem dX4_isHopeless_110 : decode cX4_isHopeless 110 = .ok (.iload 4, 2) := by decide +kernel
theorem dX4_isHopeless_112 : decode cX4_isHopeless 112 = .ok (.aload_n 0, 1) := by decide +kernel
theorem dX4_isHopeless_113 : decode cX4_isHopeless 113 = .ok (.getfield 40, 3) := by decide +kernel
theorem dX4_isHopeless_116 : decode cX4_isHopeless 116 = .ok (.if_icmp .ge 7, 3) := by decide +kernel
theorem dX4_isHopeless_119 : decode cX4_isHopeless 119 = .ok (.iconst 1, 1) := by decide +kernel
theorem dX4_isHopeless_120 : decode cX4_isHopeless 120 = .ok (.goto 4, 3) := by decide +kernel
theorem dX4_isHopeless_123 : decode cX4_isHopeless 123 = .ok (.iconst 0, 1) := by decide +kernel
theorem dX4_isHopeless_124 : decode cX4_isHopeless 124 = .ok (.ireturn, 1) := by decide +kernel
theorem dX5_init_0 : decode cX5_init 0 = .ok (.aload_n 0, 1) := by decide +kernel
theorem dX5_init_1 : decode cX5_init 1 = .ok (.invokespecial 3, 3) := by decide +kernel
theorem dX5_init_4 : decode cX5_init 4 = .ok (.aload_n 0, 1) := by decide +kernel
theorem dX5_init_5 : decode cX5_init 5 = .ok (.bipush 8, 2) := by decide +kernel
theorem dX5_init_7 : decode cX5_init 7 = .ok (.newarray .int, 2) := by decide +kernel
theorem dX5_init_9 : decode cX5_init 9 = .ok (.putfield 9, 3) := by decide +kernel
theorem dX5_init_12 : decode cX5_init 12 = .ok (.aload_n 0, 1) := by decide +kernel
theorem dX5_init_13 : decode cX5_init 13 = .ok (.bipush 8, 2) := by decide +kernel
theorem dX5_init_15 : decode cX5_init 15 = .ok (.newarray .int, 2) := by decide +kernel
theorem dX5_init_17 : decode cX5_init 17 = .ok (.putfield 15, 3) := by decide +kernel
theorem dX5_init_20 : decode cX5_init 20 = .ok (.aload_n 0, 1) := by decide +kernel
theorem dX5_init_21 : decode cX5_init 21 = .ok (.bipush 8, 2) := by decide +kernel
theorem dX5_init_23 : decode cX5_init 23 = .ok (.newarray .int, 2) := by decide +kernel
theorem dX5_init_25 : decode cX5_init 25 = .ok (.putfield 18, 3) := by decide +kernel
theorem dX5_init_28 : decode cX5_init 28 = .ok (.return_, 1) := by decide +kernel
theorem dX5_become_0 : decode cX5_become 0 = .ok (.aload_n 0, 1) := by decide +kernel
theorem dX5_become_1 : decode cX5_become 1 = .ok (.aload_n 1, 1) := by decide +kernel
theorem dX5_become_2 : decode cX5_become 2 = .ok (.getfield 21, 3) := by decide +kernel
theorem dX5_become_5 : decode cX5_become 5 = .ok (.putfield 21, 3) := by decide +kernel
theorem dX5_become_8 : decode cX5_become 8 = .ok (.aload_n 1, 1) := by decide +kernel
theorem dX5_become_9 : decode cX5_become 9 = .ok (.getfield 9, 3) := by decide +kernel
theorem dX5_become_12 : decode cX5_become 12 = .ok (.iconst 0, 1) := by decide +kernel
theorem dX5_become_13 : decode cX5_become 13 = .ok (.aload_n 0, 1) := by decide +kernel
theorem dX5_become_14 : decode cX5_become 14 = .ok (.getfield 9, 3) := by decide +kernel
theorem dX5_become_17 : decode cX5_become 17 = .ok (.iconst 0, 1) := by decide +kernel
theorem dX5_become_18 : decode cX5_become 18 = .ok (.aload_n 0, 1) := by decide +kernel
theorem dX5_become_19 : decode cX5_become 19 = .ok (.getfield 21, 3) := by decide +kernel
theorem dX5_become_22 : decode cX5_become 22 = .ok (.invokestatic 25, 3) := by decide +kernel
theorem dX5_become_25 : decode cX5_become 25 = .ok (.aload_n 1, 1) := by decide +kernel
theorem dX5_become_26 : decode cX5_become 26 = .ok (.getfield 15, 3) := by decide +kernel
theorem dX5_become_29 : decode cX5_become 29 = .ok (.iconst 0, 1) := by decide +kernel
theorem dX5_become_30 : decode cX5_become 30 = .ok (.aload_n 0, 1) := by decide +kernel
theorem dX5_become_31 : decode cX5_become 31 = .ok (.getfield 15, 3) := by decide +kernel
theorem dX5_become_34 : decode cX5_become 34 = .ok (.iconst 0, 1) := by decide +kernel
theorem dX5_become_35 : decode cX5_become 35 = .ok (.aload_n 0, 1) := by decide +kernel
theorem dX5_become_36 : decode cX5_become 36 = .ok (.getfield 21, 3) := by decide +kernel
theorem dX5_become_39 : decode cX5_become 39 = .ok (.invokestatic 25, 3) := by decide +kernel
theorem dX5_become_42 : decode cX5_become 42 = .ok (.aload_n 1, 1) := by decide +kernel
theorem dX5_become_43 : decode cX5_become 43 = .ok (.getfield 18, 3) := by decide +kernel
theorem dX5_become_46 : decode cX5_become 46 = .ok (.iconst 0, 1) := by decide +kernel
theorem dX5_become_47 : decode cX5_become 47 = .ok (.aload_n 0, 1) := by decide +kernel
theorem dX5_become_48 : decode cX5_become 48 = .ok (.getfield 18, 3) := by decide +kernel
theorem dX5_become_51 : decode cX5_become 51 = .ok (.iconst 0, 1) := by decide +kernel
theorem dX5_become_52 : decode cX5_become 52 = .ok (.aload_n 0, 1) := by decide +kernel
theorem dX5_become_53 : decode cX5_become 53 = .ok (.getfield 21, 3) := by decide +kernel
theorem dX5_become_56 : decode cX5_become 56 = .ok (.invokestatic 25, 3) := by decide +kernel
theorem dX5_become_59 : decode cX5_become 59 = .ok (.return_, 1) := by decide +kernel
theorem dX5_hasRoom_0 : decode cX5_hasRoom 0 = .ok (.aload_n 0, 1) := by decide +kernel
theorem dX5_hasRoom_1 : decode cX5_hasRoom 1 = .ok (.getfield 21, 3) := by decide +kernel
theorem dX5_hasRoom_4 : decode cX5_hasRoom 4 = .ok (.bipush 8, 2) := by decide +kernel
theorem dX5_hasRoom_6 : decode cX5_hasRoom 6 = .ok (.if_icmp .ge 7, 3) := by decide +kernel
theorem dX5_hasRoom_9 : decode cX5_hasRoom 9 = .ok (.iconst 1, 1) := by decide +kernel
theorem dX5_hasRoom_10 : decode cX5_hasRoom 10 = .ok (.goto 4, 3) := by decide +kernel
theorem dX5_hasRoom_13 : decode cX5_hasRoom 13 = .ok (.iconst 0, 1) := by decide +kernel
theorem dX5_hasRoom_14 : decode cX5_hasRoom 14 = .ok (.ireturn, 1) := by decide +kernel
theorem dX5_add_0 : decode cX5_add 0 = .ok (.aload_n 0, 1) := by decide +kernel
theorem dX5_add_1 : decode cX5_add 1 = .ok (.invokevirtual 31, 3) := by decide +kernel
theorem dX5_add_4 : decode cX5_add 4 = .ok (.ifCond .eq 43, 3) := by decide +kernel
theorem dX5_add_7 : decode cX5_add 7 = .ok (.aload_n 0, 1) := by decide +kernel
theorem dX5_add_8 : decode cX5_add 8 = .ok (.getfield 9, 3) := by decide +kernel
theorem dX5_add_11 : decode cX5_add 11 = .ok (.aload_n 0, 1) := by decide +kernel
theorem dX5_add_12 : decode cX5_add 12 = .ok (.getfield 21, 3) := by decide +kernel
theorem dX5_add_15 : decode cX5_add 15 = .ok (.iload_n 1, 1) := by decide +kernel
theorem dX5_add_16 : decode cX5_add 16 = .ok (.iastore, 1) := by decide +kernel
theorem dX5_add_17 : decode cX5_add 17 = .ok (.aload_n 0, 1) := by decide +kernel
theorem dX5_add_18 : decode cX5_add 18 = .ok (.getfield 15, 3) := by decide +kernel
theorem dX5_add_21 : decode cX5_add 21 = .ok (.aload_n 0, 1) := by decide +kernel
theorem dX5_add_22 : decode cX5_add 22 = .ok (.getfield 21, 3) := by decide +kernel
theorem dX5_add_25 : decode cX5_add 25 = .ok (.iload_n 2, 1) := by decide +kernel
theorem dX5_add_26 : decode cX5_add 26 = .ok (.iastore, 1) := by decide +kernel
theorem dX5_add_27 : decode cX5_add 27 = .ok (.aload_n 0, 1) := by decide +kernel
theorem dX5_add_28 : decode cX5_add 28 = .ok (.getfield 18, 3) := by decide +kernel
theorem dX5_add_31 : decode cX5_add 31 = .ok (.aload_n 0, 1) := by decide +kernel
theorem dX5_add_32 : decode cX5_add 32 = .ok (.getfield 21, 3) := by decide +kernel
theorem dX5_add_35 : decode cX5_add 35 = .ok (.iload_n 3, 1) := by decide +kernel
theorem dX5_add_36 : decode cX5_add 36 = .ok (.iastore, 1) := by decide +kernel
theorem dX5_add_37 : decode cX5_add 37 = .ok (.aload_n 0, 1) := by decide +kernel
theorem dX5_add_38 : decode cX5_add 38 = .ok (.dup, 1) := by decide +kernel
theorem dX5_add_39 : decode cX5_add 39 = .ok (.getfield 21, 3) := by decide +kernel
theorem dX5_add_42 : decode cX5_add 42 = .ok (.iconst 1, 1) := by decide +kernel
theorem dX5_add_43 : decode cX5_add 43 = .ok (.iadd, 1) := by decide +kernel
theorem dX5_add_44 : decode cX5_add 44 = .ok (.putfield 21, 3) := by decide +kernel
theorem dX5_add_47 : decode cX5_add 47 = .ok (.return_, 1) := by decide +kernel
theorem dX5_lose_0 : decode cX5_lose 0 = .ok (.iload_n 1, 1) := by decide +kernel
theorem dX5_lose_1 : decode cX5_lose 1 = .ok (.istore_n 3, 1) := by decide +kernel
theorem dX5_lose_2 : decode cX5_lose 2 = .ok (.iconst 0, 1) := by decide +kernel
theorem dX5_lose_3 : decode cX5_lose 3 = .ok (.istore 4, 2) := by decide +kernel
theorem dX5_lose_5 : decode cX5_lose 5 = .ok (.iload 4, 2) := by decide +kernel
theorem dX5_lose_7 : decode cX5_lose 7 = .ok (.aload_n 0, 1) := by decide +kernel
theorem dX5_lose_8 : decode cX5_lose 8 = .ok (.getfield 21, 3) := by decide +kernel
theorem dX5_lose_11 : decode cX5_lose 11 = .ok (.if_icmp .ge 49, 3) := by decide +kernel
theorem dX5_lose_14 : decode cX5_lose 14 = .ok (.aload_n 0, 1) := by decide +kernel
theorem dX5_lose_15 : decode cX5_lose 15 = .ok (.getfield 15, 3) := by decide +kernel
theorem dX5_lose_18 : decode cX5_lose 18 = .ok (.iload 4, 2) := by decide +kernel
theorem dX5_lose_20 : decode cX5_lose 20 = .ok (.iaload, 1) := by decide +kernel
theorem dX5_lose_21 : decode cX5_lose 21 = .ok (.iload_n 3, 1) := by decide +kernel
theorem dX5_lose_22 : decode cX5_lose 22 = .ok (.if_icmp .gt 38, 3) := by decide +kernel
theorem dX5_lose_25 : decode cX5_lose 25 = .ok (.iload_n 3, 1) := by decide +kernel
theorem dX5_lose_26 : decode cX5_lose 26 = .ok (.aload_n 0, 1) := by decide +kernel
theorem dX5_lose_27 : decode cX5_lose 27 = .ok (.getfield 15, 3) := by decide +kernel
theorem dX5_lose_30 : decode cX5_lose 30 = .ok (.iload 4, 2) := by decide +kernel
theorem dX5_lose_32 : decode cX5_lose 32 = .ok (.iaload, 1) := by decide +kernel
theorem dX5_lose_33 : decode cX5_lose 33 = .ok (.isub, 1) := by decide +kernel
theorem dX5_lose_34 : decode cX5_lose 34 = .ok (.istore_n 3, 1) := by decide +kernel
theorem dX5_lose_35 : decode cX5_lose 35 = .ok (.aload_n 2, 1) := by decide +kernel
theorem dX5_lose_36 : decode cX5_lose 36 = .ok (.aload_n 0, 1) := by decide +kernel
theorem dX5_lose_37 : decode cX5_lose 37 = .ok (.getfield 9, 3) := by decide +kernel
theorem dX5_lose_40 : decode cX5_lose 40 = .ok (.iload 4, 2) := by decide +kernel
theorem dX5_lose_42 : decode cX5_lose 42 = .ok (.iaload, 1) := by decide +kernel
theorem dX5_lose_43 : decode cX5_lose 43 = .ok (.dup2, 1) := by decide +kernel
theorem dX5_lose_44 : decode cX5_lose 44 = .ok (.iaload, 1) := by decide +kernel
theorem dX5_lose_45 : decode cX5_lose 45 = .ok (.aload_n 0, 1) := by decide +kernel
theorem dX5_lose_46 : decode cX5_lose 46 = .ok (.getfield 15, 3) := by decide +kernel
theorem dX5_lose_49 : decode cX5_lose 49 = .ok (.iload 4, 2) := by decide +kernel
theorem dX5_lose_51 : decode cX5_lose 51 = .ok (.iaload, 1) := by decide +kernel
theorem dX5_lose_52 : decode cX5_lose 52 = .ok (.iadd, 1) := by decide +kernel
theorem dX5_lose_53 : decode cX5_lose 53 = .ok (.iastore, 1) := by decide +kernel
theorem dX5_lose_54 : decode cX5_lose 54 = .ok (.iinc 4 1, 3) := by decide +kernel
theorem dX5_lose_57 : decode cX5_lose 57 = .ok (.goto (-52), 3) := by decide +kernel
theorem dX5_lose_60 : decode cX5_lose 60 = .ok (.iload 4, 2) := by decide +kernel
theorem dX5_lose_62 : decode cX5_lose 62 = .ok (.aload_n 0, 1) := by decide +kernel
theorem dX5_lose_63 : decode cX5_lose 63 = .ok (.getfield 21, 3) := by decide +kernel
theorem dX5_lose_66 : decode cX5_lose 66 = .ok (.if_icmp .ge 27, 3) := by decide +kernel
theorem dX5_lose_69 : decode cX5_lose 69 = .ok (.aload_n 0, 1) := by decide +kernel
theorem dX5_lose_70 : decode cX5_lose 70 = .ok (.getfield 15, 3) := by decide +kernel
theorem dX5_lose_73 : decode cX5_lose 73 = .ok (.iload 4, 2) := by decide +kernel
theorem dX5_lose_75 : decode cX5_lose 75 = .ok (.dup2, 1) := by decide +kernel
theorem dX5_lose_76 : decode cX5_lose 76 = .ok (.iaload, 1) := by decide +kernel
theorem dX5_lose_77 : decode cX5_lose 77 = .ok (.iload_n 3, 1) := by decide +kernel
theorem dX5_lose_78 : decode cX5_lose 78 = .ok (.isub, 1) := by decide +kernel
theorem dX5_lose_79 : decode cX5_lose 79 = .ok (.iastore, 1) := by decide +kernel
theorem dX5_lose_80 : decode cX5_lose 80 = .ok (.aload_n 2, 1) := by decide +kernel
theorem dX5_lose_81 : decode cX5_lose 81 = .ok (.aload_n 0, 1) := by decide +kernel
theorem dX5_lose_82 : decode cX5_lose 82 = .ok (.getfield 9, 3) := by decide +kernel
theorem dX5_lose_85 : decode cX5_lose 85 = .ok (.iload 4, 2) := by decide +kernel
theorem dX5_lose_87 : decode cX5_lose 87 = .ok (.iaload, 1) := by decide +kernel
theorem dX5_lose_88 : decode cX5_lose 88 = .ok (.dup2, 1) := by decide +kernel
theorem dX5_lose_89 : decode cX5_lose 89 = .ok (.iaload, 1) := by decide +kernel
theorem dX5_lose_90 : decode cX5_lose 90 = .ok (.iload_n 3, 1) := by decide +kernel
theorem dX5_lose_91 : decode cX5_lose 91 = .ok (.iadd, 1) := by decide +kernel
theorem dX5_lose_92 : decode cX5_lose 92 = .ok (.iastore, 1) := by decide +kernel
theorem dX5_lose_93 : decode cX5_lose 93 = .ok (.aload_n 0, 1) := by decide +kernel
theorem dX5_lose_94 : decode cX5_lose 94 = .ok (.iload 4, 2) := by decide +kernel
theorem dX5_lose_96 : decode cX5_lose 96 = .ok (.invokevirtual 35, 3) := by decide +kernel
theorem dX5_lose_99 : decode cX5_lose 99 = .ok (.return_, 1) := by decide +kernel
theorem dX5_dropOldest_0 : decode cX5_dropOldest 0 = .ok (.iload_n 1, 1) := by decide +kernel
theorem dX5_dropOldest_1 : decode cX5_dropOldest 1 = .ok (.ifCond .le 64, 3) := by decide +kernel
theorem dX5_dropOldest_4 : decode cX5_dropOldest 4 = .ok (.aload_n 0, 1) := by decide +kernel
theorem dX5_dropOldest_5 : decode cX5_dropOldest 5 = .ok (.dup, 1) := by decide +kernel
theorem dX5_dropOldest_6 : decode cX5_dropOldest 6 = .ok (.getfield 21, 3) := by decide +kernel
theorem dX5_dropOldest_9 : decode cX5_dropOldest 9 = .ok (.iload_n 1, 1) := by decide +kernel
theorem dX5_dropOldest_10 : decode cX5_dropOldest 10 = .ok (.isub, 1) := by decide +kernel
theorem dX5_dropOldest_11 : decode cX5_dropOldest 11 = .ok (.putfield 21, 3) := by decide +kernel
theorem dX5_dropOldest_14 : decode cX5_dropOldest 14 = .ok (.aload_n 0, 1) := by decide +kernel
theorem dX5_dropOldest_15 : decode cX5_dropOldest 15 = .ok (.getfield 9, 3) := by decide +kernel
theorem dX5_dropOldest_18 : decode cX5_dropOldest 18 = .ok (.iload_n 1, 1) := by decide +kernel
theorem dX5_dropOldest_19 : decode cX5_dropOldest 19 = .ok (.aload_n 0, 1) := by decide +kernel
theorem dX5_dropOldest_20 : decode cX5_dropOldest 20 = .ok (.getfield 9, 3) := by decide +kernel
theorem dX5_dropOldest_23 : decode cX5_dropOldest 23 = .ok (.iconst 0, 1) := by decide +kernel
theorem dX5_dropOldest_24 : decode cX5_dropOldest 24 = .ok (.aload_n 0, 1) := by decide +kernel
theorem dX5_dropOldest_25 : decode cX5_dropOldest 25 = .ok (.getfield 21, 3) := by decide +kernel
theorem dX5_dropOldest_28 : decode cX5_dropOldest 28 = .ok (.invokestatic 25, 3) := by decide +kernel
theorem dX5_dropOldest_31 : decode cX5_dropOldest 31 = .ok (.aload_n 0, 1) := by decide +kernel
theorem dX5_dropOldest_32 : decode cX5_dropOldest 32 = .ok (.getfield 15, 3) := by decide +kernel
theorem dX5_dropOldest_35 : decode cX5_dropOldest 35 = .ok (.iload_n 1, 1) := by decide +kernel
theorem dX5_dropOldest_36 : decode cX5_dropOldest 36 = .ok (.aload_n 0, 1) := by decide +kernel
theorem dX5_dropOldest_37 : decode cX5_dropOldest 37 = .ok (.getfield 15, 3) := by decide +kernel
theorem dX5_dropOldest_40 : decode cX5_dropOldest 40 = .ok (.iconst 0, 1) := by decide +kernel
theorem dX5_dropOldest_41 : decode cX5_dropOldest 41 = .ok (.aload_n 0, 1) := by decide +kernel
theorem dX5_dropOldest_42 : decode cX5_dropOldest 42 = .ok (.getfield 21, 3) := by decide +kernel
theorem dX5_dropOldest_45 : decode cX5_dropOldest 45 = .ok (.invokestatic 25, 3) := by decide +kernel
theorem dX5_dropOldest_48 : decode cX5_dropOldest 48 = .ok (.aload_n 0, 1) := by decide +kernel
theorem dX5_dropOldest_49 : decode cX5_dropOldest 49 = .ok (.getfield 18, 3) := by decide +kernel
theorem dX5_dropOldest_52 : decode cX5_dropOldest 52 = .ok (.iload_n 1, 1) := by decide +kernel
theorem dX5_dropOldest_53 : decode cX5_dropOldest 53 = .ok (.aload_n 0, 1) := by decide +kernel
theorem dX5_dropOldest_54 : decode cX5_dropOldest 54 = .ok (.getfield 18, 3) := by decide +kernel
theorem dX5_dropOldest_57 : decode cX5_dropOldest 57 = .ok (.iconst 0, 1) := by decide +kernel
theorem dX5_dropOldest_58 : decode cX5_dropOldest 58 = .ok (.aload_n 0, 1) := by decide +kernel
theorem dX5_dropOldest_59 : decode cX5_dropOldest 59 = .ok (.getfield 21, 3) := by decide +kernel
theorem dX5_dropOldest_62 : decode cX5_dropOldest 62 = .ok (.invokestatic 25, 3) := by decide +kernel
theorem dX5_dropOldest_65 : decode cX5_dropOldest 65 = .ok (.return_, 1) := by decide +kernel
theorem dX5_powerLess_0 : decode cX5_powerLess 0 = .ok (.iload_n 1, 1) := by decide +kernel
theorem dX5_powerLess_1 : decode cX5_powerLess 1 = .ok (.istore_n 3, 1) := by decide +kernel
theorem dX5_powerLess_2 : decode cX5_powerLess 2 = .ok (.iconst 0, 1) := by decide +kernel
theorem dX5_powerLess_3 : decode cX5_powerLess 3 = .ok (.istore 4, 2) := by decide +kernel
theorem dX5_powerLess_5 : decode cX5_powerLess 5 = .ok (.iconst 0, 1) := by decide +kernel
theorem dX5_powerLess_6 : decode cX5_powerLess 6 = .ok (.istore 5, 2) := by decide +kernel
theorem dX5_powerLess_8 : decode cX5_powerLess 8 = .ok (.iload 5, 2) := by decide +kernel
theorem dX5_powerLess_10 : decode cX5_powerLess 10 = .ok (.aload_n 0, 1) := by decide +kernel
theorem dX5_powerLess_11 : decode cX5_powerLess 11 = .ok (.getfield 21, 3) := by decide +kernel
theorem dX5_powerLess_14 : decode cX5_powerLess 14 = .ok (.if_icmp .ge 52, 3) := by decide +kernel
theorem dX5_powerLess_17 : decode cX5_powerLess 17 = .ok (.iload_n 3, 1) := by decide +kernel
theorem dX5_powerLess_18 : decode cX5_powerLess 18 = .ok (.aload_n 0, 1) := by decide +kernel
theorem dX5_powerLess_19 : decode cX5_powerLess 19 = .ok (.getfield 15, 3) := by decide +kernel
theorem dX5_powerLess_22 : decode cX5_powerLess 22 = .ok (.iload 5, 2) := by decide +kernel
theorem dX5_powerLess_24 : decode cX5_powerLess 24 = .ok (.iaload, 1) := by decide +kernel
theorem dX5_powerLess_25 : decode cX5_powerLess 25 = .ok (.invokestatic 39, 3) := by decide +kernel
theorem dX5_powerLess_28 : decode cX5_powerLess 28 = .ok (.istore 6, 2) := by decide +kernel
theorem dX5_powerLess_30 : decode cX5_powerLess 30 = .ok (.iload_n 3, 1) := by decide +kernel
theorem dX5_powerLess_31 : decode cX5_powerLess 31 = .ok (.iload 6, 2) := by decide +kernel
theorem dX5_powerLess_33 : decode cX5_powerLess 33 = .ok (.isub, 1) := by decide +kernel
theorem dX5_powerLess_34 : decode cX5_powerLess 34 = .ok (.istore_n 3, 1) := by decide +kernel
theorem dX5_powerLess_35 : decode cX5_powerLess 35 = .ok (.iload 4, 2) := by decide +kernel
theorem dX5_powerLess_37 : decode cX5_powerLess 37 = .ok (.aload_n 0, 1) := by decide +kernel
theorem dX5_powerLess_38 : decode cX5_powerLess 38 = .ok (.getfield 15, 3) := by decide +kernel
theorem dX5_powerLess_41 : decode cX5_powerLess 41 = .ok (.iload 5, 2) := by decide +kernel
theorem dX5_powerLess_43 : decode cX5_powerLess 43 = .ok (.iaload, 1) := by decide +kernel
theorem dX5_powerLess_44 : decode cX5_powerLess 44 = .ok (.iload 6, 2) := by decide +kernel
theorem dX5_powerLess_46 : decode cX5_powerLess 46 = .ok (.isub, 1) := by decide +kernel
theorem dX5_powerLess_47 : decode cX5_powerLess 47 = .ok (.aload_n 2, 1) := by decide +kernel
theorem dX5_powerLess_48 : decode cX5_powerLess 48 = .ok (.aload_n 0, 1) := by decide +kernel
theorem dX5_powerLess_49 : decode cX5_powerLess 49 = .ok (.getfield 9, 3) := by decide +kernel
theorem dX5_powerLess_52 : decode cX5_powerLess 52 = .ok (.iload 5, 2) := by decide +kernel
theorem dX5_powerLess_54 : decode cX5_powerLess 54 = .ok (.iaload, 1) := by decide +kernel
theorem dX5_powerLess_55 : decode cX5_powerLess 55 = .ok (.iaload, 1) := by decide +kernel
theorem dX5_powerLess_56 : decode cX5_powerLess 56 = .ok (.imul, 1) := by decide +kernel
theorem dX5_powerLess_57 : decode cX5_powerLess 57 = .ok (.iadd, 1) := by decide +kernel
theorem dX5_powerLess_58 : decode cX5_powerLess 58 = .ok (.istore 4, 2) := by decide +kernel
theorem dX5_powerLess_60 : decode cX5_powerLess 60 = .ok (.iinc 5 1, 3) := by decide +kernel
theorem dX5_powerLess_63 : decode cX5_powerLess 63 = .ok (.goto (-55), 3) := by decide +kernel
theorem dX5_powerLess_66 : decode cX5_powerLess 66 = .ok (.iload 4, 2) := by decide +kernel
theorem dX5_powerLess_68 : decode cX5_powerLess 68 = .ok (.ireturn, 1) := by decide +kernel
theorem dX5_length_0 : decode cX5_length 0 = .ok (.iconst 0, 1) := by decide +kernel
theorem dX5_length_1 : decode cX5_length 1 = .ok (.istore_n 1, 1) := by decide +kernel
theorem dX5_length_2 : decode cX5_length 2 = .ok (.iconst 0, 1) := by decide +kernel
theorem dX5_length_3 : decode cX5_length 3 = .ok (.istore_n 2, 1) := by decide +kernel
theorem dX5_length_4 : decode cX5_length 4 = .ok (.iload_n 2, 1) := by decide +kernel
theorem dX5_length_5 : decode cX5_length 5 = .ok (.aload_n 0, 1) := by decide +kernel
theorem dX5_length_6 : decode cX5_length 6 = .ok (.getfield 21, 3) := by decide +kernel
theorem dX5_length_9 : decode cX5_length 9 = .ok (.if_icmp .ge 18, 3) := by decide +kernel
theorem dX5_length_12 : decode cX5_length 12 = .ok (.iload_n 1, 1) := by decide +kernel
theorem dX5_length_13 : decode cX5_length 13 = .ok (.aload_n 0, 1) := by decide +kernel
theorem dX5_length_14 : decode cX5_length 14 = .ok (.getfield 15, 3) := by decide +kernel
theorem dX5_length_17 : decode cX5_length 17 = .ok (.iload_n 2, 1) := by decide +kernel
theorem dX5_length_18 : decode cX5_length 18 = .ok (.iaload, 1) := by decide +kernel
theorem dX5_length_19 : decode cX5_length 19 = .ok (.iadd, 1) := by decide +kernel
theorem dX5_length_20 : decode cX5_length 20 = .ok (.istore_n 1, 1) := by decide +kernel
theorem dX5_length_21 : decode cX5_length 21 = .ok (.iinc 2 1, 3) := by decide +kernel
theorem dX5_length_24 : decode cX5_length 24 = .ok (.goto (-20), 3) := by decide +kernel
theorem dX5_length_27 : decode cX5_length 27 = .ok (.iload_n 1, 1) := by decide +kernel
theorem dX5_length_28 : decode cX5_length 28 = .ok (.ireturn, 1) := by decide +kernel
theorem dX5_lengthOf_0 : decode cX5_lengthOf 0 = .ok (.iconst 0, 1) := by decide +kernel
theorem dX5_lengthOf_1 : decode cX5_lengthOf 1 = .ok (.istore_n 2, 1) := by decide +kernel
theorem dX5_lengthOf_2 : decode cX5_lengthOf 2 = .ok (.iconst 0, 1) := by decide +kernel
theorem dX5_lengthOf_3 : decode cX5_lengthOf 3 = .ok (.istore_n 3, 1) := by decide +kernel
theorem dX5_lengthOf_4 : decode cX5_lengthOf 4 = .ok (.iload_n 3, 1) := by decide +kernel
theorem dX5_lengthOf_5 : decode cX5_lengthOf 5 = .ok (.aload_n 0, 1) := by decide +kernel
theorem dX5_lengthOf_6 : decode cX5_lengthOf 6 = .ok (.getfield 21, 3) := by decide +kernel
theorem dX5_lengthOf_9 : decode cX5_lengthOf 9 = .ok (.if_icmp .ge 28, 3) := by decide +kernel
theorem dX5_lengthOf_12 : decode cX5_lengthOf 12 = .ok (.aload_n 0, 1) := by decide +kernel
theorem dX5_lengthOf_13 : decode cX5_lengthOf 13 = .ok (.getfield 9, 3) := by decide +kernel
theorem dX5_lengthOf_16 : decode cX5_lengthOf 16 = .ok (.iload_n 3, 1) := by decide +kernel
theorem dX5_lengthOf_17 : decode cX5_lengthOf 17 = .ok (.iaload, 1) := by decide +kernel
theorem dX5_lengthOf_18 : decode cX5_lengthOf 18 = .ok (.iload_n 1, 1) := by decide +kernel
theorem dX5_lengthOf_19 : decode cX5_lengthOf 19 = .ok (.if_icmp .ne 12, 3) := by decide +kernel
theorem dX5_lengthOf_22 : decode cX5_lengthOf 22 = .ok (.iload_n 2, 1) := by decide +kernel
theorem dX5_lengthOf_23 : decode cX5_lengthOf 23 = .ok (.aload_n 0, 1) := by decide +kernel
theorem dX5_lengthOf_24 : decode cX5_lengthOf 24 = .ok (.getfield 15, 3) := by decide +kernel
theorem dX5_lengthOf_27 : decode cX5_lengthOf 27 = .ok (.iload_n 3, 1) := by decide +kernel
theorem dX5_lengthOf_28 : decode cX5_lengthOf 28 = .ok (.iaload, 1) := by decide +kernel
theorem dX5_lengthOf_29 : decode cX5_lengthOf 29 = .ok (.iadd, 1) := by decide +kernel
theorem dX5_lengthOf_30 : decode cX5_lengthOf 30 = .ok (.istore_n 2, 1) := by decide +kernel
theorem dX5_lengthOf_31 : decode cX5_lengthOf 31 = .ok (.iinc 3 1, 3) := by decide +kernel
theorem dX5_lengthOf_34 : decode cX5_lengthOf 34 = .ok (.goto (-30), 3) := by decide +kernel
theorem dX5_lengthOf_37 : decode cX5_lengthOf 37 = .ok (.iload_n 2, 1) := by decide +kernel
theorem dX5_lengthOf_38 : decode cX5_lengthOf 38 = .ok (.ireturn, 1) := by decide +kernel
theorem dX6_init_0 : decode cX6_init 0 = .ok (.aload_n 0, 1) := by decide +kernel
theorem dX6_init_1 : decode cX6_init 1 = .ok (.invokespecial 1, 3) := by decide +kernel
theorem dX6_init_4 : decode cX6_init 4 = .ok (.aload_n 0, 1) := by decide +kernel
theorem dX6_init_5 : decode cX6_init 5 = .ok (.new 7, 3) := by decide +kernel
theorem dX6_init_8 : decode cX6_init 8 = .ok (.dup, 1) := by decide +kernel
theorem dX6_init_9 : decode cX6_init 9 = .ok (.invokespecial 9, 3) := by decide +kernel
theorem dX6_init_12 : decode cX6_init 12 = .ok (.putfield 10, 3) := by decide +kernel
theorem dX6_init_15 : decode cX6_init 15 = .ok (.aload_n 0, 1) := by decide +kernel
theorem dX6_init_16 : decode cX6_init 16 = .ok (.new 16, 3) := by decide +kernel
theorem dX6_init_19 : decode cX6_init 19 = .ok (.dup, 1) := by decide +kernel
theorem dX6_init_20 : decode cX6_init 20 = .ok (.invokespecial 18, 3) := by decide +kernel
theorem dX6_init_23 : decode cX6_init 23 = .ok (.putfield 19, 3) := by decide +kernel
theorem dX6_init_26 : decode cX6_init 26 = .ok (.aload_n 0, 1) := by decide +kernel
theorem dX6_init_27 : decode cX6_init 27 = .ok (.new 16, 3) := by decide +kernel
theorem dX6_init_30 : decode cX6_init 30 = .ok (.dup, 1) := by decide +kernel
theorem dX6_init_31 : decode cX6_init 31 = .ok (.invokespecial 18, 3) := by decide +kernel
theorem dX6_init_34 : decode cX6_init 34 = .ok (.putfield 23, 3) := by decide +kernel
theorem dX6_init_37 : decode cX6_init 37 = .ok (.return_, 1) := by decide +kernel
theorem dX6_become_0 : decode cX6_become 0 = .ok (.aload_n 0, 1) := by decide +kernel
theorem dX6_become_1 : decode cX6_become 1 = .ok (.getfield 10, 3) := by decide +kernel
theorem dX6_become_4 : decode cX6_become 4 = .ok (.aload_n 1, 1) := by decide +kernel
theorem dX6_become_5 : decode cX6_become 5 = .ok (.getfield 10, 3) := by decide +kernel
theorem dX6_become_8 : decode cX6_become 8 = .ok (.invokevirtual 26, 3) := by decide +kernel
theorem dX6_become_11 : decode cX6_become 11 = .ok (.aload_n 0, 1) := by decide +kernel
theorem dX6_become_12 : decode cX6_become 12 = .ok (.getfield 19, 3) := by decide +kernel
theorem dX6_become_15 : decode cX6_become 15 = .ok (.aload_n 1, 1) := by decide +kernel
theorem dX6_become_16 : decode cX6_become 16 = .ok (.getfield 19, 3) := by decide +kernel
theorem dX6_become_19 : decode cX6_become 19 = .ok (.invokevirtual 30, 3) := by decide +kernel
theorem dX6_become_22 : decode cX6_become 22 = .ok (.aload_n 0, 1) := by decide +kernel
theorem dX6_become_23 : decode cX6_become 23 = .ok (.getfield 23, 3) := by decide +kernel
theorem dX6_become_26 : decode cX6_become 26 = .ok (.aload_n 1, 1) := by decide +kernel
theorem dX6_become_27 : decode cX6_become 27 = .ok (.getfield 23, 3) := by decide +kernel
theorem dX6_become_30 : decode cX6_become 30 = .ok (.invokevirtual 30, 3) := by decide +kernel
theorem dX6_become_33 : decode cX6_become 33 = .ok (.return_, 1) := by decide +kernel
theorem dX7_init_0 : decode cX7_init 0 = .ok (.aload_n 0, 1) := by decide +kernel
theorem dX7_init_1 : decode cX7_init 1 = .ok (.invokespecial 3, 3) := by decide +kernel
theorem dX7_init_4 : decode cX7_init 4 = .ok (.aload_n 0, 1) := by decide +kernel
theorem dX7_init_5 : decode cX7_init 5 = .ok (.bipush 64, 2) := by decide +kernel
theorem dX7_init_7 : decode cX7_init 7 = .ok (.newarray .int, 2) := by decide +kernel
theorem dX7_init_9 : decode cX7_init 9 = .ok (.putfield 11, 3) := by decide +kernel
theorem dX7_init_12 : decode cX7_init 12 = .ok (.aload_n 0, 1) := by decide +kernel
theorem dX7_init_13 : decode cX7_init 13 = .ok (.sipush 241, 3) := by decide +kernel
theorem dX7_init_16 : decode cX7_init 16 = .ok (.newarray .int, 2) := by decide +kernel
theorem dX7_init_18 : decode cX7_init 18 = .ok (.putfield 15, 3) := by decide +kernel
theorem dX7_init_21 : decode cX7_init 21 = .ok (.aload_n 0, 1) := by decide +kernel
theorem dX7_init_22 : decode cX7_init 22 = .ok (.bipush 64, 2) := by decide +kernel
theorem dX7_init_24 : decode cX7_init 24 = .ok (.newarray .int, 2) := by decide +kernel
theorem dX7_init_26 : decode cX7_init 26 = .ok (.putfield 18, 3) := by decide +kernel
theorem dX7_init_29 : decode cX7_init 29 = .ok (.return_, 1) := by decide +kernel
theorem dX7_find_0 : decode cX7_find 0 = .ok (.iconst 1, 1) := by decide +kernel
theorem dX7_find_1 : decode cX7_find 1 = .ok (.istore_n 3, 1) := by decide +kernel
theorem dX7_find_2 : decode cX7_find 2 = .ok (.iload_n 3, 1) := by decide +kernel
theorem dX7_find_3 : decode cX7_find 3 = .ok (.bipush 64, 2) := by decide +kernel
theorem dX7_find_5 : decode cX7_find 5 = .ok (.if_icmp .ge 36, 3) := by decide +kernel
theorem dX7_find_8 : decode cX7_find 8 = .ok (.iload_n 3, 1) := by decide +kernel
theorem dX7_find_9 : decode cX7_find 9 = .ok (.invokestatic 21, 3) := by decide +kernel
theorem dX7_find_12 : decode cX7_find 12 = .ok (.istore 4, 2) := by decide +kernel
theorem dX7_find_14 : decode cX7_find 14 = .ok (.aload_n 0, 1) := by decide +kernel
theorem dX7_find_15 : decode cX7_find 15 = .ok (.getfield 11, 3) := by decide +kernel
theorem dX7_find_18 : decode cX7_find 18 = .ok (.iload_n 3, 1) := by decide +kernel
theorem dX7_find_19 : decode cX7_find 19 = .ok (.aload_n 0, 1) := by decide +kernel
theorem dX7_find_20 : decode cX7_find 20 = .ok (.getfield 11, 3) := by decide +kernel
theorem dX7_find_23 : decode cX7_find 23 = .ok (.iload_n 3, 1) := by decide +kernel
theorem dX7_find_24 : decode cX7_find 24 = .ok (.iload_n 3, 1) := by decide +kernel
theorem dX7_find_25 : decode cX7_find 25 = .ok (.iconst 1, 1) := by decide +kernel
theorem dX7_find_26 : decode cX7_find 26 = .ok (.isub, 1) := by decide +kernel
theorem dX7_find_27 : decode cX7_find 27 = .ok (.iand, 1) := by decide +kernel
theorem dX7_find_28 : decode cX7_find 28 = .ok (.iaload, 1) := by decide +kernel
theorem dX7_find_29 : decode cX7_find 29 = .ok (.aload_n 1, 1) := by decide +kernel
theorem dX7_find_30 : decode cX7_find 30 = .ok (.iload 4, 2) := by decide +kernel
theorem dX7_find_32 : decode cX7_find 32 = .ok (.iaload, 1) := by decide +kernel
theorem dX7_find_33 : decode cX7_find 33 = .ok (.iadd, 1) := by decide +kernel
theorem dX7_find_34 : decode cX7_find 34 = .ok (.iastore, 1) := by decide +kernel
theorem dX7_find_35 : decode cX7_find 35 = .ok (.iinc 3 1, 3) := by decide +kernel
theorem dX7_find_38 : decode cX7_find 38 = .ok (.goto (-36), 3) := by decide +kernel
theorem dX7_find_41 : decode cX7_find 41 = .ok (.aload_n 0, 1) := by decide +kernel
theorem dX7_find_42 : decode cX7_find 42 = .ok (.iconst 0, 1) := by decide +kernel
theorem dX7_find_43 : decode cX7_find 43 = .ok (.putfield 27, 3) := by decide +kernel
theorem dX7_find_46 : decode cX7_find 46 = .ok (.iconst 0, 1) := by decide +kernel
theorem dX7_find_47 : decode cX7_find 47 = .ok (.istore_n 3, 1) := by decide +kernel
theorem dX7_find_48 : decode cX7_find 48 = .ok (.iload_n 3, 1) := by decide +kernel
theorem dX7_find_49 : decode cX7_find 49 = .ok (.bipush 64, 2) := by decide +kernel
theorem dX7_find_51 : decode cX7_find 51 = .ok (.if_icmp .ge 38, 3) := by decide +kernel
theorem dX7_find_54 : decode cX7_find 54 = .ok (.aload_n 0, 1) := by decide +kernel
theorem dX7_find_55 : decode cX7_find 55 = .ok (.iload_n 3, 1) := by decide +kernel
theorem dX7_find_56 : decode cX7_find 56 = .ok (.aload_n 2, 1) := by decide +kernel
theorem dX7_find_57 : decode cX7_find 57 = .ok (.invokevirtual 31, 3) := by decide +kernel
theorem dX7_find_60 : decode cX7_find 60 = .ok (.ifCond .eq 23, 3) := by decide +kernel
theorem dX7_find_63 : decode cX7_find 63 = .ok (.aload_n 0, 1) := by decide +kernel
theorem dX7_find_64 : decode cX7_find 64 = .ok (.getfield 18, 3) := by decide +kernel
theorem dX7_find_67 : decode cX7_find 67 = .ok (.aload_n 0, 1) := by decide +kernel
theorem dX7_find_68 : decode cX7_find 68 = .ok (.getfield 27, 3) := by decide +kernel
theorem dX7_find_71 : decode cX7_find 71 = .ok (.iload_n 3, 1) := by decide +kernel
theorem dX7_find_72 : decode cX7_find 72 = .ok (.iastore, 1) := by decide +kernel
theorem dX7_find_73 : decode cX7_find 73 = .ok (.aload_n 0, 1) := by decide +kernel
theorem dX7_find_74 : decode cX7_find 74 = .ok (.dup, 1) := by decide +kernel
theorem dX7_find_75 : decode cX7_find 75 = .ok (.getfield 27, 3) := by decide +kernel
theorem dX7_find_78 : decode cX7_find 78 = .ok (.iconst 1, 1) := by decide +kernel
theorem dX7_find_79 : decode cX7_find 79 = .ok (.iadd, 1) := by decide +kernel
theorem dX7_find_80 : decode cX7_find 80 = .ok (.putfield 27, 3) := by decide +kernel
theorem dX7_find_83 : decode cX7_find 83 = .ok (.iinc 3 1, 3) := by decide +kernel
theorem dX7_find_86 : decode cX7_find 86 = .ok (.goto (-38), 3) := by decide +kernel
theorem dX7_find_89 : decode cX7_find 89 = .ok (.return_, 1) := by decide +kernel
theorem dX7_fits_0 : decode cX7_fits 0 = .ok (.iconst 0, 1) := by decide +kernel
theorem dX7_fits_1 : decode cX7_fits 1 = .ok (.istore_n 3, 1) := by decide +kernel
theorem dX7_fits_2 : decode cX7_fits 2 = .ok (.iload_n 3, 1) := by decide +kernel
theorem dX7_fits_3 : decode cX7_fits 3 = .ok (.aload_n 2, 1) := by decide +kernel
theorem dX7_fits_4 : decode cX7_fits 4 = .ok (.getfield 35, 3) := by decide +kernel
theorem dX7_fits_7 : decode cX7_fits 7 = .ok (.if_icmp .ge 35, 3) := by decide +kernel
theorem dX7_fits_10 : decode cX7_fits 10 = .ok (.aload_n 0, 1) := by decide +kernel
theorem dX7_fits_11 : decode cX7_fits 11 = .ok (.getfield 11, 3) := by decide +kernel
theorem dX7_fits_14 : decode cX7_fits 14 = .ok (.aload_n 2, 1) := by decide +kernel
theorem dX7_fits_15 : decode cX7_fits 15 = .ok (.getfield 38, 3) := by decide +kernel
theorem dX7_fits_18 : decode cX7_fits 18 = .ok (.iload_n 3, 1) := by decide +kernel
theorem dX7_fits_19 : decode cX7_fits 19 = .ok (.iaload, 1) := by decide +kernel
theorem dX7_fits_20 : decode cX7_fits 20 = .ok (.iload_n 1, 1) := by decide +kernel
theorem dX7_fits_21 : decode cX7_fits 21 = .ok (.iconst (-1), 1) := by decide +kernel
theorem dX7_fits_22 : decode cX7_fits 22 = .ok (.ixor, 1) := by decide +kernel
theorem dX7_fits_23 : decode cX7_fits 23 = .ok (.iand, 1) := by decide +kernel
theorem dX7_fits_24 : decode cX7_fits 24 = .ok (.iaload, 1) := by decide +kernel
theorem dX7_fits_25 : decode cX7_fits 25 = .ok (.aload_n 2, 1) := by decide +kernel
theorem dX7_fits_26 : decode cX7_fits 26 = .ok (.getfield 41, 3) := by decide +kernel
theorem dX7_fits_29 : decode cX7_fits 29 = .ok (.iload_n 3, 1) := by decide +kernel
theorem dX7_fits_30 : decode cX7_fits 30 = .ok (.iaload, 1) := by decide +kernel
theorem dX7_fits_31 : decode cX7_fits 31 = .ok (.if_icmp .eq 5, 3) := by decide +kernel
theorem dX7_fits_34 : decode cX7_fits 34 = .ok (.iconst 0, 1) := by decide +kernel
theorem dX7_fits_35 : decode cX7_fits 35 = .ok (.ireturn, 1) := by decide +kernel
theorem dX7_fits_36 : decode cX7_fits 36 = .ok (.iinc 3 1, 3) := by decide +kernel
theorem dX7_fits_39 : decode cX7_fits 39 = .ok (.goto (-37), 3) := by decide +kernel
theorem dX7_fits_42 : decode cX7_fits 42 = .ok (.iconst 1, 1) := by decide +kernel
theorem dX7_fits_43 : decode cX7_fits 43 = .ok (.ireturn, 1) := by decide +kernel
theorem dX7_inEach_0 : decode cX7_inEach 0 = .ok (.bipush 63, 2) := by decide +kernel
theorem dX7_inEach_2 : decode cX7_inEach 2 = .ok (.istore_n 1, 1) := by decide +kernel
theorem dX7_inEach_3 : decode cX7_inEach 3 = .ok (.iconst 0, 1) := by decide +kernel
theorem dX7_inEach_4 : decode cX7_inEach 4 = .ok (.istore_n 2, 1) := by decide +kernel
theorem dX7_inEach_5 : decode cX7_inEach 5 = .ok (.iload_n 2, 1) := by decide +kernel
theorem dX7_inEach_6 : decode cX7_inEach 6 = .ok (.aload_n 0, 1) := by decide +kernel
theorem dX7_inEach_7 : decode cX7_inEach 7 = .ok (.getfield 27, 3) := by decide +kernel
theorem dX7_inEach_10 : decode cX7_inEach 10 = .ok (.if_icmp .ge 18, 3) := by decide +kernel
theorem dX7_inEach_13 : decode cX7_inEach 13 = .ok (.iload_n 1, 1) := by decide +kernel
theorem dX7_inEach_14 : decode cX7_inEach 14 = .ok (.aload_n 0, 1) := by decide +kernel
theorem dX7_inEach_15 : decode cX7_inEach 15 = .ok (.getfield 18, 3) := by decide +kernel
theorem dX7_inEach_18 : decode cX7_inEach 18 = .ok (.iload_n 2, 1) := by decide +kernel
theorem dX7_inEach_19 : decode cX7_inEach 19 = .ok (.iaload, 1) := by decide +kernel
theorem dX7_inEach_20 : decode cX7_inEach 20 = .ok (.iand, 1) := by decide +kernel
theorem dX7_inEach_21 : decode cX7_inEach 21 = .ok (.istore_n 1, 1) := by decide +kernel
theorem dX7_inEach_22 : decode cX7_inEach 22 = .ok (.iinc 2 1, 3) := by decide +kernel
theorem dX7_inEach_25 : decode cX7_inEach 25 = .ok (.goto (-20), 3) := by decide +kernel
theorem dX7_inEach_28 : decode cX7_inEach 28 = .ok (.iload_n 1, 1) := by decide +kernel
theorem dX7_inEach_29 : decode cX7_inEach 29 = .ok (.ireturn, 1) := by decide +kernel
theorem dX7_inNone_0 : decode cX7_inNone 0 = .ok (.iconst 0, 1) := by decide +kernel
theorem dX7_inNone_1 : decode cX7_inNone 1 = .ok (.istore_n 1, 1) := by decide +kernel
theorem dX7_inNone_2 : decode cX7_inNone 2 = .ok (.iconst 0, 1) := by decide +kernel
theorem dX7_inNone_3 : decode cX7_inNone 3 = .ok (.istore_n 2, 1) := by decide +kernel
theorem dX7_inNone_4 : decode cX7_inNone 4 = .ok (.iload_n 2, 1) := by decide +kernel
theorem dX7_inNone_5 : decode cX7_inNone 5 = .ok (.aload_n 0, 1) := by decide +kernel
theorem dX7_inNone_6 : decode cX7_inNone 6 = .ok (.getfield 27, 3) := by decide +kernel
theorem dX7_inNone_9 : decode cX7_inNone 9 = .ok (.if_icmp .ge 18, 3) := by decide +kernel
theorem dX7_inNone_12 : decode cX7_inNone 12 = .ok (.iload_n 1, 1) := by decide +kernel
theorem dX7_inNone_13 : decode cX7_inNone 13 = .ok (.aload_n 0, 1) := by decide +kernel
theorem dX7_inNone_14 : decode cX7_inNone 14 = .ok (.getfield 18, 3) := by decide +kernel
theorem dX7_inNone_17 : decode cX7_inNone 17 = .ok (.iload_n 2, 1) := by decide +kernel
theorem dX7_inNone_18 : decode cX7_inNone 18 = .ok (.iaload, 1) := by decide +kernel
theorem dX7_inNone_19 : decode cX7_inNone 19 = .ok (.ior, 1) := by decide +kernel
theorem dX7_inNone_20 : decode cX7_inNone 20 = .ok (.istore_n 1, 1) := by decide +kernel
theorem dX7_inNone_21 : decode cX7_inNone 21 = .ok (.iinc 2 1, 3) := by decide +kernel
theorem dX7_inNone_24 : decode cX7_inNone 24 = .ok (.goto (-20), 3) := by decide +kernel
theorem dX7_inNone_27 : decode cX7_inNone 27 = .ok (.bipush 63, 2) := by decide +kernel
theorem dX7_inNone_29 : decode cX7_inNone 29 = .ok (.iload_n 1, 1) := by decide +kernel
theorem dX7_inNone_30 : decode cX7_inNone 30 = .ok (.iconst (-1), 1) := by decide +kernel
theorem dX7_inNone_31 : decode cX7_inNone 31 = .ok (.ixor, 1) := by decide +kernel
theorem dX7_inNone_32 : decode cX7_inNone 32 = .ok (.iand, 1) := by decide +kernel
theorem dX7_inNone_33 : decode cX7_inNone 33 = .ok (.ireturn, 1) := by decide +kernel
theorem dX7_bestToAsk_0 : decode cX7_bestToAsk 0 = .ok (.iconst 1, 1) := by decide +kernel
theorem dX7_bestToAsk_1 : decode cX7_bestToAsk 1 = .ok (.istore_n 1, 1) := by decide +kernel
theorem dX7_bestToAsk_2 : decode cX7_bestToAsk 2 = .ok (.bipush 65, 2) := by decide +kernel
theorem dX7_bestToAsk_4 : decode cX7_bestToAsk 4 = .ok (.istore_n 2, 1) := by decide +kernel
theorem dX7_bestToAsk_5 : decode cX7_bestToAsk 5 = .ok (.iconst 1, 1) := by decide +kernel
theorem dX7_bestToAsk_6 : decode cX7_bestToAsk 6 = .ok (.istore_n 3, 1) := by decide +kernel
theorem dX7_bestToAsk_7 : decode cX7_bestToAsk 7 = .ok (.iload_n 3, 1) := by decide +kernel
theorem dX7_bestToAsk_8 : decode cX7_bestToAsk 8 = .ok (.bipush 64, 2) := by decide +kernel
theorem dX7_bestToAsk_10 : decode cX7_bestToAsk 10 = .ok (.if_icmp .ge 27, 3) := by decide +kernel
theorem dX7_bestToAsk_13 : decode cX7_bestToAsk 13 = .ok (.aload_n 0, 1) := by decide +kernel
theorem dX7_bestToAsk_14 : decode cX7_bestToAsk 14 = .ok (.iload_n 3, 1) := by decide +kernel
theorem dX7_bestToAsk_15 : decode cX7_bestToAsk 15 = .ok (.invokevirtual 44, 3) := by decide +kernel
theorem dX7_bestToAsk_18 : decode cX7_bestToAsk 18 = .ok (.istore 4, 2) := by decide +kernel
theorem dX7_bestToAsk_20 : decode cX7_bestToAsk 20 = .ok (.iload 4, 2) := by decide +kernel
theorem dX7_bestToAsk_22 : decode cX7_bestToAsk 22 = .ok (.iload_n 2, 1) := by decide +kernel
theorem dX7_bestToAsk_23 : decode cX7_bestToAsk 23 = .ok (.if_icmp .ge 8, 3) := by decide +kernel
theorem dX7_bestToAsk_26 : decode cX7_bestToAsk 26 = .ok (.iload 4, 2) := by decide +kernel
theorem dX7_bestToAsk_28 : decode cX7_bestToAsk 28 = .ok (.istore_n 2, 1) := by decide +kernel
theorem dX7_bestToAsk_29 : decode cX7_bestToAsk 29 = .ok (.iload_n 3, 1) := by decide +kernel
theorem dX7_bestToAsk_30 : decode cX7_bestToAsk 30 = .ok (.istore_n 1, 1) := by decide +kernel
theorem dX7_bestToAsk_31 : decode cX7_bestToAsk 31 = .ok (.iinc 3 1, 3) := by decide +kernel
theorem dX7_bestToAsk_34 : decode cX7_bestToAsk 34 = .ok (.goto (-27), 3) := by decide +kernel
theorem dX7_bestToAsk_37 : decode cX7_bestToAsk 37 = .ok (.iload_n 1, 1) := by decide +kernel
theorem dX7_bestToAsk_38 : decode cX7_bestToAsk 38 = .ok (.ireturn, 1) := by decide +kernel
theorem dX7_mostAlike_0 : decode cX7_mostAlike 0 = .ok (.iconst 0, 1) := by decide +kernel
theorem dX7_mostAlike_1 : decode cX7_mostAlike 1 = .ok (.istore_n 2, 1) := by decide +kernel
theorem dX7_mostAlike_2 : decode cX7_mostAlike 2 = .ok (.iconst 0, 1) := by decide +kernel
theorem dX7_mostAlike_3 : decode cX7_mostAlike 3 = .ok (.istore_n 3, 1) := by decide +kernel
theorem dX7_mostAlike_4 : decode cX7_mostAlike 4 = .ok (.iload_n 3, 1) := by decide +kernel
theorem dX7_mostAlike_5 : decode cX7_mostAlike 5 = .ok (.aload_n 0, 1) := by decide +kernel
theorem dX7_mostAlike_6 : decode cX7_mostAlike 6 = .ok (.getfield 27, 3) := by decide +kernel
theorem dX7_mostAlike_9 : decode cX7_mostAlike 9 = .ok (.if_icmp .ge 49, 3) := by decide +kernel
theorem dX7_mostAlike_12 : decode cX7_mostAlike 12 = .ok (.aload_n 0, 1) := by decide +kernel
theorem dX7_mostAlike_13 : decode cX7_mostAlike 13 = .ok (.getfield 11, 3) := by decide +kernel
theorem dX7_mostAlike_16 : decode cX7_mostAlike 16 = .ok (.iload_n 1, 1) := by decide +kernel
theorem dX7_mostAlike_17 : decode cX7_mostAlike 17 = .ok (.aload_n 0, 1) := by decide +kernel
theorem dX7_mostAlike_18 : decode cX7_mostAlike 18 = .ok (.getfield 18, 3) := by decide +kernel
theorem dX7_mostAlike_21 : decode cX7_mostAlike 21 = .ok (.iload_n 3, 1) := by decide +kernel
theorem dX7_mostAlike_22 : decode cX7_mostAlike 22 = .ok (.iaload, 1) := by decide +kernel
theorem dX7_mostAlike_23 : decode cX7_mostAlike 23 = .ok (.iconst (-1), 1) := by decide +kernel
theorem dX7_mostAlike_24 : decode cX7_mostAlike 24 = .ok (.ixor, 1) := by decide +kernel
theorem dX7_mostAlike_25 : decode cX7_mostAlike 25 = .ok (.iand, 1) := by decide +kernel
theorem dX7_mostAlike_26 : decode cX7_mostAlike 26 = .ok (.iaload, 1) := by decide +kernel
theorem dX7_mostAlike_27 : decode cX7_mostAlike 27 = .ok (.istore 4, 2) := by decide +kernel
theorem dX7_mostAlike_29 : decode cX7_mostAlike 29 = .ok (.aload_n 0, 1) := by decide +kernel
theorem dX7_mostAlike_30 : decode cX7_mostAlike 30 = .ok (.getfield 15, 3) := by decide +kernel
theorem dX7_mostAlike_33 : decode cX7_mostAlike 33 = .ok (.iload 4, 2) := by decide +kernel
theorem dX7_mostAlike_35 : decode cX7_mostAlike 35 = .ok (.dup2, 1) := by decide +kernel
theorem dX7_mostAlike_36 : decode cX7_mostAlike 36 = .ok (.iaload, 1) := by decide +kernel
theorem dX7_mostAlike_37 : decode cX7_mostAlike 37 = .ok (.iconst 1, 1) := by decide +kernel
theorem dX7_mostAlike_38 : decode cX7_mostAlike 38 = .ok (.iadd, 1) := by decide +kernel
theorem dX7_mostAlike_39 : decode cX7_mostAlike 39 = .ok (.iastore, 1) := by decide +kernel
theorem dX7_mostAlike_40 : decode cX7_mostAlike 40 = .ok (.iload_n 2, 1) := by decide +kernel
theorem dX7_mostAlike_41 : decode cX7_mostAlike 41 = .ok (.aload_n 0, 1) := by decide +kernel
theorem dX7_mostAlike_42 : decode cX7_mostAlike 42 = .ok (.getfield 15, 3) := by decide +kernel
theorem dX7_mostAlike_45 : decode cX7_mostAlike 45 = .ok (.iload 4, 2) := by decide +kernel
theorem dX7_mostAlike_47 : decode cX7_mostAlike 47 = .ok (.iaload, 1) := by decide +kernel
theorem dX7_mostAlike_48 : decode cX7_mostAlike 48 = .ok (.invokestatic 47, 3) := by decide +kernel
theorem dX7_mostAlike_51 : decode cX7_mostAlike 51 = .ok (.istore_n 2, 1) := by decide +kernel
theorem dX7_mostAlike_52 : decode cX7_mostAlike 52 = .ok (.iinc 3 1, 3) := by decide +kernel
theorem dX7_mostAlike_55 : decode cX7_mostAlike 55 = .ok (.goto (-51), 3) := by decide +kernel
theorem dX7_mostAlike_58 : decode cX7_mostAlike 58 = .ok (.iconst 0, 1) := by decide +kernel
theorem dX7_mostAlike_59 : decode cX7_mostAlike 59 = .ok (.istore_n 3, 1) := by decide +kernel
theorem dX7_mostAlike_60 : decode cX7_mostAlike 60 = .ok (.iload_n 3, 1) := by decide +kernel
theorem dX7_mostAlike_61 : decode cX7_mostAlike 61 = .ok (.aload_n 0, 1) := by decide +kernel
theorem dX7_mostAlike_62 : decode cX7_mostAlike 62 = .ok (.getfield 27, 3) := by decide +kernel
theorem dX7_mostAlike_65 : decode cX7_mostAlike 65 = .ok (.if_icmp .ge 30, 3) := by decide +kernel
theorem dX7_mostAlike_68 : decode cX7_mostAlike 68 = .ok (.aload_n 0, 1) := by decide +kernel
theorem dX7_mostAlike_69 : decode cX7_mostAlike 69 = .ok (.getfield 15, 3) := by decide +kernel
theorem dX7_mostAlike_72 : decode cX7_mostAlike 72 = .ok (.aload_n 0, 1) := by decide +kernel
theorem dX7_mostAlike_73 : decode cX7_mostAlike 73 = .ok (.getfield 11, 3) := by decide +kernel
theorem dX7_mostAlike_76 : decode cX7_mostAlike 76 = .ok (.iload_n 1, 1) := by decide +kernel
theorem dX7_mostAlike_77 : decode cX7_mostAlike 77 = .ok (.aload_n 0, 1) := by decide +kernel
theorem dX7_mostAlike_78 : decode cX7_mostAlike 78 = .ok (.getfield 18, 3) := by decide +kernel
theorem dX7_mostAlike_81 : decode cX7_mostAlike 81 = .ok (.iload_n 3, 1) := by decide +kernel
theorem dX7_mostAlike_82 : decode cX7_mostAlike 82 = .ok (.iaload, 1) := by decide +kernel
theorem dX7_mostAlike_83 : decode cX7_mostAlike 83 = .ok (.iconst (-1), 1) := by decide +kernel
theorem dX7_mostAlike_84 : decode cX7_mostAlike 84 = .ok (.ixor, 1) := by decide +kernel
theorem dX7_mostAlike_85 : decode cX7_mostAlike 85 = .ok (.iand, 1) := by decide +kernel
theorem dX7_mostAlike_86 : decode cX7_mostAlike 86 = .ok (.iaload, 1) := by decide +kernel
theorem dX7_mostAlike_87 : decode cX7_mostAlike 87 = .ok (.iconst 0, 1) := by decide +kernel
theorem dX7_mostAlike_88 : decode cX7_mostAlike 88 = .ok (.iastore, 1) := by decide +kernel
theorem dX7_mostAlike_89 : decode cX7_mostAlike 89 = .ok (.iinc 3 1, 3) := by decide +kernel
theorem dX7_mostAlike_92 : decode cX7_mostAlike 92 = .ok (.goto (-32), 3) := by decide +kernel
theorem dX7_mostAlike_95 : decode cX7_mostAlike 95 = .ok (.iload_n 2, 1) := by decide +kernel
theorem dX7_mostAlike_96 : decode cX7_mostAlike 96 = .ok (.ireturn, 1) := by decide +kernel
