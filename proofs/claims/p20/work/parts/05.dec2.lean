theorem dX5_init_0 : decode cX5_init 0 = .ok (.aload_n 0, 1) := by decide +kernel
theorem dX5_init_1 : decode cX5_init 1 = .ok (.invokespecial 3, 3) := by decide +kernel
theorem dX5_init_4 : decode cX5_init 4 = .ok (.aload_n 0, 1) := by decide +kernel
theorem dX5_init_5 : decode cX5_init 5 = .ok (.bipush 12, 2) := by decide +kernel
theorem dX5_init_7 : decode cX5_init 7 = .ok (.anewarray 9, 3) := by decide +kernel
theorem dX5_init_10 : decode cX5_init 10 = .ok (.putfield 11, 3) := by decide +kernel
theorem dX5_init_13 : decode cX5_init 13 = .ok (.aload_n 0, 1) := by decide +kernel
theorem dX5_init_14 : decode cX5_init 14 = .ok (.bipush 12, 2) := by decide +kernel
theorem dX5_init_16 : decode cX5_init 16 = .ok (.anewarray 17, 3) := by decide +kernel
theorem dX5_init_19 : decode cX5_init 19 = .ok (.putfield 19, 3) := by decide +kernel
theorem dX5_init_22 : decode cX5_init 22 = .ok (.aload_n 0, 1) := by decide +kernel
theorem dX5_init_23 : decode cX5_init 23 = .ok (.bipush 12, 2) := by decide +kernel
theorem dX5_init_25 : decode cX5_init 25 = .ok (.newarray .int, 2) := by decide +kernel
theorem dX5_init_27 : decode cX5_init 27 = .ok (.putfield 23, 3) := by decide +kernel
theorem dX5_init_30 : decode cX5_init 30 = .ok (.aload_n 0, 1) := by decide +kernel
theorem dX5_init_31 : decode cX5_init 31 = .ok (.aload_n 1, 1) := by decide +kernel
theorem dX5_init_32 : decode cX5_init 32 = .ok (.putfield 27, 3) := by decide +kernel
theorem dX5_init_35 : decode cX5_init 35 = .ok (.iconst 0, 1) := by decide +kernel
theorem dX5_init_36 : decode cX5_init 36 = .ok (.istore_n 2, 1) := by decide +kernel
theorem dX5_init_37 : decode cX5_init 37 = .ok (.iload_n 2, 1) := by decide +kernel
theorem dX5_init_38 : decode cX5_init 38 = .ok (.bipush 12, 2) := by decide +kernel
theorem dX5_init_40 : decode cX5_init 40 = .ok (.if_icmp .ge 22, 3) := by decide +kernel
theorem dX5_init_43 : decode cX5_init 43 = .ok (.aload_n 0, 1) := by decide +kernel
theorem dX5_init_44 : decode cX5_init 44 = .ok (.getfield 11, 3) := by decide +kernel
theorem dX5_init_47 : decode cX5_init 47 = .ok (.iload_n 2, 1) := by decide +kernel
theorem dX5_init_48 : decode cX5_init 48 = .ok (.new 9, 3) := by decide +kernel
theorem dX5_init_51 : decode cX5_init 51 = .ok (.dup, 1) := by decide +kernel
theorem dX5_init_52 : decode cX5_init 52 = .ok (.invokespecial 31, 3) := by decide +kernel
theorem dX5_init_55 : decode cX5_init 55 = .ok (.aastore, 1) := by decide +kernel
theorem dX5_init_56 : decode cX5_init 56 = .ok (.iinc 2 1, 3) := by decide +kernel
theorem dX5_init_59 : decode cX5_init 59 = .ok (.goto (-22), 3) := by decide +kernel
theorem dX5_init_62 : decode cX5_init 62 = .ok (.iconst 0, 1) := by decide +kernel
theorem dX5_init_63 : decode cX5_init 63 = .ok (.istore_n 2, 1) := by decide +kernel
theorem dX5_init_64 : decode cX5_init 64 = .ok (.iload_n 2, 1) := by decide +kernel
theorem dX5_init_65 : decode cX5_init 65 = .ok (.bipush 12, 2) := by decide +kernel
theorem dX5_init_67 : decode cX5_init 67 = .ok (.if_icmp .ge 22, 3) := by decide +kernel
theorem dX5_init_70 : decode cX5_init 70 = .ok (.aload_n 0, 1) := by decide +kernel
theorem dX5_init_71 : decode cX5_init 71 = .ok (.getfield 19, 3) := by decide +kernel
theorem dX5_init_74 : decode cX5_init 74 = .ok (.iload_n 2, 1) := by decide +kernel
theorem dX5_init_75 : decode cX5_init 75 = .ok (.new 17, 3) := by decide +kernel
theorem dX5_init_78 : decode cX5_init 78 = .ok (.dup, 1) := by decide +kernel
theorem dX5_init_79 : decode cX5_init 79 = .ok (.invokespecial 32, 3) := by decide +kernel
theorem dX5_init_82 : decode cX5_init 82 = .ok (.aastore, 1) := by decide +kernel
theorem dX5_init_83 : decode cX5_init 83 = .ok (.iinc 2 1, 3) := by decide +kernel
theorem dX5_init_86 : decode cX5_init 86 = .ok (.goto (-22), 3) := by decide +kernel
theorem dX5_init_89 : decode cX5_init 89 = .ok (.return_, 1) := by decide +kernel
theorem dX5_copyFrom_0 : decode cX5_copyFrom 0 = .ok (.iconst 0, 1) := by decide +kernel
theorem dX5_copyFrom_1 : decode cX5_copyFrom 1 = .ok (.istore_n 2, 1) := by decide +kernel
theorem dX5_copyFrom_2 : decode cX5_copyFrom 2 = .ok (.iload_n 2, 1) := by decide +kernel
theorem dX5_copyFrom_3 : decode cX5_copyFrom 3 = .ok (.aload_n 0, 1) := by decide +kernel
theorem dX5_copyFrom_4 : decode cX5_copyFrom 4 = .ok (.getfield 27, 3) := by decide +kernel
theorem dX5_copyFrom_7 : decode cX5_copyFrom 7 = .ok (.getfield 33, 3) := by decide +kernel
theorem dX5_copyFrom_10 : decode cX5_copyFrom 10 = .ok (.if_icmp .ge 24, 3) := by decide +kernel
theorem dX5_copyFrom_13 : decode cX5_copyFrom 13 = .ok (.aload_n 0, 1) := by decide +kernel
theorem dX5_copyFrom_14 : decode cX5_copyFrom 14 = .ok (.getfield 11, 3) := by decide +kernel
theorem dX5_copyFrom_17 : decode cX5_copyFrom 17 = .ok (.iload_n 2, 1) := by decide +kernel
theorem dX5_copyFrom_18 : decode cX5_copyFrom 18 = .ok (.aaload, 1) := by decide +kernel
theorem dX5_copyFrom_19 : decode cX5_copyFrom 19 = .ok (.aload_n 1, 1) := by decide +kernel
theorem dX5_copyFrom_20 : decode cX5_copyFrom 20 = .ok (.getfield 11, 3) := by decide +kernel
theorem dX5_copyFrom_23 : decode cX5_copyFrom 23 = .ok (.iload_n 2, 1) := by decide +kernel
theorem dX5_copyFrom_24 : decode cX5_copyFrom 24 = .ok (.aaload, 1) := by decide +kernel
theorem dX5_copyFrom_25 : decode cX5_copyFrom 25 = .ok (.invokevirtual 39, 3) := by decide +kernel
theorem dX5_copyFrom_28 : decode cX5_copyFrom 28 = .ok (.iinc 2 1, 3) := by decide +kernel
theorem dX5_copyFrom_31 : decode cX5_copyFrom 31 = .ok (.goto (-29), 3) := by decide +kernel
theorem dX5_copyFrom_34 : decode cX5_copyFrom 34 = .ok (.iconst 0, 1) := by decide +kernel
theorem dX5_copyFrom_35 : decode cX5_copyFrom 35 = .ok (.istore_n 2, 1) := by decide +kernel
theorem dX5_copyFrom_36 : decode cX5_copyFrom 36 = .ok (.iload_n 2, 1) := by decide +kernel
theorem dX5_copyFrom_37 : decode cX5_copyFrom 37 = .ok (.aload_n 0, 1) := by decide +kernel
theorem dX5_copyFrom_38 : decode cX5_copyFrom 38 = .ok (.getfield 27, 3) := by decide +kernel
theorem dX5_copyFrom_41 : decode cX5_copyFrom 41 = .ok (.getfield 43, 3) := by decide +kernel
theorem dX5_copyFrom_44 : decode cX5_copyFrom 44 = .ok (.if_icmp .ge 24, 3) := by decide +kernel
theorem dX5_copyFrom_47 : decode cX5_copyFrom 47 = .ok (.aload_n 0, 1) := by decide +kernel
theorem dX5_copyFrom_48 : decode cX5_copyFrom 48 = .ok (.getfield 19, 3) := by decide +kernel
theorem dX5_copyFrom_51 : decode cX5_copyFrom 51 = .ok (.iload_n 2, 1) := by decide +kernel
theorem dX5_copyFrom_52 : decode cX5_copyFrom 52 = .ok (.aaload, 1) := by decide +kernel
theorem dX5_copyFrom_53 : decode cX5_copyFrom 53 = .ok (.aload_n 1, 1) := by decide +kernel
theorem dX5_copyFrom_54 : decode cX5_copyFrom 54 = .ok (.getfield 19, 3) := by decide +kernel
theorem dX5_copyFrom_57 : decode cX5_copyFrom 57 = .ok (.iload_n 2, 1) := by decide +kernel
theorem dX5_copyFrom_58 : decode cX5_copyFrom 58 = .ok (.aaload, 1) := by decide +kernel
theorem dX5_copyFrom_59 : decode cX5_copyFrom 59 = .ok (.invokevirtual 46, 3) := by decide +kernel
theorem dX5_copyFrom_62 : decode cX5_copyFrom 62 = .ok (.iinc 2 1, 3) := by decide +kernel
theorem dX5_copyFrom_65 : decode cX5_copyFrom 65 = .ok (.goto (-29), 3) := by decide +kernel
theorem dX5_copyFrom_68 : decode cX5_copyFrom 68 = .ok (.aload_n 0, 1) := by decide +kernel
theorem dX5_copyFrom_69 : decode cX5_copyFrom 69 = .ok (.aload_n 1, 1) := by decide +kernel
theorem dX5_copyFrom_70 : decode cX5_copyFrom 70 = .ok (.getfield 49, 3) := by decide +kernel
theorem dX5_copyFrom_73 : decode cX5_copyFrom 73 = .ok (.putfield 49, 3) := by decide +kernel
theorem dX5_copyFrom_76 : decode cX5_copyFrom 76 = .ok (.iconst 0, 1) := by decide +kernel
theorem dX5_copyFrom_77 : decode cX5_copyFrom 77 = .ok (.istore_n 2, 1) := by decide +kernel
theorem dX5_copyFrom_78 : decode cX5_copyFrom 78 = .ok (.iload_n 2, 1) := by decide +kernel
theorem dX5_copyFrom_79 : decode cX5_copyFrom 79 = .ok (.aload_n 0, 1) := by decide +kernel
theorem dX5_copyFrom_80 : decode cX5_copyFrom 80 = .ok (.getfield 49, 3) := by decide +kernel
theorem dX5_copyFrom_83 : decode cX5_copyFrom 83 = .ok (.if_icmp .ge 21, 3) := by decide +kernel
theorem dX5_copyFrom_86 : decode cX5_copyFrom 86 = .ok (.aload_n 0, 1) := by decide +kernel
theorem dX5_copyFrom_87 : decode cX5_copyFrom 87 = .ok (.getfield 23, 3) := by decide +kernel
theorem dX5_copyFrom_90 : decode cX5_copyFrom 90 = .ok (.iload_n 2, 1) := by decide +kernel
theorem dX5_copyFrom_91 : decode cX5_copyFrom 91 = .ok (.aload_n 1, 1) := by decide +kernel
theorem dX5_copyFrom_92 : decode cX5_copyFrom 92 = .ok (.getfield 23, 3) := by decide +kernel
theorem dX5_copyFrom_95 : decode cX5_copyFrom 95 = .ok (.iload_n 2, 1) := by decide +kernel
theorem dX5_copyFrom_96 : decode cX5_copyFrom 96 = .ok (.iaload, 1) := by decide +kernel
theorem dX5_copyFrom_97 : decode cX5_copyFrom 97 = .ok (.iastore, 1) := by decide +kernel
theorem dX5_copyFrom_98 : decode cX5_copyFrom 98 = .ok (.iinc 2 1, 3) := by decide +kernel
theorem dX5_copyFrom_101 : decode cX5_copyFrom 101 = .ok (.goto (-23), 3) := by decide +kernel
theorem dX5_copyFrom_104 : decode cX5_copyFrom 104 = .ok (.aload_n 0, 1) := by decide +kernel
theorem dX5_copyFrom_105 : decode cX5_copyFrom 105 = .ok (.aload_n 1, 1) := by decide +kernel
theorem dX5_copyFrom_106 : decode cX5_copyFrom 106 = .ok (.getfield 52, 3) := by decide +kernel
theorem dX5_copyFrom_109 : decode cX5_copyFrom 109 = .ok (.putfield 52, 3) := by decide +kernel
theorem dX5_copyFrom_112 : decode cX5_copyFrom 112 = .ok (.return_, 1) := by decide +kernel
theorem dX5_addTrolleys_0 : decode cX5_addTrolleys 0 = .ok (.aload_n 0, 1) := by decide +kernel
theorem dX5_addTrolleys_1 : decode cX5_addTrolleys 1 = .ok (.getfield 19, 3) := by decide +kernel
theorem dX5_addTrolleys_4 : decode cX5_addTrolleys 4 = .ok (.iload_n 1, 1) := by decide +kernel
theorem dX5_addTrolleys_5 : decode cX5_addTrolleys 5 = .ok (.aaload, 1) := by decide +kernel
theorem dX5_addTrolleys_6 : decode cX5_addTrolleys 6 = .ok (.dup, 1) := by decide +kernel
theorem dX5_addTrolleys_7 : decode cX5_addTrolleys 7 = .ok (.getfield 55, 3) := by decide +kernel
theorem dX5_addTrolleys_10 : decode cX5_addTrolleys 10 = .ok (.iload_n 2, 1) := by decide +kernel
theorem dX5_addTrolleys_11 : decode cX5_addTrolleys 11 = .ok (.iadd, 1) := by decide +kernel
theorem dX5_addTrolleys_12 : decode cX5_addTrolleys 12 = .ok (.putfield 55, 3) := by decide +kernel
theorem dX5_addTrolleys_15 : decode cX5_addTrolleys 15 = .ok (.return_, 1) := by decide +kernel
theorem dX5_reach_0 : decode cX5_reach 0 = .ok (.iload_n 2, 1) := by decide +kernel
theorem dX5_reach_1 : decode cX5_reach 1 = .ok (.aload_n 0, 1) := by decide +kernel
theorem dX5_reach_2 : decode cX5_reach 2 = .ok (.getfield 27, 3) := by decide +kernel
theorem dX5_reach_5 : decode cX5_reach 5 = .ok (.getfield 58, 3) := by decide +kernel
theorem dX5_reach_8 : decode cX5_reach 8 = .ok (.iload_n 1, 1) := by decide +kernel
theorem dX5_reach_9 : decode cX5_reach 9 = .ok (.aaload, 1) := by decide +kernel
theorem dX5_reach_10 : decode cX5_reach 10 = .ok (.getfield 62, 3) := by decide +kernel
theorem dX5_reach_13 : decode cX5_reach 13 = .ok (.if_icmp .ne 20, 3) := by decide +kernel
theorem dX5_reach_16 : decode cX5_reach 16 = .ok (.aload_n 0, 1) := by decide +kernel
theorem dX5_reach_17 : decode cX5_reach 17 = .ok (.getfield 11, 3) := by decide +kernel
theorem dX5_reach_20 : decode cX5_reach 20 = .ok (.iload_n 1, 1) := by decide +kernel
theorem dX5_reach_21 : decode cX5_reach 21 = .ok (.aaload, 1) := by decide +kernel
theorem dX5_reach_22 : decode cX5_reach 22 = .ok (.iload_n 2, 1) := by decide +kernel
theorem dX5_reach_23 : decode cX5_reach 23 = .ok (.aload_n 0, 1) := by decide +kernel
theorem dX5_reach_24 : decode cX5_reach 24 = .ok (.getfield 52, 3) := by decide +kernel
theorem dX5_reach_27 : decode cX5_reach 27 = .ok (.invokevirtual 67, 3) := by decide +kernel
theorem dX5_reach_30 : decode cX5_reach 30 = .ok (.goto 42, 3) := by decide +kernel
theorem dX5_reach_33 : decode cX5_reach 33 = .ok (.aload_n 0, 1) := by decide +kernel
theorem dX5_reach_34 : decode cX5_reach 34 = .ok (.getfield 49, 3) := by decide +kernel
theorem dX5_reach_37 : decode cX5_reach 37 = .ok (.bipush 12, 2) := by decide +kernel
theorem dX5_reach_39 : decode cX5_reach 39 = .ok (.if_icmp .ge 33, 3) := by decide +kernel
theorem dX5_reach_42 : decode cX5_reach 42 = .ok (.aload_n 0, 1) := by decide +kernel
theorem dX5_reach_43 : decode cX5_reach 43 = .ok (.getfield 11, 3) := by decide +kernel
theorem dX5_reach_46 : decode cX5_reach 46 = .ok (.iload_n 1, 1) := by decide +kernel
theorem dX5_reach_47 : decode cX5_reach 47 = .ok (.aaload, 1) := by decide +kernel
theorem dX5_reach_48 : decode cX5_reach 48 = .ok (.iload_n 2, 1) := by decide +kernel
theorem dX5_reach_49 : decode cX5_reach 49 = .ok (.invokevirtual 71, 3) := by decide +kernel
theorem dX5_reach_52 : decode cX5_reach 52 = .ok (.aload_n 0, 1) := by decide +kernel
theorem dX5_reach_53 : decode cX5_reach 53 = .ok (.getfield 23, 3) := by decide +kernel
theorem dX5_reach_56 : decode cX5_reach 56 = .ok (.aload_n 0, 1) := by decide +kernel
theorem dX5_reach_57 : decode cX5_reach 57 = .ok (.getfield 49, 3) := by decide +kernel
theorem dX5_reach_60 : decode cX5_reach 60 = .ok (.iload_n 1, 1) := by decide +kernel
theorem dX5_reach_61 : decode cX5_reach 61 = .ok (.iastore, 1) := by decide +kernel
theorem dX5_reach_62 : decode cX5_reach 62 = .ok (.aload_n 0, 1) := by decide +kernel
theorem dX5_reach_63 : decode cX5_reach 63 = .ok (.dup, 1) := by decide +kernel
theorem dX5_reach_64 : decode cX5_reach 64 = .ok (.getfield 49, 3) := by decide +kernel
theorem dX5_reach_67 : decode cX5_reach 67 = .ok (.iconst 1, 1) := by decide +kernel
theorem dX5_reach_68 : decode cX5_reach 68 = .ok (.iadd, 1) := by decide +kernel
theorem dX5_reach_69 : decode cX5_reach 69 = .ok (.putfield 49, 3) := by decide +kernel
theorem dX5_reach_72 : decode cX5_reach 72 = .ok (.return_, 1) := by decide +kernel
theorem dX5_goOn_0 : decode cX5_goOn 0 = .ok (.aload_n 0, 1) := by decide +kernel
theorem dX5_goOn_1 : decode cX5_goOn 1 = .ok (.iconst 2, 1) := by decide +kernel
theorem dX5_goOn_2 : decode cX5_goOn 2 = .ok (.invokevirtual 75, 3) := by decide +kernel
theorem dX5_goOn_5 : decode cX5_goOn 5 = .ok (.istore_n 2, 1) := by decide +kernel
theorem dX5_goOn_6 : decode cX5_goOn 6 = .ok (.iconst 0, 1) := by decide +kernel
theorem dX5_goOn_7 : decode cX5_goOn 7 = .ok (.istore_n 3, 1) := by decide +kernel
theorem dX5_goOn_8 : decode cX5_goOn 8 = .ok (.iload_n 3, 1) := by decide +kernel
theorem dX5_goOn_9 : decode cX5_goOn 9 = .ok (.iload_n 1, 1) := by decide +kernel
theorem dX5_goOn_10 : decode cX5_goOn 10 = .ok (.if_icmp .ge 13, 3) := by decide +kernel
theorem dX5_goOn_13 : decode cX5_goOn 13 = .ok (.aload_n 0, 1) := by decide +kernel
theorem dX5_goOn_14 : decode cX5_goOn 14 = .ok (.invokevirtual 79, 3) := by decide +kernel
theorem dX5_goOn_17 : decode cX5_goOn 17 = .ok (.iinc 3 1, 3) := by decide +kernel
theorem dX5_goOn_20 : decode cX5_goOn 20 = .ok (.goto (-12), 3) := by decide +kernel
theorem dX5_goOn_23 : decode cX5_goOn 23 = .ok (.aload_n 0, 1) := by decide +kernel
theorem dX5_goOn_24 : decode cX5_goOn 24 = .ok (.iconst 2, 1) := by decide +kernel
theorem dX5_goOn_25 : decode cX5_goOn 25 = .ok (.invokevirtual 75, 3) := by decide +kernel
theorem dX5_goOn_28 : decode cX5_goOn 28 = .ok (.iload_n 2, 1) := by decide +kernel
theorem dX5_goOn_29 : decode cX5_goOn 29 = .ok (.isub, 1) := by decide +kernel
theorem dX5_goOn_30 : decode cX5_goOn 30 = .ok (.ireturn, 1) := by decide +kernel
theorem dX5_passMinute_0 : decode cX5_passMinute 0 = .ok (.iconst 0, 1) := by decide +kernel
theorem dX5_passMinute_1 : decode cX5_passMinute 1 = .ok (.istore_n 1, 1) := by decide +kernel
theorem dX5_passMinute_2 : decode cX5_passMinute 2 = .ok (.iload_n 1, 1) := by decide +kernel
theorem dX5_passMinute_3 : decode cX5_passMinute 3 = .ok (.aload_n 0, 1) := by decide +kernel
theorem dX5_passMinute_4 : decode cX5_passMinute 4 = .ok (.getfield 27, 3) := by decide +kernel
theorem dX5_passMinute_7 : decode cX5_passMinute 7 = .ok (.getfield 43, 3) := by decide +kernel
theorem dX5_passMinute_10 : decode cX5_passMinute 10 = .ok (.if_icmp .ge 28, 3) := by decide +kernel
theorem dX5_passMinute_13 : decode cX5_passMinute 13 = .ok (.aload_n 0, 1) := by decide +kernel
theorem dX5_passMinute_14 : decode cX5_passMinute 14 = .ok (.aload_n 0, 1) := by decide +kernel
theorem dX5_passMinute_15 : decode cX5_passMinute 15 = .ok (.getfield 27, 3) := by decide +kernel
theorem dX5_passMinute_18 : decode cX5_passMinute 18 = .ok (.getfield 82, 3) := by decide +kernel
theorem dX5_passMinute_21 : decode cX5_passMinute 21 = .ok (.iload_n 1, 1) := by decide +kernel
theorem dX5_passMinute_22 : decode cX5_passMinute 22 = .ok (.aaload, 1) := by decide +kernel
theorem dX5_passMinute_23 : decode cX5_passMinute 23 = .ok (.aload_n 0, 1) := by decide +kernel
theorem dX5_passMinute_24 : decode cX5_passMinute 24 = .ok (.getfield 19, 3) := by decide +kernel
theorem dX5_passMinute_27 : decode cX5_passMinute 27 = .ok (.iload_n 1, 1) := by decide +kernel
theorem dX5_passMinute_28 : decode cX5_passMinute 28 = .ok (.aaload, 1) := by decide +kernel
theorem dX5_passMinute_29 : decode cX5_passMinute 29 = .ok (.invokevirtual 86, 3) := by decide +kernel
theorem dX5_passMinute_32 : decode cX5_passMinute 32 = .ok (.iinc 1 1, 3) := by decide +kernel
theorem dX5_passMinute_35 : decode cX5_passMinute 35 = .ok (.goto (-33), 3) := by decide +kernel
theorem dX5_passMinute_38 : decode cX5_passMinute 38 = .ok (.iconst 0, 1) := by decide +kernel
theorem dX5_passMinute_39 : decode cX5_passMinute 39 = .ok (.istore_n 1, 1) := by decide +kernel
theorem dX5_passMinute_40 : decode cX5_passMinute 40 = .ok (.iload_n 1, 1) := by decide +kernel
theorem dX5_passMinute_41 : decode cX5_passMinute 41 = .ok (.aload_n 0, 1) := by decide +kernel
theorem dX5_passMinute_42 : decode cX5_passMinute 42 = .ok (.getfield 27, 3) := by decide +kernel
theorem dX5_passMinute_45 : decode cX5_passMinute 45 = .ok (.getfield 43, 3) := by decide +kernel
theorem dX5_passMinute_48 : decode cX5_passMinute 48 = .ok (.if_icmp .ge 46, 3) := by decide +kernel
theorem dX5_passMinute_51 : decode cX5_passMinute 51 = .ok (.aload_n 0, 1) := by decide +kernel
theorem dX5_passMinute_52 : decode cX5_passMinute 52 = .ok (.getfield 27, 3) := by decide +kernel
theorem dX5_passMinute_55 : decode cX5_passMinute 55 = .ok (.aload_n 0, 1) := by decide +kernel
theorem dX5_passMinute_56 : decode cX5_passMinute 56 = .ok (.getfield 27, 3) := by decide +kernel
theorem dX5_passMinute_59 : decode cX5_passMinute 59 = .ok (.getfield 82, 3) := by decide +kernel
theorem dX5_passMinute_62 : decode cX5_passMinute 62 = .ok (.iload_n 1, 1) := by decide +kernel
theorem dX5_passMinute_63 : decode cX5_passMinute 63 = .ok (.aaload, 1) := by decide +kernel
theorem dX5_passMinute_64 : decode cX5_passMinute 64 = .ok (.aload_n 0, 1) := by decide +kernel
theorem dX5_passMinute_65 : decode cX5_passMinute 65 = .ok (.getfield 52, 3) := by decide +kernel
theorem dX5_passMinute_68 : decode cX5_passMinute 68 = .ok (.invokevirtual 90, 3) := by decide +kernel
theorem dX5_passMinute_71 : decode cX5_passMinute 71 = .ok (.ifCond .ne 17, 3) := by decide +kernel
theorem dX5_passMinute_74 : decode cX5_passMinute 74 = .ok (.aload_n 0, 1) := by decide +kernel
theorem dX5_passMinute_75 : decode cX5_passMinute 75 = .ok (.aload_n 0, 1) := by decide +kernel
theorem dX5_passMinute_76 : decode cX5_passMinute 76 = .ok (.getfield 27, 3) := by decide +kernel
theorem dX5_passMinute_79 : decode cX5_passMinute 79 = .ok (.getfield 82, 3) := by decide +kernel
theorem dX5_passMinute_82 : decode cX5_passMinute 82 = .ok (.iload_n 1, 1) := by decide +kernel
theorem dX5_passMinute_83 : decode cX5_passMinute 83 = .ok (.aaload, 1) := by decide +kernel
theorem dX5_passMinute_84 : decode cX5_passMinute 84 = .ok (.iload_n 1, 1) := by decide +kernel
theorem dX5_passMinute_85 : decode cX5_passMinute 85 = .ok (.invokevirtual 94, 3) := by decide +kernel
theorem dX5_passMinute_88 : decode cX5_passMinute 88 = .ok (.iinc 1 1, 3) := by decide +kernel
theorem dX5_passMinute_91 : decode cX5_passMinute 91 = .ok (.goto (-51), 3) := by decide +kernel
theorem dX5_passMinute_94 : decode cX5_passMinute 94 = .ok (.aload_n 0, 1) := by decide +kernel
theorem dX5_passMinute_95 : decode cX5_passMinute 95 = .ok (.invokevirtual 98, 3) := by decide +kernel
theorem dX5_passMinute_98 : decode cX5_passMinute 98 = .ok (.aload_n 0, 1) := by decide +kernel
theorem dX5_passMinute_99 : decode cX5_passMinute 99 = .ok (.dup, 1) := by decide +kernel
theorem dX5_passMinute_100 : decode cX5_passMinute 100 = .ok (.getfield 52, 3) := by decide +kernel
theorem dX5_passMinute_103 : decode cX5_passMinute 103 = .ok (.iconst 1, 1) := by decide +kernel
theorem dX5_passMinute_104 : decode cX5_passMinute 104 = .ok (.iadd, 1) := by decide +kernel
theorem dX5_passMinute_105 : decode cX5_passMinute 105 = .ok (.putfield 52, 3) := by decide +kernel
theorem dX5_passMinute_108 : decode cX5_passMinute 108 = .ok (.return_, 1) := by decide +kernel
theorem dX5_moveTrolleys_0 : decode cX5_moveTrolleys 0 = .ok (.iconst 0, 1) := by decide +kernel
theorem dX5_moveTrolleys_1 : decode cX5_moveTrolleys 1 = .ok (.istore_n 3, 1) := by decide +kernel
theorem dX5_moveTrolleys_2 : decode cX5_moveTrolleys 2 = .ok (.iload_n 3, 1) := by decide +kernel
theorem dX5_moveTrolleys_3 : decode cX5_moveTrolleys 3 = .ok (.aload_n 2, 1) := by decide +kernel
theorem dX5_moveTrolleys_4 : decode cX5_moveTrolleys 4 = .ok (.getfield 101, 3) := by decide +kernel
theorem dX5_moveTrolleys_7 : decode cX5_moveTrolleys 7 = .ok (.if_icmp .ge 77, 3) := by decide +kernel
theorem dX5_moveTrolleys_10 : decode cX5_moveTrolleys 10 = .ok (.aload_n 2, 1) := by decide +kernel
theorem dX5_moveTrolleys_11 : decode cX5_moveTrolleys 11 = .ok (.getfield 104, 3) := by decide +kernel
theorem dX5_moveTrolleys_14 : decode cX5_moveTrolleys 14 = .ok (.iload_n 3, 1) := by decide +kernel
theorem dX5_moveTrolleys_15 : decode cX5_moveTrolleys 15 = .ok (.dup2, 1) := by decide +kernel
theorem dX5_moveTrolleys_16 : decode cX5_moveTrolleys 16 = .ok (.iaload, 1) := by decide +kernel
theorem dX5_moveTrolleys_17 : decode cX5_moveTrolleys 17 = .ok (.iconst 1, 1) := by decide +kernel
theorem dX5_moveTrolleys_18 : decode cX5_moveTrolleys 18 = .ok (.isub, 1) := by decide +kernel
theorem dX5_moveTrolleys_19 : decode cX5_moveTrolleys 19 = .ok (.iastore, 1) := by decide +kernel
theorem dX5_moveTrolleys_20 : decode cX5_moveTrolleys 20 = .ok (.aload_n 2, 1) := by decide +kernel
theorem dX5_moveTrolleys_21 : decode cX5_moveTrolleys 21 = .ok (.getfield 107, 3) := by decide +kernel
theorem dX5_moveTrolleys_24 : decode cX5_moveTrolleys 24 = .ok (.iload_n 3, 1) := by decide +kernel
theorem dX5_moveTrolleys_25 : decode cX5_moveTrolleys 25 = .ok (.iaload, 1) := by decide +kernel
theorem dX5_moveTrolleys_26 : decode cX5_moveTrolleys 26 = .ok (.istore 4, 2) := by decide +kernel
theorem dX5_moveTrolleys_28 : decode cX5_moveTrolleys 28 = .ok (.iload 4, 2) := by decide +kernel
theorem dX5_moveTrolleys_30 : decode cX5_moveTrolleys 30 = .ok (.iconst (-1), 1) := by decide +kernel
theorem dX5_moveTrolleys_31 : decode cX5_moveTrolleys 31 = .ok (.if_icmp .eq 47, 3) := by decide +kernel
theorem dX5_moveTrolleys_34 : decode cX5_moveTrolleys 34 = .ok (.aload_n 0, 1) := by decide +kernel
theorem dX5_moveTrolleys_35 : decode cX5_moveTrolleys 35 = .ok (.getfield 11, 3) := by decide +kernel
theorem dX5_moveTrolleys_38 : decode cX5_moveTrolleys 38 = .ok (.iload 4, 2) := by decide +kernel
theorem dX5_moveTrolleys_40 : decode cX5_moveTrolleys 40 = .ok (.aaload, 1) := by decide +kernel
theorem dX5_moveTrolleys_41 : decode cX5_moveTrolleys 41 = .ok (.aload_n 2, 1) := by decide +kernel
theorem dX5_moveTrolleys_42 : decode cX5_moveTrolleys 42 = .ok (.getfield 104, 3) := by decide +kernel
theorem dX5_moveTrolleys_45 : decode cX5_moveTrolleys 45 = .ok (.iload_n 3, 1) := by decide +kernel
theorem dX5_moveTrolleys_46 : decode cX5_moveTrolleys 46 = .ok (.iaload, 1) := by decide +kernel
theorem dX5_moveTrolleys_47 : decode cX5_moveTrolleys 47 = .ok (.putfield 109, 3) := by decide +kernel
theorem dX5_moveTrolleys_50 : decode cX5_moveTrolleys 50 = .ok (.aload_n 2, 1) := by decide +kernel
theorem dX5_moveTrolleys_51 : decode cX5_moveTrolleys 51 = .ok (.getfield 104, 3) := by decide +kernel
theorem dX5_moveTrolleys_54 : decode cX5_moveTrolleys 54 = .ok (.iload_n 3, 1) := by decide +kernel
theorem dX5_moveTrolleys_55 : decode cX5_moveTrolleys 55 = .ok (.iaload, 1) := by decide +kernel
theorem dX5_moveTrolleys_56 : decode cX5_moveTrolleys 56 = .ok (.ifCond .gt 22, 3) := by decide +kernel
theorem dX5_moveTrolleys_59 : decode cX5_moveTrolleys 59 = .ok (.aload_n 2, 1) := by decide +kernel
theorem dX5_moveTrolleys_60 : decode cX5_moveTrolleys 60 = .ok (.iload_n 3, 1) := by decide +kernel
theorem dX5_moveTrolleys_61 : decode cX5_moveTrolleys 61 = .ok (.aload_n 1, 1) := by decide +kernel
theorem dX5_moveTrolleys_62 : decode cX5_moveTrolleys 62 = .ok (.invokevirtual 112, 3) := by decide +kernel
theorem dX5_moveTrolleys_65 : decode cX5_moveTrolleys 65 = .ok (.invokevirtual 118, 3) := by decide +kernel
theorem dX5_moveTrolleys_68 : decode cX5_moveTrolleys 68 = .ok (.aload_n 0, 1) := by decide +kernel
theorem dX5_moveTrolleys_69 : decode cX5_moveTrolleys 69 = .ok (.iload 4, 2) := by decide +kernel
theorem dX5_moveTrolleys_71 : decode cX5_moveTrolleys 71 = .ok (.aload_n 1, 1) := by decide +kernel
theorem dX5_moveTrolleys_72 : decode cX5_moveTrolleys 72 = .ok (.getfield 121, 3) := by decide +kernel
theorem dX5_moveTrolleys_75 : decode cX5_moveTrolleys 75 = .ok (.invokevirtual 124, 3) := by decide +kernel
theorem dX5_moveTrolleys_78 : decode cX5_moveTrolleys 78 = .ok (.iinc 3 1, 3) := by decide +kernel
theorem dX5_moveTrolleys_81 : decode cX5_moveTrolleys 81 = .ok (.goto (-79), 3) := by decide +kernel
theorem dX5_moveTrolleys_84 : decode cX5_moveTrolleys 84 = .ok (.aload_n 2, 1) := by decide +kernel
theorem dX5_moveTrolleys_85 : decode cX5_moveTrolleys 85 = .ok (.invokevirtual 127, 3) := by decide +kernel
theorem dX5_moveTrolleys_88 : decode cX5_moveTrolleys 88 = .ok (.return_, 1) := by decide +kernel
theorem dX5_beginRide_0 : decode cX5_beginRide 0 = .ok (.aload_n 0, 1) := by decide +kernel
theorem dX5_beginRide_1 : decode cX5_beginRide 1 = .ok (.iload_n 2, 1) := by decide +kernel
theorem dX5_beginRide_2 : decode cX5_beginRide 2 = .ok (.invokevirtual 130, 3) := by decide +kernel
theorem dX5_beginRide_5 : decode cX5_beginRide 5 = .ok (.istore_n 3, 1) := by decide +kernel
theorem dX5_beginRide_6 : decode cX5_beginRide 6 = .ok (.iload_n 3, 1) := by decide +kernel
theorem dX5_beginRide_7 : decode cX5_beginRide 7 = .ok (.iconst (-1), 1) := by decide +kernel
theorem dX5_beginRide_8 : decode cX5_beginRide 8 = .ok (.if_icmp .eq 15, 3) := by decide +kernel
theorem dX5_beginRide_11 : decode cX5_beginRide 11 = .ok (.aload_n 0, 1) := by decide +kernel
theorem dX5_beginRide_12 : decode cX5_beginRide 12 = .ok (.getfield 19, 3) := by decide +kernel
theorem dX5_beginRide_15 : decode cX5_beginRide 15 = .ok (.iload_n 2, 1) := by decide +kernel
theorem dX5_beginRide_16 : decode cX5_beginRide 16 = .ok (.aaload, 1) := by decide +kernel
theorem dX5_beginRide_17 : decode cX5_beginRide 17 = .ok (.invokevirtual 133, 3) := by decide +kernel
theorem dX5_beginRide_20 : decode cX5_beginRide 20 = .ok (.ifCond .ne 4, 3) := by decide +kernel
theorem dX5_beginRide_23 : decode cX5_beginRide 23 = .ok (.return_, 1) := by decide +kernel
theorem dX5_beginRide_24 : decode cX5_beginRide 24 = .ok (.aload_n 0, 1) := by decide +kernel
theorem dX5_beginRide_25 : decode cX5_beginRide 25 = .ok (.getfield 23, 3) := by decide +kernel
theorem dX5_beginRide_28 : decode cX5_beginRide 28 = .ok (.iload_n 3, 1) := by decide +kernel
theorem dX5_beginRide_29 : decode cX5_beginRide 29 = .ok (.iaload, 1) := by decide +kernel
theorem dX5_beginRide_30 : decode cX5_beginRide 30 = .ok (.istore 4, 2) := by decide +kernel
theorem dX5_beginRide_32 : decode cX5_beginRide 32 = .ok (.aload_n 0, 1) := by decide +kernel
theorem dX5_beginRide_33 : decode cX5_beginRide 33 = .ok (.getfield 27, 3) := by decide +kernel
theorem dX5_beginRide_36 : decode cX5_beginRide 36 = .ok (.getfield 58, 3) := by decide +kernel
theorem dX5_beginRide_39 : decode cX5_beginRide 39 = .ok (.iload 4, 2) := by decide +kernel
theorem dX5_beginRide_41 : decode cX5_beginRide 41 = .ok (.aaload, 1) := by decide +kernel
theorem dX5_beginRide_42 : decode cX5_beginRide 42 = .ok (.getfield 137, 3) := by decide +kernel
theorem dX5_beginRide_45 : decode cX5_beginRide 45 = .ok (.istore 5, 2) := by decide +kernel
theorem dX5_beginRide_47 : decode cX5_beginRide 47 = .ok (.aload_n 1, 1) := by decide +kernel
theorem dX5_beginRide_48 : decode cX5_beginRide 48 = .ok (.iload 5, 2) := by decide +kernel
theorem dX5_beginRide_50 : decode cX5_beginRide 50 = .ok (.invokevirtual 140, 3) := by decide +kernel
theorem dX5_beginRide_53 : decode cX5_beginRide 53 = .ok (.istore 6, 2) := by decide +kernel
theorem dX5_beginRide_55 : decode cX5_beginRide 55 = .ok (.aload_n 0, 1) := by decide +kernel
theorem dX5_beginRide_56 : decode cX5_beginRide 56 = .ok (.iload_n 3, 1) := by decide +kernel
theorem dX5_beginRide_57 : decode cX5_beginRide 57 = .ok (.invokevirtual 143, 3) := by decide +kernel
theorem dX5_beginRide_60 : decode cX5_beginRide 60 = .ok (.aload_n 0, 1) := by decide +kernel
theorem dX5_beginRide_61 : decode cX5_beginRide 61 = .ok (.getfield 11, 3) := by decide +kernel
theorem dX5_beginRide_64 : decode cX5_beginRide 64 = .ok (.iload 4, 2) := by decide +kernel
theorem dX5_beginRide_66 : decode cX5_beginRide 66 = .ok (.aaload, 1) := by decide +kernel
theorem dX5_beginRide_67 : decode cX5_beginRide 67 = .ok (.iload_n 2, 1) := by decide +kernel
theorem dX5_beginRide_68 : decode cX5_beginRide 68 = .ok (.iload 6, 2) := by decide +kernel
theorem dX5_beginRide_70 : decode cX5_beginRide 70 = .ok (.invokevirtual 146, 3) := by decide +kernel
theorem dX5_beginRide_73 : decode cX5_beginRide 73 = .ok (.aload_n 0, 1) := by decide +kernel
theorem dX5_beginRide_74 : decode cX5_beginRide 74 = .ok (.getfield 19, 3) := by decide +kernel
theorem dX5_beginRide_77 : decode cX5_beginRide 77 = .ok (.iload_n 2, 1) := by decide +kernel
theorem dX5_beginRide_78 : decode cX5_beginRide 78 = .ok (.aaload, 1) := by decide +kernel
theorem dX5_beginRide_79 : decode cX5_beginRide 79 = .ok (.iload 4, 2) := by decide +kernel
theorem dX5_beginRide_81 : decode cX5_beginRide 81 = .ok (.iload 6, 2) := by decide +kernel
theorem dX5_beginRide_83 : decode cX5_beginRide 83 = .ok (.invokevirtual 148, 3) := by decide +kernel
theorem dX5_beginRide_86 : decode cX5_beginRide 86 = .ok (.aload_n 0, 1) := by decide +kernel
theorem dX5_beginRide_87 : decode cX5_beginRide 87 = .ok (.getfield 19, 3) := by decide +kernel
theorem dX5_beginRide_90 : decode cX5_beginRide 90 = .ok (.iload_n 2, 1) := by decide +kernel
theorem dX5_beginRide_91 : decode cX5_beginRide 91 = .ok (.aaload, 1) := by decide +kernel
theorem dX5_beginRide_92 : decode cX5_beginRide 92 = .ok (.dup, 1) := by decide +kernel
theorem dX5_beginRide_93 : decode cX5_beginRide 93 = .ok (.getfield 151, 3) := by decide +kernel
theorem dX5_beginRide_96 : decode cX5_beginRide 96 = .ok (.aload_n 1, 1) := by decide +kernel
theorem dX5_beginRide_97 : decode cX5_beginRide 97 = .ok (.iload 5, 2) := by decide +kernel
theorem dX5_beginRide_99 : decode cX5_beginRide 99 = .ok (.invokevirtual 154, 3) := by decide +kernel
theorem dX5_beginRide_102 : decode cX5_beginRide 102 = .ok (.ifCond .eq 7, 3) := by decide +kernel
theorem dX5_beginRide_105 : decode cX5_beginRide 105 = .ok (.iconst 1, 1) := by decide +kernel
theorem dX5_beginRide_106 : decode cX5_beginRide 106 = .ok (.goto 4, 3) := by decide +kernel
theorem dX5_beginRide_109 : decode cX5_beginRide 109 = .ok (.iconst 0, 1) := by decide +kernel
theorem dX5_beginRide_110 : decode cX5_beginRide 110 = .ok (.iadd, 1) := by decide +kernel
theorem dX5_beginRide_111 : decode cX5_beginRide 111 = .ok (.putfield 151, 3) := by decide +kernel
theorem dX5_beginRide_114 : decode cX5_beginRide 114 = .ok (.return_, 1) := by decide +kernel
theorem dX5_firstWaitingFor_0 : decode cX5_firstWaitingFor 0 = .ok (.iconst 0, 1) := by decide +kernel
theorem dX5_firstWaitingFor_1 : decode cX5_firstWaitingFor 1 = .ok (.istore_n 2, 1) := by decide +kernel
theorem dX5_firstWaitingFor_2 : decode cX5_firstWaitingFor 2 = .ok (.iload_n 2, 1) := by decide +kernel
theorem dX5_firstWaitingFor_3 : decode cX5_firstWaitingFor 3 = .ok (.aload_n 0, 1) := by decide +kernel
theorem dX5_firstWaitingFor_4 : decode cX5_firstWaitingFor 4 = .ok (.getfield 49, 3) := by decide +kernel
theorem dX5_firstWaitingFor_7 : decode cX5_firstWaitingFor 7 = .ok (.if_icmp .ge 46, 3) := by decide +kernel
theorem dX5_firstWaitingFor_10 : decode cX5_firstWaitingFor 10 = .ok (.aload_n 0, 1) := by decide +kernel
theorem dX5_firstWaitingFor_11 : decode cX5_firstWaitingFor 11 = .ok (.getfield 23, 3) := by decide +kernel
theorem dX5_firstWaitingFor_14 : decode cX5_firstWaitingFor 14 = .ok (.iload_n 2, 1) := by decide +kernel
theorem dX5_firstWaitingFor_15 : decode cX5_firstWaitingFor 15 = .ok (.iaload, 1) := by decide +kernel
theorem dX5_firstWaitingFor_16 : decode cX5_firstWaitingFor 16 = .ok (.istore_n 3, 1) := by decide +kernel
theorem dX5_firstWaitingFor_17 : decode cX5_firstWaitingFor 17 = .ok (.aload_n 0, 1) := by decide +kernel
theorem dX5_firstWaitingFor_18 : decode cX5_firstWaitingFor 18 = .ok (.getfield 27, 3) := by decide +kernel
theorem dX5_firstWaitingFor_21 : decode cX5_firstWaitingFor 21 = .ok (.getfield 58, 3) := by decide +kernel
theorem dX5_firstWaitingFor_24 : decode cX5_firstWaitingFor 24 = .ok (.iload_n 3, 1) := by decide +kernel
theorem dX5_firstWaitingFor_25 : decode cX5_firstWaitingFor 25 = .ok (.aaload, 1) := by decide +kernel
theorem dX5_firstWaitingFor_26 : decode cX5_firstWaitingFor 26 = .ok (.getfield 158, 3) := by decide +kernel
theorem dX5_firstWaitingFor_29 : decode cX5_firstWaitingFor 29 = .ok (.aload_n 0, 1) := by decide +kernel
theorem dX5_firstWaitingFor_30 : decode cX5_firstWaitingFor 30 = .ok (.getfield 11, 3) := by decide +kernel
theorem dX5_firstWaitingFor_33 : decode cX5_firstWaitingFor 33 = .ok (.iload_n 3, 1) := by decide +kernel
theorem dX5_firstWaitingFor_34 : decode cX5_firstWaitingFor 34 = .ok (.aaload, 1) := by decide +kernel
theorem dX5_firstWaitingFor_35 : decode cX5_firstWaitingFor 35 = .ok (.getfield 162, 3) := by decide +kernel
theorem dX5_firstWaitingFor_38 : decode cX5_firstWaitingFor 38 = .ok (.invokevirtual 165, 3) := by decide +kernel
theorem dX5_firstWaitingFor_41 : decode cX5_firstWaitingFor 41 = .ok (.iload_n 1, 1) := by decide +kernel
theorem dX5_firstWaitingFor_42 : decode cX5_firstWaitingFor 42 = .ok (.if_icmp .ne 5, 3) := by decide +kernel
theorem dX5_firstWaitingFor_45 : decode cX5_firstWaitingFor 45 = .ok (.iload_n 2, 1) := by decide +kernel
theorem dX5_firstWaitingFor_46 : decode cX5_firstWaitingFor 46 = .ok (.ireturn, 1) := by decide +kernel
theorem dX5_firstWaitingFor_47 : decode cX5_firstWaitingFor 47 = .ok (.iinc 2 1, 3) := by decide +kernel
theorem dX5_firstWaitingFor_50 : decode cX5_firstWaitingFor 50 = .ok (.goto (-48), 3) := by decide +kernel
theorem dX5_firstWaitingFor_53 : decode cX5_firstWaitingFor 53 = .ok (.iconst (-1), 1) := by decide +kernel
theorem dX5_firstWaitingFor_54 : decode cX5_firstWaitingFor 54 = .ok (.ireturn, 1) := by decide +kernel
theorem dX5_leaveWaiting_0 : decode cX5_leaveWaiting 0 = .ok (.iload_n 1, 1) := by decide +kernel
theorem dX5_leaveWaiting_1 : decode cX5_leaveWaiting 1 = .ok (.istore_n 2, 1) := by decide +kernel
theorem dX5_leaveWaiting_2 : decode cX5_leaveWaiting 2 = .ok (.iload_n 2, 1) := by decide +kernel
theorem dX5_leaveWaiting_3 : decode cX5_leaveWaiting 3 = .ok (.iconst 1, 1) := by decide +kernel
theorem dX5_leaveWaiting_4 : decode cX5_leaveWaiting 4 = .ok (.iadd, 1) := by decide +kernel
theorem dX5_leaveWaiting_5 : decode cX5_leaveWaiting 5 = .ok (.aload_n 0, 1) := by decide +kernel
theorem dX5_leaveWaiting_6 : decode cX5_leaveWaiting 6 = .ok (.getfield 49, 3) := by decide +kernel
theorem dX5_leaveWaiting_9 : decode cX5_leaveWaiting 9 = .ok (.if_icmp .ge 23, 3) := by decide +kernel
theorem dX5_leaveWaiting_12 : decode cX5_leaveWaiting 12 = .ok (.aload_n 0, 1) := by decide +kernel
theorem dX5_leaveWaiting_13 : decode cX5_leaveWaiting 13 = .ok (.getfield 23, 3) := by decide +kernel
theorem dX5_leaveWaiting_16 : decode cX5_leaveWaiting 16 = .ok (.iload_n 2, 1) := by decide +kernel
theorem dX5_leaveWaiting_17 : decode cX5_leaveWaiting 17 = .ok (.aload_n 0, 1) := by decide +kernel
theorem dX5_leaveWaiting_18 : decode cX5_leaveWaiting 18 = .ok (.getfield 23, 3) := by decide +kernel
theorem dX5_leaveWaiting_21 : decode cX5_leaveWaiting 21 = .ok (.iload_n 2, 1) := by decide +kernel
theorem dX5_leaveWaiting_22 : decode cX5_leaveWaiting 22 = .ok (.iconst 1, 1) := by decide +kernel
theorem dX5_leaveWaiting_23 : decode cX5_leaveWaiting 23 = .ok (.iadd, 1) := by decide +kernel
theorem dX5_leaveWaiting_24 : decode cX5_leaveWaiting 24 = .ok (.iaload, 1) := by decide +kernel
theorem dX5_leaveWaiting_25 : decode cX5_leaveWaiting 25 = .ok (.iastore, 1) := by decide +kernel
theorem dX5_leaveWaiting_26 : decode cX5_leaveWaiting 26 = .ok (.iinc 2 1, 3) := by decide +kernel
theorem dX5_leaveWaiting_29 : decode cX5_leaveWaiting 29 = .ok (.goto (-27), 3) := by decide +kernel
theorem dX5_leaveWaiting_32 : decode cX5_leaveWaiting 32 = .ok (.aload_n 0, 1) := by decide +kernel
theorem dX5_leaveWaiting_33 : decode cX5_leaveWaiting 33 = .ok (.dup, 1) := by decide +kernel
theorem dX5_leaveWaiting_34 : decode cX5_leaveWaiting 34 = .ok (.getfield 49, 3) := by decide +kernel
theorem dX5_leaveWaiting_37 : decode cX5_leaveWaiting 37 = .ok (.iconst 1, 1) := by decide +kernel
theorem dX5_leaveWaiting_38 : decode cX5_leaveWaiting 38 = .ok (.isub, 1) := by decide +kernel
theorem dX5_leaveWaiting_39 : decode cX5_leaveWaiting 39 = .ok (.putfield 49, 3) := by decide +kernel
theorem dX5_leaveWaiting_42 : decode cX5_leaveWaiting 42 = .ok (.return_, 1) := by decide +kernel
theorem dX5_tireWaiting_0 : decode cX5_tireWaiting 0 = .ok (.iconst 0, 1) := by decide +kernel
theorem dX5_tireWaiting_1 : decode cX5_tireWaiting 1 = .ok (.istore_n 1, 1) := by decide +kernel
theorem dX5_tireWaiting_2 : decode cX5_tireWaiting 2 = .ok (.iconst 0, 1) := by decide +kernel
theorem dX5_tireWaiting_3 : decode cX5_tireWaiting 3 = .ok (.istore_n 2, 1) := by decide +kernel
theorem dX5_tireWaiting_4 : decode cX5_tireWaiting 4 = .ok (.iload_n 2, 1) := by decide +kernel
theorem dX5_tireWaiting_5 : decode cX5_tireWaiting 5 = .ok (.aload_n 0, 1) := by decide +kernel
theorem dX5_tireWaiting_6 : decode cX5_tireWaiting 6 = .ok (.getfield 49, 3) := by decide +kernel
theorem dX5_tireWaiting_9 : decode cX5_tireWaiting 9 = .ok (.if_icmp .ge 70, 3) := by decide +kernel
theorem dX5_tireWaiting_12 : decode cX5_tireWaiting 12 = .ok (.aload_n 0, 1) := by decide +kernel
theorem dX5_tireWaiting_13 : decode cX5_tireWaiting 13 = .ok (.getfield 23, 3) := by decide +kernel
theorem dX5_tireWaiting_16 : decode cX5_tireWaiting 16 = .ok (.iload_n 2, 1) := by decide +kernel
theorem dX5_tireWaiting_17 : decode cX5_tireWaiting 17 = .ok (.iaload, 1) := by decide +kernel
theorem dX5_tireWaiting_18 : decode cX5_tireWaiting 18 = .ok (.istore_n 3, 1) := by decide +kernel
theorem dX5_tireWaiting_19 : decode cX5_tireWaiting 19 = .ok (.aload_n 0, 1) := by decide +kernel
theorem dX5_tireWaiting_20 : decode cX5_tireWaiting 20 = .ok (.getfield 11, 3) := by decide +kernel
theorem dX5_tireWaiting_23 : decode cX5_tireWaiting 23 = .ok (.iload_n 3, 1) := by decide +kernel
theorem dX5_tireWaiting_24 : decode cX5_tireWaiting 24 = .ok (.aaload, 1) := by decide +kernel
theorem dX5_tireWaiting_25 : decode cX5_tireWaiting 25 = .ok (.astore 4, 2) := by decide +kernel
theorem dX5_tireWaiting_27 : decode cX5_tireWaiting 27 = .ok (.aload 4, 2) := by decide +kernel
theorem dX5_tireWaiting_29 : decode cX5_tireWaiting 29 = .ok (.dup, 1) := by decide +kernel
theorem dX5_tireWaiting_30 : decode cX5_tireWaiting 30 = .ok (.getfield 109, 3) := by decide +kernel
theorem dX5_tireWaiting_33 : decode cX5_tireWaiting 33 = .ok (.iconst 1, 1) := by decide +kernel
theorem dX5_tireWaiting_34 : decode cX5_tireWaiting 34 = .ok (.iadd, 1) := by decide +kernel
theorem dX5_tireWaiting_35 : decode cX5_tireWaiting 35 = .ok (.putfield 109, 3) := by decide +kernel
theorem dX5_tireWaiting_38 : decode cX5_tireWaiting 38 = .ok (.aload_n 0, 1) := by decide +kernel
theorem dX5_tireWaiting_39 : decode cX5_tireWaiting 39 = .ok (.getfield 27, 3) := by decide +kernel
theorem dX5_tireWaiting_42 : decode cX5_tireWaiting 42 = .ok (.getfield 58, 3) := by decide +kernel
theorem dX5_tireWaiting_45 : decode cX5_tireWaiting 45 = .ok (.iload_n 3, 1) := by decide +kernel
theorem dX5_tireWaiting_46 : decode cX5_tireWaiting 46 = .ok (.aaload, 1) := by decide +kernel
theorem dX5_tireWaiting_47 : decode cX5_tireWaiting 47 = .ok (.aload 4, 2) := by decide +kernel
theorem dX5_tireWaiting_49 : decode cX5_tireWaiting 49 = .ok (.invokestatic 170, 3) := by decide +kernel
theorem dX5_tireWaiting_52 : decode cX5_tireWaiting 52 = .ok (.ifCond .eq 11, 3) := by decide +kernel
theorem dX5_tireWaiting_55 : decode cX5_tireWaiting 55 = .ok (.aload 4, 2) := by decide +kernel
theorem dX5_tireWaiting_57 : decode cX5_tireWaiting 57 = .ok (.invokevirtual 174, 3) := by decide +kernel
theorem dX5_tireWaiting_60 : decode cX5_tireWaiting 60 = .ok (.goto 13, 3) := by decide +kernel
theorem dX5_tireWaiting_63 : decode cX5_tireWaiting 63 = .ok (.aload_n 0, 1) := by decide +kernel
theorem dX5_tireWaiting_64 : decode cX5_tireWaiting 64 = .ok (.getfield 23, 3) := by decide +kernel
theorem dX5_tireWaiting_67 : decode cX5_tireWaiting 67 = .ok (.iload_n 1, 1) := by decide +kernel
theorem dX5_tireWaiting_68 : decode cX5_tireWaiting 68 = .ok (.iload_n 3, 1) := by decide +kernel
theorem dX5_tireWaiting_69 : decode cX5_tireWaiting 69 = .ok (.iastore, 1) := by decide +kernel
theorem dX5_tireWaiting_70 : decode cX5_tireWaiting 70 = .ok (.iinc 1 1, 3) := by decide +kernel
theorem dX5_tireWaiting_73 : decode cX5_tireWaiting 73 = .ok (.iinc 2 1, 3) := by decide +kernel
theorem dX5_tireWaiting_76 : decode cX5_tireWaiting 76 = .ok (.goto (-72), 3) := by decide +kernel
theorem dX5_tireWaiting_79 : decode cX5_tireWaiting 79 = .ok (.aload_n 0, 1) := by decide +kernel
theorem dX5_tireWaiting_80 : decode cX5_tireWaiting 80 = .ok (.iload_n 1, 1) := by decide +kernel
theorem dX5_tireWaiting_81 : decode cX5_tireWaiting 81 = .ok (.putfield 49, 3) := by decide +kernel
theorem dX5_tireWaiting_84 : decode cX5_tireWaiting 84 = .ok (.return_, 1) := by decide +kernel
theorem dX5_givesUp_0 : decode cX5_givesUp 0 = .ok (.aload_n 0, 1) := by decide +kernel
theorem dX5_givesUp_1 : decode cX5_givesUp 1 = .ok (.getfield 158, 3) := by decide +kernel
theorem dX5_givesUp_4 : decode cX5_givesUp 4 = .ok (.aload_n 1, 1) := by decide +kernel
theorem dX5_givesUp_5 : decode cX5_givesUp 5 = .ok (.getfield 162, 3) := by decide +kernel
theorem dX5_givesUp_8 : decode cX5_givesUp 8 = .ok (.invokevirtual 177, 3) := by decide +kernel
theorem dX5_givesUp_11 : decode cX5_givesUp 11 = .ok (.iconst (-1), 1) := by decide +kernel
theorem dX5_givesUp_12 : decode cX5_givesUp 12 = .ok (.if_icmp .eq 14, 3) := by decide +kernel
theorem dX5_givesUp_15 : decode cX5_givesUp 15 = .ok (.aload_n 1, 1) := by decide +kernel
theorem dX5_givesUp_16 : decode cX5_givesUp 16 = .ok (.getfield 109, 3) := by decide +kernel
theorem dX5_givesUp_19 : decode cX5_givesUp 19 = .ok (.aload_n 0, 1) := by decide +kernel
theorem dX5_givesUp_20 : decode cX5_givesUp 20 = .ok (.getfield 180, 3) := by decide +kernel
theorem dX5_givesUp_23 : decode cX5_givesUp 23 = .ok (.if_icmp .lt 7, 3) := by decide +kernel
theorem dX5_givesUp_26 : decode cX5_givesUp 26 = .ok (.iconst 1, 1) := by decide +kernel
theorem dX5_givesUp_27 : decode cX5_givesUp 27 = .ok (.goto 4, 3) := by decide +kernel
theorem dX5_givesUp_30 : decode cX5_givesUp 30 = .ok (.iconst 0, 1) := by decide +kernel
theorem dX5_givesUp_31 : decode cX5_givesUp 31 = .ok (.ireturn, 1) := by decide +kernel
theorem dX5_queueLength_0 : decode cX5_queueLength 0 = .ok (.iconst 0, 1) := by decide +kernel
theorem dX5_queueLength_1 : decode cX5_queueLength 1 = .ok (.istore_n 2, 1) := by decide +kernel
theorem dX5_queueLength_2 : decode cX5_queueLength 2 = .ok (.iconst 0, 1) := by decide +kernel
theorem dX5_queueLength_3 : decode cX5_queueLength 3 = .ok (.istore_n 3, 1) := by decide +kernel
theorem dX5_queueLength_4 : decode cX5_queueLength 4 = .ok (.iload_n 3, 1) := by decide +kernel
theorem dX5_queueLength_5 : decode cX5_queueLength 5 = .ok (.aload_n 0, 1) := by decide +kernel
theorem dX5_queueLength_6 : decode cX5_queueLength 6 = .ok (.getfield 49, 3) := by decide +kernel
theorem dX5_queueLength_9 : decode cX5_queueLength 9 = .ok (.if_icmp .ge 30, 3) := by decide +kernel
theorem dX5_queueLength_12 : decode cX5_queueLength 12 = .ok (.aload_n 0, 1) := by decide +kernel
theorem dX5_queueLength_13 : decode cX5_queueLength 13 = .ok (.getfield 11, 3) := by decide +kernel
theorem dX5_queueLength_16 : decode cX5_queueLength 16 = .ok (.aload_n 0, 1) := by decide +kernel
theorem dX5_queueLength_17 : decode cX5_queueLength 17 = .ok (.getfield 23, 3) := by decide +kernel
theorem dX5_queueLength_20 : decode cX5_queueLength 20 = .ok (.iload_n 3, 1) := by decide +kernel
theorem dX5_queueLength_21 : decode cX5_queueLength 21 = .ok (.iaload, 1) := by decide +kernel
theorem dX5_queueLength_22 : decode cX5_queueLength 22 = .ok (.aaload, 1) := by decide +kernel
theorem dX5_queueLength_23 : decode cX5_queueLength 23 = .ok (.getfield 162, 3) := by decide +kernel
theorem dX5_queueLength_26 : decode cX5_queueLength 26 = .ok (.iload_n 1, 1) := by decide +kernel
theorem dX5_queueLength_27 : decode cX5_queueLength 27 = .ok (.if_icmp .ne 6, 3) := by decide +kernel
theorem dX5_queueLength_30 : decode cX5_queueLength 30 = .ok (.iinc 2 1, 3) := by decide +kernel
theorem dX5_queueLength_33 : decode cX5_queueLength 33 = .ok (.iinc 3 1, 3) := by decide +kernel
theorem dX5_queueLength_36 : decode cX5_queueLength 36 = .ok (.goto (-32), 3) := by decide +kernel
theorem dX5_queueLength_39 : decode cX5_queueLength 39 = .ok (.iload_n 2, 1) := by decide +kernel
theorem dX5_queueLength_40 : decode cX5_queueLength 40 = .ok (.ireturn, 1) := by decide +kernel
theorem dX5_inQueue_0 : decode cX5_inQueue 0 = .ok (.iconst 0, 1) := by decide +kernel
theorem dX5_inQueue_1 : decode cX5_inQueue 1 = .ok (.istore_n 3, 1) := by decide +kernel
theorem dX5_inQueue_2 : decode cX5_inQueue 2 = .ok (.iconst 0, 1) := by decide +kernel
theorem dX5_inQueue_3 : decode cX5_inQueue 3 = .ok (.istore 4, 2) := by decide +kernel
theorem dX5_inQueue_5 : decode cX5_inQueue 5 = .ok (.iload 4, 2) := by decide +kernel
theorem dX5_inQueue_7 : decode cX5_inQueue 7 = .ok (.aload_n 0, 1) := by decide +kernel
theorem dX5_inQueue_8 : decode cX5_inQueue 8 = .ok (.getfield 49, 3) := by decide +kernel
theorem dX5_inQueue_11 : decode cX5_inQueue 11 = .ok (.if_icmp .ge 44, 3) := by decide +kernel
theorem dX5_inQueue_14 : decode cX5_inQueue 14 = .ok (.aload_n 0, 1) := by decide +kernel
theorem dX5_inQueue_15 : decode cX5_inQueue 15 = .ok (.getfield 11, 3) := by decide +kernel
theorem dX5_inQueue_18 : decode cX5_inQueue 18 = .ok (.aload_n 0, 1) := by decide +kernel
theorem dX5_inQueue_19 : decode cX5_inQueue 19 = .ok (.getfield 23, 3) := by decide +kernel
theorem dX5_inQueue_22 : decode cX5_inQueue 22 = .ok (.iload 4, 2) := by decide +kernel
theorem dX5_inQueue_24 : decode cX5_inQueue 24 = .ok (.iaload, 1) := by decide +kernel
theorem dX5_inQueue_25 : decode cX5_inQueue 25 = .ok (.aaload, 1) := by decide +kernel
theorem dX5_inQueue_26 : decode cX5_inQueue 26 = .ok (.getfield 162, 3) := by decide +kernel
theorem dX5_inQueue_29 : decode cX5_inQueue 29 = .ok (.iload_n 1, 1) := by decide +kernel
theorem dX5_inQueue_30 : decode cX5_inQueue 30 = .ok (.if_icmp .ne 19, 3) := by decide +kernel
theorem dX5_inQueue_33 : decode cX5_inQueue 33 = .ok (.iload_n 3, 1) := by decide +kernel
theorem dX5_inQueue_34 : decode cX5_inQueue 34 = .ok (.iload_n 2, 1) := by decide +kernel
theorem dX5_inQueue_35 : decode cX5_inQueue 35 = .ok (.if_icmp .ne 11, 3) := by decide +kernel
theorem dX5_inQueue_38 : decode cX5_inQueue 38 = .ok (.aload_n 0, 1) := by decide +kernel
theorem dX5_inQueue_39 : decode cX5_inQueue 39 = .ok (.getfield 23, 3) := by decide +kernel
theorem dX5_inQueue_42 : decode cX5_inQueue 42 = .ok (.iload 4, 2) := by decide +kernel
theorem dX5_inQueue_44 : decode cX5_inQueue 44 = .ok (.iaload, 1) := by decide +kernel
theorem dX5_inQueue_45 : decode cX5_inQueue 45 = .ok (.ireturn, 1) := by decide +kernel
theorem dX5_inQueue_46 : decode cX5_inQueue 46 = .ok (.iinc 3 1, 3) := by decide +kernel
theorem dX5_inQueue_49 : decode cX5_inQueue 49 = .ok (.iinc 4 1, 3) := by decide +kernel
theorem dX5_inQueue_52 : decode cX5_inQueue 52 = .ok (.goto (-47), 3) := by decide +kernel
theorem dX5_inQueue_55 : decode cX5_inQueue 55 = .ok (.iconst (-1), 1) := by decide +kernel
theorem dX5_inQueue_56 : decode cX5_inQueue 56 = .ok (.ireturn, 1) := by decide +kernel
theorem dX5_arrivedAt_0 : decode cX5_arrivedAt 0 = .ok (.iconst 0, 1) := by decide +kernel
theorem dX5_arrivedAt_1 : decode cX5_arrivedAt 1 = .ok (.istore_n 2, 1) := by decide +kernel
theorem dX5_arrivedAt_2 : decode cX5_arrivedAt 2 = .ok (.iconst 0, 1) := by decide +kernel
theorem dX5_arrivedAt_3 : decode cX5_arrivedAt 3 = .ok (.istore_n 3, 1) := by decide +kernel
theorem dX5_arrivedAt_4 : decode cX5_arrivedAt 4 = .ok (.iload_n 3, 1) := by decide +kernel
theorem dX5_arrivedAt_5 : decode cX5_arrivedAt 5 = .ok (.aload_n 0, 1) := by decide +kernel
theorem dX5_arrivedAt_6 : decode cX5_arrivedAt 6 = .ok (.getfield 27, 3) := by decide +kernel
theorem dX5_arrivedAt_9 : decode cX5_arrivedAt 9 = .ok (.getfield 33, 3) := by decide +kernel
theorem dX5_arrivedAt_12 : decode cX5_arrivedAt 12 = .ok (.if_icmp .ge 38, 3) := by decide +kernel
theorem dX5_arrivedAt_15 : decode cX5_arrivedAt 15 = .ok (.aload_n 0, 1) := by decide +kernel
theorem dX5_arrivedAt_16 : decode cX5_arrivedAt 16 = .ok (.getfield 11, 3) := by decide +kernel
theorem dX5_arrivedAt_19 : decode cX5_arrivedAt 19 = .ok (.iload_n 3, 1) := by decide +kernel
theorem dX5_arrivedAt_20 : decode cX5_arrivedAt 20 = .ok (.aaload, 1) := by decide +kernel
theorem dX5_arrivedAt_21 : decode cX5_arrivedAt 21 = .ok (.getfield 183, 3) := by decide +kernel
theorem dX5_arrivedAt_24 : decode cX5_arrivedAt 24 = .ok (.iconst 2, 1) := by decide +kernel
theorem dX5_arrivedAt_25 : decode cX5_arrivedAt 25 = .ok (.if_icmp .ne 19, 3) := by decide +kernel
theorem dX5_arrivedAt_28 : decode cX5_arrivedAt 28 = .ok (.aload_n 0, 1) := by decide +kernel
theorem dX5_arrivedAt_29 : decode cX5_arrivedAt 29 = .ok (.getfield 11, 3) := by decide +kernel
theorem dX5_arrivedAt_32 : decode cX5_arrivedAt 32 = .ok (.iload_n 3, 1) := by decide +kernel
theorem dX5_arrivedAt_33 : decode cX5_arrivedAt 33 = .ok (.aaload, 1) := by decide +kernel
theorem dX5_arrivedAt_34 : decode cX5_arrivedAt 34 = .ok (.getfield 162, 3) := by decide +kernel
theorem dX5_arrivedAt_37 : decode cX5_arrivedAt 37 = .ok (.iload_n 1, 1) := by decide +kernel
theorem dX5_arrivedAt_38 : decode cX5_arrivedAt 38 = .ok (.if_icmp .ne 6, 3) := by decide +kernel
theorem dX5_arrivedAt_41 : decode cX5_arrivedAt 41 = .ok (.iinc 2 1, 3) := by decide +kernel
theorem dX5_arrivedAt_44 : decode cX5_arrivedAt 44 = .ok (.iinc 3 1, 3) := by decide +kernel
theorem dX5_arrivedAt_47 : decode cX5_arrivedAt 47 = .ok (.goto (-43), 3) := by decide +kernel
theorem dX5_arrivedAt_50 : decode cX5_arrivedAt 50 = .ok (.iload_n 2, 1) := by decide +kernel
theorem dX5_arrivedAt_51 : decode cX5_arrivedAt 51 = .ok (.ireturn, 1) := by decide +kernel
theorem dX5_ridersIn_0 : decode cX5_ridersIn 0 = .ok (.iconst 0, 1) := by decide +kernel
theorem dX5_ridersIn_1 : decode cX5_ridersIn 1 = .ok (.istore_n 2, 1) := by decide +kernel
theorem dX5_ridersIn_2 : decode cX5_ridersIn 2 = .ok (.iconst 0, 1) := by decide +kernel
theorem dX5_ridersIn_3 : decode cX5_ridersIn 3 = .ok (.istore_n 3, 1) := by decide +kernel
theorem dX5_ridersIn_4 : decode cX5_ridersIn 4 = .ok (.iload_n 3, 1) := by decide +kernel
theorem dX5_ridersIn_5 : decode cX5_ridersIn 5 = .ok (.aload_n 0, 1) := by decide +kernel
theorem dX5_ridersIn_6 : decode cX5_ridersIn 6 = .ok (.getfield 27, 3) := by decide +kernel
theorem dX5_ridersIn_9 : decode cX5_ridersIn 9 = .ok (.getfield 33, 3) := by decide +kernel
theorem dX5_ridersIn_12 : decode cX5_ridersIn 12 = .ok (.if_icmp .ge 25, 3) := by decide +kernel
theorem dX5_ridersIn_15 : decode cX5_ridersIn 15 = .ok (.aload_n 0, 1) := by decide +kernel
theorem dX5_ridersIn_16 : decode cX5_ridersIn 16 = .ok (.getfield 11, 3) := by decide +kernel
theorem dX5_ridersIn_19 : decode cX5_ridersIn 19 = .ok (.iload_n 3, 1) := by decide +kernel
theorem dX5_ridersIn_20 : decode cX5_ridersIn 20 = .ok (.aaload, 1) := by decide +kernel
theorem dX5_ridersIn_21 : decode cX5_ridersIn 21 = .ok (.getfield 183, 3) := by decide +kernel
theorem dX5_ridersIn_24 : decode cX5_ridersIn 24 = .ok (.iload_n 1, 1) := by decide +kernel
theorem dX5_ridersIn_25 : decode cX5_ridersIn 25 = .ok (.if_icmp .ne 6, 3) := by decide +kernel
theorem dX5_ridersIn_28 : decode cX5_ridersIn 28 = .ok (.iinc 2 1, 3) := by decide +kernel
theorem dX5_ridersIn_31 : decode cX5_ridersIn 31 = .ok (.iinc 3 1, 3) := by decide +kernel
theorem dX5_ridersIn_34 : decode cX5_ridersIn 34 = .ok (.goto (-30), 3) := by decide +kernel
theorem dX5_ridersIn_37 : decode cX5_ridersIn 37 = .ok (.iload_n 2, 1) := by decide +kernel
theorem dX5_ridersIn_38 : decode cX5_ridersIn 38 = .ok (.ireturn, 1) := by decide +kernel
theorem dX5_trolleysInAll_0 : decode cX5_trolleysInAll 0 = .ok (.iconst 0, 1) := by decide +kernel
theorem dX5_trolleysInAll_1 : decode cX5_trolleysInAll 1 = .ok (.istore_n 1, 1) := by decide +kernel
theorem dX5_trolleysInAll_2 : decode cX5_trolleysInAll 2 = .ok (.iconst 0, 1) := by decide +kernel
theorem dX5_trolleysInAll_3 : decode cX5_trolleysInAll 3 = .ok (.istore_n 2, 1) := by decide +kernel
theorem dX5_trolleysInAll_4 : decode cX5_trolleysInAll 4 = .ok (.iload_n 2, 1) := by decide +kernel
theorem dX5_trolleysInAll_5 : decode cX5_trolleysInAll 5 = .ok (.aload_n 0, 1) := by decide +kernel
theorem dX5_trolleysInAll_6 : decode cX5_trolleysInAll 6 = .ok (.getfield 27, 3) := by decide +kernel
theorem dX5_trolleysInAll_9 : decode cX5_trolleysInAll 9 = .ok (.getfield 43, 3) := by decide +kernel
theorem dX5_trolleysInAll_12 : decode cX5_trolleysInAll 12 = .ok (.if_icmp .ge 21, 3) := by decide +kernel
theorem dX5_trolleysInAll_15 : decode cX5_trolleysInAll 15 = .ok (.iload_n 1, 1) := by decide +kernel
theorem dX5_trolleysInAll_16 : decode cX5_trolleysInAll 16 = .ok (.aload_n 0, 1) := by decide +kernel
theorem dX5_trolleysInAll_17 : decode cX5_trolleysInAll 17 = .ok (.getfield 19, 3) := by decide +kernel
theorem dX5_trolleysInAll_20 : decode cX5_trolleysInAll 20 = .ok (.iload_n 2, 1) := by decide +kernel
theorem dX5_trolleysInAll_21 : decode cX5_trolleysInAll 21 = .ok (.aaload, 1) := by decide +kernel
theorem dX5_trolleysInAll_22 : decode cX5_trolleysInAll 22 = .ok (.invokevirtual 186, 3) := by decide +kernel
theorem dX5_trolleysInAll_25 : decode cX5_trolleysInAll 25 = .ok (.iadd, 1) := by decide +kernel
theorem dX5_trolleysInAll_26 : decode cX5_trolleysInAll 26 = .ok (.istore_n 1, 1) := by decide +kernel
theorem dX5_trolleysInAll_27 : decode cX5_trolleysInAll 27 = .ok (.iinc 2 1, 3) := by decide +kernel
theorem dX5_trolleysInAll_30 : decode cX5_trolleysInAll 30 = .ok (.goto (-26), 3) := by decide +kernel
theorem dX5_trolleysInAll_33 : decode cX5_trolleysInAll 33 = .ok (.iload_n 1, 1) := by decide +kernel
theorem dX5_trolleysInAll_34 : decode cX5_trolleysInAll 34 = .ok (.ireturn, 1) := by decide +kernel
theorem dX5_ridesInAll_0 : decode cX5_ridesInAll 0 = .ok (.iconst 0, 1) := by decide +kernel
theorem dX5_ridesInAll_1 : decode cX5_ridesInAll 1 = .ok (.istore_n 1, 1) := by decide +kernel
theorem dX5_ridesInAll_2 : decode cX5_ridesInAll 2 = .ok (.iconst 0, 1) := by decide +kernel
theorem dX5_ridesInAll_3 : decode cX5_ridesInAll 3 = .ok (.istore_n 2, 1) := by decide +kernel
theorem dX5_ridesInAll_4 : decode cX5_ridesInAll 4 = .ok (.iload_n 2, 1) := by decide +kernel
theorem dX5_ridesInAll_5 : decode cX5_ridesInAll 5 = .ok (.aload_n 0, 1) := by decide +kernel
theorem dX5_ridesInAll_6 : decode cX5_ridesInAll 6 = .ok (.getfield 27, 3) := by decide +kernel
theorem dX5_ridesInAll_9 : decode cX5_ridesInAll 9 = .ok (.getfield 43, 3) := by decide +kernel
theorem dX5_ridesInAll_12 : decode cX5_ridesInAll 12 = .ok (.if_icmp .ge 21, 3) := by decide +kernel
theorem dX5_ridesInAll_15 : decode cX5_ridesInAll 15 = .ok (.iload_n 1, 1) := by decide +kernel
theorem dX5_ridesInAll_16 : decode cX5_ridesInAll 16 = .ok (.aload_n 0, 1) := by decide +kernel
theorem dX5_ridesInAll_17 : decode cX5_ridesInAll 17 = .ok (.getfield 19, 3) := by decide +kernel
theorem dX5_ridesInAll_20 : decode cX5_ridesInAll 20 = .ok (.iload_n 2, 1) := by decide +kernel
theorem dX5_ridesInAll_21 : decode cX5_ridesInAll 21 = .ok (.aaload, 1) := by decide +kernel
theorem dX5_ridesInAll_22 : decode cX5_ridesInAll 22 = .ok (.getfield 189, 3) := by decide +kernel
theorem dX5_ridesInAll_25 : decode cX5_ridesInAll 25 = .ok (.iadd, 1) := by decide +kernel
theorem dX5_ridesInAll_26 : decode cX5_ridesInAll 26 = .ok (.istore_n 1, 1) := by decide +kernel
theorem dX5_ridesInAll_27 : decode cX5_ridesInAll 27 = .ok (.iinc 2 1, 3) := by decide +kernel
theorem dX5_ridesInAll_30 : decode cX5_ridesInAll 30 = .ok (.goto (-26), 3) := by decide +kernel
theorem dX5_ridesInAll_33 : decode cX5_ridesInAll 33 = .ok (.iload_n 1, 1) := by decide +kernel
theorem dX5_ridesInAll_34 : decode cX5_ridesInAll 34 = .ok (.ireturn, 1) := by decide +kernel
theorem dX8_init_0 : decode cX8_init 0 = .ok (.aload_n 0, 1) := by decide +kernel
theorem dX8_init_1 : decode cX8_init 1 = .ok (.invokespecial 1, 3) := by decide +kernel
theorem dX8_init_4 : decode cX8_init 4 = .ok (.aload_n 0, 1) := by decide +kernel
theorem dX8_init_5 : decode cX8_init 5 = .ok (.new 7, 3) := by decide +kernel
theorem dX8_init_8 : decode cX8_init 8 = .ok (.dup, 1) := by decide +kernel
theorem dX8_init_9 : decode cX8_init 9 = .ok (.invokespecial 9, 3) := by decide +kernel
theorem dX8_init_12 : decode cX8_init 12 = .ok (.putfield 10, 3) := by decide +kernel
theorem dX8_init_15 : decode cX8_init 15 = .ok (.aload_n 0, 1) := by decide +kernel
theorem dX8_init_16 : decode cX8_init 16 = .ok (.new 16, 3) := by decide +kernel
theorem dX8_init_19 : decode cX8_init 19 = .ok (.dup, 1) := by decide +kernel
theorem dX8_init_20 : decode cX8_init 20 = .ok (.aload_n 0, 1) := by decide +kernel
theorem dX8_init_21 : decode cX8_init 21 = .ok (.getfield 10, 3) := by decide +kernel
theorem dX8_init_24 : decode cX8_init 24 = .ok (.invokespecial 18, 3) := by decide +kernel
theorem dX8_init_27 : decode cX8_init 27 = .ok (.putfield 21, 3) := by decide +kernel
theorem dX8_init_30 : decode cX8_init 30 = .ok (.aload_n 0, 1) := by decide +kernel
theorem dX8_init_31 : decode cX8_init 31 = .ok (.new 16, 3) := by decide +kernel
theorem dX8_init_34 : decode cX8_init 34 = .ok (.dup, 1) := by decide +kernel
theorem dX8_init_35 : decode cX8_init 35 = .ok (.aload_n 0, 1) := by decide +kernel
theorem dX8_init_36 : decode cX8_init 36 = .ok (.getfield 10, 3) := by decide +kernel
theorem dX8_init_39 : decode cX8_init 39 = .ok (.invokespecial 18, 3) := by decide +kernel
theorem dX8_init_42 : decode cX8_init 42 = .ok (.putfield 25, 3) := by decide +kernel
theorem dX8_init_45 : decode cX8_init 45 = .ok (.aload_n 0, 1) := by decide +kernel
theorem dX8_init_46 : decode cX8_init 46 = .ok (.new 28, 3) := by decide +kernel
theorem dX8_init_49 : decode cX8_init 49 = .ok (.dup, 1) := by decide +kernel
theorem dX8_init_50 : decode cX8_init 50 = .ok (.invokespecial 30, 3) := by decide +kernel
theorem dX8_init_53 : decode cX8_init 53 = .ok (.putfield 31, 3) := by decide +kernel
theorem dX8_init_56 : decode cX8_init 56 = .ok (.return_, 1) := by decide +kernel
theorem dX8_build_0 : decode cX8_build 0 = .ok (.iload_n 1, 1) := by decide +kernel
theorem dX8_build_1 : decode cX8_build 1 = .ok (.iconst 0, 1) := by decide +kernel
theorem dX8_build_2 : decode cX8_build 2 = .ok (.bipush 40, 2) := by decide +kernel
theorem dX8_build_4 : decode cX8_build 4 = .ok (.invokestatic 35, 3) := by decide +kernel
theorem dX8_build_7 : decode cX8_build 7 = .ok (.ifCond .eq 23, 3) := by decide +kernel
theorem dX8_build_10 : decode cX8_build 10 = .ok (.iload_n 2, 1) := by decide +kernel
theorem dX8_build_11 : decode cX8_build 11 = .ok (.iconst 0, 1) := by decide +kernel
theorem dX8_build_12 : decode cX8_build 12 = .ok (.bipush 40, 2) := by decide +kernel
theorem dX8_build_14 : decode cX8_build 14 = .ok (.invokestatic 35, 3) := by decide +kernel
theorem dX8_build_17 : decode cX8_build 17 = .ok (.ifCond .eq 13, 3) := by decide +kernel
theorem dX8_build_20 : decode cX8_build 20 = .ok (.iload_n 3, 1) := by decide +kernel
theorem dX8_build_21 : decode cX8_build 21 = .ok (.iconst 0, 1) := by decide +kernel
theorem dX8_build_22 : decode cX8_build 22 = .ok (.bipush 60, 2) := by decide +kernel
theorem dX8_build_24 : decode cX8_build 24 = .ok (.invokestatic 35, 3) := by decide +kernel
theorem dX8_build_27 : decode cX8_build 27 = .ok (.ifCond .ne 13, 3) := by decide +kernel
theorem dX8_build_30 : decode cX8_build 30 = .ok (.new 39, 3) := by decide +kernel
theorem dX8_build_33 : decode cX8_build 33 = .ok (.dup, 1) := by decide +kernel
theorem dX8_build_34 : decode cX8_build 34 = .ok (.ldc 41, 2) := by decide +kernel
theorem dX8_build_36 : decode cX8_build 36 = .ok (.invokespecial 43, 3) := by decide +kernel
theorem dX8_build_39 : decode cX8_build 39 = .ok (.athrow, 1) := by decide +kernel
theorem dX8_build_40 : decode cX8_build 40 = .ok (.aload_n 0, 1) := by decide +kernel
theorem dX8_build_41 : decode cX8_build 41 = .ok (.getfield 10, 3) := by decide +kernel
theorem dX8_build_44 : decode cX8_build 44 = .ok (.iload_n 1, 1) := by decide +kernel
theorem dX8_build_45 : decode cX8_build 45 = .ok (.iload_n 2, 1) := by decide +kernel
theorem dX8_build_46 : decode cX8_build 46 = .ok (.invokevirtual 46, 3) := by decide +kernel
theorem dX8_build_49 : decode cX8_build 49 = .ok (.ifCond .ne 15, 3) := by decide +kernel
theorem dX8_build_52 : decode cX8_build 52 = .ok (.aload_n 0, 1) := by decide +kernel
theorem dX8_build_53 : decode cX8_build 53 = .ok (.getfield 10, 3) := by decide +kernel
theorem dX8_build_56 : decode cX8_build 56 = .ok (.getfield 50, 3) := by decide +kernel
theorem dX8_build_59 : decode cX8_build 59 = .ok (.bipush 8, 2) := by decide +kernel
theorem dX8_build_61 : decode cX8_build 61 = .ok (.if_icmp .lt 13, 3) := by decide +kernel
theorem dX8_build_64 : decode cX8_build 64 = .ok (.new 54, 3) := by decide +kernel
theorem dX8_build_67 : decode cX8_build 67 = .ok (.dup, 1) := by decide +kernel
theorem dX8_build_68 : decode cX8_build 68 = .ok (.ldc 56, 2) := by decide +kernel
theorem dX8_build_70 : decode cX8_build 70 = .ok (.invokespecial 58, 3) := by decide +kernel
theorem dX8_build_73 : decode cX8_build 73 = .ok (.athrow, 1) := by decide +kernel
theorem dX8_build_74 : decode cX8_build 74 = .ok (.aload_n 0, 1) := by decide +kernel
theorem dX8_build_75 : decode cX8_build 75 = .ok (.getfield 10, 3) := by decide +kernel
theorem dX8_build_78 : decode cX8_build 78 = .ok (.iload_n 1, 1) := by decide +kernel
theorem dX8_build_79 : decode cX8_build 79 = .ok (.iload_n 2, 1) := by decide +kernel
theorem dX8_build_80 : decode cX8_build 80 = .ok (.iload_n 3, 1) := by decide +kernel
theorem dX8_build_81 : decode cX8_build 81 = .ok (.invokevirtual 59, 3) := by decide +kernel
theorem dX8_build_84 : decode cX8_build 84 = .ok (.ireturn, 1) := by decide +kernel
theorem dX8_span_0 : decode cX8_span 0 = .ok (.aload_n 0, 1) := by decide +kernel
theorem dX8_span_1 : decode cX8_span 1 = .ok (.iload_n 1, 1) := by decide +kernel
theorem dX8_span_2 : decode cX8_span 2 = .ok (.invokevirtual 63, 3) := by decide +kernel
theorem dX8_span_5 : decode cX8_span 5 = .ok (.ifCond .eq 11, 3) := by decide +kernel
theorem dX8_span_8 : decode cX8_span 8 = .ok (.aload_n 0, 1) := by decide +kernel
theorem dX8_span_9 : decode cX8_span 9 = .ok (.iload_n 2, 1) := by decide +kernel
theorem dX8_span_10 : decode cX8_span 10 = .ok (.invokevirtual 63, 3) := by decide +kernel
theorem dX8_span_13 : decode cX8_span 13 = .ok (.ifCond .ne 13, 3) := by decide +kernel
theorem dX8_span_16 : decode cX8_span 16 = .ok (.new 67, 3) := by decide +kernel
theorem dX8_span_19 : decode cX8_span 19 = .ok (.dup, 1) := by decide +kernel
theorem dX8_span_20 : decode cX8_span 20 = .ok (.ldc 69, 2) := by decide +kernel
theorem dX8_span_22 : decode cX8_span 22 = .ok (.invokespecial 71, 3) := by decide +kernel
theorem dX8_span_25 : decode cX8_span 25 = .ok (.athrow, 1) := by decide +kernel
theorem dX8_span_26 : decode cX8_span 26 = .ok (.aload_n 0, 1) := by decide +kernel
theorem dX8_span_27 : decode cX8_span 27 = .ok (.getfield 10, 3) := by decide +kernel
theorem dX8_span_30 : decode cX8_span 30 = .ok (.iload_n 2, 1) := by decide +kernel
theorem dX8_span_31 : decode cX8_span 31 = .ok (.iload_n 1, 1) := by decide +kernel
theorem dX8_span_32 : decode cX8_span 32 = .ok (.invokevirtual 72, 3) := by decide +kernel
theorem dX8_span_35 : decode cX8_span 35 = .ok (.ifCond .eq 25, 3) := by decide +kernel
theorem dX8_span_38 : decode cX8_span 38 = .ok (.iload_n 3, 1) := by decide +kernel
theorem dX8_span_39 : decode cX8_span 39 = .ok (.bipush 20, 2) := by decide +kernel
theorem dX8_span_41 : decode cX8_span 41 = .ok (.sipush 150, 3) := by decide +kernel
theorem dX8_span_44 : decode cX8_span 44 = .ok (.invokestatic 35, 3) := by decide +kernel
theorem dX8_span_47 : decode cX8_span 47 = .ok (.ifCond .eq 13, 3) := by decide +kernel
theorem dX8_span_50 : decode cX8_span 50 = .ok (.iload 4, 2) := by decide +kernel
theorem dX8_span_52 : decode cX8_span 52 = .ok (.iconst 1, 1) := by decide +kernel
theorem dX8_span_53 : decode cX8_span 53 = .ok (.iconst 3, 1) := by decide +kernel
theorem dX8_span_54 : decode cX8_span 54 = .ok (.invokestatic 35, 3) := by decide +kernel
theorem dX8_span_57 : decode cX8_span 57 = .ok (.ifCond .ne 13, 3) := by decide +kernel
theorem dX8_span_60 : decode cX8_span 60 = .ok (.new 39, 3) := by decide +kernel
theorem dX8_span_63 : decode cX8_span 63 = .ok (.dup, 1) := by decide +kernel
theorem dX8_span_64 : decode cX8_span 64 = .ok (.ldc 75, 2) := by decide +kernel
theorem dX8_span_66 : decode cX8_span 66 = .ok (.invokespecial 43, 3) := by decide +kernel
theorem dX8_span_69 : decode cX8_span 69 = .ok (.athrow, 1) := by decide +kernel
theorem dX8_span_70 : decode cX8_span 70 = .ok (.aload_n 0, 1) := by decide +kernel
theorem dX8_span_71 : decode cX8_span 71 = .ok (.getfield 10, 3) := by decide +kernel
theorem dX8_span_74 : decode cX8_span 74 = .ok (.getfield 77, 3) := by decide +kernel
theorem dX8_span_77 : decode cX8_span 77 = .ok (.bipush 12, 2) := by decide +kernel
theorem dX8_span_79 : decode cX8_span 79 = .ok (.if_icmp .lt 13, 3) := by decide +kernel
theorem dX8_span_82 : decode cX8_span 82 = .ok (.new 54, 3) := by decide +kernel
theorem dX8_span_85 : decode cX8_span 85 = .ok (.dup, 1) := by decide +kernel
theorem dX8_span_86 : decode cX8_span 86 = .ok (.ldc 80, 2) := by decide +kernel
theorem dX8_span_88 : decode cX8_span 88 = .ok (.invokespecial 58, 3) := by decide +kernel
theorem dX8_span_91 : decode cX8_span 91 = .ok (.athrow, 1) := by decide +kernel
theorem dX8_span_92 : decode cX8_span 92 = .ok (.aload_n 0, 1) := by decide +kernel
theorem dX8_span_93 : decode cX8_span 93 = .ok (.getfield 10, 3) := by decide +kernel
theorem dX8_span_96 : decode cX8_span 96 = .ok (.iload_n 1, 1) := by decide +kernel
theorem dX8_span_97 : decode cX8_span 97 = .ok (.iload_n 2, 1) := by decide +kernel
theorem dX8_span_98 : decode cX8_span 98 = .ok (.iload_n 3, 1) := by decide +kernel
theorem dX8_span_99 : decode cX8_span 99 = .ok (.invokevirtual 82, 3) := by decide +kernel
theorem dX8_span_102 : decode cX8_span 102 = .ok (.istore 5, 2) := by decide +kernel
theorem dX8_span_104 : decode cX8_span 104 = .ok (.aload_n 0, 1) := by decide +kernel
theorem dX8_span_105 : decode cX8_span 105 = .ok (.getfield 21, 3) := by decide +kernel
theorem dX8_span_108 : decode cX8_span 108 = .ok (.iload 5, 2) := by decide +kernel
theorem dX8_span_110 : decode cX8_span 110 = .ok (.iload 4, 2) := by decide +kernel
theorem dX8_span_112 : decode cX8_span 112 = .ok (.invokevirtual 85, 3) := by decide +kernel
theorem dX8_span_115 : decode cX8_span 115 = .ok (.iload 5, 2) := by decide +kernel
theorem dX8_span_117 : decode cX8_span 117 = .ok (.ireturn, 1) := by decide +kernel
theorem dX8_add_0 : decode cX8_add 0 = .ok (.aload_n 0, 1) := by decide +kernel
theorem dX8_add_1 : decode cX8_add 1 = .ok (.iload_n 1, 1) := by decide +kernel
theorem dX8_add_2 : decode cX8_add 2 = .ok (.invokevirtual 89, 3) := by decide +kernel
theorem dX8_add_5 : decode cX8_add 5 = .ok (.ifCond .ne 13, 3) := by decide +kernel
theorem dX8_add_8 : decode cX8_add 8 = .ok (.new 67, 3) := by decide +kernel
theorem dX8_add_11 : decode cX8_add 11 = .ok (.dup, 1) := by decide +kernel
theorem dX8_add_12 : decode cX8_add 12 = .ok (.ldc 92, 2) := by decide +kernel
theorem dX8_add_14 : decode cX8_add 14 = .ok (.invokespecial 71, 3) := by decide +kernel
theorem dX8_add_17 : decode cX8_add 17 = .ok (.athrow, 1) := by decide +kernel
theorem dX8_add_18 : decode cX8_add 18 = .ok (.aload_n 0, 1) := by decide +kernel
theorem dX8_add_19 : decode cX8_add 19 = .ok (.getfield 21, 3) := by decide +kernel
theorem dX8_add_22 : decode cX8_add 22 = .ok (.getfield 94, 3) := by decide +kernel
theorem dX8_add_25 : decode cX8_add 25 = .ok (.iload_n 1, 1) := by decide +kernel
theorem dX8_add_26 : decode cX8_add 26 = .ok (.aaload, 1) := by decide +kernel
theorem dX8_add_27 : decode cX8_add 27 = .ok (.invokevirtual 98, 3) := by decide +kernel
theorem dX8_add_30 : decode cX8_add 30 = .ok (.iconst 3, 1) := by decide +kernel
theorem dX8_add_31 : decode cX8_add 31 = .ok (.if_icmp .lt 13, 3) := by decide +kernel
theorem dX8_add_34 : decode cX8_add 34 = .ok (.new 54, 3) := by decide +kernel
theorem dX8_add_37 : decode cX8_add 37 = .ok (.dup, 1) := by decide +kernel
theorem dX8_add_38 : decode cX8_add 38 = .ok (.ldc 104, 2) := by decide +kernel
theorem dX8_add_40 : decode cX8_add 40 = .ok (.invokespecial 58, 3) := by decide +kernel
theorem dX8_add_43 : decode cX8_add 43 = .ok (.athrow, 1) := by decide +kernel
theorem dX8_add_44 : decode cX8_add 44 = .ok (.aload_n 0, 1) := by decide +kernel
theorem dX8_add_45 : decode cX8_add 45 = .ok (.getfield 21, 3) := by decide +kernel
theorem dX8_add_48 : decode cX8_add 48 = .ok (.iload_n 1, 1) := by decide +kernel
theorem dX8_add_49 : decode cX8_add 49 = .ok (.iconst 1, 1) := by decide +kernel
theorem dX8_add_50 : decode cX8_add 50 = .ok (.invokevirtual 85, 3) := by decide +kernel
theorem dX8_add_53 : decode cX8_add 53 = .ok (.aload_n 0, 1) := by decide +kernel
theorem dX8_add_54 : decode cX8_add 54 = .ok (.getfield 21, 3) := by decide +kernel
theorem dX8_add_57 : decode cX8_add 57 = .ok (.getfield 94, 3) := by decide +kernel
theorem dX8_add_60 : decode cX8_add 60 = .ok (.iload_n 1, 1) := by decide +kernel
theorem dX8_add_61 : decode cX8_add 61 = .ok (.aaload, 1) := by decide +kernel
theorem dX8_add_62 : decode cX8_add 62 = .ok (.invokevirtual 98, 3) := by decide +kernel
theorem dX8_add_65 : decode cX8_add 65 = .ok (.ireturn, 1) := by decide +kernel
theorem dX8_setWind_0 : decode cX8_setWind 0 = .ok (.iload_n 1, 1) := by decide +kernel
theorem dX8_setWind_1 : decode cX8_setWind 1 = .ok (.iconst 0, 1) := by decide +kernel
theorem dX8_setWind_2 : decode cX8_setWind 2 = .ok (.bipush 11, 2) := by decide +kernel
theorem dX8_setWind_4 : decode cX8_setWind 4 = .ok (.invokestatic 35, 3) := by decide +kernel
theorem dX8_setWind_7 : decode cX8_setWind 7 = .ok (.ifCond .ne 13, 3) := by decide +kernel
theorem dX8_setWind_10 : decode cX8_setWind 10 = .ok (.new 67, 3) := by decide +kernel
theorem dX8_setWind_13 : decode cX8_setWind 13 = .ok (.dup, 1) := by decide +kernel
theorem dX8_setWind_14 : decode cX8_setWind 14 = .ok (.ldc 106, 2) := by decide +kernel
theorem dX8_setWind_16 : decode cX8_setWind 16 = .ok (.invokespecial 71, 3) := by decide +kernel
theorem dX8_setWind_19 : decode cX8_setWind 19 = .ok (.athrow, 1) := by decide +kernel
theorem dX8_setWind_20 : decode cX8_setWind 20 = .ok (.iload_n 2, 1) := by decide +kernel
theorem dX8_setWind_21 : decode cX8_setWind 21 = .ok (.iconst 0, 1) := by decide +kernel
theorem dX8_setWind_22 : decode cX8_setWind 22 = .ok (.bipush 9, 2) := by decide +kernel
theorem dX8_setWind_24 : decode cX8_setWind 24 = .ok (.invokestatic 35, 3) := by decide +kernel
theorem dX8_setWind_27 : decode cX8_setWind 27 = .ok (.ifCond .ne 13, 3) := by decide +kernel
theorem dX8_setWind_30 : decode cX8_setWind 30 = .ok (.new 39, 3) := by decide +kernel
theorem dX8_setWind_33 : decode cX8_setWind 33 = .ok (.dup, 1) := by decide +kernel
theorem dX8_setWind_34 : decode cX8_setWind 34 = .ok (.ldc 108, 2) := by decide +kernel
theorem dX8_setWind_36 : decode cX8_setWind 36 = .ok (.invokespecial 43, 3) := by decide +kernel
theorem dX8_setWind_39 : decode cX8_setWind 39 = .ok (.athrow, 1) := by decide +kernel
theorem dX8_setWind_40 : decode cX8_setWind 40 = .ok (.aload_n 0, 1) := by decide +kernel
theorem dX8_setWind_41 : decode cX8_setWind 41 = .ok (.getfield 10, 3) := by decide +kernel
theorem dX8_setWind_44 : decode cX8_setWind 44 = .ok (.getfield 110, 3) := by decide +kernel
theorem dX8_setWind_47 : decode cX8_setWind 47 = .ok (.iload_n 1, 1) := by decide +kernel
theorem dX8_setWind_48 : decode cX8_setWind 48 = .ok (.iaload, 1) := by decide +kernel
theorem dX8_setWind_49 : decode cX8_setWind 49 = .ok (.istore_n 3, 1) := by decide +kernel
theorem dX8_setWind_50 : decode cX8_setWind 50 = .ok (.aload_n 0, 1) := by decide +kernel
theorem dX8_setWind_51 : decode cX8_setWind 51 = .ok (.getfield 10, 3) := by decide +kernel
theorem dX8_setWind_54 : decode cX8_setWind 54 = .ok (.getfield 110, 3) := by decide +kernel
theorem dX8_setWind_57 : decode cX8_setWind 57 = .ok (.iload_n 1, 1) := by decide +kernel
theorem dX8_setWind_58 : decode cX8_setWind 58 = .ok (.iload_n 2, 1) := by decide +kernel
theorem dX8_setWind_59 : decode cX8_setWind 59 = .ok (.iastore, 1) := by decide +kernel
theorem dX8_setWind_60 : decode cX8_setWind 60 = .ok (.iload_n 3, 1) := by decide +kernel
theorem dX8_setWind_61 : decode cX8_setWind 61 = .ok (.ireturn, 1) := by decide +kernel
theorem dX8_platform_0 : decode cX8_platform 0 = .ok (.aload_n 0, 1) := by decide +kernel
theorem dX8_platform_1 : decode cX8_platform 1 = .ok (.iload_n 1, 1) := by decide +kernel
theorem dX8_platform_2 : decode cX8_platform 2 = .ok (.invokevirtual 63, 3) := by decide +kernel
theorem dX8_platform_5 : decode cX8_platform 5 = .ok (.ifCond .eq 13, 3) := by decide +kernel
theorem dX8_platform_8 : decode cX8_platform 8 = .ok (.iload_n 2, 1) := by decide +kernel
theorem dX8_platform_9 : decode cX8_platform 9 = .ok (.iconst 0, 1) := by decide +kernel
theorem dX8_platform_10 : decode cX8_platform 10 = .ok (.bipush 7, 2) := by decide +kernel
theorem dX8_platform_12 : decode cX8_platform 12 = .ok (.invokestatic 35, 3) := by decide +kernel
theorem dX8_platform_15 : decode cX8_platform 15 = .ok (.ifCond .ne 13, 3) := by decide +kernel
theorem dX8_platform_18 : decode cX8_platform 18 = .ok (.new 67, 3) := by decide +kernel
theorem dX8_platform_21 : decode cX8_platform 21 = .ok (.dup, 1) := by decide +kernel
theorem dX8_platform_22 : decode cX8_platform 22 = .ok (.ldc 114, 2) := by decide +kernel
theorem dX8_platform_24 : decode cX8_platform 24 = .ok (.invokespecial 71, 3) := by decide +kernel
theorem dX8_platform_27 : decode cX8_platform 27 = .ok (.athrow, 1) := by decide +kernel
theorem dX8_platform_28 : decode cX8_platform 28 = .ok (.aload_n 0, 1) := by decide +kernel
theorem dX8_platform_29 : decode cX8_platform 29 = .ok (.iload_n 1, 1) := by decide +kernel
theorem dX8_platform_30 : decode cX8_platform 30 = .ok (.iload_n 2, 1) := by decide +kernel
theorem dX8_platform_31 : decode cX8_platform 31 = .ok (.invokevirtual 116, 3) := by decide +kernel
theorem dX8_platform_34 : decode cX8_platform 34 = .ok (.ireturn, 1) := by decide +kernel
theorem dX8_line_0 : decode cX8_line 0 = .ok (.aload_n 0, 1) := by decide +kernel
theorem dX8_line_1 : decode cX8_line 1 = .ok (.iload_n 1, 1) := by decide +kernel
theorem dX8_line_2 : decode cX8_line 2 = .ok (.invokevirtual 89, 3) := by decide +kernel
theorem dX8_line_5 : decode cX8_line 5 = .ok (.ifCond .eq 13, 3) := by decide +kernel
theorem dX8_line_8 : decode cX8_line 8 = .ok (.iload_n 2, 1) := by decide +kernel
theorem dX8_line_9 : decode cX8_line 9 = .ok (.iconst 0, 1) := by decide +kernel
theorem dX8_line_10 : decode cX8_line 10 = .ok (.bipush 10, 2) := by decide +kernel
theorem dX8_line_12 : decode cX8_line 12 = .ok (.invokestatic 35, 3) := by decide +kernel
theorem dX8_line_15 : decode cX8_line 15 = .ok (.ifCond .ne 13, 3) := by decide +kernel
theorem dX8_line_18 : decode cX8_line 18 = .ok (.new 67, 3) := by decide +kernel
theorem dX8_line_21 : decode cX8_line 21 = .ok (.dup, 1) := by decide +kernel
theorem dX8_line_22 : decode cX8_line 22 = .ok (.ldc 120, 2) := by decide +kernel
theorem dX8_line_24 : decode cX8_line 24 = .ok (.invokespecial 71, 3) := by decide +kernel
theorem dX8_line_27 : decode cX8_line 27 = .ok (.athrow, 1) := by decide +kernel
theorem dX8_line_28 : decode cX8_line 28 = .ok (.aload_n 0, 1) := by decide +kernel
theorem dX8_line_29 : decode cX8_line 29 = .ok (.iload_n 1, 1) := by decide +kernel
theorem dX8_line_30 : decode cX8_line 30 = .ok (.iload_n 2, 1) := by decide +kernel
theorem dX8_line_31 : decode cX8_line 31 = .ok (.invokevirtual 122, 3) := by decide +kernel
theorem dX8_line_34 : decode cX8_line 34 = .ok (.ireturn, 1) := by decide +kernel
theorem dX8_come_0 : decode cX8_come 0 = .ok (.aload_n 0, 1) := by decide +kernel
theorem dX8_come_1 : decode cX8_come 1 = .ok (.iload_n 1, 1) := by decide +kernel
theorem dX8_come_2 : decode cX8_come 2 = .ok (.invokevirtual 63, 3) := by decide +kernel
theorem dX8_come_5 : decode cX8_come 5 = .ok (.ifCond .eq 11, 3) := by decide +kernel
theorem dX8_come_8 : decode cX8_come 8 = .ok (.aload_n 0, 1) := by decide +kernel
theorem dX8_come_9 : decode cX8_come 9 = .ok (.iload_n 2, 1) := by decide +kernel
theorem dX8_come_10 : decode cX8_come 10 = .ok (.invokevirtual 63, 3) := by decide +kernel
theorem dX8_come_13 : decode cX8_come 13 = .ok (.ifCond .ne 13, 3) := by decide +kernel
theorem dX8_come_16 : decode cX8_come 16 = .ok (.new 67, 3) := by decide +kernel
theorem dX8_come_19 : decode cX8_come 19 = .ok (.dup, 1) := by decide +kernel
theorem dX8_come_20 : decode cX8_come 20 = .ok (.ldc 146, 2) := by decide +kernel
theorem dX8_come_22 : decode cX8_come 22 = .ok (.invokespecial 71, 3) := by decide +kernel
theorem dX8_come_25 : decode cX8_come 25 = .ok (.athrow, 1) := by decide +kernel
theorem dX8_come_26 : decode cX8_come 26 = .ok (.iload_n 3, 1) := by decide +kernel
theorem dX8_come_27 : decode cX8_come 27 = .ok (.invokestatic 125, 3) := by decide +kernel
theorem dX8_come_30 : decode cX8_come 30 = .ok (.ifCond .eq 14, 3) := by decide +kernel
theorem dX8_come_33 : decode cX8_come 33 = .ok (.iload 4, 2) := by decide +kernel
theorem dX8_come_35 : decode cX8_come 35 = .ok (.iconst 1, 1) := by decide +kernel
theorem dX8_come_36 : decode cX8_come 36 = .ok (.bipush 60, 2) := by decide +kernel
theorem dX8_come_38 : decode cX8_come 38 = .ok (.invokestatic 35, 3) := by decide +kernel
theorem dX8_come_41 : decode cX8_come 41 = .ok (.ifCond .ne 13, 3) := by decide +kernel
theorem dX8_come_44 : decode cX8_come 44 = .ok (.new 39, 3) := by decide +kernel
theorem dX8_come_47 : decode cX8_come 47 = .ok (.dup, 1) := by decide +kernel
theorem dX8_come_48 : decode cX8_come 48 = .ok (.ldc 148, 2) := by decide +kernel
theorem dX8_come_50 : decode cX8_come 50 = .ok (.invokespecial 43, 3) := by decide +kernel
theorem dX8_come_53 : decode cX8_come 53 = .ok (.athrow, 1) := by decide +kernel
theorem dX8_come_54 : decode cX8_come 54 = .ok (.aload_n 0, 1) := by decide +kernel
theorem dX8_come_55 : decode cX8_come 55 = .ok (.getfield 10, 3) := by decide +kernel
theorem dX8_come_58 : decode cX8_come 58 = .ok (.getfield 150, 3) := by decide +kernel
theorem dX8_come_61 : decode cX8_come 61 = .ok (.bipush 12, 2) := by decide +kernel
theorem dX8_come_63 : decode cX8_come 63 = .ok (.if_icmp .lt 13, 3) := by decide +kernel
theorem dX8_come_66 : decode cX8_come 66 = .ok (.new 54, 3) := by decide +kernel
theorem dX8_come_69 : decode cX8_come 69 = .ok (.dup, 1) := by decide +kernel
theorem dX8_come_70 : decode cX8_come 70 = .ok (.ldc 153, 2) := by decide +kernel
theorem dX8_come_72 : decode cX8_come 72 = .ok (.invokespecial 58, 3) := by decide +kernel
theorem dX8_come_75 : decode cX8_come 75 = .ok (.athrow, 1) := by decide +kernel
theorem dX8_come_76 : decode cX8_come 76 = .ok (.aload_n 0, 1) := by decide +kernel
theorem dX8_come_77 : decode cX8_come 77 = .ok (.getfield 10, 3) := by decide +kernel
theorem dX8_come_80 : decode cX8_come 80 = .ok (.iload_n 2, 1) := by decide +kernel
theorem dX8_come_81 : decode cX8_come 81 = .ok (.iload_n 3, 1) := by decide +kernel
theorem dX8_come_82 : decode cX8_come 82 = .ok (.iload 4, 2) := by decide +kernel
theorem dX8_come_84 : decode cX8_come 84 = .ok (.invokevirtual 155, 3) := by decide +kernel
theorem dX8_come_87 : decode cX8_come 87 = .ok (.istore 5, 2) := by decide +kernel
theorem dX8_come_89 : decode cX8_come 89 = .ok (.aload_n 0, 1) := by decide +kernel
theorem dX8_come_90 : decode cX8_come 90 = .ok (.getfield 21, 3) := by decide +kernel
theorem dX8_come_93 : decode cX8_come 93 = .ok (.iload 5, 2) := by decide +kernel
theorem dX8_come_95 : decode cX8_come 95 = .ok (.iload_n 1, 1) := by decide +kernel
theorem dX8_come_96 : decode cX8_come 96 = .ok (.invokevirtual 158, 3) := by decide +kernel
theorem dX8_come_99 : decode cX8_come 99 = .ok (.iload 5, 2) := by decide +kernel
theorem dX8_come_101 : decode cX8_come 101 = .ok (.ireturn, 1) := by decide +kernel
theorem dX8_rider_0 : decode cX8_rider 0 = .ok (.aload_n 0, 1) := by decide +kernel
theorem dX8_rider_1 : decode cX8_rider 1 = .ok (.iload_n 1, 1) := by decide +kernel
theorem dX8_rider_2 : decode cX8_rider 2 = .ok (.invokevirtual 161, 3) := by decide +kernel
theorem dX8_rider_5 : decode cX8_rider 5 = .ok (.ifCond .eq 13, 3) := by decide +kernel
theorem dX8_rider_8 : decode cX8_rider 8 = .ok (.iload_n 2, 1) := by decide +kernel
theorem dX8_rider_9 : decode cX8_rider 9 = .ok (.iconst 0, 1) := by decide +kernel
theorem dX8_rider_10 : decode cX8_rider 10 = .ok (.bipush 10, 2) := by decide +kernel
theorem dX8_rider_12 : decode cX8_rider 12 = .ok (.invokestatic 35, 3) := by decide +kernel
theorem dX8_rider_15 : decode cX8_rider 15 = .ok (.ifCond .ne 13, 3) := by decide +kernel
theorem dX8_rider_18 : decode cX8_rider 18 = .ok (.new 67, 3) := by decide +kernel
theorem dX8_rider_21 : decode cX8_rider 21 = .ok (.dup, 1) := by decide +kernel
theorem dX8_rider_22 : decode cX8_rider 22 = .ok (.ldc 164, 2) := by decide +kernel
theorem dX8_rider_24 : decode cX8_rider 24 = .ok (.invokespecial 71, 3) := by decide +kernel
theorem dX8_rider_27 : decode cX8_rider 27 = .ok (.athrow, 1) := by decide +kernel
theorem dX8_rider_28 : decode cX8_rider 28 = .ok (.aload_n 0, 1) := by decide +kernel
theorem dX8_rider_29 : decode cX8_rider 29 = .ok (.iload_n 1, 1) := by decide +kernel
theorem dX8_rider_30 : decode cX8_rider 30 = .ok (.iload_n 2, 1) := by decide +kernel
theorem dX8_rider_31 : decode cX8_rider 31 = .ok (.invokevirtual 166, 3) := by decide +kernel
theorem dX8_rider_34 : decode cX8_rider 34 = .ok (.ireturn, 1) := by decide +kernel
theorem dX8_queue_0 : decode cX8_queue 0 = .ok (.aload_n 0, 1) := by decide +kernel
theorem dX8_queue_1 : decode cX8_queue 1 = .ok (.iload_n 1, 1) := by decide +kernel
theorem dX8_queue_2 : decode cX8_queue 2 = .ok (.invokevirtual 63, 3) := by decide +kernel
theorem dX8_queue_5 : decode cX8_queue 5 = .ok (.ifCond .eq 21, 3) := by decide +kernel
theorem dX8_queue_8 : decode cX8_queue 8 = .ok (.iload_n 2, 1) := by decide +kernel
theorem dX8_queue_9 : decode cX8_queue 9 = .ok (.iconst 0, 1) := by decide +kernel
theorem dX8_queue_10 : decode cX8_queue 10 = .ok (.aload_n 0, 1) := by decide +kernel
theorem dX8_queue_11 : decode cX8_queue 11 = .ok (.getfield 21, 3) := by decide +kernel
theorem dX8_queue_14 : decode cX8_queue 14 = .ok (.iload_n 1, 1) := by decide +kernel
theorem dX8_queue_15 : decode cX8_queue 15 = .ok (.invokevirtual 169, 3) := by decide +kernel
theorem dX8_queue_18 : decode cX8_queue 18 = .ok (.iconst 1, 1) := by decide +kernel
theorem dX8_queue_19 : decode cX8_queue 19 = .ok (.isub, 1) := by decide +kernel
theorem dX8_queue_20 : decode cX8_queue 20 = .ok (.invokestatic 35, 3) := by decide +kernel
theorem dX8_queue_23 : decode cX8_queue 23 = .ok (.ifCond .ne 13, 3) := by decide +kernel
theorem dX8_queue_26 : decode cX8_queue 26 = .ok (.new 67, 3) := by decide +kernel
theorem dX8_queue_29 : decode cX8_queue 29 = .ok (.dup, 1) := by decide +kernel
theorem dX8_queue_30 : decode cX8_queue 30 = .ok (.ldc 172, 2) := by decide +kernel
theorem dX8_queue_32 : decode cX8_queue 32 = .ok (.invokespecial 71, 3) := by decide +kernel
theorem dX8_queue_35 : decode cX8_queue 35 = .ok (.athrow, 1) := by decide +kernel
theorem dX8_queue_36 : decode cX8_queue 36 = .ok (.aload_n 0, 1) := by decide +kernel
theorem dX8_queue_37 : decode cX8_queue 37 = .ok (.getfield 21, 3) := by decide +kernel
theorem dX8_queue_40 : decode cX8_queue 40 = .ok (.iload_n 1, 1) := by decide +kernel
theorem dX8_queue_41 : decode cX8_queue 41 = .ok (.iload_n 2, 1) := by decide +kernel
theorem dX8_queue_42 : decode cX8_queue 42 = .ok (.invokevirtual 174, 3) := by decide +kernel
theorem dX8_queue_45 : decode cX8_queue 45 = .ok (.ireturn, 1) := by decide +kernel
theorem dX8_pass_0 : decode cX8_pass 0 = .ok (.iload_n 1, 1) := by decide +kernel
theorem dX8_pass_1 : decode cX8_pass 1 = .ok (.iconst 1, 1) := by decide +kernel
theorem dX8_pass_2 : decode cX8_pass 2 = .ok (.bipush 100, 2) := by decide +kernel
theorem dX8_pass_4 : decode cX8_pass 4 = .ok (.invokestatic 35, 3) := by decide +kernel
theorem dX8_pass_7 : decode cX8_pass 7 = .ok (.ifCond .ne 13, 3) := by decide +kernel
theorem dX8_pass_10 : decode cX8_pass 10 = .ok (.new 39, 3) := by decide +kernel
theorem dX8_pass_13 : decode cX8_pass 13 = .ok (.dup, 1) := by decide +kernel
theorem dX8_pass_14 : decode cX8_pass 14 = .ok (.ldc 177, 2) := by decide +kernel
theorem dX8_pass_16 : decode cX8_pass 16 = .ok (.invokespecial 43, 3) := by decide +kernel
theorem dX8_pass_19 : decode cX8_pass 19 = .ok (.athrow, 1) := by decide +kernel
theorem dX8_pass_20 : decode cX8_pass 20 = .ok (.aload_n 0, 1) := by decide +kernel
theorem dX8_pass_21 : decode cX8_pass 21 = .ok (.getfield 21, 3) := by decide +kernel
theorem dX8_pass_24 : decode cX8_pass 24 = .ok (.iload_n 1, 1) := by decide +kernel
theorem dX8_pass_25 : decode cX8_pass 25 = .ok (.invokevirtual 179, 3) := by decide +kernel
theorem dX8_pass_28 : decode cX8_pass 28 = .ok (.ireturn, 1) := by decide +kernel
theorem dX8_count_0 : decode cX8_count 0 = .ok (.iload_n 1, 1) := by decide +kernel
theorem dX8_count_1 : decode cX8_count 1 = .ok (.iconst 0, 1) := by decide +kernel
theorem dX8_count_2 : decode cX8_count 2 = .ok (.bipush 9, 2) := by decide +kernel
theorem dX8_count_4 : decode cX8_count 4 = .ok (.invokestatic 35, 3) := by decide +kernel
theorem dX8_count_7 : decode cX8_count 7 = .ok (.ifCond .ne 13, 3) := by decide +kernel
theorem dX8_count_10 : decode cX8_count 10 = .ok (.new 67, 3) := by decide +kernel
theorem dX8_count_13 : decode cX8_count 13 = .ok (.dup, 1) := by decide +kernel
theorem dX8_count_14 : decode cX8_count 14 = .ok (.ldc 182, 2) := by decide +kernel
theorem dX8_count_16 : decode cX8_count 16 = .ok (.invokespecial 71, 3) := by decide +kernel
theorem dX8_count_19 : decode cX8_count 19 = .ok (.athrow, 1) := by decide +kernel
theorem dX8_count_20 : decode cX8_count 20 = .ok (.aload_n 0, 1) := by decide +kernel
theorem dX8_count_21 : decode cX8_count 21 = .ok (.iload_n 1, 1) := by decide +kernel
theorem dX8_count_22 : decode cX8_count 22 = .ok (.invokevirtual 184, 3) := by decide +kernel
theorem dX8_count_25 : decode cX8_count 25 = .ok (.ireturn, 1) := by decide +kernel
theorem dX8_way_0 : decode cX8_way 0 = .ok (.aload_n 0, 1) := by decide +kernel
theorem dX8_way_1 : decode cX8_way 1 = .ok (.iload_n 1, 1) := by decide +kernel
theorem dX8_way_2 : decode cX8_way 2 = .ok (.invokevirtual 63, 3) := by decide +kernel
theorem dX8_way_5 : decode cX8_way 5 = .ok (.ifCond .eq 11, 3) := by decide +kernel
theorem dX8_way_8 : decode cX8_way 8 = .ok (.aload_n 0, 1) := by decide +kernel
theorem dX8_way_9 : decode cX8_way 9 = .ok (.iload_n 2, 1) := by decide +kernel
theorem dX8_way_10 : decode cX8_way 10 = .ok (.invokevirtual 63, 3) := by decide +kernel
theorem dX8_way_13 : decode cX8_way 13 = .ok (.ifCond .ne 13, 3) := by decide +kernel
theorem dX8_way_16 : decode cX8_way 16 = .ok (.new 67, 3) := by decide +kernel
theorem dX8_way_19 : decode cX8_way 19 = .ok (.dup, 1) := by decide +kernel
theorem dX8_way_20 : decode cX8_way 20 = .ok (.ldc 69, 2) := by decide +kernel
theorem dX8_way_22 : decode cX8_way 22 = .ok (.invokespecial 71, 3) := by decide +kernel
theorem dX8_way_25 : decode cX8_way 25 = .ok (.athrow, 1) := by decide +kernel
theorem dX8_way_26 : decode cX8_way 26 = .ok (.iload_n 3, 1) := by decide +kernel
theorem dX8_way_27 : decode cX8_way 27 = .ok (.invokestatic 125, 3) := by decide +kernel
theorem dX8_way_30 : decode cX8_way 30 = .ok (.ifCond .ne 13, 3) := by decide +kernel
theorem dX8_way_33 : decode cX8_way 33 = .ok (.new 39, 3) := by decide +kernel
theorem dX8_way_36 : decode cX8_way 36 = .ok (.dup, 1) := by decide +kernel
theorem dX8_way_37 : decode cX8_way 37 = .ok (.ldc 128, 2) := by decide +kernel
theorem dX8_way_39 : decode cX8_way 39 = .ok (.invokespecial 43, 3) := by decide +kernel
theorem dX8_way_42 : decode cX8_way 42 = .ok (.athrow, 1) := by decide +kernel
theorem dX8_way_43 : decode cX8_way 43 = .ok (.aload_n 0, 1) := by decide +kernel
theorem dX8_way_44 : decode cX8_way 44 = .ok (.getfield 31, 3) := by decide +kernel
theorem dX8_way_47 : decode cX8_way 47 = .ok (.aload_n 0, 1) := by decide +kernel
theorem dX8_way_48 : decode cX8_way 48 = .ok (.getfield 10, 3) := by decide +kernel
theorem dX8_way_51 : decode cX8_way 51 = .ok (.iload_n 2, 1) := by decide +kernel
theorem dX8_way_52 : decode cX8_way 52 = .ok (.iload_n 3, 1) := by decide +kernel
theorem dX8_way_53 : decode cX8_way 53 = .ok (.invokevirtual 187, 3) := by decide +kernel
theorem dX8_way_56 : decode cX8_way 56 = .ok (.aload_n 0, 1) := by decide +kernel
theorem dX8_way_57 : decode cX8_way 57 = .ok (.getfield 31, 3) := by decide +kernel
theorem dX8_way_60 : decode cX8_way 60 = .ok (.iload_n 1, 1) := by decide +kernel
theorem dX8_way_61 : decode cX8_way 61 = .ok (.invokevirtual 191, 3) := by decide +kernel
theorem dX8_way_64 : decode cX8_way 64 = .ok (.ireturn, 1) := by decide +kernel
theorem dX8_arrives_0 : decode cX8_arrives 0 = .ok (.aload_n 0, 1) := by decide +kernel
theorem dX8_arrives_1 : decode cX8_arrives 1 = .ok (.iload_n 1, 1) := by decide +kernel
theorem dX8_arrives_2 : decode cX8_arrives 2 = .ok (.invokevirtual 161, 3) := by decide +kernel
theorem dX8_arrives_5 : decode cX8_arrives 5 = .ok (.ifCond .ne 13, 3) := by decide +kernel
theorem dX8_arrives_8 : decode cX8_arrives 8 = .ok (.new 67, 3) := by decide +kernel
theorem dX8_arrives_11 : decode cX8_arrives 11 = .ok (.dup, 1) := by decide +kernel
theorem dX8_arrives_12 : decode cX8_arrives 12 = .ok (.ldc 194, 2) := by decide +kernel
theorem dX8_arrives_14 : decode cX8_arrives 14 = .ok (.invokespecial 71, 3) := by decide +kernel
theorem dX8_arrives_17 : decode cX8_arrives 17 = .ok (.athrow, 1) := by decide +kernel
theorem dX8_arrives_18 : decode cX8_arrives 18 = .ok (.aload_n 0, 1) := by decide +kernel
theorem dX8_arrives_19 : decode cX8_arrives 19 = .ok (.getfield 25, 3) := by decide +kernel
theorem dX8_arrives_22 : decode cX8_arrives 22 = .ok (.aload_n 0, 1) := by decide +kernel
theorem dX8_arrives_23 : decode cX8_arrives 23 = .ok (.getfield 21, 3) := by decide +kernel
theorem dX8_arrives_26 : decode cX8_arrives 26 = .ok (.invokevirtual 196, 3) := by decide +kernel
theorem dX8_arrives_29 : decode cX8_arrives 29 = .ok (.aload_n 0, 1) := by decide +kernel
theorem dX8_arrives_30 : decode cX8_arrives 30 = .ok (.getfield 25, 3) := by decide +kernel
theorem dX8_arrives_33 : decode cX8_arrives 33 = .ok (.getfield 200, 3) := by decide +kernel
theorem dX8_arrives_36 : decode cX8_arrives 36 = .ok (.iload_n 1, 1) := by decide +kernel
theorem dX8_arrives_37 : decode cX8_arrives 37 = .ok (.aaload, 1) := by decide +kernel
theorem dX8_arrives_38 : decode cX8_arrives 38 = .ok (.astore_n 2, 1) := by decide +kernel
theorem dX8_arrives_39 : decode cX8_arrives 39 = .ok (.iconst 0, 1) := by decide +kernel
theorem dX8_arrives_40 : decode cX8_arrives 40 = .ok (.istore_n 3, 1) := by decide +kernel
theorem dX8_arrives_41 : decode cX8_arrives 41 = .ok (.iload_n 3, 1) := by decide +kernel
theorem dX8_arrives_42 : decode cX8_arrives 42 = .ok (.sipush 200, 3) := by decide +kernel
theorem dX8_arrives_45 : decode cX8_arrives 45 = .ok (.if_icmp .ge 23, 3) := by decide +kernel
theorem dX8_arrives_48 : decode cX8_arrives 48 = .ok (.aload_n 2, 1) := by decide +kernel
theorem dX8_arrives_49 : decode cX8_arrives 49 = .ok (.invokevirtual 204, 3) := by decide +kernel
theorem dX8_arrives_52 : decode cX8_arrives 52 = .ok (.ifCond .eq 16, 3) := by decide +kernel
theorem dX8_arrives_55 : decode cX8_arrives 55 = .ok (.aload_n 0, 1) := by decide +kernel
theorem dX8_arrives_56 : decode cX8_arrives 56 = .ok (.getfield 25, 3) := by decide +kernel
theorem dX8_arrives_59 : decode cX8_arrives 59 = .ok (.invokevirtual 210, 3) := by decide +kernel
theorem dX8_arrives_62 : decode cX8_arrives 62 = .ok (.iinc 3 1, 3) := by decide +kernel
theorem dX8_arrives_65 : decode cX8_arrives 65 = .ok (.goto (-24), 3) := by decide +kernel
theorem dX8_arrives_68 : decode cX8_arrives 68 = .ok (.aload_n 2, 1) := by decide +kernel
theorem dX8_arrives_69 : decode cX8_arrives 69 = .ok (.getfield 213, 3) := by decide +kernel
theorem dX8_arrives_72 : decode cX8_arrives 72 = .ok (.ireturn, 1) := by decide +kernel
theorem dX8_advise_0 : decode cX8_advise 0 = .ok (.iload_n 1, 1) := by decide +kernel
theorem dX8_advise_1 : decode cX8_advise 1 = .ok (.iconst 1, 1) := by decide +kernel
theorem dX8_advise_2 : decode cX8_advise 2 = .ok (.bipush 30, 2) := by decide +kernel
theorem dX8_advise_4 : decode cX8_advise 4 = .ok (.invokestatic 35, 3) := by decide +kernel
theorem dX8_advise_7 : decode cX8_advise 7 = .ok (.ifCond .ne 13, 3) := by decide +kernel
theorem dX8_advise_10 : decode cX8_advise 10 = .ok (.new 39, 3) := by decide +kernel
theorem dX8_advise_13 : decode cX8_advise 13 = .ok (.dup, 1) := by decide +kernel
theorem dX8_advise_14 : decode cX8_advise 14 = .ok (.ldc 216, 2) := by decide +kernel
theorem dX8_advise_16 : decode cX8_advise 16 = .ok (.invokespecial 43, 3) := by decide +kernel
theorem dX8_advise_19 : decode cX8_advise 19 = .ok (.athrow, 1) := by decide +kernel
theorem dX8_advise_20 : decode cX8_advise 20 = .ok (.aload_n 0, 1) := by decide +kernel
theorem dX8_advise_21 : decode cX8_advise 21 = .ok (.getfield 25, 3) := by decide +kernel
theorem dX8_advise_24 : decode cX8_advise 24 = .ok (.aload_n 0, 1) := by decide +kernel
theorem dX8_advise_25 : decode cX8_advise 25 = .ok (.getfield 21, 3) := by decide +kernel
theorem dX8_advise_28 : decode cX8_advise 28 = .ok (.invokevirtual 196, 3) := by decide +kernel
theorem dX8_advise_31 : decode cX8_advise 31 = .ok (.aload_n 0, 1) := by decide +kernel
theorem dX8_advise_32 : decode cX8_advise 32 = .ok (.getfield 25, 3) := by decide +kernel
theorem dX8_advise_35 : decode cX8_advise 35 = .ok (.iload_n 1, 1) := by decide +kernel
theorem dX8_advise_36 : decode cX8_advise 36 = .ok (.invokevirtual 179, 3) := by decide +kernel
theorem dX8_advise_39 : decode cX8_advise 39 = .ok (.istore_n 2, 1) := by decide +kernel
theorem dX8_advise_40 : decode cX8_advise 40 = .ok (.iconst (-1), 1) := by decide +kernel
theorem dX8_advise_41 : decode cX8_advise 41 = .ok (.istore_n 3, 1) := by decide +kernel
theorem dX8_advise_42 : decode cX8_advise 42 = .ok (.iconst 0, 1) := by decide +kernel
theorem dX8_advise_43 : decode cX8_advise 43 = .ok (.istore 4, 2) := by decide +kernel
theorem dX8_advise_45 : decode cX8_advise 45 = .ok (.iload 4, 2) := by decide +kernel
theorem dX8_advise_47 : decode cX8_advise 47 = .ok (.aload_n 0, 1) := by decide +kernel
theorem dX8_advise_48 : decode cX8_advise 48 = .ok (.getfield 10, 3) := by decide +kernel
theorem dX8_advise_51 : decode cX8_advise 51 = .ok (.getfield 77, 3) := by decide +kernel
theorem dX8_advise_54 : decode cX8_advise 54 = .ok (.if_icmp .ge 47, 3) := by decide +kernel
theorem dX8_advise_57 : decode cX8_advise 57 = .ok (.aload_n 0, 1) := by decide +kernel
theorem dX8_advise_58 : decode cX8_advise 58 = .ok (.getfield 21, 3) := by decide +kernel
theorem dX8_advise_61 : decode cX8_advise 61 = .ok (.getfield 94, 3) := by decide +kernel
theorem dX8_advise_64 : decode cX8_advise 64 = .ok (.iload 4, 2) := by decide +kernel
theorem dX8_advise_66 : decode cX8_advise 66 = .ok (.aaload, 1) := by decide +kernel
theorem dX8_advise_67 : decode cX8_advise 67 = .ok (.invokevirtual 98, 3) := by decide +kernel
theorem dX8_advise_70 : decode cX8_advise 70 = .ok (.iconst 3, 1) := by decide +kernel
theorem dX8_advise_71 : decode cX8_advise 71 = .ok (.if_icmp .ge 24, 3) := by decide +kernel
theorem dX8_advise_74 : decode cX8_advise 74 = .ok (.aload_n 0, 1) := by decide +kernel
theorem dX8_advise_75 : decode cX8_advise 75 = .ok (.iload 4, 2) := by decide +kernel
theorem dX8_advise_77 : decode cX8_advise 77 = .ok (.iload_n 1, 1) := by decide +kernel
theorem dX8_advise_78 : decode cX8_advise 78 = .ok (.invokevirtual 218, 3) := by decide +kernel
theorem dX8_advise_81 : decode cX8_advise 81 = .ok (.istore 5, 2) := by decide +kernel
theorem dX8_advise_83 : decode cX8_advise 83 = .ok (.iload 5, 2) := by decide +kernel
theorem dX8_advise_85 : decode cX8_advise 85 = .ok (.iload_n 2, 1) := by decide +kernel
theorem dX8_advise_86 : decode cX8_advise 86 = .ok (.if_icmp .le 9, 3) := by decide +kernel
theorem dX8_advise_89 : decode cX8_advise 89 = .ok (.iload 5, 2) := by decide +kernel
theorem dX8_advise_91 : decode cX8_advise 91 = .ok (.istore_n 2, 1) := by decide +kernel
theorem dX8_advise_92 : decode cX8_advise 92 = .ok (.iload 4, 2) := by decide +kernel
theorem dX8_advise_94 : decode cX8_advise 94 = .ok (.istore_n 3, 1) := by decide +kernel
theorem dX8_advise_95 : decode cX8_advise 95 = .ok (.iinc 4 1, 3) := by decide +kernel
theorem dX8_advise_98 : decode cX8_advise 98 = .ok (.goto (-53), 3) := by decide +kernel
theorem dX8_advise_101 : decode cX8_advise 101 = .ok (.iload_n 3, 1) := by decide +kernel
theorem dX8_advise_102 : decode cX8_advise 102 = .ok (.ireturn, 1) := by decide +kernel
theorem dX8_digest_0 : decode cX8_digest 0 = .ok (.ldc2_w 224, 3) := by decide +kernel
theorem dX8_digest_3 : decode cX8_digest 3 = .ok (.lstore_n 1, 1) := by decide +kernel
theorem dX8_digest_4 : decode cX8_digest 4 = .ok (.iconst 0, 1) := by decide +kernel
theorem dX8_digest_5 : decode cX8_digest 5 = .ok (.istore_n 3, 1) := by decide +kernel
theorem dX8_digest_6 : decode cX8_digest 6 = .ok (.iload_n 3, 1) := by decide +kernel
theorem dX8_digest_7 : decode cX8_digest 7 = .ok (.bipush 10, 2) := by decide +kernel
theorem dX8_digest_9 : decode cX8_digest 9 = .ok (.if_icmp .ge 22, 3) := by decide +kernel
theorem dX8_digest_12 : decode cX8_digest 12 = .ok (.lload_n 1, 1) := by decide +kernel
theorem dX8_digest_13 : decode cX8_digest 13 = .ok (.ldc2_w 226, 3) := by decide +kernel
theorem dX8_digest_16 : decode cX8_digest 16 = .ok (.lmul, 1) := by decide +kernel
theorem dX8_digest_17 : decode cX8_digest 17 = .ok (.aload_n 0, 1) := by decide +kernel
theorem dX8_digest_18 : decode cX8_digest 18 = .ok (.iload_n 3, 1) := by decide +kernel
theorem dX8_digest_19 : decode cX8_digest 19 = .ok (.invokevirtual 184, 3) := by decide +kernel
theorem dX8_digest_22 : decode cX8_digest 22 = .ok (.i2l, 1) := by decide +kernel
theorem dX8_digest_23 : decode cX8_digest 23 = .ok (.ladd, 1) := by decide +kernel
theorem dX8_digest_24 : decode cX8_digest 24 = .ok (.lstore_n 1, 1) := by decide +kernel
theorem dX8_digest_25 : decode cX8_digest 25 = .ok (.iinc 3 1, 3) := by decide +kernel
theorem dX8_digest_28 : decode cX8_digest 28 = .ok (.goto (-22), 3) := by decide +kernel
theorem dX8_digest_31 : decode cX8_digest 31 = .ok (.iconst 0, 1) := by decide +kernel
theorem dX8_digest_32 : decode cX8_digest 32 = .ok (.istore_n 3, 1) := by decide +kernel
theorem dX8_digest_33 : decode cX8_digest 33 = .ok (.iload_n 3, 1) := by decide +kernel
theorem dX8_digest_34 : decode cX8_digest 34 = .ok (.bipush 12, 2) := by decide +kernel
theorem dX8_digest_36 : decode cX8_digest 36 = .ok (.if_icmp .ge 26, 3) := by decide +kernel
theorem dX8_digest_39 : decode cX8_digest 39 = .ok (.lload_n 1, 1) := by decide +kernel
theorem dX8_digest_40 : decode cX8_digest 40 = .ok (.ldc2_w 226, 3) := by decide +kernel
theorem dX8_digest_43 : decode cX8_digest 43 = .ok (.lmul, 1) := by decide +kernel
theorem dX8_digest_44 : decode cX8_digest 44 = .ok (.aload_n 0, 1) := by decide +kernel
theorem dX8_digest_45 : decode cX8_digest 45 = .ok (.getfield 10, 3) := by decide +kernel
theorem dX8_digest_48 : decode cX8_digest 48 = .ok (.getfield 110, 3) := by decide +kernel
theorem dX8_digest_51 : decode cX8_digest 51 = .ok (.iload_n 3, 1) := by decide +kernel
theorem dX8_digest_52 : decode cX8_digest 52 = .ok (.iaload, 1) := by decide +kernel
theorem dX8_digest_53 : decode cX8_digest 53 = .ok (.i2l, 1) := by decide +kernel
theorem dX8_digest_54 : decode cX8_digest 54 = .ok (.ladd, 1) := by decide +kernel
theorem dX8_digest_55 : decode cX8_digest 55 = .ok (.lstore_n 1, 1) := by decide +kernel
theorem dX8_digest_56 : decode cX8_digest 56 = .ok (.iinc 3 1, 3) := by decide +kernel
theorem dX8_digest_59 : decode cX8_digest 59 = .ok (.goto (-26), 3) := by decide +kernel
theorem dX8_digest_62 : decode cX8_digest 62 = .ok (.iconst 0, 1) := by decide +kernel
theorem dX8_digest_63 : decode cX8_digest 63 = .ok (.istore_n 3, 1) := by decide +kernel
theorem dX8_digest_64 : decode cX8_digest 64 = .ok (.iload_n 3, 1) := by decide +kernel
theorem dX8_digest_65 : decode cX8_digest 65 = .ok (.aload_n 0, 1) := by decide +kernel
theorem dX8_digest_66 : decode cX8_digest 66 = .ok (.getfield 10, 3) := by decide +kernel
theorem dX8_digest_69 : decode cX8_digest 69 = .ok (.getfield 50, 3) := by decide +kernel
theorem dX8_digest_72 : decode cX8_digest 72 = .ok (.if_icmp .ge 16, 3) := by decide +kernel
theorem dX8_digest_75 : decode cX8_digest 75 = .ok (.aload_n 0, 1) := by decide +kernel
theorem dX8_digest_76 : decode cX8_digest 76 = .ok (.lload_n 1, 1) := by decide +kernel
theorem dX8_digest_77 : decode cX8_digest 77 = .ok (.iload_n 3, 1) := by decide +kernel
theorem dX8_digest_78 : decode cX8_digest 78 = .ok (.invokevirtual 228, 3) := by decide +kernel
theorem dX8_digest_81 : decode cX8_digest 81 = .ok (.lstore_n 1, 1) := by decide +kernel
theorem dX8_digest_82 : decode cX8_digest 82 = .ok (.iinc 3 1, 3) := by decide +kernel
theorem dX8_digest_85 : decode cX8_digest 85 = .ok (.goto (-21), 3) := by decide +kernel
theorem dX8_digest_88 : decode cX8_digest 88 = .ok (.iconst 0, 1) := by decide +kernel
theorem dX8_digest_89 : decode cX8_digest 89 = .ok (.istore_n 3, 1) := by decide +kernel
theorem dX8_digest_90 : decode cX8_digest 90 = .ok (.iload_n 3, 1) := by decide +kernel
theorem dX8_digest_91 : decode cX8_digest 91 = .ok (.aload_n 0, 1) := by decide +kernel
theorem dX8_digest_92 : decode cX8_digest 92 = .ok (.getfield 10, 3) := by decide +kernel
theorem dX8_digest_95 : decode cX8_digest 95 = .ok (.getfield 77, 3) := by decide +kernel
theorem dX8_digest_98 : decode cX8_digest 98 = .ok (.if_icmp .ge 40, 3) := by decide +kernel
theorem dX8_digest_101 : decode cX8_digest 101 = .ok (.iconst 0, 1) := by decide +kernel
theorem dX8_digest_102 : decode cX8_digest 102 = .ok (.istore 4, 2) := by decide +kernel
theorem dX8_digest_104 : decode cX8_digest 104 = .ok (.iload 4, 2) := by decide +kernel
theorem dX8_digest_106 : decode cX8_digest 106 = .ok (.bipush 11, 2) := by decide +kernel
theorem dX8_digest_108 : decode cX8_digest 108 = .ok (.if_icmp .ge 24, 3) := by decide +kernel
theorem dX8_digest_111 : decode cX8_digest 111 = .ok (.lload_n 1, 1) := by decide +kernel
theorem dX8_digest_112 : decode cX8_digest 112 = .ok (.ldc2_w 226, 3) := by decide +kernel
theorem dX8_digest_115 : decode cX8_digest 115 = .ok (.lmul, 1) := by decide +kernel
theorem dX8_digest_116 : decode cX8_digest 116 = .ok (.aload_n 0, 1) := by decide +kernel
theorem dX8_digest_117 : decode cX8_digest 117 = .ok (.iload_n 3, 1) := by decide +kernel
theorem dX8_digest_118 : decode cX8_digest 118 = .ok (.iload 4, 2) := by decide +kernel
theorem dX8_digest_120 : decode cX8_digest 120 = .ok (.invokevirtual 122, 3) := by decide +kernel
theorem dX8_digest_123 : decode cX8_digest 123 = .ok (.i2l, 1) := by decide +kernel
theorem dX8_digest_124 : decode cX8_digest 124 = .ok (.ladd, 1) := by decide +kernel
theorem dX8_digest_125 : decode cX8_digest 125 = .ok (.lstore_n 1, 1) := by decide +kernel
theorem dX8_digest_126 : decode cX8_digest 126 = .ok (.iinc 4 1, 3) := by decide +kernel
theorem dX8_digest_129 : decode cX8_digest 129 = .ok (.goto (-25), 3) := by decide +kernel
theorem dX8_digest_132 : decode cX8_digest 132 = .ok (.iinc 3 1, 3) := by decide +kernel
theorem dX8_digest_135 : decode cX8_digest 135 = .ok (.goto (-45), 3) := by decide +kernel
theorem dX8_digest_138 : decode cX8_digest 138 = .ok (.iconst 0, 1) := by decide +kernel
theorem dX8_digest_139 : decode cX8_digest 139 = .ok (.istore_n 3, 1) := by decide +kernel
theorem dX8_digest_140 : decode cX8_digest 140 = .ok (.iload_n 3, 1) := by decide +kernel
theorem dX8_digest_141 : decode cX8_digest 141 = .ok (.aload_n 0, 1) := by decide +kernel
theorem dX8_digest_142 : decode cX8_digest 142 = .ok (.getfield 10, 3) := by decide +kernel
theorem dX8_digest_145 : decode cX8_digest 145 = .ok (.getfield 150, 3) := by decide +kernel
theorem dX8_digest_148 : decode cX8_digest 148 = .ok (.if_icmp .ge 40, 3) := by decide +kernel
theorem dX8_digest_151 : decode cX8_digest 151 = .ok (.iconst 0, 1) := by decide +kernel
theorem dX8_digest_152 : decode cX8_digest 152 = .ok (.istore 4, 2) := by decide +kernel
theorem dX8_digest_154 : decode cX8_digest 154 = .ok (.iload 4, 2) := by decide +kernel
theorem dX8_digest_156 : decode cX8_digest 156 = .ok (.bipush 11, 2) := by decide +kernel
theorem dX8_digest_158 : decode cX8_digest 158 = .ok (.if_icmp .ge 24, 3) := by decide +kernel
theorem dX8_digest_161 : decode cX8_digest 161 = .ok (.lload_n 1, 1) := by decide +kernel
theorem dX8_digest_162 : decode cX8_digest 162 = .ok (.ldc2_w 226, 3) := by decide +kernel
theorem dX8_digest_165 : decode cX8_digest 165 = .ok (.lmul, 1) := by decide +kernel
theorem dX8_digest_166 : decode cX8_digest 166 = .ok (.aload_n 0, 1) := by decide +kernel
theorem dX8_digest_167 : decode cX8_digest 167 = .ok (.iload_n 3, 1) := by decide +kernel
theorem dX8_digest_168 : decode cX8_digest 168 = .ok (.iload 4, 2) := by decide +kernel
theorem dX8_digest_170 : decode cX8_digest 170 = .ok (.invokevirtual 166, 3) := by decide +kernel
theorem dX8_digest_173 : decode cX8_digest 173 = .ok (.i2l, 1) := by decide +kernel
theorem dX8_digest_174 : decode cX8_digest 174 = .ok (.ladd, 1) := by decide +kernel
theorem dX8_digest_175 : decode cX8_digest 175 = .ok (.lstore_n 1, 1) := by decide +kernel
theorem dX8_digest_176 : decode cX8_digest 176 = .ok (.iinc 4 1, 3) := by decide +kernel
theorem dX8_digest_179 : decode cX8_digest 179 = .ok (.goto (-25), 3) := by decide +kernel
theorem dX8_digest_182 : decode cX8_digest 182 = .ok (.iinc 3 1, 3) := by decide +kernel
theorem dX8_digest_185 : decode cX8_digest 185 = .ok (.goto (-45), 3) := by decide +kernel
theorem dX8_digest_188 : decode cX8_digest 188 = .ok (.lload_n 1, 1) := by decide +kernel
theorem dX8_digest_189 : decode cX8_digest 189 = .ok (.lreturn, 1) := by decide +kernel
theorem dX8_within_0 : decode cX8_within 0 = .ok (.iload_n 0, 1) := by decide +kernel
theorem dX8_within_1 : decode cX8_within 1 = .ok (.iload_n 1, 1) := by decide +kernel
theorem dX8_within_2 : decode cX8_within 2 = .ok (.if_icmp .lt 12, 3) := by decide +kernel
theorem dX8_within_5 : decode cX8_within 5 = .ok (.iload_n 0, 1) := by decide +kernel
theorem dX8_within_6 : decode cX8_within 6 = .ok (.iload_n 2, 1) := by decide +kernel
theorem dX8_within_7 : decode cX8_within 7 = .ok (.if_icmp .gt 7, 3) := by decide +kernel
theorem dX8_within_10 : decode cX8_within 10 = .ok (.iconst 1, 1) := by decide +kernel
theorem dX8_within_11 : decode cX8_within 11 = .ok (.goto 4, 3) := by decide +kernel
theorem dX8_within_14 : decode cX8_within 14 = .ok (.iconst 0, 1) := by decide +kernel
theorem dX8_within_15 : decode cX8_within 15 = .ok (.ireturn, 1) := by decide +kernel
theorem dX8_isWeight_0 : decode cX8_isWeight 0 = .ok (.iload_n 0, 1) := by decide +kernel
theorem dX8_isWeight_1 : decode cX8_isWeight 1 = .ok (.bipush 20, 2) := by decide +kernel
theorem dX8_isWeight_3 : decode cX8_isWeight 3 = .ok (.bipush 120, 2) := by decide +kernel
theorem dX8_isWeight_5 : decode cX8_isWeight 5 = .ok (.invokestatic 35, 3) := by decide +kernel
theorem dX8_isWeight_8 : decode cX8_isWeight 8 = .ok (.ireturn, 1) := by decide +kernel
theorem dX8_isPlatform_0 : decode cX8_isPlatform 0 = .ok (.iload_n 1, 1) := by decide +kernel
theorem dX8_isPlatform_1 : decode cX8_isPlatform 1 = .ok (.iconst 0, 1) := by decide +kernel
theorem dX8_isPlatform_2 : decode cX8_isPlatform 2 = .ok (.aload_n 0, 1) := by decide +kernel
theorem dX8_isPlatform_3 : decode cX8_isPlatform 3 = .ok (.getfield 10, 3) := by decide +kernel
theorem dX8_isPlatform_6 : decode cX8_isPlatform 6 = .ok (.getfield 50, 3) := by decide +kernel
theorem dX8_isPlatform_9 : decode cX8_isPlatform 9 = .ok (.iconst 1, 1) := by decide +kernel
theorem dX8_isPlatform_10 : decode cX8_isPlatform 10 = .ok (.isub, 1) := by decide +kernel
theorem dX8_isPlatform_11 : decode cX8_isPlatform 11 = .ok (.invokestatic 35, 3) := by decide +kernel
theorem dX8_isPlatform_14 : decode cX8_isPlatform 14 = .ok (.ireturn, 1) := by decide +kernel
theorem dX8_isLine_0 : decode cX8_isLine 0 = .ok (.iload_n 1, 1) := by decide +kernel
theorem dX8_isLine_1 : decode cX8_isLine 1 = .ok (.iconst 0, 1) := by decide +kernel
theorem dX8_isLine_2 : decode cX8_isLine 2 = .ok (.aload_n 0, 1) := by decide +kernel
theorem dX8_isLine_3 : decode cX8_isLine 3 = .ok (.getfield 10, 3) := by decide +kernel
theorem dX8_isLine_6 : decode cX8_isLine 6 = .ok (.getfield 77, 3) := by decide +kernel
theorem dX8_isLine_9 : decode cX8_isLine 9 = .ok (.iconst 1, 1) := by decide +kernel
theorem dX8_isLine_10 : decode cX8_isLine 10 = .ok (.isub, 1) := by decide +kernel
theorem dX8_isLine_11 : decode cX8_isLine 11 = .ok (.invokestatic 35, 3) := by decide +kernel
theorem dX8_isLine_14 : decode cX8_isLine 14 = .ok (.ireturn, 1) := by decide +kernel
theorem dX8_isRider_0 : decode cX8_isRider 0 = .ok (.iload_n 1, 1) := by decide +kernel
theorem dX8_isRider_1 : decode cX8_isRider 1 = .ok (.iconst 0, 1) := by decide +kernel
theorem dX8_isRider_2 : decode cX8_isRider 2 = .ok (.aload_n 0, 1) := by decide +kernel
theorem dX8_isRider_3 : decode cX8_isRider 3 = .ok (.getfield 10, 3) := by decide +kernel
theorem dX8_isRider_6 : decode cX8_isRider 6 = .ok (.getfield 150, 3) := by decide +kernel
theorem dX8_isRider_9 : decode cX8_isRider 9 = .ok (.iconst 1, 1) := by decide +kernel
theorem dX8_isRider_10 : decode cX8_isRider 10 = .ok (.isub, 1) := by decide +kernel
theorem dX8_isRider_11 : decode cX8_isRider 11 = .ok (.invokestatic 35, 3) := by decide +kernel
theorem dX8_isRider_14 : decode cX8_isRider 14 = .ok (.ireturn, 1) := by decide +kernel
theorem dX8_arrivalsWithOneMore_0 : decode cX8_arrivalsWithOneMore 0 = .ok (.aload_n 0, 1) := by decide +kernel
theorem dX8_arrivalsWithOneMore_1 : decode cX8_arrivalsWithOneMore 1 = .ok (.getfield 25, 3) := by decide +kernel
theorem dX8_arrivalsWithOneMore_4 : decode cX8_arrivalsWithOneMore 4 = .ok (.aload_n 0, 1) := by decide +kernel
theorem dX8_arrivalsWithOneMore_5 : decode cX8_arrivalsWithOneMore 5 = .ok (.getfield 21, 3) := by decide +kernel
theorem dX8_arrivalsWithOneMore_8 : decode cX8_arrivalsWithOneMore 8 = .ok (.invokevirtual 196, 3) := by decide +kernel
theorem dX8_arrivalsWithOneMore_11 : decode cX8_arrivalsWithOneMore 11 = .ok (.aload_n 0, 1) := by decide +kernel
theorem dX8_arrivalsWithOneMore_12 : decode cX8_arrivalsWithOneMore 12 = .ok (.getfield 25, 3) := by decide +kernel
theorem dX8_arrivalsWithOneMore_15 : decode cX8_arrivalsWithOneMore 15 = .ok (.iload_n 1, 1) := by decide +kernel
theorem dX8_arrivalsWithOneMore_16 : decode cX8_arrivalsWithOneMore 16 = .ok (.iconst 1, 1) := by decide +kernel
theorem dX8_arrivalsWithOneMore_17 : decode cX8_arrivalsWithOneMore 17 = .ok (.invokevirtual 85, 3) := by decide +kernel
theorem dX8_arrivalsWithOneMore_20 : decode cX8_arrivalsWithOneMore 20 = .ok (.aload_n 0, 1) := by decide +kernel
theorem dX8_arrivalsWithOneMore_21 : decode cX8_arrivalsWithOneMore 21 = .ok (.getfield 25, 3) := by decide +kernel
theorem dX8_arrivalsWithOneMore_24 : decode cX8_arrivalsWithOneMore 24 = .ok (.iload_n 2, 1) := by decide +kernel
theorem dX8_arrivalsWithOneMore_25 : decode cX8_arrivalsWithOneMore 25 = .ok (.invokevirtual 179, 3) := by decide +kernel
theorem dX8_arrivalsWithOneMore_28 : decode cX8_arrivalsWithOneMore 28 = .ok (.ireturn, 1) := by decide +kernel
theorem dX8_digestPlatform_0 : decode cX8_digestPlatform 0 = .ok (.lload_n 1, 1) := by decide +kernel
theorem dX8_digestPlatform_1 : decode cX8_digestPlatform 1 = .ok (.lstore 4, 2) := by decide +kernel
theorem dX8_digestPlatform_3 : decode cX8_digestPlatform 3 = .ok (.iconst 0, 1) := by decide +kernel
theorem dX8_digestPlatform_4 : decode cX8_digestPlatform 4 = .ok (.istore 6, 2) := by decide +kernel
theorem dX8_digestPlatform_6 : decode cX8_digestPlatform 6 = .ok (.iload 6, 2) := by decide +kernel
theorem dX8_digestPlatform_8 : decode cX8_digestPlatform 8 = .ok (.bipush 8, 2) := by decide +kernel
theorem dX8_digestPlatform_10 : decode cX8_digestPlatform 10 = .ok (.if_icmp .ge 26, 3) := by decide +kernel
theorem dX8_digestPlatform_13 : decode cX8_digestPlatform 13 = .ok (.lload 4, 2) := by decide +kernel
theorem dX8_digestPlatform_15 : decode cX8_digestPlatform 15 = .ok (.ldc2_w 226, 3) := by decide +kernel
theorem dX8_digestPlatform_18 : decode cX8_digestPlatform 18 = .ok (.lmul, 1) := by decide +kernel
theorem dX8_digestPlatform_19 : decode cX8_digestPlatform 19 = .ok (.aload_n 0, 1) := by decide +kernel
theorem dX8_digestPlatform_20 : decode cX8_digestPlatform 20 = .ok (.iload_n 3, 1) := by decide +kernel
theorem dX8_digestPlatform_21 : decode cX8_digestPlatform 21 = .ok (.iload 6, 2) := by decide +kernel
theorem dX8_digestPlatform_23 : decode cX8_digestPlatform 23 = .ok (.invokevirtual 116, 3) := by decide +kernel
theorem dX8_digestPlatform_26 : decode cX8_digestPlatform 26 = .ok (.i2l, 1) := by decide +kernel
theorem dX8_digestPlatform_27 : decode cX8_digestPlatform 27 = .ok (.ladd, 1) := by decide +kernel
theorem dX8_digestPlatform_28 : decode cX8_digestPlatform 28 = .ok (.lstore 4, 2) := by decide +kernel
theorem dX8_digestPlatform_30 : decode cX8_digestPlatform 30 = .ok (.iinc 6 1, 3) := by decide +kernel
theorem dX8_digestPlatform_33 : decode cX8_digestPlatform 33 = .ok (.goto (-27), 3) := by decide +kernel
theorem dX8_digestPlatform_36 : decode cX8_digestPlatform 36 = .ok (.iconst 0, 1) := by decide +kernel
theorem dX8_digestPlatform_37 : decode cX8_digestPlatform 37 = .ok (.istore 6, 2) := by decide +kernel
theorem dX8_digestPlatform_39 : decode cX8_digestPlatform 39 = .ok (.iload 6, 2) := by decide +kernel
theorem dX8_digestPlatform_41 : decode cX8_digestPlatform 41 = .ok (.aload_n 0, 1) := by decide +kernel
theorem dX8_digestPlatform_42 : decode cX8_digestPlatform 42 = .ok (.getfield 21, 3) := by decide +kernel
theorem dX8_digestPlatform_45 : decode cX8_digestPlatform 45 = .ok (.iload_n 3, 1) := by decide +kernel
theorem dX8_digestPlatform_46 : decode cX8_digestPlatform 46 = .ok (.invokevirtual 169, 3) := by decide +kernel
theorem dX8_digestPlatform_49 : decode cX8_digestPlatform 49 = .ok (.if_icmp .ge 29, 3) := by decide +kernel
theorem dX8_digestPlatform_52 : decode cX8_digestPlatform 52 = .ok (.lload 4, 2) := by decide +kernel
theorem dX8_digestPlatform_54 : decode cX8_digestPlatform 54 = .ok (.ldc2_w 226, 3) := by decide +kernel
theorem dX8_digestPlatform_57 : decode cX8_digestPlatform 57 = .ok (.lmul, 1) := by decide +kernel
theorem dX8_digestPlatform_58 : decode cX8_digestPlatform 58 = .ok (.aload_n 0, 1) := by decide +kernel
theorem dX8_digestPlatform_59 : decode cX8_digestPlatform 59 = .ok (.getfield 21, 3) := by decide +kernel
theorem dX8_digestPlatform_62 : decode cX8_digestPlatform 62 = .ok (.iload_n 3, 1) := by decide +kernel
theorem dX8_digestPlatform_63 : decode cX8_digestPlatform 63 = .ok (.iload 6, 2) := by decide +kernel
theorem dX8_digestPlatform_65 : decode cX8_digestPlatform 65 = .ok (.invokevirtual 174, 3) := by decide +kernel
theorem dX8_digestPlatform_68 : decode cX8_digestPlatform 68 = .ok (.i2l, 1) := by decide +kernel
theorem dX8_digestPlatform_69 : decode cX8_digestPlatform 69 = .ok (.ladd, 1) := by decide +kernel
theorem dX8_digestPlatform_70 : decode cX8_digestPlatform 70 = .ok (.lstore 4, 2) := by decide +kernel
theorem dX8_digestPlatform_72 : decode cX8_digestPlatform 72 = .ok (.iinc 6 1, 3) := by decide +kernel
theorem dX8_digestPlatform_75 : decode cX8_digestPlatform 75 = .ok (.goto (-36), 3) := by decide +kernel
theorem dX8_digestPlatform_78 : decode cX8_digestPlatform 78 = .ok (.lload 4, 2) := by decide +kernel
theorem dX8_digestPlatform_80 : decode cX8_digestPlatform 80 = .ok (.lreturn, 1) := by decide +kernel
theorem dX8_platformFact_0 : decode cX8_platformFact 0 = .ok (.aload_n 0, 1) := by decide +kernel
theorem dX8_platformFact_1 : decode cX8_platformFact 1 = .ok (.getfield 10, 3) := by decide +kernel
theorem dX8_platformFact_4 : decode cX8_platformFact 4 = .ok (.getfield 232, 3) := by decide +kernel
theorem dX8_platformFact_7 : decode cX8_platformFact 7 = .ok (.iload_n 1, 1) := by decide +kernel
theorem dX8_platformFact_8 : decode cX8_platformFact 8 = .ok (.aaload, 1) := by decide +kernel
theorem dX8_platformFact_9 : decode cX8_platformFact 9 = .ok (.astore_n 3, 1) := by decide +kernel
theorem dX8_platformFact_10 : decode cX8_platformFact 10 = .ok (.iload_n 2, 1) := by decide +kernel
theorem dX8_platformFact_11 : decode cX8_platformFact 11 = .ok (.tableswitch 93 0 6 #[41, 46, 51, 56, 65, 75, 84], 41) := by decide +kernel
theorem dX8_platformFact_52 : decode cX8_platformFact 52 = .ok (.aload_n 3, 1) := by decide +kernel
theorem dX8_platformFact_53 : decode cX8_platformFact 53 = .ok (.getfield 236, 3) := by decide +kernel
theorem dX8_platformFact_56 : decode cX8_platformFact 56 = .ok (.ireturn, 1) := by decide +kernel
theorem dX8_platformFact_57 : decode cX8_platformFact 57 = .ok (.aload_n 3, 1) := by decide +kernel
theorem dX8_platformFact_58 : decode cX8_platformFact 58 = .ok (.getfield 241, 3) := by decide +kernel
theorem dX8_platformFact_61 : decode cX8_platformFact 61 = .ok (.ireturn, 1) := by decide +kernel
theorem dX8_platformFact_62 : decode cX8_platformFact 62 = .ok (.aload_n 3, 1) := by decide +kernel
theorem dX8_platformFact_63 : decode cX8_platformFact 63 = .ok (.getfield 244, 3) := by decide +kernel
theorem dX8_platformFact_66 : decode cX8_platformFact 66 = .ok (.ireturn, 1) := by decide +kernel
theorem dX8_platformFact_67 : decode cX8_platformFact 67 = .ok (.aload_n 0, 1) := by decide +kernel
theorem dX8_platformFact_68 : decode cX8_platformFact 68 = .ok (.getfield 21, 3) := by decide +kernel
theorem dX8_platformFact_71 : decode cX8_platformFact 71 = .ok (.iload_n 1, 1) := by decide +kernel
theorem dX8_platformFact_72 : decode cX8_platformFact 72 = .ok (.invokevirtual 169, 3) := by decide +kernel
theorem dX8_platformFact_75 : decode cX8_platformFact 75 = .ok (.ireturn, 1) := by decide +kernel
theorem dX8_platformFact_76 : decode cX8_platformFact 76 = .ok (.aload_n 0, 1) := by decide +kernel
theorem dX8_platformFact_77 : decode cX8_platformFact 77 = .ok (.getfield 21, 3) := by decide +kernel
theorem dX8_platformFact_80 : decode cX8_platformFact 80 = .ok (.iload_n 1, 1) := by decide +kernel
theorem dX8_platformFact_81 : decode cX8_platformFact 81 = .ok (.iconst 0, 1) := by decide +kernel
theorem dX8_platformFact_82 : decode cX8_platformFact 82 = .ok (.invokevirtual 174, 3) := by decide +kernel
theorem dX8_platformFact_85 : decode cX8_platformFact 85 = .ok (.ireturn, 1) := by decide +kernel
theorem dX8_platformFact_86 : decode cX8_platformFact 86 = .ok (.aload_n 0, 1) := by decide +kernel
theorem dX8_platformFact_87 : decode cX8_platformFact 87 = .ok (.getfield 10, 3) := by decide +kernel
theorem dX8_platformFact_90 : decode cX8_platformFact 90 = .ok (.iload_n 1, 1) := by decide +kernel
theorem dX8_platformFact_91 : decode cX8_platformFact 91 = .ok (.invokevirtual 247, 3) := by decide +kernel
theorem dX8_platformFact_94 : decode cX8_platformFact 94 = .ok (.ireturn, 1) := by decide +kernel
theorem dX8_platformFact_95 : decode cX8_platformFact 95 = .ok (.aload_n 0, 1) := by decide +kernel
theorem dX8_platformFact_96 : decode cX8_platformFact 96 = .ok (.getfield 10, 3) := by decide +kernel
theorem dX8_platformFact_99 : decode cX8_platformFact 99 = .ok (.iload_n 1, 1) := by decide +kernel
theorem dX8_platformFact_100 : decode cX8_platformFact 100 = .ok (.invokevirtual 250, 3) := by decide +kernel
theorem dX8_platformFact_103 : decode cX8_platformFact 103 = .ok (.ireturn, 1) := by decide +kernel
theorem dX8_platformFact_104 : decode cX8_platformFact 104 = .ok (.aload_n 0, 1) := by decide +kernel
theorem dX8_platformFact_105 : decode cX8_platformFact 105 = .ok (.getfield 21, 3) := by decide +kernel
theorem dX8_platformFact_108 : decode cX8_platformFact 108 = .ok (.iload_n 1, 1) := by decide +kernel
theorem dX8_platformFact_109 : decode cX8_platformFact 109 = .ok (.invokevirtual 253, 3) := by decide +kernel
theorem dX8_platformFact_112 : decode cX8_platformFact 112 = .ok (.ireturn, 1) := by decide +kernel
theorem dX8_lineFact_0 : decode cX8_lineFact 0 = .ok (.aload_n 0, 1) := by decide +kernel
theorem dX8_lineFact_1 : decode cX8_lineFact 1 = .ok (.getfield 10, 3) := by decide +kernel
theorem dX8_lineFact_4 : decode cX8_lineFact 4 = .ok (.getfield 130, 3) := by decide +kernel
theorem dX8_lineFact_7 : decode cX8_lineFact 7 = .ok (.iload_n 1, 1) := by decide +kernel
theorem dX8_lineFact_8 : decode cX8_lineFact 8 = .ok (.aaload, 1) := by decide +kernel
theorem dX8_lineFact_9 : decode cX8_lineFact 9 = .ok (.astore_n 3, 1) := by decide +kernel
theorem dX8_lineFact_10 : decode cX8_lineFact 10 = .ok (.aload_n 0, 1) := by decide +kernel
theorem dX8_lineFact_11 : decode cX8_lineFact 11 = .ok (.getfield 21, 3) := by decide +kernel
theorem dX8_lineFact_14 : decode cX8_lineFact 14 = .ok (.getfield 94, 3) := by decide +kernel
theorem dX8_lineFact_17 : decode cX8_lineFact 17 = .ok (.iload_n 1, 1) := by decide +kernel
theorem dX8_lineFact_18 : decode cX8_lineFact 18 = .ok (.aaload, 1) := by decide +kernel
theorem dX8_lineFact_19 : decode cX8_lineFact 19 = .ok (.astore 4, 2) := by decide +kernel
theorem dX8_lineFact_21 : decode cX8_lineFact 21 = .ok (.iload_n 2, 1) := by decide +kernel
theorem dX8_lineFact_22 : decode cX8_lineFact 22 = .ok (.tableswitch 109 0 9 #[54, 59, 64, 69, 74, 79, 85, 91, 97, 103], 54) := by decide +kernel
theorem dX8_lineFact_76 : decode cX8_lineFact 76 = .ok (.aload_n 3, 1) := by decide +kernel
theorem dX8_lineFact_77 : decode cX8_lineFact 77 = .ok (.getfield 256, 3) := by decide +kernel
theorem dX8_lineFact_80 : decode cX8_lineFact 80 = .ok (.ireturn, 1) := by decide +kernel
theorem dX8_lineFact_81 : decode cX8_lineFact 81 = .ok (.aload_n 3, 1) := by decide +kernel
theorem dX8_lineFact_82 : decode cX8_lineFact 82 = .ok (.getfield 259, 3) := by decide +kernel
theorem dX8_lineFact_85 : decode cX8_lineFact 85 = .ok (.ireturn, 1) := by decide +kernel
theorem dX8_lineFact_86 : decode cX8_lineFact 86 = .ok (.aload_n 3, 1) := by decide +kernel
theorem dX8_lineFact_87 : decode cX8_lineFact 87 = .ok (.getfield 262, 3) := by decide +kernel
theorem dX8_lineFact_90 : decode cX8_lineFact 90 = .ok (.ireturn, 1) := by decide +kernel
theorem dX8_lineFact_91 : decode cX8_lineFact 91 = .ok (.aload_n 3, 1) := by decide +kernel
theorem dX8_lineFact_92 : decode cX8_lineFact 92 = .ok (.getfield 265, 3) := by decide +kernel
theorem dX8_lineFact_95 : decode cX8_lineFact 95 = .ok (.ireturn, 1) := by decide +kernel
theorem dX8_lineFact_96 : decode cX8_lineFact 96 = .ok (.aload_n 3, 1) := by decide +kernel
theorem dX8_lineFact_97 : decode cX8_lineFact 97 = .ok (.getfield 268, 3) := by decide +kernel
theorem dX8_lineFact_100 : decode cX8_lineFact 100 = .ok (.ireturn, 1) := by decide +kernel
theorem dX8_lineFact_101 : decode cX8_lineFact 101 = .ok (.aload 4, 2) := by decide +kernel
theorem dX8_lineFact_103 : decode cX8_lineFact 103 = .ok (.invokevirtual 98, 3) := by decide +kernel
theorem dX8_lineFact_106 : decode cX8_lineFact 106 = .ok (.ireturn, 1) := by decide +kernel
theorem dX8_lineFact_107 : decode cX8_lineFact 107 = .ok (.aload 4, 2) := by decide +kernel
theorem dX8_lineFact_109 : decode cX8_lineFact 109 = .ok (.getfield 271, 3) := by decide +kernel
theorem dX8_lineFact_112 : decode cX8_lineFact 112 = .ok (.ireturn, 1) := by decide +kernel
theorem dX8_lineFact_113 : decode cX8_lineFact 113 = .ok (.aload 4, 2) := by decide +kernel
theorem dX8_lineFact_115 : decode cX8_lineFact 115 = .ok (.invokevirtual 274, 3) := by decide +kernel
theorem dX8_lineFact_118 : decode cX8_lineFact 118 = .ok (.ireturn, 1) := by decide +kernel
theorem dX8_lineFact_119 : decode cX8_lineFact 119 = .ok (.aload 4, 2) := by decide +kernel
theorem dX8_lineFact_121 : decode cX8_lineFact 121 = .ok (.getfield 277, 3) := by decide +kernel
theorem dX8_lineFact_124 : decode cX8_lineFact 124 = .ok (.ireturn, 1) := by decide +kernel
theorem dX8_lineFact_125 : decode cX8_lineFact 125 = .ok (.aload 4, 2) := by decide +kernel
theorem dX8_lineFact_127 : decode cX8_lineFact 127 = .ok (.getfield 280, 3) := by decide +kernel
theorem dX8_lineFact_130 : decode cX8_lineFact 130 = .ok (.ireturn, 1) := by decide +kernel
theorem dX8_lineFact_131 : decode cX8_lineFact 131 = .ok (.aload_n 0, 1) := by decide +kernel
theorem dX8_lineFact_132 : decode cX8_lineFact 132 = .ok (.getfield 10, 3) := by decide +kernel
theorem dX8_lineFact_135 : decode cX8_lineFact 135 = .ok (.aload_n 3, 1) := by decide +kernel
theorem dX8_lineFact_136 : decode cX8_lineFact 136 = .ok (.aload_n 0, 1) := by decide +kernel
theorem dX8_lineFact_137 : decode cX8_lineFact 137 = .ok (.getfield 21, 3) := by decide +kernel
theorem dX8_lineFact_140 : decode cX8_lineFact 140 = .ok (.getfield 283, 3) := by decide +kernel
theorem dX8_lineFact_143 : decode cX8_lineFact 143 = .ok (.invokevirtual 286, 3) := by decide +kernel
theorem dX8_lineFact_146 : decode cX8_lineFact 146 = .ok (.ifCond .eq 7, 3) := by decide +kernel
theorem dX8_lineFact_149 : decode cX8_lineFact 149 = .ok (.iconst 1, 1) := by decide +kernel
theorem dX8_lineFact_150 : decode cX8_lineFact 150 = .ok (.goto 4, 3) := by decide +kernel
theorem dX8_lineFact_153 : decode cX8_lineFact 153 = .ok (.iconst 0, 1) := by decide +kernel
theorem dX8_lineFact_154 : decode cX8_lineFact 154 = .ok (.ireturn, 1) := by decide +kernel
theorem dX8_riderFact_0 : decode cX8_riderFact 0 = .ok (.aload_n 0, 1) := by decide +kernel
theorem dX8_riderFact_1 : decode cX8_riderFact 1 = .ok (.getfield 10, 3) := by decide +kernel
theorem dX8_riderFact_4 : decode cX8_riderFact 4 = .ok (.getfield 290, 3) := by decide +kernel
theorem dX8_riderFact_7 : decode cX8_riderFact 7 = .ok (.iload_n 1, 1) := by decide +kernel
theorem dX8_riderFact_8 : decode cX8_riderFact 8 = .ok (.aaload, 1) := by decide +kernel
theorem dX8_riderFact_9 : decode cX8_riderFact 9 = .ok (.astore_n 3, 1) := by decide +kernel
theorem dX8_riderFact_10 : decode cX8_riderFact 10 = .ok (.aload_n 0, 1) := by decide +kernel
theorem dX8_riderFact_11 : decode cX8_riderFact 11 = .ok (.getfield 21, 3) := by decide +kernel
theorem dX8_riderFact_14 : decode cX8_riderFact 14 = .ok (.getfield 200, 3) := by decide +kernel
theorem dX8_riderFact_17 : decode cX8_riderFact 17 = .ok (.iload_n 1, 1) := by decide +kernel
theorem dX8_riderFact_18 : decode cX8_riderFact 18 = .ok (.aaload, 1) := by decide +kernel
theorem dX8_riderFact_19 : decode cX8_riderFact 19 = .ok (.astore 4, 2) := by decide +kernel
theorem dX8_riderFact_21 : decode cX8_riderFact 21 = .ok (.iload_n 2, 1) := by decide +kernel
theorem dX8_riderFact_22 : decode cX8_riderFact 22 = .ok (.tableswitch 153 0 9 #[54, 59, 64, 69, 75, 81, 87, 93, 122, 147], 54) := by decide +kernel
theorem dX8_riderFact_76 : decode cX8_riderFact 76 = .ok (.aload_n 3, 1) := by decide +kernel
theorem dX8_riderFact_77 : decode cX8_riderFact 77 = .ok (.getfield 294, 3) := by decide +kernel
theorem dX8_riderFact_80 : decode cX8_riderFact 80 = .ok (.ireturn, 1) := by decide +kernel
theorem dX8_riderFact_81 : decode cX8_riderFact 81 = .ok (.aload_n 3, 1) := by decide +kernel
theorem dX8_riderFact_82 : decode cX8_riderFact 82 = .ok (.getfield 299, 3) := by decide +kernel
theorem dX8_riderFact_85 : decode cX8_riderFact 85 = .ok (.ireturn, 1) := by decide +kernel
theorem dX8_riderFact_86 : decode cX8_riderFact 86 = .ok (.aload_n 3, 1) := by decide +kernel
theorem dX8_riderFact_87 : decode cX8_riderFact 87 = .ok (.getfield 302, 3) := by decide +kernel
theorem dX8_riderFact_90 : decode cX8_riderFact 90 = .ok (.ireturn, 1) := by decide +kernel
theorem dX8_riderFact_91 : decode cX8_riderFact 91 = .ok (.aload 4, 2) := by decide +kernel
theorem dX8_riderFact_93 : decode cX8_riderFact 93 = .ok (.getfield 221, 3) := by decide +kernel
theorem dX8_riderFact_96 : decode cX8_riderFact 96 = .ok (.ireturn, 1) := by decide +kernel
theorem dX8_riderFact_97 : decode cX8_riderFact 97 = .ok (.aload 4, 2) := by decide +kernel
theorem dX8_riderFact_99 : decode cX8_riderFact 99 = .ok (.getfield 305, 3) := by decide +kernel
theorem dX8_riderFact_102 : decode cX8_riderFact 102 = .ok (.ireturn, 1) := by decide +kernel
theorem dX8_riderFact_103 : decode cX8_riderFact 103 = .ok (.aload 4, 2) := by decide +kernel
theorem dX8_riderFact_105 : decode cX8_riderFact 105 = .ok (.getfield 308, 3) := by decide +kernel
theorem dX8_riderFact_108 : decode cX8_riderFact 108 = .ok (.ireturn, 1) := by decide +kernel
theorem dX8_riderFact_109 : decode cX8_riderFact 109 = .ok (.aload 4, 2) := by decide +kernel
theorem dX8_riderFact_111 : decode cX8_riderFact 111 = .ok (.getfield 311, 3) := by decide +kernel
theorem dX8_riderFact_114 : decode cX8_riderFact 114 = .ok (.ireturn, 1) := by decide +kernel
theorem dX8_riderFact_115 : decode cX8_riderFact 115 = .ok (.aload 4, 2) := by decide +kernel
theorem dX8_riderFact_117 : decode cX8_riderFact 117 = .ok (.getfield 221, 3) := by decide +kernel
theorem dX8_riderFact_120 : decode cX8_riderFact 120 = .ok (.ifCond .ne 22, 3) := by decide +kernel
theorem dX8_riderFact_123 : decode cX8_riderFact 123 = .ok (.aload_n 3, 1) := by decide +kernel
theorem dX8_riderFact_124 : decode cX8_riderFact 124 = .ok (.getfield 314, 3) := by decide +kernel
theorem dX8_riderFact_127 : decode cX8_riderFact 127 = .ok (.aload 4, 2) := by decide +kernel
theorem dX8_riderFact_129 : decode cX8_riderFact 129 = .ok (.getfield 305, 3) := by decide +kernel
theorem dX8_riderFact_132 : decode cX8_riderFact 132 = .ok (.invokevirtual 191, 3) := by decide +kernel
theorem dX8_riderFact_135 : decode cX8_riderFact 135 = .ok (.iconst 0, 1) := by decide +kernel
theorem dX8_riderFact_136 : decode cX8_riderFact 136 = .ok (.invokestatic 317, 3) := by decide +kernel
theorem dX8_riderFact_139 : decode cX8_riderFact 139 = .ok (.goto 4, 3) := by decide +kernel
theorem dX8_riderFact_142 : decode cX8_riderFact 142 = .ok (.iconst 0, 1) := by decide +kernel
theorem dX8_riderFact_143 : decode cX8_riderFact 143 = .ok (.ireturn, 1) := by decide +kernel
theorem dX8_riderFact_144 : decode cX8_riderFact 144 = .ok (.aload 4, 2) := by decide +kernel
theorem dX8_riderFact_146 : decode cX8_riderFact 146 = .ok (.getfield 221, 3) := by decide +kernel
theorem dX8_riderFact_149 : decode cX8_riderFact 149 = .ok (.ifCond .ne 18, 3) := by decide +kernel
theorem dX8_riderFact_152 : decode cX8_riderFact 152 = .ok (.aload_n 3, 1) := by decide +kernel
theorem dX8_riderFact_153 : decode cX8_riderFact 153 = .ok (.getfield 314, 3) := by decide +kernel
theorem dX8_riderFact_156 : decode cX8_riderFact 156 = .ok (.aload 4, 2) := by decide +kernel
theorem dX8_riderFact_158 : decode cX8_riderFact 158 = .ok (.getfield 305, 3) := by decide +kernel
theorem dX8_riderFact_161 : decode cX8_riderFact 161 = .ok (.invokevirtual 322, 3) := by decide +kernel
theorem dX8_riderFact_164 : decode cX8_riderFact 164 = .ok (.goto 4, 3) := by decide +kernel
theorem dX8_riderFact_167 : decode cX8_riderFact 167 = .ok (.iconst (-1), 1) := by decide +kernel
theorem dX8_riderFact_168 : decode cX8_riderFact 168 = .ok (.ireturn, 1) := by decide +kernel
theorem dX8_riderFact_169 : decode cX8_riderFact 169 = .ok (.aload 4, 2) := by decide +kernel
theorem dX8_riderFact_171 : decode cX8_riderFact 171 = .ok (.getfield 325, 3) := by decide +kernel
theorem dX8_riderFact_174 : decode cX8_riderFact 174 = .ok (.ireturn, 1) := by decide +kernel
theorem dX8_riderFact_175 : decode cX8_riderFact 175 = .ok (.aload 4, 2) := by decide +kernel
theorem dX8_riderFact_177 : decode cX8_riderFact 177 = .ok (.getfield 213, 3) := by decide +kernel
theorem dX8_riderFact_180 : decode cX8_riderFact 180 = .ok (.ireturn, 1) := by decide +kernel
theorem dX8_countFact_0 : decode cX8_countFact 0 = .ok (.iload_n 1, 1) := by decide +kernel
theorem dX8_countFact_1 : decode cX8_countFact 1 = .ok (.tableswitch 127 0 8 #[51, 59, 67, 75, 83, 92, 101, 110, 119], 51) := by decide +kernel
theorem dX8_countFact_52 : decode cX8_countFact 52 = .ok (.aload_n 0, 1) := by decide +kernel
theorem dX8_countFact_53 : decode cX8_countFact 53 = .ok (.getfield 21, 3) := by decide +kernel
theorem dX8_countFact_56 : decode cX8_countFact 56 = .ok (.getfield 283, 3) := by decide +kernel
theorem dX8_countFact_59 : decode cX8_countFact 59 = .ok (.ireturn, 1) := by decide +kernel
theorem dX8_countFact_60 : decode cX8_countFact 60 = .ok (.aload_n 0, 1) := by decide +kernel
theorem dX8_countFact_61 : decode cX8_countFact 61 = .ok (.getfield 10, 3) := by decide +kernel
theorem dX8_countFact_64 : decode cX8_countFact 64 = .ok (.getfield 50, 3) := by decide +kernel
theorem dX8_countFact_67 : decode cX8_countFact 67 = .ok (.ireturn, 1) := by decide +kernel
theorem dX8_countFact_68 : decode cX8_countFact 68 = .ok (.aload_n 0, 1) := by decide +kernel
theorem dX8_countFact_69 : decode cX8_countFact 69 = .ok (.getfield 10, 3) := by decide +kernel
theorem dX8_countFact_72 : decode cX8_countFact 72 = .ok (.getfield 77, 3) := by decide +kernel
theorem dX8_countFact_75 : decode cX8_countFact 75 = .ok (.ireturn, 1) := by decide +kernel
theorem dX8_countFact_76 : decode cX8_countFact 76 = .ok (.aload_n 0, 1) := by decide +kernel
theorem dX8_countFact_77 : decode cX8_countFact 77 = .ok (.getfield 10, 3) := by decide +kernel
theorem dX8_countFact_80 : decode cX8_countFact 80 = .ok (.getfield 150, 3) := by decide +kernel
theorem dX8_countFact_83 : decode cX8_countFact 83 = .ok (.ireturn, 1) := by decide +kernel
theorem dX8_countFact_84 : decode cX8_countFact 84 = .ok (.aload_n 0, 1) := by decide +kernel
theorem dX8_countFact_85 : decode cX8_countFact 85 = .ok (.getfield 21, 3) := by decide +kernel
theorem dX8_countFact_88 : decode cX8_countFact 88 = .ok (.iconst 0, 1) := by decide +kernel
theorem dX8_countFact_89 : decode cX8_countFact 89 = .ok (.invokevirtual 328, 3) := by decide +kernel
theorem dX8_countFact_92 : decode cX8_countFact 92 = .ok (.ireturn, 1) := by decide +kernel
theorem dX8_countFact_93 : decode cX8_countFact 93 = .ok (.aload_n 0, 1) := by decide +kernel
theorem dX8_countFact_94 : decode cX8_countFact 94 = .ok (.getfield 21, 3) := by decide +kernel
theorem dX8_countFact_97 : decode cX8_countFact 97 = .ok (.iconst 1, 1) := by decide +kernel
theorem dX8_countFact_98 : decode cX8_countFact 98 = .ok (.invokevirtual 328, 3) := by decide +kernel
theorem dX8_countFact_101 : decode cX8_countFact 101 = .ok (.ireturn, 1) := by decide +kernel
theorem dX8_countFact_102 : decode cX8_countFact 102 = .ok (.aload_n 0, 1) := by decide +kernel
theorem dX8_countFact_103 : decode cX8_countFact 103 = .ok (.getfield 21, 3) := by decide +kernel
theorem dX8_countFact_106 : decode cX8_countFact 106 = .ok (.iconst 2, 1) := by decide +kernel
theorem dX8_countFact_107 : decode cX8_countFact 107 = .ok (.invokevirtual 328, 3) := by decide +kernel
theorem dX8_countFact_110 : decode cX8_countFact 110 = .ok (.ireturn, 1) := by decide +kernel
theorem dX8_countFact_111 : decode cX8_countFact 111 = .ok (.aload_n 0, 1) := by decide +kernel
theorem dX8_countFact_112 : decode cX8_countFact 112 = .ok (.getfield 21, 3) := by decide +kernel
theorem dX8_countFact_115 : decode cX8_countFact 115 = .ok (.iconst 3, 1) := by decide +kernel
theorem dX8_countFact_116 : decode cX8_countFact 116 = .ok (.invokevirtual 328, 3) := by decide +kernel
theorem dX8_countFact_119 : decode cX8_countFact 119 = .ok (.ireturn, 1) := by decide +kernel
theorem dX8_countFact_120 : decode cX8_countFact 120 = .ok (.aload_n 0, 1) := by decide +kernel
theorem dX8_countFact_121 : decode cX8_countFact 121 = .ok (.getfield 21, 3) := by decide +kernel
theorem dX8_countFact_124 : decode cX8_countFact 124 = .ok (.invokevirtual 331, 3) := by decide +kernel
theorem dX8_countFact_127 : decode cX8_countFact 127 = .ok (.ireturn, 1) := by decide +kernel
theorem dX8_countFact_128 : decode cX8_countFact 128 = .ok (.aload_n 0, 1) := by decide +kernel
theorem dX8_countFact_129 : decode cX8_countFact 129 = .ok (.getfield 21, 3) := by decide +kernel
theorem dX8_countFact_132 : decode cX8_countFact 132 = .ok (.invokevirtual 334, 3) := by decide +kernel
theorem dX8_countFact_135 : decode cX8_countFact 135 = .ok (.ireturn, 1) := by decide +kernel
