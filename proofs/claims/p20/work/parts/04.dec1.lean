theorem dX0_init_0 : decode cX0_init 0 = .ok (.aload_n 0, 1) := by decide +kernel
theorem dX0_init_1 : decode cX0_init 1 = .ok (.invokespecial 3, 3) := by decide +kernel
theorem dX0_init_4 : decode cX0_init 4 = .ok (.aload_n 0, 1) := by decide +kernel
theorem dX0_init_5 : decode cX0_init 5 = .ok (.bipush 8, 2) := by decide +kernel
theorem dX0_init_7 : decode cX0_init 7 = .ok (.anewarray 9, 3) := by decide +kernel
theorem dX0_init_10 : decode cX0_init 10 = .ok (.putfield 11, 3) := by decide +kernel
theorem dX0_init_13 : decode cX0_init 13 = .ok (.aload_n 0, 1) := by decide +kernel
theorem dX0_init_14 : decode cX0_init 14 = .ok (.bipush 12, 2) := by decide +kernel
theorem dX0_init_16 : decode cX0_init 16 = .ok (.anewarray 17, 3) := by decide +kernel
theorem dX0_init_19 : decode cX0_init 19 = .ok (.putfield 19, 3) := by decide +kernel
theorem dX0_init_22 : decode cX0_init 22 = .ok (.aload_n 0, 1) := by decide +kernel
theorem dX0_init_23 : decode cX0_init 23 = .ok (.bipush 12, 2) := by decide +kernel
theorem dX0_init_25 : decode cX0_init 25 = .ok (.anewarray 23, 3) := by decide +kernel
theorem dX0_init_28 : decode cX0_init 28 = .ok (.putfield 25, 3) := by decide +kernel
theorem dX0_init_31 : decode cX0_init 31 = .ok (.aload_n 0, 1) := by decide +kernel
theorem dX0_init_32 : decode cX0_init 32 = .ok (.bipush 12, 2) := by decide +kernel
theorem dX0_init_34 : decode cX0_init 34 = .ok (.newarray .int, 2) := by decide +kernel
theorem dX0_init_36 : decode cX0_init 36 = .ok (.putfield 29, 3) := by decide +kernel
theorem dX0_init_39 : decode cX0_init 39 = .ok (.iconst 0, 1) := by decide +kernel
theorem dX0_init_40 : decode cX0_init 40 = .ok (.istore_n 1, 1) := by decide +kernel
theorem dX0_init_41 : decode cX0_init 41 = .ok (.iload_n 1, 1) := by decide +kernel
theorem dX0_init_42 : decode cX0_init 42 = .ok (.bipush 8, 2) := by decide +kernel
theorem dX0_init_44 : decode cX0_init 44 = .ok (.if_icmp .ge 22, 3) := by decide +kernel
theorem dX0_init_47 : decode cX0_init 47 = .ok (.aload_n 0, 1) := by decide +kernel
theorem dX0_init_48 : decode cX0_init 48 = .ok (.getfield 11, 3) := by decide +kernel
theorem dX0_init_51 : decode cX0_init 51 = .ok (.iload_n 1, 1) := by decide +kernel
theorem dX0_init_52 : decode cX0_init 52 = .ok (.new 9, 3) := by decide +kernel
theorem dX0_init_55 : decode cX0_init 55 = .ok (.dup, 1) := by decide +kernel
theorem dX0_init_56 : decode cX0_init 56 = .ok (.invokespecial 33, 3) := by decide +kernel
theorem dX0_init_59 : decode cX0_init 59 = .ok (.aastore, 1) := by decide +kernel
theorem dX0_init_60 : decode cX0_init 60 = .ok (.iinc 1 1, 3) := by decide +kernel
theorem dX0_init_63 : decode cX0_init 63 = .ok (.goto (-22), 3) := by decide +kernel
theorem dX0_init_66 : decode cX0_init 66 = .ok (.iconst 0, 1) := by decide +kernel
theorem dX0_init_67 : decode cX0_init 67 = .ok (.istore_n 1, 1) := by decide +kernel
theorem dX0_init_68 : decode cX0_init 68 = .ok (.iload_n 1, 1) := by decide +kernel
theorem dX0_init_69 : decode cX0_init 69 = .ok (.bipush 12, 2) := by decide +kernel
theorem dX0_init_71 : decode cX0_init 71 = .ok (.if_icmp .ge 22, 3) := by decide +kernel
theorem dX0_init_74 : decode cX0_init 74 = .ok (.aload_n 0, 1) := by decide +kernel
theorem dX0_init_75 : decode cX0_init 75 = .ok (.getfield 19, 3) := by decide +kernel
theorem dX0_init_78 : decode cX0_init 78 = .ok (.iload_n 1, 1) := by decide +kernel
theorem dX0_init_79 : decode cX0_init 79 = .ok (.new 17, 3) := by decide +kernel
theorem dX0_init_82 : decode cX0_init 82 = .ok (.dup, 1) := by decide +kernel
theorem dX0_init_83 : decode cX0_init 83 = .ok (.invokespecial 34, 3) := by decide +kernel
theorem dX0_init_86 : decode cX0_init 86 = .ok (.aastore, 1) := by decide +kernel
theorem dX0_init_87 : decode cX0_init 87 = .ok (.iinc 1 1, 3) := by decide +kernel
theorem dX0_init_90 : decode cX0_init 90 = .ok (.goto (-22), 3) := by decide +kernel
theorem dX0_init_93 : decode cX0_init 93 = .ok (.iconst 0, 1) := by decide +kernel
theorem dX0_init_94 : decode cX0_init 94 = .ok (.istore_n 1, 1) := by decide +kernel
theorem dX0_init_95 : decode cX0_init 95 = .ok (.iload_n 1, 1) := by decide +kernel
theorem dX0_init_96 : decode cX0_init 96 = .ok (.bipush 12, 2) := by decide +kernel
theorem dX0_init_98 : decode cX0_init 98 = .ok (.if_icmp .ge 22, 3) := by decide +kernel
theorem dX0_init_101 : decode cX0_init 101 = .ok (.aload_n 0, 1) := by decide +kernel
theorem dX0_init_102 : decode cX0_init 102 = .ok (.getfield 25, 3) := by decide +kernel
theorem dX0_init_105 : decode cX0_init 105 = .ok (.iload_n 1, 1) := by decide +kernel
theorem dX0_init_106 : decode cX0_init 106 = .ok (.new 23, 3) := by decide +kernel
theorem dX0_init_109 : decode cX0_init 109 = .ok (.dup, 1) := by decide +kernel
theorem dX0_init_110 : decode cX0_init 110 = .ok (.invokespecial 35, 3) := by decide +kernel
theorem dX0_init_113 : decode cX0_init 113 = .ok (.aastore, 1) := by decide +kernel
theorem dX0_init_114 : decode cX0_init 114 = .ok (.iinc 1 1, 3) := by decide +kernel
theorem dX0_init_117 : decode cX0_init 117 = .ok (.goto (-22), 3) := by decide +kernel
theorem dX0_init_120 : decode cX0_init 120 = .ok (.return_, 1) := by decide +kernel
theorem dX0_hasPlatformAt_0 : decode cX0_hasPlatformAt 0 = .ok (.iconst 0, 1) := by decide +kernel
theorem dX0_hasPlatformAt_1 : decode cX0_hasPlatformAt 1 = .ok (.istore_n 3, 1) := by decide +kernel
theorem dX0_hasPlatformAt_2 : decode cX0_hasPlatformAt 2 = .ok (.iload_n 3, 1) := by decide +kernel
theorem dX0_hasPlatformAt_3 : decode cX0_hasPlatformAt 3 = .ok (.aload_n 0, 1) := by decide +kernel
theorem dX0_hasPlatformAt_4 : decode cX0_hasPlatformAt 4 = .ok (.getfield 36, 3) := by decide +kernel
theorem dX0_hasPlatformAt_7 : decode cX0_hasPlatformAt 7 = .ok (.if_icmp .ge 37, 3) := by decide +kernel
theorem dX0_hasPlatformAt_10 : decode cX0_hasPlatformAt 10 = .ok (.aload_n 0, 1) := by decide +kernel
theorem dX0_hasPlatformAt_11 : decode cX0_hasPlatformAt 11 = .ok (.getfield 11, 3) := by decide +kernel
theorem dX0_hasPlatformAt_14 : decode cX0_hasPlatformAt 14 = .ok (.iload_n 3, 1) := by decide +kernel
theorem dX0_hasPlatformAt_15 : decode cX0_hasPlatformAt 15 = .ok (.aaload, 1) := by decide +kernel
theorem dX0_hasPlatformAt_16 : decode cX0_hasPlatformAt 16 = .ok (.getfield 40, 3) := by decide +kernel
theorem dX0_hasPlatformAt_19 : decode cX0_hasPlatformAt 19 = .ok (.iload_n 1, 1) := by decide +kernel
theorem dX0_hasPlatformAt_20 : decode cX0_hasPlatformAt 20 = .ok (.if_icmp .ne 18, 3) := by decide +kernel
theorem dX0_hasPlatformAt_23 : decode cX0_hasPlatformAt 23 = .ok (.aload_n 0, 1) := by decide +kernel
theorem dX0_hasPlatformAt_24 : decode cX0_hasPlatformAt 24 = .ok (.getfield 11, 3) := by decide +kernel
theorem dX0_hasPlatformAt_27 : decode cX0_hasPlatformAt 27 = .ok (.iload_n 3, 1) := by decide +kernel
theorem dX0_hasPlatformAt_28 : decode cX0_hasPlatformAt 28 = .ok (.aaload, 1) := by decide +kernel
theorem dX0_hasPlatformAt_29 : decode cX0_hasPlatformAt 29 = .ok (.getfield 43, 3) := by decide +kernel
theorem dX0_hasPlatformAt_32 : decode cX0_hasPlatformAt 32 = .ok (.iload_n 2, 1) := by decide +kernel
theorem dX0_hasPlatformAt_33 : decode cX0_hasPlatformAt 33 = .ok (.if_icmp .ne 5, 3) := by decide +kernel
theorem dX0_hasPlatformAt_36 : decode cX0_hasPlatformAt 36 = .ok (.iconst 1, 1) := by decide +kernel
theorem dX0_hasPlatformAt_37 : decode cX0_hasPlatformAt 37 = .ok (.ireturn, 1) := by decide +kernel
theorem dX0_hasPlatformAt_38 : decode cX0_hasPlatformAt 38 = .ok (.iinc 3 1, 3) := by decide +kernel
theorem dX0_hasPlatformAt_41 : decode cX0_hasPlatformAt 41 = .ok (.goto (-39), 3) := by decide +kernel
theorem dX0_hasPlatformAt_44 : decode cX0_hasPlatformAt 44 = .ok (.iconst 0, 1) := by decide +kernel
theorem dX0_hasPlatformAt_45 : decode cX0_hasPlatformAt 45 = .ok (.ireturn, 1) := by decide +kernel
theorem dX0_isLower_0 : decode cX0_isLower 0 = .ok (.aload_n 0, 1) := by decide +kernel
theorem dX0_isLower_1 : decode cX0_isLower 1 = .ok (.getfield 11, 3) := by decide +kernel
theorem dX0_isLower_4 : decode cX0_isLower 4 = .ok (.iload_n 1, 1) := by decide +kernel
theorem dX0_isLower_5 : decode cX0_isLower 5 = .ok (.aaload, 1) := by decide +kernel
theorem dX0_isLower_6 : decode cX0_isLower 6 = .ok (.getfield 46, 3) := by decide +kernel
theorem dX0_isLower_9 : decode cX0_isLower 9 = .ok (.aload_n 0, 1) := by decide +kernel
theorem dX0_isLower_10 : decode cX0_isLower 10 = .ok (.getfield 11, 3) := by decide +kernel
theorem dX0_isLower_13 : decode cX0_isLower 13 = .ok (.iload_n 2, 1) := by decide +kernel
theorem dX0_isLower_14 : decode cX0_isLower 14 = .ok (.aaload, 1) := by decide +kernel
theorem dX0_isLower_15 : decode cX0_isLower 15 = .ok (.getfield 46, 3) := by decide +kernel
theorem dX0_isLower_18 : decode cX0_isLower 18 = .ok (.if_icmp .ge 7, 3) := by decide +kernel
theorem dX0_isLower_21 : decode cX0_isLower 21 = .ok (.iconst 1, 1) := by decide +kernel
theorem dX0_isLower_22 : decode cX0_isLower 22 = .ok (.goto 4, 3) := by decide +kernel
theorem dX0_isLower_25 : decode cX0_isLower 25 = .ok (.iconst 0, 1) := by decide +kernel
theorem dX0_isLower_26 : decode cX0_isLower 26 = .ok (.ireturn, 1) := by decide +kernel
theorem dX0_addPlatform_0 : decode cX0_addPlatform 0 = .ok (.aload_n 0, 1) := by decide +kernel
theorem dX0_addPlatform_1 : decode cX0_addPlatform 1 = .ok (.getfield 36, 3) := by decide +kernel
theorem dX0_addPlatform_4 : decode cX0_addPlatform 4 = .ok (.istore 4, 2) := by decide +kernel
theorem dX0_addPlatform_6 : decode cX0_addPlatform 6 = .ok (.aload_n 0, 1) := by decide +kernel
theorem dX0_addPlatform_7 : decode cX0_addPlatform 7 = .ok (.getfield 11, 3) := by decide +kernel
theorem dX0_addPlatform_10 : decode cX0_addPlatform 10 = .ok (.iload 4, 2) := by decide +kernel
theorem dX0_addPlatform_12 : decode cX0_addPlatform 12 = .ok (.aaload, 1) := by decide +kernel
theorem dX0_addPlatform_13 : decode cX0_addPlatform 13 = .ok (.iload_n 1, 1) := by decide +kernel
theorem dX0_addPlatform_14 : decode cX0_addPlatform 14 = .ok (.putfield 40, 3) := by decide +kernel
theorem dX0_addPlatform_17 : decode cX0_addPlatform 17 = .ok (.aload_n 0, 1) := by decide +kernel
theorem dX0_addPlatform_18 : decode cX0_addPlatform 18 = .ok (.getfield 11, 3) := by decide +kernel
theorem dX0_addPlatform_21 : decode cX0_addPlatform 21 = .ok (.iload 4, 2) := by decide +kernel
theorem dX0_addPlatform_23 : decode cX0_addPlatform 23 = .ok (.aaload, 1) := by decide +kernel
theorem dX0_addPlatform_24 : decode cX0_addPlatform 24 = .ok (.iload_n 2, 1) := by decide +kernel
theorem dX0_addPlatform_25 : decode cX0_addPlatform 25 = .ok (.putfield 43, 3) := by decide +kernel
theorem dX0_addPlatform_28 : decode cX0_addPlatform 28 = .ok (.aload_n 0, 1) := by decide +kernel
theorem dX0_addPlatform_29 : decode cX0_addPlatform 29 = .ok (.getfield 11, 3) := by decide +kernel
theorem dX0_addPlatform_32 : decode cX0_addPlatform 32 = .ok (.iload 4, 2) := by decide +kernel
theorem dX0_addPlatform_34 : decode cX0_addPlatform 34 = .ok (.aaload, 1) := by decide +kernel
theorem dX0_addPlatform_35 : decode cX0_addPlatform 35 = .ok (.iload_n 3, 1) := by decide +kernel
theorem dX0_addPlatform_36 : decode cX0_addPlatform 36 = .ok (.putfield 46, 3) := by decide +kernel
theorem dX0_addPlatform_39 : decode cX0_addPlatform 39 = .ok (.aload_n 0, 1) := by decide +kernel
theorem dX0_addPlatform_40 : decode cX0_addPlatform 40 = .ok (.dup, 1) := by decide +kernel
theorem dX0_addPlatform_41 : decode cX0_addPlatform 41 = .ok (.getfield 36, 3) := by decide +kernel
theorem dX0_addPlatform_44 : decode cX0_addPlatform 44 = .ok (.iconst 1, 1) := by decide +kernel
theorem dX0_addPlatform_45 : decode cX0_addPlatform 45 = .ok (.iadd, 1) := by decide +kernel
theorem dX0_addPlatform_46 : decode cX0_addPlatform 46 = .ok (.putfield 36, 3) := by decide +kernel
theorem dX0_addPlatform_49 : decode cX0_addPlatform 49 = .ok (.iload 4, 2) := by decide +kernel
theorem dX0_addPlatform_51 : decode cX0_addPlatform 51 = .ok (.ireturn, 1) := by decide +kernel
theorem dX0_addLine_0 : decode cX0_addLine 0 = .ok (.aload_n 0, 1) := by decide +kernel
theorem dX0_addLine_1 : decode cX0_addLine 1 = .ok (.getfield 49, 3) := by decide +kernel
theorem dX0_addLine_4 : decode cX0_addLine 4 = .ok (.istore 4, 2) := by decide +kernel
theorem dX0_addLine_6 : decode cX0_addLine 6 = .ok (.aload_n 0, 1) := by decide +kernel
theorem dX0_addLine_7 : decode cX0_addLine 7 = .ok (.getfield 19, 3) := by decide +kernel
theorem dX0_addLine_10 : decode cX0_addLine 10 = .ok (.iload 4, 2) := by decide +kernel
theorem dX0_addLine_12 : decode cX0_addLine 12 = .ok (.aaload, 1) := by decide +kernel
theorem dX0_addLine_13 : decode cX0_addLine 13 = .ok (.astore 5, 2) := by decide +kernel
theorem dX0_addLine_15 : decode cX0_addLine 15 = .ok (.aload 5, 2) := by decide +kernel
theorem dX0_addLine_17 : decode cX0_addLine 17 = .ok (.iload_n 1, 1) := by decide +kernel
theorem dX0_addLine_18 : decode cX0_addLine 18 = .ok (.putfield 52, 3) := by decide +kernel
theorem dX0_addLine_21 : decode cX0_addLine 21 = .ok (.aload 5, 2) := by decide +kernel
theorem dX0_addLine_23 : decode cX0_addLine 23 = .ok (.iload_n 2, 1) := by decide +kernel
theorem dX0_addLine_24 : decode cX0_addLine 24 = .ok (.putfield 55, 3) := by decide +kernel
theorem dX0_addLine_27 : decode cX0_addLine 27 = .ok (.aload 5, 2) := by decide +kernel
theorem dX0_addLine_29 : decode cX0_addLine 29 = .ok (.iload_n 3, 1) := by decide +kernel
theorem dX0_addLine_30 : decode cX0_addLine 30 = .ok (.putfield 58, 3) := by decide +kernel
theorem dX0_addLine_33 : decode cX0_addLine 33 = .ok (.aload 5, 2) := by decide +kernel
theorem dX0_addLine_35 : decode cX0_addLine 35 = .ok (.aload_n 0, 1) := by decide +kernel
theorem dX0_addLine_36 : decode cX0_addLine 36 = .ok (.getfield 11, 3) := by decide +kernel
theorem dX0_addLine_39 : decode cX0_addLine 39 = .ok (.iload_n 1, 1) := by decide +kernel
theorem dX0_addLine_40 : decode cX0_addLine 40 = .ok (.aaload, 1) := by decide +kernel
theorem dX0_addLine_41 : decode cX0_addLine 41 = .ok (.aload_n 0, 1) := by decide +kernel
theorem dX0_addLine_42 : decode cX0_addLine 42 = .ok (.getfield 11, 3) := by decide +kernel
theorem dX0_addLine_45 : decode cX0_addLine 45 = .ok (.iload_n 2, 1) := by decide +kernel
theorem dX0_addLine_46 : decode cX0_addLine 46 = .ok (.aaload, 1) := by decide +kernel
theorem dX0_addLine_47 : decode cX0_addLine 47 = .ok (.invokevirtual 61, 3) := by decide +kernel
theorem dX0_addLine_50 : decode cX0_addLine 50 = .ok (.putfield 65, 3) := by decide +kernel
theorem dX0_addLine_53 : decode cX0_addLine 53 = .ok (.aload 5, 2) := by decide +kernel
theorem dX0_addLine_55 : decode cX0_addLine 55 = .ok (.aload_n 0, 1) := by decide +kernel
theorem dX0_addLine_56 : decode cX0_addLine 56 = .ok (.getfield 11, 3) := by decide +kernel
theorem dX0_addLine_59 : decode cX0_addLine 59 = .ok (.iload_n 1, 1) := by decide +kernel
theorem dX0_addLine_60 : decode cX0_addLine 60 = .ok (.aaload, 1) := by decide +kernel
theorem dX0_addLine_61 : decode cX0_addLine 61 = .ok (.getfield 46, 3) := by decide +kernel
theorem dX0_addLine_64 : decode cX0_addLine 64 = .ok (.aload_n 0, 1) := by decide +kernel
theorem dX0_addLine_65 : decode cX0_addLine 65 = .ok (.getfield 11, 3) := by decide +kernel
theorem dX0_addLine_68 : decode cX0_addLine 68 = .ok (.iload_n 2, 1) := by decide +kernel
theorem dX0_addLine_69 : decode cX0_addLine 69 = .ok (.aaload, 1) := by decide +kernel
theorem dX0_addLine_70 : decode cX0_addLine 70 = .ok (.getfield 46, 3) := by decide +kernel
theorem dX0_addLine_73 : decode cX0_addLine 73 = .ok (.isub, 1) := by decide +kernel
theorem dX0_addLine_74 : decode cX0_addLine 74 = .ok (.putfield 68, 3) := by decide +kernel
theorem dX0_addLine_77 : decode cX0_addLine 77 = .ok (.aload_n 0, 1) := by decide +kernel
theorem dX0_addLine_78 : decode cX0_addLine 78 = .ok (.dup, 1) := by decide +kernel
theorem dX0_addLine_79 : decode cX0_addLine 79 = .ok (.getfield 49, 3) := by decide +kernel
theorem dX0_addLine_82 : decode cX0_addLine 82 = .ok (.iconst 1, 1) := by decide +kernel
theorem dX0_addLine_83 : decode cX0_addLine 83 = .ok (.iadd, 1) := by decide +kernel
theorem dX0_addLine_84 : decode cX0_addLine 84 = .ok (.putfield 49, 3) := by decide +kernel
theorem dX0_addLine_87 : decode cX0_addLine 87 = .ok (.iconst 0, 1) := by decide +kernel
theorem dX0_addLine_88 : decode cX0_addLine 88 = .ok (.istore 6, 2) := by decide +kernel
theorem dX0_addLine_90 : decode cX0_addLine 90 = .ok (.iload 6, 2) := by decide +kernel
theorem dX0_addLine_92 : decode cX0_addLine 92 = .ok (.aload_n 0, 1) := by decide +kernel
theorem dX0_addLine_93 : decode cX0_addLine 93 = .ok (.getfield 71, 3) := by decide +kernel
theorem dX0_addLine_96 : decode cX0_addLine 96 = .ok (.if_icmp .ge 20, 3) := by decide +kernel
theorem dX0_addLine_99 : decode cX0_addLine 99 = .ok (.aload_n 0, 1) := by decide +kernel
theorem dX0_addLine_100 : decode cX0_addLine 100 = .ok (.getfield 25, 3) := by decide +kernel
theorem dX0_addLine_103 : decode cX0_addLine 103 = .ok (.iload 6, 2) := by decide +kernel
theorem dX0_addLine_105 : decode cX0_addLine 105 = .ok (.aaload, 1) := by decide +kernel
theorem dX0_addLine_106 : decode cX0_addLine 106 = .ok (.aload_n 0, 1) := by decide +kernel
theorem dX0_addLine_107 : decode cX0_addLine 107 = .ok (.invokevirtual 74, 3) := by decide +kernel
theorem dX0_addLine_110 : decode cX0_addLine 110 = .ok (.iinc 6 1, 3) := by decide +kernel
theorem dX0_addLine_113 : decode cX0_addLine 113 = .ok (.goto (-23), 3) := by decide +kernel
theorem dX0_addLine_116 : decode cX0_addLine 116 = .ok (.iload 4, 2) := by decide +kernel
theorem dX0_addLine_118 : decode cX0_addLine 118 = .ok (.ireturn, 1) := by decide +kernel
theorem dX0_addRider_0 : decode cX0_addRider 0 = .ok (.aload_n 0, 1) := by decide +kernel
theorem dX0_addRider_1 : decode cX0_addRider 1 = .ok (.getfield 71, 3) := by decide +kernel
theorem dX0_addRider_4 : decode cX0_addRider 4 = .ok (.istore 4, 2) := by decide +kernel
theorem dX0_addRider_6 : decode cX0_addRider 6 = .ok (.aload_n 0, 1) := by decide +kernel
theorem dX0_addRider_7 : decode cX0_addRider 7 = .ok (.getfield 25, 3) := by decide +kernel
theorem dX0_addRider_10 : decode cX0_addRider 10 = .ok (.iload 4, 2) := by decide +kernel
theorem dX0_addRider_12 : decode cX0_addRider 12 = .ok (.aaload, 1) := by decide +kernel
theorem dX0_addRider_13 : decode cX0_addRider 13 = .ok (.astore 5, 2) := by decide +kernel
theorem dX0_addRider_15 : decode cX0_addRider 15 = .ok (.aload 5, 2) := by decide +kernel
theorem dX0_addRider_17 : decode cX0_addRider 17 = .ok (.iload_n 1, 1) := by decide +kernel
theorem dX0_addRider_18 : decode cX0_addRider 18 = .ok (.putfield 78, 3) := by decide +kernel
theorem dX0_addRider_21 : decode cX0_addRider 21 = .ok (.aload 5, 2) := by decide +kernel
theorem dX0_addRider_23 : decode cX0_addRider 23 = .ok (.iload_n 2, 1) := by decide +kernel
theorem dX0_addRider_24 : decode cX0_addRider 24 = .ok (.putfield 81, 3) := by decide +kernel
theorem dX0_addRider_27 : decode cX0_addRider 27 = .ok (.aload 5, 2) := by decide +kernel
theorem dX0_addRider_29 : decode cX0_addRider 29 = .ok (.iload_n 3, 1) := by decide +kernel
theorem dX0_addRider_30 : decode cX0_addRider 30 = .ok (.putfield 84, 3) := by decide +kernel
theorem dX0_addRider_33 : decode cX0_addRider 33 = .ok (.aload 5, 2) := by decide +kernel
theorem dX0_addRider_35 : decode cX0_addRider 35 = .ok (.aload_n 0, 1) := by decide +kernel
theorem dX0_addRider_36 : decode cX0_addRider 36 = .ok (.invokevirtual 74, 3) := by decide +kernel
theorem dX0_addRider_39 : decode cX0_addRider 39 = .ok (.aload_n 0, 1) := by decide +kernel
theorem dX0_addRider_40 : decode cX0_addRider 40 = .ok (.dup, 1) := by decide +kernel
theorem dX0_addRider_41 : decode cX0_addRider 41 = .ok (.getfield 71, 3) := by decide +kernel
theorem dX0_addRider_44 : decode cX0_addRider 44 = .ok (.iconst 1, 1) := by decide +kernel
theorem dX0_addRider_45 : decode cX0_addRider 45 = .ok (.iadd, 1) := by decide +kernel
theorem dX0_addRider_46 : decode cX0_addRider 46 = .ok (.putfield 71, 3) := by decide +kernel
theorem dX0_addRider_49 : decode cX0_addRider 49 = .ok (.iload 4, 2) := by decide +kernel
theorem dX0_addRider_51 : decode cX0_addRider 51 = .ok (.ireturn, 1) := by decide +kernel
theorem dX0_linesWithTop_0 : decode cX0_linesWithTop 0 = .ok (.iconst 0, 1) := by decide +kernel
theorem dX0_linesWithTop_1 : decode cX0_linesWithTop 1 = .ok (.istore_n 2, 1) := by decide +kernel
theorem dX0_linesWithTop_2 : decode cX0_linesWithTop 2 = .ok (.iconst 0, 1) := by decide +kernel
theorem dX0_linesWithTop_3 : decode cX0_linesWithTop 3 = .ok (.istore_n 3, 1) := by decide +kernel
theorem dX0_linesWithTop_4 : decode cX0_linesWithTop 4 = .ok (.iload_n 3, 1) := by decide +kernel
theorem dX0_linesWithTop_5 : decode cX0_linesWithTop 5 = .ok (.aload_n 0, 1) := by decide +kernel
theorem dX0_linesWithTop_6 : decode cX0_linesWithTop 6 = .ok (.getfield 49, 3) := by decide +kernel
theorem dX0_linesWithTop_9 : decode cX0_linesWithTop 9 = .ok (.if_icmp .ge 25, 3) := by decide +kernel
theorem dX0_linesWithTop_12 : decode cX0_linesWithTop 12 = .ok (.aload_n 0, 1) := by decide +kernel
theorem dX0_linesWithTop_13 : decode cX0_linesWithTop 13 = .ok (.getfield 19, 3) := by decide +kernel
theorem dX0_linesWithTop_16 : decode cX0_linesWithTop 16 = .ok (.iload_n 3, 1) := by decide +kernel
theorem dX0_linesWithTop_17 : decode cX0_linesWithTop 17 = .ok (.aaload, 1) := by decide +kernel
theorem dX0_linesWithTop_18 : decode cX0_linesWithTop 18 = .ok (.getfield 52, 3) := by decide +kernel
theorem dX0_linesWithTop_21 : decode cX0_linesWithTop 21 = .ok (.iload_n 1, 1) := by decide +kernel
theorem dX0_linesWithTop_22 : decode cX0_linesWithTop 22 = .ok (.if_icmp .ne 6, 3) := by decide +kernel
theorem dX0_linesWithTop_25 : decode cX0_linesWithTop 25 = .ok (.iinc 2 1, 3) := by decide +kernel
theorem dX0_linesWithTop_28 : decode cX0_linesWithTop 28 = .ok (.iinc 3 1, 3) := by decide +kernel
theorem dX0_linesWithTop_31 : decode cX0_linesWithTop 31 = .ok (.goto (-27), 3) := by decide +kernel
theorem dX0_linesWithTop_34 : decode cX0_linesWithTop 34 = .ok (.iload_n 2, 1) := by decide +kernel
theorem dX0_linesWithTop_35 : decode cX0_linesWithTop 35 = .ok (.ireturn, 1) := by decide +kernel
theorem dX0_linesWithBottom_0 : decode cX0_linesWithBottom 0 = .ok (.iconst 0, 1) := by decide +kernel
theorem dX0_linesWithBottom_1 : decode cX0_linesWithBottom 1 = .ok (.istore_n 2, 1) := by decide +kernel
theorem dX0_linesWithBottom_2 : decode cX0_linesWithBottom 2 = .ok (.iconst 0, 1) := by decide +kernel
theorem dX0_linesWithBottom_3 : decode cX0_linesWithBottom 3 = .ok (.istore_n 3, 1) := by decide +kernel
theorem dX0_linesWithBottom_4 : decode cX0_linesWithBottom 4 = .ok (.iload_n 3, 1) := by decide +kernel
theorem dX0_linesWithBottom_5 : decode cX0_linesWithBottom 5 = .ok (.aload_n 0, 1) := by decide +kernel
theorem dX0_linesWithBottom_6 : decode cX0_linesWithBottom 6 = .ok (.getfield 49, 3) := by decide +kernel
theorem dX0_linesWithBottom_9 : decode cX0_linesWithBottom 9 = .ok (.if_icmp .ge 25, 3) := by decide +kernel
theorem dX0_linesWithBottom_12 : decode cX0_linesWithBottom 12 = .ok (.aload_n 0, 1) := by decide +kernel
theorem dX0_linesWithBottom_13 : decode cX0_linesWithBottom 13 = .ok (.getfield 19, 3) := by decide +kernel
theorem dX0_linesWithBottom_16 : decode cX0_linesWithBottom 16 = .ok (.iload_n 3, 1) := by decide +kernel
theorem dX0_linesWithBottom_17 : decode cX0_linesWithBottom 17 = .ok (.aaload, 1) := by decide +kernel
theorem dX0_linesWithBottom_18 : decode cX0_linesWithBottom 18 = .ok (.getfield 55, 3) := by decide +kernel
theorem dX0_linesWithBottom_21 : decode cX0_linesWithBottom 21 = .ok (.iload_n 1, 1) := by decide +kernel
theorem dX0_linesWithBottom_22 : decode cX0_linesWithBottom 22 = .ok (.if_icmp .ne 6, 3) := by decide +kernel
theorem dX0_linesWithBottom_25 : decode cX0_linesWithBottom 25 = .ok (.iinc 2 1, 3) := by decide +kernel
theorem dX0_linesWithBottom_28 : decode cX0_linesWithBottom 28 = .ok (.iinc 3 1, 3) := by decide +kernel
theorem dX0_linesWithBottom_31 : decode cX0_linesWithBottom 31 = .ok (.goto (-27), 3) := by decide +kernel
theorem dX0_linesWithBottom_34 : decode cX0_linesWithBottom 34 = .ok (.iload_n 2, 1) := by decide +kernel
theorem dX0_linesWithBottom_35 : decode cX0_linesWithBottom 35 = .ok (.ireturn, 1) := by decide +kernel
theorem dX0_isClosed_0 : decode cX0_isClosed 0 = .ok (.aload_n 0, 1) := by decide +kernel
theorem dX0_isClosed_1 : decode cX0_isClosed 1 = .ok (.getfield 29, 3) := by decide +kernel
theorem dX0_isClosed_4 : decode cX0_isClosed 4 = .ok (.iload_n 2, 1) := by decide +kernel
theorem dX0_isClosed_5 : decode cX0_isClosed 5 = .ok (.bipush 12, 2) := by decide +kernel
theorem dX0_isClosed_7 : decode cX0_isClosed 7 = .ok (.invokestatic 87, 3) := by decide +kernel
theorem dX0_isClosed_10 : decode cX0_isClosed 10 = .ok (.iaload, 1) := by decide +kernel
theorem dX0_isClosed_11 : decode cX0_isClosed 11 = .ok (.istore_n 3, 1) := by decide +kernel
theorem dX0_isClosed_12 : decode cX0_isClosed 12 = .ok (.aload_n 1, 1) := by decide +kernel
theorem dX0_isClosed_13 : decode cX0_isClosed 13 = .ok (.getfield 65, 3) := by decide +kernel
theorem dX0_isClosed_16 : decode cX0_isClosed 16 = .ok (.bipush 80, 2) := by decide +kernel
theorem dX0_isClosed_18 : decode cX0_isClosed 18 = .ok (.bipush 8, 2) := by decide +kernel
theorem dX0_isClosed_20 : decode cX0_isClosed 20 = .ok (.iload_n 3, 1) := by decide +kernel
theorem dX0_isClosed_21 : decode cX0_isClosed 21 = .ok (.imul, 1) := by decide +kernel
theorem dX0_isClosed_22 : decode cX0_isClosed 22 = .ok (.isub, 1) := by decide +kernel
theorem dX0_isClosed_23 : decode cX0_isClosed 23 = .ok (.if_icmp .le 7, 3) := by decide +kernel
theorem dX0_isClosed_26 : decode cX0_isClosed 26 = .ok (.iconst 1, 1) := by decide +kernel
theorem dX0_isClosed_27 : decode cX0_isClosed 27 = .ok (.goto 4, 3) := by decide +kernel
theorem dX0_isClosed_30 : decode cX0_isClosed 30 = .ok (.iconst 0, 1) := by decide +kernel
theorem dX0_isClosed_31 : decode cX0_isClosed 31 = .ok (.ireturn, 1) := by decide +kernel
theorem dX1_init_0 : decode cX1_init 0 = .ok (.aload_n 0, 1) := by decide +kernel
theorem dX1_init_1 : decode cX1_init 1 = .ok (.invokespecial 1, 3) := by decide +kernel
theorem dX1_init_4 : decode cX1_init 4 = .ok (.return_, 1) := by decide +kernel
theorem dX1_carries_0 : decode cX1_carries 0 = .ok (.iload_n 1, 1) := by decide +kernel
theorem dX1_carries_1 : decode cX1_carries 1 = .ok (.aload_n 0, 1) := by decide +kernel
theorem dX1_carries_2 : decode cX1_carries 2 = .ok (.getfield 7, 3) := by decide +kernel
theorem dX1_carries_5 : decode cX1_carries 5 = .ok (.if_icmp .gt 7, 3) := by decide +kernel
theorem dX1_carries_8 : decode cX1_carries 8 = .ok (.iconst 1, 1) := by decide +kernel
theorem dX1_carries_9 : decode cX1_carries 9 = .ok (.goto 4, 3) := by decide +kernel
theorem dX1_carries_12 : decode cX1_carries 12 = .ok (.iconst 0, 1) := by decide +kernel
theorem dX1_carries_13 : decode cX1_carries 13 = .ok (.ireturn, 1) := by decide +kernel
theorem dX1_getsStuck_0 : decode cX1_getsStuck 0 = .ok (.iload_n 1, 1) := by decide +kernel
theorem dX1_getsStuck_1 : decode cX1_getsStuck 1 = .ok (.aload_n 0, 1) := by decide +kernel
theorem dX1_getsStuck_2 : decode cX1_getsStuck 2 = .ok (.getfield 13, 3) := by decide +kernel
theorem dX1_getsStuck_5 : decode cX1_getsStuck 5 = .ok (.imul, 1) := by decide +kernel
theorem dX1_getsStuck_6 : decode cX1_getsStuck 6 = .ok (.bipush 10, 2) := by decide +kernel
theorem dX1_getsStuck_8 : decode cX1_getsStuck 8 = .ok (.aload_n 0, 1) := by decide +kernel
theorem dX1_getsStuck_9 : decode cX1_getsStuck 9 = .ok (.getfield 16, 3) := by decide +kernel
theorem dX1_getsStuck_12 : decode cX1_getsStuck 12 = .ok (.imul, 1) := by decide +kernel
theorem dX1_getsStuck_13 : decode cX1_getsStuck 13 = .ok (.if_icmp .ge 7, 3) := by decide +kernel
theorem dX1_getsStuck_16 : decode cX1_getsStuck 16 = .ok (.iconst 1, 1) := by decide +kernel
theorem dX1_getsStuck_17 : decode cX1_getsStuck 17 = .ok (.goto 4, 3) := by decide +kernel
theorem dX1_getsStuck_20 : decode cX1_getsStuck 20 = .ok (.iconst 0, 1) := by decide +kernel
theorem dX1_getsStuck_21 : decode cX1_getsStuck 21 = .ok (.ireturn, 1) := by decide +kernel
theorem dX1_rideMinutes_0 : decode cX1_rideMinutes 0 = .ok (.aload_n 0, 1) := by decide +kernel
theorem dX1_rideMinutes_1 : decode cX1_rideMinutes 1 = .ok (.getfield 13, 3) := by decide +kernel
theorem dX1_rideMinutes_4 : decode cX1_rideMinutes 4 = .ok (.iload_n 1, 1) := by decide +kernel
theorem dX1_rideMinutes_5 : decode cX1_rideMinutes 5 = .ok (.bipush 10, 2) := by decide +kernel
theorem dX1_rideMinutes_7 : decode cX1_rideMinutes 7 = .ok (.idiv, 1) := by decide +kernel
theorem dX1_rideMinutes_8 : decode cX1_rideMinutes 8 = .ok (.iadd, 1) := by decide +kernel
theorem dX1_rideMinutes_9 : decode cX1_rideMinutes 9 = .ok (.istore_n 2, 1) := by decide +kernel
theorem dX1_rideMinutes_10 : decode cX1_rideMinutes 10 = .ok (.iload_n 2, 1) := by decide +kernel
theorem dX1_rideMinutes_11 : decode cX1_rideMinutes 11 = .ok (.ifCond .gt 5, 3) := by decide +kernel
theorem dX1_rideMinutes_14 : decode cX1_rideMinutes 14 = .ok (.iconst 0, 1) := by decide +kernel
theorem dX1_rideMinutes_15 : decode cX1_rideMinutes 15 = .ok (.ireturn, 1) := by decide +kernel
theorem dX1_rideMinutes_16 : decode cX1_rideMinutes 16 = .ok (.iconst 2, 1) := by decide +kernel
theorem dX1_rideMinutes_17 : decode cX1_rideMinutes 17 = .ok (.aload_n 0, 1) := by decide +kernel
theorem dX1_rideMinutes_18 : decode cX1_rideMinutes 18 = .ok (.getfield 16, 3) := by decide +kernel
theorem dX1_rideMinutes_21 : decode cX1_rideMinutes 21 = .ok (.imul, 1) := by decide +kernel
theorem dX1_rideMinutes_22 : decode cX1_rideMinutes 22 = .ok (.iload_n 2, 1) := by decide +kernel
theorem dX1_rideMinutes_23 : decode cX1_rideMinutes 23 = .ok (.iadd, 1) := by decide +kernel
theorem dX1_rideMinutes_24 : decode cX1_rideMinutes 24 = .ok (.iconst 1, 1) := by decide +kernel
theorem dX1_rideMinutes_25 : decode cX1_rideMinutes 25 = .ok (.isub, 1) := by decide +kernel
theorem dX1_rideMinutes_26 : decode cX1_rideMinutes 26 = .ok (.iload_n 2, 1) := by decide +kernel
theorem dX1_rideMinutes_27 : decode cX1_rideMinutes 27 = .ok (.idiv, 1) := by decide +kernel
theorem dX1_rideMinutes_28 : decode cX1_rideMinutes 28 = .ok (.istore_n 3, 1) := by decide +kernel
theorem dX1_rideMinutes_29 : decode cX1_rideMinutes 29 = .ok (.aload_n 0, 1) := by decide +kernel
theorem dX1_rideMinutes_30 : decode cX1_rideMinutes 30 = .ok (.iload_n 1, 1) := by decide +kernel
theorem dX1_rideMinutes_31 : decode cX1_rideMinutes 31 = .ok (.invokevirtual 19, 3) := by decide +kernel
theorem dX1_rideMinutes_34 : decode cX1_rideMinutes 34 = .ok (.ifCond .eq 9, 3) := by decide +kernel
theorem dX1_rideMinutes_37 : decode cX1_rideMinutes 37 = .ok (.iconst 2, 1) := by decide +kernel
theorem dX1_rideMinutes_38 : decode cX1_rideMinutes 38 = .ok (.iload_n 3, 1) := by decide +kernel
theorem dX1_rideMinutes_39 : decode cX1_rideMinutes 39 = .ok (.imul, 1) := by decide +kernel
theorem dX1_rideMinutes_40 : decode cX1_rideMinutes 40 = .ok (.goto 4, 3) := by decide +kernel
theorem dX1_rideMinutes_43 : decode cX1_rideMinutes 43 = .ok (.iload_n 3, 1) := by decide +kernel
theorem dX1_rideMinutes_44 : decode cX1_rideMinutes 44 = .ok (.ireturn, 1) := by decide +kernel
theorem dX1_pullMinutes_0 : decode cX1_pullMinutes 0 = .ok (.aload_n 0, 1) := by decide +kernel
theorem dX1_pullMinutes_1 : decode cX1_pullMinutes 1 = .ok (.getfield 16, 3) := by decide +kernel
theorem dX1_pullMinutes_4 : decode cX1_pullMinutes 4 = .ok (.bipush 9, 2) := by decide +kernel
theorem dX1_pullMinutes_6 : decode cX1_pullMinutes 6 = .ok (.iadd, 1) := by decide +kernel
theorem dX1_pullMinutes_7 : decode cX1_pullMinutes 7 = .ok (.bipush 10, 2) := by decide +kernel
theorem dX1_pullMinutes_9 : decode cX1_pullMinutes 9 = .ok (.idiv, 1) := by decide +kernel
theorem dX1_pullMinutes_10 : decode cX1_pullMinutes 10 = .ok (.ireturn, 1) := by decide +kernel
theorem dX2_init_0 : decode cX2_init 0 = .ok (.aload_n 0, 1) := by decide +kernel
theorem dX2_init_1 : decode cX2_init 1 = .ok (.invokespecial 1, 3) := by decide +kernel
theorem dX2_init_4 : decode cX2_init 4 = .ok (.return_, 1) := by decide +kernel
theorem dX2_distanceTo_0 : decode cX2_distanceTo 0 = .ok (.aload_n 0, 1) := by decide +kernel
theorem dX2_distanceTo_1 : decode cX2_distanceTo 1 = .ok (.getfield 7, 3) := by decide +kernel
theorem dX2_distanceTo_4 : decode cX2_distanceTo 4 = .ok (.aload_n 1, 1) := by decide +kernel
theorem dX2_distanceTo_5 : decode cX2_distanceTo 5 = .ok (.getfield 7, 3) := by decide +kernel
theorem dX2_distanceTo_8 : decode cX2_distanceTo 8 = .ok (.isub, 1) := by decide +kernel
theorem dX2_distanceTo_9 : decode cX2_distanceTo 9 = .ok (.invokestatic 13, 3) := by decide +kernel
theorem dX2_distanceTo_12 : decode cX2_distanceTo 12 = .ok (.aload_n 0, 1) := by decide +kernel
theorem dX2_distanceTo_13 : decode cX2_distanceTo 13 = .ok (.getfield 19, 3) := by decide +kernel
theorem dX2_distanceTo_16 : decode cX2_distanceTo 16 = .ok (.aload_n 1, 1) := by decide +kernel
theorem dX2_distanceTo_17 : decode cX2_distanceTo 17 = .ok (.getfield 19, 3) := by decide +kernel
theorem dX2_distanceTo_20 : decode cX2_distanceTo 20 = .ok (.isub, 1) := by decide +kernel
theorem dX2_distanceTo_21 : decode cX2_distanceTo 21 = .ok (.invokestatic 13, 3) := by decide +kernel
theorem dX2_distanceTo_24 : decode cX2_distanceTo 24 = .ok (.iadd, 1) := by decide +kernel
theorem dX2_distanceTo_25 : decode cX2_distanceTo 25 = .ok (.ireturn, 1) := by decide +kernel
theorem dX3_init_0 : decode cX3_init 0 = .ok (.aload_n 0, 1) := by decide +kernel
theorem dX3_init_1 : decode cX3_init 1 = .ok (.invokespecial 1, 3) := by decide +kernel
theorem dX3_init_4 : decode cX3_init 4 = .ok (.aload_n 0, 1) := by decide +kernel
theorem dX3_init_5 : decode cX3_init 5 = .ok (.new 7, 3) := by decide +kernel
theorem dX3_init_8 : decode cX3_init 8 = .ok (.dup, 1) := by decide +kernel
theorem dX3_init_9 : decode cX3_init 9 = .ok (.invokespecial 9, 3) := by decide +kernel
theorem dX3_init_12 : decode cX3_init 12 = .ok (.putfield 10, 3) := by decide +kernel
theorem dX3_init_15 : decode cX3_init 15 = .ok (.return_, 1) := by decide +kernel
theorem dX3_planRoute_0 : decode cX3_planRoute 0 = .ok (.aload_n 0, 1) := by decide +kernel
theorem dX3_planRoute_1 : decode cX3_planRoute 1 = .ok (.getfield 10, 3) := by decide +kernel
theorem dX3_planRoute_4 : decode cX3_planRoute 4 = .ok (.aload_n 1, 1) := by decide +kernel
theorem dX3_planRoute_5 : decode cX3_planRoute 5 = .ok (.aload_n 0, 1) := by decide +kernel
theorem dX3_planRoute_6 : decode cX3_planRoute 6 = .ok (.getfield 16, 3) := by decide +kernel
theorem dX3_planRoute_9 : decode cX3_planRoute 9 = .ok (.aload_n 0, 1) := by decide +kernel
theorem dX3_planRoute_10 : decode cX3_planRoute 10 = .ok (.getfield 20, 3) := by decide +kernel
theorem dX3_planRoute_13 : decode cX3_planRoute 13 = .ok (.invokevirtual 23, 3) := by decide +kernel
theorem dX3_planRoute_16 : decode cX3_planRoute 16 = .ok (.return_, 1) := by decide +kernel
theorem dX4_init_0 : decode cX4_init 0 = .ok (.aload_n 0, 1) := by decide +kernel
theorem dX4_init_1 : decode cX4_init 1 = .ok (.invokespecial 3, 3) := by decide +kernel
theorem dX4_init_4 : decode cX4_init 4 = .ok (.aload_n 0, 1) := by decide +kernel
theorem dX4_init_5 : decode cX4_init 5 = .ok (.bipush 8, 2) := by decide +kernel
theorem dX4_init_7 : decode cX4_init 7 = .ok (.newarray .int, 2) := by decide +kernel
theorem dX4_init_9 : decode cX4_init 9 = .ok (.putfield 9, 3) := by decide +kernel
theorem dX4_init_12 : decode cX4_init 12 = .ok (.aload_n 0, 1) := by decide +kernel
theorem dX4_init_13 : decode cX4_init 13 = .ok (.bipush 8, 2) := by decide +kernel
theorem dX4_init_15 : decode cX4_init 15 = .ok (.newarray .int, 2) := by decide +kernel
theorem dX4_init_17 : decode cX4_init 17 = .ok (.putfield 15, 3) := by decide +kernel
theorem dX4_init_20 : decode cX4_init 20 = .ok (.return_, 1) := by decide +kernel
theorem dX4_plan_0 : decode cX4_plan 0 = .ok (.iconst 0, 1) := by decide +kernel
theorem dX4_plan_1 : decode cX4_plan 1 = .ok (.istore 4, 2) := by decide +kernel
theorem dX4_plan_3 : decode cX4_plan 3 = .ok (.iload 4, 2) := by decide +kernel
theorem dX4_plan_5 : decode cX4_plan 5 = .ok (.bipush 8, 2) := by decide +kernel
theorem dX4_plan_7 : decode cX4_plan 7 = .ok (.if_icmp .ge 35, 3) := by decide +kernel
theorem dX4_plan_10 : decode cX4_plan 10 = .ok (.aload_n 0, 1) := by decide +kernel
theorem dX4_plan_11 : decode cX4_plan 11 = .ok (.getfield 9, 3) := by decide +kernel
theorem dX4_plan_14 : decode cX4_plan 14 = .ok (.iload 4, 2) := by decide +kernel
theorem dX4_plan_16 : decode cX4_plan 16 = .ok (.iload 4, 2) := by decide +kernel
theorem dX4_plan_18 : decode cX4_plan 18 = .ok (.iload_n 2, 1) := by decide +kernel
theorem dX4_plan_19 : decode cX4_plan 19 = .ok (.if_icmp .ne 7, 3) := by decide +kernel
theorem dX4_plan_22 : decode cX4_plan 22 = .ok (.iconst 0, 1) := by decide +kernel
theorem dX4_plan_23 : decode cX4_plan 23 = .ok (.goto 4, 3) := by decide +kernel
theorem dX4_plan_26 : decode cX4_plan 26 = .ok (.iconst (-1), 1) := by decide +kernel
theorem dX4_plan_27 : decode cX4_plan 27 = .ok (.iastore, 1) := by decide +kernel
theorem dX4_plan_28 : decode cX4_plan 28 = .ok (.aload_n 0, 1) := by decide +kernel
theorem dX4_plan_29 : decode cX4_plan 29 = .ok (.getfield 15, 3) := by decide +kernel
theorem dX4_plan_32 : decode cX4_plan 32 = .ok (.iload 4, 2) := by decide +kernel
theorem dX4_plan_34 : decode cX4_plan 34 = .ok (.iconst (-1), 1) := by decide +kernel
theorem dX4_plan_35 : decode cX4_plan 35 = .ok (.iastore, 1) := by decide +kernel
theorem dX4_plan_36 : decode cX4_plan 36 = .ok (.iinc 4 1, 3) := by decide +kernel
theorem dX4_plan_39 : decode cX4_plan 39 = .ok (.goto (-36), 3) := by decide +kernel
theorem dX4_plan_42 : decode cX4_plan 42 = .ok (.iconst 1, 1) := by decide +kernel
theorem dX4_plan_43 : decode cX4_plan 43 = .ok (.istore 4, 2) := by decide +kernel
theorem dX4_plan_45 : decode cX4_plan 45 = .ok (.iload 4, 2) := by decide +kernel
theorem dX4_plan_47 : decode cX4_plan 47 = .ok (.aload_n 1, 1) := by decide +kernel
theorem dX4_plan_48 : decode cX4_plan 48 = .ok (.getfield 18, 3) := by decide +kernel
theorem dX4_plan_51 : decode cX4_plan 51 = .ok (.if_icmp .ge 43, 3) := by decide +kernel
theorem dX4_plan_54 : decode cX4_plan 54 = .ok (.iconst 0, 1) := by decide +kernel
theorem dX4_plan_55 : decode cX4_plan 55 = .ok (.istore 5, 2) := by decide +kernel
theorem dX4_plan_57 : decode cX4_plan 57 = .ok (.iload 5, 2) := by decide +kernel
theorem dX4_plan_59 : decode cX4_plan 59 = .ok (.aload_n 1, 1) := by decide +kernel
theorem dX4_plan_60 : decode cX4_plan 60 = .ok (.getfield 24, 3) := by decide +kernel
theorem dX4_plan_63 : decode cX4_plan 63 = .ok (.if_icmp .ge 25, 3) := by decide +kernel
theorem dX4_plan_66 : decode cX4_plan 66 = .ok (.aload_n 0, 1) := by decide +kernel
theorem dX4_plan_67 : decode cX4_plan 67 = .ok (.aload_n 1, 1) := by decide +kernel
theorem dX4_plan_68 : decode cX4_plan 68 = .ok (.getfield 27, 3) := by decide +kernel
theorem dX4_plan_71 : decode cX4_plan 71 = .ok (.iload 5, 2) := by decide +kernel
theorem dX4_plan_73 : decode cX4_plan 73 = .ok (.aaload, 1) := by decide +kernel
theorem dX4_plan_74 : decode cX4_plan 74 = .ok (.iload 5, 2) := by decide +kernel
theorem dX4_plan_76 : decode cX4_plan 76 = .ok (.iload 4, 2) := by decide +kernel
theorem dX4_plan_78 : decode cX4_plan 78 = .ok (.iload_n 3, 1) := by decide +kernel
theorem dX4_plan_79 : decode cX4_plan 79 = .ok (.invokevirtual 30, 3) := by decide +kernel
theorem dX4_plan_82 : decode cX4_plan 82 = .ok (.iinc 5 1, 3) := by decide +kernel
theorem dX4_plan_85 : decode cX4_plan 85 = .ok (.goto (-28), 3) := by decide +kernel
theorem dX4_plan_88 : decode cX4_plan 88 = .ok (.iinc 4 1, 3) := by decide +kernel
theorem dX4_plan_91 : decode cX4_plan 91 = .ok (.goto (-46), 3) := by decide +kernel
theorem dX4_plan_94 : decode cX4_plan 94 = .ok (.return_, 1) := by decide +kernel
theorem dX4_extend_0 : decode cX4_extend 0 = .ok (.aload_n 1, 1) := by decide +kernel
theorem dX4_extend_1 : decode cX4_extend 1 = .ok (.getfield 34, 3) := by decide +kernel
theorem dX4_extend_4 : decode cX4_extend 4 = .ok (.istore 5, 2) := by decide +kernel
theorem dX4_extend_6 : decode cX4_extend 6 = .ok (.iload 5, 2) := by decide +kernel
theorem dX4_extend_8 : decode cX4_extend 8 = .ok (.iconst 0, 1) := by decide +kernel
theorem dX4_extend_9 : decode cX4_extend 9 = .ok (.bipush 7, 2) := by decide +kernel
theorem dX4_extend_11 : decode cX4_extend 11 = .ok (.invokestatic 39, 3) := by decide +kernel
theorem dX4_extend_14 : decode cX4_extend 14 = .ok (.ifCond .eq 14, 3) := by decide +kernel
theorem dX4_extend_17 : decode cX4_extend 17 = .ok (.aload_n 0, 1) := by decide +kernel
theorem dX4_extend_18 : decode cX4_extend 18 = .ok (.getfield 9, 3) := by decide +kernel
theorem dX4_extend_21 : decode cX4_extend 21 = .ok (.iload 5, 2) := by decide +kernel
theorem dX4_extend_23 : decode cX4_extend 23 = .ok (.iaload, 1) := by decide +kernel
theorem dX4_extend_24 : decode cX4_extend 24 = .ok (.iconst (-1), 1) := by decide +kernel
theorem dX4_extend_25 : decode cX4_extend 25 = .ok (.if_icmp .eq 4, 3) := by decide +kernel
theorem dX4_extend_28 : decode cX4_extend 28 = .ok (.return_, 1) := by decide +kernel
theorem dX4_extend_29 : decode cX4_extend 29 = .ok (.aload_n 1, 1) := by decide +kernel
theorem dX4_extend_30 : decode cX4_extend 30 = .ok (.iload 4, 2) := by decide +kernel
theorem dX4_extend_32 : decode cX4_extend 32 = .ok (.invokevirtual 43, 3) := by decide +kernel
theorem dX4_extend_35 : decode cX4_extend 35 = .ok (.ifCond .eq 33, 3) := by decide +kernel
theorem dX4_extend_38 : decode cX4_extend 38 = .ok (.aload_n 0, 1) := by decide +kernel
theorem dX4_extend_39 : decode cX4_extend 39 = .ok (.aload_n 1, 1) := by decide +kernel
theorem dX4_extend_40 : decode cX4_extend 40 = .ok (.getfield 47, 3) := by decide +kernel
theorem dX4_extend_43 : decode cX4_extend 43 = .ok (.invokevirtual 50, 3) := by decide +kernel
theorem dX4_extend_46 : decode cX4_extend 46 = .ok (.iload_n 3, 1) := by decide +kernel
theorem dX4_extend_47 : decode cX4_extend 47 = .ok (.iconst 1, 1) := by decide +kernel
theorem dX4_extend_48 : decode cX4_extend 48 = .ok (.isub, 1) := by decide +kernel
theorem dX4_extend_49 : decode cX4_extend 49 = .ok (.if_icmp .ne 19, 3) := by decide +kernel
theorem dX4_extend_52 : decode cX4_extend 52 = .ok (.aload_n 0, 1) := by decide +kernel
theorem dX4_extend_53 : decode cX4_extend 53 = .ok (.getfield 9, 3) := by decide +kernel
theorem dX4_extend_56 : decode cX4_extend 56 = .ok (.iload 5, 2) := by decide +kernel
theorem dX4_extend_58 : decode cX4_extend 58 = .ok (.iload_n 3, 1) := by decide +kernel
theorem dX4_extend_59 : decode cX4_extend 59 = .ok (.iastore, 1) := by decide +kernel
theorem dX4_extend_60 : decode cX4_extend 60 = .ok (.aload_n 0, 1) := by decide +kernel
theorem dX4_extend_61 : decode cX4_extend 61 = .ok (.getfield 15, 3) := by decide +kernel
theorem dX4_extend_64 : decode cX4_extend 64 = .ok (.iload 5, 2) := by decide +kernel
theorem dX4_extend_66 : decode cX4_extend 66 = .ok (.iload_n 2, 1) := by decide +kernel
theorem dX4_extend_67 : decode cX4_extend 67 = .ok (.iastore, 1) := by decide +kernel
theorem dX4_extend_68 : decode cX4_extend 68 = .ok (.return_, 1) := by decide +kernel
theorem dX4_linesFrom_0 : decode cX4_linesFrom 0 = .ok (.iload_n 1, 1) := by decide +kernel
theorem dX4_linesFrom_1 : decode cX4_linesFrom 1 = .ok (.iconst 0, 1) := by decide +kernel
theorem dX4_linesFrom_2 : decode cX4_linesFrom 2 = .ok (.bipush 7, 2) := by decide +kernel
theorem dX4_linesFrom_4 : decode cX4_linesFrom 4 = .ok (.invokestatic 39, 3) := by decide +kernel
theorem dX4_linesFrom_7 : decode cX4_linesFrom 7 = .ok (.ifCond .eq 12, 3) := by decide +kernel
theorem dX4_linesFrom_10 : decode cX4_linesFrom 10 = .ok (.aload_n 0, 1) := by decide +kernel
theorem dX4_linesFrom_11 : decode cX4_linesFrom 11 = .ok (.getfield 9, 3) := by decide +kernel
theorem dX4_linesFrom_14 : decode cX4_linesFrom 14 = .ok (.iload_n 1, 1) := by decide +kernel
theorem dX4_linesFrom_15 : decode cX4_linesFrom 15 = .ok (.iaload, 1) := by decide +kernel
theorem dX4_linesFrom_16 : decode cX4_linesFrom 16 = .ok (.goto 4, 3) := by decide +kernel
theorem dX4_linesFrom_19 : decode cX4_linesFrom 19 = .ok (.iconst (-1), 1) := by decide +kernel
theorem dX4_linesFrom_20 : decode cX4_linesFrom 20 = .ok (.ireturn, 1) := by decide +kernel
theorem dX4_firstFrom_0 : decode cX4_firstFrom 0 = .ok (.iload_n 1, 1) := by decide +kernel
theorem dX4_firstFrom_1 : decode cX4_firstFrom 1 = .ok (.iconst 0, 1) := by decide +kernel
theorem dX4_firstFrom_2 : decode cX4_firstFrom 2 = .ok (.bipush 7, 2) := by decide +kernel
theorem dX4_firstFrom_4 : decode cX4_firstFrom 4 = .ok (.invokestatic 39, 3) := by decide +kernel
theorem dX4_firstFrom_7 : decode cX4_firstFrom 7 = .ok (.ifCond .eq 12, 3) := by decide +kernel
theorem dX4_firstFrom_10 : decode cX4_firstFrom 10 = .ok (.aload_n 0, 1) := by decide +kernel
theorem dX4_firstFrom_11 : decode cX4_firstFrom 11 = .ok (.getfield 15, 3) := by decide +kernel
theorem dX4_firstFrom_14 : decode cX4_firstFrom 14 = .ok (.iload_n 1, 1) := by decide +kernel
theorem dX4_firstFrom_15 : decode cX4_firstFrom 15 = .ok (.iaload, 1) := by decide +kernel
theorem dX4_firstFrom_16 : decode cX4_firstFrom 16 = .ok (.goto 4, 3) := by decide +kernel
theorem dX4_firstFrom_19 : decode cX4_firstFrom 19 = .ok (.iconst (-1), 1) := by decide +kernel
theorem dX4_firstFrom_20 : decode cX4_firstFrom 20 = .ok (.ireturn, 1) := by decide +kernel
theorem dX6_init_0 : decode cX6_init 0 = .ok (.aload_n 0, 1) := by decide +kernel
theorem dX6_init_1 : decode cX6_init 1 = .ok (.invokespecial 3, 3) := by decide +kernel
theorem dX6_init_4 : decode cX6_init 4 = .ok (.aload_n 0, 1) := by decide +kernel
theorem dX6_init_5 : decode cX6_init 5 = .ok (.iconst (-1), 1) := by decide +kernel
theorem dX6_init_6 : decode cX6_init 6 = .ok (.putfield 9, 3) := by decide +kernel
theorem dX6_init_9 : decode cX6_init 9 = .ok (.return_, 1) := by decide +kernel
theorem dX6_copyFrom_0 : decode cX6_copyFrom 0 = .ok (.aload_n 0, 1) := by decide +kernel
theorem dX6_copyFrom_1 : decode cX6_copyFrom 1 = .ok (.aload_n 1, 1) := by decide +kernel
theorem dX6_copyFrom_2 : decode cX6_copyFrom 2 = .ok (.getfield 15, 3) := by decide +kernel
theorem dX6_copyFrom_5 : decode cX6_copyFrom 5 = .ok (.putfield 15, 3) := by decide +kernel
theorem dX6_copyFrom_8 : decode cX6_copyFrom 8 = .ok (.aload_n 0, 1) := by decide +kernel
theorem dX6_copyFrom_9 : decode cX6_copyFrom 9 = .ok (.aload_n 1, 1) := by decide +kernel
theorem dX6_copyFrom_10 : decode cX6_copyFrom 10 = .ok (.getfield 18, 3) := by decide +kernel
theorem dX6_copyFrom_13 : decode cX6_copyFrom 13 = .ok (.putfield 18, 3) := by decide +kernel
theorem dX6_copyFrom_16 : decode cX6_copyFrom 16 = .ok (.aload_n 0, 1) := by decide +kernel
theorem dX6_copyFrom_17 : decode cX6_copyFrom 17 = .ok (.aload_n 1, 1) := by decide +kernel
theorem dX6_copyFrom_18 : decode cX6_copyFrom 18 = .ok (.getfield 21, 3) := by decide +kernel
theorem dX6_copyFrom_21 : decode cX6_copyFrom 21 = .ok (.putfield 21, 3) := by decide +kernel
theorem dX6_copyFrom_24 : decode cX6_copyFrom 24 = .ok (.aload_n 0, 1) := by decide +kernel
theorem dX6_copyFrom_25 : decode cX6_copyFrom 25 = .ok (.aload_n 1, 1) := by decide +kernel
theorem dX6_copyFrom_26 : decode cX6_copyFrom 26 = .ok (.getfield 24, 3) := by decide +kernel
theorem dX6_copyFrom_29 : decode cX6_copyFrom 29 = .ok (.putfield 24, 3) := by decide +kernel
theorem dX6_copyFrom_32 : decode cX6_copyFrom 32 = .ok (.aload_n 0, 1) := by decide +kernel
theorem dX6_copyFrom_33 : decode cX6_copyFrom 33 = .ok (.aload_n 1, 1) := by decide +kernel
theorem dX6_copyFrom_34 : decode cX6_copyFrom 34 = .ok (.getfield 27, 3) := by decide +kernel
theorem dX6_copyFrom_37 : decode cX6_copyFrom 37 = .ok (.putfield 27, 3) := by decide +kernel
theorem dX6_copyFrom_40 : decode cX6_copyFrom 40 = .ok (.aload_n 0, 1) := by decide +kernel
theorem dX6_copyFrom_41 : decode cX6_copyFrom 41 = .ok (.aload_n 1, 1) := by decide +kernel
theorem dX6_copyFrom_42 : decode cX6_copyFrom 42 = .ok (.getfield 9, 3) := by decide +kernel
theorem dX6_copyFrom_45 : decode cX6_copyFrom 45 = .ok (.putfield 9, 3) := by decide +kernel
theorem dX6_copyFrom_48 : decode cX6_copyFrom 48 = .ok (.return_, 1) := by decide +kernel
theorem dX6_isUnderWay_0 : decode cX6_isUnderWay 0 = .ok (.aload_n 0, 1) := by decide +kernel
theorem dX6_isUnderWay_1 : decode cX6_isUnderWay 1 = .ok (.getfield 15, 3) := by decide +kernel
theorem dX6_isUnderWay_4 : decode cX6_isUnderWay 4 = .ok (.ifCond .eq 11, 3) := by decide +kernel
theorem dX6_isUnderWay_7 : decode cX6_isUnderWay 7 = .ok (.aload_n 0, 1) := by decide +kernel
theorem dX6_isUnderWay_8 : decode cX6_isUnderWay 8 = .ok (.getfield 15, 3) := by decide +kernel
theorem dX6_isUnderWay_11 : decode cX6_isUnderWay 11 = .ok (.iconst 1, 1) := by decide +kernel
theorem dX6_isUnderWay_12 : decode cX6_isUnderWay 12 = .ok (.if_icmp .ne 7, 3) := by decide +kernel
theorem dX6_isUnderWay_15 : decode cX6_isUnderWay 15 = .ok (.iconst 1, 1) := by decide +kernel
theorem dX6_isUnderWay_16 : decode cX6_isUnderWay 16 = .ok (.goto 4, 3) := by decide +kernel
theorem dX6_isUnderWay_19 : decode cX6_isUnderWay 19 = .ok (.iconst 0, 1) := by decide +kernel
theorem dX6_isUnderWay_20 : decode cX6_isUnderWay 20 = .ok (.ireturn, 1) := by decide +kernel
theorem dX6_beginWait_0 : decode cX6_beginWait 0 = .ok (.aload_n 0, 1) := by decide +kernel
theorem dX6_beginWait_1 : decode cX6_beginWait 1 = .ok (.iconst 0, 1) := by decide +kernel
theorem dX6_beginWait_2 : decode cX6_beginWait 2 = .ok (.putfield 15, 3) := by decide +kernel
theorem dX6_beginWait_5 : decode cX6_beginWait 5 = .ok (.aload_n 0, 1) := by decide +kernel
theorem dX6_beginWait_6 : decode cX6_beginWait 6 = .ok (.iload_n 1, 1) := by decide +kernel
theorem dX6_beginWait_7 : decode cX6_beginWait 7 = .ok (.putfield 18, 3) := by decide +kernel
theorem dX6_beginWait_10 : decode cX6_beginWait 10 = .ok (.aload_n 0, 1) := by decide +kernel
theorem dX6_beginWait_11 : decode cX6_beginWait 11 = .ok (.iconst (-1), 1) := by decide +kernel
theorem dX6_beginWait_12 : decode cX6_beginWait 12 = .ok (.putfield 21, 3) := by decide +kernel
theorem dX6_beginWait_15 : decode cX6_beginWait 15 = .ok (.aload_n 0, 1) := by decide +kernel
theorem dX6_beginWait_16 : decode cX6_beginWait 16 = .ok (.iconst 0, 1) := by decide +kernel
theorem dX6_beginWait_17 : decode cX6_beginWait 17 = .ok (.putfield 24, 3) := by decide +kernel
theorem dX6_beginWait_20 : decode cX6_beginWait 20 = .ok (.return_, 1) := by decide +kernel
theorem dX6_beginRide_0 : decode cX6_beginRide 0 = .ok (.aload_n 0, 1) := by decide +kernel
theorem dX6_beginRide_1 : decode cX6_beginRide 1 = .ok (.iconst 1, 1) := by decide +kernel
theorem dX6_beginRide_2 : decode cX6_beginRide 2 = .ok (.putfield 15, 3) := by decide +kernel
theorem dX6_beginRide_5 : decode cX6_beginRide 5 = .ok (.aload_n 0, 1) := by decide +kernel
theorem dX6_beginRide_6 : decode cX6_beginRide 6 = .ok (.iconst (-1), 1) := by decide +kernel
theorem dX6_beginRide_7 : decode cX6_beginRide 7 = .ok (.putfield 18, 3) := by decide +kernel
theorem dX6_beginRide_10 : decode cX6_beginRide 10 = .ok (.aload_n 0, 1) := by decide +kernel
theorem dX6_beginRide_11 : decode cX6_beginRide 11 = .ok (.iload_n 1, 1) := by decide +kernel
theorem dX6_beginRide_12 : decode cX6_beginRide 12 = .ok (.putfield 21, 3) := by decide +kernel
theorem dX6_beginRide_15 : decode cX6_beginRide 15 = .ok (.aload_n 0, 1) := by decide +kernel
theorem dX6_beginRide_16 : decode cX6_beginRide 16 = .ok (.iload_n 2, 1) := by decide +kernel
theorem dX6_beginRide_17 : decode cX6_beginRide 17 = .ok (.putfield 24, 3) := by decide +kernel
theorem dX6_beginRide_20 : decode cX6_beginRide 20 = .ok (.aload_n 0, 1) := by decide +kernel
theorem dX6_beginRide_21 : decode cX6_beginRide 21 = .ok (.dup, 1) := by decide +kernel
theorem dX6_beginRide_22 : decode cX6_beginRide 22 = .ok (.getfield 27, 3) := by decide +kernel
theorem dX6_beginRide_25 : decode cX6_beginRide 25 = .ok (.iconst 1, 1) := by decide +kernel
theorem dX6_beginRide_26 : decode cX6_beginRide 26 = .ok (.iadd, 1) := by decide +kernel
theorem dX6_beginRide_27 : decode cX6_beginRide 27 = .ok (.putfield 27, 3) := by decide +kernel
theorem dX6_beginRide_30 : decode cX6_beginRide 30 = .ok (.return_, 1) := by decide +kernel
theorem dX6_arrive_0 : decode cX6_arrive 0 = .ok (.aload_n 0, 1) := by decide +kernel
theorem dX6_arrive_1 : decode cX6_arrive 1 = .ok (.iconst 2, 1) := by decide +kernel
theorem dX6_arrive_2 : decode cX6_arrive 2 = .ok (.putfield 15, 3) := by decide +kernel
theorem dX6_arrive_5 : decode cX6_arrive 5 = .ok (.aload_n 0, 1) := by decide +kernel
theorem dX6_arrive_6 : decode cX6_arrive 6 = .ok (.iload_n 1, 1) := by decide +kernel
theorem dX6_arrive_7 : decode cX6_arrive 7 = .ok (.putfield 18, 3) := by decide +kernel
theorem dX6_arrive_10 : decode cX6_arrive 10 = .ok (.aload_n 0, 1) := by decide +kernel
theorem dX6_arrive_11 : decode cX6_arrive 11 = .ok (.iconst (-1), 1) := by decide +kernel
theorem dX6_arrive_12 : decode cX6_arrive 12 = .ok (.putfield 21, 3) := by decide +kernel
theorem dX6_arrive_15 : decode cX6_arrive 15 = .ok (.aload_n 0, 1) := by decide +kernel
theorem dX6_arrive_16 : decode cX6_arrive 16 = .ok (.iconst 0, 1) := by decide +kernel
theorem dX6_arrive_17 : decode cX6_arrive 17 = .ok (.putfield 24, 3) := by decide +kernel
theorem dX6_arrive_20 : decode cX6_arrive 20 = .ok (.aload_n 0, 1) := by decide +kernel
theorem dX6_arrive_21 : decode cX6_arrive 21 = .ok (.iload_n 2, 1) := by decide +kernel
theorem dX6_arrive_22 : decode cX6_arrive 22 = .ok (.putfield 9, 3) := by decide +kernel
theorem dX6_arrive_25 : decode cX6_arrive 25 = .ok (.return_, 1) := by decide +kernel
theorem dX6_giveUp_0 : decode cX6_giveUp 0 = .ok (.aload_n 0, 1) := by decide +kernel
theorem dX6_giveUp_1 : decode cX6_giveUp 1 = .ok (.iconst 3, 1) := by decide +kernel
theorem dX6_giveUp_2 : decode cX6_giveUp 2 = .ok (.putfield 15, 3) := by decide +kernel
theorem dX6_giveUp_5 : decode cX6_giveUp 5 = .ok (.aload_n 0, 1) := by decide +kernel
theorem dX6_giveUp_6 : decode cX6_giveUp 6 = .ok (.iconst (-1), 1) := by decide +kernel
theorem dX6_giveUp_7 : decode cX6_giveUp 7 = .ok (.putfield 18, 3) := by decide +kernel
theorem dX6_giveUp_10 : decode cX6_giveUp 10 = .ok (.aload_n 0, 1) := by decide +kernel
theorem dX6_giveUp_11 : decode cX6_giveUp 11 = .ok (.iconst 0, 1) := by decide +kernel
theorem dX6_giveUp_12 : decode cX6_giveUp 12 = .ok (.putfield 24, 3) := by decide +kernel
theorem dX6_giveUp_15 : decode cX6_giveUp 15 = .ok (.return_, 1) := by decide +kernel
theorem dX7_init_0 : decode cX7_init 0 = .ok (.aload_n 0, 1) := by decide +kernel
theorem dX7_init_1 : decode cX7_init 1 = .ok (.invokespecial 3, 3) := by decide +kernel
theorem dX7_init_4 : decode cX7_init 4 = .ok (.aload_n 0, 1) := by decide +kernel
theorem dX7_init_5 : decode cX7_init 5 = .ok (.iconst 3, 1) := by decide +kernel
theorem dX7_init_6 : decode cX7_init 6 = .ok (.newarray .int, 2) := by decide +kernel
theorem dX7_init_8 : decode cX7_init 8 = .ok (.putfield 9, 3) := by decide +kernel
theorem dX7_init_11 : decode cX7_init 11 = .ok (.aload_n 0, 1) := by decide +kernel
theorem dX7_init_12 : decode cX7_init 12 = .ok (.iconst 3, 1) := by decide +kernel
theorem dX7_init_13 : decode cX7_init 13 = .ok (.newarray .int, 2) := by decide +kernel
theorem dX7_init_15 : decode cX7_init 15 = .ok (.putfield 15, 3) := by decide +kernel
theorem dX7_init_18 : decode cX7_init 18 = .ok (.return_, 1) := by decide +kernel
theorem dX7_copyFrom_0 : decode cX7_copyFrom 0 = .ok (.aload_n 0, 1) := by decide +kernel
theorem dX7_copyFrom_1 : decode cX7_copyFrom 1 = .ok (.aload_n 1, 1) := by decide +kernel
theorem dX7_copyFrom_2 : decode cX7_copyFrom 2 = .ok (.getfield 18, 3) := by decide +kernel
theorem dX7_copyFrom_5 : decode cX7_copyFrom 5 = .ok (.putfield 18, 3) := by decide +kernel
theorem dX7_copyFrom_8 : decode cX7_copyFrom 8 = .ok (.aload_n 0, 1) := by decide +kernel
theorem dX7_copyFrom_9 : decode cX7_copyFrom 9 = .ok (.aload_n 1, 1) := by decide +kernel
theorem dX7_copyFrom_10 : decode cX7_copyFrom 10 = .ok (.getfield 22, 3) := by decide +kernel
theorem dX7_copyFrom_13 : decode cX7_copyFrom 13 = .ok (.putfield 22, 3) := by decide +kernel
theorem dX7_copyFrom_16 : decode cX7_copyFrom 16 = .ok (.iconst 0, 1) := by decide +kernel
theorem dX7_copyFrom_17 : decode cX7_copyFrom 17 = .ok (.istore_n 2, 1) := by decide +kernel
theorem dX7_copyFrom_18 : decode cX7_copyFrom 18 = .ok (.iload_n 2, 1) := by decide +kernel
theorem dX7_copyFrom_19 : decode cX7_copyFrom 19 = .ok (.aload_n 0, 1) := by decide +kernel
theorem dX7_copyFrom_20 : decode cX7_copyFrom 20 = .ok (.getfield 22, 3) := by decide +kernel
theorem dX7_copyFrom_23 : decode cX7_copyFrom 23 = .ok (.if_icmp .ge 33, 3) := by decide +kernel
theorem dX7_copyFrom_26 : decode cX7_copyFrom 26 = .ok (.aload_n 0, 1) := by decide +kernel
theorem dX7_copyFrom_27 : decode cX7_copyFrom 27 = .ok (.getfield 9, 3) := by decide +kernel
theorem dX7_copyFrom_30 : decode cX7_copyFrom 30 = .ok (.iload_n 2, 1) := by decide +kernel
theorem dX7_copyFrom_31 : decode cX7_copyFrom 31 = .ok (.aload_n 1, 1) := by decide +kernel
theorem dX7_copyFrom_32 : decode cX7_copyFrom 32 = .ok (.getfield 9, 3) := by decide +kernel
theorem dX7_copyFrom_35 : decode cX7_copyFrom 35 = .ok (.iload_n 2, 1) := by decide +kernel
theorem dX7_copyFrom_36 : decode cX7_copyFrom 36 = .ok (.iaload, 1) := by decide +kernel
theorem dX7_copyFrom_37 : decode cX7_copyFrom 37 = .ok (.iastore, 1) := by decide +kernel
theorem dX7_copyFrom_38 : decode cX7_copyFrom 38 = .ok (.aload_n 0, 1) := by decide +kernel
theorem dX7_copyFrom_39 : decode cX7_copyFrom 39 = .ok (.getfield 15, 3) := by decide +kernel
theorem dX7_copyFrom_42 : decode cX7_copyFrom 42 = .ok (.iload_n 2, 1) := by decide +kernel
theorem dX7_copyFrom_43 : decode cX7_copyFrom 43 = .ok (.aload_n 1, 1) := by decide +kernel
theorem dX7_copyFrom_44 : decode cX7_copyFrom 44 = .ok (.getfield 15, 3) := by decide +kernel
theorem dX7_copyFrom_47 : decode cX7_copyFrom 47 = .ok (.iload_n 2, 1) := by decide +kernel
theorem dX7_copyFrom_48 : decode cX7_copyFrom 48 = .ok (.iaload, 1) := by decide +kernel
theorem dX7_copyFrom_49 : decode cX7_copyFrom 49 = .ok (.iastore, 1) := by decide +kernel
theorem dX7_copyFrom_50 : decode cX7_copyFrom 50 = .ok (.iinc 2 1, 3) := by decide +kernel
theorem dX7_copyFrom_53 : decode cX7_copyFrom 53 = .ok (.goto (-35), 3) := by decide +kernel
theorem dX7_copyFrom_56 : decode cX7_copyFrom 56 = .ok (.aload_n 0, 1) := by decide +kernel
theorem dX7_copyFrom_57 : decode cX7_copyFrom 57 = .ok (.aload_n 1, 1) := by decide +kernel
theorem dX7_copyFrom_58 : decode cX7_copyFrom 58 = .ok (.getfield 25, 3) := by decide +kernel
theorem dX7_copyFrom_61 : decode cX7_copyFrom 61 = .ok (.putfield 25, 3) := by decide +kernel
theorem dX7_copyFrom_64 : decode cX7_copyFrom 64 = .ok (.aload_n 0, 1) := by decide +kernel
theorem dX7_copyFrom_65 : decode cX7_copyFrom 65 = .ok (.aload_n 1, 1) := by decide +kernel
theorem dX7_copyFrom_66 : decode cX7_copyFrom 66 = .ok (.getfield 28, 3) := by decide +kernel
theorem dX7_copyFrom_69 : decode cX7_copyFrom 69 = .ok (.putfield 28, 3) := by decide +kernel
theorem dX7_copyFrom_72 : decode cX7_copyFrom 72 = .ok (.return_, 1) := by decide +kernel
theorem dX7_inAll_0 : decode cX7_inAll 0 = .ok (.aload_n 0, 1) := by decide +kernel
theorem dX7_inAll_1 : decode cX7_inAll 1 = .ok (.getfield 18, 3) := by decide +kernel
theorem dX7_inAll_4 : decode cX7_inAll 4 = .ok (.aload_n 0, 1) := by decide +kernel
theorem dX7_inAll_5 : decode cX7_inAll 5 = .ok (.getfield 22, 3) := by decide +kernel
theorem dX7_inAll_8 : decode cX7_inAll 8 = .ok (.iadd, 1) := by decide +kernel
theorem dX7_inAll_9 : decode cX7_inAll 9 = .ok (.ireturn, 1) := by decide +kernel
theorem dX7_ridden_0 : decode cX7_ridden 0 = .ok (.iconst 0, 1) := by decide +kernel
theorem dX7_ridden_1 : decode cX7_ridden 1 = .ok (.istore_n 1, 1) := by decide +kernel
theorem dX7_ridden_2 : decode cX7_ridden 2 = .ok (.iconst 0, 1) := by decide +kernel
theorem dX7_ridden_3 : decode cX7_ridden 3 = .ok (.istore_n 2, 1) := by decide +kernel
theorem dX7_ridden_4 : decode cX7_ridden 4 = .ok (.iload_n 2, 1) := by decide +kernel
theorem dX7_ridden_5 : decode cX7_ridden 5 = .ok (.aload_n 0, 1) := by decide +kernel
theorem dX7_ridden_6 : decode cX7_ridden 6 = .ok (.getfield 22, 3) := by decide +kernel
theorem dX7_ridden_9 : decode cX7_ridden 9 = .ok (.if_icmp .ge 22, 3) := by decide +kernel
theorem dX7_ridden_12 : decode cX7_ridden 12 = .ok (.aload_n 0, 1) := by decide +kernel
theorem dX7_ridden_13 : decode cX7_ridden 13 = .ok (.getfield 9, 3) := by decide +kernel
theorem dX7_ridden_16 : decode cX7_ridden 16 = .ok (.iload_n 2, 1) := by decide +kernel
theorem dX7_ridden_17 : decode cX7_ridden 17 = .ok (.iaload, 1) := by decide +kernel
theorem dX7_ridden_18 : decode cX7_ridden 18 = .ok (.iconst (-1), 1) := by decide +kernel
theorem dX7_ridden_19 : decode cX7_ridden 19 = .ok (.if_icmp .eq 6, 3) := by decide +kernel
theorem dX7_ridden_22 : decode cX7_ridden 22 = .ok (.iinc 1 1, 3) := by decide +kernel
theorem dX7_ridden_25 : decode cX7_ridden 25 = .ok (.iinc 2 1, 3) := by decide +kernel
theorem dX7_ridden_28 : decode cX7_ridden 28 = .ok (.goto (-24), 3) := by decide +kernel
theorem dX7_ridden_31 : decode cX7_ridden 31 = .ok (.iload_n 1, 1) := by decide +kernel
theorem dX7_ridden_32 : decode cX7_ridden 32 = .ok (.ireturn, 1) := by decide +kernel
theorem dX7_canLeaveTop_0 : decode cX7_canLeaveTop 0 = .ok (.aload_n 0, 1) := by decide +kernel
theorem dX7_canLeaveTop_1 : decode cX7_canLeaveTop 1 = .ok (.getfield 18, 3) := by decide +kernel
theorem dX7_canLeaveTop_4 : decode cX7_canLeaveTop 4 = .ok (.ifCond .le 15, 3) := by decide +kernel
theorem dX7_canLeaveTop_7 : decode cX7_canLeaveTop 7 = .ok (.aload_n 0, 1) := by decide +kernel
theorem dX7_canLeaveTop_8 : decode cX7_canLeaveTop 8 = .ok (.getfield 22, 3) := by decide +kernel
theorem dX7_canLeaveTop_11 : decode cX7_canLeaveTop 11 = .ok (.iconst 3, 1) := by decide +kernel
theorem dX7_canLeaveTop_12 : decode cX7_canLeaveTop 12 = .ok (.if_icmp .ge 7, 3) := by decide +kernel
theorem dX7_canLeaveTop_15 : decode cX7_canLeaveTop 15 = .ok (.iconst 1, 1) := by decide +kernel
theorem dX7_canLeaveTop_16 : decode cX7_canLeaveTop 16 = .ok (.goto 4, 3) := by decide +kernel
theorem dX7_canLeaveTop_19 : decode cX7_canLeaveTop 19 = .ok (.iconst 0, 1) := by decide +kernel
theorem dX7_canLeaveTop_20 : decode cX7_canLeaveTop 20 = .ok (.ireturn, 1) := by decide +kernel
theorem dX7_leaveTop_0 : decode cX7_leaveTop 0 = .ok (.aload_n 0, 1) := by decide +kernel
theorem dX7_leaveTop_1 : decode cX7_leaveTop 1 = .ok (.getfield 9, 3) := by decide +kernel
theorem dX7_leaveTop_4 : decode cX7_leaveTop 4 = .ok (.aload_n 0, 1) := by decide +kernel
theorem dX7_leaveTop_5 : decode cX7_leaveTop 5 = .ok (.getfield 22, 3) := by decide +kernel
theorem dX7_leaveTop_8 : decode cX7_leaveTop 8 = .ok (.iload_n 1, 1) := by decide +kernel
theorem dX7_leaveTop_9 : decode cX7_leaveTop 9 = .ok (.iastore, 1) := by decide +kernel
theorem dX7_leaveTop_10 : decode cX7_leaveTop 10 = .ok (.aload_n 0, 1) := by decide +kernel
theorem dX7_leaveTop_11 : decode cX7_leaveTop 11 = .ok (.getfield 15, 3) := by decide +kernel
theorem dX7_leaveTop_14 : decode cX7_leaveTop 14 = .ok (.aload_n 0, 1) := by decide +kernel
theorem dX7_leaveTop_15 : decode cX7_leaveTop 15 = .ok (.getfield 22, 3) := by decide +kernel
theorem dX7_leaveTop_18 : decode cX7_leaveTop 18 = .ok (.iload_n 2, 1) := by decide +kernel
theorem dX7_leaveTop_19 : decode cX7_leaveTop 19 = .ok (.iastore, 1) := by decide +kernel
theorem dX7_leaveTop_20 : decode cX7_leaveTop 20 = .ok (.aload_n 0, 1) := by decide +kernel
theorem dX7_leaveTop_21 : decode cX7_leaveTop 21 = .ok (.dup, 1) := by decide +kernel
theorem dX7_leaveTop_22 : decode cX7_leaveTop 22 = .ok (.getfield 22, 3) := by decide +kernel
theorem dX7_leaveTop_25 : decode cX7_leaveTop 25 = .ok (.iconst 1, 1) := by decide +kernel
theorem dX7_leaveTop_26 : decode cX7_leaveTop 26 = .ok (.iadd, 1) := by decide +kernel
theorem dX7_leaveTop_27 : decode cX7_leaveTop 27 = .ok (.putfield 22, 3) := by decide +kernel
theorem dX7_leaveTop_30 : decode cX7_leaveTop 30 = .ok (.aload_n 0, 1) := by decide +kernel
theorem dX7_leaveTop_31 : decode cX7_leaveTop 31 = .ok (.dup, 1) := by decide +kernel
theorem dX7_leaveTop_32 : decode cX7_leaveTop 32 = .ok (.getfield 18, 3) := by decide +kernel
theorem dX7_leaveTop_35 : decode cX7_leaveTop 35 = .ok (.iconst 1, 1) := by decide +kernel
theorem dX7_leaveTop_36 : decode cX7_leaveTop 36 = .ok (.isub, 1) := by decide +kernel
theorem dX7_leaveTop_37 : decode cX7_leaveTop 37 = .ok (.putfield 18, 3) := by decide +kernel
theorem dX7_leaveTop_40 : decode cX7_leaveTop 40 = .ok (.aload_n 0, 1) := by decide +kernel
theorem dX7_leaveTop_41 : decode cX7_leaveTop 41 = .ok (.dup, 1) := by decide +kernel
theorem dX7_leaveTop_42 : decode cX7_leaveTop 42 = .ok (.getfield 25, 3) := by decide +kernel
theorem dX7_leaveTop_45 : decode cX7_leaveTop 45 = .ok (.iconst 1, 1) := by decide +kernel
theorem dX7_leaveTop_46 : decode cX7_leaveTop 46 = .ok (.iadd, 1) := by decide +kernel
theorem dX7_leaveTop_47 : decode cX7_leaveTop 47 = .ok (.putfield 25, 3) := by decide +kernel
theorem dX7_leaveTop_50 : decode cX7_leaveTop 50 = .ok (.return_, 1) := by decide +kernel
theorem dX7_beginPull_0 : decode cX7_beginPull 0 = .ok (.aload_n 0, 1) := by decide +kernel
theorem dX7_beginPull_1 : decode cX7_beginPull 1 = .ok (.getfield 9, 3) := by decide +kernel
theorem dX7_beginPull_4 : decode cX7_beginPull 4 = .ok (.iload_n 1, 1) := by decide +kernel
theorem dX7_beginPull_5 : decode cX7_beginPull 5 = .ok (.iconst (-1), 1) := by decide +kernel
theorem dX7_beginPull_6 : decode cX7_beginPull 6 = .ok (.iastore, 1) := by decide +kernel
theorem dX7_beginPull_7 : decode cX7_beginPull 7 = .ok (.aload_n 0, 1) := by decide +kernel
theorem dX7_beginPull_8 : decode cX7_beginPull 8 = .ok (.getfield 15, 3) := by decide +kernel
theorem dX7_beginPull_11 : decode cX7_beginPull 11 = .ok (.iload_n 1, 1) := by decide +kernel
theorem dX7_beginPull_12 : decode cX7_beginPull 12 = .ok (.iload_n 2, 1) := by decide +kernel
theorem dX7_beginPull_13 : decode cX7_beginPull 13 = .ok (.iastore, 1) := by decide +kernel
theorem dX7_beginPull_14 : decode cX7_beginPull 14 = .ok (.return_, 1) := by decide +kernel
theorem dX7_dropPulled_0 : decode cX7_dropPulled 0 = .ok (.iconst 0, 1) := by decide +kernel
theorem dX7_dropPulled_1 : decode cX7_dropPulled 1 = .ok (.istore_n 1, 1) := by decide +kernel
theorem dX7_dropPulled_2 : decode cX7_dropPulled 2 = .ok (.iconst 0, 1) := by decide +kernel
theorem dX7_dropPulled_3 : decode cX7_dropPulled 3 = .ok (.istore_n 2, 1) := by decide +kernel
theorem dX7_dropPulled_4 : decode cX7_dropPulled 4 = .ok (.iload_n 2, 1) := by decide +kernel
theorem dX7_dropPulled_5 : decode cX7_dropPulled 5 = .ok (.aload_n 0, 1) := by decide +kernel
theorem dX7_dropPulled_6 : decode cX7_dropPulled 6 = .ok (.getfield 22, 3) := by decide +kernel
theorem dX7_dropPulled_9 : decode cX7_dropPulled 9 = .ok (.if_icmp .ge 45, 3) := by decide +kernel
theorem dX7_dropPulled_12 : decode cX7_dropPulled 12 = .ok (.aload_n 0, 1) := by decide +kernel
theorem dX7_dropPulled_13 : decode cX7_dropPulled 13 = .ok (.getfield 15, 3) := by decide +kernel
theorem dX7_dropPulled_16 : decode cX7_dropPulled 16 = .ok (.iload_n 2, 1) := by decide +kernel
theorem dX7_dropPulled_17 : decode cX7_dropPulled 17 = .ok (.iaload, 1) := by decide +kernel
theorem dX7_dropPulled_18 : decode cX7_dropPulled 18 = .ok (.ifCond .le 30, 3) := by decide +kernel
theorem dX7_dropPulled_21 : decode cX7_dropPulled 21 = .ok (.aload_n 0, 1) := by decide +kernel
theorem dX7_dropPulled_22 : decode cX7_dropPulled 22 = .ok (.getfield 9, 3) := by decide +kernel
theorem dX7_dropPulled_25 : decode cX7_dropPulled 25 = .ok (.iload_n 1, 1) := by decide +kernel
theorem dX7_dropPulled_26 : decode cX7_dropPulled 26 = .ok (.aload_n 0, 1) := by decide +kernel
theorem dX7_dropPulled_27 : decode cX7_dropPulled 27 = .ok (.getfield 9, 3) := by decide +kernel
theorem dX7_dropPulled_30 : decode cX7_dropPulled 30 = .ok (.iload_n 2, 1) := by decide +kernel
theorem dX7_dropPulled_31 : decode cX7_dropPulled 31 = .ok (.iaload, 1) := by decide +kernel
theorem dX7_dropPulled_32 : decode cX7_dropPulled 32 = .ok (.iastore, 1) := by decide +kernel
theorem dX7_dropPulled_33 : decode cX7_dropPulled 33 = .ok (.aload_n 0, 1) := by decide +kernel
theorem dX7_dropPulled_34 : decode cX7_dropPulled 34 = .ok (.getfield 15, 3) := by decide +kernel
theorem dX7_dropPulled_37 : decode cX7_dropPulled 37 = .ok (.iload_n 1, 1) := by decide +kernel
theorem dX7_dropPulled_38 : decode cX7_dropPulled 38 = .ok (.aload_n 0, 1) := by decide +kernel
theorem dX7_dropPulled_39 : decode cX7_dropPulled 39 = .ok (.getfield 15, 3) := by decide +kernel
theorem dX7_dropPulled_42 : decode cX7_dropPulled 42 = .ok (.iload_n 2, 1) := by decide +kernel
theorem dX7_dropPulled_43 : decode cX7_dropPulled 43 = .ok (.iaload, 1) := by decide +kernel
theorem dX7_dropPulled_44 : decode cX7_dropPulled 44 = .ok (.iastore, 1) := by decide +kernel
theorem dX7_dropPulled_45 : decode cX7_dropPulled 45 = .ok (.iinc 1 1, 3) := by decide +kernel
theorem dX7_dropPulled_48 : decode cX7_dropPulled 48 = .ok (.iinc 2 1, 3) := by decide +kernel
theorem dX7_dropPulled_51 : decode cX7_dropPulled 51 = .ok (.goto (-47), 3) := by decide +kernel
theorem dX7_dropPulled_54 : decode cX7_dropPulled 54 = .ok (.aload_n 0, 1) := by decide +kernel
theorem dX7_dropPulled_55 : decode cX7_dropPulled 55 = .ok (.dup, 1) := by decide +kernel
theorem dX7_dropPulled_56 : decode cX7_dropPulled 56 = .ok (.getfield 18, 3) := by decide +kernel
theorem dX7_dropPulled_59 : decode cX7_dropPulled 59 = .ok (.aload_n 0, 1) := by decide +kernel
theorem dX7_dropPulled_60 : decode cX7_dropPulled 60 = .ok (.getfield 22, 3) := by decide +kernel
theorem dX7_dropPulled_63 : decode cX7_dropPulled 63 = .ok (.iload_n 1, 1) := by decide +kernel
theorem dX7_dropPulled_64 : decode cX7_dropPulled 64 = .ok (.isub, 1) := by decide +kernel
theorem dX7_dropPulled_65 : decode cX7_dropPulled 65 = .ok (.iadd, 1) := by decide +kernel
theorem dX7_dropPulled_66 : decode cX7_dropPulled 66 = .ok (.putfield 18, 3) := by decide +kernel
theorem dX7_dropPulled_69 : decode cX7_dropPulled 69 = .ok (.aload_n 0, 1) := by decide +kernel
theorem dX7_dropPulled_70 : decode cX7_dropPulled 70 = .ok (.iload_n 1, 1) := by decide +kernel
theorem dX7_dropPulled_71 : decode cX7_dropPulled 71 = .ok (.putfield 22, 3) := by decide +kernel
theorem dX7_dropPulled_74 : decode cX7_dropPulled 74 = .ok (.return_, 1) := by decide +kernel
theorem dJ9_floorMod_7cf53_0 : decode cJ9_floorMod_7cf53 0 = .ok (.iload_n 0, 1) := by decide +kernel
theorem dJ9_floorMod_7cf53_1 : decode cJ9_floorMod_7cf53 1 = .ok (.iload_n 1, 1) := by decide +kernel
theorem dJ9_floorMod_7cf53_2 : decode cJ9_floorMod_7cf53 2 = .ok (.irem, 1) := by decide +kernel
theorem dJ9_floorMod_7cf53_3 : decode cJ9_floorMod_7cf53 3 = .ok (.istore_n 2, 1) := by decide +kernel
theorem dJ9_floorMod_7cf53_4 : decode cJ9_floorMod_7cf53 4 = .ok (.iload_n 0, 1) := by decide +kernel
theorem dJ9_floorMod_7cf53_5 : decode cJ9_floorMod_7cf53 5 = .ok (.iload_n 1, 1) := by decide +kernel
theorem dJ9_floorMod_7cf53_6 : decode cJ9_floorMod_7cf53 6 = .ok (.ixor, 1) := by decide +kernel
theorem dJ9_floorMod_7cf53_7 : decode cJ9_floorMod_7cf53 7 = .ok (.ifCond .ge 11, 3) := by decide +kernel
theorem dJ9_floorMod_7cf53_10 : decode cJ9_floorMod_7cf53 10 = .ok (.iload_n 2, 1) := by decide +kernel
theorem dJ9_floorMod_7cf53_11 : decode cJ9_floorMod_7cf53 11 = .ok (.ifCond .eq 7, 3) := by decide +kernel
theorem dJ9_floorMod_7cf53_14 : decode cJ9_floorMod_7cf53 14 = .ok (.iload_n 2, 1) := by decide +kernel
theorem dJ9_floorMod_7cf53_15 : decode cJ9_floorMod_7cf53 15 = .ok (.iload_n 1, 1) := by decide +kernel
theorem dJ9_floorMod_7cf53_16 : decode cJ9_floorMod_7cf53 16 = .ok (.iadd, 1) := by decide +kernel
theorem dJ9_floorMod_7cf53_17 : decode cJ9_floorMod_7cf53 17 = .ok (.ireturn, 1) := by decide +kernel
theorem dJ9_floorMod_7cf53_18 : decode cJ9_floorMod_7cf53 18 = .ok (.iload_n 2, 1) := by decide +kernel
theorem dJ9_floorMod_7cf53_19 : decode cJ9_floorMod_7cf53 19 = .ok (.ireturn, 1) := by decide +kernel
theorem dJ9_abs_0f7a4_0 : decode cJ9_abs_0f7a4 0 = .ok (.iload_n 0, 1) := by decide +kernel
theorem dJ9_abs_0f7a4_1 : decode cJ9_abs_0f7a4 1 = .ok (.ifCond .ge 8, 3) := by decide +kernel
theorem dJ9_abs_0f7a4_4 : decode cJ9_abs_0f7a4 4 = .ok (.iload_n 0, 1) := by decide +kernel
theorem dJ9_abs_0f7a4_5 : decode cJ9_abs_0f7a4 5 = .ok (.ineg, 1) := by decide +kernel
theorem dJ9_abs_0f7a4_6 : decode cJ9_abs_0f7a4 6 = .ok (.goto 4, 3) := by decide +kernel
theorem dJ9_abs_0f7a4_9 : decode cJ9_abs_0f7a4 9 = .ok (.iload_n 0, 1) := by decide +kernel
theorem dJ9_abs_0f7a4_10 : decode cJ9_abs_0f7a4 10 = .ok (.ireturn, 1) := by decide +kernel
theorem dJ9_max_7cf53_0 : decode cJ9_max_7cf53 0 = .ok (.iload_n 0, 1) := by decide +kernel
theorem dJ9_max_7cf53_1 : decode cJ9_max_7cf53 1 = .ok (.iload_n 1, 1) := by decide +kernel
theorem dJ9_max_7cf53_2 : decode cJ9_max_7cf53 2 = .ok (.if_icmp .lt 7, 3) := by decide +kernel
theorem dJ9_max_7cf53_5 : decode cJ9_max_7cf53 5 = .ok (.iload_n 0, 1) := by decide +kernel
theorem dJ9_max_7cf53_6 : decode cJ9_max_7cf53 6 = .ok (.goto 4, 3) := by decide +kernel
theorem dJ9_max_7cf53_9 : decode cJ9_max_7cf53 9 = .ok (.iload_n 1, 1) := by decide +kernel
theorem dJ9_max_7cf53_10 : decode cJ9_max_7cf53 10 = .ok (.ireturn, 1) := by decide +kernel
