theorem dX9_init_0 : decode cX9_init 0 = .ok (.aload_n 0, 1) := by decide +kernel
theorem dX9_init_1 : decode cX9_init 1 = .ok (.aload_n 1, 1) := by decide +kernel
theorem dX9_init_2 : decode cX9_init 2 = .ok (.putfield 3, 3) := by decide +kernel
theorem dX9_init_5 : decode cX9_init 5 = .ok (.aload_n 0, 1) := by decide +kernel
theorem dX9_init_6 : decode cX9_init 6 = .ok (.invokespecial 9, 3) := by decide +kernel
theorem dX9_init_9 : decode cX9_init 9 = .ok (.aload_n 0, 1) := by decide +kernel
theorem dX9_init_10 : decode cX9_init 10 = .ok (.bipush 12, 2) := by decide +kernel
theorem dX9_init_12 : decode cX9_init 12 = .ok (.newarray .int, 2) := by decide +kernel
theorem dX9_init_14 : decode cX9_init 14 = .ok (.putfield 15, 3) := by decide +kernel
theorem dX9_init_17 : decode cX9_init 17 = .ok (.aload_n 0, 1) := by decide +kernel
theorem dX9_init_18 : decode cX9_init 18 = .ok (.bipush 12, 2) := by decide +kernel
theorem dX9_init_20 : decode cX9_init 20 = .ok (.newarray .int, 2) := by decide +kernel
theorem dX9_init_22 : decode cX9_init 22 = .ok (.putfield 19, 3) := by decide +kernel
theorem dX9_init_25 : decode cX9_init 25 = .ok (.aload_n 0, 1) := by decide +kernel
theorem dX9_init_26 : decode cX9_init 26 = .ok (.bipush 36, 2) := by decide +kernel
theorem dX9_init_28 : decode cX9_init 28 = .ok (.newarray .int, 2) := by decide +kernel
theorem dX9_init_30 : decode cX9_init 30 = .ok (.putfield 22, 3) := by decide +kernel
theorem dX9_init_33 : decode cX9_init 33 = .ok (.aload_n 0, 1) := by decide +kernel
theorem dX9_init_34 : decode cX9_init 34 = .ok (.bipush 36, 2) := by decide +kernel
theorem dX9_init_36 : decode cX9_init 36 = .ok (.newarray .int, 2) := by decide +kernel
theorem dX9_init_38 : decode cX9_init 38 = .ok (.putfield 25, 3) := by decide +kernel
theorem dX9_init_41 : decode cX9_init 41 = .ok (.aload_n 0, 1) := by decide +kernel
theorem dX9_init_42 : decode cX9_init 42 = .ok (.bipush 12, 2) := by decide +kernel
theorem dX9_init_44 : decode cX9_init 44 = .ok (.newarray .int, 2) := by decide +kernel
theorem dX9_init_46 : decode cX9_init 46 = .ok (.putfield 28, 3) := by decide +kernel
theorem dX9_init_49 : decode cX9_init 49 = .ok (.aload_n 0, 1) := by decide +kernel
theorem dX9_init_50 : decode cX9_init 50 = .ok (.bipush 12, 2) := by decide +kernel
theorem dX9_init_52 : decode cX9_init 52 = .ok (.newarray .int, 2) := by decide +kernel
theorem dX9_init_54 : decode cX9_init 54 = .ok (.putfield 31, 3) := by decide +kernel
theorem dX9_init_57 : decode cX9_init 57 = .ok (.aload_n 0, 1) := by decide +kernel
theorem dX9_init_58 : decode cX9_init 58 = .ok (.bipush 8, 2) := by decide +kernel
theorem dX9_init_60 : decode cX9_init 60 = .ok (.newarray .int, 2) := by decide +kernel
theorem dX9_init_62 : decode cX9_init 62 = .ok (.putfield 34, 3) := by decide +kernel
theorem dX9_init_65 : decode cX9_init 65 = .ok (.aload_n 0, 1) := by decide +kernel
theorem dX9_init_66 : decode cX9_init 66 = .ok (.bipush 96, 2) := by decide +kernel
theorem dX9_init_68 : decode cX9_init 68 = .ok (.newarray .int, 2) := by decide +kernel
theorem dX9_init_70 : decode cX9_init 70 = .ok (.putfield 37, 3) := by decide +kernel
theorem dX9_init_73 : decode cX9_init 73 = .ok (.aload_n 0, 1) := by decide +kernel
theorem dX9_init_74 : decode cX9_init 74 = .ok (.bipush 12, 2) := by decide +kernel
theorem dX9_init_76 : decode cX9_init 76 = .ok (.newarray .int, 2) := by decide +kernel
theorem dX9_init_78 : decode cX9_init 78 = .ok (.putfield 40, 3) := by decide +kernel
theorem dX9_init_81 : decode cX9_init 81 = .ok (.aload_n 0, 1) := by decide +kernel
theorem dX9_init_82 : decode cX9_init 82 = .ok (.bipush 12, 2) := by decide +kernel
theorem dX9_init_84 : decode cX9_init 84 = .ok (.newarray .int, 2) := by decide +kernel
theorem dX9_init_86 : decode cX9_init 86 = .ok (.putfield 43, 3) := by decide +kernel
theorem dX9_init_89 : decode cX9_init 89 = .ok (.aload_n 0, 1) := by decide +kernel
theorem dX9_init_90 : decode cX9_init 90 = .ok (.bipush 12, 2) := by decide +kernel
theorem dX9_init_92 : decode cX9_init 92 = .ok (.newarray .int, 2) := by decide +kernel
theorem dX9_init_94 : decode cX9_init 94 = .ok (.putfield 46, 3) := by decide +kernel
theorem dX9_init_97 : decode cX9_init 97 = .ok (.aload_n 0, 1) := by decide +kernel
theorem dX9_init_98 : decode cX9_init 98 = .ok (.bipush 12, 2) := by decide +kernel
theorem dX9_init_100 : decode cX9_init 100 = .ok (.newarray .int, 2) := by decide +kernel
theorem dX9_init_102 : decode cX9_init 102 = .ok (.putfield 49, 3) := by decide +kernel
theorem dX9_init_105 : decode cX9_init 105 = .ok (.aload_n 0, 1) := by decide +kernel
theorem dX9_init_106 : decode cX9_init 106 = .ok (.bipush 12, 2) := by decide +kernel
theorem dX9_init_108 : decode cX9_init 108 = .ok (.newarray .int, 2) := by decide +kernel
theorem dX9_init_110 : decode cX9_init 110 = .ok (.putfield 52, 3) := by decide +kernel
theorem dX9_init_113 : decode cX9_init 113 = .ok (.return_, 1) := by decide +kernel
theorem dX9_copy_0 : decode cX9_copy 0 = .ok (.aload_n 1, 1) := by decide +kernel
theorem dX9_copy_1 : decode cX9_copy 1 = .ok (.iconst 0, 1) := by decide +kernel
theorem dX9_copy_2 : decode cX9_copy 2 = .ok (.aload_n 2, 1) := by decide +kernel
theorem dX9_copy_3 : decode cX9_copy 3 = .ok (.iconst 0, 1) := by decide +kernel
theorem dX9_copy_4 : decode cX9_copy 4 = .ok (.aload_n 1, 1) := by decide +kernel
theorem dX9_copy_5 : decode cX9_copy 5 = .ok (.arraylength, 1) := by decide +kernel
theorem dX9_copy_6 : decode cX9_copy 6 = .ok (.invokestatic 55, 3) := by decide +kernel
theorem dX9_copy_9 : decode cX9_copy 9 = .ok (.return_, 1) := by decide +kernel
theorem dX9_become_0 : decode cX9_become 0 = .ok (.aload_n 0, 1) := by decide +kernel
theorem dX9_become_1 : decode cX9_become 1 = .ok (.aload_n 1, 1) := by decide +kernel
theorem dX9_become_2 : decode cX9_become 2 = .ok (.getfield 61, 3) := by decide +kernel
theorem dX9_become_5 : decode cX9_become 5 = .ok (.putfield 61, 3) := by decide +kernel
theorem dX9_become_8 : decode cX9_become 8 = .ok (.aload_n 0, 1) := by decide +kernel
theorem dX9_become_9 : decode cX9_become 9 = .ok (.aload_n 1, 1) := by decide +kernel
theorem dX9_become_10 : decode cX9_become 10 = .ok (.getfield 15, 3) := by decide +kernel
theorem dX9_become_13 : decode cX9_become 13 = .ok (.aload_n 0, 1) := by decide +kernel
theorem dX9_become_14 : decode cX9_become 14 = .ok (.getfield 15, 3) := by decide +kernel
theorem dX9_become_17 : decode cX9_become 17 = .ok (.invokevirtual 65, 3) := by decide +kernel
theorem dX9_become_20 : decode cX9_become 20 = .ok (.aload_n 0, 1) := by decide +kernel
theorem dX9_become_21 : decode cX9_become 21 = .ok (.aload_n 1, 1) := by decide +kernel
theorem dX9_become_22 : decode cX9_become 22 = .ok (.getfield 19, 3) := by decide +kernel
theorem dX9_become_25 : decode cX9_become 25 = .ok (.aload_n 0, 1) := by decide +kernel
theorem dX9_become_26 : decode cX9_become 26 = .ok (.getfield 19, 3) := by decide +kernel
theorem dX9_become_29 : decode cX9_become 29 = .ok (.invokevirtual 65, 3) := by decide +kernel
theorem dX9_become_32 : decode cX9_become 32 = .ok (.aload_n 0, 1) := by decide +kernel
theorem dX9_become_33 : decode cX9_become 33 = .ok (.aload_n 1, 1) := by decide +kernel
theorem dX9_become_34 : decode cX9_become 34 = .ok (.getfield 22, 3) := by decide +kernel
theorem dX9_become_37 : decode cX9_become 37 = .ok (.aload_n 0, 1) := by decide +kernel
theorem dX9_become_38 : decode cX9_become 38 = .ok (.getfield 22, 3) := by decide +kernel
theorem dX9_become_41 : decode cX9_become 41 = .ok (.invokevirtual 65, 3) := by decide +kernel
theorem dX9_become_44 : decode cX9_become 44 = .ok (.aload_n 0, 1) := by decide +kernel
theorem dX9_become_45 : decode cX9_become 45 = .ok (.aload_n 1, 1) := by decide +kernel
theorem dX9_become_46 : decode cX9_become 46 = .ok (.getfield 25, 3) := by decide +kernel
theorem dX9_become_49 : decode cX9_become 49 = .ok (.aload_n 0, 1) := by decide +kernel
theorem dX9_become_50 : decode cX9_become 50 = .ok (.getfield 25, 3) := by decide +kernel
theorem dX9_become_53 : decode cX9_become 53 = .ok (.invokevirtual 65, 3) := by decide +kernel
theorem dX9_become_56 : decode cX9_become 56 = .ok (.aload_n 0, 1) := by decide +kernel
theorem dX9_become_57 : decode cX9_become 57 = .ok (.aload_n 1, 1) := by decide +kernel
theorem dX9_become_58 : decode cX9_become 58 = .ok (.getfield 28, 3) := by decide +kernel
theorem dX9_become_61 : decode cX9_become 61 = .ok (.aload_n 0, 1) := by decide +kernel
theorem dX9_become_62 : decode cX9_become 62 = .ok (.getfield 28, 3) := by decide +kernel
theorem dX9_become_65 : decode cX9_become 65 = .ok (.invokevirtual 65, 3) := by decide +kernel
theorem dX9_become_68 : decode cX9_become 68 = .ok (.aload_n 0, 1) := by decide +kernel
theorem dX9_become_69 : decode cX9_become 69 = .ok (.aload_n 1, 1) := by decide +kernel
theorem dX9_become_70 : decode cX9_become 70 = .ok (.getfield 31, 3) := by decide +kernel
theorem dX9_become_73 : decode cX9_become 73 = .ok (.aload_n 0, 1) := by decide +kernel
theorem dX9_become_74 : decode cX9_become 74 = .ok (.getfield 31, 3) := by decide +kernel
theorem dX9_become_77 : decode cX9_become 77 = .ok (.invokevirtual 65, 3) := by decide +kernel
theorem dX9_become_80 : decode cX9_become 80 = .ok (.aload_n 0, 1) := by decide +kernel
theorem dX9_become_81 : decode cX9_become 81 = .ok (.aload_n 1, 1) := by decide +kernel
theorem dX9_become_82 : decode cX9_become 82 = .ok (.getfield 34, 3) := by decide +kernel
theorem dX9_become_85 : decode cX9_become 85 = .ok (.aload_n 0, 1) := by decide +kernel
theorem dX9_become_86 : decode cX9_become 86 = .ok (.getfield 34, 3) := by decide +kernel
theorem dX9_become_89 : decode cX9_become 89 = .ok (.invokevirtual 65, 3) := by decide +kernel
theorem dX9_become_92 : decode cX9_become 92 = .ok (.aload_n 0, 1) := by decide +kernel
theorem dX9_become_93 : decode cX9_become 93 = .ok (.aload_n 1, 1) := by decide +kernel
theorem dX9_become_94 : decode cX9_become 94 = .ok (.getfield 37, 3) := by decide +kernel
theorem dX9_become_97 : decode cX9_become 97 = .ok (.aload_n 0, 1) := by decide +kernel
theorem dX9_become_98 : decode cX9_become 98 = .ok (.getfield 37, 3) := by decide +kernel
theorem dX9_become_101 : decode cX9_become 101 = .ok (.invokevirtual 65, 3) := by decide +kernel
theorem dX9_become_104 : decode cX9_become 104 = .ok (.aload_n 0, 1) := by decide +kernel
theorem dX9_become_105 : decode cX9_become 105 = .ok (.aload_n 1, 1) := by decide +kernel
theorem dX9_become_106 : decode cX9_become 106 = .ok (.getfield 40, 3) := by decide +kernel
theorem dX9_become_109 : decode cX9_become 109 = .ok (.aload_n 0, 1) := by decide +kernel
theorem dX9_become_110 : decode cX9_become 110 = .ok (.getfield 40, 3) := by decide +kernel
theorem dX9_become_113 : decode cX9_become 113 = .ok (.invokevirtual 65, 3) := by decide +kernel
theorem dX9_become_116 : decode cX9_become 116 = .ok (.aload_n 0, 1) := by decide +kernel
theorem dX9_become_117 : decode cX9_become 117 = .ok (.aload_n 1, 1) := by decide +kernel
theorem dX9_become_118 : decode cX9_become 118 = .ok (.getfield 43, 3) := by decide +kernel
theorem dX9_become_121 : decode cX9_become 121 = .ok (.aload_n 0, 1) := by decide +kernel
theorem dX9_become_122 : decode cX9_become 122 = .ok (.getfield 43, 3) := by decide +kernel
theorem dX9_become_125 : decode cX9_become 125 = .ok (.invokevirtual 65, 3) := by decide +kernel
theorem dX9_become_128 : decode cX9_become 128 = .ok (.aload_n 0, 1) := by decide +kernel
theorem dX9_become_129 : decode cX9_become 129 = .ok (.aload_n 1, 1) := by decide +kernel
theorem dX9_become_130 : decode cX9_become 130 = .ok (.getfield 46, 3) := by decide +kernel
theorem dX9_become_133 : decode cX9_become 133 = .ok (.aload_n 0, 1) := by decide +kernel
theorem dX9_become_134 : decode cX9_become 134 = .ok (.getfield 46, 3) := by decide +kernel
theorem dX9_become_137 : decode cX9_become 137 = .ok (.invokevirtual 65, 3) := by decide +kernel
theorem dX9_become_140 : decode cX9_become 140 = .ok (.aload_n 0, 1) := by decide +kernel
theorem dX9_become_141 : decode cX9_become 141 = .ok (.aload_n 1, 1) := by decide +kernel
theorem dX9_become_142 : decode cX9_become 142 = .ok (.getfield 49, 3) := by decide +kernel
theorem dX9_become_145 : decode cX9_become 145 = .ok (.aload_n 0, 1) := by decide +kernel
theorem dX9_become_146 : decode cX9_become 146 = .ok (.getfield 49, 3) := by decide +kernel
theorem dX9_become_149 : decode cX9_become 149 = .ok (.invokevirtual 65, 3) := by decide +kernel
theorem dX9_become_152 : decode cX9_become 152 = .ok (.aload_n 0, 1) := by decide +kernel
theorem dX9_become_153 : decode cX9_become 153 = .ok (.aload_n 1, 1) := by decide +kernel
theorem dX9_become_154 : decode cX9_become 154 = .ok (.getfield 52, 3) := by decide +kernel
theorem dX9_become_157 : decode cX9_become 157 = .ok (.aload_n 0, 1) := by decide +kernel
theorem dX9_become_158 : decode cX9_become 158 = .ok (.getfield 52, 3) := by decide +kernel
theorem dX9_become_161 : decode cX9_become 161 = .ok (.invokevirtual 65, 3) := by decide +kernel
theorem dX9_become_164 : decode cX9_become 164 = .ok (.return_, 1) := by decide +kernel
theorem dX9_many_0 : decode cX9_many 0 = .ok (.iconst 0, 1) := by decide +kernel
theorem dX9_many_1 : decode cX9_many 1 = .ok (.istore_n 2, 1) := by decide +kernel
theorem dX9_many_2 : decode cX9_many 2 = .ok (.iconst 0, 1) := by decide +kernel
theorem dX9_many_3 : decode cX9_many 3 = .ok (.istore_n 3, 1) := by decide +kernel
theorem dX9_many_4 : decode cX9_many 4 = .ok (.iload_n 3, 1) := by decide +kernel
theorem dX9_many_5 : decode cX9_many 5 = .ok (.aload_n 0, 1) := by decide +kernel
theorem dX9_many_6 : decode cX9_many 6 = .ok (.getfield 3, 3) := by decide +kernel
theorem dX9_many_9 : decode cX9_many 9 = .ok (.getfield 69, 3) := by decide +kernel
theorem dX9_many_12 : decode cX9_many 12 = .ok (.if_icmp .ge 27, 3) := by decide +kernel
theorem dX9_many_15 : decode cX9_many 15 = .ok (.iload_n 2, 1) := by decide +kernel
theorem dX9_many_16 : decode cX9_many 16 = .ok (.aload_n 0, 1) := by decide +kernel
theorem dX9_many_17 : decode cX9_many 17 = .ok (.getfield 40, 3) := by decide +kernel
theorem dX9_many_20 : decode cX9_many 20 = .ok (.iload_n 3, 1) := by decide +kernel
theorem dX9_many_21 : decode cX9_many 21 = .ok (.iaload, 1) := by decide +kernel
theorem dX9_many_22 : decode cX9_many 22 = .ok (.iload_n 1, 1) := by decide +kernel
theorem dX9_many_23 : decode cX9_many 23 = .ok (.if_icmp .ne 7, 3) := by decide +kernel
theorem dX9_many_26 : decode cX9_many 26 = .ok (.iconst 1, 1) := by decide +kernel
theorem dX9_many_27 : decode cX9_many 27 = .ok (.goto 4, 3) := by decide +kernel
theorem dX9_many_30 : decode cX9_many 30 = .ok (.iconst 0, 1) := by decide +kernel
theorem dX9_many_31 : decode cX9_many 31 = .ok (.iadd, 1) := by decide +kernel
theorem dX9_many_32 : decode cX9_many 32 = .ok (.istore_n 2, 1) := by decide +kernel
theorem dX9_many_33 : decode cX9_many 33 = .ok (.iinc 3 1, 3) := by decide +kernel
theorem dX9_many_36 : decode cX9_many 36 = .ok (.goto (-32), 3) := by decide +kernel
theorem dX9_many_39 : decode cX9_many 39 = .ok (.iload_n 2, 1) := by decide +kernel
theorem dX9_many_40 : decode cX9_many 40 = .ok (.ireturn, 1) := by decide +kernel
theorem dX9_come_0 : decode cX9_come 0 = .ok (.aload_n 0, 1) := by decide +kernel
theorem dX9_come_1 : decode cX9_come 1 = .ok (.getfield 43, 3) := by decide +kernel
theorem dX9_come_4 : decode cX9_come 4 = .ok (.iload_n 1, 1) := by decide +kernel
theorem dX9_come_5 : decode cX9_come 5 = .ok (.iload_n 2, 1) := by decide +kernel
theorem dX9_come_6 : decode cX9_come 6 = .ok (.iastore, 1) := by decide +kernel
theorem dX9_come_7 : decode cX9_come 7 = .ok (.aload_n 0, 1) := by decide +kernel
theorem dX9_come_8 : decode cX9_come 8 = .ok (.getfield 46, 3) := by decide +kernel
theorem dX9_come_11 : decode cX9_come 11 = .ok (.iload_n 1, 1) := by decide +kernel
theorem dX9_come_12 : decode cX9_come 12 = .ok (.iconst 0, 1) := by decide +kernel
theorem dX9_come_13 : decode cX9_come 13 = .ok (.iastore, 1) := by decide +kernel
theorem dX9_come_14 : decode cX9_come 14 = .ok (.aload_n 0, 1) := by decide +kernel
theorem dX9_come_15 : decode cX9_come 15 = .ok (.getfield 40, 3) := by decide +kernel
theorem dX9_come_18 : decode cX9_come 18 = .ok (.iload_n 1, 1) := by decide +kernel
theorem dX9_come_19 : decode cX9_come 19 = .ok (.iload_n 2, 1) := by decide +kernel
theorem dX9_come_20 : decode cX9_come 20 = .ok (.aload_n 0, 1) := by decide +kernel
theorem dX9_come_21 : decode cX9_come 21 = .ok (.getfield 3, 3) := by decide +kernel
theorem dX9_come_24 : decode cX9_come 24 = .ok (.getfield 72, 3) := by decide +kernel
theorem dX9_come_27 : decode cX9_come 27 = .ok (.iload_n 1, 1) := by decide +kernel
theorem dX9_come_28 : decode cX9_come 28 = .ok (.iaload, 1) := by decide +kernel
theorem dX9_come_29 : decode cX9_come 29 = .ok (.if_icmp .ne 7, 3) := by decide +kernel
theorem dX9_come_32 : decode cX9_come 32 = .ok (.iconst 2, 1) := by decide +kernel
theorem dX9_come_33 : decode cX9_come 33 = .ok (.goto 4, 3) := by decide +kernel
theorem dX9_come_36 : decode cX9_come 36 = .ok (.iconst 0, 1) := by decide +kernel
theorem dX9_come_37 : decode cX9_come 37 = .ok (.iastore, 1) := by decide +kernel
theorem dX9_come_38 : decode cX9_come 38 = .ok (.aload_n 0, 1) := by decide +kernel
theorem dX9_come_39 : decode cX9_come 39 = .ok (.getfield 40, 3) := by decide +kernel
theorem dX9_come_42 : decode cX9_come 42 = .ok (.iload_n 1, 1) := by decide +kernel
theorem dX9_come_43 : decode cX9_come 43 = .ok (.iaload, 1) := by decide +kernel
theorem dX9_come_44 : decode cX9_come 44 = .ok (.iconst 2, 1) := by decide +kernel
theorem dX9_come_45 : decode cX9_come 45 = .ok (.if_icmp .ne 16, 3) := by decide +kernel
theorem dX9_come_48 : decode cX9_come 48 = .ok (.aload_n 0, 1) := by decide +kernel
theorem dX9_come_49 : decode cX9_come 49 = .ok (.getfield 52, 3) := by decide +kernel
theorem dX9_come_52 : decode cX9_come 52 = .ok (.iload_n 1, 1) := by decide +kernel
theorem dX9_come_53 : decode cX9_come 53 = .ok (.aload_n 0, 1) := by decide +kernel
theorem dX9_come_54 : decode cX9_come 54 = .ok (.getfield 61, 3) := by decide +kernel
theorem dX9_come_57 : decode cX9_come 57 = .ok (.iastore, 1) := by decide +kernel
theorem dX9_come_58 : decode cX9_come 58 = .ok (.goto 30, 3) := by decide +kernel
theorem dX9_come_61 : decode cX9_come 61 = .ok (.aload_n 0, 1) := by decide +kernel
theorem dX9_come_62 : decode cX9_come 62 = .ok (.getfield 37, 3) := by decide +kernel
theorem dX9_come_65 : decode cX9_come 65 = .ok (.bipush 12, 2) := by decide +kernel
theorem dX9_come_67 : decode cX9_come 67 = .ok (.iload_n 2, 1) := by decide +kernel
theorem dX9_come_68 : decode cX9_come 68 = .ok (.imul, 1) := by decide +kernel
theorem dX9_come_69 : decode cX9_come 69 = .ok (.aload_n 0, 1) := by decide +kernel
theorem dX9_come_70 : decode cX9_come 70 = .ok (.getfield 34, 3) := by decide +kernel
theorem dX9_come_73 : decode cX9_come 73 = .ok (.iload_n 2, 1) := by decide +kernel
theorem dX9_come_74 : decode cX9_come 74 = .ok (.iaload, 1) := by decide +kernel
theorem dX9_come_75 : decode cX9_come 75 = .ok (.iadd, 1) := by decide +kernel
theorem dX9_come_76 : decode cX9_come 76 = .ok (.iload_n 1, 1) := by decide +kernel
theorem dX9_come_77 : decode cX9_come 77 = .ok (.iastore, 1) := by decide +kernel
theorem dX9_come_78 : decode cX9_come 78 = .ok (.aload_n 0, 1) := by decide +kernel
theorem dX9_come_79 : decode cX9_come 79 = .ok (.getfield 34, 3) := by decide +kernel
theorem dX9_come_82 : decode cX9_come 82 = .ok (.iload_n 2, 1) := by decide +kernel
theorem dX9_come_83 : decode cX9_come 83 = .ok (.dup2, 1) := by decide +kernel
theorem dX9_come_84 : decode cX9_come 84 = .ok (.iaload, 1) := by decide +kernel
theorem dX9_come_85 : decode cX9_come 85 = .ok (.iconst 1, 1) := by decide +kernel
theorem dX9_come_86 : decode cX9_come 86 = .ok (.iadd, 1) := by decide +kernel
theorem dX9_come_87 : decode cX9_come 87 = .ok (.iastore, 1) := by decide +kernel
theorem dX9_come_88 : decode cX9_come 88 = .ok (.return_, 1) := by decide +kernel
theorem dX9_strike_0 : decode cX9_strike 0 = .ok (.bipush 12, 2) := by decide +kernel
theorem dX9_strike_2 : decode cX9_strike 2 = .ok (.aload_n 0, 1) := by decide +kernel
theorem dX9_strike_3 : decode cX9_strike 3 = .ok (.getfield 43, 3) := by decide +kernel
theorem dX9_strike_6 : decode cX9_strike 6 = .ok (.iload_n 1, 1) := by decide +kernel
theorem dX9_strike_7 : decode cX9_strike 7 = .ok (.iaload, 1) := by decide +kernel
theorem dX9_strike_8 : decode cX9_strike 8 = .ok (.imul, 1) := by decide +kernel
theorem dX9_strike_9 : decode cX9_strike 9 = .ok (.istore_n 2, 1) := by decide +kernel
theorem dX9_strike_10 : decode cX9_strike 10 = .ok (.iload_n 2, 1) := by decide +kernel
theorem dX9_strike_11 : decode cX9_strike 11 = .ok (.istore_n 3, 1) := by decide +kernel
theorem dX9_strike_12 : decode cX9_strike 12 = .ok (.aload_n 0, 1) := by decide +kernel
theorem dX9_strike_13 : decode cX9_strike 13 = .ok (.getfield 37, 3) := by decide +kernel
theorem dX9_strike_16 : decode cX9_strike 16 = .ok (.iload_n 3, 1) := by decide +kernel
theorem dX9_strike_17 : decode cX9_strike 17 = .ok (.iaload, 1) := by decide +kernel
theorem dX9_strike_18 : decode cX9_strike 18 = .ok (.iload_n 1, 1) := by decide +kernel
theorem dX9_strike_19 : decode cX9_strike 19 = .ok (.if_icmp .eq 9, 3) := by decide +kernel
theorem dX9_strike_22 : decode cX9_strike 22 = .ok (.iinc 3 1, 3) := by decide +kernel
theorem dX9_strike_25 : decode cX9_strike 25 = .ok (.goto (-13), 3) := by decide +kernel
theorem dX9_strike_28 : decode cX9_strike 28 = .ok (.aload_n 0, 1) := by decide +kernel
theorem dX9_strike_29 : decode cX9_strike 29 = .ok (.getfield 34, 3) := by decide +kernel
theorem dX9_strike_32 : decode cX9_strike 32 = .ok (.aload_n 0, 1) := by decide +kernel
theorem dX9_strike_33 : decode cX9_strike 33 = .ok (.getfield 43, 3) := by decide +kernel
theorem dX9_strike_36 : decode cX9_strike 36 = .ok (.iload_n 1, 1) := by decide +kernel
theorem dX9_strike_37 : decode cX9_strike 37 = .ok (.iaload, 1) := by decide +kernel
theorem dX9_strike_38 : decode cX9_strike 38 = .ok (.dup2, 1) := by decide +kernel
theorem dX9_strike_39 : decode cX9_strike 39 = .ok (.iaload, 1) := by decide +kernel
theorem dX9_strike_40 : decode cX9_strike 40 = .ok (.iconst 1, 1) := by decide +kernel
theorem dX9_strike_41 : decode cX9_strike 41 = .ok (.isub, 1) := by decide +kernel
theorem dX9_strike_42 : decode cX9_strike 42 = .ok (.iastore, 1) := by decide +kernel
theorem dX9_strike_43 : decode cX9_strike 43 = .ok (.iload_n 3, 1) := by decide +kernel
theorem dX9_strike_44 : decode cX9_strike 44 = .ok (.iload_n 2, 1) := by decide +kernel
theorem dX9_strike_45 : decode cX9_strike 45 = .ok (.aload_n 0, 1) := by decide +kernel
theorem dX9_strike_46 : decode cX9_strike 46 = .ok (.getfield 34, 3) := by decide +kernel
theorem dX9_strike_49 : decode cX9_strike 49 = .ok (.aload_n 0, 1) := by decide +kernel
theorem dX9_strike_50 : decode cX9_strike 50 = .ok (.getfield 43, 3) := by decide +kernel
theorem dX9_strike_53 : decode cX9_strike 53 = .ok (.iload_n 1, 1) := by decide +kernel
theorem dX9_strike_54 : decode cX9_strike 54 = .ok (.iaload, 1) := by decide +kernel
theorem dX9_strike_55 : decode cX9_strike 55 = .ok (.iaload, 1) := by decide +kernel
theorem dX9_strike_56 : decode cX9_strike 56 = .ok (.iadd, 1) := by decide +kernel
theorem dX9_strike_57 : decode cX9_strike 57 = .ok (.if_icmp .ge 23, 3) := by decide +kernel
theorem dX9_strike_60 : decode cX9_strike 60 = .ok (.aload_n 0, 1) := by decide +kernel
theorem dX9_strike_61 : decode cX9_strike 61 = .ok (.getfield 37, 3) := by decide +kernel
theorem dX9_strike_64 : decode cX9_strike 64 = .ok (.iload_n 3, 1) := by decide +kernel
theorem dX9_strike_65 : decode cX9_strike 65 = .ok (.aload_n 0, 1) := by decide +kernel
theorem dX9_strike_66 : decode cX9_strike 66 = .ok (.getfield 37, 3) := by decide +kernel
theorem dX9_strike_69 : decode cX9_strike 69 = .ok (.iload_n 3, 1) := by decide +kernel
theorem dX9_strike_70 : decode cX9_strike 70 = .ok (.iconst 1, 1) := by decide +kernel
theorem dX9_strike_71 : decode cX9_strike 71 = .ok (.iadd, 1) := by decide +kernel
theorem dX9_strike_72 : decode cX9_strike 72 = .ok (.iaload, 1) := by decide +kernel
theorem dX9_strike_73 : decode cX9_strike 73 = .ok (.iastore, 1) := by decide +kernel
theorem dX9_strike_74 : decode cX9_strike 74 = .ok (.iinc 3 1, 3) := by decide +kernel
theorem dX9_strike_77 : decode cX9_strike 77 = .ok (.goto (-34), 3) := by decide +kernel
theorem dX9_strike_80 : decode cX9_strike 80 = .ok (.return_, 1) := by decide +kernel
theorem dX9_pass_0 : decode cX9_pass 0 = .ok (.aload_n 0, 1) := by decide +kernel
theorem dX9_pass_1 : decode cX9_pass 1 = .ok (.iconst 2, 1) := by decide +kernel
theorem dX9_pass_2 : decode cX9_pass 2 = .ok (.invokevirtual 75, 3) := by decide +kernel
theorem dX9_pass_5 : decode cX9_pass 5 = .ok (.istore_n 1, 1) := by decide +kernel
theorem dX9_pass_6 : decode cX9_pass 6 = .ok (.iconst 0, 1) := by decide +kernel
theorem dX9_pass_7 : decode cX9_pass 7 = .ok (.istore_n 2, 1) := by decide +kernel
theorem dX9_pass_8 : decode cX9_pass 8 = .ok (.iload_n 2, 1) := by decide +kernel
theorem dX9_pass_9 : decode cX9_pass 9 = .ok (.aload_n 0, 1) := by decide +kernel
theorem dX9_pass_10 : decode cX9_pass 10 = .ok (.getfield 3, 3) := by decide +kernel
theorem dX9_pass_13 : decode cX9_pass 13 = .ok (.getfield 79, 3) := by decide +kernel
theorem dX9_pass_16 : decode cX9_pass 16 = .ok (.if_icmp .ge 14, 3) := by decide +kernel
theorem dX9_pass_19 : decode cX9_pass 19 = .ok (.aload_n 0, 1) := by decide +kernel
theorem dX9_pass_20 : decode cX9_pass 20 = .ok (.iload_n 2, 1) := by decide +kernel
theorem dX9_pass_21 : decode cX9_pass 21 = .ok (.invokevirtual 82, 3) := by decide +kernel
theorem dX9_pass_24 : decode cX9_pass 24 = .ok (.iinc 2 1, 3) := by decide +kernel
theorem dX9_pass_27 : decode cX9_pass 27 = .ok (.goto (-19), 3) := by decide +kernel
theorem dX9_pass_30 : decode cX9_pass 30 = .ok (.iconst 0, 1) := by decide +kernel
theorem dX9_pass_31 : decode cX9_pass 31 = .ok (.istore_n 2, 1) := by decide +kernel
theorem dX9_pass_32 : decode cX9_pass 32 = .ok (.iload_n 2, 1) := by decide +kernel
theorem dX9_pass_33 : decode cX9_pass 33 = .ok (.aload_n 0, 1) := by decide +kernel
theorem dX9_pass_34 : decode cX9_pass 34 = .ok (.getfield 3, 3) := by decide +kernel
theorem dX9_pass_37 : decode cX9_pass 37 = .ok (.getfield 79, 3) := by decide +kernel
theorem dX9_pass_40 : decode cX9_pass 40 = .ok (.if_icmp .ge 44, 3) := by decide +kernel
theorem dX9_pass_43 : decode cX9_pass 43 = .ok (.aload_n 0, 1) := by decide +kernel
theorem dX9_pass_44 : decode cX9_pass 44 = .ok (.getfield 3, 3) := by decide +kernel
theorem dX9_pass_47 : decode cX9_pass 47 = .ok (.iload_n 2, 1) := by decide +kernel
theorem dX9_pass_48 : decode cX9_pass 48 = .ok (.aload_n 0, 1) := by decide +kernel
theorem dX9_pass_49 : decode cX9_pass 49 = .ok (.getfield 61, 3) := by decide +kernel
theorem dX9_pass_52 : decode cX9_pass 52 = .ok (.invokevirtual 86, 3) := by decide +kernel
theorem dX9_pass_55 : decode cX9_pass 55 = .ok (.ifCond .ne 23, 3) := by decide +kernel
theorem dX9_pass_58 : decode cX9_pass 58 = .ok (.aload_n 0, 1) := by decide +kernel
theorem dX9_pass_59 : decode cX9_pass 59 = .ok (.getfield 19, 3) := by decide +kernel
theorem dX9_pass_62 : decode cX9_pass 62 = .ok (.iload_n 2, 1) := by decide +kernel
theorem dX9_pass_63 : decode cX9_pass 63 = .ok (.iaload, 1) := by decide +kernel
theorem dX9_pass_64 : decode cX9_pass 64 = .ok (.aload_n 0, 1) := by decide +kernel
theorem dX9_pass_65 : decode cX9_pass 65 = .ok (.getfield 15, 3) := by decide +kernel
theorem dX9_pass_68 : decode cX9_pass 68 = .ok (.iload_n 2, 1) := by decide +kernel
theorem dX9_pass_69 : decode cX9_pass 69 = .ok (.iaload, 1) := by decide +kernel
theorem dX9_pass_70 : decode cX9_pass 70 = .ok (.if_icmp .ge 8, 3) := by decide +kernel
theorem dX9_pass_73 : decode cX9_pass 73 = .ok (.aload_n 0, 1) := by decide +kernel
theorem dX9_pass_74 : decode cX9_pass 74 = .ok (.iload_n 2, 1) := by decide +kernel
theorem dX9_pass_75 : decode cX9_pass 75 = .ok (.invokevirtual 90, 3) := by decide +kernel
theorem dX9_pass_78 : decode cX9_pass 78 = .ok (.iinc 2 1, 3) := by decide +kernel
theorem dX9_pass_81 : decode cX9_pass 81 = .ok (.goto (-49), 3) := by decide +kernel
theorem dX9_pass_84 : decode cX9_pass 84 = .ok (.iconst 0, 1) := by decide +kernel
theorem dX9_pass_85 : decode cX9_pass 85 = .ok (.istore_n 2, 1) := by decide +kernel
theorem dX9_pass_86 : decode cX9_pass 86 = .ok (.iload_n 2, 1) := by decide +kernel
theorem dX9_pass_87 : decode cX9_pass 87 = .ok (.aload_n 0, 1) := by decide +kernel
theorem dX9_pass_88 : decode cX9_pass 88 = .ok (.getfield 3, 3) := by decide +kernel
theorem dX9_pass_91 : decode cX9_pass 91 = .ok (.getfield 69, 3) := by decide +kernel
theorem dX9_pass_94 : decode cX9_pass 94 = .ok (.if_icmp .ge 99, 3) := by decide +kernel
theorem dX9_pass_97 : decode cX9_pass 97 = .ok (.aload_n 0, 1) := by decide +kernel
theorem dX9_pass_98 : decode cX9_pass 98 = .ok (.getfield 40, 3) := by decide +kernel
theorem dX9_pass_101 : decode cX9_pass 101 = .ok (.iload_n 2, 1) := by decide +kernel
theorem dX9_pass_102 : decode cX9_pass 102 = .ok (.iaload, 1) := by decide +kernel
theorem dX9_pass_103 : decode cX9_pass 103 = .ok (.ifCond .eq 6, 3) := by decide +kernel
theorem dX9_pass_106 : decode cX9_pass 106 = .ok (.goto 81, 3) := by decide +kernel
theorem dX9_pass_109 : decode cX9_pass 109 = .ok (.aload_n 0, 1) := by decide +kernel
theorem dX9_pass_110 : decode cX9_pass 110 = .ok (.getfield 46, 3) := by decide +kernel
theorem dX9_pass_113 : decode cX9_pass 113 = .ok (.iload_n 2, 1) := by decide +kernel
theorem dX9_pass_114 : decode cX9_pass 114 = .ok (.dup2, 1) := by decide +kernel
theorem dX9_pass_115 : decode cX9_pass 115 = .ok (.iaload, 1) := by decide +kernel
theorem dX9_pass_116 : decode cX9_pass 116 = .ok (.iconst 1, 1) := by decide +kernel
theorem dX9_pass_117 : decode cX9_pass 117 = .ok (.iadd, 1) := by decide +kernel
theorem dX9_pass_118 : decode cX9_pass 118 = .ok (.iastore, 1) := by decide +kernel
theorem dX9_pass_119 : decode cX9_pass 119 = .ok (.aload_n 0, 1) := by decide +kernel
theorem dX9_pass_120 : decode cX9_pass 120 = .ok (.getfield 3, 3) := by decide +kernel
theorem dX9_pass_123 : decode cX9_pass 123 = .ok (.aload_n 0, 1) := by decide +kernel
theorem dX9_pass_124 : decode cX9_pass 124 = .ok (.getfield 43, 3) := by decide +kernel
theorem dX9_pass_127 : decode cX9_pass 127 = .ok (.iload_n 2, 1) := by decide +kernel
theorem dX9_pass_128 : decode cX9_pass 128 = .ok (.iaload, 1) := by decide +kernel
theorem dX9_pass_129 : decode cX9_pass 129 = .ok (.aload_n 0, 1) := by decide +kernel
theorem dX9_pass_130 : decode cX9_pass 130 = .ok (.getfield 3, 3) := by decide +kernel
theorem dX9_pass_133 : decode cX9_pass 133 = .ok (.getfield 72, 3) := by decide +kernel
theorem dX9_pass_136 : decode cX9_pass 136 = .ok (.iload_n 2, 1) := by decide +kernel
theorem dX9_pass_137 : decode cX9_pass 137 = .ok (.iaload, 1) := by decide +kernel
theorem dX9_pass_138 : decode cX9_pass 138 = .ok (.aload_n 0, 1) := by decide +kernel
theorem dX9_pass_139 : decode cX9_pass 139 = .ok (.getfield 3, 3) := by decide +kernel
theorem dX9_pass_142 : decode cX9_pass 142 = .ok (.getfield 93, 3) := by decide +kernel
theorem dX9_pass_145 : decode cX9_pass 145 = .ok (.iload_n 2, 1) := by decide +kernel
theorem dX9_pass_146 : decode cX9_pass 146 = .ok (.iaload, 1) := by decide +kernel
theorem dX9_pass_147 : decode cX9_pass 147 = .ok (.invokevirtual 96, 3) := by decide +kernel
theorem dX9_pass_150 : decode cX9_pass 150 = .ok (.iconst (-1), 1) := by decide +kernel
theorem dX9_pass_151 : decode cX9_pass 151 = .ok (.if_icmp .eq 24, 3) := by decide +kernel
theorem dX9_pass_154 : decode cX9_pass 154 = .ok (.aload_n 0, 1) := by decide +kernel
theorem dX9_pass_155 : decode cX9_pass 155 = .ok (.getfield 46, 3) := by decide +kernel
theorem dX9_pass_158 : decode cX9_pass 158 = .ok (.iload_n 2, 1) := by decide +kernel
theorem dX9_pass_159 : decode cX9_pass 159 = .ok (.iaload, 1) := by decide +kernel
theorem dX9_pass_160 : decode cX9_pass 160 = .ok (.aload_n 0, 1) := by decide +kernel
theorem dX9_pass_161 : decode cX9_pass 161 = .ok (.getfield 3, 3) := by decide +kernel
theorem dX9_pass_164 : decode cX9_pass 164 = .ok (.getfield 100, 3) := by decide +kernel
theorem dX9_pass_167 : decode cX9_pass 167 = .ok (.iload_n 2, 1) := by decide +kernel
theorem dX9_pass_168 : decode cX9_pass 168 = .ok (.iaload, 1) := by decide +kernel
theorem dX9_pass_169 : decode cX9_pass 169 = .ok (.if_icmp .ge 6, 3) := by decide +kernel
theorem dX9_pass_172 : decode cX9_pass 172 = .ok (.goto 15, 3) := by decide +kernel
theorem dX9_pass_175 : decode cX9_pass 175 = .ok (.aload_n 0, 1) := by decide +kernel
theorem dX9_pass_176 : decode cX9_pass 176 = .ok (.iload_n 2, 1) := by decide +kernel
theorem dX9_pass_177 : decode cX9_pass 177 = .ok (.invokevirtual 103, 3) := by decide +kernel
theorem dX9_pass_180 : decode cX9_pass 180 = .ok (.aload_n 0, 1) := by decide +kernel
theorem dX9_pass_181 : decode cX9_pass 181 = .ok (.getfield 40, 3) := by decide +kernel
theorem dX9_pass_184 : decode cX9_pass 184 = .ok (.iload_n 2, 1) := by decide +kernel
theorem dX9_pass_185 : decode cX9_pass 185 = .ok (.iconst 3, 1) := by decide +kernel
theorem dX9_pass_186 : decode cX9_pass 186 = .ok (.iastore, 1) := by decide +kernel
theorem dX9_pass_187 : decode cX9_pass 187 = .ok (.iinc 2 1, 3) := by decide +kernel
theorem dX9_pass_190 : decode cX9_pass 190 = .ok (.goto (-104), 3) := by decide +kernel
theorem dX9_pass_193 : decode cX9_pass 193 = .ok (.aload_n 0, 1) := by decide +kernel
theorem dX9_pass_194 : decode cX9_pass 194 = .ok (.dup, 1) := by decide +kernel
theorem dX9_pass_195 : decode cX9_pass 195 = .ok (.getfield 61, 3) := by decide +kernel
theorem dX9_pass_198 : decode cX9_pass 198 = .ok (.iconst 1, 1) := by decide +kernel
theorem dX9_pass_199 : decode cX9_pass 199 = .ok (.iadd, 1) := by decide +kernel
theorem dX9_pass_200 : decode cX9_pass 200 = .ok (.putfield 61, 3) := by decide +kernel
theorem dX9_pass_203 : decode cX9_pass 203 = .ok (.aload_n 0, 1) := by decide +kernel
theorem dX9_pass_204 : decode cX9_pass 204 = .ok (.iconst 2, 1) := by decide +kernel
theorem dX9_pass_205 : decode cX9_pass 205 = .ok (.invokevirtual 75, 3) := by decide +kernel
theorem dX9_pass_208 : decode cX9_pass 208 = .ok (.iload_n 1, 1) := by decide +kernel
theorem dX9_pass_209 : decode cX9_pass 209 = .ok (.isub, 1) := by decide +kernel
theorem dX9_pass_210 : decode cX9_pass 210 = .ok (.ireturn, 1) := by decide +kernel
theorem dX9_roll_0 : decode cX9_roll 0 = .ok (.iconst 3, 1) := by decide +kernel
theorem dX9_roll_1 : decode cX9_roll 1 = .ok (.iload_n 1, 1) := by decide +kernel
theorem dX9_roll_2 : decode cX9_roll 2 = .ok (.imul, 1) := by decide +kernel
theorem dX9_roll_3 : decode cX9_roll 3 = .ok (.istore_n 2, 1) := by decide +kernel
theorem dX9_roll_4 : decode cX9_roll 4 = .ok (.iload_n 2, 1) := by decide +kernel
theorem dX9_roll_5 : decode cX9_roll 5 = .ok (.aload_n 0, 1) := by decide +kernel
theorem dX9_roll_6 : decode cX9_roll 6 = .ok (.getfield 19, 3) := by decide +kernel
theorem dX9_roll_9 : decode cX9_roll 9 = .ok (.iload_n 1, 1) := by decide +kernel
theorem dX9_roll_10 : decode cX9_roll 10 = .ok (.iaload, 1) := by decide +kernel
theorem dX9_roll_11 : decode cX9_roll 11 = .ok (.iadd, 1) := by decide +kernel
theorem dX9_roll_12 : decode cX9_roll 12 = .ok (.istore_n 3, 1) := by decide +kernel
theorem dX9_roll_13 : decode cX9_roll 13 = .ok (.iload_n 2, 1) := by decide +kernel
theorem dX9_roll_14 : decode cX9_roll 14 = .ok (.istore 4, 2) := by decide +kernel
theorem dX9_roll_16 : decode cX9_roll 16 = .ok (.iload 4, 2) := by decide +kernel
theorem dX9_roll_18 : decode cX9_roll 18 = .ok (.iload_n 3, 1) := by decide +kernel
theorem dX9_roll_19 : decode cX9_roll 19 = .ok (.if_icmp .ge 142, 3) := by decide +kernel
theorem dX9_roll_22 : decode cX9_roll 22 = .ok (.aload_n 0, 1) := by decide +kernel
theorem dX9_roll_23 : decode cX9_roll 23 = .ok (.getfield 25, 3) := by decide +kernel
theorem dX9_roll_26 : decode cX9_roll 26 = .ok (.iload 4, 2) := by decide +kernel
theorem dX9_roll_28 : decode cX9_roll 28 = .ok (.dup2, 1) := by decide +kernel
theorem dX9_roll_29 : decode cX9_roll 29 = .ok (.iaload, 1) := by decide +kernel
theorem dX9_roll_30 : decode cX9_roll 30 = .ok (.iconst 1, 1) := by decide +kernel
theorem dX9_roll_31 : decode cX9_roll 31 = .ok (.isub, 1) := by decide +kernel
theorem dX9_roll_32 : decode cX9_roll 32 = .ok (.iastore, 1) := by decide +kernel
theorem dX9_roll_33 : decode cX9_roll 33 = .ok (.aload_n 0, 1) := by decide +kernel
theorem dX9_roll_34 : decode cX9_roll 34 = .ok (.getfield 25, 3) := by decide +kernel
theorem dX9_roll_37 : decode cX9_roll 37 = .ok (.iload 4, 2) := by decide +kernel
theorem dX9_roll_39 : decode cX9_roll 39 = .ok (.iaload, 1) := by decide +kernel
theorem dX9_roll_40 : decode cX9_roll 40 = .ok (.ifCond .ne 27, 3) := by decide +kernel
theorem dX9_roll_43 : decode cX9_roll 43 = .ok (.aload_n 0, 1) := by decide +kernel
theorem dX9_roll_44 : decode cX9_roll 44 = .ok (.getfield 22, 3) := by decide +kernel
theorem dX9_roll_47 : decode cX9_roll 47 = .ok (.iload 4, 2) := by decide +kernel
theorem dX9_roll_49 : decode cX9_roll 49 = .ok (.iaload, 1) := by decide +kernel
theorem dX9_roll_50 : decode cX9_roll 50 = .ok (.iconst (-1), 1) := by decide +kernel
theorem dX9_roll_51 : decode cX9_roll 51 = .ok (.if_icmp .ne 16, 3) := by decide +kernel
theorem dX9_roll_54 : decode cX9_roll 54 = .ok (.aload_n 0, 1) := by decide +kernel
theorem dX9_roll_55 : decode cX9_roll 55 = .ok (.getfield 19, 3) := by decide +kernel
theorem dX9_roll_58 : decode cX9_roll 58 = .ok (.iload_n 1, 1) := by decide +kernel
theorem dX9_roll_59 : decode cX9_roll 59 = .ok (.dup2, 1) := by decide +kernel
theorem dX9_roll_60 : decode cX9_roll 60 = .ok (.iaload, 1) := by decide +kernel
theorem dX9_roll_61 : decode cX9_roll 61 = .ok (.iconst 1, 1) := by decide +kernel
theorem dX9_roll_62 : decode cX9_roll 62 = .ok (.isub, 1) := by decide +kernel
theorem dX9_roll_63 : decode cX9_roll 63 = .ok (.iastore, 1) := by decide +kernel
theorem dX9_roll_64 : decode cX9_roll 64 = .ok (.goto 91, 3) := by decide +kernel
theorem dX9_roll_67 : decode cX9_roll 67 = .ok (.aload_n 0, 1) := by decide +kernel
theorem dX9_roll_68 : decode cX9_roll 68 = .ok (.getfield 25, 3) := by decide +kernel
theorem dX9_roll_71 : decode cX9_roll 71 = .ok (.iload 4, 2) := by decide +kernel
theorem dX9_roll_73 : decode cX9_roll 73 = .ok (.iaload, 1) := by decide +kernel
theorem dX9_roll_74 : decode cX9_roll 74 = .ok (.ifCond .ne 52, 3) := by decide +kernel
theorem dX9_roll_77 : decode cX9_roll 77 = .ok (.aload_n 0, 1) := by decide +kernel
theorem dX9_roll_78 : decode cX9_roll 78 = .ok (.aload_n 0, 1) := by decide +kernel
theorem dX9_roll_79 : decode cX9_roll 79 = .ok (.getfield 22, 3) := by decide +kernel
theorem dX9_roll_82 : decode cX9_roll 82 = .ok (.iload 4, 2) := by decide +kernel
theorem dX9_roll_84 : decode cX9_roll 84 = .ok (.iaload, 1) := by decide +kernel
theorem dX9_roll_85 : decode cX9_roll 85 = .ok (.aload_n 0, 1) := by decide +kernel
theorem dX9_roll_86 : decode cX9_roll 86 = .ok (.getfield 3, 3) := by decide +kernel
theorem dX9_roll_89 : decode cX9_roll 89 = .ok (.getfield 106, 3) := by decide +kernel
theorem dX9_roll_92 : decode cX9_roll 92 = .ok (.iload_n 1, 1) := by decide +kernel
theorem dX9_roll_93 : decode cX9_roll 93 = .ok (.iaload, 1) := by decide +kernel
theorem dX9_roll_94 : decode cX9_roll 94 = .ok (.invokevirtual 109, 3) := by decide +kernel
theorem dX9_roll_97 : decode cX9_roll 97 = .ok (.aload_n 0, 1) := by decide +kernel
theorem dX9_roll_98 : decode cX9_roll 98 = .ok (.getfield 22, 3) := by decide +kernel
theorem dX9_roll_101 : decode cX9_roll 101 = .ok (.iload 4, 2) := by decide +kernel
theorem dX9_roll_103 : decode cX9_roll 103 = .ok (.iconst (-1), 1) := by decide +kernel
theorem dX9_roll_104 : decode cX9_roll 104 = .ok (.iastore, 1) := by decide +kernel
theorem dX9_roll_105 : decode cX9_roll 105 = .ok (.aload_n 0, 1) := by decide +kernel
theorem dX9_roll_106 : decode cX9_roll 106 = .ok (.getfield 25, 3) := by decide +kernel
theorem dX9_roll_109 : decode cX9_roll 109 = .ok (.iload 4, 2) := by decide +kernel
theorem dX9_roll_111 : decode cX9_roll 111 = .ok (.aload_n 0, 1) := by decide +kernel
theorem dX9_roll_112 : decode cX9_roll 112 = .ok (.getfield 3, 3) := by decide +kernel
theorem dX9_roll_115 : decode cX9_roll 115 = .ok (.iload_n 1, 1) := by decide +kernel
theorem dX9_roll_116 : decode cX9_roll 116 = .ok (.invokevirtual 113, 3) := by decide +kernel
theorem dX9_roll_119 : decode cX9_roll 119 = .ok (.bipush 9, 2) := by decide +kernel
theorem dX9_roll_121 : decode cX9_roll 121 = .ok (.iadd, 1) := by decide +kernel
theorem dX9_roll_122 : decode cX9_roll 122 = .ok (.bipush 10, 2) := by decide +kernel
theorem dX9_roll_124 : decode cX9_roll 124 = .ok (.idiv, 1) := by decide +kernel
theorem dX9_roll_125 : decode cX9_roll 125 = .ok (.iastore, 1) := by decide +kernel
theorem dX9_roll_126 : decode cX9_roll 126 = .ok (.aload_n 0, 1) := by decide +kernel
theorem dX9_roll_127 : decode cX9_roll 127 = .ok (.getfield 22, 3) := by decide +kernel
theorem dX9_roll_130 : decode cX9_roll 130 = .ok (.iload_n 2, 1) := by decide +kernel
theorem dX9_roll_131 : decode cX9_roll 131 = .ok (.aload_n 0, 1) := by decide +kernel
theorem dX9_roll_132 : decode cX9_roll 132 = .ok (.getfield 22, 3) := by decide +kernel
theorem dX9_roll_135 : decode cX9_roll 135 = .ok (.iload 4, 2) := by decide +kernel
theorem dX9_roll_137 : decode cX9_roll 137 = .ok (.iaload, 1) := by decide +kernel
theorem dX9_roll_138 : decode cX9_roll 138 = .ok (.iastore, 1) := by decide +kernel
theorem dX9_roll_139 : decode cX9_roll 139 = .ok (.aload_n 0, 1) := by decide +kernel
theorem dX9_roll_140 : decode cX9_roll 140 = .ok (.getfield 25, 3) := by decide +kernel
theorem dX9_roll_143 : decode cX9_roll 143 = .ok (.iload_n 2, 1) := by decide +kernel
theorem dX9_roll_144 : decode cX9_roll 144 = .ok (.aload_n 0, 1) := by decide +kernel
theorem dX9_roll_145 : decode cX9_roll 145 = .ok (.getfield 25, 3) := by decide +kernel
theorem dX9_roll_148 : decode cX9_roll 148 = .ok (.iload 4, 2) := by decide +kernel
theorem dX9_roll_150 : decode cX9_roll 150 = .ok (.iaload, 1) := by decide +kernel
theorem dX9_roll_151 : decode cX9_roll 151 = .ok (.iastore, 1) := by decide +kernel
theorem dX9_roll_152 : decode cX9_roll 152 = .ok (.iinc 2 1, 3) := by decide +kernel
theorem dX9_roll_155 : decode cX9_roll 155 = .ok (.iinc 4 1, 3) := by decide +kernel
theorem dX9_roll_158 : decode cX9_roll 158 = .ok (.goto (-142), 3) := by decide +kernel
theorem dX9_roll_161 : decode cX9_roll 161 = .ok (.return_, 1) := by decide +kernel
theorem dX9_begin_0 : decode cX9_begin 0 = .ok (.bipush 12, 2) := by decide +kernel
theorem dX9_begin_2 : decode cX9_begin 2 = .ok (.aload_n 0, 1) := by decide +kernel
theorem dX9_begin_3 : decode cX9_begin 3 = .ok (.getfield 3, 3) := by decide +kernel
theorem dX9_begin_6 : decode cX9_begin 6 = .ok (.getfield 116, 3) := by decide +kernel
theorem dX9_begin_9 : decode cX9_begin 9 = .ok (.iload_n 1, 1) := by decide +kernel
theorem dX9_begin_10 : decode cX9_begin 10 = .ok (.iaload, 1) := by decide +kernel
theorem dX9_begin_11 : decode cX9_begin 11 = .ok (.imul, 1) := by decide +kernel
theorem dX9_begin_12 : decode cX9_begin 12 = .ok (.istore_n 2, 1) := by decide +kernel
theorem dX9_begin_13 : decode cX9_begin 13 = .ok (.iload_n 2, 1) := by decide +kernel
theorem dX9_begin_14 : decode cX9_begin 14 = .ok (.istore_n 3, 1) := by decide +kernel
theorem dX9_begin_15 : decode cX9_begin 15 = .ok (.iload_n 3, 1) := by decide +kernel
theorem dX9_begin_16 : decode cX9_begin 16 = .ok (.iload_n 2, 1) := by decide +kernel
theorem dX9_begin_17 : decode cX9_begin 17 = .ok (.aload_n 0, 1) := by decide +kernel
theorem dX9_begin_18 : decode cX9_begin 18 = .ok (.getfield 34, 3) := by decide +kernel
theorem dX9_begin_21 : decode cX9_begin 21 = .ok (.aload_n 0, 1) := by decide +kernel
theorem dX9_begin_22 : decode cX9_begin 22 = .ok (.getfield 3, 3) := by decide +kernel
theorem dX9_begin_25 : decode cX9_begin 25 = .ok (.getfield 116, 3) := by decide +kernel
theorem dX9_begin_28 : decode cX9_begin 28 = .ok (.iload_n 1, 1) := by decide +kernel
theorem dX9_begin_29 : decode cX9_begin 29 = .ok (.iaload, 1) := by decide +kernel
theorem dX9_begin_30 : decode cX9_begin 30 = .ok (.iaload, 1) := by decide +kernel
theorem dX9_begin_31 : decode cX9_begin 31 = .ok (.iadd, 1) := by decide +kernel
theorem dX9_begin_32 : decode cX9_begin 32 = .ok (.if_icmp .ge 202, 3) := by decide +kernel
theorem dX9_begin_35 : decode cX9_begin 35 = .ok (.aload_n 0, 1) := by decide +kernel
theorem dX9_begin_36 : decode cX9_begin 36 = .ok (.getfield 37, 3) := by decide +kernel
theorem dX9_begin_39 : decode cX9_begin 39 = .ok (.iload_n 3, 1) := by decide +kernel
theorem dX9_begin_40 : decode cX9_begin 40 = .ok (.iaload, 1) := by decide +kernel
theorem dX9_begin_41 : decode cX9_begin 41 = .ok (.istore 4, 2) := by decide +kernel
theorem dX9_begin_43 : decode cX9_begin 43 = .ok (.aload_n 0, 1) := by decide +kernel
theorem dX9_begin_44 : decode cX9_begin 44 = .ok (.getfield 3, 3) := by decide +kernel
theorem dX9_begin_47 : decode cX9_begin 47 = .ok (.aload_n 0, 1) := by decide +kernel
theorem dX9_begin_48 : decode cX9_begin 48 = .ok (.getfield 3, 3) := by decide +kernel
theorem dX9_begin_51 : decode cX9_begin 51 = .ok (.getfield 116, 3) := by decide +kernel
theorem dX9_begin_54 : decode cX9_begin 54 = .ok (.iload_n 1, 1) := by decide +kernel
theorem dX9_begin_55 : decode cX9_begin 55 = .ok (.iaload, 1) := by decide +kernel
theorem dX9_begin_56 : decode cX9_begin 56 = .ok (.aload_n 0, 1) := by decide +kernel
theorem dX9_begin_57 : decode cX9_begin 57 = .ok (.getfield 3, 3) := by decide +kernel
theorem dX9_begin_60 : decode cX9_begin 60 = .ok (.getfield 72, 3) := by decide +kernel
theorem dX9_begin_63 : decode cX9_begin 63 = .ok (.iload 4, 2) := by decide +kernel
theorem dX9_begin_65 : decode cX9_begin 65 = .ok (.iaload, 1) := by decide +kernel
theorem dX9_begin_66 : decode cX9_begin 66 = .ok (.aload_n 0, 1) := by decide +kernel
theorem dX9_begin_67 : decode cX9_begin 67 = .ok (.getfield 3, 3) := by decide +kernel
theorem dX9_begin_70 : decode cX9_begin 70 = .ok (.getfield 93, 3) := by decide +kernel
theorem dX9_begin_73 : decode cX9_begin 73 = .ok (.iload 4, 2) := by decide +kernel
theorem dX9_begin_75 : decode cX9_begin 75 = .ok (.iaload, 1) := by decide +kernel
theorem dX9_begin_76 : decode cX9_begin 76 = .ok (.invokevirtual 119, 3) := by decide +kernel
theorem dX9_begin_79 : decode cX9_begin 79 = .ok (.iload_n 1, 1) := by decide +kernel
theorem dX9_begin_80 : decode cX9_begin 80 = .ok (.if_icmp .eq 6, 3) := by decide +kernel
theorem dX9_begin_83 : decode cX9_begin 83 = .ok (.goto 145, 3) := by decide +kernel
theorem dX9_begin_86 : decode cX9_begin 86 = .ok (.aload_n 0, 1) := by decide +kernel
theorem dX9_begin_87 : decode cX9_begin 87 = .ok (.iload 4, 2) := by decide +kernel
theorem dX9_begin_89 : decode cX9_begin 89 = .ok (.invokevirtual 103, 3) := by decide +kernel
theorem dX9_begin_92 : decode cX9_begin 92 = .ok (.aload_n 0, 1) := by decide +kernel
theorem dX9_begin_93 : decode cX9_begin 93 = .ok (.getfield 40, 3) := by decide +kernel
theorem dX9_begin_96 : decode cX9_begin 96 = .ok (.iload 4, 2) := by decide +kernel
theorem dX9_begin_98 : decode cX9_begin 98 = .ok (.iconst 1, 1) := by decide +kernel
theorem dX9_begin_99 : decode cX9_begin 99 = .ok (.iastore, 1) := by decide +kernel
theorem dX9_begin_100 : decode cX9_begin 100 = .ok (.aload_n 0, 1) := by decide +kernel
theorem dX9_begin_101 : decode cX9_begin 101 = .ok (.getfield 43, 3) := by decide +kernel
theorem dX9_begin_104 : decode cX9_begin 104 = .ok (.iload 4, 2) := by decide +kernel
theorem dX9_begin_106 : decode cX9_begin 106 = .ok (.iload_n 1, 1) := by decide +kernel
theorem dX9_begin_107 : decode cX9_begin 107 = .ok (.iastore, 1) := by decide +kernel
theorem dX9_begin_108 : decode cX9_begin 108 = .ok (.aload_n 0, 1) := by decide +kernel
theorem dX9_begin_109 : decode cX9_begin 109 = .ok (.getfield 49, 3) := by decide +kernel
theorem dX9_begin_112 : decode cX9_begin 112 = .ok (.iload 4, 2) := by decide +kernel
theorem dX9_begin_114 : decode cX9_begin 114 = .ok (.dup2, 1) := by decide +kernel
theorem dX9_begin_115 : decode cX9_begin 115 = .ok (.iaload, 1) := by decide +kernel
theorem dX9_begin_116 : decode cX9_begin 116 = .ok (.iconst 1, 1) := by decide +kernel
theorem dX9_begin_117 : decode cX9_begin 117 = .ok (.iadd, 1) := by decide +kernel
theorem dX9_begin_118 : decode cX9_begin 118 = .ok (.iastore, 1) := by decide +kernel
theorem dX9_begin_119 : decode cX9_begin 119 = .ok (.aload_n 0, 1) := by decide +kernel
theorem dX9_begin_120 : decode cX9_begin 120 = .ok (.getfield 22, 3) := by decide +kernel
theorem dX9_begin_123 : decode cX9_begin 123 = .ok (.iconst 3, 1) := by decide +kernel
theorem dX9_begin_124 : decode cX9_begin 124 = .ok (.iload_n 1, 1) := by decide +kernel
theorem dX9_begin_125 : decode cX9_begin 125 = .ok (.imul, 1) := by decide +kernel
theorem dX9_begin_126 : decode cX9_begin 126 = .ok (.aload_n 0, 1) := by decide +kernel
theorem dX9_begin_127 : decode cX9_begin 127 = .ok (.getfield 19, 3) := by decide +kernel
theorem dX9_begin_130 : decode cX9_begin 130 = .ok (.iload_n 1, 1) := by decide +kernel
theorem dX9_begin_131 : decode cX9_begin 131 = .ok (.iaload, 1) := by decide +kernel
theorem dX9_begin_132 : decode cX9_begin 132 = .ok (.iadd, 1) := by decide +kernel
theorem dX9_begin_133 : decode cX9_begin 133 = .ok (.iload 4, 2) := by decide +kernel
theorem dX9_begin_135 : decode cX9_begin 135 = .ok (.iastore, 1) := by decide +kernel
theorem dX9_begin_136 : decode cX9_begin 136 = .ok (.aload_n 0, 1) := by decide +kernel
theorem dX9_begin_137 : decode cX9_begin 137 = .ok (.getfield 25, 3) := by decide +kernel
theorem dX9_begin_140 : decode cX9_begin 140 = .ok (.iconst 3, 1) := by decide +kernel
theorem dX9_begin_141 : decode cX9_begin 141 = .ok (.iload_n 1, 1) := by decide +kernel
theorem dX9_begin_142 : decode cX9_begin 142 = .ok (.imul, 1) := by decide +kernel
theorem dX9_begin_143 : decode cX9_begin 143 = .ok (.aload_n 0, 1) := by decide +kernel
theorem dX9_begin_144 : decode cX9_begin 144 = .ok (.getfield 19, 3) := by decide +kernel
theorem dX9_begin_147 : decode cX9_begin 147 = .ok (.iload_n 1, 1) := by decide +kernel
theorem dX9_begin_148 : decode cX9_begin 148 = .ok (.iaload, 1) := by decide +kernel
theorem dX9_begin_149 : decode cX9_begin 149 = .ok (.iadd, 1) := by decide +kernel
theorem dX9_begin_150 : decode cX9_begin 150 = .ok (.aload_n 0, 1) := by decide +kernel
theorem dX9_begin_151 : decode cX9_begin 151 = .ok (.getfield 3, 3) := by decide +kernel
theorem dX9_begin_154 : decode cX9_begin 154 = .ok (.iload_n 1, 1) := by decide +kernel
theorem dX9_begin_155 : decode cX9_begin 155 = .ok (.aload_n 0, 1) := by decide +kernel
theorem dX9_begin_156 : decode cX9_begin 156 = .ok (.getfield 3, 3) := by decide +kernel
theorem dX9_begin_159 : decode cX9_begin 159 = .ok (.getfield 93, 3) := by decide +kernel
theorem dX9_begin_162 : decode cX9_begin 162 = .ok (.iload 4, 2) := by decide +kernel
theorem dX9_begin_164 : decode cX9_begin 164 = .ok (.iaload, 1) := by decide +kernel
theorem dX9_begin_165 : decode cX9_begin 165 = .ok (.invokevirtual 122, 3) := by decide +kernel
theorem dX9_begin_168 : decode cX9_begin 168 = .ok (.invokestatic 126, 3) := by decide +kernel
theorem dX9_begin_171 : decode cX9_begin 171 = .ok (.iastore, 1) := by decide +kernel
theorem dX9_begin_172 : decode cX9_begin 172 = .ok (.aload_n 0, 1) := by decide +kernel
theorem dX9_begin_173 : decode cX9_begin 173 = .ok (.getfield 19, 3) := by decide +kernel
theorem dX9_begin_176 : decode cX9_begin 176 = .ok (.iload_n 1, 1) := by decide +kernel
theorem dX9_begin_177 : decode cX9_begin 177 = .ok (.dup2, 1) := by decide +kernel
theorem dX9_begin_178 : decode cX9_begin 178 = .ok (.iaload, 1) := by decide +kernel
theorem dX9_begin_179 : decode cX9_begin 179 = .ok (.iconst 1, 1) := by decide +kernel
theorem dX9_begin_180 : decode cX9_begin 180 = .ok (.iadd, 1) := by decide +kernel
theorem dX9_begin_181 : decode cX9_begin 181 = .ok (.iastore, 1) := by decide +kernel
theorem dX9_begin_182 : decode cX9_begin 182 = .ok (.aload_n 0, 1) := by decide +kernel
theorem dX9_begin_183 : decode cX9_begin 183 = .ok (.getfield 28, 3) := by decide +kernel
theorem dX9_begin_186 : decode cX9_begin 186 = .ok (.iload_n 1, 1) := by decide +kernel
theorem dX9_begin_187 : decode cX9_begin 187 = .ok (.dup2, 1) := by decide +kernel
theorem dX9_begin_188 : decode cX9_begin 188 = .ok (.iaload, 1) := by decide +kernel
theorem dX9_begin_189 : decode cX9_begin 189 = .ok (.iconst 1, 1) := by decide +kernel
theorem dX9_begin_190 : decode cX9_begin 190 = .ok (.iadd, 1) := by decide +kernel
theorem dX9_begin_191 : decode cX9_begin 191 = .ok (.iastore, 1) := by decide +kernel
theorem dX9_begin_192 : decode cX9_begin 192 = .ok (.aload_n 0, 1) := by decide +kernel
theorem dX9_begin_193 : decode cX9_begin 193 = .ok (.getfield 31, 3) := by decide +kernel
theorem dX9_begin_196 : decode cX9_begin 196 = .ok (.iload_n 1, 1) := by decide +kernel
theorem dX9_begin_197 : decode cX9_begin 197 = .ok (.dup2, 1) := by decide +kernel
theorem dX9_begin_198 : decode cX9_begin 198 = .ok (.iaload, 1) := by decide +kernel
theorem dX9_begin_199 : decode cX9_begin 199 = .ok (.aload_n 0, 1) := by decide +kernel
theorem dX9_begin_200 : decode cX9_begin 200 = .ok (.getfield 3, 3) := by decide +kernel
theorem dX9_begin_203 : decode cX9_begin 203 = .ok (.iload_n 1, 1) := by decide +kernel
theorem dX9_begin_204 : decode cX9_begin 204 = .ok (.aload_n 0, 1) := by decide +kernel
theorem dX9_begin_205 : decode cX9_begin 205 = .ok (.getfield 3, 3) := by decide +kernel
theorem dX9_begin_208 : decode cX9_begin 208 = .ok (.getfield 93, 3) := by decide +kernel
theorem dX9_begin_211 : decode cX9_begin 211 = .ok (.iload 4, 2) := by decide +kernel
theorem dX9_begin_213 : decode cX9_begin 213 = .ok (.iaload, 1) := by decide +kernel
theorem dX9_begin_214 : decode cX9_begin 214 = .ok (.invokevirtual 122, 3) := by decide +kernel
theorem dX9_begin_217 : decode cX9_begin 217 = .ok (.ifCond .ge 7, 3) := by decide +kernel
theorem dX9_begin_220 : decode cX9_begin 220 = .ok (.iconst 1, 1) := by decide +kernel
theorem dX9_begin_221 : decode cX9_begin 221 = .ok (.goto 4, 3) := by decide +kernel
theorem dX9_begin_224 : decode cX9_begin 224 = .ok (.iconst 0, 1) := by decide +kernel
theorem dX9_begin_225 : decode cX9_begin 225 = .ok (.iadd, 1) := by decide +kernel
theorem dX9_begin_226 : decode cX9_begin 226 = .ok (.iastore, 1) := by decide +kernel
theorem dX9_begin_227 : decode cX9_begin 227 = .ok (.return_, 1) := by decide +kernel
theorem dX9_begin_228 : decode cX9_begin 228 = .ok (.iinc 3 1, 3) := by decide +kernel
theorem dX9_begin_231 : decode cX9_begin 231 = .ok (.goto (-216), 3) := by decide +kernel
theorem dX9_begin_234 : decode cX9_begin 234 = .ok (.return_, 1) := by decide +kernel
theorem dX9_leftOf_0 : decode cX9_leftOf 0 = .ok (.iconst 0, 1) := by decide +kernel
theorem dX9_leftOf_1 : decode cX9_leftOf 1 = .ok (.istore_n 2, 1) := by decide +kernel
theorem dX9_leftOf_2 : decode cX9_leftOf 2 = .ok (.iload_n 2, 1) := by decide +kernel
theorem dX9_leftOf_3 : decode cX9_leftOf 3 = .ok (.bipush 36, 2) := by decide +kernel
theorem dX9_leftOf_5 : decode cX9_leftOf 5 = .ok (.if_icmp .ge 40, 3) := by decide +kernel
theorem dX9_leftOf_8 : decode cX9_leftOf 8 = .ok (.iload_n 2, 1) := by decide +kernel
theorem dX9_leftOf_9 : decode cX9_leftOf 9 = .ok (.iconst 3, 1) := by decide +kernel
theorem dX9_leftOf_10 : decode cX9_leftOf 10 = .ok (.irem, 1) := by decide +kernel
theorem dX9_leftOf_11 : decode cX9_leftOf 11 = .ok (.aload_n 0, 1) := by decide +kernel
theorem dX9_leftOf_12 : decode cX9_leftOf 12 = .ok (.getfield 19, 3) := by decide +kernel
theorem dX9_leftOf_15 : decode cX9_leftOf 15 = .ok (.iload_n 2, 1) := by decide +kernel
theorem dX9_leftOf_16 : decode cX9_leftOf 16 = .ok (.iconst 3, 1) := by decide +kernel
theorem dX9_leftOf_17 : decode cX9_leftOf 17 = .ok (.idiv, 1) := by decide +kernel
theorem dX9_leftOf_18 : decode cX9_leftOf 18 = .ok (.iaload, 1) := by decide +kernel
theorem dX9_leftOf_19 : decode cX9_leftOf 19 = .ok (.if_icmp .ge 20, 3) := by decide +kernel
theorem dX9_leftOf_22 : decode cX9_leftOf 22 = .ok (.aload_n 0, 1) := by decide +kernel
theorem dX9_leftOf_23 : decode cX9_leftOf 23 = .ok (.getfield 22, 3) := by decide +kernel
theorem dX9_leftOf_26 : decode cX9_leftOf 26 = .ok (.iload_n 2, 1) := by decide +kernel
theorem dX9_leftOf_27 : decode cX9_leftOf 27 = .ok (.iaload, 1) := by decide +kernel
theorem dX9_leftOf_28 : decode cX9_leftOf 28 = .ok (.iload_n 1, 1) := by decide +kernel
theorem dX9_leftOf_29 : decode cX9_leftOf 29 = .ok (.if_icmp .ne 10, 3) := by decide +kernel
theorem dX9_leftOf_32 : decode cX9_leftOf 32 = .ok (.aload_n 0, 1) := by decide +kernel
theorem dX9_leftOf_33 : decode cX9_leftOf 33 = .ok (.getfield 25, 3) := by decide +kernel
theorem dX9_leftOf_36 : decode cX9_leftOf 36 = .ok (.iload_n 2, 1) := by decide +kernel
theorem dX9_leftOf_37 : decode cX9_leftOf 37 = .ok (.iaload, 1) := by decide +kernel
theorem dX9_leftOf_38 : decode cX9_leftOf 38 = .ok (.ireturn, 1) := by decide +kernel
theorem dX9_leftOf_39 : decode cX9_leftOf 39 = .ok (.iinc 2 1, 3) := by decide +kernel
theorem dX9_leftOf_42 : decode cX9_leftOf 42 = .ok (.goto (-40), 3) := by decide +kernel
theorem dX9_leftOf_45 : decode cX9_leftOf 45 = .ok (.iconst 0, 1) := by decide +kernel
theorem dX9_leftOf_46 : decode cX9_leftOf 46 = .ok (.ireturn, 1) := by decide +kernel
theorem dX9_riding_0 : decode cX9_riding 0 = .ok (.iconst 0, 1) := by decide +kernel
theorem dX9_riding_1 : decode cX9_riding 1 = .ok (.istore_n 2, 1) := by decide +kernel
theorem dX9_riding_2 : decode cX9_riding 2 = .ok (.iconst 3, 1) := by decide +kernel
theorem dX9_riding_3 : decode cX9_riding 3 = .ok (.iload_n 1, 1) := by decide +kernel
theorem dX9_riding_4 : decode cX9_riding 4 = .ok (.imul, 1) := by decide +kernel
theorem dX9_riding_5 : decode cX9_riding 5 = .ok (.istore_n 3, 1) := by decide +kernel
theorem dX9_riding_6 : decode cX9_riding 6 = .ok (.iload_n 3, 1) := by decide +kernel
theorem dX9_riding_7 : decode cX9_riding 7 = .ok (.iconst 3, 1) := by decide +kernel
theorem dX9_riding_8 : decode cX9_riding 8 = .ok (.iload_n 1, 1) := by decide +kernel
theorem dX9_riding_9 : decode cX9_riding 9 = .ok (.imul, 1) := by decide +kernel
theorem dX9_riding_10 : decode cX9_riding 10 = .ok (.aload_n 0, 1) := by decide +kernel
theorem dX9_riding_11 : decode cX9_riding 11 = .ok (.getfield 19, 3) := by decide +kernel
theorem dX9_riding_14 : decode cX9_riding 14 = .ok (.iload_n 1, 1) := by decide +kernel
theorem dX9_riding_15 : decode cX9_riding 15 = .ok (.iaload, 1) := by decide +kernel
theorem dX9_riding_16 : decode cX9_riding 16 = .ok (.iadd, 1) := by decide +kernel
theorem dX9_riding_17 : decode cX9_riding 17 = .ok (.if_icmp .ge 27, 3) := by decide +kernel
theorem dX9_riding_20 : decode cX9_riding 20 = .ok (.iload_n 2, 1) := by decide +kernel
theorem dX9_riding_21 : decode cX9_riding 21 = .ok (.aload_n 0, 1) := by decide +kernel
theorem dX9_riding_22 : decode cX9_riding 22 = .ok (.getfield 22, 3) := by decide +kernel
theorem dX9_riding_25 : decode cX9_riding 25 = .ok (.iload_n 3, 1) := by decide +kernel
theorem dX9_riding_26 : decode cX9_riding 26 = .ok (.iaload, 1) := by decide +kernel
theorem dX9_riding_27 : decode cX9_riding 27 = .ok (.iconst (-1), 1) := by decide +kernel
theorem dX9_riding_28 : decode cX9_riding 28 = .ok (.if_icmp .ne 7, 3) := by decide +kernel
theorem dX9_riding_31 : decode cX9_riding 31 = .ok (.iconst 0, 1) := by decide +kernel
theorem dX9_riding_32 : decode cX9_riding 32 = .ok (.goto 4, 3) := by decide +kernel
theorem dX9_riding_35 : decode cX9_riding 35 = .ok (.iconst 1, 1) := by decide +kernel
theorem dX9_riding_36 : decode cX9_riding 36 = .ok (.iadd, 1) := by decide +kernel
theorem dX9_riding_37 : decode cX9_riding 37 = .ok (.istore_n 2, 1) := by decide +kernel
theorem dX9_riding_38 : decode cX9_riding 38 = .ok (.iinc 3 1, 3) := by decide +kernel
theorem dX9_riding_41 : decode cX9_riding 41 = .ok (.goto (-35), 3) := by decide +kernel
theorem dX9_riding_44 : decode cX9_riding 44 = .ok (.iload_n 2, 1) := by decide +kernel
theorem dX9_riding_45 : decode cX9_riding 45 = .ok (.ireturn, 1) := by decide +kernel
theorem dX10_init_0 : decode cX10_init 0 = .ok (.aload_n 0, 1) := by decide +kernel
theorem dX10_init_1 : decode cX10_init 1 = .ok (.invokespecial 1, 3) := by decide +kernel
theorem dX10_init_4 : decode cX10_init 4 = .ok (.aload_n 0, 1) := by decide +kernel
theorem dX10_init_5 : decode cX10_init 5 = .ok (.bipush 8, 2) := by decide +kernel
theorem dX10_init_7 : decode cX10_init 7 = .ok (.newarray .int, 2) := by decide +kernel
theorem dX10_init_9 : decode cX10_init 9 = .ok (.putfield 9, 3) := by decide +kernel
theorem dX10_init_12 : decode cX10_init 12 = .ok (.aload_n 0, 1) := by decide +kernel
theorem dX10_init_13 : decode cX10_init 13 = .ok (.bipush 8, 2) := by decide +kernel
theorem dX10_init_15 : decode cX10_init 15 = .ok (.newarray .int, 2) := by decide +kernel
theorem dX10_init_17 : decode cX10_init 17 = .ok (.putfield 13, 3) := by decide +kernel
theorem dX10_init_20 : decode cX10_init 20 = .ok (.aload_n 0, 1) := by decide +kernel
theorem dX10_init_21 : decode cX10_init 21 = .ok (.bipush 8, 2) := by decide +kernel
theorem dX10_init_23 : decode cX10_init 23 = .ok (.newarray .int, 2) := by decide +kernel
theorem dX10_init_25 : decode cX10_init 25 = .ok (.putfield 16, 3) := by decide +kernel
theorem dX10_init_28 : decode cX10_init 28 = .ok (.aload_n 0, 1) := by decide +kernel
theorem dX10_init_29 : decode cX10_init 29 = .ok (.bipush 12, 2) := by decide +kernel
theorem dX10_init_31 : decode cX10_init 31 = .ok (.newarray .int, 2) := by decide +kernel
theorem dX10_init_33 : decode cX10_init 33 = .ok (.putfield 19, 3) := by decide +kernel
theorem dX10_init_36 : decode cX10_init 36 = .ok (.aload_n 0, 1) := by decide +kernel
theorem dX10_init_37 : decode cX10_init 37 = .ok (.bipush 12, 2) := by decide +kernel
theorem dX10_init_39 : decode cX10_init 39 = .ok (.newarray .int, 2) := by decide +kernel
theorem dX10_init_41 : decode cX10_init 41 = .ok (.putfield 22, 3) := by decide +kernel
theorem dX10_init_44 : decode cX10_init 44 = .ok (.aload_n 0, 1) := by decide +kernel
theorem dX10_init_45 : decode cX10_init 45 = .ok (.bipush 12, 2) := by decide +kernel
theorem dX10_init_47 : decode cX10_init 47 = .ok (.newarray .int, 2) := by decide +kernel
theorem dX10_init_49 : decode cX10_init 49 = .ok (.putfield 25, 3) := by decide +kernel
theorem dX10_init_52 : decode cX10_init 52 = .ok (.aload_n 0, 1) := by decide +kernel
theorem dX10_init_53 : decode cX10_init 53 = .ok (.bipush 12, 2) := by decide +kernel
theorem dX10_init_55 : decode cX10_init 55 = .ok (.newarray .int, 2) := by decide +kernel
theorem dX10_init_57 : decode cX10_init 57 = .ok (.putfield 28, 3) := by decide +kernel
theorem dX10_init_60 : decode cX10_init 60 = .ok (.aload_n 0, 1) := by decide +kernel
theorem dX10_init_61 : decode cX10_init 61 = .ok (.bipush 12, 2) := by decide +kernel
theorem dX10_init_63 : decode cX10_init 63 = .ok (.newarray .int, 2) := by decide +kernel
theorem dX10_init_65 : decode cX10_init 65 = .ok (.putfield 31, 3) := by decide +kernel
theorem dX10_init_68 : decode cX10_init 68 = .ok (.aload_n 0, 1) := by decide +kernel
theorem dX10_init_69 : decode cX10_init 69 = .ok (.bipush 12, 2) := by decide +kernel
theorem dX10_init_71 : decode cX10_init 71 = .ok (.newarray .int, 2) := by decide +kernel
theorem dX10_init_73 : decode cX10_init 73 = .ok (.putfield 34, 3) := by decide +kernel
theorem dX10_init_76 : decode cX10_init 76 = .ok (.aload_n 0, 1) := by decide +kernel
theorem dX10_init_77 : decode cX10_init 77 = .ok (.bipush 12, 2) := by decide +kernel
theorem dX10_init_79 : decode cX10_init 79 = .ok (.newarray .int, 2) := by decide +kernel
theorem dX10_init_81 : decode cX10_init 81 = .ok (.putfield 37, 3) := by decide +kernel
theorem dX10_init_84 : decode cX10_init 84 = .ok (.aload_n 0, 1) := by decide +kernel
theorem dX10_init_85 : decode cX10_init 85 = .ok (.new 40, 3) := by decide +kernel
theorem dX10_init_88 : decode cX10_init 88 = .ok (.dup, 1) := by decide +kernel
theorem dX10_init_89 : decode cX10_init 89 = .ok (.aload_n 0, 1) := by decide +kernel
theorem dX10_init_90 : decode cX10_init 90 = .ok (.invokespecial 42, 3) := by decide +kernel
theorem dX10_init_93 : decode cX10_init 93 = .ok (.putfield 45, 3) := by decide +kernel
theorem dX10_init_96 : decode cX10_init 96 = .ok (.aload_n 0, 1) := by decide +kernel
theorem dX10_init_97 : decode cX10_init 97 = .ok (.new 40, 3) := by decide +kernel
theorem dX10_init_100 : decode cX10_init 100 = .ok (.dup, 1) := by decide +kernel
theorem dX10_init_101 : decode cX10_init 101 = .ok (.aload_n 0, 1) := by decide +kernel
theorem dX10_init_102 : decode cX10_init 102 = .ok (.invokespecial 42, 3) := by decide +kernel
theorem dX10_init_105 : decode cX10_init 105 = .ok (.putfield 49, 3) := by decide +kernel
theorem dX10_init_108 : decode cX10_init 108 = .ok (.return_, 1) := by decide +kernel
theorem dX10_thrown_0 : decode cX10_thrown 0 = .ok (.aload_n 0, 1) := by decide +kernel
theorem dX10_thrown_1 : decode cX10_thrown 1 = .ok (.getfield 52, 3) := by decide +kernel
theorem dX10_thrown_4 : decode cX10_thrown 4 = .ok (.ireturn, 1) := by decide +kernel
theorem dX10_no_0 : decode cX10_no 0 = .ok (.aload_n 0, 1) := by decide +kernel
theorem dX10_no_1 : decode cX10_no 1 = .ok (.iload_n 1, 1) := by decide +kernel
theorem dX10_no_2 : decode cX10_no 2 = .ok (.putfield 52, 3) := by decide +kernel
theorem dX10_no_5 : decode cX10_no 5 = .ok (.iconst 0, 1) := by decide +kernel
theorem dX10_no_6 : decode cX10_no 6 = .ok (.ireturn, 1) := by decide +kernel
theorem dX10_isIn_0 : decode cX10_isIn 0 = .ok (.iload_n 0, 1) := by decide +kernel
theorem dX10_isIn_1 : decode cX10_isIn 1 = .ok (.iload_n 1, 1) := by decide +kernel
theorem dX10_isIn_2 : decode cX10_isIn 2 = .ok (.if_icmp .lt 12, 3) := by decide +kernel
theorem dX10_isIn_5 : decode cX10_isIn 5 = .ok (.iload_n 0, 1) := by decide +kernel
theorem dX10_isIn_6 : decode cX10_isIn 6 = .ok (.iload_n 2, 1) := by decide +kernel
theorem dX10_isIn_7 : decode cX10_isIn 7 = .ok (.if_icmp .gt 7, 3) := by decide +kernel
theorem dX10_isIn_10 : decode cX10_isIn 10 = .ok (.iconst 1, 1) := by decide +kernel
theorem dX10_isIn_11 : decode cX10_isIn 11 = .ok (.goto 4, 3) := by decide +kernel
theorem dX10_isIn_14 : decode cX10_isIn 14 = .ok (.iconst 0, 1) := by decide +kernel
theorem dX10_isIn_15 : decode cX10_isIn 15 = .ok (.ireturn, 1) := by decide +kernel
theorem dX10_isPlatform_0 : decode cX10_isPlatform 0 = .ok (.iload_n 1, 1) := by decide +kernel
theorem dX10_isPlatform_1 : decode cX10_isPlatform 1 = .ok (.iconst 0, 1) := by decide +kernel
theorem dX10_isPlatform_2 : decode cX10_isPlatform 2 = .ok (.aload_n 0, 1) := by decide +kernel
theorem dX10_isPlatform_3 : decode cX10_isPlatform 3 = .ok (.getfield 56, 3) := by decide +kernel
theorem dX10_isPlatform_6 : decode cX10_isPlatform 6 = .ok (.iconst 1, 1) := by decide +kernel
theorem dX10_isPlatform_7 : decode cX10_isPlatform 7 = .ok (.isub, 1) := by decide +kernel
theorem dX10_isPlatform_8 : decode cX10_isPlatform 8 = .ok (.invokestatic 59, 3) := by decide +kernel
theorem dX10_isPlatform_11 : decode cX10_isPlatform 11 = .ok (.ireturn, 1) := by decide +kernel
theorem dX10_isLine_0 : decode cX10_isLine 0 = .ok (.iload_n 1, 1) := by decide +kernel
theorem dX10_isLine_1 : decode cX10_isLine 1 = .ok (.iconst 0, 1) := by decide +kernel
theorem dX10_isLine_2 : decode cX10_isLine 2 = .ok (.aload_n 0, 1) := by decide +kernel
theorem dX10_isLine_3 : decode cX10_isLine 3 = .ok (.getfield 63, 3) := by decide +kernel
theorem dX10_isLine_6 : decode cX10_isLine 6 = .ok (.iconst 1, 1) := by decide +kernel
theorem dX10_isLine_7 : decode cX10_isLine 7 = .ok (.isub, 1) := by decide +kernel
theorem dX10_isLine_8 : decode cX10_isLine 8 = .ok (.invokestatic 59, 3) := by decide +kernel
theorem dX10_isLine_11 : decode cX10_isLine 11 = .ok (.ireturn, 1) := by decide +kernel
theorem dX10_lengthOf_0 : decode cX10_lengthOf 0 = .ok (.aload_n 0, 1) := by decide +kernel
theorem dX10_lengthOf_1 : decode cX10_lengthOf 1 = .ok (.getfield 9, 3) := by decide +kernel
theorem dX10_lengthOf_4 : decode cX10_lengthOf 4 = .ok (.aload_n 0, 1) := by decide +kernel
theorem dX10_lengthOf_5 : decode cX10_lengthOf 5 = .ok (.getfield 19, 3) := by decide +kernel
theorem dX10_lengthOf_8 : decode cX10_lengthOf 8 = .ok (.iload_n 1, 1) := by decide +kernel
theorem dX10_lengthOf_9 : decode cX10_lengthOf 9 = .ok (.iaload, 1) := by decide +kernel
theorem dX10_lengthOf_10 : decode cX10_lengthOf 10 = .ok (.iaload, 1) := by decide +kernel
theorem dX10_lengthOf_11 : decode cX10_lengthOf 11 = .ok (.aload_n 0, 1) := by decide +kernel
theorem dX10_lengthOf_12 : decode cX10_lengthOf 12 = .ok (.getfield 9, 3) := by decide +kernel
theorem dX10_lengthOf_15 : decode cX10_lengthOf 15 = .ok (.aload_n 0, 1) := by decide +kernel
theorem dX10_lengthOf_16 : decode cX10_lengthOf 16 = .ok (.getfield 22, 3) := by decide +kernel
theorem dX10_lengthOf_19 : decode cX10_lengthOf 19 = .ok (.iload_n 1, 1) := by decide +kernel
theorem dX10_lengthOf_20 : decode cX10_lengthOf 20 = .ok (.iaload, 1) := by decide +kernel
theorem dX10_lengthOf_21 : decode cX10_lengthOf 21 = .ok (.iaload, 1) := by decide +kernel
theorem dX10_lengthOf_22 : decode cX10_lengthOf 22 = .ok (.isub, 1) := by decide +kernel
theorem dX10_lengthOf_23 : decode cX10_lengthOf 23 = .ok (.invokestatic 66, 3) := by decide +kernel
theorem dX10_lengthOf_26 : decode cX10_lengthOf 26 = .ok (.aload_n 0, 1) := by decide +kernel
theorem dX10_lengthOf_27 : decode cX10_lengthOf 27 = .ok (.getfield 13, 3) := by decide +kernel
theorem dX10_lengthOf_30 : decode cX10_lengthOf 30 = .ok (.aload_n 0, 1) := by decide +kernel
theorem dX10_lengthOf_31 : decode cX10_lengthOf 31 = .ok (.getfield 19, 3) := by decide +kernel
theorem dX10_lengthOf_34 : decode cX10_lengthOf 34 = .ok (.iload_n 1, 1) := by decide +kernel
theorem dX10_lengthOf_35 : decode cX10_lengthOf 35 = .ok (.iaload, 1) := by decide +kernel
theorem dX10_lengthOf_36 : decode cX10_lengthOf 36 = .ok (.iaload, 1) := by decide +kernel
theorem dX10_lengthOf_37 : decode cX10_lengthOf 37 = .ok (.aload_n 0, 1) := by decide +kernel
theorem dX10_lengthOf_38 : decode cX10_lengthOf 38 = .ok (.getfield 13, 3) := by decide +kernel
theorem dX10_lengthOf_41 : decode cX10_lengthOf 41 = .ok (.aload_n 0, 1) := by decide +kernel
theorem dX10_lengthOf_42 : decode cX10_lengthOf 42 = .ok (.getfield 22, 3) := by decide +kernel
theorem dX10_lengthOf_45 : decode cX10_lengthOf 45 = .ok (.iload_n 1, 1) := by decide +kernel
theorem dX10_lengthOf_46 : decode cX10_lengthOf 46 = .ok (.iaload, 1) := by decide +kernel
theorem dX10_lengthOf_47 : decode cX10_lengthOf 47 = .ok (.iaload, 1) := by decide +kernel
theorem dX10_lengthOf_48 : decode cX10_lengthOf 48 = .ok (.isub, 1) := by decide +kernel
theorem dX10_lengthOf_49 : decode cX10_lengthOf 49 = .ok (.invokestatic 66, 3) := by decide +kernel
theorem dX10_lengthOf_52 : decode cX10_lengthOf 52 = .ok (.iadd, 1) := by decide +kernel
theorem dX10_lengthOf_53 : decode cX10_lengthOf 53 = .ok (.ireturn, 1) := by decide +kernel
theorem dX10_dropOf_0 : decode cX10_dropOf 0 = .ok (.aload_n 0, 1) := by decide +kernel
theorem dX10_dropOf_1 : decode cX10_dropOf 1 = .ok (.getfield 16, 3) := by decide +kernel
theorem dX10_dropOf_4 : decode cX10_dropOf 4 = .ok (.aload_n 0, 1) := by decide +kernel
theorem dX10_dropOf_5 : decode cX10_dropOf 5 = .ok (.getfield 19, 3) := by decide +kernel
theorem dX10_dropOf_8 : decode cX10_dropOf 8 = .ok (.iload_n 1, 1) := by decide +kernel
theorem dX10_dropOf_9 : decode cX10_dropOf 9 = .ok (.iaload, 1) := by decide +kernel
theorem dX10_dropOf_10 : decode cX10_dropOf 10 = .ok (.iaload, 1) := by decide +kernel
theorem dX10_dropOf_11 : decode cX10_dropOf 11 = .ok (.aload_n 0, 1) := by decide +kernel
theorem dX10_dropOf_12 : decode cX10_dropOf 12 = .ok (.getfield 16, 3) := by decide +kernel
theorem dX10_dropOf_15 : decode cX10_dropOf 15 = .ok (.aload_n 0, 1) := by decide +kernel
theorem dX10_dropOf_16 : decode cX10_dropOf 16 = .ok (.getfield 22, 3) := by decide +kernel
theorem dX10_dropOf_19 : decode cX10_dropOf 19 = .ok (.iload_n 1, 1) := by decide +kernel
theorem dX10_dropOf_20 : decode cX10_dropOf 20 = .ok (.iaload, 1) := by decide +kernel
theorem dX10_dropOf_21 : decode cX10_dropOf 21 = .ok (.iaload, 1) := by decide +kernel
theorem dX10_dropOf_22 : decode cX10_dropOf 22 = .ok (.isub, 1) := by decide +kernel
theorem dX10_dropOf_23 : decode cX10_dropOf 23 = .ok (.ireturn, 1) := by decide +kernel
theorem dX10_isClosed_0 : decode cX10_isClosed 0 = .ok (.aload_n 0, 1) := by decide +kernel
theorem dX10_isClosed_1 : decode cX10_isClosed 1 = .ok (.iload_n 1, 1) := by decide +kernel
theorem dX10_isClosed_2 : decode cX10_isClosed 2 = .ok (.invokevirtual 72, 3) := by decide +kernel
theorem dX10_isClosed_5 : decode cX10_isClosed 5 = .ok (.bipush 80, 2) := by decide +kernel
theorem dX10_isClosed_7 : decode cX10_isClosed 7 = .ok (.bipush 8, 2) := by decide +kernel
theorem dX10_isClosed_9 : decode cX10_isClosed 9 = .ok (.aload_n 0, 1) := by decide +kernel
theorem dX10_isClosed_10 : decode cX10_isClosed 10 = .ok (.getfield 28, 3) := by decide +kernel
theorem dX10_isClosed_13 : decode cX10_isClosed 13 = .ok (.iload_n 2, 1) := by decide +kernel
theorem dX10_isClosed_14 : decode cX10_isClosed 14 = .ok (.bipush 12, 2) := by decide +kernel
theorem dX10_isClosed_16 : decode cX10_isClosed 16 = .ok (.irem, 1) := by decide +kernel
theorem dX10_isClosed_17 : decode cX10_isClosed 17 = .ok (.iaload, 1) := by decide +kernel
theorem dX10_isClosed_18 : decode cX10_isClosed 18 = .ok (.imul, 1) := by decide +kernel
theorem dX10_isClosed_19 : decode cX10_isClosed 19 = .ok (.isub, 1) := by decide +kernel
theorem dX10_isClosed_20 : decode cX10_isClosed 20 = .ok (.if_icmp .le 7, 3) := by decide +kernel
theorem dX10_isClosed_23 : decode cX10_isClosed 23 = .ok (.iconst 1, 1) := by decide +kernel
theorem dX10_isClosed_24 : decode cX10_isClosed 24 = .ok (.goto 4, 3) := by decide +kernel
theorem dX10_isClosed_27 : decode cX10_isClosed 27 = .ok (.iconst 0, 1) := by decide +kernel
theorem dX10_isClosed_28 : decode cX10_isClosed 28 = .ok (.ireturn, 1) := by decide +kernel
theorem dX10_rideOf_0 : decode cX10_rideOf 0 = .ok (.aload_n 0, 1) := by decide +kernel
theorem dX10_rideOf_1 : decode cX10_rideOf 1 = .ok (.iload_n 1, 1) := by decide +kernel
theorem dX10_rideOf_2 : decode cX10_rideOf 2 = .ok (.invokevirtual 75, 3) := by decide +kernel
theorem dX10_rideOf_5 : decode cX10_rideOf 5 = .ok (.iload_n 2, 1) := by decide +kernel
theorem dX10_rideOf_6 : decode cX10_rideOf 6 = .ok (.bipush 10, 2) := by decide +kernel
theorem dX10_rideOf_8 : decode cX10_rideOf 8 = .ok (.idiv, 1) := by decide +kernel
theorem dX10_rideOf_9 : decode cX10_rideOf 9 = .ok (.iadd, 1) := by decide +kernel
theorem dX10_rideOf_10 : decode cX10_rideOf 10 = .ok (.istore_n 3, 1) := by decide +kernel
theorem dX10_rideOf_11 : decode cX10_rideOf 11 = .ok (.iconst 2, 1) := by decide +kernel
theorem dX10_rideOf_12 : decode cX10_rideOf 12 = .ok (.aload_n 0, 1) := by decide +kernel
theorem dX10_rideOf_13 : decode cX10_rideOf 13 = .ok (.iload_n 1, 1) := by decide +kernel
theorem dX10_rideOf_14 : decode cX10_rideOf 14 = .ok (.invokevirtual 72, 3) := by decide +kernel
theorem dX10_rideOf_17 : decode cX10_rideOf 17 = .ok (.imul, 1) := by decide +kernel
theorem dX10_rideOf_18 : decode cX10_rideOf 18 = .ok (.iload_n 3, 1) := by decide +kernel
theorem dX10_rideOf_19 : decode cX10_rideOf 19 = .ok (.iadd, 1) := by decide +kernel
theorem dX10_rideOf_20 : decode cX10_rideOf 20 = .ok (.iconst 1, 1) := by decide +kernel
theorem dX10_rideOf_21 : decode cX10_rideOf 21 = .ok (.isub, 1) := by decide +kernel
theorem dX10_rideOf_22 : decode cX10_rideOf 22 = .ok (.iload_n 3, 1) := by decide +kernel
theorem dX10_rideOf_23 : decode cX10_rideOf 23 = .ok (.idiv, 1) := by decide +kernel
theorem dX10_rideOf_24 : decode cX10_rideOf 24 = .ok (.istore 4, 2) := by decide +kernel
theorem dX10_rideOf_26 : decode cX10_rideOf 26 = .ok (.iload_n 2, 1) := by decide +kernel
theorem dX10_rideOf_27 : decode cX10_rideOf 27 = .ok (.aload_n 0, 1) := by decide +kernel
theorem dX10_rideOf_28 : decode cX10_rideOf 28 = .ok (.iload_n 1, 1) := by decide +kernel
theorem dX10_rideOf_29 : decode cX10_rideOf 29 = .ok (.invokevirtual 75, 3) := by decide +kernel
theorem dX10_rideOf_32 : decode cX10_rideOf 32 = .ok (.imul, 1) := by decide +kernel
theorem dX10_rideOf_33 : decode cX10_rideOf 33 = .ok (.bipush 10, 2) := by decide +kernel
theorem dX10_rideOf_35 : decode cX10_rideOf 35 = .ok (.aload_n 0, 1) := by decide +kernel
theorem dX10_rideOf_36 : decode cX10_rideOf 36 = .ok (.iload_n 1, 1) := by decide +kernel
theorem dX10_rideOf_37 : decode cX10_rideOf 37 = .ok (.invokevirtual 72, 3) := by decide +kernel
theorem dX10_rideOf_40 : decode cX10_rideOf 40 = .ok (.imul, 1) := by decide +kernel
theorem dX10_rideOf_41 : decode cX10_rideOf 41 = .ok (.if_icmp .ge 11, 3) := by decide +kernel
theorem dX10_rideOf_44 : decode cX10_rideOf 44 = .ok (.bipush (-2), 2) := by decide +kernel
theorem dX10_rideOf_46 : decode cX10_rideOf 46 = .ok (.iload 4, 2) := by decide +kernel
theorem dX10_rideOf_48 : decode cX10_rideOf 48 = .ok (.imul, 1) := by decide +kernel
theorem dX10_rideOf_49 : decode cX10_rideOf 49 = .ok (.goto 5, 3) := by decide +kernel
theorem dX10_rideOf_52 : decode cX10_rideOf 52 = .ok (.iload 4, 2) := by decide +kernel
theorem dX10_rideOf_54 : decode cX10_rideOf 54 = .ok (.ireturn, 1) := by decide +kernel
theorem dX10_fewest_0 : decode cX10_fewest 0 = .ok (.iload_n 1, 1) := by decide +kernel
theorem dX10_fewest_1 : decode cX10_fewest 1 = .ok (.iload_n 2, 1) := by decide +kernel
theorem dX10_fewest_2 : decode cX10_fewest 2 = .ok (.if_icmp .ne 5, 3) := by decide +kernel
theorem dX10_fewest_5 : decode cX10_fewest 5 = .ok (.iconst 0, 1) := by decide +kernel
theorem dX10_fewest_6 : decode cX10_fewest 6 = .ok (.ireturn, 1) := by decide +kernel
theorem dX10_fewest_7 : decode cX10_fewest 7 = .ok (.iconst (-1), 1) := by decide +kernel
theorem dX10_fewest_8 : decode cX10_fewest 8 = .ok (.istore 4, 2) := by decide +kernel
theorem dX10_fewest_10 : decode cX10_fewest 10 = .ok (.iconst 0, 1) := by decide +kernel
theorem dX10_fewest_11 : decode cX10_fewest 11 = .ok (.istore 5, 2) := by decide +kernel
theorem dX10_fewest_13 : decode cX10_fewest 13 = .ok (.iload 5, 2) := by decide +kernel
theorem dX10_fewest_15 : decode cX10_fewest 15 = .ok (.aload_n 0, 1) := by decide +kernel
theorem dX10_fewest_16 : decode cX10_fewest 16 = .ok (.getfield 63, 3) := by decide +kernel
theorem dX10_fewest_19 : decode cX10_fewest 19 = .ok (.if_icmp .ge 76, 3) := by decide +kernel
theorem dX10_fewest_22 : decode cX10_fewest 22 = .ok (.aload_n 0, 1) := by decide +kernel
theorem dX10_fewest_23 : decode cX10_fewest 23 = .ok (.getfield 19, 3) := by decide +kernel
theorem dX10_fewest_26 : decode cX10_fewest 26 = .ok (.iload 5, 2) := by decide +kernel
theorem dX10_fewest_28 : decode cX10_fewest 28 = .ok (.iaload, 1) := by decide +kernel
theorem dX10_fewest_29 : decode cX10_fewest 29 = .ok (.iload_n 1, 1) := by decide +kernel
theorem dX10_fewest_30 : decode cX10_fewest 30 = .ok (.if_icmp .ne 59, 3) := by decide +kernel
theorem dX10_fewest_33 : decode cX10_fewest 33 = .ok (.aload_n 0, 1) := by decide +kernel
theorem dX10_fewest_34 : decode cX10_fewest 34 = .ok (.getfield 25, 3) := by decide +kernel
theorem dX10_fewest_37 : decode cX10_fewest 37 = .ok (.iload 5, 2) := by decide +kernel
theorem dX10_fewest_39 : decode cX10_fewest 39 = .ok (.iaload, 1) := by decide +kernel
theorem dX10_fewest_40 : decode cX10_fewest 40 = .ok (.iload_n 3, 1) := by decide +kernel
theorem dX10_fewest_41 : decode cX10_fewest 41 = .ok (.if_icmp .ge 6, 3) := by decide +kernel
theorem dX10_fewest_44 : decode cX10_fewest 44 = .ok (.goto 45, 3) := by decide +kernel
theorem dX10_fewest_47 : decode cX10_fewest 47 = .ok (.aload_n 0, 1) := by decide +kernel
theorem dX10_fewest_48 : decode cX10_fewest 48 = .ok (.aload_n 0, 1) := by decide +kernel
theorem dX10_fewest_49 : decode cX10_fewest 49 = .ok (.getfield 22, 3) := by decide +kernel
theorem dX10_fewest_52 : decode cX10_fewest 52 = .ok (.iload 5, 2) := by decide +kernel
theorem dX10_fewest_54 : decode cX10_fewest 54 = .ok (.iaload, 1) := by decide +kernel
theorem dX10_fewest_55 : decode cX10_fewest 55 = .ok (.iload_n 2, 1) := by decide +kernel
theorem dX10_fewest_56 : decode cX10_fewest 56 = .ok (.iload_n 3, 1) := by decide +kernel
theorem dX10_fewest_57 : decode cX10_fewest 57 = .ok (.invokevirtual 78, 3) := by decide +kernel
theorem dX10_fewest_60 : decode cX10_fewest 60 = .ok (.istore 6, 2) := by decide +kernel
theorem dX10_fewest_62 : decode cX10_fewest 62 = .ok (.iload 6, 2) := by decide +kernel
theorem dX10_fewest_64 : decode cX10_fewest 64 = .ok (.iconst (-1), 1) := by decide +kernel
theorem dX10_fewest_65 : decode cX10_fewest 65 = .ok (.if_icmp .eq 24, 3) := by decide +kernel
theorem dX10_fewest_68 : decode cX10_fewest 68 = .ok (.iload 4, 2) := by decide +kernel
theorem dX10_fewest_70 : decode cX10_fewest 70 = .ok (.iconst (-1), 1) := by decide +kernel
theorem dX10_fewest_71 : decode cX10_fewest 71 = .ok (.if_icmp .eq 12, 3) := by decide +kernel
theorem dX10_fewest_74 : decode cX10_fewest 74 = .ok (.iload 6, 2) := by decide +kernel
theorem dX10_fewest_76 : decode cX10_fewest 76 = .ok (.iconst 1, 1) := by decide +kernel
theorem dX10_fewest_77 : decode cX10_fewest 77 = .ok (.iadd, 1) := by decide +kernel
theorem dX10_fewest_78 : decode cX10_fewest 78 = .ok (.iload 4, 2) := by decide +kernel
theorem dX10_fewest_80 : decode cX10_fewest 80 = .ok (.if_icmp .ge 9, 3) := by decide +kernel
theorem dX10_fewest_83 : decode cX10_fewest 83 = .ok (.iload 6, 2) := by decide +kernel
theorem dX10_fewest_85 : decode cX10_fewest 85 = .ok (.iconst 1, 1) := by decide +kernel
theorem dX10_fewest_86 : decode cX10_fewest 86 = .ok (.iadd, 1) := by decide +kernel
theorem dX10_fewest_87 : decode cX10_fewest 87 = .ok (.istore 4, 2) := by decide +kernel
theorem dX10_fewest_89 : decode cX10_fewest 89 = .ok (.iinc 5 1, 3) := by decide +kernel
theorem dX10_fewest_92 : decode cX10_fewest 92 = .ok (.goto (-79), 3) := by decide +kernel
theorem dX10_fewest_95 : decode cX10_fewest 95 = .ok (.iload 4, 2) := by decide +kernel
theorem dX10_fewest_97 : decode cX10_fewest 97 = .ok (.ireturn, 1) := by decide +kernel
theorem dX10_first_0 : decode cX10_first 0 = .ok (.aload_n 0, 1) := by decide +kernel
theorem dX10_first_1 : decode cX10_first 1 = .ok (.iload_n 1, 1) := by decide +kernel
theorem dX10_first_2 : decode cX10_first 2 = .ok (.iload_n 2, 1) := by decide +kernel
theorem dX10_first_3 : decode cX10_first 3 = .ok (.iload_n 3, 1) := by decide +kernel
theorem dX10_first_4 : decode cX10_first 4 = .ok (.invokevirtual 78, 3) := by decide +kernel
theorem dX10_first_7 : decode cX10_first 7 = .ok (.istore 4, 2) := by decide +kernel
theorem dX10_first_9 : decode cX10_first 9 = .ok (.iconst 0, 1) := by decide +kernel
theorem dX10_first_10 : decode cX10_first 10 = .ok (.istore 5, 2) := by decide +kernel
theorem dX10_first_12 : decode cX10_first 12 = .ok (.iload 5, 2) := by decide +kernel
theorem dX10_first_14 : decode cX10_first 14 = .ok (.aload_n 0, 1) := by decide +kernel
theorem dX10_first_15 : decode cX10_first 15 = .ok (.getfield 63, 3) := by decide +kernel
theorem dX10_first_18 : decode cX10_first 18 = .ok (.if_icmp .ge 59, 3) := by decide +kernel
theorem dX10_first_21 : decode cX10_first 21 = .ok (.iload 4, 2) := by decide +kernel
theorem dX10_first_23 : decode cX10_first 23 = .ok (.ifCond .le 54, 3) := by decide +kernel
theorem dX10_first_26 : decode cX10_first 26 = .ok (.aload_n 0, 1) := by decide +kernel
theorem dX10_first_27 : decode cX10_first 27 = .ok (.getfield 19, 3) := by decide +kernel
theorem dX10_first_30 : decode cX10_first 30 = .ok (.iload 5, 2) := by decide +kernel
theorem dX10_first_32 : decode cX10_first 32 = .ok (.iaload, 1) := by decide +kernel
theorem dX10_first_33 : decode cX10_first 33 = .ok (.iload_n 1, 1) := by decide +kernel
theorem dX10_first_34 : decode cX10_first 34 = .ok (.if_icmp .ne 37, 3) := by decide +kernel
theorem dX10_first_37 : decode cX10_first 37 = .ok (.aload_n 0, 1) := by decide +kernel
theorem dX10_first_38 : decode cX10_first 38 = .ok (.getfield 25, 3) := by decide +kernel
theorem dX10_first_41 : decode cX10_first 41 = .ok (.iload 5, 2) := by decide +kernel
theorem dX10_first_43 : decode cX10_first 43 = .ok (.iaload, 1) := by decide +kernel
theorem dX10_first_44 : decode cX10_first 44 = .ok (.iload_n 3, 1) := by decide +kernel
theorem dX10_first_45 : decode cX10_first 45 = .ok (.if_icmp .lt 26, 3) := by decide +kernel
theorem dX10_first_48 : decode cX10_first 48 = .ok (.aload_n 0, 1) := by decide +kernel
theorem dX10_first_49 : decode cX10_first 49 = .ok (.aload_n 0, 1) := by decide +kernel
theorem dX10_first_50 : decode cX10_first 50 = .ok (.getfield 22, 3) := by decide +kernel
theorem dX10_first_53 : decode cX10_first 53 = .ok (.iload 5, 2) := by decide +kernel
theorem dX10_first_55 : decode cX10_first 55 = .ok (.iaload, 1) := by decide +kernel
theorem dX10_first_56 : decode cX10_first 56 = .ok (.iload_n 2, 1) := by decide +kernel
theorem dX10_first_57 : decode cX10_first 57 = .ok (.iload_n 3, 1) := by decide +kernel
theorem dX10_first_58 : decode cX10_first 58 = .ok (.invokevirtual 78, 3) := by decide +kernel
theorem dX10_first_61 : decode cX10_first 61 = .ok (.iload 4, 2) := by decide +kernel
theorem dX10_first_63 : decode cX10_first 63 = .ok (.iconst 1, 1) := by decide +kernel
theorem dX10_first_64 : decode cX10_first 64 = .ok (.isub, 1) := by decide +kernel
theorem dX10_first_65 : decode cX10_first 65 = .ok (.if_icmp .ne 6, 3) := by decide +kernel
theorem dX10_first_68 : decode cX10_first 68 = .ok (.iload 5, 2) := by decide +kernel
theorem dX10_first_70 : decode cX10_first 70 = .ok (.ireturn, 1) := by decide +kernel
theorem dX10_first_71 : decode cX10_first 71 = .ok (.iinc 5 1, 3) := by decide +kernel
theorem dX10_first_74 : decode cX10_first 74 = .ok (.goto (-62), 3) := by decide +kernel
theorem dX10_first_77 : decode cX10_first 77 = .ok (.iconst (-1), 1) := by decide +kernel
theorem dX10_first_78 : decode cX10_first 78 = .ok (.ireturn, 1) := by decide +kernel
theorem dX10_build_0 : decode cX10_build 0 = .ok (.aload_n 0, 1) := by decide +kernel
theorem dX10_build_1 : decode cX10_build 1 = .ok (.iconst 0, 1) := by decide +kernel
theorem dX10_build_2 : decode cX10_build 2 = .ok (.putfield 52, 3) := by decide +kernel
theorem dX10_build_5 : decode cX10_build 5 = .ok (.iload_n 1, 1) := by decide +kernel
theorem dX10_build_6 : decode cX10_build 6 = .ok (.iconst 0, 1) := by decide +kernel
theorem dX10_build_7 : decode cX10_build 7 = .ok (.bipush 40, 2) := by decide +kernel
theorem dX10_build_9 : decode cX10_build 9 = .ok (.invokestatic 59, 3) := by decide +kernel
theorem dX10_build_12 : decode cX10_build 12 = .ok (.ifCond .eq 23, 3) := by decide +kernel
theorem dX10_build_15 : decode cX10_build 15 = .ok (.iload_n 2, 1) := by decide +kernel
theorem dX10_build_16 : decode cX10_build 16 = .ok (.iconst 0, 1) := by decide +kernel
theorem dX10_build_17 : decode cX10_build 17 = .ok (.bipush 40, 2) := by decide +kernel
theorem dX10_build_19 : decode cX10_build 19 = .ok (.invokestatic 59, 3) := by decide +kernel
theorem dX10_build_22 : decode cX10_build 22 = .ok (.ifCond .eq 13, 3) := by decide +kernel
theorem dX10_build_25 : decode cX10_build 25 = .ok (.iload_n 3, 1) := by decide +kernel
theorem dX10_build_26 : decode cX10_build 26 = .ok (.iconst 0, 1) := by decide +kernel
theorem dX10_build_27 : decode cX10_build 27 = .ok (.bipush 60, 2) := by decide +kernel
theorem dX10_build_29 : decode cX10_build 29 = .ok (.invokestatic 59, 3) := by decide +kernel
theorem dX10_build_32 : decode cX10_build 32 = .ok (.ifCond .ne 9, 3) := by decide +kernel
theorem dX10_build_35 : decode cX10_build 35 = .ok (.aload_n 0, 1) := by decide +kernel
theorem dX10_build_36 : decode cX10_build 36 = .ok (.iconst 1, 1) := by decide +kernel
theorem dX10_build_37 : decode cX10_build 37 = .ok (.invokevirtual 82, 3) := by decide +kernel
theorem dX10_build_40 : decode cX10_build 40 = .ok (.ireturn, 1) := by decide +kernel
theorem dX10_build_41 : decode cX10_build 41 = .ok (.aload_n 0, 1) := by decide +kernel
theorem dX10_build_42 : decode cX10_build 42 = .ok (.getfield 56, 3) := by decide +kernel
theorem dX10_build_45 : decode cX10_build 45 = .ok (.bipush 8, 2) := by decide +kernel
theorem dX10_build_47 : decode cX10_build 47 = .ok (.if_icmp .ge 7, 3) := by decide +kernel
theorem dX10_build_50 : decode cX10_build 50 = .ok (.iconst 1, 1) := by decide +kernel
theorem dX10_build_51 : decode cX10_build 51 = .ok (.goto 4, 3) := by decide +kernel
theorem dX10_build_54 : decode cX10_build 54 = .ok (.iconst 0, 1) := by decide +kernel
theorem dX10_build_55 : decode cX10_build 55 = .ok (.istore 4, 2) := by decide +kernel
theorem dX10_build_57 : decode cX10_build 57 = .ok (.iconst 0, 1) := by decide +kernel
theorem dX10_build_58 : decode cX10_build 58 = .ok (.istore 5, 2) := by decide +kernel
theorem dX10_build_60 : decode cX10_build 60 = .ok (.iload 5, 2) := by decide +kernel
theorem dX10_build_62 : decode cX10_build 62 = .ok (.aload_n 0, 1) := by decide +kernel
theorem dX10_build_63 : decode cX10_build 63 = .ok (.getfield 56, 3) := by decide +kernel
theorem dX10_build_66 : decode cX10_build 66 = .ok (.if_icmp .ge 43, 3) := by decide +kernel
theorem dX10_build_69 : decode cX10_build 69 = .ok (.iload 4, 2) := by decide +kernel
theorem dX10_build_71 : decode cX10_build 71 = .ok (.ifCond .eq 29, 3) := by decide +kernel
theorem dX10_build_74 : decode cX10_build 74 = .ok (.aload_n 0, 1) := by decide +kernel
theorem dX10_build_75 : decode cX10_build 75 = .ok (.getfield 9, 3) := by decide +kernel
theorem dX10_build_78 : decode cX10_build 78 = .ok (.iload 5, 2) := by decide +kernel
theorem dX10_build_80 : decode cX10_build 80 = .ok (.iaload, 1) := by decide +kernel
theorem dX10_build_81 : decode cX10_build 81 = .ok (.iload_n 1, 1) := by decide +kernel
theorem dX10_build_82 : decode cX10_build 82 = .ok (.if_icmp .ne 14, 3) := by decide +kernel
theorem dX10_build_85 : decode cX10_build 85 = .ok (.aload_n 0, 1) := by decide +kernel
theorem dX10_build_86 : decode cX10_build 86 = .ok (.getfield 13, 3) := by decide +kernel
theorem dX10_build_89 : decode cX10_build 89 = .ok (.iload 5, 2) := by decide +kernel
theorem dX10_build_91 : decode cX10_build 91 = .ok (.iaload, 1) := by decide +kernel
theorem dX10_build_92 : decode cX10_build 92 = .ok (.iload_n 2, 1) := by decide +kernel
theorem dX10_build_93 : decode cX10_build 93 = .ok (.if_icmp .eq 7, 3) := by decide +kernel
theorem dX10_build_96 : decode cX10_build 96 = .ok (.iconst 1, 1) := by decide +kernel
theorem dX10_build_97 : decode cX10_build 97 = .ok (.goto 4, 3) := by decide +kernel
theorem dX10_build_100 : decode cX10_build 100 = .ok (.iconst 0, 1) := by decide +kernel
theorem dX10_build_101 : decode cX10_build 101 = .ok (.istore 4, 2) := by decide +kernel
theorem dX10_build_103 : decode cX10_build 103 = .ok (.iinc 5 1, 3) := by decide +kernel
theorem dX10_build_106 : decode cX10_build 106 = .ok (.goto (-46), 3) := by decide +kernel
theorem dX10_build_109 : decode cX10_build 109 = .ok (.iload 4, 2) := by decide +kernel
theorem dX10_build_111 : decode cX10_build 111 = .ok (.ifCond .ne 9, 3) := by decide +kernel
theorem dX10_build_114 : decode cX10_build 114 = .ok (.aload_n 0, 1) := by decide +kernel
theorem dX10_build_115 : decode cX10_build 115 = .ok (.iconst 2, 1) := by decide +kernel
theorem dX10_build_116 : decode cX10_build 116 = .ok (.invokevirtual 82, 3) := by decide +kernel
theorem dX10_build_119 : decode cX10_build 119 = .ok (.ireturn, 1) := by decide +kernel
theorem dX10_build_120 : decode cX10_build 120 = .ok (.aload_n 0, 1) := by decide +kernel
theorem dX10_build_121 : decode cX10_build 121 = .ok (.getfield 9, 3) := by decide +kernel
theorem dX10_build_124 : decode cX10_build 124 = .ok (.aload_n 0, 1) := by decide +kernel
theorem dX10_build_125 : decode cX10_build 125 = .ok (.getfield 56, 3) := by decide +kernel
theorem dX10_build_128 : decode cX10_build 128 = .ok (.iload_n 1, 1) := by decide +kernel
theorem dX10_build_129 : decode cX10_build 129 = .ok (.iastore, 1) := by decide +kernel
theorem dX10_build_130 : decode cX10_build 130 = .ok (.aload_n 0, 1) := by decide +kernel
theorem dX10_build_131 : decode cX10_build 131 = .ok (.getfield 13, 3) := by decide +kernel
theorem dX10_build_134 : decode cX10_build 134 = .ok (.aload_n 0, 1) := by decide +kernel
theorem dX10_build_135 : decode cX10_build 135 = .ok (.getfield 56, 3) := by decide +kernel
theorem dX10_build_138 : decode cX10_build 138 = .ok (.iload_n 2, 1) := by decide +kernel
theorem dX10_build_139 : decode cX10_build 139 = .ok (.iastore, 1) := by decide +kernel
theorem dX10_build_140 : decode cX10_build 140 = .ok (.aload_n 0, 1) := by decide +kernel
theorem dX10_build_141 : decode cX10_build 141 = .ok (.getfield 16, 3) := by decide +kernel
theorem dX10_build_144 : decode cX10_build 144 = .ok (.aload_n 0, 1) := by decide +kernel
theorem dX10_build_145 : decode cX10_build 145 = .ok (.getfield 56, 3) := by decide +kernel
theorem dX10_build_148 : decode cX10_build 148 = .ok (.iload_n 3, 1) := by decide +kernel
theorem dX10_build_149 : decode cX10_build 149 = .ok (.iastore, 1) := by decide +kernel
theorem dX10_build_150 : decode cX10_build 150 = .ok (.aload_n 0, 1) := by decide +kernel
theorem dX10_build_151 : decode cX10_build 151 = .ok (.dup, 1) := by decide +kernel
theorem dX10_build_152 : decode cX10_build 152 = .ok (.getfield 56, 3) := by decide +kernel
theorem dX10_build_155 : decode cX10_build 155 = .ok (.iconst 1, 1) := by decide +kernel
theorem dX10_build_156 : decode cX10_build 156 = .ok (.iadd, 1) := by decide +kernel
theorem dX10_build_157 : decode cX10_build 157 = .ok (.putfield 56, 3) := by decide +kernel
theorem dX10_build_160 : decode cX10_build 160 = .ok (.aload_n 0, 1) := by decide +kernel
theorem dX10_build_161 : decode cX10_build 161 = .ok (.getfield 56, 3) := by decide +kernel
theorem dX10_build_164 : decode cX10_build 164 = .ok (.iconst 1, 1) := by decide +kernel
theorem dX10_build_165 : decode cX10_build 165 = .ok (.isub, 1) := by decide +kernel
theorem dX10_build_166 : decode cX10_build 166 = .ok (.ireturn, 1) := by decide +kernel
theorem dX10_span_0 : decode cX10_span 0 = .ok (.aload_n 0, 1) := by decide +kernel
theorem dX10_span_1 : decode cX10_span 1 = .ok (.iconst 0, 1) := by decide +kernel
theorem dX10_span_2 : decode cX10_span 2 = .ok (.putfield 52, 3) := by decide +kernel
theorem dX10_span_5 : decode cX10_span 5 = .ok (.aload_n 0, 1) := by decide +kernel
theorem dX10_span_6 : decode cX10_span 6 = .ok (.iload_n 1, 1) := by decide +kernel
theorem dX10_span_7 : decode cX10_span 7 = .ok (.invokevirtual 85, 3) := by decide +kernel
theorem dX10_span_10 : decode cX10_span 10 = .ok (.ifCond .eq 11, 3) := by decide +kernel
theorem dX10_span_13 : decode cX10_span 13 = .ok (.aload_n 0, 1) := by decide +kernel
theorem dX10_span_14 : decode cX10_span 14 = .ok (.iload_n 2, 1) := by decide +kernel
theorem dX10_span_15 : decode cX10_span 15 = .ok (.invokevirtual 85, 3) := by decide +kernel
theorem dX10_span_18 : decode cX10_span 18 = .ok (.ifCond .ne 9, 3) := by decide +kernel
theorem dX10_span_21 : decode cX10_span 21 = .ok (.aload_n 0, 1) := by decide +kernel
theorem dX10_span_22 : decode cX10_span 22 = .ok (.iconst 1, 1) := by decide +kernel
theorem dX10_span_23 : decode cX10_span 23 = .ok (.invokevirtual 82, 3) := by decide +kernel
theorem dX10_span_26 : decode cX10_span 26 = .ok (.ireturn, 1) := by decide +kernel
theorem dX10_span_27 : decode cX10_span 27 = .ok (.aload_n 0, 1) := by decide +kernel
theorem dX10_span_28 : decode cX10_span 28 = .ok (.getfield 16, 3) := by decide +kernel
theorem dX10_span_31 : decode cX10_span 31 = .ok (.iload_n 2, 1) := by decide +kernel
theorem dX10_span_32 : decode cX10_span 32 = .ok (.iaload, 1) := by decide +kernel
theorem dX10_span_33 : decode cX10_span 33 = .ok (.aload_n 0, 1) := by decide +kernel
theorem dX10_span_34 : decode cX10_span 34 = .ok (.getfield 16, 3) := by decide +kernel
theorem dX10_span_37 : decode cX10_span 37 = .ok (.iload_n 1, 1) := by decide +kernel
theorem dX10_span_38 : decode cX10_span 38 = .ok (.iaload, 1) := by decide +kernel
theorem dX10_span_39 : decode cX10_span 39 = .ok (.if_icmp .ge 25, 3) := by decide +kernel
theorem dX10_span_42 : decode cX10_span 42 = .ok (.iload_n 3, 1) := by decide +kernel
theorem dX10_span_43 : decode cX10_span 43 = .ok (.bipush 20, 2) := by decide +kernel
theorem dX10_span_45 : decode cX10_span 45 = .ok (.sipush 150, 3) := by decide +kernel
theorem dX10_span_48 : decode cX10_span 48 = .ok (.invokestatic 59, 3) := by decide +kernel
theorem dX10_span_51 : decode cX10_span 51 = .ok (.ifCond .eq 13, 3) := by decide +kernel
theorem dX10_span_54 : decode cX10_span 54 = .ok (.iload 4, 2) := by decide +kernel
theorem dX10_span_56 : decode cX10_span 56 = .ok (.iconst 1, 1) := by decide +kernel
theorem dX10_span_57 : decode cX10_span 57 = .ok (.iconst 3, 1) := by decide +kernel
theorem dX10_span_58 : decode cX10_span 58 = .ok (.invokestatic 59, 3) := by decide +kernel
theorem dX10_span_61 : decode cX10_span 61 = .ok (.ifCond .ne 9, 3) := by decide +kernel
theorem dX10_span_64 : decode cX10_span 64 = .ok (.aload_n 0, 1) := by decide +kernel
theorem dX10_span_65 : decode cX10_span 65 = .ok (.iconst 2, 1) := by decide +kernel
theorem dX10_span_66 : decode cX10_span 66 = .ok (.invokevirtual 82, 3) := by decide +kernel
theorem dX10_span_69 : decode cX10_span 69 = .ok (.ireturn, 1) := by decide +kernel
theorem dX10_span_70 : decode cX10_span 70 = .ok (.aload_n 0, 1) := by decide +kernel
theorem dX10_span_71 : decode cX10_span 71 = .ok (.getfield 63, 3) := by decide +kernel
theorem dX10_span_74 : decode cX10_span 74 = .ok (.bipush 12, 2) := by decide +kernel
theorem dX10_span_76 : decode cX10_span 76 = .ok (.if_icmp .ne 9, 3) := by decide +kernel
theorem dX10_span_79 : decode cX10_span 79 = .ok (.aload_n 0, 1) := by decide +kernel
theorem dX10_span_80 : decode cX10_span 80 = .ok (.iconst 3, 1) := by decide +kernel
theorem dX10_span_81 : decode cX10_span 81 = .ok (.invokevirtual 82, 3) := by decide +kernel
theorem dX10_span_84 : decode cX10_span 84 = .ok (.ireturn, 1) := by decide +kernel
theorem dX10_span_85 : decode cX10_span 85 = .ok (.aload_n 0, 1) := by decide +kernel
theorem dX10_span_86 : decode cX10_span 86 = .ok (.getfield 19, 3) := by decide +kernel
theorem dX10_span_89 : decode cX10_span 89 = .ok (.aload_n 0, 1) := by decide +kernel
theorem dX10_span_90 : decode cX10_span 90 = .ok (.getfield 63, 3) := by decide +kernel
theorem dX10_span_93 : decode cX10_span 93 = .ok (.iload_n 1, 1) := by decide +kernel
theorem dX10_span_94 : decode cX10_span 94 = .ok (.iastore, 1) := by decide +kernel
theorem dX10_span_95 : decode cX10_span 95 = .ok (.aload_n 0, 1) := by decide +kernel
theorem dX10_span_96 : decode cX10_span 96 = .ok (.getfield 22, 3) := by decide +kernel
theorem dX10_span_99 : decode cX10_span 99 = .ok (.aload_n 0, 1) := by decide +kernel
theorem dX10_span_100 : decode cX10_span 100 = .ok (.getfield 63, 3) := by decide +kernel
theorem dX10_span_103 : decode cX10_span 103 = .ok (.iload_n 2, 1) := by decide +kernel
theorem dX10_span_104 : decode cX10_span 104 = .ok (.iastore, 1) := by decide +kernel
theorem dX10_span_105 : decode cX10_span 105 = .ok (.aload_n 0, 1) := by decide +kernel
theorem dX10_span_106 : decode cX10_span 106 = .ok (.getfield 25, 3) := by decide +kernel
theorem dX10_span_109 : decode cX10_span 109 = .ok (.aload_n 0, 1) := by decide +kernel
theorem dX10_span_110 : decode cX10_span 110 = .ok (.getfield 63, 3) := by decide +kernel
theorem dX10_span_113 : decode cX10_span 113 = .ok (.iload_n 3, 1) := by decide +kernel
theorem dX10_span_114 : decode cX10_span 114 = .ok (.iastore, 1) := by decide +kernel
theorem dX10_span_115 : decode cX10_span 115 = .ok (.aload_n 0, 1) := by decide +kernel
theorem dX10_span_116 : decode cX10_span 116 = .ok (.getfield 45, 3) := by decide +kernel
theorem dX10_span_119 : decode cX10_span 119 = .ok (.getfield 89, 3) := by decide +kernel
theorem dX10_span_122 : decode cX10_span 122 = .ok (.aload_n 0, 1) := by decide +kernel
theorem dX10_span_123 : decode cX10_span 123 = .ok (.getfield 63, 3) := by decide +kernel
theorem dX10_span_126 : decode cX10_span 126 = .ok (.iload 4, 2) := by decide +kernel
theorem dX10_span_128 : decode cX10_span 128 = .ok (.iastore, 1) := by decide +kernel
theorem dX10_span_129 : decode cX10_span 129 = .ok (.aload_n 0, 1) := by decide +kernel
theorem dX10_span_130 : decode cX10_span 130 = .ok (.dup, 1) := by decide +kernel
theorem dX10_span_131 : decode cX10_span 131 = .ok (.getfield 63, 3) := by decide +kernel
theorem dX10_span_134 : decode cX10_span 134 = .ok (.iconst 1, 1) := by decide +kernel
theorem dX10_span_135 : decode cX10_span 135 = .ok (.iadd, 1) := by decide +kernel
theorem dX10_span_136 : decode cX10_span 136 = .ok (.putfield 63, 3) := by decide +kernel
theorem dX10_span_139 : decode cX10_span 139 = .ok (.aload_n 0, 1) := by decide +kernel
theorem dX10_span_140 : decode cX10_span 140 = .ok (.getfield 63, 3) := by decide +kernel
theorem dX10_span_143 : decode cX10_span 143 = .ok (.iconst 1, 1) := by decide +kernel
theorem dX10_span_144 : decode cX10_span 144 = .ok (.isub, 1) := by decide +kernel
theorem dX10_span_145 : decode cX10_span 145 = .ok (.ireturn, 1) := by decide +kernel
theorem dX10_add_0 : decode cX10_add 0 = .ok (.aload_n 0, 1) := by decide +kernel
theorem dX10_add_1 : decode cX10_add 1 = .ok (.iconst 0, 1) := by decide +kernel
theorem dX10_add_2 : decode cX10_add 2 = .ok (.putfield 52, 3) := by decide +kernel
theorem dX10_add_5 : decode cX10_add 5 = .ok (.aload_n 0, 1) := by decide +kernel
theorem dX10_add_6 : decode cX10_add 6 = .ok (.iload_n 1, 1) := by decide +kernel
theorem dX10_add_7 : decode cX10_add 7 = .ok (.invokevirtual 92, 3) := by decide +kernel
theorem dX10_add_10 : decode cX10_add 10 = .ok (.ifCond .ne 9, 3) := by decide +kernel
theorem dX10_add_13 : decode cX10_add 13 = .ok (.aload_n 0, 1) := by decide +kernel
theorem dX10_add_14 : decode cX10_add 14 = .ok (.iconst 1, 1) := by decide +kernel
theorem dX10_add_15 : decode cX10_add 15 = .ok (.invokevirtual 82, 3) := by decide +kernel
theorem dX10_add_18 : decode cX10_add 18 = .ok (.ireturn, 1) := by decide +kernel
theorem dX10_add_19 : decode cX10_add 19 = .ok (.aload_n 0, 1) := by decide +kernel
theorem dX10_add_20 : decode cX10_add 20 = .ok (.getfield 45, 3) := by decide +kernel
theorem dX10_add_23 : decode cX10_add 23 = .ok (.getfield 89, 3) := by decide +kernel
theorem dX10_add_26 : decode cX10_add 26 = .ok (.iload_n 1, 1) := by decide +kernel
theorem dX10_add_27 : decode cX10_add 27 = .ok (.iaload, 1) := by decide +kernel
theorem dX10_add_28 : decode cX10_add 28 = .ok (.iconst 3, 1) := by decide +kernel
theorem dX10_add_29 : decode cX10_add 29 = .ok (.if_icmp .ne 9, 3) := by decide +kernel
theorem dX10_add_32 : decode cX10_add 32 = .ok (.aload_n 0, 1) := by decide +kernel
theorem dX10_add_33 : decode cX10_add 33 = .ok (.iconst 2, 1) := by decide +kernel
theorem dX10_add_34 : decode cX10_add 34 = .ok (.invokevirtual 82, 3) := by decide +kernel
theorem dX10_add_37 : decode cX10_add 37 = .ok (.ireturn, 1) := by decide +kernel
theorem dX10_add_38 : decode cX10_add 38 = .ok (.aload_n 0, 1) := by decide +kernel
theorem dX10_add_39 : decode cX10_add 39 = .ok (.getfield 45, 3) := by decide +kernel
theorem dX10_add_42 : decode cX10_add 42 = .ok (.getfield 89, 3) := by decide +kernel
theorem dX10_add_45 : decode cX10_add 45 = .ok (.iload_n 1, 1) := by decide +kernel
theorem dX10_add_46 : decode cX10_add 46 = .ok (.dup2, 1) := by decide +kernel
theorem dX10_add_47 : decode cX10_add 47 = .ok (.iaload, 1) := by decide +kernel
theorem dX10_add_48 : decode cX10_add 48 = .ok (.iconst 1, 1) := by decide +kernel
theorem dX10_add_49 : decode cX10_add 49 = .ok (.iadd, 1) := by decide +kernel
theorem dX10_add_50 : decode cX10_add 50 = .ok (.iastore, 1) := by decide +kernel
theorem dX10_add_51 : decode cX10_add 51 = .ok (.aload_n 0, 1) := by decide +kernel
theorem dX10_add_52 : decode cX10_add 52 = .ok (.getfield 45, 3) := by decide +kernel
theorem dX10_add_55 : decode cX10_add 55 = .ok (.getfield 89, 3) := by decide +kernel
theorem dX10_add_58 : decode cX10_add 58 = .ok (.iload_n 1, 1) := by decide +kernel
theorem dX10_add_59 : decode cX10_add 59 = .ok (.iaload, 1) := by decide +kernel
theorem dX10_add_60 : decode cX10_add 60 = .ok (.ireturn, 1) := by decide +kernel
theorem dX10_setWind_0 : decode cX10_setWind 0 = .ok (.aload_n 0, 1) := by decide +kernel
theorem dX10_setWind_1 : decode cX10_setWind 1 = .ok (.iconst 0, 1) := by decide +kernel
theorem dX10_setWind_2 : decode cX10_setWind 2 = .ok (.putfield 52, 3) := by decide +kernel
theorem dX10_setWind_5 : decode cX10_setWind 5 = .ok (.iload_n 1, 1) := by decide +kernel
theorem dX10_setWind_6 : decode cX10_setWind 6 = .ok (.iconst 0, 1) := by decide +kernel
theorem dX10_setWind_7 : decode cX10_setWind 7 = .ok (.bipush 11, 2) := by decide +kernel
theorem dX10_setWind_9 : decode cX10_setWind 9 = .ok (.invokestatic 59, 3) := by decide +kernel
theorem dX10_setWind_12 : decode cX10_setWind 12 = .ok (.ifCond .ne 9, 3) := by decide +kernel
theorem dX10_setWind_15 : decode cX10_setWind 15 = .ok (.aload_n 0, 1) := by decide +kernel
theorem dX10_setWind_16 : decode cX10_setWind 16 = .ok (.iconst 1, 1) := by decide +kernel
theorem dX10_setWind_17 : decode cX10_setWind 17 = .ok (.invokevirtual 82, 3) := by decide +kernel
theorem dX10_setWind_20 : decode cX10_setWind 20 = .ok (.ireturn, 1) := by decide +kernel
theorem dX10_setWind_21 : decode cX10_setWind 21 = .ok (.iload_n 2, 1) := by decide +kernel
theorem dX10_setWind_22 : decode cX10_setWind 22 = .ok (.iconst 0, 1) := by decide +kernel
theorem dX10_setWind_23 : decode cX10_setWind 23 = .ok (.bipush 9, 2) := by decide +kernel
theorem dX10_setWind_25 : decode cX10_setWind 25 = .ok (.invokestatic 59, 3) := by decide +kernel
theorem dX10_setWind_28 : decode cX10_setWind 28 = .ok (.ifCond .ne 9, 3) := by decide +kernel
theorem dX10_setWind_31 : decode cX10_setWind 31 = .ok (.aload_n 0, 1) := by decide +kernel
theorem dX10_setWind_32 : decode cX10_setWind 32 = .ok (.iconst 2, 1) := by decide +kernel
theorem dX10_setWind_33 : decode cX10_setWind 33 = .ok (.invokevirtual 82, 3) := by decide +kernel
theorem dX10_setWind_36 : decode cX10_setWind 36 = .ok (.ireturn, 1) := by decide +kernel
theorem dX10_setWind_37 : decode cX10_setWind 37 = .ok (.aload_n 0, 1) := by decide +kernel
theorem dX10_setWind_38 : decode cX10_setWind 38 = .ok (.getfield 28, 3) := by decide +kernel
theorem dX10_setWind_41 : decode cX10_setWind 41 = .ok (.iload_n 1, 1) := by decide +kernel
theorem dX10_setWind_42 : decode cX10_setWind 42 = .ok (.iaload, 1) := by decide +kernel
theorem dX10_setWind_43 : decode cX10_setWind 43 = .ok (.istore_n 3, 1) := by decide +kernel
theorem dX10_setWind_44 : decode cX10_setWind 44 = .ok (.aload_n 0, 1) := by decide +kernel
theorem dX10_setWind_45 : decode cX10_setWind 45 = .ok (.getfield 28, 3) := by decide +kernel
theorem dX10_setWind_48 : decode cX10_setWind 48 = .ok (.iload_n 1, 1) := by decide +kernel
theorem dX10_setWind_49 : decode cX10_setWind 49 = .ok (.iload_n 2, 1) := by decide +kernel
theorem dX10_setWind_50 : decode cX10_setWind 50 = .ok (.iastore, 1) := by decide +kernel
theorem dX10_setWind_51 : decode cX10_setWind 51 = .ok (.iload_n 3, 1) := by decide +kernel
theorem dX10_setWind_52 : decode cX10_setWind 52 = .ok (.ireturn, 1) := by decide +kernel
theorem dX10_platformTold_0 : decode cX10_platformTold 0 = .ok (.iconst 0, 1) := by decide +kernel
theorem dX10_platformTold_1 : decode cX10_platformTold 1 = .ok (.istore_n 3, 1) := by decide +kernel
theorem dX10_platformTold_2 : decode cX10_platformTold 2 = .ok (.iconst 0, 1) := by decide +kernel
theorem dX10_platformTold_3 : decode cX10_platformTold 3 = .ok (.istore 4, 2) := by decide +kernel
theorem dX10_platformTold_5 : decode cX10_platformTold 5 = .ok (.iconst 0, 1) := by decide +kernel
theorem dX10_platformTold_6 : decode cX10_platformTold 6 = .ok (.istore 5, 2) := by decide +kernel
theorem dX10_platformTold_8 : decode cX10_platformTold 8 = .ok (.iconst 0, 1) := by decide +kernel
theorem dX10_platformTold_9 : decode cX10_platformTold 9 = .ok (.istore 6, 2) := by decide +kernel
theorem dX10_platformTold_11 : decode cX10_platformTold 11 = .ok (.iload 6, 2) := by decide +kernel
theorem dX10_platformTold_13 : decode cX10_platformTold 13 = .ok (.aload_n 0, 1) := by decide +kernel
theorem dX10_platformTold_14 : decode cX10_platformTold 14 = .ok (.getfield 63, 3) := by decide +kernel
theorem dX10_platformTold_17 : decode cX10_platformTold 17 = .ok (.if_icmp .ge 49, 3) := by decide +kernel
theorem dX10_platformTold_20 : decode cX10_platformTold 20 = .ok (.iload_n 3, 1) := by decide +kernel
theorem dX10_platformTold_21 : decode cX10_platformTold 21 = .ok (.aload_n 0, 1) := by decide +kernel
theorem dX10_platformTold_22 : decode cX10_platformTold 22 = .ok (.getfield 19, 3) := by decide +kernel
theorem dX10_platformTold_25 : decode cX10_platformTold 25 = .ok (.iload 6, 2) := by decide +kernel
theorem dX10_platformTold_27 : decode cX10_platformTold 27 = .ok (.iaload, 1) := by decide +kernel
theorem dX10_platformTold_28 : decode cX10_platformTold 28 = .ok (.iload_n 1, 1) := by decide +kernel
theorem dX10_platformTold_29 : decode cX10_platformTold 29 = .ok (.if_icmp .ne 7, 3) := by decide +kernel
theorem dX10_platformTold_32 : decode cX10_platformTold 32 = .ok (.iconst 1, 1) := by decide +kernel
theorem dX10_platformTold_33 : decode cX10_platformTold 33 = .ok (.goto 4, 3) := by decide +kernel
theorem dX10_platformTold_36 : decode cX10_platformTold 36 = .ok (.iconst 0, 1) := by decide +kernel
theorem dX10_platformTold_37 : decode cX10_platformTold 37 = .ok (.iadd, 1) := by decide +kernel
theorem dX10_platformTold_38 : decode cX10_platformTold 38 = .ok (.istore_n 3, 1) := by decide +kernel
theorem dX10_platformTold_39 : decode cX10_platformTold 39 = .ok (.iload 4, 2) := by decide +kernel
theorem dX10_platformTold_41 : decode cX10_platformTold 41 = .ok (.aload_n 0, 1) := by decide +kernel
theorem dX10_platformTold_42 : decode cX10_platformTold 42 = .ok (.getfield 22, 3) := by decide +kernel
theorem dX10_platformTold_45 : decode cX10_platformTold 45 = .ok (.iload 6, 2) := by decide +kernel
theorem dX10_platformTold_47 : decode cX10_platformTold 47 = .ok (.iaload, 1) := by decide +kernel
theorem dX10_platformTold_48 : decode cX10_platformTold 48 = .ok (.iload_n 1, 1) := by decide +kernel
theorem dX10_platformTold_49 : decode cX10_platformTold 49 = .ok (.if_icmp .ne 7, 3) := by decide +kernel
theorem dX10_platformTold_52 : decode cX10_platformTold 52 = .ok (.iconst 1, 1) := by decide +kernel
theorem dX10_platformTold_53 : decode cX10_platformTold 53 = .ok (.goto 4, 3) := by decide +kernel
theorem dX10_platformTold_56 : decode cX10_platformTold 56 = .ok (.iconst 0, 1) := by decide +kernel
theorem dX10_platformTold_57 : decode cX10_platformTold 57 = .ok (.iadd, 1) := by decide +kernel
theorem dX10_platformTold_58 : decode cX10_platformTold 58 = .ok (.istore 4, 2) := by decide +kernel
theorem dX10_platformTold_60 : decode cX10_platformTold 60 = .ok (.iinc 6 1, 3) := by decide +kernel
theorem dX10_platformTold_63 : decode cX10_platformTold 63 = .ok (.goto (-52), 3) := by decide +kernel
theorem dX10_platformTold_66 : decode cX10_platformTold 66 = .ok (.iconst 0, 1) := by decide +kernel
theorem dX10_platformTold_67 : decode cX10_platformTold 67 = .ok (.istore 6, 2) := by decide +kernel
theorem dX10_platformTold_69 : decode cX10_platformTold 69 = .ok (.iload 6, 2) := by decide +kernel
theorem dX10_platformTold_71 : decode cX10_platformTold 71 = .ok (.aload_n 0, 1) := by decide +kernel
theorem dX10_platformTold_72 : decode cX10_platformTold 72 = .ok (.getfield 95, 3) := by decide +kernel
theorem dX10_platformTold_75 : decode cX10_platformTold 75 = .ok (.if_icmp .ge 44, 3) := by decide +kernel
theorem dX10_platformTold_78 : decode cX10_platformTold 78 = .ok (.iload 5, 2) := by decide +kernel
theorem dX10_platformTold_80 : decode cX10_platformTold 80 = .ok (.aload_n 0, 1) := by decide +kernel
theorem dX10_platformTold_81 : decode cX10_platformTold 81 = .ok (.getfield 45, 3) := by decide +kernel
theorem dX10_platformTold_84 : decode cX10_platformTold 84 = .ok (.getfield 98, 3) := by decide +kernel
theorem dX10_platformTold_87 : decode cX10_platformTold 87 = .ok (.iload 6, 2) := by decide +kernel
theorem dX10_platformTold_89 : decode cX10_platformTold 89 = .ok (.iaload, 1) := by decide +kernel
theorem dX10_platformTold_90 : decode cX10_platformTold 90 = .ok (.iconst 2, 1) := by decide +kernel
theorem dX10_platformTold_91 : decode cX10_platformTold 91 = .ok (.if_icmp .ne 18, 3) := by decide +kernel
theorem dX10_platformTold_94 : decode cX10_platformTold 94 = .ok (.aload_n 0, 1) := by decide +kernel
theorem dX10_platformTold_95 : decode cX10_platformTold 95 = .ok (.getfield 37, 3) := by decide +kernel
theorem dX10_platformTold_98 : decode cX10_platformTold 98 = .ok (.iload 6, 2) := by decide +kernel
theorem dX10_platformTold_100 : decode cX10_platformTold 100 = .ok (.iaload, 1) := by decide +kernel
theorem dX10_platformTold_101 : decode cX10_platformTold 101 = .ok (.iload_n 1, 1) := by decide +kernel
theorem dX10_platformTold_102 : decode cX10_platformTold 102 = .ok (.if_icmp .ne 7, 3) := by decide +kernel
theorem dX10_platformTold_105 : decode cX10_platformTold 105 = .ok (.iconst 1, 1) := by decide +kernel
theorem dX10_platformTold_106 : decode cX10_platformTold 106 = .ok (.goto 4, 3) := by decide +kernel
theorem dX10_platformTold_109 : decode cX10_platformTold 109 = .ok (.iconst 0, 1) := by decide +kernel
theorem dX10_platformTold_110 : decode cX10_platformTold 110 = .ok (.iadd, 1) := by decide +kernel
theorem dX10_platformTold_111 : decode cX10_platformTold 111 = .ok (.istore 5, 2) := by decide +kernel
theorem dX10_platformTold_113 : decode cX10_platformTold 113 = .ok (.iinc 6 1, 3) := by decide +kernel
theorem dX10_platformTold_116 : decode cX10_platformTold 116 = .ok (.goto (-47), 3) := by decide +kernel
theorem dX10_platformTold_119 : decode cX10_platformTold 119 = .ok (.bipush 8, 2) := by decide +kernel
theorem dX10_platformTold_121 : decode cX10_platformTold 121 = .ok (.newarray .int, 2) := by decide +kernel
theorem dX10_platformTold_123 : decode cX10_platformTold 123 = .ok (.dup, 1) := by decide +kernel
theorem dX10_platformTold_124 : decode cX10_platformTold 124 = .ok (.iconst 0, 1) := by decide +kernel
theorem dX10_platformTold_125 : decode cX10_platformTold 125 = .ok (.aload_n 0, 1) := by decide +kernel
theorem dX10_platformTold_126 : decode cX10_platformTold 126 = .ok (.getfield 9, 3) := by decide +kernel
theorem dX10_platformTold_129 : decode cX10_platformTold 129 = .ok (.iload_n 1, 1) := by decide +kernel
theorem dX10_platformTold_130 : decode cX10_platformTold 130 = .ok (.iaload, 1) := by decide +kernel
theorem dX10_platformTold_131 : decode cX10_platformTold 131 = .ok (.iastore, 1) := by decide +kernel
theorem dX10_platformTold_132 : decode cX10_platformTold 132 = .ok (.dup, 1) := by decide +kernel
theorem dX10_platformTold_133 : decode cX10_platformTold 133 = .ok (.iconst 1, 1) := by decide +kernel
theorem dX10_platformTold_134 : decode cX10_platformTold 134 = .ok (.aload_n 0, 1) := by decide +kernel
theorem dX10_platformTold_135 : decode cX10_platformTold 135 = .ok (.getfield 13, 3) := by decide +kernel
theorem dX10_platformTold_138 : decode cX10_platformTold 138 = .ok (.iload_n 1, 1) := by decide +kernel
theorem dX10_platformTold_139 : decode cX10_platformTold 139 = .ok (.iaload, 1) := by decide +kernel
theorem dX10_platformTold_140 : decode cX10_platformTold 140 = .ok (.iastore, 1) := by decide +kernel
theorem dX10_platformTold_141 : decode cX10_platformTold 141 = .ok (.dup, 1) := by decide +kernel
theorem dX10_platformTold_142 : decode cX10_platformTold 142 = .ok (.iconst 2, 1) := by decide +kernel
theorem dX10_platformTold_143 : decode cX10_platformTold 143 = .ok (.aload_n 0, 1) := by decide +kernel
theorem dX10_platformTold_144 : decode cX10_platformTold 144 = .ok (.getfield 16, 3) := by decide +kernel
theorem dX10_platformTold_147 : decode cX10_platformTold 147 = .ok (.iload_n 1, 1) := by decide +kernel
theorem dX10_platformTold_148 : decode cX10_platformTold 148 = .ok (.iaload, 1) := by decide +kernel
theorem dX10_platformTold_149 : decode cX10_platformTold 149 = .ok (.iastore, 1) := by decide +kernel
theorem dX10_platformTold_150 : decode cX10_platformTold 150 = .ok (.dup, 1) := by decide +kernel
theorem dX10_platformTold_151 : decode cX10_platformTold 151 = .ok (.iconst 3, 1) := by decide +kernel
theorem dX10_platformTold_152 : decode cX10_platformTold 152 = .ok (.aload_n 0, 1) := by decide +kernel
theorem dX10_platformTold_153 : decode cX10_platformTold 153 = .ok (.getfield 45, 3) := by decide +kernel
theorem dX10_platformTold_156 : decode cX10_platformTold 156 = .ok (.getfield 101, 3) := by decide +kernel
theorem dX10_platformTold_159 : decode cX10_platformTold 159 = .ok (.iload_n 1, 1) := by decide +kernel
theorem dX10_platformTold_160 : decode cX10_platformTold 160 = .ok (.iaload, 1) := by decide +kernel
theorem dX10_platformTold_161 : decode cX10_platformTold 161 = .ok (.iastore, 1) := by decide +kernel
theorem dX10_platformTold_162 : decode cX10_platformTold 162 = .ok (.dup, 1) := by decide +kernel
theorem dX10_platformTold_163 : decode cX10_platformTold 163 = .ok (.iconst 4, 1) := by decide +kernel
theorem dX10_platformTold_164 : decode cX10_platformTold 164 = .ok (.aload_n 0, 1) := by decide +kernel
theorem dX10_platformTold_165 : decode cX10_platformTold 165 = .ok (.getfield 45, 3) := by decide +kernel
theorem dX10_platformTold_168 : decode cX10_platformTold 168 = .ok (.getfield 101, 3) := by decide +kernel
theorem dX10_platformTold_171 : decode cX10_platformTold 171 = .ok (.iload_n 1, 1) := by decide +kernel
theorem dX10_platformTold_172 : decode cX10_platformTold 172 = .ok (.iaload, 1) := by decide +kernel
theorem dX10_platformTold_173 : decode cX10_platformTold 173 = .ok (.ifCond .ne 7, 3) := by decide +kernel
theorem dX10_platformTold_176 : decode cX10_platformTold 176 = .ok (.iconst (-1), 1) := by decide +kernel
theorem dX10_platformTold_177 : decode cX10_platformTold 177 = .ok (.goto 15, 3) := by decide +kernel
theorem dX10_platformTold_180 : decode cX10_platformTold 180 = .ok (.aload_n 0, 1) := by decide +kernel
theorem dX10_platformTold_181 : decode cX10_platformTold 181 = .ok (.getfield 45, 3) := by decide +kernel
theorem dX10_platformTold_184 : decode cX10_platformTold 184 = .ok (.getfield 104, 3) := by decide +kernel
theorem dX10_platformTold_187 : decode cX10_platformTold 187 = .ok (.bipush 12, 2) := by decide +kernel
theorem dX10_platformTold_189 : decode cX10_platformTold 189 = .ok (.iload_n 1, 1) := by decide +kernel
theorem dX10_platformTold_190 : decode cX10_platformTold 190 = .ok (.imul, 1) := by decide +kernel
theorem dX10_platformTold_191 : decode cX10_platformTold 191 = .ok (.iaload, 1) := by decide +kernel
theorem dX10_platformTold_192 : decode cX10_platformTold 192 = .ok (.iastore, 1) := by decide +kernel
theorem dX10_platformTold_193 : decode cX10_platformTold 193 = .ok (.dup, 1) := by decide +kernel
theorem dX10_platformTold_194 : decode cX10_platformTold 194 = .ok (.iconst 5, 1) := by decide +kernel
theorem dX10_platformTold_195 : decode cX10_platformTold 195 = .ok (.iload_n 3, 1) := by decide +kernel
theorem dX10_platformTold_196 : decode cX10_platformTold 196 = .ok (.iastore, 1) := by decide +kernel
theorem dX10_platformTold_197 : decode cX10_platformTold 197 = .ok (.dup, 1) := by decide +kernel
theorem dX10_platformTold_198 : decode cX10_platformTold 198 = .ok (.bipush 6, 2) := by decide +kernel
theorem dX10_platformTold_200 : decode cX10_platformTold 200 = .ok (.iload 4, 2) := by decide +kernel
theorem dX10_platformTold_202 : decode cX10_platformTold 202 = .ok (.iastore, 1) := by decide +kernel
theorem dX10_platformTold_203 : decode cX10_platformTold 203 = .ok (.dup, 1) := by decide +kernel
theorem dX10_platformTold_204 : decode cX10_platformTold 204 = .ok (.bipush 7, 2) := by decide +kernel
theorem dX10_platformTold_206 : decode cX10_platformTold 206 = .ok (.iload 5, 2) := by decide +kernel
theorem dX10_platformTold_208 : decode cX10_platformTold 208 = .ok (.iastore, 1) := by decide +kernel
theorem dX10_platformTold_209 : decode cX10_platformTold 209 = .ok (.astore 6, 2) := by decide +kernel
theorem dX10_platformTold_211 : decode cX10_platformTold 211 = .ok (.aload 6, 2) := by decide +kernel
theorem dX10_platformTold_213 : decode cX10_platformTold 213 = .ok (.iload_n 2, 1) := by decide +kernel
theorem dX10_platformTold_214 : decode cX10_platformTold 214 = .ok (.iaload, 1) := by decide +kernel
theorem dX10_platformTold_215 : decode cX10_platformTold 215 = .ok (.ireturn, 1) := by decide +kernel
theorem dX10_platform_0 : decode cX10_platform 0 = .ok (.aload_n 0, 1) := by decide +kernel
theorem dX10_platform_1 : decode cX10_platform 1 = .ok (.iconst 0, 1) := by decide +kernel
theorem dX10_platform_2 : decode cX10_platform 2 = .ok (.putfield 52, 3) := by decide +kernel
theorem dX10_platform_5 : decode cX10_platform 5 = .ok (.aload_n 0, 1) := by decide +kernel
theorem dX10_platform_6 : decode cX10_platform 6 = .ok (.iload_n 1, 1) := by decide +kernel
theorem dX10_platform_7 : decode cX10_platform 7 = .ok (.invokevirtual 85, 3) := by decide +kernel
theorem dX10_platform_10 : decode cX10_platform 10 = .ok (.ifCond .eq 22, 3) := by decide +kernel
theorem dX10_platform_13 : decode cX10_platform 13 = .ok (.iload_n 2, 1) := by decide +kernel
theorem dX10_platform_14 : decode cX10_platform 14 = .ok (.iconst 0, 1) := by decide +kernel
theorem dX10_platform_15 : decode cX10_platform 15 = .ok (.bipush 7, 2) := by decide +kernel
theorem dX10_platform_17 : decode cX10_platform 17 = .ok (.invokestatic 59, 3) := by decide +kernel
theorem dX10_platform_20 : decode cX10_platform 20 = .ok (.ifCond .eq 12, 3) := by decide +kernel
theorem dX10_platform_23 : decode cX10_platform 23 = .ok (.aload_n 0, 1) := by decide +kernel
theorem dX10_platform_24 : decode cX10_platform 24 = .ok (.iload_n 1, 1) := by decide +kernel
theorem dX10_platform_25 : decode cX10_platform 25 = .ok (.iload_n 2, 1) := by decide +kernel
theorem dX10_platform_26 : decode cX10_platform 26 = .ok (.invokevirtual 107, 3) := by decide +kernel
theorem dX10_platform_29 : decode cX10_platform 29 = .ok (.goto 8, 3) := by decide +kernel
theorem dX10_platform_32 : decode cX10_platform 32 = .ok (.aload_n 0, 1) := by decide +kernel
theorem dX10_platform_33 : decode cX10_platform 33 = .ok (.iconst 1, 1) := by decide +kernel
theorem dX10_platform_34 : decode cX10_platform 34 = .ok (.invokevirtual 82, 3) := by decide +kernel
theorem dX10_platform_37 : decode cX10_platform 37 = .ok (.ireturn, 1) := by decide +kernel
theorem dX10_lineTold_0 : decode cX10_lineTold 0 = .ok (.bipush 11, 2) := by decide +kernel
theorem dX10_lineTold_2 : decode cX10_lineTold 2 = .ok (.newarray .int, 2) := by decide +kernel
theorem dX10_lineTold_4 : decode cX10_lineTold 4 = .ok (.dup, 1) := by decide +kernel
theorem dX10_lineTold_5 : decode cX10_lineTold 5 = .ok (.iconst 0, 1) := by decide +kernel
theorem dX10_lineTold_6 : decode cX10_lineTold 6 = .ok (.aload_n 0, 1) := by decide +kernel
theorem dX10_lineTold_7 : decode cX10_lineTold 7 = .ok (.getfield 19, 3) := by decide +kernel
theorem dX10_lineTold_10 : decode cX10_lineTold 10 = .ok (.iload_n 1, 1) := by decide +kernel
theorem dX10_lineTold_11 : decode cX10_lineTold 11 = .ok (.iaload, 1) := by decide +kernel
theorem dX10_lineTold_12 : decode cX10_lineTold 12 = .ok (.iastore, 1) := by decide +kernel
theorem dX10_lineTold_13 : decode cX10_lineTold 13 = .ok (.dup, 1) := by decide +kernel
theorem dX10_lineTold_14 : decode cX10_lineTold 14 = .ok (.iconst 1, 1) := by decide +kernel
theorem dX10_lineTold_15 : decode cX10_lineTold 15 = .ok (.aload_n 0, 1) := by decide +kernel
theorem dX10_lineTold_16 : decode cX10_lineTold 16 = .ok (.getfield 22, 3) := by decide +kernel
theorem dX10_lineTold_19 : decode cX10_lineTold 19 = .ok (.iload_n 1, 1) := by decide +kernel
theorem dX10_lineTold_20 : decode cX10_lineTold 20 = .ok (.iaload, 1) := by decide +kernel
theorem dX10_lineTold_21 : decode cX10_lineTold 21 = .ok (.iastore, 1) := by decide +kernel
theorem dX10_lineTold_22 : decode cX10_lineTold 22 = .ok (.dup, 1) := by decide +kernel
theorem dX10_lineTold_23 : decode cX10_lineTold 23 = .ok (.iconst 2, 1) := by decide +kernel
theorem dX10_lineTold_24 : decode cX10_lineTold 24 = .ok (.aload_n 0, 1) := by decide +kernel
theorem dX10_lineTold_25 : decode cX10_lineTold 25 = .ok (.getfield 25, 3) := by decide +kernel
theorem dX10_lineTold_28 : decode cX10_lineTold 28 = .ok (.iload_n 1, 1) := by decide +kernel
theorem dX10_lineTold_29 : decode cX10_lineTold 29 = .ok (.iaload, 1) := by decide +kernel
theorem dX10_lineTold_30 : decode cX10_lineTold 30 = .ok (.iastore, 1) := by decide +kernel
theorem dX10_lineTold_31 : decode cX10_lineTold 31 = .ok (.dup, 1) := by decide +kernel
theorem dX10_lineTold_32 : decode cX10_lineTold 32 = .ok (.iconst 3, 1) := by decide +kernel
theorem dX10_lineTold_33 : decode cX10_lineTold 33 = .ok (.aload_n 0, 1) := by decide +kernel
theorem dX10_lineTold_34 : decode cX10_lineTold 34 = .ok (.iload_n 1, 1) := by decide +kernel
theorem dX10_lineTold_35 : decode cX10_lineTold 35 = .ok (.invokevirtual 72, 3) := by decide +kernel
theorem dX10_lineTold_38 : decode cX10_lineTold 38 = .ok (.iastore, 1) := by decide +kernel
theorem dX10_lineTold_39 : decode cX10_lineTold 39 = .ok (.dup, 1) := by decide +kernel
theorem dX10_lineTold_40 : decode cX10_lineTold 40 = .ok (.iconst 4, 1) := by decide +kernel
theorem dX10_lineTold_41 : decode cX10_lineTold 41 = .ok (.aload_n 0, 1) := by decide +kernel
theorem dX10_lineTold_42 : decode cX10_lineTold 42 = .ok (.iload_n 1, 1) := by decide +kernel
theorem dX10_lineTold_43 : decode cX10_lineTold 43 = .ok (.invokevirtual 75, 3) := by decide +kernel
theorem dX10_lineTold_46 : decode cX10_lineTold 46 = .ok (.iastore, 1) := by decide +kernel
theorem dX10_lineTold_47 : decode cX10_lineTold 47 = .ok (.dup, 1) := by decide +kernel
theorem dX10_lineTold_48 : decode cX10_lineTold 48 = .ok (.iconst 5, 1) := by decide +kernel
theorem dX10_lineTold_49 : decode cX10_lineTold 49 = .ok (.aload_n 0, 1) := by decide +kernel
theorem dX10_lineTold_50 : decode cX10_lineTold 50 = .ok (.getfield 45, 3) := by decide +kernel
theorem dX10_lineTold_53 : decode cX10_lineTold 53 = .ok (.getfield 89, 3) := by decide +kernel
theorem dX10_lineTold_56 : decode cX10_lineTold 56 = .ok (.iload_n 1, 1) := by decide +kernel
theorem dX10_lineTold_57 : decode cX10_lineTold 57 = .ok (.iaload, 1) := by decide +kernel
theorem dX10_lineTold_58 : decode cX10_lineTold 58 = .ok (.iastore, 1) := by decide +kernel
theorem dX10_lineTold_59 : decode cX10_lineTold 59 = .ok (.dup, 1) := by decide +kernel
theorem dX10_lineTold_60 : decode cX10_lineTold 60 = .ok (.bipush 6, 2) := by decide +kernel
theorem dX10_lineTold_62 : decode cX10_lineTold 62 = .ok (.aload_n 0, 1) := by decide +kernel
theorem dX10_lineTold_63 : decode cX10_lineTold 63 = .ok (.getfield 45, 3) := by decide +kernel
theorem dX10_lineTold_66 : decode cX10_lineTold 66 = .ok (.getfield 89, 3) := by decide +kernel
theorem dX10_lineTold_69 : decode cX10_lineTold 69 = .ok (.iload_n 1, 1) := by decide +kernel
theorem dX10_lineTold_70 : decode cX10_lineTold 70 = .ok (.iaload, 1) := by decide +kernel
theorem dX10_lineTold_71 : decode cX10_lineTold 71 = .ok (.aload_n 0, 1) := by decide +kernel
theorem dX10_lineTold_72 : decode cX10_lineTold 72 = .ok (.getfield 45, 3) := by decide +kernel
theorem dX10_lineTold_75 : decode cX10_lineTold 75 = .ok (.getfield 111, 3) := by decide +kernel
theorem dX10_lineTold_78 : decode cX10_lineTold 78 = .ok (.iload_n 1, 1) := by decide +kernel
theorem dX10_lineTold_79 : decode cX10_lineTold 79 = .ok (.iaload, 1) := by decide +kernel
theorem dX10_lineTold_80 : decode cX10_lineTold 80 = .ok (.isub, 1) := by decide +kernel
theorem dX10_lineTold_81 : decode cX10_lineTold 81 = .ok (.iastore, 1) := by decide +kernel
theorem dX10_lineTold_82 : decode cX10_lineTold 82 = .ok (.dup, 1) := by decide +kernel
theorem dX10_lineTold_83 : decode cX10_lineTold 83 = .ok (.bipush 7, 2) := by decide +kernel
theorem dX10_lineTold_85 : decode cX10_lineTold 85 = .ok (.aload_n 0, 1) := by decide +kernel
theorem dX10_lineTold_86 : decode cX10_lineTold 86 = .ok (.getfield 45, 3) := by decide +kernel
theorem dX10_lineTold_89 : decode cX10_lineTold 89 = .ok (.iload_n 1, 1) := by decide +kernel
theorem dX10_lineTold_90 : decode cX10_lineTold 90 = .ok (.invokevirtual 114, 3) := by decide +kernel
theorem dX10_lineTold_93 : decode cX10_lineTold 93 = .ok (.iastore, 1) := by decide +kernel
theorem dX10_lineTold_94 : decode cX10_lineTold 94 = .ok (.dup, 1) := by decide +kernel
theorem dX10_lineTold_95 : decode cX10_lineTold 95 = .ok (.bipush 8, 2) := by decide +kernel
theorem dX10_lineTold_97 : decode cX10_lineTold 97 = .ok (.aload_n 0, 1) := by decide +kernel
theorem dX10_lineTold_98 : decode cX10_lineTold 98 = .ok (.getfield 45, 3) := by decide +kernel
theorem dX10_lineTold_101 : decode cX10_lineTold 101 = .ok (.getfield 117, 3) := by decide +kernel
theorem dX10_lineTold_104 : decode cX10_lineTold 104 = .ok (.iload_n 1, 1) := by decide +kernel
theorem dX10_lineTold_105 : decode cX10_lineTold 105 = .ok (.iaload, 1) := by decide +kernel
theorem dX10_lineTold_106 : decode cX10_lineTold 106 = .ok (.iastore, 1) := by decide +kernel
theorem dX10_lineTold_107 : decode cX10_lineTold 107 = .ok (.dup, 1) := by decide +kernel
theorem dX10_lineTold_108 : decode cX10_lineTold 108 = .ok (.bipush 9, 2) := by decide +kernel
theorem dX10_lineTold_110 : decode cX10_lineTold 110 = .ok (.aload_n 0, 1) := by decide +kernel
theorem dX10_lineTold_111 : decode cX10_lineTold 111 = .ok (.getfield 45, 3) := by decide +kernel
theorem dX10_lineTold_114 : decode cX10_lineTold 114 = .ok (.getfield 120, 3) := by decide +kernel
theorem dX10_lineTold_117 : decode cX10_lineTold 117 = .ok (.iload_n 1, 1) := by decide +kernel
theorem dX10_lineTold_118 : decode cX10_lineTold 118 = .ok (.iaload, 1) := by decide +kernel
theorem dX10_lineTold_119 : decode cX10_lineTold 119 = .ok (.iastore, 1) := by decide +kernel
theorem dX10_lineTold_120 : decode cX10_lineTold 120 = .ok (.dup, 1) := by decide +kernel
theorem dX10_lineTold_121 : decode cX10_lineTold 121 = .ok (.bipush 10, 2) := by decide +kernel
theorem dX10_lineTold_123 : decode cX10_lineTold 123 = .ok (.aload_n 0, 1) := by decide +kernel
theorem dX10_lineTold_124 : decode cX10_lineTold 124 = .ok (.iload_n 1, 1) := by decide +kernel
theorem dX10_lineTold_125 : decode cX10_lineTold 125 = .ok (.aload_n 0, 1) := by decide +kernel
theorem dX10_lineTold_126 : decode cX10_lineTold 126 = .ok (.getfield 45, 3) := by decide +kernel
theorem dX10_lineTold_129 : decode cX10_lineTold 129 = .ok (.getfield 123, 3) := by decide +kernel
theorem dX10_lineTold_132 : decode cX10_lineTold 132 = .ok (.invokevirtual 126, 3) := by decide +kernel
theorem dX10_lineTold_135 : decode cX10_lineTold 135 = .ok (.ifCond .eq 7, 3) := by decide +kernel
theorem dX10_lineTold_138 : decode cX10_lineTold 138 = .ok (.iconst 1, 1) := by decide +kernel
theorem dX10_lineTold_139 : decode cX10_lineTold 139 = .ok (.goto 4, 3) := by decide +kernel
theorem dX10_lineTold_142 : decode cX10_lineTold 142 = .ok (.iconst 0, 1) := by decide +kernel
theorem dX10_lineTold_143 : decode cX10_lineTold 143 = .ok (.iastore, 1) := by decide +kernel
theorem dX10_lineTold_144 : decode cX10_lineTold 144 = .ok (.astore_n 3, 1) := by decide +kernel
theorem dX10_lineTold_145 : decode cX10_lineTold 145 = .ok (.aload_n 3, 1) := by decide +kernel
theorem dX10_lineTold_146 : decode cX10_lineTold 146 = .ok (.iload_n 2, 1) := by decide +kernel
theorem dX10_lineTold_147 : decode cX10_lineTold 147 = .ok (.iaload, 1) := by decide +kernel
theorem dX10_lineTold_148 : decode cX10_lineTold 148 = .ok (.ireturn, 1) := by decide +kernel
theorem dX10_line_0 : decode cX10_line 0 = .ok (.aload_n 0, 1) := by decide +kernel
theorem dX10_line_1 : decode cX10_line 1 = .ok (.iconst 0, 1) := by decide +kernel
theorem dX10_line_2 : decode cX10_line 2 = .ok (.putfield 52, 3) := by decide +kernel
theorem dX10_line_5 : decode cX10_line 5 = .ok (.aload_n 0, 1) := by decide +kernel
theorem dX10_line_6 : decode cX10_line 6 = .ok (.iload_n 1, 1) := by decide +kernel
theorem dX10_line_7 : decode cX10_line 7 = .ok (.invokevirtual 92, 3) := by decide +kernel
theorem dX10_line_10 : decode cX10_line 10 = .ok (.ifCond .eq 22, 3) := by decide +kernel
theorem dX10_line_13 : decode cX10_line 13 = .ok (.iload_n 2, 1) := by decide +kernel
theorem dX10_line_14 : decode cX10_line 14 = .ok (.iconst 0, 1) := by decide +kernel
theorem dX10_line_15 : decode cX10_line 15 = .ok (.bipush 10, 2) := by decide +kernel
theorem dX10_line_17 : decode cX10_line 17 = .ok (.invokestatic 59, 3) := by decide +kernel
theorem dX10_line_20 : decode cX10_line 20 = .ok (.ifCond .eq 12, 3) := by decide +kernel
theorem dX10_line_23 : decode cX10_line 23 = .ok (.aload_n 0, 1) := by decide +kernel
theorem dX10_line_24 : decode cX10_line 24 = .ok (.iload_n 1, 1) := by decide +kernel
theorem dX10_line_25 : decode cX10_line 25 = .ok (.iload_n 2, 1) := by decide +kernel
theorem dX10_line_26 : decode cX10_line 26 = .ok (.invokevirtual 130, 3) := by decide +kernel
theorem dX10_line_29 : decode cX10_line 29 = .ok (.goto 8, 3) := by decide +kernel
theorem dX10_line_32 : decode cX10_line 32 = .ok (.aload_n 0, 1) := by decide +kernel
theorem dX10_line_33 : decode cX10_line 33 = .ok (.iconst 1, 1) := by decide +kernel
theorem dX10_line_34 : decode cX10_line 34 = .ok (.invokevirtual 82, 3) := by decide +kernel
theorem dX10_line_37 : decode cX10_line 37 = .ok (.ireturn, 1) := by decide +kernel
theorem dX10_ride_0 : decode cX10_ride 0 = .ok (.aload_n 0, 1) := by decide +kernel
theorem dX10_ride_1 : decode cX10_ride 1 = .ok (.iconst 0, 1) := by decide +kernel
theorem dX10_ride_2 : decode cX10_ride 2 = .ok (.putfield 52, 3) := by decide +kernel
theorem dX10_ride_5 : decode cX10_ride 5 = .ok (.aload_n 0, 1) := by decide +kernel
theorem dX10_ride_6 : decode cX10_ride 6 = .ok (.iload_n 1, 1) := by decide +kernel
theorem dX10_ride_7 : decode cX10_ride 7 = .ok (.invokevirtual 92, 3) := by decide +kernel
theorem dX10_ride_10 : decode cX10_ride 10 = .ok (.ifCond .ne 9, 3) := by decide +kernel
theorem dX10_ride_13 : decode cX10_ride 13 = .ok (.aload_n 0, 1) := by decide +kernel
theorem dX10_ride_14 : decode cX10_ride 14 = .ok (.iconst 1, 1) := by decide +kernel
theorem dX10_ride_15 : decode cX10_ride 15 = .ok (.invokevirtual 82, 3) := by decide +kernel
theorem dX10_ride_18 : decode cX10_ride 18 = .ok (.ireturn, 1) := by decide +kernel
theorem dX10_ride_19 : decode cX10_ride 19 = .ok (.iload_n 2, 1) := by decide +kernel
theorem dX10_ride_20 : decode cX10_ride 20 = .ok (.bipush 20, 2) := by decide +kernel
theorem dX10_ride_22 : decode cX10_ride 22 = .ok (.bipush 120, 2) := by decide +kernel
theorem dX10_ride_24 : decode cX10_ride 24 = .ok (.invokestatic 59, 3) := by decide +kernel
theorem dX10_ride_27 : decode cX10_ride 27 = .ok (.ifCond .ne 9, 3) := by decide +kernel
theorem dX10_ride_30 : decode cX10_ride 30 = .ok (.aload_n 0, 1) := by decide +kernel
theorem dX10_ride_31 : decode cX10_ride 31 = .ok (.iconst 2, 1) := by decide +kernel
theorem dX10_ride_32 : decode cX10_ride 32 = .ok (.invokevirtual 82, 3) := by decide +kernel
theorem dX10_ride_35 : decode cX10_ride 35 = .ok (.ireturn, 1) := by decide +kernel
theorem dX10_ride_36 : decode cX10_ride 36 = .ok (.aload_n 0, 1) := by decide +kernel
theorem dX10_ride_37 : decode cX10_ride 37 = .ok (.getfield 25, 3) := by decide +kernel
theorem dX10_ride_40 : decode cX10_ride 40 = .ok (.iload_n 1, 1) := by decide +kernel
theorem dX10_ride_41 : decode cX10_ride 41 = .ok (.iaload, 1) := by decide +kernel
theorem dX10_ride_42 : decode cX10_ride 42 = .ok (.iload_n 2, 1) := by decide +kernel
theorem dX10_ride_43 : decode cX10_ride 43 = .ok (.if_icmp .ge 7, 3) := by decide +kernel
theorem dX10_ride_46 : decode cX10_ride 46 = .ok (.iconst 0, 1) := by decide +kernel
theorem dX10_ride_47 : decode cX10_ride 47 = .ok (.goto 9, 3) := by decide +kernel
theorem dX10_ride_50 : decode cX10_ride 50 = .ok (.aload_n 0, 1) := by decide +kernel
theorem dX10_ride_51 : decode cX10_ride 51 = .ok (.iload_n 1, 1) := by decide +kernel
theorem dX10_ride_52 : decode cX10_ride 52 = .ok (.iload_n 2, 1) := by decide +kernel
theorem dX10_ride_53 : decode cX10_ride 53 = .ok (.invokevirtual 133, 3) := by decide +kernel
theorem dX10_ride_56 : decode cX10_ride 56 = .ok (.ireturn, 1) := by decide +kernel
theorem dX10_come_0 : decode cX10_come 0 = .ok (.aload_n 0, 1) := by decide +kernel
theorem dX10_come_1 : decode cX10_come 1 = .ok (.iconst 0, 1) := by decide +kernel
theorem dX10_come_2 : decode cX10_come 2 = .ok (.putfield 52, 3) := by decide +kernel
theorem dX10_come_5 : decode cX10_come 5 = .ok (.aload_n 0, 1) := by decide +kernel
theorem dX10_come_6 : decode cX10_come 6 = .ok (.iload_n 1, 1) := by decide +kernel
theorem dX10_come_7 : decode cX10_come 7 = .ok (.invokevirtual 85, 3) := by decide +kernel
theorem dX10_come_10 : decode cX10_come 10 = .ok (.ifCond .eq 11, 3) := by decide +kernel
theorem dX10_come_13 : decode cX10_come 13 = .ok (.aload_n 0, 1) := by decide +kernel
theorem dX10_come_14 : decode cX10_come 14 = .ok (.iload_n 2, 1) := by decide +kernel
theorem dX10_come_15 : decode cX10_come 15 = .ok (.invokevirtual 85, 3) := by decide +kernel
theorem dX10_come_18 : decode cX10_come 18 = .ok (.ifCond .ne 9, 3) := by decide +kernel
theorem dX10_come_21 : decode cX10_come 21 = .ok (.aload_n 0, 1) := by decide +kernel
theorem dX10_come_22 : decode cX10_come 22 = .ok (.iconst 1, 1) := by decide +kernel
theorem dX10_come_23 : decode cX10_come 23 = .ok (.invokevirtual 82, 3) := by decide +kernel
theorem dX10_come_26 : decode cX10_come 26 = .ok (.ireturn, 1) := by decide +kernel
theorem dX10_come_27 : decode cX10_come 27 = .ok (.iload_n 3, 1) := by decide +kernel
theorem dX10_come_28 : decode cX10_come 28 = .ok (.bipush 20, 2) := by decide +kernel
theorem dX10_come_30 : decode cX10_come 30 = .ok (.bipush 120, 2) := by decide +kernel
theorem dX10_come_32 : decode cX10_come 32 = .ok (.invokestatic 59, 3) := by decide +kernel
theorem dX10_come_35 : decode cX10_come 35 = .ok (.ifCond .eq 14, 3) := by decide +kernel
theorem dX10_come_38 : decode cX10_come 38 = .ok (.iload 4, 2) := by decide +kernel
theorem dX10_come_40 : decode cX10_come 40 = .ok (.iconst 1, 1) := by decide +kernel
theorem dX10_come_41 : decode cX10_come 41 = .ok (.bipush 60, 2) := by decide +kernel
theorem dX10_come_43 : decode cX10_come 43 = .ok (.invokestatic 59, 3) := by decide +kernel
theorem dX10_come_46 : decode cX10_come 46 = .ok (.ifCond .ne 9, 3) := by decide +kernel
theorem dX10_come_49 : decode cX10_come 49 = .ok (.aload_n 0, 1) := by decide +kernel
theorem dX10_come_50 : decode cX10_come 50 = .ok (.iconst 2, 1) := by decide +kernel
theorem dX10_come_51 : decode cX10_come 51 = .ok (.invokevirtual 82, 3) := by decide +kernel
theorem dX10_come_54 : decode cX10_come 54 = .ok (.ireturn, 1) := by decide +kernel
theorem dX10_come_55 : decode cX10_come 55 = .ok (.aload_n 0, 1) := by decide +kernel
theorem dX10_come_56 : decode cX10_come 56 = .ok (.getfield 95, 3) := by decide +kernel
theorem dX10_come_59 : decode cX10_come 59 = .ok (.bipush 12, 2) := by decide +kernel
theorem dX10_come_61 : decode cX10_come 61 = .ok (.if_icmp .ne 9, 3) := by decide +kernel
theorem dX10_come_64 : decode cX10_come 64 = .ok (.aload_n 0, 1) := by decide +kernel
theorem dX10_come_65 : decode cX10_come 65 = .ok (.iconst 3, 1) := by decide +kernel
theorem dX10_come_66 : decode cX10_come 66 = .ok (.invokevirtual 82, 3) := by decide +kernel
theorem dX10_come_69 : decode cX10_come 69 = .ok (.ireturn, 1) := by decide +kernel
theorem dX10_come_70 : decode cX10_come 70 = .ok (.aload_n 0, 1) := by decide +kernel
theorem dX10_come_71 : decode cX10_come 71 = .ok (.getfield 31, 3) := by decide +kernel
theorem dX10_come_74 : decode cX10_come 74 = .ok (.aload_n 0, 1) := by decide +kernel
theorem dX10_come_75 : decode cX10_come 75 = .ok (.getfield 95, 3) := by decide +kernel
theorem dX10_come_78 : decode cX10_come 78 = .ok (.iload_n 3, 1) := by decide +kernel
theorem dX10_come_79 : decode cX10_come 79 = .ok (.iastore, 1) := by decide +kernel
theorem dX10_come_80 : decode cX10_come 80 = .ok (.aload_n 0, 1) := by decide +kernel
theorem dX10_come_81 : decode cX10_come 81 = .ok (.getfield 34, 3) := by decide +kernel
theorem dX10_come_84 : decode cX10_come 84 = .ok (.aload_n 0, 1) := by decide +kernel
theorem dX10_come_85 : decode cX10_come 85 = .ok (.getfield 95, 3) := by decide +kernel
theorem dX10_come_88 : decode cX10_come 88 = .ok (.iload 4, 2) := by decide +kernel
theorem dX10_come_90 : decode cX10_come 90 = .ok (.iastore, 1) := by decide +kernel
theorem dX10_come_91 : decode cX10_come 91 = .ok (.aload_n 0, 1) := by decide +kernel
theorem dX10_come_92 : decode cX10_come 92 = .ok (.getfield 37, 3) := by decide +kernel
theorem dX10_come_95 : decode cX10_come 95 = .ok (.aload_n 0, 1) := by decide +kernel
theorem dX10_come_96 : decode cX10_come 96 = .ok (.getfield 95, 3) := by decide +kernel
theorem dX10_come_99 : decode cX10_come 99 = .ok (.iload_n 2, 1) := by decide +kernel
theorem dX10_come_100 : decode cX10_come 100 = .ok (.iastore, 1) := by decide +kernel
theorem dX10_come_101 : decode cX10_come 101 = .ok (.aload_n 0, 1) := by decide +kernel
theorem dX10_come_102 : decode cX10_come 102 = .ok (.getfield 45, 3) := by decide +kernel
theorem dX10_come_105 : decode cX10_come 105 = .ok (.getfield 136, 3) := by decide +kernel
theorem dX10_come_108 : decode cX10_come 108 = .ok (.aload_n 0, 1) := by decide +kernel
theorem dX10_come_109 : decode cX10_come 109 = .ok (.getfield 95, 3) := by decide +kernel
theorem dX10_come_112 : decode cX10_come 112 = .ok (.iconst (-1), 1) := by decide +kernel
theorem dX10_come_113 : decode cX10_come 113 = .ok (.iastore, 1) := by decide +kernel
theorem dX10_come_114 : decode cX10_come 114 = .ok (.aload_n 0, 1) := by decide +kernel
theorem dX10_come_115 : decode cX10_come 115 = .ok (.dup, 1) := by decide +kernel
theorem dX10_come_116 : decode cX10_come 116 = .ok (.getfield 95, 3) := by decide +kernel
theorem dX10_come_119 : decode cX10_come 119 = .ok (.iconst 1, 1) := by decide +kernel
theorem dX10_come_120 : decode cX10_come 120 = .ok (.iadd, 1) := by decide +kernel
theorem dX10_come_121 : decode cX10_come 121 = .ok (.putfield 95, 3) := by decide +kernel
theorem dX10_come_124 : decode cX10_come 124 = .ok (.aload_n 0, 1) := by decide +kernel
theorem dX10_come_125 : decode cX10_come 125 = .ok (.getfield 45, 3) := by decide +kernel
theorem dX10_come_128 : decode cX10_come 128 = .ok (.aload_n 0, 1) := by decide +kernel
theorem dX10_come_129 : decode cX10_come 129 = .ok (.getfield 95, 3) := by decide +kernel
theorem dX10_come_132 : decode cX10_come 132 = .ok (.iconst 1, 1) := by decide +kernel
theorem dX10_come_133 : decode cX10_come 133 = .ok (.isub, 1) := by decide +kernel
theorem dX10_come_134 : decode cX10_come 134 = .ok (.iload_n 1, 1) := by decide +kernel
theorem dX10_come_135 : decode cX10_come 135 = .ok (.invokevirtual 139, 3) := by decide +kernel
theorem dX10_come_138 : decode cX10_come 138 = .ok (.aload_n 0, 1) := by decide +kernel
theorem dX10_come_139 : decode cX10_come 139 = .ok (.getfield 95, 3) := by decide +kernel
theorem dX10_come_142 : decode cX10_come 142 = .ok (.iconst 1, 1) := by decide +kernel
theorem dX10_come_143 : decode cX10_come 143 = .ok (.isub, 1) := by decide +kernel
theorem dX10_come_144 : decode cX10_come 144 = .ok (.ireturn, 1) := by decide +kernel
theorem dX10_riderTold_0 : decode cX10_riderTold 0 = .ok (.iload_n 2, 1) := by decide +kernel
theorem dX10_riderTold_1 : decode cX10_riderTold 1 = .ok (.iconst 3, 1) := by decide +kernel
theorem dX10_riderTold_2 : decode cX10_riderTold 2 = .ok (.if_icmp .ge 37, 3) := by decide +kernel
theorem dX10_riderTold_5 : decode cX10_riderTold 5 = .ok (.iload_n 2, 1) := by decide +kernel
theorem dX10_riderTold_6 : decode cX10_riderTold 6 = .ok (.ifCond .ne 12, 3) := by decide +kernel
theorem dX10_riderTold_9 : decode cX10_riderTold 9 = .ok (.aload_n 0, 1) := by decide +kernel
theorem dX10_riderTold_10 : decode cX10_riderTold 10 = .ok (.getfield 31, 3) := by decide +kernel
theorem dX10_riderTold_13 : decode cX10_riderTold 13 = .ok (.iload_n 1, 1) := by decide +kernel
theorem dX10_riderTold_14 : decode cX10_riderTold 14 = .ok (.iaload, 1) := by decide +kernel
theorem dX10_riderTold_15 : decode cX10_riderTold 15 = .ok (.goto 23, 3) := by decide +kernel
theorem dX10_riderTold_18 : decode cX10_riderTold 18 = .ok (.iload_n 2, 1) := by decide +kernel
theorem dX10_riderTold_19 : decode cX10_riderTold 19 = .ok (.iconst 1, 1) := by decide +kernel
theorem dX10_riderTold_20 : decode cX10_riderTold 20 = .ok (.if_icmp .ne 12, 3) := by decide +kernel
theorem dX10_riderTold_23 : decode cX10_riderTold 23 = .ok (.aload_n 0, 1) := by decide +kernel
theorem dX10_riderTold_24 : decode cX10_riderTold 24 = .ok (.getfield 34, 3) := by decide +kernel
theorem dX10_riderTold_27 : decode cX10_riderTold 27 = .ok (.iload_n 1, 1) := by decide +kernel
theorem dX10_riderTold_28 : decode cX10_riderTold 28 = .ok (.iaload, 1) := by decide +kernel
theorem dX10_riderTold_29 : decode cX10_riderTold 29 = .ok (.goto 9, 3) := by decide +kernel
theorem dX10_riderTold_32 : decode cX10_riderTold 32 = .ok (.aload_n 0, 1) := by decide +kernel
theorem dX10_riderTold_33 : decode cX10_riderTold 33 = .ok (.getfield 37, 3) := by decide +kernel
theorem dX10_riderTold_36 : decode cX10_riderTold 36 = .ok (.iload_n 1, 1) := by decide +kernel
theorem dX10_riderTold_37 : decode cX10_riderTold 37 = .ok (.iaload, 1) := by decide +kernel
theorem dX10_riderTold_38 : decode cX10_riderTold 38 = .ok (.ireturn, 1) := by decide +kernel
theorem dX10_riderTold_39 : decode cX10_riderTold 39 = .ok (.aload_n 0, 1) := by decide +kernel
theorem dX10_riderTold_40 : decode cX10_riderTold 40 = .ok (.getfield 45, 3) := by decide +kernel
theorem dX10_riderTold_43 : decode cX10_riderTold 43 = .ok (.getfield 98, 3) := by decide +kernel
theorem dX10_riderTold_46 : decode cX10_riderTold 46 = .ok (.iload_n 1, 1) := by decide +kernel
theorem dX10_riderTold_47 : decode cX10_riderTold 47 = .ok (.iaload, 1) := by decide +kernel
theorem dX10_riderTold_48 : decode cX10_riderTold 48 = .ok (.ifCond .ne 7, 3) := by decide +kernel
theorem dX10_riderTold_51 : decode cX10_riderTold 51 = .ok (.iconst 1, 1) := by decide +kernel
theorem dX10_riderTold_52 : decode cX10_riderTold 52 = .ok (.goto 4, 3) := by decide +kernel
theorem dX10_riderTold_55 : decode cX10_riderTold 55 = .ok (.iconst 0, 1) := by decide +kernel
theorem dX10_riderTold_56 : decode cX10_riderTold 56 = .ok (.istore_n 3, 1) := by decide +kernel
theorem dX10_riderTold_57 : decode cX10_riderTold 57 = .ok (.iload_n 2, 1) := by decide +kernel
theorem dX10_riderTold_58 : decode cX10_riderTold 58 = .ok (.tableswitch 234 3 9 #[42, 52, 83, 110, 152, 190, 224], 42) := by decide +kernel
theorem dX10_riderTold_100 : decode cX10_riderTold 100 = .ok (.aload_n 0, 1) := by decide +kernel
theorem dX10_riderTold_101 : decode cX10_riderTold 101 = .ok (.getfield 45, 3) := by decide +kernel
theorem dX10_riderTold_104 : decode cX10_riderTold 104 = .ok (.getfield 98, 3) := by decide +kernel
theorem dX10_riderTold_107 : decode cX10_riderTold 107 = .ok (.iload_n 1, 1) := by decide +kernel
theorem dX10_riderTold_108 : decode cX10_riderTold 108 = .ok (.iaload, 1) := by decide +kernel
theorem dX10_riderTold_109 : decode cX10_riderTold 109 = .ok (.ireturn, 1) := by decide +kernel
theorem dX10_riderTold_110 : decode cX10_riderTold 110 = .ok (.iload_n 3, 1) := by decide +kernel
theorem dX10_riderTold_111 : decode cX10_riderTold 111 = .ok (.ifCond .ne 16, 3) := by decide +kernel
theorem dX10_riderTold_114 : decode cX10_riderTold 114 = .ok (.aload_n 0, 1) := by decide +kernel
theorem dX10_riderTold_115 : decode cX10_riderTold 115 = .ok (.getfield 45, 3) := by decide +kernel
theorem dX10_riderTold_118 : decode cX10_riderTold 118 = .ok (.getfield 98, 3) := by decide +kernel
theorem dX10_riderTold_121 : decode cX10_riderTold 121 = .ok (.iload_n 1, 1) := by decide +kernel
theorem dX10_riderTold_122 : decode cX10_riderTold 122 = .ok (.iaload, 1) := by decide +kernel
theorem dX10_riderTold_123 : decode cX10_riderTold 123 = .ok (.iconst 2, 1) := by decide +kernel
theorem dX10_riderTold_124 : decode cX10_riderTold 124 = .ok (.if_icmp .ne 15, 3) := by decide +kernel
theorem dX10_riderTold_127 : decode cX10_riderTold 127 = .ok (.aload_n 0, 1) := by decide +kernel
theorem dX10_riderTold_128 : decode cX10_riderTold 128 = .ok (.getfield 45, 3) := by decide +kernel
theorem dX10_riderTold_131 : decode cX10_riderTold 131 = .ok (.getfield 143, 3) := by decide +kernel
theorem dX10_riderTold_134 : decode cX10_riderTold 134 = .ok (.iload_n 1, 1) := by decide +kernel
theorem dX10_riderTold_135 : decode cX10_riderTold 135 = .ok (.iaload, 1) := by decide +kernel
theorem dX10_riderTold_136 : decode cX10_riderTold 136 = .ok (.goto 4, 3) := by decide +kernel
theorem dX10_riderTold_139 : decode cX10_riderTold 139 = .ok (.iconst (-1), 1) := by decide +kernel
theorem dX10_riderTold_140 : decode cX10_riderTold 140 = .ok (.ireturn, 1) := by decide +kernel
theorem dX10_riderTold_141 : decode cX10_riderTold 141 = .ok (.aload_n 0, 1) := by decide +kernel
theorem dX10_riderTold_142 : decode cX10_riderTold 142 = .ok (.getfield 45, 3) := by decide +kernel
theorem dX10_riderTold_145 : decode cX10_riderTold 145 = .ok (.getfield 98, 3) := by decide +kernel
theorem dX10_riderTold_148 : decode cX10_riderTold 148 = .ok (.iload_n 1, 1) := by decide +kernel
theorem dX10_riderTold_149 : decode cX10_riderTold 149 = .ok (.iaload, 1) := by decide +kernel
theorem dX10_riderTold_150 : decode cX10_riderTold 150 = .ok (.iconst 1, 1) := by decide +kernel
theorem dX10_riderTold_151 : decode cX10_riderTold 151 = .ok (.if_icmp .ne 15, 3) := by decide +kernel
theorem dX10_riderTold_154 : decode cX10_riderTold 154 = .ok (.aload_n 0, 1) := by decide +kernel
theorem dX10_riderTold_155 : decode cX10_riderTold 155 = .ok (.getfield 45, 3) := by decide +kernel
theorem dX10_riderTold_158 : decode cX10_riderTold 158 = .ok (.getfield 143, 3) := by decide +kernel
theorem dX10_riderTold_161 : decode cX10_riderTold 161 = .ok (.iload_n 1, 1) := by decide +kernel
theorem dX10_riderTold_162 : decode cX10_riderTold 162 = .ok (.iaload, 1) := by decide +kernel
theorem dX10_riderTold_163 : decode cX10_riderTold 163 = .ok (.goto 4, 3) := by decide +kernel
theorem dX10_riderTold_166 : decode cX10_riderTold 166 = .ok (.iconst (-1), 1) := by decide +kernel
theorem dX10_riderTold_167 : decode cX10_riderTold 167 = .ok (.ireturn, 1) := by decide +kernel
theorem dX10_riderTold_168 : decode cX10_riderTold 168 = .ok (.iload_n 3, 1) := by decide +kernel
theorem dX10_riderTold_169 : decode cX10_riderTold 169 = .ok (.ifCond .eq 15, 3) := by decide +kernel
theorem dX10_riderTold_172 : decode cX10_riderTold 172 = .ok (.aload_n 0, 1) := by decide +kernel
theorem dX10_riderTold_173 : decode cX10_riderTold 173 = .ok (.getfield 45, 3) := by decide +kernel
theorem dX10_riderTold_176 : decode cX10_riderTold 176 = .ok (.getfield 146, 3) := by decide +kernel
theorem dX10_riderTold_179 : decode cX10_riderTold 179 = .ok (.iload_n 1, 1) := by decide +kernel
theorem dX10_riderTold_180 : decode cX10_riderTold 180 = .ok (.iaload, 1) := by decide +kernel
theorem dX10_riderTold_181 : decode cX10_riderTold 181 = .ok (.goto 28, 3) := by decide +kernel
theorem dX10_riderTold_184 : decode cX10_riderTold 184 = .ok (.aload_n 0, 1) := by decide +kernel
theorem dX10_riderTold_185 : decode cX10_riderTold 185 = .ok (.getfield 45, 3) := by decide +kernel
theorem dX10_riderTold_188 : decode cX10_riderTold 188 = .ok (.getfield 98, 3) := by decide +kernel
theorem dX10_riderTold_191 : decode cX10_riderTold 191 = .ok (.iload_n 1, 1) := by decide +kernel
theorem dX10_riderTold_192 : decode cX10_riderTold 192 = .ok (.iaload, 1) := by decide +kernel
theorem dX10_riderTold_193 : decode cX10_riderTold 193 = .ok (.iconst 1, 1) := by decide +kernel
theorem dX10_riderTold_194 : decode cX10_riderTold 194 = .ok (.if_icmp .ne 14, 3) := by decide +kernel
theorem dX10_riderTold_197 : decode cX10_riderTold 197 = .ok (.aload_n 0, 1) := by decide +kernel
theorem dX10_riderTold_198 : decode cX10_riderTold 198 = .ok (.getfield 45, 3) := by decide +kernel
theorem dX10_riderTold_201 : decode cX10_riderTold 201 = .ok (.iload_n 1, 1) := by decide +kernel
theorem dX10_riderTold_202 : decode cX10_riderTold 202 = .ok (.invokevirtual 149, 3) := by decide +kernel
theorem dX10_riderTold_205 : decode cX10_riderTold 205 = .ok (.goto 4, 3) := by decide +kernel
theorem dX10_riderTold_208 : decode cX10_riderTold 208 = .ok (.iconst 0, 1) := by decide +kernel
theorem dX10_riderTold_209 : decode cX10_riderTold 209 = .ok (.ireturn, 1) := by decide +kernel
theorem dX10_riderTold_210 : decode cX10_riderTold 210 = .ok (.iload_n 3, 1) := by decide +kernel
theorem dX10_riderTold_211 : decode cX10_riderTold 211 = .ok (.ifCond .eq 35, 3) := by decide +kernel
theorem dX10_riderTold_214 : decode cX10_riderTold 214 = .ok (.iconst 0, 1) := by decide +kernel
theorem dX10_riderTold_215 : decode cX10_riderTold 215 = .ok (.aload_n 0, 1) := by decide +kernel
theorem dX10_riderTold_216 : decode cX10_riderTold 216 = .ok (.aload_n 0, 1) := by decide +kernel
theorem dX10_riderTold_217 : decode cX10_riderTold 217 = .ok (.getfield 45, 3) := by decide +kernel
theorem dX10_riderTold_220 : decode cX10_riderTold 220 = .ok (.getfield 143, 3) := by decide +kernel
theorem dX10_riderTold_223 : decode cX10_riderTold 223 = .ok (.iload_n 1, 1) := by decide +kernel
theorem dX10_riderTold_224 : decode cX10_riderTold 224 = .ok (.iaload, 1) := by decide +kernel
theorem dX10_riderTold_225 : decode cX10_riderTold 225 = .ok (.aload_n 0, 1) := by decide +kernel
theorem dX10_riderTold_226 : decode cX10_riderTold 226 = .ok (.getfield 37, 3) := by decide +kernel
theorem dX10_riderTold_229 : decode cX10_riderTold 229 = .ok (.iload_n 1, 1) := by decide +kernel
theorem dX10_riderTold_230 : decode cX10_riderTold 230 = .ok (.iaload, 1) := by decide +kernel
theorem dX10_riderTold_231 : decode cX10_riderTold 231 = .ok (.aload_n 0, 1) := by decide +kernel
theorem dX10_riderTold_232 : decode cX10_riderTold 232 = .ok (.getfield 31, 3) := by decide +kernel
theorem dX10_riderTold_235 : decode cX10_riderTold 235 = .ok (.iload_n 1, 1) := by decide +kernel
theorem dX10_riderTold_236 : decode cX10_riderTold 236 = .ok (.iaload, 1) := by decide +kernel
theorem dX10_riderTold_237 : decode cX10_riderTold 237 = .ok (.invokevirtual 78, 3) := by decide +kernel
theorem dX10_riderTold_240 : decode cX10_riderTold 240 = .ok (.invokestatic 152, 3) := by decide +kernel
theorem dX10_riderTold_243 : decode cX10_riderTold 243 = .ok (.goto 4, 3) := by decide +kernel
theorem dX10_riderTold_246 : decode cX10_riderTold 246 = .ok (.iconst 0, 1) := by decide +kernel
theorem dX10_riderTold_247 : decode cX10_riderTold 247 = .ok (.ireturn, 1) := by decide +kernel
theorem dX10_riderTold_248 : decode cX10_riderTold 248 = .ok (.iload_n 3, 1) := by decide +kernel
theorem dX10_riderTold_249 : decode cX10_riderTold 249 = .ok (.ifCond .eq 31, 3) := by decide +kernel
theorem dX10_riderTold_252 : decode cX10_riderTold 252 = .ok (.aload_n 0, 1) := by decide +kernel
theorem dX10_riderTold_253 : decode cX10_riderTold 253 = .ok (.aload_n 0, 1) := by decide +kernel
theorem dX10_riderTold_254 : decode cX10_riderTold 254 = .ok (.getfield 45, 3) := by decide +kernel
theorem dX10_riderTold_257 : decode cX10_riderTold 257 = .ok (.getfield 143, 3) := by decide +kernel
theorem dX10_riderTold_260 : decode cX10_riderTold 260 = .ok (.iload_n 1, 1) := by decide +kernel
theorem dX10_riderTold_261 : decode cX10_riderTold 261 = .ok (.iaload, 1) := by decide +kernel
theorem dX10_riderTold_262 : decode cX10_riderTold 262 = .ok (.aload_n 0, 1) := by decide +kernel
theorem dX10_riderTold_263 : decode cX10_riderTold 263 = .ok (.getfield 37, 3) := by decide +kernel
theorem dX10_riderTold_266 : decode cX10_riderTold 266 = .ok (.iload_n 1, 1) := by decide +kernel
theorem dX10_riderTold_267 : decode cX10_riderTold 267 = .ok (.iaload, 1) := by decide +kernel
theorem dX10_riderTold_268 : decode cX10_riderTold 268 = .ok (.aload_n 0, 1) := by decide +kernel
theorem dX10_riderTold_269 : decode cX10_riderTold 269 = .ok (.getfield 31, 3) := by decide +kernel
theorem dX10_riderTold_272 : decode cX10_riderTold 272 = .ok (.iload_n 1, 1) := by decide +kernel
theorem dX10_riderTold_273 : decode cX10_riderTold 273 = .ok (.iaload, 1) := by decide +kernel
theorem dX10_riderTold_274 : decode cX10_riderTold 274 = .ok (.invokevirtual 155, 3) := by decide +kernel
theorem dX10_riderTold_277 : decode cX10_riderTold 277 = .ok (.goto 4, 3) := by decide +kernel
theorem dX10_riderTold_280 : decode cX10_riderTold 280 = .ok (.iconst (-1), 1) := by decide +kernel
theorem dX10_riderTold_281 : decode cX10_riderTold 281 = .ok (.ireturn, 1) := by decide +kernel
theorem dX10_riderTold_282 : decode cX10_riderTold 282 = .ok (.aload_n 0, 1) := by decide +kernel
theorem dX10_riderTold_283 : decode cX10_riderTold 283 = .ok (.getfield 45, 3) := by decide +kernel
theorem dX10_riderTold_286 : decode cX10_riderTold 286 = .ok (.getfield 158, 3) := by decide +kernel
theorem dX10_riderTold_289 : decode cX10_riderTold 289 = .ok (.iload_n 1, 1) := by decide +kernel
theorem dX10_riderTold_290 : decode cX10_riderTold 290 = .ok (.iaload, 1) := by decide +kernel
theorem dX10_riderTold_291 : decode cX10_riderTold 291 = .ok (.ireturn, 1) := by decide +kernel
theorem dX10_riderTold_292 : decode cX10_riderTold 292 = .ok (.aload_n 0, 1) := by decide +kernel
theorem dX10_riderTold_293 : decode cX10_riderTold 293 = .ok (.getfield 45, 3) := by decide +kernel
theorem dX10_riderTold_296 : decode cX10_riderTold 296 = .ok (.getfield 136, 3) := by decide +kernel
theorem dX10_riderTold_299 : decode cX10_riderTold 299 = .ok (.iload_n 1, 1) := by decide +kernel
theorem dX10_riderTold_300 : decode cX10_riderTold 300 = .ok (.iaload, 1) := by decide +kernel
theorem dX10_riderTold_301 : decode cX10_riderTold 301 = .ok (.ireturn, 1) := by decide +kernel
theorem dX10_rider_0 : decode cX10_rider 0 = .ok (.aload_n 0, 1) := by decide +kernel
theorem dX10_rider_1 : decode cX10_rider 1 = .ok (.iconst 0, 1) := by decide +kernel
theorem dX10_rider_2 : decode cX10_rider 2 = .ok (.putfield 52, 3) := by decide +kernel
theorem dX10_rider_5 : decode cX10_rider 5 = .ok (.iload_n 1, 1) := by decide +kernel
theorem dX10_rider_6 : decode cX10_rider 6 = .ok (.iconst 0, 1) := by decide +kernel
theorem dX10_rider_7 : decode cX10_rider 7 = .ok (.aload_n 0, 1) := by decide +kernel
theorem dX10_rider_8 : decode cX10_rider 8 = .ok (.getfield 95, 3) := by decide +kernel
theorem dX10_rider_11 : decode cX10_rider 11 = .ok (.iconst 1, 1) := by decide +kernel
theorem dX10_rider_12 : decode cX10_rider 12 = .ok (.isub, 1) := by decide +kernel
theorem dX10_rider_13 : decode cX10_rider 13 = .ok (.invokestatic 59, 3) := by decide +kernel
theorem dX10_rider_16 : decode cX10_rider 16 = .ok (.ifCond .eq 22, 3) := by decide +kernel
theorem dX10_rider_19 : decode cX10_rider 19 = .ok (.iload_n 2, 1) := by decide +kernel
theorem dX10_rider_20 : decode cX10_rider 20 = .ok (.iconst 0, 1) := by decide +kernel
theorem dX10_rider_21 : decode cX10_rider 21 = .ok (.bipush 10, 2) := by decide +kernel
theorem dX10_rider_23 : decode cX10_rider 23 = .ok (.invokestatic 59, 3) := by decide +kernel
theorem dX10_rider_26 : decode cX10_rider 26 = .ok (.ifCond .eq 12, 3) := by decide +kernel
theorem dX10_rider_29 : decode cX10_rider 29 = .ok (.aload_n 0, 1) := by decide +kernel
theorem dX10_rider_30 : decode cX10_rider 30 = .ok (.iload_n 1, 1) := by decide +kernel
theorem dX10_rider_31 : decode cX10_rider 31 = .ok (.iload_n 2, 1) := by decide +kernel
theorem dX10_rider_32 : decode cX10_rider 32 = .ok (.invokevirtual 161, 3) := by decide +kernel
theorem dX10_rider_35 : decode cX10_rider 35 = .ok (.goto 8, 3) := by decide +kernel
theorem dX10_rider_38 : decode cX10_rider 38 = .ok (.aload_n 0, 1) := by decide +kernel
theorem dX10_rider_39 : decode cX10_rider 39 = .ok (.iconst 1, 1) := by decide +kernel
theorem dX10_rider_40 : decode cX10_rider 40 = .ok (.invokevirtual 82, 3) := by decide +kernel
theorem dX10_rider_43 : decode cX10_rider 43 = .ok (.ireturn, 1) := by decide +kernel
theorem dX10_queue_0 : decode cX10_queue 0 = .ok (.aload_n 0, 1) := by decide +kernel
theorem dX10_queue_1 : decode cX10_queue 1 = .ok (.iconst 0, 1) := by decide +kernel
theorem dX10_queue_2 : decode cX10_queue 2 = .ok (.putfield 52, 3) := by decide +kernel
theorem dX10_queue_5 : decode cX10_queue 5 = .ok (.aload_n 0, 1) := by decide +kernel
theorem dX10_queue_6 : decode cX10_queue 6 = .ok (.iload_n 1, 1) := by decide +kernel
theorem dX10_queue_7 : decode cX10_queue 7 = .ok (.invokevirtual 85, 3) := by decide +kernel
theorem dX10_queue_10 : decode cX10_queue 10 = .ok (.ifCond .eq 39, 3) := by decide +kernel
theorem dX10_queue_13 : decode cX10_queue 13 = .ok (.iload_n 2, 1) := by decide +kernel
theorem dX10_queue_14 : decode cX10_queue 14 = .ok (.iconst 0, 1) := by decide +kernel
theorem dX10_queue_15 : decode cX10_queue 15 = .ok (.aload_n 0, 1) := by decide +kernel
theorem dX10_queue_16 : decode cX10_queue 16 = .ok (.getfield 45, 3) := by decide +kernel
theorem dX10_queue_19 : decode cX10_queue 19 = .ok (.getfield 101, 3) := by decide +kernel
theorem dX10_queue_22 : decode cX10_queue 22 = .ok (.iload_n 1, 1) := by decide +kernel
theorem dX10_queue_23 : decode cX10_queue 23 = .ok (.iaload, 1) := by decide +kernel
theorem dX10_queue_24 : decode cX10_queue 24 = .ok (.iconst 1, 1) := by decide +kernel
theorem dX10_queue_25 : decode cX10_queue 25 = .ok (.isub, 1) := by decide +kernel
theorem dX10_queue_26 : decode cX10_queue 26 = .ok (.invokestatic 59, 3) := by decide +kernel
theorem dX10_queue_29 : decode cX10_queue 29 = .ok (.ifCond .eq 20, 3) := by decide +kernel
theorem dX10_queue_32 : decode cX10_queue 32 = .ok (.aload_n 0, 1) := by decide +kernel
theorem dX10_queue_33 : decode cX10_queue 33 = .ok (.getfield 45, 3) := by decide +kernel
theorem dX10_queue_36 : decode cX10_queue 36 = .ok (.getfield 104, 3) := by decide +kernel
theorem dX10_queue_39 : decode cX10_queue 39 = .ok (.bipush 12, 2) := by decide +kernel
theorem dX10_queue_41 : decode cX10_queue 41 = .ok (.iload_n 1, 1) := by decide +kernel
theorem dX10_queue_42 : decode cX10_queue 42 = .ok (.imul, 1) := by decide +kernel
theorem dX10_queue_43 : decode cX10_queue 43 = .ok (.iload_n 2, 1) := by decide +kernel
theorem dX10_queue_44 : decode cX10_queue 44 = .ok (.iadd, 1) := by decide +kernel
theorem dX10_queue_45 : decode cX10_queue 45 = .ok (.iaload, 1) := by decide +kernel
theorem dX10_queue_46 : decode cX10_queue 46 = .ok (.goto 8, 3) := by decide +kernel
theorem dX10_queue_49 : decode cX10_queue 49 = .ok (.aload_n 0, 1) := by decide +kernel
theorem dX10_queue_50 : decode cX10_queue 50 = .ok (.iconst 1, 1) := by decide +kernel
theorem dX10_queue_51 : decode cX10_queue 51 = .ok (.invokevirtual 82, 3) := by decide +kernel
theorem dX10_queue_54 : decode cX10_queue 54 = .ok (.ireturn, 1) := by decide +kernel
theorem dX10_pass_0 : decode cX10_pass 0 = .ok (.aload_n 0, 1) := by decide +kernel
theorem dX10_pass_1 : decode cX10_pass 1 = .ok (.iconst 0, 1) := by decide +kernel
theorem dX10_pass_2 : decode cX10_pass 2 = .ok (.putfield 52, 3) := by decide +kernel
theorem dX10_pass_5 : decode cX10_pass 5 = .ok (.iload_n 1, 1) := by decide +kernel
theorem dX10_pass_6 : decode cX10_pass 6 = .ok (.iconst 1, 1) := by decide +kernel
theorem dX10_pass_7 : decode cX10_pass 7 = .ok (.bipush 100, 2) := by decide +kernel
theorem dX10_pass_9 : decode cX10_pass 9 = .ok (.invokestatic 59, 3) := by decide +kernel
theorem dX10_pass_12 : decode cX10_pass 12 = .ok (.ifCond .ne 9, 3) := by decide +kernel
theorem dX10_pass_15 : decode cX10_pass 15 = .ok (.aload_n 0, 1) := by decide +kernel
theorem dX10_pass_16 : decode cX10_pass 16 = .ok (.iconst 1, 1) := by decide +kernel
theorem dX10_pass_17 : decode cX10_pass 17 = .ok (.invokevirtual 82, 3) := by decide +kernel
theorem dX10_pass_20 : decode cX10_pass 20 = .ok (.ireturn, 1) := by decide +kernel
theorem dX10_pass_21 : decode cX10_pass 21 = .ok (.iconst 0, 1) := by decide +kernel
theorem dX10_pass_22 : decode cX10_pass 22 = .ok (.istore_n 2, 1) := by decide +kernel
theorem dX10_pass_23 : decode cX10_pass 23 = .ok (.iconst 0, 1) := by decide +kernel
theorem dX10_pass_24 : decode cX10_pass 24 = .ok (.istore_n 3, 1) := by decide +kernel
theorem dX10_pass_25 : decode cX10_pass 25 = .ok (.iload_n 3, 1) := by decide +kernel
theorem dX10_pass_26 : decode cX10_pass 26 = .ok (.iload_n 1, 1) := by decide +kernel
theorem dX10_pass_27 : decode cX10_pass 27 = .ok (.if_icmp .ge 19, 3) := by decide +kernel
theorem dX10_pass_30 : decode cX10_pass 30 = .ok (.iload_n 2, 1) := by decide +kernel
theorem dX10_pass_31 : decode cX10_pass 31 = .ok (.aload_n 0, 1) := by decide +kernel
theorem dX10_pass_32 : decode cX10_pass 32 = .ok (.getfield 45, 3) := by decide +kernel
theorem dX10_pass_35 : decode cX10_pass 35 = .ok (.invokevirtual 164, 3) := by decide +kernel
theorem dX10_pass_38 : decode cX10_pass 38 = .ok (.iadd, 1) := by decide +kernel
theorem dX10_pass_39 : decode cX10_pass 39 = .ok (.istore_n 2, 1) := by decide +kernel
theorem dX10_pass_40 : decode cX10_pass 40 = .ok (.iinc 3 1, 3) := by decide +kernel
theorem dX10_pass_43 : decode cX10_pass 43 = .ok (.goto (-18), 3) := by decide +kernel
theorem dX10_pass_46 : decode cX10_pass 46 = .ok (.iload_n 2, 1) := by decide +kernel
theorem dX10_pass_47 : decode cX10_pass 47 = .ok (.ireturn, 1) := by decide +kernel
theorem dX10_counted_0 : decode cX10_counted 0 = .ok (.iconst 0, 1) := by decide +kernel
theorem dX10_counted_1 : decode cX10_counted 1 = .ok (.istore_n 2, 1) := by decide +kernel
theorem dX10_counted_2 : decode cX10_counted 2 = .ok (.iconst 0, 1) := by decide +kernel
theorem dX10_counted_3 : decode cX10_counted 3 = .ok (.istore_n 3, 1) := by decide +kernel
theorem dX10_counted_4 : decode cX10_counted 4 = .ok (.iconst 0, 1) := by decide +kernel
theorem dX10_counted_5 : decode cX10_counted 5 = .ok (.istore 4, 2) := by decide +kernel
theorem dX10_counted_7 : decode cX10_counted 7 = .ok (.iload 4, 2) := by decide +kernel
theorem dX10_counted_9 : decode cX10_counted 9 = .ok (.aload_n 0, 1) := by decide +kernel
theorem dX10_counted_10 : decode cX10_counted 10 = .ok (.getfield 63, 3) := by decide +kernel
theorem dX10_counted_13 : decode cX10_counted 13 = .ok (.if_icmp .ge 35, 3) := by decide +kernel
theorem dX10_counted_16 : decode cX10_counted 16 = .ok (.iload_n 2, 1) := by decide +kernel
theorem dX10_counted_17 : decode cX10_counted 17 = .ok (.aload_n 0, 1) := by decide +kernel
theorem dX10_counted_18 : decode cX10_counted 18 = .ok (.getfield 45, 3) := by decide +kernel
theorem dX10_counted_21 : decode cX10_counted 21 = .ok (.getfield 89, 3) := by decide +kernel
theorem dX10_counted_24 : decode cX10_counted 24 = .ok (.iload 4, 2) := by decide +kernel
theorem dX10_counted_26 : decode cX10_counted 26 = .ok (.iaload, 1) := by decide +kernel
theorem dX10_counted_27 : decode cX10_counted 27 = .ok (.iadd, 1) := by decide +kernel
theorem dX10_counted_28 : decode cX10_counted 28 = .ok (.istore_n 2, 1) := by decide +kernel
theorem dX10_counted_29 : decode cX10_counted 29 = .ok (.iload_n 3, 1) := by decide +kernel
theorem dX10_counted_30 : decode cX10_counted 30 = .ok (.aload_n 0, 1) := by decide +kernel
theorem dX10_counted_31 : decode cX10_counted 31 = .ok (.getfield 45, 3) := by decide +kernel
theorem dX10_counted_34 : decode cX10_counted 34 = .ok (.getfield 117, 3) := by decide +kernel
theorem dX10_counted_37 : decode cX10_counted 37 = .ok (.iload 4, 2) := by decide +kernel
theorem dX10_counted_39 : decode cX10_counted 39 = .ok (.iaload, 1) := by decide +kernel
theorem dX10_counted_40 : decode cX10_counted 40 = .ok (.iadd, 1) := by decide +kernel
theorem dX10_counted_41 : decode cX10_counted 41 = .ok (.istore_n 3, 1) := by decide +kernel
theorem dX10_counted_42 : decode cX10_counted 42 = .ok (.iinc 4 1, 3) := by decide +kernel
theorem dX10_counted_45 : decode cX10_counted 45 = .ok (.goto (-38), 3) := by decide +kernel
theorem dX10_counted_48 : decode cX10_counted 48 = .ok (.bipush 10, 2) := by decide +kernel
theorem dX10_counted_50 : decode cX10_counted 50 = .ok (.newarray .int, 2) := by decide +kernel
theorem dX10_counted_52 : decode cX10_counted 52 = .ok (.dup, 1) := by decide +kernel
theorem dX10_counted_53 : decode cX10_counted 53 = .ok (.iconst 0, 1) := by decide +kernel
theorem dX10_counted_54 : decode cX10_counted 54 = .ok (.aload_n 0, 1) := by decide +kernel
theorem dX10_counted_55 : decode cX10_counted 55 = .ok (.getfield 45, 3) := by decide +kernel
theorem dX10_counted_58 : decode cX10_counted 58 = .ok (.getfield 123, 3) := by decide +kernel
theorem dX10_counted_61 : decode cX10_counted 61 = .ok (.iastore, 1) := by decide +kernel
theorem dX10_counted_62 : decode cX10_counted 62 = .ok (.dup, 1) := by decide +kernel
theorem dX10_counted_63 : decode cX10_counted 63 = .ok (.iconst 1, 1) := by decide +kernel
theorem dX10_counted_64 : decode cX10_counted 64 = .ok (.aload_n 0, 1) := by decide +kernel
theorem dX10_counted_65 : decode cX10_counted 65 = .ok (.getfield 56, 3) := by decide +kernel
theorem dX10_counted_68 : decode cX10_counted 68 = .ok (.iastore, 1) := by decide +kernel
theorem dX10_counted_69 : decode cX10_counted 69 = .ok (.dup, 1) := by decide +kernel
theorem dX10_counted_70 : decode cX10_counted 70 = .ok (.iconst 2, 1) := by decide +kernel
theorem dX10_counted_71 : decode cX10_counted 71 = .ok (.aload_n 0, 1) := by decide +kernel
theorem dX10_counted_72 : decode cX10_counted 72 = .ok (.getfield 63, 3) := by decide +kernel
theorem dX10_counted_75 : decode cX10_counted 75 = .ok (.iastore, 1) := by decide +kernel
theorem dX10_counted_76 : decode cX10_counted 76 = .ok (.dup, 1) := by decide +kernel
theorem dX10_counted_77 : decode cX10_counted 77 = .ok (.iconst 3, 1) := by decide +kernel
theorem dX10_counted_78 : decode cX10_counted 78 = .ok (.aload_n 0, 1) := by decide +kernel
theorem dX10_counted_79 : decode cX10_counted 79 = .ok (.getfield 95, 3) := by decide +kernel
theorem dX10_counted_82 : decode cX10_counted 82 = .ok (.iastore, 1) := by decide +kernel
theorem dX10_counted_83 : decode cX10_counted 83 = .ok (.dup, 1) := by decide +kernel
theorem dX10_counted_84 : decode cX10_counted 84 = .ok (.iconst 4, 1) := by decide +kernel
theorem dX10_counted_85 : decode cX10_counted 85 = .ok (.aload_n 0, 1) := by decide +kernel
theorem dX10_counted_86 : decode cX10_counted 86 = .ok (.getfield 45, 3) := by decide +kernel
theorem dX10_counted_89 : decode cX10_counted 89 = .ok (.iconst 0, 1) := by decide +kernel
theorem dX10_counted_90 : decode cX10_counted 90 = .ok (.invokevirtual 168, 3) := by decide +kernel
theorem dX10_counted_93 : decode cX10_counted 93 = .ok (.iastore, 1) := by decide +kernel
theorem dX10_counted_94 : decode cX10_counted 94 = .ok (.dup, 1) := by decide +kernel
theorem dX10_counted_95 : decode cX10_counted 95 = .ok (.iconst 5, 1) := by decide +kernel
theorem dX10_counted_96 : decode cX10_counted 96 = .ok (.aload_n 0, 1) := by decide +kernel
theorem dX10_counted_97 : decode cX10_counted 97 = .ok (.getfield 45, 3) := by decide +kernel
theorem dX10_counted_100 : decode cX10_counted 100 = .ok (.iconst 1, 1) := by decide +kernel
theorem dX10_counted_101 : decode cX10_counted 101 = .ok (.invokevirtual 168, 3) := by decide +kernel
theorem dX10_counted_104 : decode cX10_counted 104 = .ok (.iastore, 1) := by decide +kernel
theorem dX10_counted_105 : decode cX10_counted 105 = .ok (.dup, 1) := by decide +kernel
theorem dX10_counted_106 : decode cX10_counted 106 = .ok (.bipush 6, 2) := by decide +kernel
theorem dX10_counted_108 : decode cX10_counted 108 = .ok (.aload_n 0, 1) := by decide +kernel
theorem dX10_counted_109 : decode cX10_counted 109 = .ok (.getfield 45, 3) := by decide +kernel
theorem dX10_counted_112 : decode cX10_counted 112 = .ok (.iconst 2, 1) := by decide +kernel
theorem dX10_counted_113 : decode cX10_counted 113 = .ok (.invokevirtual 168, 3) := by decide +kernel
theorem dX10_counted_116 : decode cX10_counted 116 = .ok (.iastore, 1) := by decide +kernel
theorem dX10_counted_117 : decode cX10_counted 117 = .ok (.dup, 1) := by decide +kernel
theorem dX10_counted_118 : decode cX10_counted 118 = .ok (.bipush 7, 2) := by decide +kernel
theorem dX10_counted_120 : decode cX10_counted 120 = .ok (.aload_n 0, 1) := by decide +kernel
theorem dX10_counted_121 : decode cX10_counted 121 = .ok (.getfield 45, 3) := by decide +kernel
theorem dX10_counted_124 : decode cX10_counted 124 = .ok (.iconst 3, 1) := by decide +kernel
theorem dX10_counted_125 : decode cX10_counted 125 = .ok (.invokevirtual 168, 3) := by decide +kernel
theorem dX10_counted_128 : decode cX10_counted 128 = .ok (.iastore, 1) := by decide +kernel
theorem dX10_counted_129 : decode cX10_counted 129 = .ok (.dup, 1) := by decide +kernel
theorem dX10_counted_130 : decode cX10_counted 130 = .ok (.bipush 8, 2) := by decide +kernel
theorem dX10_counted_132 : decode cX10_counted 132 = .ok (.iload_n 2, 1) := by decide +kernel
theorem dX10_counted_133 : decode cX10_counted 133 = .ok (.iastore, 1) := by decide +kernel
theorem dX10_counted_134 : decode cX10_counted 134 = .ok (.dup, 1) := by decide +kernel
theorem dX10_counted_135 : decode cX10_counted 135 = .ok (.bipush 9, 2) := by decide +kernel
theorem dX10_counted_137 : decode cX10_counted 137 = .ok (.iload_n 3, 1) := by decide +kernel
theorem dX10_counted_138 : decode cX10_counted 138 = .ok (.iastore, 1) := by decide +kernel
theorem dX10_counted_139 : decode cX10_counted 139 = .ok (.astore 4, 2) := by decide +kernel
theorem dX10_counted_141 : decode cX10_counted 141 = .ok (.aload 4, 2) := by decide +kernel
theorem dX10_counted_143 : decode cX10_counted 143 = .ok (.iload_n 1, 1) := by decide +kernel
theorem dX10_counted_144 : decode cX10_counted 144 = .ok (.iaload, 1) := by decide +kernel
theorem dX10_counted_145 : decode cX10_counted 145 = .ok (.ireturn, 1) := by decide +kernel
theorem dX10_count_0 : decode cX10_count 0 = .ok (.aload_n 0, 1) := by decide +kernel
theorem dX10_count_1 : decode cX10_count 1 = .ok (.iconst 0, 1) := by decide +kernel
theorem dX10_count_2 : decode cX10_count 2 = .ok (.putfield 52, 3) := by decide +kernel
theorem dX10_count_5 : decode cX10_count 5 = .ok (.iload_n 1, 1) := by decide +kernel
theorem dX10_count_6 : decode cX10_count 6 = .ok (.iconst 0, 1) := by decide +kernel
theorem dX10_count_7 : decode cX10_count 7 = .ok (.bipush 9, 2) := by decide +kernel
theorem dX10_count_9 : decode cX10_count 9 = .ok (.invokestatic 59, 3) := by decide +kernel
theorem dX10_count_12 : decode cX10_count 12 = .ok (.ifCond .eq 11, 3) := by decide +kernel
theorem dX10_count_15 : decode cX10_count 15 = .ok (.aload_n 0, 1) := by decide +kernel
theorem dX10_count_16 : decode cX10_count 16 = .ok (.iload_n 1, 1) := by decide +kernel
theorem dX10_count_17 : decode cX10_count 17 = .ok (.invokevirtual 171, 3) := by decide +kernel
theorem dX10_count_20 : decode cX10_count 20 = .ok (.goto 8, 3) := by decide +kernel
theorem dX10_count_23 : decode cX10_count 23 = .ok (.aload_n 0, 1) := by decide +kernel
theorem dX10_count_24 : decode cX10_count 24 = .ok (.iconst 1, 1) := by decide +kernel
theorem dX10_count_25 : decode cX10_count 25 = .ok (.invokevirtual 82, 3) := by decide +kernel
theorem dX10_count_28 : decode cX10_count 28 = .ok (.ireturn, 1) := by decide +kernel
theorem dX10_way_0 : decode cX10_way 0 = .ok (.aload_n 0, 1) := by decide +kernel
theorem dX10_way_1 : decode cX10_way 1 = .ok (.iconst 0, 1) := by decide +kernel
theorem dX10_way_2 : decode cX10_way 2 = .ok (.putfield 52, 3) := by decide +kernel
theorem dX10_way_5 : decode cX10_way 5 = .ok (.aload_n 0, 1) := by decide +kernel
theorem dX10_way_6 : decode cX10_way 6 = .ok (.iload_n 1, 1) := by decide +kernel
theorem dX10_way_7 : decode cX10_way 7 = .ok (.invokevirtual 85, 3) := by decide +kernel
theorem dX10_way_10 : decode cX10_way 10 = .ok (.ifCond .eq 11, 3) := by decide +kernel
theorem dX10_way_13 : decode cX10_way 13 = .ok (.aload_n 0, 1) := by decide +kernel
theorem dX10_way_14 : decode cX10_way 14 = .ok (.iload_n 2, 1) := by decide +kernel
theorem dX10_way_15 : decode cX10_way 15 = .ok (.invokevirtual 85, 3) := by decide +kernel
theorem dX10_way_18 : decode cX10_way 18 = .ok (.ifCond .ne 9, 3) := by decide +kernel
theorem dX10_way_21 : decode cX10_way 21 = .ok (.aload_n 0, 1) := by decide +kernel
theorem dX10_way_22 : decode cX10_way 22 = .ok (.iconst 1, 1) := by decide +kernel
theorem dX10_way_23 : decode cX10_way 23 = .ok (.invokevirtual 82, 3) := by decide +kernel
theorem dX10_way_26 : decode cX10_way 26 = .ok (.ireturn, 1) := by decide +kernel
theorem dX10_way_27 : decode cX10_way 27 = .ok (.iload_n 3, 1) := by decide +kernel
theorem dX10_way_28 : decode cX10_way 28 = .ok (.bipush 20, 2) := by decide +kernel
theorem dX10_way_30 : decode cX10_way 30 = .ok (.bipush 120, 2) := by decide +kernel
theorem dX10_way_32 : decode cX10_way 32 = .ok (.invokestatic 59, 3) := by decide +kernel
theorem dX10_way_35 : decode cX10_way 35 = .ok (.ifCond .eq 13, 3) := by decide +kernel
theorem dX10_way_38 : decode cX10_way 38 = .ok (.aload_n 0, 1) := by decide +kernel
theorem dX10_way_39 : decode cX10_way 39 = .ok (.iload_n 1, 1) := by decide +kernel
theorem dX10_way_40 : decode cX10_way 40 = .ok (.iload_n 2, 1) := by decide +kernel
theorem dX10_way_41 : decode cX10_way 41 = .ok (.iload_n 3, 1) := by decide +kernel
theorem dX10_way_42 : decode cX10_way 42 = .ok (.invokevirtual 78, 3) := by decide +kernel
theorem dX10_way_45 : decode cX10_way 45 = .ok (.goto 8, 3) := by decide +kernel
theorem dX10_way_48 : decode cX10_way 48 = .ok (.aload_n 0, 1) := by decide +kernel
theorem dX10_way_49 : decode cX10_way 49 = .ok (.iconst 2, 1) := by decide +kernel
theorem dX10_way_50 : decode cX10_way 50 = .ok (.invokevirtual 82, 3) := by decide +kernel
theorem dX10_way_53 : decode cX10_way 53 = .ok (.ireturn, 1) := by decide +kernel
theorem dX10_arrives_0 : decode cX10_arrives 0 = .ok (.aload_n 0, 1) := by decide +kernel
theorem dX10_arrives_1 : decode cX10_arrives 1 = .ok (.iconst 0, 1) := by decide +kernel
theorem dX10_arrives_2 : decode cX10_arrives 2 = .ok (.putfield 52, 3) := by decide +kernel
theorem dX10_arrives_5 : decode cX10_arrives 5 = .ok (.iload_n 1, 1) := by decide +kernel
theorem dX10_arrives_6 : decode cX10_arrives 6 = .ok (.iconst 0, 1) := by decide +kernel
theorem dX10_arrives_7 : decode cX10_arrives 7 = .ok (.aload_n 0, 1) := by decide +kernel
theorem dX10_arrives_8 : decode cX10_arrives 8 = .ok (.getfield 95, 3) := by decide +kernel
theorem dX10_arrives_11 : decode cX10_arrives 11 = .ok (.iconst 1, 1) := by decide +kernel
theorem dX10_arrives_12 : decode cX10_arrives 12 = .ok (.isub, 1) := by decide +kernel
theorem dX10_arrives_13 : decode cX10_arrives 13 = .ok (.invokestatic 59, 3) := by decide +kernel
theorem dX10_arrives_16 : decode cX10_arrives 16 = .ok (.ifCond .ne 9, 3) := by decide +kernel
theorem dX10_arrives_19 : decode cX10_arrives 19 = .ok (.aload_n 0, 1) := by decide +kernel
theorem dX10_arrives_20 : decode cX10_arrives 20 = .ok (.iconst 1, 1) := by decide +kernel
theorem dX10_arrives_21 : decode cX10_arrives 21 = .ok (.invokevirtual 82, 3) := by decide +kernel
theorem dX10_arrives_24 : decode cX10_arrives 24 = .ok (.ireturn, 1) := by decide +kernel
theorem dX10_arrives_25 : decode cX10_arrives 25 = .ok (.aload_n 0, 1) := by decide +kernel
theorem dX10_arrives_26 : decode cX10_arrives 26 = .ok (.getfield 49, 3) := by decide +kernel
theorem dX10_arrives_29 : decode cX10_arrives 29 = .ok (.aload_n 0, 1) := by decide +kernel
theorem dX10_arrives_30 : decode cX10_arrives 30 = .ok (.getfield 45, 3) := by decide +kernel
theorem dX10_arrives_33 : decode cX10_arrives 33 = .ok (.invokevirtual 174, 3) := by decide +kernel
theorem dX10_arrives_36 : decode cX10_arrives 36 = .ok (.iconst 0, 1) := by decide +kernel
theorem dX10_arrives_37 : decode cX10_arrives 37 = .ok (.istore_n 2, 1) := by decide +kernel
theorem dX10_arrives_38 : decode cX10_arrives 38 = .ok (.iload_n 2, 1) := by decide +kernel
theorem dX10_arrives_39 : decode cX10_arrives 39 = .ok (.sipush 200, 3) := by decide +kernel
theorem dX10_arrives_42 : decode cX10_arrives 42 = .ok (.if_icmp .ge 30, 3) := by decide +kernel
theorem dX10_arrives_45 : decode cX10_arrives 45 = .ok (.aload_n 0, 1) := by decide +kernel
theorem dX10_arrives_46 : decode cX10_arrives 46 = .ok (.getfield 49, 3) := by decide +kernel
theorem dX10_arrives_49 : decode cX10_arrives 49 = .ok (.getfield 98, 3) := by decide +kernel
theorem dX10_arrives_52 : decode cX10_arrives 52 = .ok (.iload_n 1, 1) := by decide +kernel
theorem dX10_arrives_53 : decode cX10_arrives 53 = .ok (.iaload, 1) := by decide +kernel
theorem dX10_arrives_54 : decode cX10_arrives 54 = .ok (.iconst 2, 1) := by decide +kernel
theorem dX10_arrives_55 : decode cX10_arrives 55 = .ok (.if_icmp .ge 17, 3) := by decide +kernel
theorem dX10_arrives_58 : decode cX10_arrives 58 = .ok (.aload_n 0, 1) := by decide +kernel
theorem dX10_arrives_59 : decode cX10_arrives 59 = .ok (.getfield 49, 3) := by decide +kernel
theorem dX10_arrives_62 : decode cX10_arrives 62 = .ok (.invokevirtual 164, 3) := by decide +kernel
theorem dX10_arrives_65 : decode cX10_arrives 65 = .ok (.pop, 1) := by decide +kernel
theorem dX10_arrives_66 : decode cX10_arrives 66 = .ok (.iinc 2 1, 3) := by decide +kernel
theorem dX10_arrives_69 : decode cX10_arrives 69 = .ok (.goto (-31), 3) := by decide +kernel
theorem dX10_arrives_72 : decode cX10_arrives 72 = .ok (.aload_n 0, 1) := by decide +kernel
theorem dX10_arrives_73 : decode cX10_arrives 73 = .ok (.getfield 49, 3) := by decide +kernel
theorem dX10_arrives_76 : decode cX10_arrives 76 = .ok (.getfield 136, 3) := by decide +kernel
theorem dX10_arrives_79 : decode cX10_arrives 79 = .ok (.iload_n 1, 1) := by decide +kernel
theorem dX10_arrives_80 : decode cX10_arrives 80 = .ok (.iaload, 1) := by decide +kernel
theorem dX10_arrives_81 : decode cX10_arrives 81 = .ok (.ireturn, 1) := by decide +kernel
theorem dX10_arrivedIn_0 : decode cX10_arrivedIn 0 = .ok (.iconst 0, 1) := by decide +kernel
theorem dX10_arrivedIn_1 : decode cX10_arrivedIn 1 = .ok (.istore_n 2, 1) := by decide +kernel
theorem dX10_arrivedIn_2 : decode cX10_arrivedIn 2 = .ok (.iload_n 2, 1) := by decide +kernel
theorem dX10_arrivedIn_3 : decode cX10_arrivedIn 3 = .ok (.iload_n 1, 1) := by decide +kernel
theorem dX10_arrivedIn_4 : decode cX10_arrivedIn 4 = .ok (.if_icmp .ge 17, 3) := by decide +kernel
theorem dX10_arrivedIn_7 : decode cX10_arrivedIn 7 = .ok (.aload_n 0, 1) := by decide +kernel
theorem dX10_arrivedIn_8 : decode cX10_arrivedIn 8 = .ok (.getfield 49, 3) := by decide +kernel
theorem dX10_arrivedIn_11 : decode cX10_arrivedIn 11 = .ok (.invokevirtual 164, 3) := by decide +kernel
theorem dX10_arrivedIn_14 : decode cX10_arrivedIn 14 = .ok (.pop, 1) := by decide +kernel
theorem dX10_arrivedIn_15 : decode cX10_arrivedIn 15 = .ok (.iinc 2 1, 3) := by decide +kernel
theorem dX10_arrivedIn_18 : decode cX10_arrivedIn 18 = .ok (.goto (-16), 3) := by decide +kernel
theorem dX10_arrivedIn_21 : decode cX10_arrivedIn 21 = .ok (.aload_n 0, 1) := by decide +kernel
theorem dX10_arrivedIn_22 : decode cX10_arrivedIn 22 = .ok (.getfield 49, 3) := by decide +kernel
theorem dX10_arrivedIn_25 : decode cX10_arrivedIn 25 = .ok (.iconst 2, 1) := by decide +kernel
theorem dX10_arrivedIn_26 : decode cX10_arrivedIn 26 = .ok (.invokevirtual 168, 3) := by decide +kernel
theorem dX10_arrivedIn_29 : decode cX10_arrivedIn 29 = .ok (.ireturn, 1) := by decide +kernel
theorem dX10_advise_0 : decode cX10_advise 0 = .ok (.aload_n 0, 1) := by decide +kernel
theorem dX10_advise_1 : decode cX10_advise 1 = .ok (.iconst 0, 1) := by decide +kernel
theorem dX10_advise_2 : decode cX10_advise 2 = .ok (.putfield 52, 3) := by decide +kernel
theorem dX10_advise_5 : decode cX10_advise 5 = .ok (.iload_n 1, 1) := by decide +kernel
theorem dX10_advise_6 : decode cX10_advise 6 = .ok (.iconst 1, 1) := by decide +kernel
theorem dX10_advise_7 : decode cX10_advise 7 = .ok (.bipush 30, 2) := by decide +kernel
theorem dX10_advise_9 : decode cX10_advise 9 = .ok (.invokestatic 59, 3) := by decide +kernel
theorem dX10_advise_12 : decode cX10_advise 12 = .ok (.ifCond .ne 9, 3) := by decide +kernel
theorem dX10_advise_15 : decode cX10_advise 15 = .ok (.aload_n 0, 1) := by decide +kernel
theorem dX10_advise_16 : decode cX10_advise 16 = .ok (.iconst 1, 1) := by decide +kernel
theorem dX10_advise_17 : decode cX10_advise 17 = .ok (.invokevirtual 82, 3) := by decide +kernel
theorem dX10_advise_20 : decode cX10_advise 20 = .ok (.ireturn, 1) := by decide +kernel
theorem dX10_advise_21 : decode cX10_advise 21 = .ok (.aload_n 0, 1) := by decide +kernel
theorem dX10_advise_22 : decode cX10_advise 22 = .ok (.getfield 49, 3) := by decide +kernel
theorem dX10_advise_25 : decode cX10_advise 25 = .ok (.aload_n 0, 1) := by decide +kernel
theorem dX10_advise_26 : decode cX10_advise 26 = .ok (.getfield 45, 3) := by decide +kernel
theorem dX10_advise_29 : decode cX10_advise 29 = .ok (.invokevirtual 174, 3) := by decide +kernel
theorem dX10_advise_32 : decode cX10_advise 32 = .ok (.iconst (-1), 1) := by decide +kernel
theorem dX10_advise_33 : decode cX10_advise 33 = .ok (.istore_n 2, 1) := by decide +kernel
theorem dX10_advise_34 : decode cX10_advise 34 = .ok (.aload_n 0, 1) := by decide +kernel
theorem dX10_advise_35 : decode cX10_advise 35 = .ok (.iload_n 1, 1) := by decide +kernel
theorem dX10_advise_36 : decode cX10_advise 36 = .ok (.invokevirtual 178, 3) := by decide +kernel
theorem dX10_advise_39 : decode cX10_advise 39 = .ok (.istore_n 3, 1) := by decide +kernel
theorem dX10_advise_40 : decode cX10_advise 40 = .ok (.iconst 0, 1) := by decide +kernel
theorem dX10_advise_41 : decode cX10_advise 41 = .ok (.istore 4, 2) := by decide +kernel
theorem dX10_advise_43 : decode cX10_advise 43 = .ok (.iload 4, 2) := by decide +kernel
theorem dX10_advise_45 : decode cX10_advise 45 = .ok (.aload_n 0, 1) := by decide +kernel
theorem dX10_advise_46 : decode cX10_advise 46 = .ok (.getfield 63, 3) := by decide +kernel
theorem dX10_advise_49 : decode cX10_advise 49 = .ok (.if_icmp .ge 73, 3) := by decide +kernel
theorem dX10_advise_52 : decode cX10_advise 52 = .ok (.aload_n 0, 1) := by decide +kernel
theorem dX10_advise_53 : decode cX10_advise 53 = .ok (.getfield 45, 3) := by decide +kernel
theorem dX10_advise_56 : decode cX10_advise 56 = .ok (.getfield 89, 3) := by decide +kernel
theorem dX10_advise_59 : decode cX10_advise 59 = .ok (.iload 4, 2) := by decide +kernel
theorem dX10_advise_61 : decode cX10_advise 61 = .ok (.iaload, 1) := by decide +kernel
theorem dX10_advise_62 : decode cX10_advise 62 = .ok (.iconst 3, 1) := by decide +kernel
theorem dX10_advise_63 : decode cX10_advise 63 = .ok (.if_icmp .ne 6, 3) := by decide +kernel
theorem dX10_advise_66 : decode cX10_advise 66 = .ok (.goto 50, 3) := by decide +kernel
theorem dX10_advise_69 : decode cX10_advise 69 = .ok (.aload_n 0, 1) := by decide +kernel
theorem dX10_advise_70 : decode cX10_advise 70 = .ok (.getfield 49, 3) := by decide +kernel
theorem dX10_advise_73 : decode cX10_advise 73 = .ok (.aload_n 0, 1) := by decide +kernel
theorem dX10_advise_74 : decode cX10_advise 74 = .ok (.getfield 45, 3) := by decide +kernel
theorem dX10_advise_77 : decode cX10_advise 77 = .ok (.invokevirtual 174, 3) := by decide +kernel
theorem dX10_advise_80 : decode cX10_advise 80 = .ok (.aload_n 0, 1) := by decide +kernel
theorem dX10_advise_81 : decode cX10_advise 81 = .ok (.getfield 49, 3) := by decide +kernel
theorem dX10_advise_84 : decode cX10_advise 84 = .ok (.getfield 89, 3) := by decide +kernel
theorem dX10_advise_87 : decode cX10_advise 87 = .ok (.iload 4, 2) := by decide +kernel
theorem dX10_advise_89 : decode cX10_advise 89 = .ok (.dup2, 1) := by decide +kernel
theorem dX10_advise_90 : decode cX10_advise 90 = .ok (.iaload, 1) := by decide +kernel
theorem dX10_advise_91 : decode cX10_advise 91 = .ok (.iconst 1, 1) := by decide +kernel
theorem dX10_advise_92 : decode cX10_advise 92 = .ok (.iadd, 1) := by decide +kernel
theorem dX10_advise_93 : decode cX10_advise 93 = .ok (.iastore, 1) := by decide +kernel
theorem dX10_advise_94 : decode cX10_advise 94 = .ok (.aload_n 0, 1) := by decide +kernel
theorem dX10_advise_95 : decode cX10_advise 95 = .ok (.iload_n 1, 1) := by decide +kernel
theorem dX10_advise_96 : decode cX10_advise 96 = .ok (.invokevirtual 178, 3) := by decide +kernel
theorem dX10_advise_99 : decode cX10_advise 99 = .ok (.istore 5, 2) := by decide +kernel
theorem dX10_advise_101 : decode cX10_advise 101 = .ok (.iload 5, 2) := by decide +kernel
theorem dX10_advise_103 : decode cX10_advise 103 = .ok (.iload_n 3, 1) := by decide +kernel
theorem dX10_advise_104 : decode cX10_advise 104 = .ok (.if_icmp .gt 6, 3) := by decide +kernel
theorem dX10_advise_107 : decode cX10_advise 107 = .ok (.goto 9, 3) := by decide +kernel
theorem dX10_advise_110 : decode cX10_advise 110 = .ok (.iload 4, 2) := by decide +kernel
theorem dX10_advise_112 : decode cX10_advise 112 = .ok (.istore_n 2, 1) := by decide +kernel
theorem dX10_advise_113 : decode cX10_advise 113 = .ok (.iload 5, 2) := by decide +kernel
theorem dX10_advise_115 : decode cX10_advise 115 = .ok (.istore_n 3, 1) := by decide +kernel
theorem dX10_advise_116 : decode cX10_advise 116 = .ok (.iinc 4 1, 3) := by decide +kernel
theorem dX10_advise_119 : decode cX10_advise 119 = .ok (.goto (-76), 3) := by decide +kernel
theorem dX10_advise_122 : decode cX10_advise 122 = .ok (.iload_n 2, 1) := by decide +kernel
theorem dX10_advise_123 : decode cX10_advise 123 = .ok (.ireturn, 1) := by decide +kernel
theorem dX10_mean_0 : decode cX10_mean 0 = .ok (.aload_n 0, 1) := by decide +kernel
theorem dX10_mean_1 : decode cX10_mean 1 = .ok (.iconst 0, 1) := by decide +kernel
theorem dX10_mean_2 : decode cX10_mean 2 = .ok (.putfield 52, 3) := by decide +kernel
theorem dX10_mean_5 : decode cX10_mean 5 = .ok (.iconst 0, 1) := by decide +kernel
theorem dX10_mean_6 : decode cX10_mean 6 = .ok (.istore_n 1, 1) := by decide +kernel
theorem dX10_mean_7 : decode cX10_mean 7 = .ok (.iconst 0, 1) := by decide +kernel
theorem dX10_mean_8 : decode cX10_mean 8 = .ok (.istore_n 2, 1) := by decide +kernel
theorem dX10_mean_9 : decode cX10_mean 9 = .ok (.iload_n 2, 1) := by decide +kernel
theorem dX10_mean_10 : decode cX10_mean 10 = .ok (.aload_n 0, 1) := by decide +kernel
theorem dX10_mean_11 : decode cX10_mean 11 = .ok (.getfield 95, 3) := by decide +kernel
theorem dX10_mean_14 : decode cX10_mean 14 = .ok (.if_icmp .ge 38, 3) := by decide +kernel
theorem dX10_mean_17 : decode cX10_mean 17 = .ok (.iload_n 1, 1) := by decide +kernel
theorem dX10_mean_18 : decode cX10_mean 18 = .ok (.aload_n 0, 1) := by decide +kernel
theorem dX10_mean_19 : decode cX10_mean 19 = .ok (.getfield 45, 3) := by decide +kernel
theorem dX10_mean_22 : decode cX10_mean 22 = .ok (.getfield 98, 3) := by decide +kernel
theorem dX10_mean_25 : decode cX10_mean 25 = .ok (.iload_n 2, 1) := by decide +kernel
theorem dX10_mean_26 : decode cX10_mean 26 = .ok (.iaload, 1) := by decide +kernel
theorem dX10_mean_27 : decode cX10_mean 27 = .ok (.iconst 2, 1) := by decide +kernel
theorem dX10_mean_28 : decode cX10_mean 28 = .ok (.if_icmp .ne 15, 3) := by decide +kernel
theorem dX10_mean_31 : decode cX10_mean 31 = .ok (.aload_n 0, 1) := by decide +kernel
theorem dX10_mean_32 : decode cX10_mean 32 = .ok (.getfield 45, 3) := by decide +kernel
theorem dX10_mean_35 : decode cX10_mean 35 = .ok (.getfield 136, 3) := by decide +kernel
theorem dX10_mean_38 : decode cX10_mean 38 = .ok (.iload_n 2, 1) := by decide +kernel
theorem dX10_mean_39 : decode cX10_mean 39 = .ok (.iaload, 1) := by decide +kernel
theorem dX10_mean_40 : decode cX10_mean 40 = .ok (.goto 4, 3) := by decide +kernel
theorem dX10_mean_43 : decode cX10_mean 43 = .ok (.iconst 0, 1) := by decide +kernel
theorem dX10_mean_44 : decode cX10_mean 44 = .ok (.iadd, 1) := by decide +kernel
theorem dX10_mean_45 : decode cX10_mean 45 = .ok (.istore_n 1, 1) := by decide +kernel
theorem dX10_mean_46 : decode cX10_mean 46 = .ok (.iinc 2 1, 3) := by decide +kernel
theorem dX10_mean_49 : decode cX10_mean 49 = .ok (.goto (-40), 3) := by decide +kernel
theorem dX10_mean_52 : decode cX10_mean 52 = .ok (.aload_n 0, 1) := by decide +kernel
theorem dX10_mean_53 : decode cX10_mean 53 = .ok (.getfield 45, 3) := by decide +kernel
theorem dX10_mean_56 : decode cX10_mean 56 = .ok (.iconst 2, 1) := by decide +kernel
theorem dX10_mean_57 : decode cX10_mean 57 = .ok (.invokevirtual 168, 3) := by decide +kernel
theorem dX10_mean_60 : decode cX10_mean 60 = .ok (.ifCond .ne 7, 3) := by decide +kernel
theorem dX10_mean_63 : decode cX10_mean 63 = .ok (.dconst 0, 1) := by decide +kernel
theorem dX10_mean_64 : decode cX10_mean 64 = .ok (.goto 15, 3) := by decide +kernel
theorem dX10_mean_67 : decode cX10_mean 67 = .ok (.iload_n 1, 1) := by decide +kernel
theorem dX10_mean_68 : decode cX10_mean 68 = .ok (.i2d, 1) := by decide +kernel
theorem dX10_mean_69 : decode cX10_mean 69 = .ok (.aload_n 0, 1) := by decide +kernel
theorem dX10_mean_70 : decode cX10_mean 70 = .ok (.getfield 45, 3) := by decide +kernel
theorem dX10_mean_73 : decode cX10_mean 73 = .ok (.iconst 2, 1) := by decide +kernel
theorem dX10_mean_74 : decode cX10_mean 74 = .ok (.invokevirtual 168, 3) := by decide +kernel
theorem dX10_mean_77 : decode cX10_mean 77 = .ok (.i2d, 1) := by decide +kernel
theorem dX10_mean_78 : decode cX10_mean 78 = .ok (.ddiv, 1) := by decide +kernel
theorem dX10_mean_79 : decode cX10_mean 79 = .ok (.dreturn, 1) := by decide +kernel
theorem dX10_digest_0 : decode cX10_digest 0 = .ok (.aload_n 0, 1) := by decide +kernel
theorem dX10_digest_1 : decode cX10_digest 1 = .ok (.iconst 0, 1) := by decide +kernel
theorem dX10_digest_2 : decode cX10_digest 2 = .ok (.putfield 52, 3) := by decide +kernel
theorem dX10_digest_5 : decode cX10_digest 5 = .ok (.ldc2_w 181, 3) := by decide +kernel
theorem dX10_digest_8 : decode cX10_digest 8 = .ok (.lstore_n 1, 1) := by decide +kernel
theorem dX10_digest_9 : decode cX10_digest 9 = .ok (.iconst 0, 1) := by decide +kernel
theorem dX10_digest_10 : decode cX10_digest 10 = .ok (.istore_n 3, 1) := by decide +kernel
theorem dX10_digest_11 : decode cX10_digest 11 = .ok (.iload_n 3, 1) := by decide +kernel
theorem dX10_digest_12 : decode cX10_digest 12 = .ok (.bipush 10, 2) := by decide +kernel
theorem dX10_digest_14 : decode cX10_digest 14 = .ok (.if_icmp .ge 22, 3) := by decide +kernel
theorem dX10_digest_17 : decode cX10_digest 17 = .ok (.lload_n 1, 1) := by decide +kernel
theorem dX10_digest_18 : decode cX10_digest 18 = .ok (.ldc2_w 183, 3) := by decide +kernel
theorem dX10_digest_21 : decode cX10_digest 21 = .ok (.lmul, 1) := by decide +kernel
theorem dX10_digest_22 : decode cX10_digest 22 = .ok (.aload_n 0, 1) := by decide +kernel
theorem dX10_digest_23 : decode cX10_digest 23 = .ok (.iload_n 3, 1) := by decide +kernel
theorem dX10_digest_24 : decode cX10_digest 24 = .ok (.invokevirtual 171, 3) := by decide +kernel
theorem dX10_digest_27 : decode cX10_digest 27 = .ok (.i2l, 1) := by decide +kernel
theorem dX10_digest_28 : decode cX10_digest 28 = .ok (.ladd, 1) := by decide +kernel
theorem dX10_digest_29 : decode cX10_digest 29 = .ok (.lstore_n 1, 1) := by decide +kernel
theorem dX10_digest_30 : decode cX10_digest 30 = .ok (.iinc 3 1, 3) := by decide +kernel
theorem dX10_digest_33 : decode cX10_digest 33 = .ok (.goto (-22), 3) := by decide +kernel
theorem dX10_digest_36 : decode cX10_digest 36 = .ok (.iconst 0, 1) := by decide +kernel
theorem dX10_digest_37 : decode cX10_digest 37 = .ok (.istore_n 3, 1) := by decide +kernel
theorem dX10_digest_38 : decode cX10_digest 38 = .ok (.iload_n 3, 1) := by decide +kernel
theorem dX10_digest_39 : decode cX10_digest 39 = .ok (.bipush 12, 2) := by decide +kernel
theorem dX10_digest_41 : decode cX10_digest 41 = .ok (.if_icmp .ge 23, 3) := by decide +kernel
theorem dX10_digest_44 : decode cX10_digest 44 = .ok (.lload_n 1, 1) := by decide +kernel
theorem dX10_digest_45 : decode cX10_digest 45 = .ok (.ldc2_w 183, 3) := by decide +kernel
theorem dX10_digest_48 : decode cX10_digest 48 = .ok (.lmul, 1) := by decide +kernel
theorem dX10_digest_49 : decode cX10_digest 49 = .ok (.aload_n 0, 1) := by decide +kernel
theorem dX10_digest_50 : decode cX10_digest 50 = .ok (.getfield 28, 3) := by decide +kernel
theorem dX10_digest_53 : decode cX10_digest 53 = .ok (.iload_n 3, 1) := by decide +kernel
theorem dX10_digest_54 : decode cX10_digest 54 = .ok (.iaload, 1) := by decide +kernel
theorem dX10_digest_55 : decode cX10_digest 55 = .ok (.i2l, 1) := by decide +kernel
theorem dX10_digest_56 : decode cX10_digest 56 = .ok (.ladd, 1) := by decide +kernel
theorem dX10_digest_57 : decode cX10_digest 57 = .ok (.lstore_n 1, 1) := by decide +kernel
theorem dX10_digest_58 : decode cX10_digest 58 = .ok (.iinc 3 1, 3) := by decide +kernel
theorem dX10_digest_61 : decode cX10_digest 61 = .ok (.goto (-23), 3) := by decide +kernel
theorem dX10_digest_64 : decode cX10_digest 64 = .ok (.iconst 0, 1) := by decide +kernel
theorem dX10_digest_65 : decode cX10_digest 65 = .ok (.istore_n 3, 1) := by decide +kernel
theorem dX10_digest_66 : decode cX10_digest 66 = .ok (.iload_n 3, 1) := by decide +kernel
theorem dX10_digest_67 : decode cX10_digest 67 = .ok (.aload_n 0, 1) := by decide +kernel
theorem dX10_digest_68 : decode cX10_digest 68 = .ok (.getfield 56, 3) := by decide +kernel
theorem dX10_digest_71 : decode cX10_digest 71 = .ok (.if_icmp .ge 86, 3) := by decide +kernel
theorem dX10_digest_74 : decode cX10_digest 74 = .ok (.iconst 0, 1) := by decide +kernel
theorem dX10_digest_75 : decode cX10_digest 75 = .ok (.istore 4, 2) := by decide +kernel
theorem dX10_digest_77 : decode cX10_digest 77 = .ok (.iload 4, 2) := by decide +kernel
theorem dX10_digest_79 : decode cX10_digest 79 = .ok (.bipush 8, 2) := by decide +kernel
theorem dX10_digest_81 : decode cX10_digest 81 = .ok (.if_icmp .ge 24, 3) := by decide +kernel
theorem dX10_digest_84 : decode cX10_digest 84 = .ok (.lload_n 1, 1) := by decide +kernel
theorem dX10_digest_85 : decode cX10_digest 85 = .ok (.ldc2_w 183, 3) := by decide +kernel
theorem dX10_digest_88 : decode cX10_digest 88 = .ok (.lmul, 1) := by decide +kernel
theorem dX10_digest_89 : decode cX10_digest 89 = .ok (.aload_n 0, 1) := by decide +kernel
theorem dX10_digest_90 : decode cX10_digest 90 = .ok (.iload_n 3, 1) := by decide +kernel
theorem dX10_digest_91 : decode cX10_digest 91 = .ok (.iload 4, 2) := by decide +kernel
theorem dX10_digest_93 : decode cX10_digest 93 = .ok (.invokevirtual 107, 3) := by decide +kernel
theorem dX10_digest_96 : decode cX10_digest 96 = .ok (.i2l, 1) := by decide +kernel
theorem dX10_digest_97 : decode cX10_digest 97 = .ok (.ladd, 1) := by decide +kernel
theorem dX10_digest_98 : decode cX10_digest 98 = .ok (.lstore_n 1, 1) := by decide +kernel
theorem dX10_digest_99 : decode cX10_digest 99 = .ok (.iinc 4 1, 3) := by decide +kernel
theorem dX10_digest_102 : decode cX10_digest 102 = .ok (.goto (-25), 3) := by decide +kernel
theorem dX10_digest_105 : decode cX10_digest 105 = .ok (.iconst 0, 1) := by decide +kernel
theorem dX10_digest_106 : decode cX10_digest 106 = .ok (.istore 4, 2) := by decide +kernel
theorem dX10_digest_108 : decode cX10_digest 108 = .ok (.iload 4, 2) := by decide +kernel
theorem dX10_digest_110 : decode cX10_digest 110 = .ok (.aload_n 0, 1) := by decide +kernel
theorem dX10_digest_111 : decode cX10_digest 111 = .ok (.getfield 45, 3) := by decide +kernel
theorem dX10_digest_114 : decode cX10_digest 114 = .ok (.getfield 101, 3) := by decide +kernel
theorem dX10_digest_117 : decode cX10_digest 117 = .ok (.iload_n 3, 1) := by decide +kernel
theorem dX10_digest_118 : decode cX10_digest 118 = .ok (.iaload, 1) := by decide +kernel
theorem dX10_digest_119 : decode cX10_digest 119 = .ok (.if_icmp .ge 32, 3) := by decide +kernel
theorem dX10_digest_122 : decode cX10_digest 122 = .ok (.lload_n 1, 1) := by decide +kernel
theorem dX10_digest_123 : decode cX10_digest 123 = .ok (.ldc2_w 183, 3) := by decide +kernel
theorem dX10_digest_126 : decode cX10_digest 126 = .ok (.lmul, 1) := by decide +kernel
theorem dX10_digest_127 : decode cX10_digest 127 = .ok (.aload_n 0, 1) := by decide +kernel
theorem dX10_digest_128 : decode cX10_digest 128 = .ok (.getfield 45, 3) := by decide +kernel
theorem dX10_digest_131 : decode cX10_digest 131 = .ok (.getfield 104, 3) := by decide +kernel
theorem dX10_digest_134 : decode cX10_digest 134 = .ok (.bipush 12, 2) := by decide +kernel
theorem dX10_digest_136 : decode cX10_digest 136 = .ok (.iload_n 3, 1) := by decide +kernel
theorem dX10_digest_137 : decode cX10_digest 137 = .ok (.imul, 1) := by decide +kernel
theorem dX10_digest_138 : decode cX10_digest 138 = .ok (.iload 4, 2) := by decide +kernel
theorem dX10_digest_140 : decode cX10_digest 140 = .ok (.iadd, 1) := by decide +kernel
theorem dX10_digest_141 : decode cX10_digest 141 = .ok (.iaload, 1) := by decide +kernel
theorem dX10_digest_142 : decode cX10_digest 142 = .ok (.i2l, 1) := by decide +kernel
theorem dX10_digest_143 : decode cX10_digest 143 = .ok (.ladd, 1) := by decide +kernel
theorem dX10_digest_144 : decode cX10_digest 144 = .ok (.lstore_n 1, 1) := by decide +kernel
theorem dX10_digest_145 : decode cX10_digest 145 = .ok (.iinc 4 1, 3) := by decide +kernel
theorem dX10_digest_148 : decode cX10_digest 148 = .ok (.goto (-40), 3) := by decide +kernel
theorem dX10_digest_151 : decode cX10_digest 151 = .ok (.iinc 3 1, 3) := by decide +kernel
theorem dX10_digest_154 : decode cX10_digest 154 = .ok (.goto (-88), 3) := by decide +kernel
theorem dX10_digest_157 : decode cX10_digest 157 = .ok (.iconst 0, 1) := by decide +kernel
theorem dX10_digest_158 : decode cX10_digest 158 = .ok (.istore_n 3, 1) := by decide +kernel
theorem dX10_digest_159 : decode cX10_digest 159 = .ok (.iload_n 3, 1) := by decide +kernel
theorem dX10_digest_160 : decode cX10_digest 160 = .ok (.aload_n 0, 1) := by decide +kernel
theorem dX10_digest_161 : decode cX10_digest 161 = .ok (.getfield 63, 3) := by decide +kernel
theorem dX10_digest_164 : decode cX10_digest 164 = .ok (.if_icmp .ge 40, 3) := by decide +kernel
theorem dX10_digest_167 : decode cX10_digest 167 = .ok (.iconst 0, 1) := by decide +kernel
theorem dX10_digest_168 : decode cX10_digest 168 = .ok (.istore 4, 2) := by decide +kernel
theorem dX10_digest_170 : decode cX10_digest 170 = .ok (.iload 4, 2) := by decide +kernel
theorem dX10_digest_172 : decode cX10_digest 172 = .ok (.bipush 11, 2) := by decide +kernel
theorem dX10_digest_174 : decode cX10_digest 174 = .ok (.if_icmp .ge 24, 3) := by decide +kernel
theorem dX10_digest_177 : decode cX10_digest 177 = .ok (.lload_n 1, 1) := by decide +kernel
theorem dX10_digest_178 : decode cX10_digest 178 = .ok (.ldc2_w 183, 3) := by decide +kernel
theorem dX10_digest_181 : decode cX10_digest 181 = .ok (.lmul, 1) := by decide +kernel
theorem dX10_digest_182 : decode cX10_digest 182 = .ok (.aload_n 0, 1) := by decide +kernel
theorem dX10_digest_183 : decode cX10_digest 183 = .ok (.iload_n 3, 1) := by decide +kernel
theorem dX10_digest_184 : decode cX10_digest 184 = .ok (.iload 4, 2) := by decide +kernel
theorem dX10_digest_186 : decode cX10_digest 186 = .ok (.invokevirtual 130, 3) := by decide +kernel
theorem dX10_digest_189 : decode cX10_digest 189 = .ok (.i2l, 1) := by decide +kernel
theorem dX10_digest_190 : decode cX10_digest 190 = .ok (.ladd, 1) := by decide +kernel
theorem dX10_digest_191 : decode cX10_digest 191 = .ok (.lstore_n 1, 1) := by decide +kernel
theorem dX10_digest_192 : decode cX10_digest 192 = .ok (.iinc 4 1, 3) := by decide +kernel
theorem dX10_digest_195 : decode cX10_digest 195 = .ok (.goto (-25), 3) := by decide +kernel
theorem dX10_digest_198 : decode cX10_digest 198 = .ok (.iinc 3 1, 3) := by decide +kernel
theorem dX10_digest_201 : decode cX10_digest 201 = .ok (.goto (-42), 3) := by decide +kernel
theorem dX10_digest_204 : decode cX10_digest 204 = .ok (.iconst 0, 1) := by decide +kernel
theorem dX10_digest_205 : decode cX10_digest 205 = .ok (.istore_n 3, 1) := by decide +kernel
theorem dX10_digest_206 : decode cX10_digest 206 = .ok (.iload_n 3, 1) := by decide +kernel
theorem dX10_digest_207 : decode cX10_digest 207 = .ok (.aload_n 0, 1) := by decide +kernel
theorem dX10_digest_208 : decode cX10_digest 208 = .ok (.getfield 95, 3) := by decide +kernel
theorem dX10_digest_211 : decode cX10_digest 211 = .ok (.if_icmp .ge 40, 3) := by decide +kernel
theorem dX10_digest_214 : decode cX10_digest 214 = .ok (.iconst 0, 1) := by decide +kernel
theorem dX10_digest_215 : decode cX10_digest 215 = .ok (.istore 4, 2) := by decide +kernel
theorem dX10_digest_217 : decode cX10_digest 217 = .ok (.iload 4, 2) := by decide +kernel
theorem dX10_digest_219 : decode cX10_digest 219 = .ok (.bipush 11, 2) := by decide +kernel
theorem dX10_digest_221 : decode cX10_digest 221 = .ok (.if_icmp .ge 24, 3) := by decide +kernel
theorem dX10_digest_224 : decode cX10_digest 224 = .ok (.lload_n 1, 1) := by decide +kernel
theorem dX10_digest_225 : decode cX10_digest 225 = .ok (.ldc2_w 183, 3) := by decide +kernel
theorem dX10_digest_228 : decode cX10_digest 228 = .ok (.lmul, 1) := by decide +kernel
theorem dX10_digest_229 : decode cX10_digest 229 = .ok (.aload_n 0, 1) := by decide +kernel
theorem dX10_digest_230 : decode cX10_digest 230 = .ok (.iload_n 3, 1) := by decide +kernel
theorem dX10_digest_231 : decode cX10_digest 231 = .ok (.iload 4, 2) := by decide +kernel
theorem dX10_digest_233 : decode cX10_digest 233 = .ok (.invokevirtual 161, 3) := by decide +kernel
theorem dX10_digest_236 : decode cX10_digest 236 = .ok (.i2l, 1) := by decide +kernel
theorem dX10_digest_237 : decode cX10_digest 237 = .ok (.ladd, 1) := by decide +kernel
theorem dX10_digest_238 : decode cX10_digest 238 = .ok (.lstore_n 1, 1) := by decide +kernel
theorem dX10_digest_239 : decode cX10_digest 239 = .ok (.iinc 4 1, 3) := by decide +kernel
theorem dX10_digest_242 : decode cX10_digest 242 = .ok (.goto (-25), 3) := by decide +kernel
theorem dX10_digest_245 : decode cX10_digest 245 = .ok (.iinc 3 1, 3) := by decide +kernel
theorem dX10_digest_248 : decode cX10_digest 248 = .ok (.goto (-42), 3) := by decide +kernel
theorem dX10_digest_251 : decode cX10_digest 251 = .ok (.lload_n 1, 1) := by decide +kernel
theorem dX10_digest_252 : decode cX10_digest 252 = .ok (.lreturn, 1) := by decide +kernel
