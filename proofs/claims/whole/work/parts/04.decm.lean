theorem dX4_init_0 : decode cX4_init 0 = .ok (.aload_n 0, 1) := by decide +kernel
theorem dX4_init_1 : decode cX4_init 1 = .ok (.invokespecial 1, 3) := by decide +kernel
theorem dX4_init_4 : decode cX4_init 4 = .ok (.aload_n 0, 1) := by decide +kernel
theorem dX4_init_5 : decode cX4_init 5 = .ok (.iconst 1, 1) := by decide +kernel
theorem dX4_init_6 : decode cX4_init 6 = .ok (.putfield 7, 3) := by decide +kernel
theorem dX4_init_9 : decode cX4_init 9 = .ok (.aload_n 0, 1) := by decide +kernel
theorem dX4_init_10 : decode cX4_init 10 = .ok (.bipush 24, 2) := by decide +kernel
theorem dX4_init_12 : decode cX4_init 12 = .ok (.newarray .int, 2) := by decide +kernel
theorem dX4_init_14 : decode cX4_init 14 = .ok (.putfield 13, 3) := by decide +kernel
theorem dX4_init_17 : decode cX4_init 17 = .ok (.aload_n 0, 1) := by decide +kernel
theorem dX4_init_18 : decode cX4_init 18 = .ok (.bipush 24, 2) := by decide +kernel
theorem dX4_init_20 : decode cX4_init 20 = .ok (.newarray .int, 2) := by decide +kernel
theorem dX4_init_22 : decode cX4_init 22 = .ok (.putfield 17, 3) := by decide +kernel
theorem dX4_init_25 : decode cX4_init 25 = .ok (.aload_n 0, 1) := by decide +kernel
theorem dX4_init_26 : decode cX4_init 26 = .ok (.bipush 24, 2) := by decide +kernel
theorem dX4_init_28 : decode cX4_init 28 = .ok (.newarray .int, 2) := by decide +kernel
theorem dX4_init_30 : decode cX4_init 30 = .ok (.putfield 20, 3) := by decide +kernel
theorem dX4_init_33 : decode cX4_init 33 = .ok (.aload_n 0, 1) := by decide +kernel
theorem dX4_init_34 : decode cX4_init 34 = .ok (.bipush 24, 2) := by decide +kernel
theorem dX4_init_36 : decode cX4_init 36 = .ok (.newarray .int, 2) := by decide +kernel
theorem dX4_init_38 : decode cX4_init 38 = .ok (.putfield 23, 3) := by decide +kernel
theorem dX4_init_41 : decode cX4_init 41 = .ok (.aload_n 0, 1) := by decide +kernel
theorem dX4_init_42 : decode cX4_init 42 = .ok (.bipush 24, 2) := by decide +kernel
theorem dX4_init_44 : decode cX4_init 44 = .ok (.newarray .int, 2) := by decide +kernel
theorem dX4_init_46 : decode cX4_init 46 = .ok (.putfield 26, 3) := by decide +kernel
theorem dX4_init_49 : decode cX4_init 49 = .ok (.aload_n 0, 1) := by decide +kernel
theorem dX4_init_50 : decode cX4_init 50 = .ok (.bipush 24, 2) := by decide +kernel
theorem dX4_init_52 : decode cX4_init 52 = .ok (.newarray .int, 2) := by decide +kernel
theorem dX4_init_54 : decode cX4_init 54 = .ok (.putfield 29, 3) := by decide +kernel
theorem dX4_init_57 : decode cX4_init 57 = .ok (.aload_n 0, 1) := by decide +kernel
theorem dX4_init_58 : decode cX4_init 58 = .ok (.bipush 24, 2) := by decide +kernel
theorem dX4_init_60 : decode cX4_init 60 = .ok (.newarray .int, 2) := by decide +kernel
theorem dX4_init_62 : decode cX4_init 62 = .ok (.putfield 32, 3) := by decide +kernel
theorem dX4_init_65 : decode cX4_init 65 = .ok (.aload_n 0, 1) := by decide +kernel
theorem dX4_init_66 : decode cX4_init 66 = .ok (.bipush 24, 2) := by decide +kernel
theorem dX4_init_68 : decode cX4_init 68 = .ok (.newarray .int, 2) := by decide +kernel
theorem dX4_init_70 : decode cX4_init 70 = .ok (.putfield 35, 3) := by decide +kernel
theorem dX4_init_73 : decode cX4_init 73 = .ok (.aload_n 0, 1) := by decide +kernel
theorem dX4_init_74 : decode cX4_init 74 = .ok (.bipush 24, 2) := by decide +kernel
theorem dX4_init_76 : decode cX4_init 76 = .ok (.newarray .int, 2) := by decide +kernel
theorem dX4_init_78 : decode cX4_init 78 = .ok (.putfield 38, 3) := by decide +kernel
theorem dX4_init_81 : decode cX4_init 81 = .ok (.aload_n 0, 1) := by decide +kernel
theorem dX4_init_82 : decode cX4_init 82 = .ok (.bipush 8, 2) := by decide +kernel
theorem dX4_init_84 : decode cX4_init 84 = .ok (.newarray .int, 2) := by decide +kernel
theorem dX4_init_86 : decode cX4_init 86 = .ok (.putfield 41, 3) := by decide +kernel
theorem dX4_init_89 : decode cX4_init 89 = .ok (.aload_n 0, 1) := by decide +kernel
theorem dX4_init_90 : decode cX4_init 90 = .ok (.bipush 24, 2) := by decide +kernel
theorem dX4_init_92 : decode cX4_init 92 = .ok (.newarray .int, 2) := by decide +kernel
theorem dX4_init_94 : decode cX4_init 94 = .ok (.putfield 44, 3) := by decide +kernel
theorem dX4_init_97 : decode cX4_init 97 = .ok (.aload_n 0, 1) := by decide +kernel
theorem dX4_init_98 : decode cX4_init 98 = .ok (.bipush 24, 2) := by decide +kernel
theorem dX4_init_100 : decode cX4_init 100 = .ok (.newarray .int, 2) := by decide +kernel
theorem dX4_init_102 : decode cX4_init 102 = .ok (.putfield 47, 3) := by decide +kernel
theorem dX4_init_105 : decode cX4_init 105 = .ok (.aload_n 0, 1) := by decide +kernel
theorem dX4_init_106 : decode cX4_init 106 = .ok (.bipush 24, 2) := by decide +kernel
theorem dX4_init_108 : decode cX4_init 108 = .ok (.newarray .int, 2) := by decide +kernel
theorem dX4_init_110 : decode cX4_init 110 = .ok (.putfield 50, 3) := by decide +kernel
theorem dX4_init_113 : decode cX4_init 113 = .ok (.aload_n 0, 1) := by decide +kernel
theorem dX4_init_114 : decode cX4_init 114 = .ok (.bipush 24, 2) := by decide +kernel
theorem dX4_init_116 : decode cX4_init 116 = .ok (.newarray .int, 2) := by decide +kernel
theorem dX4_init_118 : decode cX4_init 118 = .ok (.putfield 53, 3) := by decide +kernel
theorem dX4_init_121 : decode cX4_init 121 = .ok (.aload_n 0, 1) := by decide +kernel
theorem dX4_init_122 : decode cX4_init 122 = .ok (.bipush 8, 2) := by decide +kernel
theorem dX4_init_124 : decode cX4_init 124 = .ok (.newarray .int, 2) := by decide +kernel
theorem dX4_init_126 : decode cX4_init 126 = .ok (.putfield 56, 3) := by decide +kernel
theorem dX4_init_129 : decode cX4_init 129 = .ok (.aload_n 0, 1) := by decide +kernel
theorem dX4_init_130 : decode cX4_init 130 = .ok (.iconst 4, 1) := by decide +kernel
theorem dX4_init_131 : decode cX4_init 131 = .ok (.newarray .int, 2) := by decide +kernel
theorem dX4_init_133 : decode cX4_init 133 = .ok (.putfield 59, 3) := by decide +kernel
theorem dX4_init_136 : decode cX4_init 136 = .ok (.aload_n 0, 1) := by decide +kernel
theorem dX4_init_137 : decode cX4_init 137 = .ok (.bipush 48, 2) := by decide +kernel
theorem dX4_init_139 : decode cX4_init 139 = .ok (.newarray .int, 2) := by decide +kernel
theorem dX4_init_141 : decode cX4_init 141 = .ok (.putfield 62, 3) := by decide +kernel
theorem dX4_init_144 : decode cX4_init 144 = .ok (.aload_n 0, 1) := by decide +kernel
theorem dX4_init_145 : decode cX4_init 145 = .ok (.getfield 38, 3) := by decide +kernel
theorem dX4_init_148 : decode cX4_init 148 = .ok (.iconst 0, 1) := by decide +kernel
theorem dX4_init_149 : decode cX4_init 149 = .ok (.iconst 1, 1) := by decide +kernel
theorem dX4_init_150 : decode cX4_init 150 = .ok (.iastore, 1) := by decide +kernel
theorem dX4_init_151 : decode cX4_init 151 = .ok (.return_, 1) := by decide +kernel
theorem dX4_in_0 : decode cX4_in 0 = .ok (.iload_n 0, 1) := by decide +kernel
theorem dX4_in_1 : decode cX4_in 1 = .ok (.iload_n 1, 1) := by decide +kernel
theorem dX4_in_2 : decode cX4_in 2 = .ok (.if_icmp .lt 12, 3) := by decide +kernel
theorem dX4_in_5 : decode cX4_in 5 = .ok (.iload_n 0, 1) := by decide +kernel
theorem dX4_in_6 : decode cX4_in 6 = .ok (.iload_n 2, 1) := by decide +kernel
theorem dX4_in_7 : decode cX4_in 7 = .ok (.if_icmp .gt 7, 3) := by decide +kernel
theorem dX4_in_10 : decode cX4_in 10 = .ok (.iconst 1, 1) := by decide +kernel
theorem dX4_in_11 : decode cX4_in 11 = .ok (.goto 4, 3) := by decide +kernel
theorem dX4_in_14 : decode cX4_in 14 = .ok (.iconst 0, 1) := by decide +kernel
theorem dX4_in_15 : decode cX4_in 15 = .ok (.ireturn, 1) := by decide +kernel
theorem dX4_isProcess_0 : decode cX4_isProcess 0 = .ok (.iload_n 1, 1) := by decide +kernel
theorem dX4_isProcess_1 : decode cX4_isProcess 1 = .ok (.iconst 0, 1) := by decide +kernel
theorem dX4_isProcess_2 : decode cX4_isProcess 2 = .ok (.aload_n 0, 1) := by decide +kernel
theorem dX4_isProcess_3 : decode cX4_isProcess 3 = .ok (.getfield 7, 3) := by decide +kernel
theorem dX4_isProcess_6 : decode cX4_isProcess 6 = .ok (.iconst 1, 1) := by decide +kernel
theorem dX4_isProcess_7 : decode cX4_isProcess 7 = .ok (.isub, 1) := by decide +kernel
theorem dX4_isProcess_8 : decode cX4_isProcess 8 = .ok (.invokestatic 65, 3) := by decide +kernel
theorem dX4_isProcess_11 : decode cX4_isProcess 11 = .ok (.ireturn, 1) := by decide +kernel
theorem dX4_isName_0 : decode cX4_isName 0 = .ok (.iload_n 0, 1) := by decide +kernel
theorem dX4_isName_1 : decode cX4_isName 1 = .ok (.iconst 0, 1) := by decide +kernel
theorem dX4_isName_2 : decode cX4_isName 2 = .ok (.iconst 5, 1) := by decide +kernel
theorem dX4_isName_3 : decode cX4_isName 3 = .ok (.invokestatic 65, 3) := by decide +kernel
theorem dX4_isName_6 : decode cX4_isName 6 = .ok (.ireturn, 1) := by decide +kernel
theorem dX4_needed_0 : decode cX4_needed 0 = .ok (.iload_n 0, 1) := by decide +kernel
theorem dX4_needed_1 : decode cX4_needed 1 = .ok (.iconst 3, 1) := by decide +kernel
theorem dX4_needed_2 : decode cX4_needed 2 = .ok (.if_icmp .ge 7, 3) := by decide +kernel
theorem dX4_needed_5 : decode cX4_needed 5 = .ok (.iconst 0, 1) := by decide +kernel
theorem dX4_needed_6 : decode cX4_needed 6 = .ok (.goto 6, 3) := by decide +kernel
theorem dX4_needed_9 : decode cX4_needed 9 = .ok (.iload_n 0, 1) := by decide +kernel
theorem dX4_needed_10 : decode cX4_needed 10 = .ok (.iconst 2, 1) := by decide +kernel
theorem dX4_needed_11 : decode cX4_needed 11 = .ok (.isub, 1) := by decide +kernel
theorem dX4_needed_12 : decode cX4_needed 12 = .ok (.ireturn, 1) := by decide +kernel
theorem dX4_larger_0 : decode cX4_larger 0 = .ok (.iload_n 0, 1) := by decide +kernel
theorem dX4_larger_1 : decode cX4_larger 1 = .ok (.iload_n 1, 1) := by decide +kernel
theorem dX4_larger_2 : decode cX4_larger 2 = .ok (.if_icmp .ge 7, 3) := by decide +kernel
theorem dX4_larger_5 : decode cX4_larger 5 = .ok (.iload_n 1, 1) := by decide +kernel
theorem dX4_larger_6 : decode cX4_larger 6 = .ok (.goto 4, 3) := by decide +kernel
theorem dX4_larger_9 : decode cX4_larger 9 = .ok (.iload_n 0, 1) := by decide +kernel
theorem dX4_larger_10 : decode cX4_larger 10 = .ok (.ireturn, 1) := by decide +kernel
theorem dX4_builds_0 : decode cX4_builds 0 = .ok (.aload_n 0, 1) := by decide +kernel
theorem dX4_builds_1 : decode cX4_builds 1 = .ok (.getfield 29, 3) := by decide +kernel
theorem dX4_builds_4 : decode cX4_builds 4 = .ok (.iload 4, 2) := by decide +kernel
theorem dX4_builds_6 : decode cX4_builds 6 = .ok (.iaload, 1) := by decide +kernel
theorem dX4_builds_7 : decode cX4_builds 7 = .ok (.iload_n 1, 1) := by decide +kernel
theorem dX4_builds_8 : decode cX4_builds 8 = .ok (.iconst 4, 1) := by decide +kernel
theorem dX4_builds_9 : decode cX4_builds 9 = .ok (.if_icmp .eq 8, 3) := by decide +kernel
theorem dX4_builds_12 : decode cX4_builds 12 = .ok (.iload_n 1, 1) := by decide +kernel
theorem dX4_builds_13 : decode cX4_builds 13 = .ok (.iconst 5, 1) := by decide +kernel
theorem dX4_builds_14 : decode cX4_builds 14 = .ok (.if_icmp .ne 7, 3) := by decide +kernel
theorem dX4_builds_17 : decode cX4_builds 17 = .ok (.iconst 0, 1) := by decide +kernel
theorem dX4_builds_18 : decode cX4_builds 18 = .ok (.goto 4, 3) := by decide +kernel
theorem dX4_builds_21 : decode cX4_builds 21 = .ok (.iconst 1, 1) := by decide +kernel
theorem dX4_builds_22 : decode cX4_builds 22 = .ok (.iadd, 1) := by decide +kernel
theorem dX4_builds_23 : decode cX4_builds 23 = .ok (.istore 6, 2) := by decide +kernel
theorem dX4_builds_25 : decode cX4_builds 25 = .ok (.iload_n 1, 1) := by decide +kernel
theorem dX4_builds_26 : decode cX4_builds 26 = .ok (.iconst 4, 1) := by decide +kernel
theorem dX4_builds_27 : decode cX4_builds 27 = .ok (.if_icmp .ne 13, 3) := by decide +kernel
theorem dX4_builds_30 : decode cX4_builds 30 = .ok (.aload_n 0, 1) := by decide +kernel
theorem dX4_builds_31 : decode cX4_builds 31 = .ok (.getfield 32, 3) := by decide +kernel
theorem dX4_builds_34 : decode cX4_builds 34 = .ok (.iload 4, 2) := by decide +kernel
theorem dX4_builds_36 : decode cX4_builds 36 = .ok (.iaload, 1) := by decide +kernel
theorem dX4_builds_37 : decode cX4_builds 37 = .ok (.goto 4, 3) := by decide +kernel
theorem dX4_builds_40 : decode cX4_builds 40 = .ok (.iconst 1, 1) := by decide +kernel
theorem dX4_builds_41 : decode cX4_builds 41 = .ok (.istore 7, 2) := by decide +kernel
theorem dX4_builds_43 : decode cX4_builds 43 = .ok (.iload_n 1, 1) := by decide +kernel
theorem dX4_builds_44 : decode cX4_builds 44 = .ok (.iconst 5, 1) := by decide +kernel
theorem dX4_builds_45 : decode cX4_builds 45 = .ok (.if_icmp .ne 39, 3) := by decide +kernel
theorem dX4_builds_48 : decode cX4_builds 48 = .ok (.aload_n 0, 1) := by decide +kernel
theorem dX4_builds_49 : decode cX4_builds 49 = .ok (.getfield 29, 3) := by decide +kernel
theorem dX4_builds_52 : decode cX4_builds 52 = .ok (.iload 4, 2) := by decide +kernel
theorem dX4_builds_54 : decode cX4_builds 54 = .ok (.iaload, 1) := by decide +kernel
theorem dX4_builds_55 : decode cX4_builds 55 = .ok (.aload_n 0, 1) := by decide +kernel
theorem dX4_builds_56 : decode cX4_builds 56 = .ok (.getfield 29, 3) := by decide +kernel
theorem dX4_builds_59 : decode cX4_builds 59 = .ok (.iload 5, 2) := by decide +kernel
theorem dX4_builds_61 : decode cX4_builds 61 = .ok (.iaload, 1) := by decide +kernel
theorem dX4_builds_62 : decode cX4_builds 62 = .ok (.invokestatic 69, 3) := by decide +kernel
theorem dX4_builds_65 : decode cX4_builds 65 = .ok (.istore 6, 2) := by decide +kernel
theorem dX4_builds_67 : decode cX4_builds 67 = .ok (.aload_n 0, 1) := by decide +kernel
theorem dX4_builds_68 : decode cX4_builds 68 = .ok (.getfield 32, 3) := by decide +kernel
theorem dX4_builds_71 : decode cX4_builds 71 = .ok (.iload 4, 2) := by decide +kernel
theorem dX4_builds_73 : decode cX4_builds 73 = .ok (.iaload, 1) := by decide +kernel
theorem dX4_builds_74 : decode cX4_builds 74 = .ok (.aload_n 0, 1) := by decide +kernel
theorem dX4_builds_75 : decode cX4_builds 75 = .ok (.getfield 32, 3) := by decide +kernel
theorem dX4_builds_78 : decode cX4_builds 78 = .ok (.iload 5, 2) := by decide +kernel
theorem dX4_builds_80 : decode cX4_builds 80 = .ok (.iaload, 1) := by decide +kernel
theorem dX4_builds_81 : decode cX4_builds 81 = .ok (.iadd, 1) := by decide +kernel
theorem dX4_builds_82 : decode cX4_builds 82 = .ok (.istore 7, 2) := by decide +kernel
theorem dX4_builds_84 : decode cX4_builds 84 = .ok (.aload_n 0, 1) := by decide +kernel
theorem dX4_builds_85 : decode cX4_builds 85 = .ok (.getfield 7, 3) := by decide +kernel
theorem dX4_builds_88 : decode cX4_builds 88 = .ok (.bipush 24, 2) := by decide +kernel
theorem dX4_builds_90 : decode cX4_builds 90 = .ok (.if_icmp .eq 15, 3) := by decide +kernel
theorem dX4_builds_93 : decode cX4_builds 93 = .ok (.iload 6, 2) := by decide +kernel
theorem dX4_builds_95 : decode cX4_builds 95 = .ok (.iconst 3, 1) := by decide +kernel
theorem dX4_builds_96 : decode cX4_builds 96 = .ok (.if_icmp .gt 9, 3) := by decide +kernel
theorem dX4_builds_99 : decode cX4_builds 99 = .ok (.iload 7, 2) := by decide +kernel
theorem dX4_builds_101 : decode cX4_builds 101 = .ok (.iconst 3, 1) := by decide +kernel
theorem dX4_builds_102 : decode cX4_builds 102 = .ok (.if_icmp .le 6, 3) := by decide +kernel
theorem dX4_builds_105 : decode cX4_builds 105 = .ok (.bipush (-3), 2) := by decide +kernel
theorem dX4_builds_107 : decode cX4_builds 107 = .ok (.ireturn, 1) := by decide +kernel
theorem dX4_builds_108 : decode cX4_builds 108 = .ok (.aload_n 0, 1) := by decide +kernel
theorem dX4_builds_109 : decode cX4_builds 109 = .ok (.getfield 7, 3) := by decide +kernel
theorem dX4_builds_112 : decode cX4_builds 112 = .ok (.istore 8, 2) := by decide +kernel
theorem dX4_builds_114 : decode cX4_builds 114 = .ok (.aload_n 0, 1) := by decide +kernel
theorem dX4_builds_115 : decode cX4_builds 115 = .ok (.getfield 13, 3) := by decide +kernel
theorem dX4_builds_118 : decode cX4_builds 118 = .ok (.iload 8, 2) := by decide +kernel
theorem dX4_builds_120 : decode cX4_builds 120 = .ok (.iload_n 1, 1) := by decide +kernel
theorem dX4_builds_121 : decode cX4_builds 121 = .ok (.iastore, 1) := by decide +kernel
theorem dX4_builds_122 : decode cX4_builds 122 = .ok (.aload_n 0, 1) := by decide +kernel
theorem dX4_builds_123 : decode cX4_builds 123 = .ok (.getfield 17, 3) := by decide +kernel
theorem dX4_builds_126 : decode cX4_builds 126 = .ok (.iload 8, 2) := by decide +kernel
theorem dX4_builds_128 : decode cX4_builds 128 = .ok (.iload_n 2, 1) := by decide +kernel
theorem dX4_builds_129 : decode cX4_builds 129 = .ok (.iastore, 1) := by decide +kernel
theorem dX4_builds_130 : decode cX4_builds 130 = .ok (.aload_n 0, 1) := by decide +kernel
theorem dX4_builds_131 : decode cX4_builds 131 = .ok (.getfield 20, 3) := by decide +kernel
theorem dX4_builds_134 : decode cX4_builds 134 = .ok (.iload 8, 2) := by decide +kernel
theorem dX4_builds_136 : decode cX4_builds 136 = .ok (.iload_n 3, 1) := by decide +kernel
theorem dX4_builds_137 : decode cX4_builds 137 = .ok (.iastore, 1) := by decide +kernel
theorem dX4_builds_138 : decode cX4_builds 138 = .ok (.aload_n 0, 1) := by decide +kernel
theorem dX4_builds_139 : decode cX4_builds 139 = .ok (.getfield 23, 3) := by decide +kernel
theorem dX4_builds_142 : decode cX4_builds 142 = .ok (.iload 8, 2) := by decide +kernel
theorem dX4_builds_144 : decode cX4_builds 144 = .ok (.iload 4, 2) := by decide +kernel
theorem dX4_builds_146 : decode cX4_builds 146 = .ok (.iastore, 1) := by decide +kernel
theorem dX4_builds_147 : decode cX4_builds 147 = .ok (.aload_n 0, 1) := by decide +kernel
theorem dX4_builds_148 : decode cX4_builds 148 = .ok (.getfield 26, 3) := by decide +kernel
theorem dX4_builds_151 : decode cX4_builds 151 = .ok (.iload 8, 2) := by decide +kernel
theorem dX4_builds_153 : decode cX4_builds 153 = .ok (.iload 5, 2) := by decide +kernel
theorem dX4_builds_155 : decode cX4_builds 155 = .ok (.iastore, 1) := by decide +kernel
theorem dX4_builds_156 : decode cX4_builds 156 = .ok (.aload_n 0, 1) := by decide +kernel
theorem dX4_builds_157 : decode cX4_builds 157 = .ok (.getfield 29, 3) := by decide +kernel
theorem dX4_builds_160 : decode cX4_builds 160 = .ok (.iload 8, 2) := by decide +kernel
theorem dX4_builds_162 : decode cX4_builds 162 = .ok (.iload 6, 2) := by decide +kernel
theorem dX4_builds_164 : decode cX4_builds 164 = .ok (.iastore, 1) := by decide +kernel
theorem dX4_builds_165 : decode cX4_builds 165 = .ok (.aload_n 0, 1) := by decide +kernel
theorem dX4_builds_166 : decode cX4_builds 166 = .ok (.getfield 32, 3) := by decide +kernel
theorem dX4_builds_169 : decode cX4_builds 169 = .ok (.iload 8, 2) := by decide +kernel
theorem dX4_builds_171 : decode cX4_builds 171 = .ok (.iload 7, 2) := by decide +kernel
theorem dX4_builds_173 : decode cX4_builds 173 = .ok (.iastore, 1) := by decide +kernel
theorem dX4_builds_174 : decode cX4_builds 174 = .ok (.iload_n 1, 1) := by decide +kernel
theorem dX4_builds_175 : decode cX4_builds 175 = .ok (.iconst 3, 1) := by decide +kernel
theorem dX4_builds_176 : decode cX4_builds 176 = .ok (.if_icmp .ne 25, 3) := by decide +kernel
theorem dX4_builds_179 : decode cX4_builds 179 = .ok (.aload_n 0, 1) := by decide +kernel
theorem dX4_builds_180 : decode cX4_builds 180 = .ok (.getfield 35, 3) := by decide +kernel
theorem dX4_builds_183 : decode cX4_builds 183 = .ok (.iload 4, 2) := by decide +kernel
theorem dX4_builds_185 : decode cX4_builds 185 = .ok (.iaload, 1) := by decide +kernel
theorem dX4_builds_186 : decode cX4_builds 186 = .ok (.ifCond .le 15, 3) := by decide +kernel
theorem dX4_builds_189 : decode cX4_builds 189 = .ok (.aload_n 0, 1) := by decide +kernel
theorem dX4_builds_190 : decode cX4_builds 190 = .ok (.getfield 35, 3) := by decide +kernel
theorem dX4_builds_193 : decode cX4_builds 193 = .ok (.iload 4, 2) := by decide +kernel
theorem dX4_builds_195 : decode cX4_builds 195 = .ok (.iaload, 1) := by decide +kernel
theorem dX4_builds_196 : decode cX4_builds 196 = .ok (.iconst 1, 1) := by decide +kernel
theorem dX4_builds_197 : decode cX4_builds 197 = .ok (.isub, 1) := by decide +kernel
theorem dX4_builds_198 : decode cX4_builds 198 = .ok (.goto 10, 3) := by decide +kernel
theorem dX4_builds_201 : decode cX4_builds 201 = .ok (.aload_n 0, 1) := by decide +kernel
theorem dX4_builds_202 : decode cX4_builds 202 = .ok (.getfield 35, 3) := by decide +kernel
theorem dX4_builds_205 : decode cX4_builds 205 = .ok (.iload 4, 2) := by decide +kernel
theorem dX4_builds_207 : decode cX4_builds 207 = .ok (.iaload, 1) := by decide +kernel
theorem dX4_builds_208 : decode cX4_builds 208 = .ok (.istore 9, 2) := by decide +kernel
theorem dX4_builds_210 : decode cX4_builds 210 = .ok (.aload_n 0, 1) := by decide +kernel
theorem dX4_builds_211 : decode cX4_builds 211 = .ok (.getfield 35, 3) := by decide +kernel
theorem dX4_builds_214 : decode cX4_builds 214 = .ok (.iload 8, 2) := by decide +kernel
theorem dX4_builds_216 : decode cX4_builds 216 = .ok (.iload 9, 2) := by decide +kernel
theorem dX4_builds_218 : decode cX4_builds 218 = .ok (.iload_n 2, 1) := by decide +kernel
theorem dX4_builds_219 : decode cX4_builds 219 = .ok (.invokestatic 73, 3) := by decide +kernel
theorem dX4_builds_222 : decode cX4_builds 222 = .ok (.iload_n 3, 1) := by decide +kernel
theorem dX4_builds_223 : decode cX4_builds 223 = .ok (.invokestatic 73, 3) := by decide +kernel
theorem dX4_builds_226 : decode cX4_builds 226 = .ok (.invokestatic 69, 3) := by decide +kernel
theorem dX4_builds_229 : decode cX4_builds 229 = .ok (.invokestatic 69, 3) := by decide +kernel
theorem dX4_builds_232 : decode cX4_builds 232 = .ok (.iastore, 1) := by decide +kernel
theorem dX4_builds_233 : decode cX4_builds 233 = .ok (.aload_n 0, 1) := by decide +kernel
theorem dX4_builds_234 : decode cX4_builds 234 = .ok (.getfield 35, 3) := by decide +kernel
theorem dX4_builds_237 : decode cX4_builds 237 = .ok (.iload 8, 2) := by decide +kernel
theorem dX4_builds_239 : decode cX4_builds 239 = .ok (.iload_n 1, 1) := by decide +kernel
theorem dX4_builds_240 : decode cX4_builds 240 = .ok (.iconst 5, 1) := by decide +kernel
theorem dX4_builds_241 : decode cX4_builds 241 = .ok (.if_icmp .ne 23, 3) := by decide +kernel
theorem dX4_builds_244 : decode cX4_builds 244 = .ok (.aload_n 0, 1) := by decide +kernel
theorem dX4_builds_245 : decode cX4_builds 245 = .ok (.getfield 35, 3) := by decide +kernel
theorem dX4_builds_248 : decode cX4_builds 248 = .ok (.iload 4, 2) := by decide +kernel
theorem dX4_builds_250 : decode cX4_builds 250 = .ok (.iaload, 1) := by decide +kernel
theorem dX4_builds_251 : decode cX4_builds 251 = .ok (.aload_n 0, 1) := by decide +kernel
theorem dX4_builds_252 : decode cX4_builds 252 = .ok (.getfield 35, 3) := by decide +kernel
theorem dX4_builds_255 : decode cX4_builds 255 = .ok (.iload 5, 2) := by decide +kernel
theorem dX4_builds_257 : decode cX4_builds 257 = .ok (.iaload, 1) := by decide +kernel
theorem dX4_builds_258 : decode cX4_builds 258 = .ok (.invokestatic 69, 3) := by decide +kernel
theorem dX4_builds_261 : decode cX4_builds 261 = .ok (.goto 10, 3) := by decide +kernel
theorem dX4_builds_264 : decode cX4_builds 264 = .ok (.aload_n 0, 1) := by decide +kernel
theorem dX4_builds_265 : decode cX4_builds 265 = .ok (.getfield 35, 3) := by decide +kernel
theorem dX4_builds_268 : decode cX4_builds 268 = .ok (.iload 8, 2) := by decide +kernel
theorem dX4_builds_270 : decode cX4_builds 270 = .ok (.iaload, 1) := by decide +kernel
theorem dX4_builds_271 : decode cX4_builds 271 = .ok (.iastore, 1) := by decide +kernel
theorem dX4_builds_272 : decode cX4_builds 272 = .ok (.aload_n 0, 1) := by decide +kernel
theorem dX4_builds_273 : decode cX4_builds 273 = .ok (.getfield 38, 3) := by decide +kernel
theorem dX4_builds_276 : decode cX4_builds 276 = .ok (.iload 8, 2) := by decide +kernel
theorem dX4_builds_278 : decode cX4_builds 278 = .ok (.aload_n 0, 1) := by decide +kernel
theorem dX4_builds_279 : decode cX4_builds 279 = .ok (.getfield 38, 3) := by decide +kernel
theorem dX4_builds_282 : decode cX4_builds 282 = .ok (.iload 4, 2) := by decide +kernel
theorem dX4_builds_284 : decode cX4_builds 284 = .ok (.iaload, 1) := by decide +kernel
theorem dX4_builds_285 : decode cX4_builds 285 = .ok (.iload_n 1, 1) := by decide +kernel
theorem dX4_builds_286 : decode cX4_builds 286 = .ok (.iconst 1, 1) := by decide +kernel
theorem dX4_builds_287 : decode cX4_builds 287 = .ok (.if_icmp .ne 7, 3) := by decide +kernel
theorem dX4_builds_290 : decode cX4_builds 290 = .ok (.iconst 2, 1) := by decide +kernel
theorem dX4_builds_291 : decode cX4_builds 291 = .ok (.goto 39, 3) := by decide +kernel
theorem dX4_builds_294 : decode cX4_builds 294 = .ok (.iload_n 1, 1) := by decide +kernel
theorem dX4_builds_295 : decode cX4_builds 295 = .ok (.iconst 2, 1) := by decide +kernel
theorem dX4_builds_296 : decode cX4_builds 296 = .ok (.if_icmp .ne 7, 3) := by decide +kernel
theorem dX4_builds_299 : decode cX4_builds 299 = .ok (.iconst 4, 1) := by decide +kernel
theorem dX4_builds_300 : decode cX4_builds 300 = .ok (.goto 30, 3) := by decide +kernel
theorem dX4_builds_303 : decode cX4_builds 303 = .ok (.iload_n 1, 1) := by decide +kernel
theorem dX4_builds_304 : decode cX4_builds 304 = .ok (.iconst 3, 1) := by decide +kernel
theorem dX4_builds_305 : decode cX4_builds 305 = .ok (.if_icmp .ne 7, 3) := by decide +kernel
theorem dX4_builds_308 : decode cX4_builds 308 = .ok (.iconst 3, 1) := by decide +kernel
theorem dX4_builds_309 : decode cX4_builds 309 = .ok (.goto 21, 3) := by decide +kernel
theorem dX4_builds_312 : decode cX4_builds 312 = .ok (.iload_n 1, 1) := by decide +kernel
theorem dX4_builds_313 : decode cX4_builds 313 = .ok (.iconst 4, 1) := by decide +kernel
theorem dX4_builds_314 : decode cX4_builds 314 = .ok (.if_icmp .ne 7, 3) := by decide +kernel
theorem dX4_builds_317 : decode cX4_builds 317 = .ok (.iconst 5, 1) := by decide +kernel
theorem dX4_builds_318 : decode cX4_builds 318 = .ok (.goto 12, 3) := by decide +kernel
theorem dX4_builds_321 : decode cX4_builds 321 = .ok (.iconst 3, 1) := by decide +kernel
theorem dX4_builds_322 : decode cX4_builds 322 = .ok (.aload_n 0, 1) := by decide +kernel
theorem dX4_builds_323 : decode cX4_builds 323 = .ok (.getfield 38, 3) := by decide +kernel
theorem dX4_builds_326 : decode cX4_builds 326 = .ok (.iload 5, 2) := by decide +kernel
theorem dX4_builds_328 : decode cX4_builds 328 = .ok (.iaload, 1) := by decide +kernel
theorem dX4_builds_329 : decode cX4_builds 329 = .ok (.iadd, 1) := by decide +kernel
theorem dX4_builds_330 : decode cX4_builds 330 = .ok (.iadd, 1) := by decide +kernel
theorem dX4_builds_331 : decode cX4_builds 331 = .ok (.iastore, 1) := by decide +kernel
theorem dX4_builds_332 : decode cX4_builds 332 = .ok (.aload_n 0, 1) := by decide +kernel
theorem dX4_builds_333 : decode cX4_builds 333 = .ok (.dup, 1) := by decide +kernel
theorem dX4_builds_334 : decode cX4_builds 334 = .ok (.getfield 7, 3) := by decide +kernel
theorem dX4_builds_337 : decode cX4_builds 337 = .ok (.iconst 1, 1) := by decide +kernel
theorem dX4_builds_338 : decode cX4_builds 338 = .ok (.iadd, 1) := by decide +kernel
theorem dX4_builds_339 : decode cX4_builds 339 = .ok (.putfield 7, 3) := by decide +kernel
theorem dX4_builds_342 : decode cX4_builds 342 = .ok (.iload 8, 2) := by decide +kernel
theorem dX4_builds_344 : decode cX4_builds 344 = .ok (.ireturn, 1) := by decide +kernel
theorem dX4_tau_0 : decode cX4_tau 0 = .ok (.aload_n 0, 1) := by decide +kernel
theorem dX4_tau_1 : decode cX4_tau 1 = .ok (.iload_n 1, 1) := by decide +kernel
theorem dX4_tau_2 : decode cX4_tau 2 = .ok (.invokevirtual 77, 3) := by decide +kernel
theorem dX4_tau_5 : decode cX4_tau 5 = .ok (.ifCond .eq 15, 3) := by decide +kernel
theorem dX4_tau_8 : decode cX4_tau 8 = .ok (.aload_n 0, 1) := by decide +kernel
theorem dX4_tau_9 : decode cX4_tau 9 = .ok (.iconst 1, 1) := by decide +kernel
theorem dX4_tau_10 : decode cX4_tau 10 = .ok (.iconst 0, 1) := by decide +kernel
theorem dX4_tau_11 : decode cX4_tau 11 = .ok (.iconst 0, 1) := by decide +kernel
theorem dX4_tau_12 : decode cX4_tau 12 = .ok (.iload_n 1, 1) := by decide +kernel
theorem dX4_tau_13 : decode cX4_tau 13 = .ok (.iconst 0, 1) := by decide +kernel
theorem dX4_tau_14 : decode cX4_tau 14 = .ok (.invokevirtual 81, 3) := by decide +kernel
theorem dX4_tau_17 : decode cX4_tau 17 = .ok (.goto 4, 3) := by decide +kernel
theorem dX4_tau_20 : decode cX4_tau 20 = .ok (.iconst (-1), 1) := by decide +kernel
theorem dX4_tau_21 : decode cX4_tau 21 = .ok (.ireturn, 1) := by decide +kernel
theorem dX4_output_0 : decode cX4_output 0 = .ok (.iload_n 1, 1) := by decide +kernel
theorem dX4_output_1 : decode cX4_output 1 = .ok (.invokestatic 85, 3) := by decide +kernel
theorem dX4_output_4 : decode cX4_output 4 = .ok (.ifCond .eq 30, 3) := by decide +kernel
theorem dX4_output_7 : decode cX4_output 7 = .ok (.iload_n 2, 1) := by decide +kernel
theorem dX4_output_8 : decode cX4_output 8 = .ok (.invokestatic 85, 3) := by decide +kernel
theorem dX4_output_11 : decode cX4_output 11 = .ok (.ifCond .eq 23, 3) := by decide +kernel
theorem dX4_output_14 : decode cX4_output 14 = .ok (.aload_n 0, 1) := by decide +kernel
theorem dX4_output_15 : decode cX4_output 15 = .ok (.iload_n 3, 1) := by decide +kernel
theorem dX4_output_16 : decode cX4_output 16 = .ok (.invokevirtual 77, 3) := by decide +kernel
theorem dX4_output_19 : decode cX4_output 19 = .ok (.ifCond .eq 15, 3) := by decide +kernel
theorem dX4_output_22 : decode cX4_output 22 = .ok (.aload_n 0, 1) := by decide +kernel
theorem dX4_output_23 : decode cX4_output 23 = .ok (.iconst 2, 1) := by decide +kernel
theorem dX4_output_24 : decode cX4_output 24 = .ok (.iload_n 1, 1) := by decide +kernel
theorem dX4_output_25 : decode cX4_output 25 = .ok (.iload_n 2, 1) := by decide +kernel
theorem dX4_output_26 : decode cX4_output 26 = .ok (.iload_n 3, 1) := by decide +kernel
theorem dX4_output_27 : decode cX4_output 27 = .ok (.iconst 0, 1) := by decide +kernel
theorem dX4_output_28 : decode cX4_output 28 = .ok (.invokevirtual 81, 3) := by decide +kernel
theorem dX4_output_31 : decode cX4_output 31 = .ok (.goto 4, 3) := by decide +kernel
theorem dX4_output_34 : decode cX4_output 34 = .ok (.iconst (-1), 1) := by decide +kernel
theorem dX4_output_35 : decode cX4_output 35 = .ok (.ireturn, 1) := by decide +kernel
theorem dX4_input_0 : decode cX4_input 0 = .ok (.iload_n 1, 1) := by decide +kernel
theorem dX4_input_1 : decode cX4_input 1 = .ok (.invokestatic 85, 3) := by decide +kernel
theorem dX4_input_4 : decode cX4_input 4 = .ok (.ifCond .eq 23, 3) := by decide +kernel
theorem dX4_input_7 : decode cX4_input 7 = .ok (.aload_n 0, 1) := by decide +kernel
theorem dX4_input_8 : decode cX4_input 8 = .ok (.iload_n 2, 1) := by decide +kernel
theorem dX4_input_9 : decode cX4_input 9 = .ok (.invokevirtual 77, 3) := by decide +kernel
theorem dX4_input_12 : decode cX4_input 12 = .ok (.ifCond .eq 15, 3) := by decide +kernel
theorem dX4_input_15 : decode cX4_input 15 = .ok (.aload_n 0, 1) := by decide +kernel
theorem dX4_input_16 : decode cX4_input 16 = .ok (.iconst 3, 1) := by decide +kernel
theorem dX4_input_17 : decode cX4_input 17 = .ok (.iload_n 1, 1) := by decide +kernel
theorem dX4_input_18 : decode cX4_input 18 = .ok (.iconst 0, 1) := by decide +kernel
theorem dX4_input_19 : decode cX4_input 19 = .ok (.iload_n 2, 1) := by decide +kernel
theorem dX4_input_20 : decode cX4_input 20 = .ok (.iconst 0, 1) := by decide +kernel
theorem dX4_input_21 : decode cX4_input 21 = .ok (.invokevirtual 81, 3) := by decide +kernel
theorem dX4_input_24 : decode cX4_input 24 = .ok (.goto 4, 3) := by decide +kernel
theorem dX4_input_27 : decode cX4_input 27 = .ok (.iconst (-1), 1) := by decide +kernel
theorem dX4_input_28 : decode cX4_input 28 = .ok (.ireturn, 1) := by decide +kernel
theorem dX4_match_0 : decode cX4_match 0 = .ok (.iload_n 1, 1) := by decide +kernel
theorem dX4_match_1 : decode cX4_match 1 = .ok (.invokestatic 85, 3) := by decide +kernel
theorem dX4_match_4 : decode cX4_match 4 = .ok (.ifCond .eq 30, 3) := by decide +kernel
theorem dX4_match_7 : decode cX4_match 7 = .ok (.iload_n 2, 1) := by decide +kernel
theorem dX4_match_8 : decode cX4_match 8 = .ok (.invokestatic 85, 3) := by decide +kernel
theorem dX4_match_11 : decode cX4_match 11 = .ok (.ifCond .eq 23, 3) := by decide +kernel
theorem dX4_match_14 : decode cX4_match 14 = .ok (.aload_n 0, 1) := by decide +kernel
theorem dX4_match_15 : decode cX4_match 15 = .ok (.iload_n 3, 1) := by decide +kernel
theorem dX4_match_16 : decode cX4_match 16 = .ok (.invokevirtual 77, 3) := by decide +kernel
theorem dX4_match_19 : decode cX4_match 19 = .ok (.ifCond .eq 15, 3) := by decide +kernel
theorem dX4_match_22 : decode cX4_match 22 = .ok (.aload_n 0, 1) := by decide +kernel
theorem dX4_match_23 : decode cX4_match 23 = .ok (.iconst 4, 1) := by decide +kernel
theorem dX4_match_24 : decode cX4_match 24 = .ok (.iload_n 1, 1) := by decide +kernel
theorem dX4_match_25 : decode cX4_match 25 = .ok (.iload_n 2, 1) := by decide +kernel
theorem dX4_match_26 : decode cX4_match 26 = .ok (.iload_n 3, 1) := by decide +kernel
theorem dX4_match_27 : decode cX4_match 27 = .ok (.iconst 0, 1) := by decide +kernel
theorem dX4_match_28 : decode cX4_match 28 = .ok (.invokevirtual 81, 3) := by decide +kernel
theorem dX4_match_31 : decode cX4_match 31 = .ok (.goto 4, 3) := by decide +kernel
theorem dX4_match_34 : decode cX4_match 34 = .ok (.iconst (-1), 1) := by decide +kernel
theorem dX4_match_35 : decode cX4_match 35 = .ok (.ireturn, 1) := by decide +kernel
theorem dX4_sum_0 : decode cX4_sum 0 = .ok (.aload_n 0, 1) := by decide +kernel
theorem dX4_sum_1 : decode cX4_sum 1 = .ok (.iload_n 1, 1) := by decide +kernel
theorem dX4_sum_2 : decode cX4_sum 2 = .ok (.invokevirtual 77, 3) := by decide +kernel
theorem dX4_sum_5 : decode cX4_sum 5 = .ok (.ifCond .eq 23, 3) := by decide +kernel
theorem dX4_sum_8 : decode cX4_sum 8 = .ok (.aload_n 0, 1) := by decide +kernel
theorem dX4_sum_9 : decode cX4_sum 9 = .ok (.iload_n 2, 1) := by decide +kernel
theorem dX4_sum_10 : decode cX4_sum 10 = .ok (.invokevirtual 77, 3) := by decide +kernel
theorem dX4_sum_13 : decode cX4_sum 13 = .ok (.ifCond .eq 15, 3) := by decide +kernel
theorem dX4_sum_16 : decode cX4_sum 16 = .ok (.aload_n 0, 1) := by decide +kernel
theorem dX4_sum_17 : decode cX4_sum 17 = .ok (.iconst 5, 1) := by decide +kernel
theorem dX4_sum_18 : decode cX4_sum 18 = .ok (.iconst 0, 1) := by decide +kernel
theorem dX4_sum_19 : decode cX4_sum 19 = .ok (.iconst 0, 1) := by decide +kernel
theorem dX4_sum_20 : decode cX4_sum 20 = .ok (.iload_n 1, 1) := by decide +kernel
theorem dX4_sum_21 : decode cX4_sum 21 = .ok (.iload_n 2, 1) := by decide +kernel
theorem dX4_sum_22 : decode cX4_sum 22 = .ok (.invokevirtual 81, 3) := by decide +kernel
theorem dX4_sum_25 : decode cX4_sum 25 = .ok (.goto 4, 3) := by decide +kernel
theorem dX4_sum_28 : decode cX4_sum 28 = .ok (.iconst (-1), 1) := by decide +kernel
theorem dX4_sum_29 : decode cX4_sum 29 = .ok (.ireturn, 1) := by decide +kernel
theorem dX4_removeLast_0 : decode cX4_removeLast 0 = .ok (.aload_n 0, 1) := by decide +kernel
theorem dX4_removeLast_1 : decode cX4_removeLast 1 = .ok (.getfield 7, 3) := by decide +kernel
theorem dX4_removeLast_4 : decode cX4_removeLast 4 = .ok (.iconst 1, 1) := by decide +kernel
theorem dX4_removeLast_5 : decode cX4_removeLast 5 = .ok (.if_icmp .ne 6, 3) := by decide +kernel
theorem dX4_removeLast_8 : decode cX4_removeLast 8 = .ok (.bipush (-4), 2) := by decide +kernel
theorem dX4_removeLast_10 : decode cX4_removeLast 10 = .ok (.ireturn, 1) := by decide +kernel
theorem dX4_removeLast_11 : decode cX4_removeLast 11 = .ok (.aload_n 0, 1) := by decide +kernel
theorem dX4_removeLast_12 : decode cX4_removeLast 12 = .ok (.dup, 1) := by decide +kernel
theorem dX4_removeLast_13 : decode cX4_removeLast 13 = .ok (.getfield 7, 3) := by decide +kernel
theorem dX4_removeLast_16 : decode cX4_removeLast 16 = .ok (.iconst 1, 1) := by decide +kernel
theorem dX4_removeLast_17 : decode cX4_removeLast 17 = .ok (.isub, 1) := by decide +kernel
theorem dX4_removeLast_18 : decode cX4_removeLast 18 = .ok (.putfield 7, 3) := by decide +kernel
theorem dX4_removeLast_21 : decode cX4_removeLast 21 = .ok (.aload_n 0, 1) := by decide +kernel
theorem dX4_removeLast_22 : decode cX4_removeLast 22 = .ok (.getfield 7, 3) := by decide +kernel
theorem dX4_removeLast_25 : decode cX4_removeLast 25 = .ok (.ireturn, 1) := by decide +kernel
theorem dX4_processCount_0 : decode cX4_processCount 0 = .ok (.aload_n 0, 1) := by decide +kernel
theorem dX4_processCount_1 : decode cX4_processCount 1 = .ok (.getfield 7, 3) := by decide +kernel
theorem dX4_processCount_4 : decode cX4_processCount 4 = .ok (.ireturn, 1) := by decide +kernel
theorem dX4_kindOf_0 : decode cX4_kindOf 0 = .ok (.aload_n 0, 1) := by decide +kernel
theorem dX4_kindOf_1 : decode cX4_kindOf 1 = .ok (.iload_n 1, 1) := by decide +kernel
theorem dX4_kindOf_2 : decode cX4_kindOf 2 = .ok (.invokevirtual 77, 3) := by decide +kernel
theorem dX4_kindOf_5 : decode cX4_kindOf 5 = .ok (.ifCond .eq 12, 3) := by decide +kernel
theorem dX4_kindOf_8 : decode cX4_kindOf 8 = .ok (.aload_n 0, 1) := by decide +kernel
theorem dX4_kindOf_9 : decode cX4_kindOf 9 = .ok (.getfield 13, 3) := by decide +kernel
theorem dX4_kindOf_12 : decode cX4_kindOf 12 = .ok (.iload_n 1, 1) := by decide +kernel
theorem dX4_kindOf_13 : decode cX4_kindOf 13 = .ok (.iaload, 1) := by decide +kernel
theorem dX4_kindOf_14 : decode cX4_kindOf 14 = .ok (.goto 4, 3) := by decide +kernel
theorem dX4_kindOf_17 : decode cX4_kindOf 17 = .ok (.iconst (-1), 1) := by decide +kernel
theorem dX4_kindOf_18 : decode cX4_kindOf 18 = .ok (.ireturn, 1) := by decide +kernel
theorem dX4_partOf_0 : decode cX4_partOf 0 = .ok (.aload_n 0, 1) := by decide +kernel
theorem dX4_partOf_1 : decode cX4_partOf 1 = .ok (.iload_n 1, 1) := by decide +kernel
theorem dX4_partOf_2 : decode cX4_partOf 2 = .ok (.invokevirtual 77, 3) := by decide +kernel
theorem dX4_partOf_5 : decode cX4_partOf 5 = .ok (.ifCond .eq 12, 3) := by decide +kernel
theorem dX4_partOf_8 : decode cX4_partOf 8 = .ok (.iload_n 2, 1) := by decide +kernel
theorem dX4_partOf_9 : decode cX4_partOf 9 = .ok (.iconst 0, 1) := by decide +kernel
theorem dX4_partOf_10 : decode cX4_partOf 10 = .ok (.iconst 1, 1) := by decide +kernel
theorem dX4_partOf_11 : decode cX4_partOf 11 = .ok (.invokestatic 65, 3) := by decide +kernel
theorem dX4_partOf_14 : decode cX4_partOf 14 = .ok (.ifCond .ne 5, 3) := by decide +kernel
theorem dX4_partOf_17 : decode cX4_partOf 17 = .ok (.iconst (-1), 1) := by decide +kernel
theorem dX4_partOf_18 : decode cX4_partOf 18 = .ok (.ireturn, 1) := by decide +kernel
theorem dX4_partOf_19 : decode cX4_partOf 19 = .ok (.iload_n 2, 1) := by decide +kernel
theorem dX4_partOf_20 : decode cX4_partOf 20 = .ok (.ifCond .ne 20, 3) := by decide +kernel
theorem dX4_partOf_23 : decode cX4_partOf 23 = .ok (.aload_n 0, 1) := by decide +kernel
theorem dX4_partOf_24 : decode cX4_partOf 24 = .ok (.getfield 13, 3) := by decide +kernel
theorem dX4_partOf_27 : decode cX4_partOf 27 = .ok (.iload_n 1, 1) := by decide +kernel
theorem dX4_partOf_28 : decode cX4_partOf 28 = .ok (.iaload, 1) := by decide +kernel
theorem dX4_partOf_29 : decode cX4_partOf 29 = .ok (.ifCond .eq 7, 3) := by decide +kernel
theorem dX4_partOf_32 : decode cX4_partOf 32 = .ok (.iconst 1, 1) := by decide +kernel
theorem dX4_partOf_33 : decode cX4_partOf 33 = .ok (.goto 22, 3) := by decide +kernel
theorem dX4_partOf_36 : decode cX4_partOf 36 = .ok (.iconst 0, 1) := by decide +kernel
theorem dX4_partOf_37 : decode cX4_partOf 37 = .ok (.goto 18, 3) := by decide +kernel
theorem dX4_partOf_40 : decode cX4_partOf 40 = .ok (.aload_n 0, 1) := by decide +kernel
theorem dX4_partOf_41 : decode cX4_partOf 41 = .ok (.getfield 13, 3) := by decide +kernel
theorem dX4_partOf_44 : decode cX4_partOf 44 = .ok (.iload_n 1, 1) := by decide +kernel
theorem dX4_partOf_45 : decode cX4_partOf 45 = .ok (.iaload, 1) := by decide +kernel
theorem dX4_partOf_46 : decode cX4_partOf 46 = .ok (.iconst 5, 1) := by decide +kernel
theorem dX4_partOf_47 : decode cX4_partOf 47 = .ok (.if_icmp .ne 7, 3) := by decide +kernel
theorem dX4_partOf_50 : decode cX4_partOf 50 = .ok (.iconst 1, 1) := by decide +kernel
theorem dX4_partOf_51 : decode cX4_partOf 51 = .ok (.goto 4, 3) := by decide +kernel
theorem dX4_partOf_54 : decode cX4_partOf 54 = .ok (.iconst 0, 1) := by decide +kernel
theorem dX4_partOf_55 : decode cX4_partOf 55 = .ok (.istore_n 3, 1) := by decide +kernel
theorem dX4_partOf_56 : decode cX4_partOf 56 = .ok (.iload_n 3, 1) := by decide +kernel
theorem dX4_partOf_57 : decode cX4_partOf 57 = .ok (.ifCond .ne 8, 3) := by decide +kernel
theorem dX4_partOf_60 : decode cX4_partOf 60 = .ok (.bipush (-4), 2) := by decide +kernel
theorem dX4_partOf_62 : decode cX4_partOf 62 = .ok (.goto 22, 3) := by decide +kernel
theorem dX4_partOf_65 : decode cX4_partOf 65 = .ok (.iload_n 2, 1) := by decide +kernel
theorem dX4_partOf_66 : decode cX4_partOf 66 = .ok (.ifCond .ne 12, 3) := by decide +kernel
theorem dX4_partOf_69 : decode cX4_partOf 69 = .ok (.aload_n 0, 1) := by decide +kernel
theorem dX4_partOf_70 : decode cX4_partOf 70 = .ok (.getfield 23, 3) := by decide +kernel
theorem dX4_partOf_73 : decode cX4_partOf 73 = .ok (.iload_n 1, 1) := by decide +kernel
theorem dX4_partOf_74 : decode cX4_partOf 74 = .ok (.iaload, 1) := by decide +kernel
theorem dX4_partOf_75 : decode cX4_partOf 75 = .ok (.goto 9, 3) := by decide +kernel
theorem dX4_partOf_78 : decode cX4_partOf 78 = .ok (.aload_n 0, 1) := by decide +kernel
theorem dX4_partOf_79 : decode cX4_partOf 79 = .ok (.getfield 26, 3) := by decide +kernel
theorem dX4_partOf_82 : decode cX4_partOf 82 = .ok (.iload_n 1, 1) := by decide +kernel
theorem dX4_partOf_83 : decode cX4_partOf 83 = .ok (.iaload, 1) := by decide +kernel
theorem dX4_partOf_84 : decode cX4_partOf 84 = .ok (.ireturn, 1) := by decide +kernel
theorem dX4_depthOf_0 : decode cX4_depthOf 0 = .ok (.aload_n 0, 1) := by decide +kernel
theorem dX4_depthOf_1 : decode cX4_depthOf 1 = .ok (.iload_n 1, 1) := by decide +kernel
theorem dX4_depthOf_2 : decode cX4_depthOf 2 = .ok (.invokevirtual 77, 3) := by decide +kernel
theorem dX4_depthOf_5 : decode cX4_depthOf 5 = .ok (.ifCond .eq 12, 3) := by decide +kernel
theorem dX4_depthOf_8 : decode cX4_depthOf 8 = .ok (.aload_n 0, 1) := by decide +kernel
theorem dX4_depthOf_9 : decode cX4_depthOf 9 = .ok (.getfield 29, 3) := by decide +kernel
theorem dX4_depthOf_12 : decode cX4_depthOf 12 = .ok (.iload_n 1, 1) := by decide +kernel
theorem dX4_depthOf_13 : decode cX4_depthOf 13 = .ok (.iaload, 1) := by decide +kernel
theorem dX4_depthOf_14 : decode cX4_depthOf 14 = .ok (.goto 4, 3) := by decide +kernel
theorem dX4_depthOf_17 : decode cX4_depthOf 17 = .ok (.iconst (-1), 1) := by decide +kernel
theorem dX4_depthOf_18 : decode cX4_depthOf 18 = .ok (.ireturn, 1) := by decide +kernel
theorem dX4_needOf_0 : decode cX4_needOf 0 = .ok (.aload_n 0, 1) := by decide +kernel
theorem dX4_needOf_1 : decode cX4_needOf 1 = .ok (.iload_n 1, 1) := by decide +kernel
theorem dX4_needOf_2 : decode cX4_needOf 2 = .ok (.invokevirtual 77, 3) := by decide +kernel
theorem dX4_needOf_5 : decode cX4_needOf 5 = .ok (.ifCond .eq 12, 3) := by decide +kernel
theorem dX4_needOf_8 : decode cX4_needOf 8 = .ok (.aload_n 0, 1) := by decide +kernel
theorem dX4_needOf_9 : decode cX4_needOf 9 = .ok (.getfield 35, 3) := by decide +kernel
theorem dX4_needOf_12 : decode cX4_needOf 12 = .ok (.iload_n 1, 1) := by decide +kernel
theorem dX4_needOf_13 : decode cX4_needOf 13 = .ok (.iaload, 1) := by decide +kernel
theorem dX4_needOf_14 : decode cX4_needOf 14 = .ok (.goto 4, 3) := by decide +kernel
theorem dX4_needOf_17 : decode cX4_needOf 17 = .ok (.iconst (-1), 1) := by decide +kernel
theorem dX4_needOf_18 : decode cX4_needOf 18 = .ok (.ireturn, 1) := by decide +kernel
theorem dX4_textLength_0 : decode cX4_textLength 0 = .ok (.aload_n 0, 1) := by decide +kernel
theorem dX4_textLength_1 : decode cX4_textLength 1 = .ok (.iload_n 1, 1) := by decide +kernel
theorem dX4_textLength_2 : decode cX4_textLength 2 = .ok (.invokevirtual 77, 3) := by decide +kernel
theorem dX4_textLength_5 : decode cX4_textLength 5 = .ok (.ifCond .eq 12, 3) := by decide +kernel
theorem dX4_textLength_8 : decode cX4_textLength 8 = .ok (.aload_n 0, 1) := by decide +kernel
theorem dX4_textLength_9 : decode cX4_textLength 9 = .ok (.getfield 38, 3) := by decide +kernel
theorem dX4_textLength_12 : decode cX4_textLength 12 = .ok (.iload_n 1, 1) := by decide +kernel
theorem dX4_textLength_13 : decode cX4_textLength 13 = .ok (.iaload, 1) := by decide +kernel
theorem dX4_textLength_14 : decode cX4_textLength 14 = .ok (.goto 4, 3) := by decide +kernel
theorem dX4_textLength_17 : decode cX4_textLength 17 = .ok (.iconst (-1), 1) := by decide +kernel
theorem dX4_textLength_18 : decode cX4_textLength 18 = .ok (.ireturn, 1) := by decide +kernel
theorem dX4_sign_0 : decode cX4_sign 0 = .ok (.iload_n 0, 1) := by decide +kernel
theorem dX4_sign_1 : decode cX4_sign 1 = .ok (.iconst 3, 1) := by decide +kernel
theorem dX4_sign_2 : decode cX4_sign 2 = .ok (.if_icmp .ge 10, 3) := by decide +kernel
theorem dX4_sign_5 : decode cX4_sign 5 = .ok (.bipush 97, 2) := by decide +kernel
theorem dX4_sign_7 : decode cX4_sign 7 = .ok (.iload_n 0, 1) := by decide +kernel
theorem dX4_sign_8 : decode cX4_sign 8 = .ok (.iadd, 1) := by decide +kernel
theorem dX4_sign_9 : decode cX4_sign 9 = .ok (.goto 9, 3) := by decide +kernel
theorem dX4_sign_12 : decode cX4_sign 12 = .ok (.bipush 48, 2) := by decide +kernel
theorem dX4_sign_14 : decode cX4_sign 14 = .ok (.iload_n 0, 1) := by decide +kernel
theorem dX4_sign_15 : decode cX4_sign 15 = .ok (.iadd, 1) := by decide +kernel
theorem dX4_sign_16 : decode cX4_sign 16 = .ok (.iconst 3, 1) := by decide +kernel
theorem dX4_sign_17 : decode cX4_sign 17 = .ok (.isub, 1) := by decide +kernel
theorem dX4_sign_18 : decode cX4_sign 18 = .ok (.ireturn, 1) := by decide +kernel
theorem dX4_head_0 : decode cX4_head 0 = .ok (.aload_n 0, 1) := by decide +kernel
theorem dX4_head_1 : decode cX4_head 1 = .ok (.getfield 13, 3) := by decide +kernel
theorem dX4_head_4 : decode cX4_head 4 = .ok (.iload_n 1, 1) := by decide +kernel
theorem dX4_head_5 : decode cX4_head 5 = .ok (.iaload, 1) := by decide +kernel
theorem dX4_head_6 : decode cX4_head 6 = .ok (.tableswitch 120 0 3 #[30, 33, 45, 91], 30) := by decide +kernel
theorem dX4_head_36 : decode cX4_head 36 = .ok (.bipush 48, 2) := by decide +kernel
theorem dX4_head_38 : decode cX4_head 38 = .ok (.ireturn, 1) := by decide +kernel
theorem dX4_head_39 : decode cX4_head 39 = .ok (.iload_n 2, 1) := by decide +kernel
theorem dX4_head_40 : decode cX4_head 40 = .ok (.ifCond .ne 8, 3) := by decide +kernel
theorem dX4_head_43 : decode cX4_head 43 = .ok (.bipush 116, 2) := by decide +kernel
theorem dX4_head_45 : decode cX4_head 45 = .ok (.goto 5, 3) := by decide +kernel
theorem dX4_head_48 : decode cX4_head 48 = .ok (.bipush 46, 2) := by decide +kernel
theorem dX4_head_50 : decode cX4_head 50 = .ok (.ireturn, 1) := by decide +kernel
theorem dX4_head_51 : decode cX4_head 51 = .ok (.iload_n 2, 1) := by decide +kernel
theorem dX4_head_52 : decode cX4_head 52 = .ok (.ifCond .ne 15, 3) := by decide +kernel
theorem dX4_head_55 : decode cX4_head 55 = .ok (.aload_n 0, 1) := by decide +kernel
theorem dX4_head_56 : decode cX4_head 56 = .ok (.getfield 17, 3) := by decide +kernel
theorem dX4_head_59 : decode cX4_head 59 = .ok (.iload_n 1, 1) := by decide +kernel
theorem dX4_head_60 : decode cX4_head 60 = .ok (.iaload, 1) := by decide +kernel
theorem dX4_head_61 : decode cX4_head 61 = .ok (.invokestatic 88, 3) := by decide +kernel
theorem dX4_head_64 : decode cX4_head 64 = .ok (.goto 32, 3) := by decide +kernel
theorem dX4_head_67 : decode cX4_head 67 = .ok (.iload_n 2, 1) := by decide +kernel
theorem dX4_head_68 : decode cX4_head 68 = .ok (.iconst 1, 1) := by decide +kernel
theorem dX4_head_69 : decode cX4_head 69 = .ok (.if_icmp .ne 8, 3) := by decide +kernel
theorem dX4_head_72 : decode cX4_head 72 = .ok (.bipush 33, 2) := by decide +kernel
theorem dX4_head_74 : decode cX4_head 74 = .ok (.goto 22, 3) := by decide +kernel
theorem dX4_head_77 : decode cX4_head 77 = .ok (.iload_n 2, 1) := by decide +kernel
theorem dX4_head_78 : decode cX4_head 78 = .ok (.iconst 2, 1) := by decide +kernel
theorem dX4_head_79 : decode cX4_head 79 = .ok (.if_icmp .ne 15, 3) := by decide +kernel
theorem dX4_head_82 : decode cX4_head 82 = .ok (.aload_n 0, 1) := by decide +kernel
theorem dX4_head_83 : decode cX4_head 83 = .ok (.getfield 20, 3) := by decide +kernel
theorem dX4_head_86 : decode cX4_head 86 = .ok (.iload_n 1, 1) := by decide +kernel
theorem dX4_head_87 : decode cX4_head 87 = .ok (.iaload, 1) := by decide +kernel
theorem dX4_head_88 : decode cX4_head 88 = .ok (.invokestatic 88, 3) := by decide +kernel
theorem dX4_head_91 : decode cX4_head 91 = .ok (.goto 5, 3) := by decide +kernel
theorem dX4_head_94 : decode cX4_head 94 = .ok (.bipush 46, 2) := by decide +kernel
theorem dX4_head_96 : decode cX4_head 96 = .ok (.ireturn, 1) := by decide +kernel
theorem dX4_head_97 : decode cX4_head 97 = .ok (.iload_n 2, 1) := by decide +kernel
theorem dX4_head_98 : decode cX4_head 98 = .ok (.ifCond .ne 15, 3) := by decide +kernel
theorem dX4_head_101 : decode cX4_head 101 = .ok (.aload_n 0, 1) := by decide +kernel
theorem dX4_head_102 : decode cX4_head 102 = .ok (.getfield 17, 3) := by decide +kernel
theorem dX4_head_105 : decode cX4_head 105 = .ok (.iload_n 1, 1) := by decide +kernel
theorem dX4_head_106 : decode cX4_head 106 = .ok (.iaload, 1) := by decide +kernel
theorem dX4_head_107 : decode cX4_head 107 = .ok (.invokestatic 88, 3) := by decide +kernel
theorem dX4_head_110 : decode cX4_head 110 = .ok (.goto 15, 3) := by decide +kernel
theorem dX4_head_113 : decode cX4_head 113 = .ok (.iload_n 2, 1) := by decide +kernel
theorem dX4_head_114 : decode cX4_head 114 = .ok (.iconst 1, 1) := by decide +kernel
theorem dX4_head_115 : decode cX4_head 115 = .ok (.if_icmp .ne 8, 3) := by decide +kernel
theorem dX4_head_118 : decode cX4_head 118 = .ok (.bipush 63, 2) := by decide +kernel
theorem dX4_head_120 : decode cX4_head 120 = .ok (.goto 5, 3) := by decide +kernel
theorem dX4_head_123 : decode cX4_head 123 = .ok (.bipush 46, 2) := by decide +kernel
theorem dX4_head_125 : decode cX4_head 125 = .ok (.ireturn, 1) := by decide +kernel
theorem dX4_head_126 : decode cX4_head 126 = .ok (.iload_n 2, 1) := by decide +kernel
theorem dX4_head_127 : decode cX4_head 127 = .ok (.ifCond .ne 8, 3) := by decide +kernel
theorem dX4_head_130 : decode cX4_head 130 = .ok (.bipush 91, 2) := by decide +kernel
theorem dX4_head_132 : decode cX4_head 132 = .ok (.goto 49, 3) := by decide +kernel
theorem dX4_head_135 : decode cX4_head 135 = .ok (.iload_n 2, 1) := by decide +kernel
theorem dX4_head_136 : decode cX4_head 136 = .ok (.iconst 1, 1) := by decide +kernel
theorem dX4_head_137 : decode cX4_head 137 = .ok (.if_icmp .ne 15, 3) := by decide +kernel
theorem dX4_head_140 : decode cX4_head 140 = .ok (.aload_n 0, 1) := by decide +kernel
theorem dX4_head_141 : decode cX4_head 141 = .ok (.getfield 17, 3) := by decide +kernel
theorem dX4_head_144 : decode cX4_head 144 = .ok (.iload_n 1, 1) := by decide +kernel
theorem dX4_head_145 : decode cX4_head 145 = .ok (.iaload, 1) := by decide +kernel
theorem dX4_head_146 : decode cX4_head 146 = .ok (.invokestatic 88, 3) := by decide +kernel
theorem dX4_head_149 : decode cX4_head 149 = .ok (.goto 32, 3) := by decide +kernel
theorem dX4_head_152 : decode cX4_head 152 = .ok (.iload_n 2, 1) := by decide +kernel
theorem dX4_head_153 : decode cX4_head 153 = .ok (.iconst 2, 1) := by decide +kernel
theorem dX4_head_154 : decode cX4_head 154 = .ok (.if_icmp .ne 8, 3) := by decide +kernel
theorem dX4_head_157 : decode cX4_head 157 = .ok (.bipush 61, 2) := by decide +kernel
theorem dX4_head_159 : decode cX4_head 159 = .ok (.goto 22, 3) := by decide +kernel
theorem dX4_head_162 : decode cX4_head 162 = .ok (.iload_n 2, 1) := by decide +kernel
theorem dX4_head_163 : decode cX4_head 163 = .ok (.iconst 3, 1) := by decide +kernel
theorem dX4_head_164 : decode cX4_head 164 = .ok (.if_icmp .ne 15, 3) := by decide +kernel
theorem dX4_head_167 : decode cX4_head 167 = .ok (.aload_n 0, 1) := by decide +kernel
theorem dX4_head_168 : decode cX4_head 168 = .ok (.getfield 20, 3) := by decide +kernel
theorem dX4_head_171 : decode cX4_head 171 = .ok (.iload_n 1, 1) := by decide +kernel
theorem dX4_head_172 : decode cX4_head 172 = .ok (.iaload, 1) := by decide +kernel
theorem dX4_head_173 : decode cX4_head 173 = .ok (.invokestatic 88, 3) := by decide +kernel
theorem dX4_head_176 : decode cX4_head 176 = .ok (.goto 5, 3) := by decide +kernel
theorem dX4_head_179 : decode cX4_head 179 = .ok (.bipush 93, 2) := by decide +kernel
theorem dX4_head_181 : decode cX4_head 181 = .ok (.ireturn, 1) := by decide +kernel
theorem dX4_textAt_0 : decode cX4_textAt 0 = .ok (.aload_n 0, 1) := by decide +kernel
theorem dX4_textAt_1 : decode cX4_textAt 1 = .ok (.iload_n 1, 1) := by decide +kernel
theorem dX4_textAt_2 : decode cX4_textAt 2 = .ok (.invokevirtual 77, 3) := by decide +kernel
theorem dX4_textAt_5 : decode cX4_textAt 5 = .ok (.ifCond .eq 7, 3) := by decide +kernel
theorem dX4_textAt_8 : decode cX4_textAt 8 = .ok (.iload_n 2, 1) := by decide +kernel
theorem dX4_textAt_9 : decode cX4_textAt 9 = .ok (.ifCond .ge 5, 3) := by decide +kernel
theorem dX4_textAt_12 : decode cX4_textAt 12 = .ok (.iconst (-1), 1) := by decide +kernel
theorem dX4_textAt_13 : decode cX4_textAt 13 = .ok (.ireturn, 1) := by decide +kernel
theorem dX4_textAt_14 : decode cX4_textAt 14 = .ok (.iload_n 2, 1) := by decide +kernel
theorem dX4_textAt_15 : decode cX4_textAt 15 = .ok (.aload_n 0, 1) := by decide +kernel
theorem dX4_textAt_16 : decode cX4_textAt 16 = .ok (.getfield 38, 3) := by decide +kernel
theorem dX4_textAt_19 : decode cX4_textAt 19 = .ok (.iload_n 1, 1) := by decide +kernel
theorem dX4_textAt_20 : decode cX4_textAt 20 = .ok (.iaload, 1) := by decide +kernel
theorem dX4_textAt_21 : decode cX4_textAt 21 = .ok (.if_icmp .lt 6, 3) := by decide +kernel
theorem dX4_textAt_24 : decode cX4_textAt 24 = .ok (.bipush (-4), 2) := by decide +kernel
theorem dX4_textAt_26 : decode cX4_textAt 26 = .ok (.ireturn, 1) := by decide +kernel
theorem dX4_textAt_27 : decode cX4_textAt 27 = .ok (.iload_n 1, 1) := by decide +kernel
theorem dX4_textAt_28 : decode cX4_textAt 28 = .ok (.istore_n 3, 1) := by decide +kernel
theorem dX4_textAt_29 : decode cX4_textAt 29 = .ok (.iload_n 2, 1) := by decide +kernel
theorem dX4_textAt_30 : decode cX4_textAt 30 = .ok (.istore 4, 2) := by decide +kernel
theorem dX4_textAt_32 : decode cX4_textAt 32 = .ok (.aload_n 0, 1) := by decide +kernel
theorem dX4_textAt_33 : decode cX4_textAt 33 = .ok (.getfield 13, 3) := by decide +kernel
theorem dX4_textAt_36 : decode cX4_textAt 36 = .ok (.iload_n 3, 1) := by decide +kernel
theorem dX4_textAt_37 : decode cX4_textAt 37 = .ok (.iaload, 1) := by decide +kernel
theorem dX4_textAt_38 : decode cX4_textAt 38 = .ok (.iconst 5, 1) := by decide +kernel
theorem dX4_textAt_39 : decode cX4_textAt 39 = .ok (.if_icmp .ne 120, 3) := by decide +kernel
theorem dX4_textAt_42 : decode cX4_textAt 42 = .ok (.aload_n 0, 1) := by decide +kernel
theorem dX4_textAt_43 : decode cX4_textAt 43 = .ok (.getfield 38, 3) := by decide +kernel
theorem dX4_textAt_46 : decode cX4_textAt 46 = .ok (.aload_n 0, 1) := by decide +kernel
theorem dX4_textAt_47 : decode cX4_textAt 47 = .ok (.getfield 23, 3) := by decide +kernel
theorem dX4_textAt_50 : decode cX4_textAt 50 = .ok (.iload_n 3, 1) := by decide +kernel
theorem dX4_textAt_51 : decode cX4_textAt 51 = .ok (.iaload, 1) := by decide +kernel
theorem dX4_textAt_52 : decode cX4_textAt 52 = .ok (.iaload, 1) := by decide +kernel
theorem dX4_textAt_53 : decode cX4_textAt 53 = .ok (.istore 5, 2) := by decide +kernel
theorem dX4_textAt_55 : decode cX4_textAt 55 = .ok (.iload 4, 2) := by decide +kernel
theorem dX4_textAt_57 : decode cX4_textAt 57 = .ok (.ifCond .eq 25, 3) := by decide +kernel
theorem dX4_textAt_60 : decode cX4_textAt 60 = .ok (.iload 4, 2) := by decide +kernel
theorem dX4_textAt_62 : decode cX4_textAt 62 = .ok (.iload 5, 2) := by decide +kernel
theorem dX4_textAt_64 : decode cX4_textAt 64 = .ok (.iconst 1, 1) := by decide +kernel
theorem dX4_textAt_65 : decode cX4_textAt 65 = .ok (.iadd, 1) := by decide +kernel
theorem dX4_textAt_66 : decode cX4_textAt 66 = .ok (.if_icmp .eq 16, 3) := by decide +kernel
theorem dX4_textAt_69 : decode cX4_textAt 69 = .ok (.iload 4, 2) := by decide +kernel
theorem dX4_textAt_71 : decode cX4_textAt 71 = .ok (.aload_n 0, 1) := by decide +kernel
theorem dX4_textAt_72 : decode cX4_textAt 72 = .ok (.getfield 38, 3) := by decide +kernel
theorem dX4_textAt_75 : decode cX4_textAt 75 = .ok (.iload_n 3, 1) := by decide +kernel
theorem dX4_textAt_76 : decode cX4_textAt 76 = .ok (.iaload, 1) := by decide +kernel
theorem dX4_textAt_77 : decode cX4_textAt 77 = .ok (.iconst 1, 1) := by decide +kernel
theorem dX4_textAt_78 : decode cX4_textAt 78 = .ok (.isub, 1) := by decide +kernel
theorem dX4_textAt_79 : decode cX4_textAt 79 = .ok (.if_icmp .ne 30, 3) := by decide +kernel
theorem dX4_textAt_82 : decode cX4_textAt 82 = .ok (.iload 4, 2) := by decide +kernel
theorem dX4_textAt_84 : decode cX4_textAt 84 = .ok (.ifCond .ne 8, 3) := by decide +kernel
theorem dX4_textAt_87 : decode cX4_textAt 87 = .ok (.bipush 40, 2) := by decide +kernel
theorem dX4_textAt_89 : decode cX4_textAt 89 = .ok (.goto 19, 3) := by decide +kernel
theorem dX4_textAt_92 : decode cX4_textAt 92 = .ok (.iload 4, 2) := by decide +kernel
theorem dX4_textAt_94 : decode cX4_textAt 94 = .ok (.iload 5, 2) := by decide +kernel
theorem dX4_textAt_96 : decode cX4_textAt 96 = .ok (.iconst 1, 1) := by decide +kernel
theorem dX4_textAt_97 : decode cX4_textAt 97 = .ok (.iadd, 1) := by decide +kernel
theorem dX4_textAt_98 : decode cX4_textAt 98 = .ok (.if_icmp .ne 8, 3) := by decide +kernel
theorem dX4_textAt_101 : decode cX4_textAt 101 = .ok (.bipush 43, 2) := by decide +kernel
theorem dX4_textAt_103 : decode cX4_textAt 103 = .ok (.goto 5, 3) := by decide +kernel
theorem dX4_textAt_106 : decode cX4_textAt 106 = .ok (.bipush 41, 2) := by decide +kernel
theorem dX4_textAt_108 : decode cX4_textAt 108 = .ok (.ireturn, 1) := by decide +kernel
theorem dX4_textAt_109 : decode cX4_textAt 109 = .ok (.iload 4, 2) := by decide +kernel
theorem dX4_textAt_111 : decode cX4_textAt 111 = .ok (.iload 5, 2) := by decide +kernel
theorem dX4_textAt_113 : decode cX4_textAt 113 = .ok (.if_icmp .gt 7, 3) := by decide +kernel
theorem dX4_textAt_116 : decode cX4_textAt 116 = .ok (.iconst 1, 1) := by decide +kernel
theorem dX4_textAt_117 : decode cX4_textAt 117 = .ok (.goto 7, 3) := by decide +kernel
theorem dX4_textAt_120 : decode cX4_textAt 120 = .ok (.iload 5, 2) := by decide +kernel
theorem dX4_textAt_122 : decode cX4_textAt 122 = .ok (.iconst 2, 1) := by decide +kernel
theorem dX4_textAt_123 : decode cX4_textAt 123 = .ok (.iadd, 1) := by decide +kernel
theorem dX4_textAt_124 : decode cX4_textAt 124 = .ok (.istore 6, 2) := by decide +kernel
theorem dX4_textAt_126 : decode cX4_textAt 126 = .ok (.iload 4, 2) := by decide +kernel
theorem dX4_textAt_128 : decode cX4_textAt 128 = .ok (.iload 5, 2) := by decide +kernel
theorem dX4_textAt_130 : decode cX4_textAt 130 = .ok (.if_icmp .gt 12, 3) := by decide +kernel
theorem dX4_textAt_133 : decode cX4_textAt 133 = .ok (.aload_n 0, 1) := by decide +kernel
theorem dX4_textAt_134 : decode cX4_textAt 134 = .ok (.getfield 23, 3) := by decide +kernel
theorem dX4_textAt_137 : decode cX4_textAt 137 = .ok (.iload_n 3, 1) := by decide +kernel
theorem dX4_textAt_138 : decode cX4_textAt 138 = .ok (.iaload, 1) := by decide +kernel
theorem dX4_textAt_139 : decode cX4_textAt 139 = .ok (.goto 9, 3) := by decide +kernel
theorem dX4_textAt_142 : decode cX4_textAt 142 = .ok (.aload_n 0, 1) := by decide +kernel
theorem dX4_textAt_143 : decode cX4_textAt 143 = .ok (.getfield 26, 3) := by decide +kernel
theorem dX4_textAt_146 : decode cX4_textAt 146 = .ok (.iload_n 3, 1) := by decide +kernel
theorem dX4_textAt_147 : decode cX4_textAt 147 = .ok (.iaload, 1) := by decide +kernel
theorem dX4_textAt_148 : decode cX4_textAt 148 = .ok (.istore_n 3, 1) := by decide +kernel
theorem dX4_textAt_149 : decode cX4_textAt 149 = .ok (.iload 4, 2) := by decide +kernel
theorem dX4_textAt_151 : decode cX4_textAt 151 = .ok (.iload 6, 2) := by decide +kernel
theorem dX4_textAt_153 : decode cX4_textAt 153 = .ok (.isub, 1) := by decide +kernel
theorem dX4_textAt_154 : decode cX4_textAt 154 = .ok (.istore 4, 2) := by decide +kernel
theorem dX4_textAt_156 : decode cX4_textAt 156 = .ok (.goto (-124), 3) := by decide +kernel
theorem dX4_textAt_159 : decode cX4_textAt 159 = .ok (.aload_n 0, 1) := by decide +kernel
theorem dX4_textAt_160 : decode cX4_textAt 160 = .ok (.getfield 13, 3) := by decide +kernel
theorem dX4_textAt_163 : decode cX4_textAt 163 = .ok (.iload_n 3, 1) := by decide +kernel
theorem dX4_textAt_164 : decode cX4_textAt 164 = .ok (.iaload, 1) := by decide +kernel
theorem dX4_textAt_165 : decode cX4_textAt 165 = .ok (.ifCond .ne 7, 3) := by decide +kernel
theorem dX4_textAt_168 : decode cX4_textAt 168 = .ok (.iconst 1, 1) := by decide +kernel
theorem dX4_textAt_169 : decode cX4_textAt 169 = .ok (.goto 21, 3) := by decide +kernel
theorem dX4_textAt_172 : decode cX4_textAt 172 = .ok (.aload_n 0, 1) := by decide +kernel
theorem dX4_textAt_173 : decode cX4_textAt 173 = .ok (.getfield 38, 3) := by decide +kernel
theorem dX4_textAt_176 : decode cX4_textAt 176 = .ok (.iload_n 3, 1) := by decide +kernel
theorem dX4_textAt_177 : decode cX4_textAt 177 = .ok (.iaload, 1) := by decide +kernel
theorem dX4_textAt_178 : decode cX4_textAt 178 = .ok (.aload_n 0, 1) := by decide +kernel
theorem dX4_textAt_179 : decode cX4_textAt 179 = .ok (.getfield 38, 3) := by decide +kernel
theorem dX4_textAt_182 : decode cX4_textAt 182 = .ok (.aload_n 0, 1) := by decide +kernel
theorem dX4_textAt_183 : decode cX4_textAt 183 = .ok (.getfield 23, 3) := by decide +kernel
theorem dX4_textAt_186 : decode cX4_textAt 186 = .ok (.iload_n 3, 1) := by decide +kernel
theorem dX4_textAt_187 : decode cX4_textAt 187 = .ok (.iaload, 1) := by decide +kernel
theorem dX4_textAt_188 : decode cX4_textAt 188 = .ok (.iaload, 1) := by decide +kernel
theorem dX4_textAt_189 : decode cX4_textAt 189 = .ok (.isub, 1) := by decide +kernel
theorem dX4_textAt_190 : decode cX4_textAt 190 = .ok (.istore 5, 2) := by decide +kernel
theorem dX4_textAt_192 : decode cX4_textAt 192 = .ok (.iload 4, 2) := by decide +kernel
theorem dX4_textAt_194 : decode cX4_textAt 194 = .ok (.iload 5, 2) := by decide +kernel
theorem dX4_textAt_196 : decode cX4_textAt 196 = .ok (.if_icmp .ge 11, 3) := by decide +kernel
theorem dX4_textAt_199 : decode cX4_textAt 199 = .ok (.aload_n 0, 1) := by decide +kernel
theorem dX4_textAt_200 : decode cX4_textAt 200 = .ok (.iload_n 3, 1) := by decide +kernel
theorem dX4_textAt_201 : decode cX4_textAt 201 = .ok (.iload 4, 2) := by decide +kernel
theorem dX4_textAt_203 : decode cX4_textAt 203 = .ok (.invokevirtual 91, 3) := by decide +kernel
theorem dX4_textAt_206 : decode cX4_textAt 206 = .ok (.ireturn, 1) := by decide +kernel
theorem dX4_textAt_207 : decode cX4_textAt 207 = .ok (.iload 4, 2) := by decide +kernel
theorem dX4_textAt_209 : decode cX4_textAt 209 = .ok (.iload 5, 2) := by decide +kernel
theorem dX4_textAt_211 : decode cX4_textAt 211 = .ok (.isub, 1) := by decide +kernel
theorem dX4_textAt_212 : decode cX4_textAt 212 = .ok (.istore 4, 2) := by decide +kernel
theorem dX4_textAt_214 : decode cX4_textAt 214 = .ok (.aload_n 0, 1) := by decide +kernel
theorem dX4_textAt_215 : decode cX4_textAt 215 = .ok (.getfield 23, 3) := by decide +kernel
theorem dX4_textAt_218 : decode cX4_textAt 218 = .ok (.iload_n 3, 1) := by decide +kernel
theorem dX4_textAt_219 : decode cX4_textAt 219 = .ok (.iaload, 1) := by decide +kernel
theorem dX4_textAt_220 : decode cX4_textAt 220 = .ok (.istore_n 3, 1) := by decide +kernel
theorem dX4_textAt_221 : decode cX4_textAt 221 = .ok (.goto (-189), 3) := by decide +kernel
theorem dX4_valueOf_0 : decode cX4_valueOf 0 = .ok (.iload_n 0, 1) := by decide +kernel
theorem dX4_valueOf_1 : decode cX4_valueOf 1 = .ok (.iconst 3, 1) := by decide +kernel
theorem dX4_valueOf_2 : decode cX4_valueOf 2 = .ok (.if_icmp .ge 5, 3) := by decide +kernel
theorem dX4_valueOf_5 : decode cX4_valueOf 5 = .ok (.iload_n 0, 1) := by decide +kernel
theorem dX4_valueOf_6 : decode cX4_valueOf 6 = .ok (.ireturn, 1) := by decide +kernel
theorem dX4_valueOf_7 : decode cX4_valueOf 7 = .ok (.iload_n 1, 1) := by decide +kernel
theorem dX4_valueOf_8 : decode cX4_valueOf 8 = .ok (.istore_n 2, 1) := by decide +kernel
theorem dX4_valueOf_9 : decode cX4_valueOf 9 = .ok (.iconst 3, 1) := by decide +kernel
theorem dX4_valueOf_10 : decode cX4_valueOf 10 = .ok (.istore_n 3, 1) := by decide +kernel
theorem dX4_valueOf_11 : decode cX4_valueOf 11 = .ok (.iload_n 3, 1) := by decide +kernel
theorem dX4_valueOf_12 : decode cX4_valueOf 12 = .ok (.iload_n 0, 1) := by decide +kernel
theorem dX4_valueOf_13 : decode cX4_valueOf 13 = .ok (.if_icmp .ge 14, 3) := by decide +kernel
theorem dX4_valueOf_16 : decode cX4_valueOf 16 = .ok (.iload_n 2, 1) := by decide +kernel
theorem dX4_valueOf_17 : decode cX4_valueOf 17 = .ok (.bipush 6, 2) := by decide +kernel
theorem dX4_valueOf_19 : decode cX4_valueOf 19 = .ok (.idiv, 1) := by decide +kernel
theorem dX4_valueOf_20 : decode cX4_valueOf 20 = .ok (.istore_n 2, 1) := by decide +kernel
theorem dX4_valueOf_21 : decode cX4_valueOf 21 = .ok (.iinc 3 1, 3) := by decide +kernel
theorem dX4_valueOf_24 : decode cX4_valueOf 24 = .ok (.goto (-13), 3) := by decide +kernel
theorem dX4_valueOf_27 : decode cX4_valueOf 27 = .ok (.iload_n 2, 1) := by decide +kernel
theorem dX4_valueOf_28 : decode cX4_valueOf 28 = .ok (.bipush 6, 2) := by decide +kernel
theorem dX4_valueOf_30 : decode cX4_valueOf 30 = .ok (.irem, 1) := by decide +kernel
theorem dX4_valueOf_31 : decode cX4_valueOf 31 = .ok (.ireturn, 1) := by decide +kernel
theorem dX4_lists_0 : decode cX4_lists 0 = .ok (.aload_n 0, 1) := by decide +kernel
theorem dX4_lists_1 : decode cX4_lists 1 = .ok (.getfield 41, 3) := by decide +kernel
theorem dX4_lists_4 : decode cX4_lists 4 = .ok (.iload_n 1, 1) := by decide +kernel
theorem dX4_lists_5 : decode cX4_lists 5 = .ok (.iconst 0, 1) := by decide +kernel
theorem dX4_lists_6 : decode cX4_lists 6 = .ok (.iastore, 1) := by decide +kernel
theorem dX4_lists_7 : decode cX4_lists 7 = .ok (.aload_n 0, 1) := by decide +kernel
theorem dX4_lists_8 : decode cX4_lists 8 = .ok (.getfield 56, 3) := by decide +kernel
theorem dX4_lists_11 : decode cX4_lists 11 = .ok (.iload_n 1, 1) := by decide +kernel
theorem dX4_lists_12 : decode cX4_lists 12 = .ok (.iload_n 3, 1) := by decide +kernel
theorem dX4_lists_13 : decode cX4_lists 13 = .ok (.iastore, 1) := by decide +kernel
theorem dX4_lists_14 : decode cX4_lists 14 = .ok (.iconst 1, 1) := by decide +kernel
theorem dX4_lists_15 : decode cX4_lists 15 = .ok (.istore 4, 2) := by decide +kernel
theorem dX4_lists_17 : decode cX4_lists 17 = .ok (.aload_n 0, 1) := by decide +kernel
theorem dX4_lists_18 : decode cX4_lists 18 = .ok (.getfield 62, 3) := by decide +kernel
theorem dX4_lists_21 : decode cX4_lists 21 = .ok (.iconst 0, 1) := by decide +kernel
theorem dX4_lists_22 : decode cX4_lists 22 = .ok (.iload_n 2, 1) := by decide +kernel
theorem dX4_lists_23 : decode cX4_lists 23 = .ok (.iastore, 1) := by decide +kernel
theorem dX4_lists_24 : decode cX4_lists 24 = .ok (.iload 4, 2) := by decide +kernel
theorem dX4_lists_26 : decode cX4_lists 26 = .ok (.ifCond .le 217, 3) := by decide +kernel
theorem dX4_lists_29 : decode cX4_lists 29 = .ok (.iinc 4 (-1), 3) := by decide +kernel
theorem dX4_lists_32 : decode cX4_lists 32 = .ok (.aload_n 0, 1) := by decide +kernel
theorem dX4_lists_33 : decode cX4_lists 33 = .ok (.getfield 62, 3) := by decide +kernel
theorem dX4_lists_36 : decode cX4_lists 36 = .ok (.iload 4, 2) := by decide +kernel
theorem dX4_lists_38 : decode cX4_lists 38 = .ok (.iaload, 1) := by decide +kernel
theorem dX4_lists_39 : decode cX4_lists 39 = .ok (.istore 5, 2) := by decide +kernel
theorem dX4_lists_41 : decode cX4_lists 41 = .ok (.aload_n 0, 1) := by decide +kernel
theorem dX4_lists_42 : decode cX4_lists 42 = .ok (.getfield 32, 3) := by decide +kernel
theorem dX4_lists_45 : decode cX4_lists 45 = .ok (.iload 5, 2) := by decide +kernel
theorem dX4_lists_47 : decode cX4_lists 47 = .ok (.iaload, 1) := by decide +kernel
theorem dX4_lists_48 : decode cX4_lists 48 = .ok (.ifCond .ne 6, 3) := by decide +kernel
theorem dX4_lists_51 : decode cX4_lists 51 = .ok (.goto (-27), 3) := by decide +kernel
theorem dX4_lists_54 : decode cX4_lists 54 = .ok (.aload_n 0, 1) := by decide +kernel
theorem dX4_lists_55 : decode cX4_lists 55 = .ok (.getfield 17, 3) := by decide +kernel
theorem dX4_lists_58 : decode cX4_lists 58 = .ok (.iload 5, 2) := by decide +kernel
theorem dX4_lists_60 : decode cX4_lists 60 = .ok (.iaload, 1) := by decide +kernel
theorem dX4_lists_61 : decode cX4_lists 61 = .ok (.iload_n 3, 1) := by decide +kernel
theorem dX4_lists_62 : decode cX4_lists 62 = .ok (.invokestatic 94, 3) := by decide +kernel
theorem dX4_lists_65 : decode cX4_lists 65 = .ok (.istore 6, 2) := by decide +kernel
theorem dX4_lists_67 : decode cX4_lists 67 = .ok (.aload_n 0, 1) := by decide +kernel
theorem dX4_lists_68 : decode cX4_lists 68 = .ok (.getfield 20, 3) := by decide +kernel
theorem dX4_lists_71 : decode cX4_lists 71 = .ok (.iload 5, 2) := by decide +kernel
theorem dX4_lists_73 : decode cX4_lists 73 = .ok (.iaload, 1) := by decide +kernel
theorem dX4_lists_74 : decode cX4_lists 74 = .ok (.iload_n 3, 1) := by decide +kernel
theorem dX4_lists_75 : decode cX4_lists 75 = .ok (.invokestatic 94, 3) := by decide +kernel
theorem dX4_lists_78 : decode cX4_lists 78 = .ok (.istore 7, 2) := by decide +kernel
theorem dX4_lists_80 : decode cX4_lists 80 = .ok (.aload_n 0, 1) := by decide +kernel
theorem dX4_lists_81 : decode cX4_lists 81 = .ok (.getfield 13, 3) := by decide +kernel
theorem dX4_lists_84 : decode cX4_lists 84 = .ok (.iload 5, 2) := by decide +kernel
theorem dX4_lists_86 : decode cX4_lists 86 = .ok (.iaload, 1) := by decide +kernel
theorem dX4_lists_87 : decode cX4_lists 87 = .ok (.iconst 5, 1) := by decide +kernel
theorem dX4_lists_88 : decode cX4_lists 88 = .ok (.if_icmp .ne 39, 3) := by decide +kernel
theorem dX4_lists_91 : decode cX4_lists 91 = .ok (.aload_n 0, 1) := by decide +kernel
theorem dX4_lists_92 : decode cX4_lists 92 = .ok (.getfield 62, 3) := by decide +kernel
theorem dX4_lists_95 : decode cX4_lists 95 = .ok (.iload 4, 2) := by decide +kernel
theorem dX4_lists_97 : decode cX4_lists 97 = .ok (.aload_n 0, 1) := by decide +kernel
theorem dX4_lists_98 : decode cX4_lists 98 = .ok (.getfield 26, 3) := by decide +kernel
theorem dX4_lists_101 : decode cX4_lists 101 = .ok (.iload 5, 2) := by decide +kernel
theorem dX4_lists_103 : decode cX4_lists 103 = .ok (.iaload, 1) := by decide +kernel
theorem dX4_lists_104 : decode cX4_lists 104 = .ok (.iastore, 1) := by decide +kernel
theorem dX4_lists_105 : decode cX4_lists 105 = .ok (.aload_n 0, 1) := by decide +kernel
theorem dX4_lists_106 : decode cX4_lists 106 = .ok (.getfield 62, 3) := by decide +kernel
theorem dX4_lists_109 : decode cX4_lists 109 = .ok (.iload 4, 2) := by decide +kernel
theorem dX4_lists_111 : decode cX4_lists 111 = .ok (.iconst 1, 1) := by decide +kernel
theorem dX4_lists_112 : decode cX4_lists 112 = .ok (.iadd, 1) := by decide +kernel
theorem dX4_lists_113 : decode cX4_lists 113 = .ok (.aload_n 0, 1) := by decide +kernel
theorem dX4_lists_114 : decode cX4_lists 114 = .ok (.getfield 23, 3) := by decide +kernel
theorem dX4_lists_117 : decode cX4_lists 117 = .ok (.iload 5, 2) := by decide +kernel
theorem dX4_lists_119 : decode cX4_lists 119 = .ok (.iaload, 1) := by decide +kernel
theorem dX4_lists_120 : decode cX4_lists 120 = .ok (.iastore, 1) := by decide +kernel
theorem dX4_lists_121 : decode cX4_lists 121 = .ok (.iinc 4 2, 3) := by decide +kernel
theorem dX4_lists_124 : decode cX4_lists 124 = .ok (.goto 116, 3) := by decide +kernel
theorem dX4_lists_127 : decode cX4_lists 127 = .ok (.aload_n 0, 1) := by decide +kernel
theorem dX4_lists_128 : decode cX4_lists 128 = .ok (.getfield 13, 3) := by decide +kernel
theorem dX4_lists_131 : decode cX4_lists 131 = .ok (.iload 5, 2) := by decide +kernel
theorem dX4_lists_133 : decode cX4_lists 133 = .ok (.iaload, 1) := by decide +kernel
theorem dX4_lists_134 : decode cX4_lists 134 = .ok (.iconst 4, 1) := by decide +kernel
theorem dX4_lists_135 : decode cX4_lists 135 = .ok (.if_icmp .ne 37, 3) := by decide +kernel
theorem dX4_lists_138 : decode cX4_lists 138 = .ok (.aload_n 0, 1) := by decide +kernel
theorem dX4_lists_139 : decode cX4_lists 139 = .ok (.getfield 62, 3) := by decide +kernel
theorem dX4_lists_142 : decode cX4_lists 142 = .ok (.iload 4, 2) := by decide +kernel
theorem dX4_lists_144 : decode cX4_lists 144 = .ok (.aload_n 0, 1) := by decide +kernel
theorem dX4_lists_145 : decode cX4_lists 145 = .ok (.getfield 23, 3) := by decide +kernel
theorem dX4_lists_148 : decode cX4_lists 148 = .ok (.iload 5, 2) := by decide +kernel
theorem dX4_lists_150 : decode cX4_lists 150 = .ok (.iaload, 1) := by decide +kernel
theorem dX4_lists_151 : decode cX4_lists 151 = .ok (.iastore, 1) := by decide +kernel
theorem dX4_lists_152 : decode cX4_lists 152 = .ok (.iload 4, 2) := by decide +kernel
theorem dX4_lists_154 : decode cX4_lists 154 = .ok (.iload 6, 2) := by decide +kernel
theorem dX4_lists_156 : decode cX4_lists 156 = .ok (.iload 7, 2) := by decide +kernel
theorem dX4_lists_158 : decode cX4_lists 158 = .ok (.if_icmp .ne 7, 3) := by decide +kernel
theorem dX4_lists_161 : decode cX4_lists 161 = .ok (.iconst 1, 1) := by decide +kernel
theorem dX4_lists_162 : decode cX4_lists 162 = .ok (.goto 4, 3) := by decide +kernel
theorem dX4_lists_165 : decode cX4_lists 165 = .ok (.iconst 0, 1) := by decide +kernel
theorem dX4_lists_166 : decode cX4_lists 166 = .ok (.iadd, 1) := by decide +kernel
theorem dX4_lists_167 : decode cX4_lists 167 = .ok (.istore 4, 2) := by decide +kernel
theorem dX4_lists_169 : decode cX4_lists 169 = .ok (.goto 71, 3) := by decide +kernel
theorem dX4_lists_172 : decode cX4_lists 172 = .ok (.iconst 3, 1) := by decide +kernel
theorem dX4_lists_173 : decode cX4_lists 173 = .ok (.iload_n 1, 1) := by decide +kernel
theorem dX4_lists_174 : decode cX4_lists 174 = .ok (.imul, 1) := by decide +kernel
theorem dX4_lists_175 : decode cX4_lists 175 = .ok (.aload_n 0, 1) := by decide +kernel
theorem dX4_lists_176 : decode cX4_lists 176 = .ok (.getfield 41, 3) := by decide +kernel
theorem dX4_lists_179 : decode cX4_lists 179 = .ok (.iload_n 1, 1) := by decide +kernel
theorem dX4_lists_180 : decode cX4_lists 180 = .ok (.iaload, 1) := by decide +kernel
theorem dX4_lists_181 : decode cX4_lists 181 = .ok (.iadd, 1) := by decide +kernel
theorem dX4_lists_182 : decode cX4_lists 182 = .ok (.istore 8, 2) := by decide +kernel
theorem dX4_lists_184 : decode cX4_lists 184 = .ok (.aload_n 0, 1) := by decide +kernel
theorem dX4_lists_185 : decode cX4_lists 185 = .ok (.getfield 44, 3) := by decide +kernel
theorem dX4_lists_188 : decode cX4_lists 188 = .ok (.iload 8, 2) := by decide +kernel
theorem dX4_lists_190 : decode cX4_lists 190 = .ok (.aload_n 0, 1) := by decide +kernel
theorem dX4_lists_191 : decode cX4_lists 191 = .ok (.getfield 13, 3) := by decide +kernel
theorem dX4_lists_194 : decode cX4_lists 194 = .ok (.iload 5, 2) := by decide +kernel
theorem dX4_lists_196 : decode cX4_lists 196 = .ok (.iaload, 1) := by decide +kernel
theorem dX4_lists_197 : decode cX4_lists 197 = .ok (.iastore, 1) := by decide +kernel
theorem dX4_lists_198 : decode cX4_lists 198 = .ok (.aload_n 0, 1) := by decide +kernel
theorem dX4_lists_199 : decode cX4_lists 199 = .ok (.getfield 47, 3) := by decide +kernel
theorem dX4_lists_202 : decode cX4_lists 202 = .ok (.iload 8, 2) := by decide +kernel
theorem dX4_lists_204 : decode cX4_lists 204 = .ok (.iload 6, 2) := by decide +kernel
theorem dX4_lists_206 : decode cX4_lists 206 = .ok (.iastore, 1) := by decide +kernel
theorem dX4_lists_207 : decode cX4_lists 207 = .ok (.aload_n 0, 1) := by decide +kernel
theorem dX4_lists_208 : decode cX4_lists 208 = .ok (.getfield 50, 3) := by decide +kernel
theorem dX4_lists_211 : decode cX4_lists 211 = .ok (.iload 8, 2) := by decide +kernel
theorem dX4_lists_213 : decode cX4_lists 213 = .ok (.iload 7, 2) := by decide +kernel
theorem dX4_lists_215 : decode cX4_lists 215 = .ok (.iastore, 1) := by decide +kernel
theorem dX4_lists_216 : decode cX4_lists 216 = .ok (.aload_n 0, 1) := by decide +kernel
theorem dX4_lists_217 : decode cX4_lists 217 = .ok (.getfield 53, 3) := by decide +kernel
theorem dX4_lists_220 : decode cX4_lists 220 = .ok (.iload 8, 2) := by decide +kernel
theorem dX4_lists_222 : decode cX4_lists 222 = .ok (.aload_n 0, 1) := by decide +kernel
theorem dX4_lists_223 : decode cX4_lists 223 = .ok (.getfield 23, 3) := by decide +kernel
theorem dX4_lists_226 : decode cX4_lists 226 = .ok (.iload 5, 2) := by decide +kernel
theorem dX4_lists_228 : decode cX4_lists 228 = .ok (.iaload, 1) := by decide +kernel
theorem dX4_lists_229 : decode cX4_lists 229 = .ok (.iastore, 1) := by decide +kernel
theorem dX4_lists_230 : decode cX4_lists 230 = .ok (.aload_n 0, 1) := by decide +kernel
theorem dX4_lists_231 : decode cX4_lists 231 = .ok (.getfield 41, 3) := by decide +kernel
theorem dX4_lists_234 : decode cX4_lists 234 = .ok (.iload_n 1, 1) := by decide +kernel
theorem dX4_lists_235 : decode cX4_lists 235 = .ok (.dup2, 1) := by decide +kernel
theorem dX4_lists_236 : decode cX4_lists 236 = .ok (.iaload, 1) := by decide +kernel
theorem dX4_lists_237 : decode cX4_lists 237 = .ok (.iconst 1, 1) := by decide +kernel
theorem dX4_lists_238 : decode cX4_lists 238 = .ok (.iadd, 1) := by decide +kernel
theorem dX4_lists_239 : decode cX4_lists 239 = .ok (.iastore, 1) := by decide +kernel
theorem dX4_lists_240 : decode cX4_lists 240 = .ok (.goto (-216), 3) := by decide +kernel
theorem dX4_lists_243 : decode cX4_lists 243 = .ok (.return_, 1) := by decide +kernel
theorem dX4_errorOf_0 : decode cX4_errorOf 0 = .ok (.aload_n 0, 1) := by decide +kernel
theorem dX4_errorOf_1 : decode cX4_errorOf 1 = .ok (.iload_n 1, 1) := by decide +kernel
theorem dX4_errorOf_2 : decode cX4_errorOf 2 = .ok (.invokevirtual 77, 3) := by decide +kernel
theorem dX4_errorOf_5 : decode cX4_errorOf 5 = .ok (.ifCond .eq 7, 3) := by decide +kernel
theorem dX4_errorOf_8 : decode cX4_errorOf 8 = .ok (.iload_n 2, 1) := by decide +kernel
theorem dX4_errorOf_9 : decode cX4_errorOf 9 = .ok (.ifCond .ge 5, 3) := by decide +kernel
theorem dX4_errorOf_12 : decode cX4_errorOf 12 = .ok (.iconst (-1), 1) := by decide +kernel
theorem dX4_errorOf_13 : decode cX4_errorOf 13 = .ok (.ireturn, 1) := by decide +kernel
theorem dX4_errorOf_14 : decode cX4_errorOf 14 = .ok (.aload_n 0, 1) := by decide +kernel
theorem dX4_errorOf_15 : decode cX4_errorOf 15 = .ok (.getfield 35, 3) := by decide +kernel
theorem dX4_errorOf_18 : decode cX4_errorOf 18 = .ok (.iload_n 1, 1) := by decide +kernel
theorem dX4_errorOf_19 : decode cX4_errorOf 19 = .ok (.iaload, 1) := by decide +kernel
theorem dX4_errorOf_20 : decode cX4_errorOf 20 = .ok (.ifCond .le 8, 3) := by decide +kernel
theorem dX4_errorOf_23 : decode cX4_errorOf 23 = .ok (.bipush (-2), 2) := by decide +kernel
theorem dX4_errorOf_25 : decode cX4_errorOf 25 = .ok (.goto 4, 3) := by decide +kernel
theorem dX4_errorOf_28 : decode cX4_errorOf 28 = .ok (.iconst 0, 1) := by decide +kernel
theorem dX4_errorOf_29 : decode cX4_errorOf 29 = .ok (.ireturn, 1) := by decide +kernel
theorem dX4_moveCount_0 : decode cX4_moveCount 0 = .ok (.aload_n 0, 1) := by decide +kernel
theorem dX4_moveCount_1 : decode cX4_moveCount 1 = .ok (.iload_n 1, 1) := by decide +kernel
theorem dX4_moveCount_2 : decode cX4_moveCount 2 = .ok (.iconst 0, 1) := by decide +kernel
theorem dX4_moveCount_3 : decode cX4_moveCount 3 = .ok (.invokevirtual 97, 3) := by decide +kernel
theorem dX4_moveCount_6 : decode cX4_moveCount 6 = .ok (.istore_n 2, 1) := by decide +kernel
theorem dX4_moveCount_7 : decode cX4_moveCount 7 = .ok (.iload_n 2, 1) := by decide +kernel
theorem dX4_moveCount_8 : decode cX4_moveCount 8 = .ok (.ifCond .ge 5, 3) := by decide +kernel
theorem dX4_moveCount_11 : decode cX4_moveCount 11 = .ok (.iload_n 2, 1) := by decide +kernel
theorem dX4_moveCount_12 : decode cX4_moveCount 12 = .ok (.ireturn, 1) := by decide +kernel
theorem dX4_moveCount_13 : decode cX4_moveCount 13 = .ok (.aload_n 0, 1) := by decide +kernel
theorem dX4_moveCount_14 : decode cX4_moveCount 14 = .ok (.iconst 0, 1) := by decide +kernel
theorem dX4_moveCount_15 : decode cX4_moveCount 15 = .ok (.iload_n 1, 1) := by decide +kernel
theorem dX4_moveCount_16 : decode cX4_moveCount 16 = .ok (.iconst 0, 1) := by decide +kernel
theorem dX4_moveCount_17 : decode cX4_moveCount 17 = .ok (.invokevirtual 100, 3) := by decide +kernel
theorem dX4_moveCount_20 : decode cX4_moveCount 20 = .ok (.aload_n 0, 1) := by decide +kernel
theorem dX4_moveCount_21 : decode cX4_moveCount 21 = .ok (.getfield 41, 3) := by decide +kernel
theorem dX4_moveCount_24 : decode cX4_moveCount 24 = .ok (.iconst 0, 1) := by decide +kernel
theorem dX4_moveCount_25 : decode cX4_moveCount 25 = .ok (.iaload, 1) := by decide +kernel
theorem dX4_moveCount_26 : decode cX4_moveCount 26 = .ok (.ireturn, 1) := by decide +kernel
theorem dX4_moveError_0 : decode cX4_moveError 0 = .ok (.aload_n 0, 1) := by decide +kernel
theorem dX4_moveError_1 : decode cX4_moveError 1 = .ok (.iload_n 1, 1) := by decide +kernel
theorem dX4_moveError_2 : decode cX4_moveError 2 = .ok (.iload_n 2, 1) := by decide +kernel
theorem dX4_moveError_3 : decode cX4_moveError 3 = .ok (.invokevirtual 97, 3) := by decide +kernel
theorem dX4_moveError_6 : decode cX4_moveError 6 = .ok (.istore_n 3, 1) := by decide +kernel
theorem dX4_moveError_7 : decode cX4_moveError 7 = .ok (.iload_n 3, 1) := by decide +kernel
theorem dX4_moveError_8 : decode cX4_moveError 8 = .ok (.ifCond .ge 5, 3) := by decide +kernel
theorem dX4_moveError_11 : decode cX4_moveError 11 = .ok (.iload_n 3, 1) := by decide +kernel
theorem dX4_moveError_12 : decode cX4_moveError 12 = .ok (.ireturn, 1) := by decide +kernel
theorem dX4_moveError_13 : decode cX4_moveError 13 = .ok (.aload_n 0, 1) := by decide +kernel
theorem dX4_moveError_14 : decode cX4_moveError 14 = .ok (.iconst 0, 1) := by decide +kernel
theorem dX4_moveError_15 : decode cX4_moveError 15 = .ok (.iload_n 1, 1) := by decide +kernel
theorem dX4_moveError_16 : decode cX4_moveError 16 = .ok (.iconst 0, 1) := by decide +kernel
theorem dX4_moveError_17 : decode cX4_moveError 17 = .ok (.invokevirtual 100, 3) := by decide +kernel
theorem dX4_moveError_20 : decode cX4_moveError 20 = .ok (.iload_n 2, 1) := by decide +kernel
theorem dX4_moveError_21 : decode cX4_moveError 21 = .ok (.aload_n 0, 1) := by decide +kernel
theorem dX4_moveError_22 : decode cX4_moveError 22 = .ok (.getfield 41, 3) := by decide +kernel
theorem dX4_moveError_25 : decode cX4_moveError 25 = .ok (.iconst 0, 1) := by decide +kernel
theorem dX4_moveError_26 : decode cX4_moveError 26 = .ok (.iaload, 1) := by decide +kernel
theorem dX4_moveError_27 : decode cX4_moveError 27 = .ok (.if_icmp .ge 7, 3) := by decide +kernel
theorem dX4_moveError_30 : decode cX4_moveError 30 = .ok (.iconst 0, 1) := by decide +kernel
theorem dX4_moveError_31 : decode cX4_moveError 31 = .ok (.goto 5, 3) := by decide +kernel
theorem dX4_moveError_34 : decode cX4_moveError 34 = .ok (.bipush (-4), 2) := by decide +kernel
theorem dX4_moveError_36 : decode cX4_moveError 36 = .ok (.ireturn, 1) := by decide +kernel
theorem dX4_moveKind_0 : decode cX4_moveKind 0 = .ok (.aload_n 0, 1) := by decide +kernel
theorem dX4_moveKind_1 : decode cX4_moveKind 1 = .ok (.iload_n 1, 1) := by decide +kernel
theorem dX4_moveKind_2 : decode cX4_moveKind 2 = .ok (.iload_n 2, 1) := by decide +kernel
theorem dX4_moveKind_3 : decode cX4_moveKind 3 = .ok (.invokevirtual 104, 3) := by decide +kernel
theorem dX4_moveKind_6 : decode cX4_moveKind 6 = .ok (.istore_n 3, 1) := by decide +kernel
theorem dX4_moveKind_7 : decode cX4_moveKind 7 = .ok (.iload_n 3, 1) := by decide +kernel
theorem dX4_moveKind_8 : decode cX4_moveKind 8 = .ok (.ifCond .ge 7, 3) := by decide +kernel
theorem dX4_moveKind_11 : decode cX4_moveKind 11 = .ok (.iload_n 3, 1) := by decide +kernel
theorem dX4_moveKind_12 : decode cX4_moveKind 12 = .ok (.goto 9, 3) := by decide +kernel
theorem dX4_moveKind_15 : decode cX4_moveKind 15 = .ok (.aload_n 0, 1) := by decide +kernel
theorem dX4_moveKind_16 : decode cX4_moveKind 16 = .ok (.getfield 44, 3) := by decide +kernel
theorem dX4_moveKind_19 : decode cX4_moveKind 19 = .ok (.iload_n 2, 1) := by decide +kernel
theorem dX4_moveKind_20 : decode cX4_moveKind 20 = .ok (.iaload, 1) := by decide +kernel
theorem dX4_moveKind_21 : decode cX4_moveKind 21 = .ok (.ireturn, 1) := by decide +kernel
theorem dX4_moveNames_0 : decode cX4_moveNames 0 = .ok (.aload_n 0, 1) := by decide +kernel
theorem dX4_moveNames_1 : decode cX4_moveNames 1 = .ok (.iload_n 1, 1) := by decide +kernel
theorem dX4_moveNames_2 : decode cX4_moveNames 2 = .ok (.iload_n 2, 1) := by decide +kernel
theorem dX4_moveNames_3 : decode cX4_moveNames 3 = .ok (.invokevirtual 104, 3) := by decide +kernel
theorem dX4_moveNames_6 : decode cX4_moveNames 6 = .ok (.istore_n 3, 1) := by decide +kernel
theorem dX4_moveNames_7 : decode cX4_moveNames 7 = .ok (.iload_n 3, 1) := by decide +kernel
theorem dX4_moveNames_8 : decode cX4_moveNames 8 = .ok (.ifCond .ge 5, 3) := by decide +kernel
theorem dX4_moveNames_11 : decode cX4_moveNames 11 = .ok (.iload_n 3, 1) := by decide +kernel
theorem dX4_moveNames_12 : decode cX4_moveNames 12 = .ok (.ireturn, 1) := by decide +kernel
theorem dX4_moveNames_13 : decode cX4_moveNames 13 = .ok (.aload_n 0, 1) := by decide +kernel
theorem dX4_moveNames_14 : decode cX4_moveNames 14 = .ok (.getfield 44, 3) := by decide +kernel
theorem dX4_moveNames_17 : decode cX4_moveNames 17 = .ok (.iload_n 2, 1) := by decide +kernel
theorem dX4_moveNames_18 : decode cX4_moveNames 18 = .ok (.iaload, 1) := by decide +kernel
theorem dX4_moveNames_19 : decode cX4_moveNames 19 = .ok (.iconst 1, 1) := by decide +kernel
theorem dX4_moveNames_20 : decode cX4_moveNames 20 = .ok (.if_icmp .ne 8, 3) := by decide +kernel
theorem dX4_moveNames_23 : decode cX4_moveNames 23 = .ok (.bipush 99, 2) := by decide +kernel
theorem dX4_moveNames_25 : decode cX4_moveNames 25 = .ok (.goto 34, 3) := by decide +kernel
theorem dX4_moveNames_28 : decode cX4_moveNames 28 = .ok (.bipush 10, 2) := by decide +kernel
theorem dX4_moveNames_30 : decode cX4_moveNames 30 = .ok (.aload_n 0, 1) := by decide +kernel
theorem dX4_moveNames_31 : decode cX4_moveNames 31 = .ok (.getfield 47, 3) := by decide +kernel
theorem dX4_moveNames_34 : decode cX4_moveNames 34 = .ok (.iload_n 2, 1) := by decide +kernel
theorem dX4_moveNames_35 : decode cX4_moveNames 35 = .ok (.iaload, 1) := by decide +kernel
theorem dX4_moveNames_36 : decode cX4_moveNames 36 = .ok (.imul, 1) := by decide +kernel
theorem dX4_moveNames_37 : decode cX4_moveNames 37 = .ok (.aload_n 0, 1) := by decide +kernel
theorem dX4_moveNames_38 : decode cX4_moveNames 38 = .ok (.getfield 44, 3) := by decide +kernel
theorem dX4_moveNames_41 : decode cX4_moveNames 41 = .ok (.iload_n 2, 1) := by decide +kernel
theorem dX4_moveNames_42 : decode cX4_moveNames 42 = .ok (.iaload, 1) := by decide +kernel
theorem dX4_moveNames_43 : decode cX4_moveNames 43 = .ok (.iconst 3, 1) := by decide +kernel
theorem dX4_moveNames_44 : decode cX4_moveNames 44 = .ok (.if_icmp .ne 8, 3) := by decide +kernel
theorem dX4_moveNames_47 : decode cX4_moveNames 47 = .ok (.bipush 9, 2) := by decide +kernel
theorem dX4_moveNames_49 : decode cX4_moveNames 49 = .ok (.goto 9, 3) := by decide +kernel
theorem dX4_moveNames_52 : decode cX4_moveNames 52 = .ok (.aload_n 0, 1) := by decide +kernel
theorem dX4_moveNames_53 : decode cX4_moveNames 53 = .ok (.getfield 50, 3) := by decide +kernel
theorem dX4_moveNames_56 : decode cX4_moveNames 56 = .ok (.iload_n 2, 1) := by decide +kernel
theorem dX4_moveNames_57 : decode cX4_moveNames 57 = .ok (.iaload, 1) := by decide +kernel
theorem dX4_moveNames_58 : decode cX4_moveNames 58 = .ok (.iadd, 1) := by decide +kernel
theorem dX4_moveNames_59 : decode cX4_moveNames 59 = .ok (.ireturn, 1) := by decide +kernel
theorem dX4_moveTarget_0 : decode cX4_moveTarget 0 = .ok (.aload_n 0, 1) := by decide +kernel
theorem dX4_moveTarget_1 : decode cX4_moveTarget 1 = .ok (.iload_n 1, 1) := by decide +kernel
theorem dX4_moveTarget_2 : decode cX4_moveTarget 2 = .ok (.iload_n 2, 1) := by decide +kernel
theorem dX4_moveTarget_3 : decode cX4_moveTarget 3 = .ok (.invokevirtual 104, 3) := by decide +kernel
theorem dX4_moveTarget_6 : decode cX4_moveTarget 6 = .ok (.istore_n 3, 1) := by decide +kernel
theorem dX4_moveTarget_7 : decode cX4_moveTarget 7 = .ok (.iload_n 3, 1) := by decide +kernel
theorem dX4_moveTarget_8 : decode cX4_moveTarget 8 = .ok (.ifCond .ge 7, 3) := by decide +kernel
theorem dX4_moveTarget_11 : decode cX4_moveTarget 11 = .ok (.iload_n 3, 1) := by decide +kernel
theorem dX4_moveTarget_12 : decode cX4_moveTarget 12 = .ok (.goto 9, 3) := by decide +kernel
theorem dX4_moveTarget_15 : decode cX4_moveTarget 15 = .ok (.aload_n 0, 1) := by decide +kernel
theorem dX4_moveTarget_16 : decode cX4_moveTarget 16 = .ok (.getfield 53, 3) := by decide +kernel
theorem dX4_moveTarget_19 : decode cX4_moveTarget 19 = .ok (.iload_n 2, 1) := by decide +kernel
theorem dX4_moveTarget_20 : decode cX4_moveTarget 20 = .ok (.iaload, 1) := by decide +kernel
theorem dX4_moveTarget_21 : decode cX4_moveTarget 21 = .ok (.ireturn, 1) := by decide +kernel
theorem dX4_answers_0 : decode cX4_answers 0 = .ok (.iconst 3, 1) := by decide +kernel
theorem dX4_answers_1 : decode cX4_answers 1 = .ok (.iconst 2, 1) := by decide +kernel
theorem dX4_answers_2 : decode cX4_answers 2 = .ok (.iload_n 1, 1) := by decide +kernel
theorem dX4_answers_3 : decode cX4_answers 3 = .ok (.imul, 1) := by decide +kernel
theorem dX4_answers_4 : decode cX4_answers 4 = .ok (.iload_n 2, 1) := by decide +kernel
theorem dX4_answers_5 : decode cX4_answers 5 = .ok (.iadd, 1) := by decide +kernel
theorem dX4_answers_6 : decode cX4_answers 6 = .ok (.imul, 1) := by decide +kernel
theorem dX4_answers_7 : decode cX4_answers 7 = .ok (.iload_n 3, 1) := by decide +kernel
theorem dX4_answers_8 : decode cX4_answers 8 = .ok (.iadd, 1) := by decide +kernel
theorem dX4_answers_9 : decode cX4_answers 9 = .ok (.istore 5, 2) := by decide +kernel
theorem dX4_answers_11 : decode cX4_answers 11 = .ok (.iconst 3, 1) := by decide +kernel
theorem dX4_answers_12 : decode cX4_answers 12 = .ok (.iconst 2, 1) := by decide +kernel
theorem dX4_answers_13 : decode cX4_answers 13 = .ok (.iload_n 1, 1) := by decide +kernel
theorem dX4_answers_14 : decode cX4_answers 14 = .ok (.imul, 1) := by decide +kernel
theorem dX4_answers_15 : decode cX4_answers 15 = .ok (.iconst 1, 1) := by decide +kernel
theorem dX4_answers_16 : decode cX4_answers 16 = .ok (.iadd, 1) := by decide +kernel
theorem dX4_answers_17 : decode cX4_answers 17 = .ok (.iload_n 2, 1) := by decide +kernel
theorem dX4_answers_18 : decode cX4_answers 18 = .ok (.isub, 1) := by decide +kernel
theorem dX4_answers_19 : decode cX4_answers 19 = .ok (.imul, 1) := by decide +kernel
theorem dX4_answers_20 : decode cX4_answers 20 = .ok (.iload 4, 2) := by decide +kernel
theorem dX4_answers_22 : decode cX4_answers 22 = .ok (.iadd, 1) := by decide +kernel
theorem dX4_answers_23 : decode cX4_answers 23 = .ok (.istore 6, 2) := by decide +kernel
theorem dX4_answers_25 : decode cX4_answers 25 = .ok (.aload_n 0, 1) := by decide +kernel
theorem dX4_answers_26 : decode cX4_answers 26 = .ok (.getfield 44, 3) := by decide +kernel
theorem dX4_answers_29 : decode cX4_answers 29 = .ok (.iload 5, 2) := by decide +kernel
theorem dX4_answers_31 : decode cX4_answers 31 = .ok (.iaload, 1) := by decide +kernel
theorem dX4_answers_32 : decode cX4_answers 32 = .ok (.aload_n 0, 1) := by decide +kernel
theorem dX4_answers_33 : decode cX4_answers 33 = .ok (.getfield 44, 3) := by decide +kernel
theorem dX4_answers_36 : decode cX4_answers 36 = .ok (.iload 6, 2) := by decide +kernel
theorem dX4_answers_38 : decode cX4_answers 38 = .ok (.iaload, 1) := by decide +kernel
theorem dX4_answers_39 : decode cX4_answers 39 = .ok (.if_icmp .ne 35, 3) := by decide +kernel
theorem dX4_answers_42 : decode cX4_answers 42 = .ok (.aload_n 0, 1) := by decide +kernel
theorem dX4_answers_43 : decode cX4_answers 43 = .ok (.getfield 44, 3) := by decide +kernel
theorem dX4_answers_46 : decode cX4_answers 46 = .ok (.iload 5, 2) := by decide +kernel
theorem dX4_answers_48 : decode cX4_answers 48 = .ok (.iaload, 1) := by decide +kernel
theorem dX4_answers_49 : decode cX4_answers 49 = .ok (.iconst 1, 1) := by decide +kernel
theorem dX4_answers_50 : decode cX4_answers 50 = .ok (.if_icmp .eq 20, 3) := by decide +kernel
theorem dX4_answers_53 : decode cX4_answers 53 = .ok (.aload_n 0, 1) := by decide +kernel
theorem dX4_answers_54 : decode cX4_answers 54 = .ok (.getfield 47, 3) := by decide +kernel
theorem dX4_answers_57 : decode cX4_answers 57 = .ok (.iload 5, 2) := by decide +kernel
theorem dX4_answers_59 : decode cX4_answers 59 = .ok (.iaload, 1) := by decide +kernel
theorem dX4_answers_60 : decode cX4_answers 60 = .ok (.aload_n 0, 1) := by decide +kernel
theorem dX4_answers_61 : decode cX4_answers 61 = .ok (.getfield 47, 3) := by decide +kernel
theorem dX4_answers_64 : decode cX4_answers 64 = .ok (.iload 6, 2) := by decide +kernel
theorem dX4_answers_66 : decode cX4_answers 66 = .ok (.iaload, 1) := by decide +kernel
theorem dX4_answers_67 : decode cX4_answers 67 = .ok (.if_icmp .ne 7, 3) := by decide +kernel
theorem dX4_answers_70 : decode cX4_answers 70 = .ok (.iconst 1, 1) := by decide +kernel
theorem dX4_answers_71 : decode cX4_answers 71 = .ok (.goto 4, 3) := by decide +kernel
theorem dX4_answers_74 : decode cX4_answers 74 = .ok (.iconst 0, 1) := by decide +kernel
theorem dX4_answers_75 : decode cX4_answers 75 = .ok (.istore 7, 2) := by decide +kernel
theorem dX4_answers_77 : decode cX4_answers 77 = .ok (.iload 7, 2) := by decide +kernel
theorem dX4_answers_79 : decode cX4_answers 79 = .ok (.ifCond .eq 35, 3) := by decide +kernel
theorem dX4_answers_82 : decode cX4_answers 82 = .ok (.aload_n 0, 1) := by decide +kernel
theorem dX4_answers_83 : decode cX4_answers 83 = .ok (.getfield 44, 3) := by decide +kernel
theorem dX4_answers_86 : decode cX4_answers 86 = .ok (.iload 5, 2) := by decide +kernel
theorem dX4_answers_88 : decode cX4_answers 88 = .ok (.iaload, 1) := by decide +kernel
theorem dX4_answers_89 : decode cX4_answers 89 = .ok (.iconst 2, 1) := by decide +kernel
theorem dX4_answers_90 : decode cX4_answers 90 = .ok (.if_icmp .ne 20, 3) := by decide +kernel
theorem dX4_answers_93 : decode cX4_answers 93 = .ok (.aload_n 0, 1) := by decide +kernel
theorem dX4_answers_94 : decode cX4_answers 94 = .ok (.getfield 50, 3) := by decide +kernel
theorem dX4_answers_97 : decode cX4_answers 97 = .ok (.iload 5, 2) := by decide +kernel
theorem dX4_answers_99 : decode cX4_answers 99 = .ok (.iaload, 1) := by decide +kernel
theorem dX4_answers_100 : decode cX4_answers 100 = .ok (.aload_n 0, 1) := by decide +kernel
theorem dX4_answers_101 : decode cX4_answers 101 = .ok (.getfield 50, 3) := by decide +kernel
theorem dX4_answers_104 : decode cX4_answers 104 = .ok (.iload 6, 2) := by decide +kernel
theorem dX4_answers_106 : decode cX4_answers 106 = .ok (.iaload, 1) := by decide +kernel
theorem dX4_answers_107 : decode cX4_answers 107 = .ok (.if_icmp .ne 7, 3) := by decide +kernel
theorem dX4_answers_110 : decode cX4_answers 110 = .ok (.iconst 1, 1) := by decide +kernel
theorem dX4_answers_111 : decode cX4_answers 111 = .ok (.goto 4, 3) := by decide +kernel
theorem dX4_answers_114 : decode cX4_answers 114 = .ok (.iconst 0, 1) := by decide +kernel
theorem dX4_answers_115 : decode cX4_answers 115 = .ok (.ireturn, 1) := by decide +kernel
theorem dX4_next_0 : decode cX4_next 0 = .ok (.aload_n 0, 1) := by decide +kernel
theorem dX4_next_1 : decode cX4_next 1 = .ok (.getfield 44, 3) := by decide +kernel
theorem dX4_next_4 : decode cX4_next 4 = .ok (.iconst 3, 1) := by decide +kernel
theorem dX4_next_5 : decode cX4_next 5 = .ok (.iconst 2, 1) := by decide +kernel
theorem dX4_next_6 : decode cX4_next 6 = .ok (.iload_n 1, 1) := by decide +kernel
theorem dX4_next_7 : decode cX4_next 7 = .ok (.imul, 1) := by decide +kernel
theorem dX4_next_8 : decode cX4_next 8 = .ok (.iload_n 2, 1) := by decide +kernel
theorem dX4_next_9 : decode cX4_next 9 = .ok (.iadd, 1) := by decide +kernel
theorem dX4_next_10 : decode cX4_next 10 = .ok (.imul, 1) := by decide +kernel
theorem dX4_next_11 : decode cX4_next 11 = .ok (.iload_n 3, 1) := by decide +kernel
theorem dX4_next_12 : decode cX4_next 12 = .ok (.iadd, 1) := by decide +kernel
theorem dX4_next_13 : decode cX4_next 13 = .ok (.iaload, 1) := by decide +kernel
theorem dX4_next_14 : decode cX4_next 14 = .ok (.iconst 3, 1) := by decide +kernel
theorem dX4_next_15 : decode cX4_next 15 = .ok (.if_icmp .ne 7, 3) := by decide +kernel
theorem dX4_next_18 : decode cX4_next 18 = .ok (.iconst 1, 1) := by decide +kernel
theorem dX4_next_19 : decode cX4_next 19 = .ok (.goto 4, 3) := by decide +kernel
theorem dX4_next_22 : decode cX4_next 22 = .ok (.iconst 0, 1) := by decide +kernel
theorem dX4_next_23 : decode cX4_next 23 = .ok (.istore 6, 2) := by decide +kernel
theorem dX4_next_25 : decode cX4_next 25 = .ok (.iconst 0, 1) := by decide +kernel
theorem dX4_next_26 : decode cX4_next 26 = .ok (.istore 7, 2) := by decide +kernel
theorem dX4_next_28 : decode cX4_next 28 = .ok (.iload 7, 2) := by decide +kernel
theorem dX4_next_30 : decode cX4_next 30 = .ok (.iconst 2, 1) := by decide +kernel
theorem dX4_next_31 : decode cX4_next 31 = .ok (.if_icmp .ge 79, 3) := by decide +kernel
theorem dX4_next_34 : decode cX4_next 34 = .ok (.iconst 2, 1) := by decide +kernel
theorem dX4_next_35 : decode cX4_next 35 = .ok (.iload_n 1, 1) := by decide +kernel
theorem dX4_next_36 : decode cX4_next 36 = .ok (.imul, 1) := by decide +kernel
theorem dX4_next_37 : decode cX4_next 37 = .ok (.iload 7, 2) := by decide +kernel
theorem dX4_next_39 : decode cX4_next 39 = .ok (.iadd, 1) := by decide +kernel
theorem dX4_next_40 : decode cX4_next 40 = .ok (.istore 8, 2) := by decide +kernel
theorem dX4_next_42 : decode cX4_next 42 = .ok (.iload 6, 2) := by decide +kernel
theorem dX4_next_44 : decode cX4_next 44 = .ok (.ifCond .eq 19, 3) := by decide +kernel
theorem dX4_next_47 : decode cX4_next 47 = .ok (.bipush 6, 2) := by decide +kernel
theorem dX4_next_49 : decode cX4_next 49 = .ok (.aload_n 0, 1) := by decide +kernel
theorem dX4_next_50 : decode cX4_next 50 = .ok (.getfield 56, 3) := by decide +kernel
theorem dX4_next_53 : decode cX4_next 53 = .ok (.iload 8, 2) := by decide +kernel
theorem dX4_next_55 : decode cX4_next 55 = .ok (.iaload, 1) := by decide +kernel
theorem dX4_next_56 : decode cX4_next 56 = .ok (.imul, 1) := by decide +kernel
theorem dX4_next_57 : decode cX4_next 57 = .ok (.iload 5, 2) := by decide +kernel
theorem dX4_next_59 : decode cX4_next 59 = .ok (.iadd, 1) := by decide +kernel
theorem dX4_next_60 : decode cX4_next 60 = .ok (.goto 10, 3) := by decide +kernel
theorem dX4_next_63 : decode cX4_next 63 = .ok (.aload_n 0, 1) := by decide +kernel
theorem dX4_next_64 : decode cX4_next 64 = .ok (.getfield 56, 3) := by decide +kernel
theorem dX4_next_67 : decode cX4_next 67 = .ok (.iload 8, 2) := by decide +kernel
theorem dX4_next_69 : decode cX4_next 69 = .ok (.iaload, 1) := by decide +kernel
theorem dX4_next_70 : decode cX4_next 70 = .ok (.istore 9, 2) := by decide +kernel
theorem dX4_next_72 : decode cX4_next 72 = .ok (.aload_n 0, 1) := by decide +kernel
theorem dX4_next_73 : decode cX4_next 73 = .ok (.iload 8, 2) := by decide +kernel
theorem dX4_next_75 : decode cX4_next 75 = .ok (.iconst 2, 1) := by decide +kernel
theorem dX4_next_76 : decode cX4_next 76 = .ok (.isub, 1) := by decide +kernel
theorem dX4_next_77 : decode cX4_next 77 = .ok (.aload_n 0, 1) := by decide +kernel
theorem dX4_next_78 : decode cX4_next 78 = .ok (.getfield 53, 3) := by decide +kernel
theorem dX4_next_81 : decode cX4_next 81 = .ok (.iconst 3, 1) := by decide +kernel
theorem dX4_next_82 : decode cX4_next 82 = .ok (.iload 8, 2) := by decide +kernel
theorem dX4_next_84 : decode cX4_next 84 = .ok (.imul, 1) := by decide +kernel
theorem dX4_next_85 : decode cX4_next 85 = .ok (.iload 7, 2) := by decide +kernel
theorem dX4_next_87 : decode cX4_next 87 = .ok (.iload_n 2, 1) := by decide +kernel
theorem dX4_next_88 : decode cX4_next 88 = .ok (.if_icmp .ne 7, 3) := by decide +kernel
theorem dX4_next_91 : decode cX4_next 91 = .ok (.iload_n 3, 1) := by decide +kernel
theorem dX4_next_92 : decode cX4_next 92 = .ok (.goto 5, 3) := by decide +kernel
theorem dX4_next_95 : decode cX4_next 95 = .ok (.iload 4, 2) := by decide +kernel
theorem dX4_next_97 : decode cX4_next 97 = .ok (.iadd, 1) := by decide +kernel
theorem dX4_next_98 : decode cX4_next 98 = .ok (.iaload, 1) := by decide +kernel
theorem dX4_next_99 : decode cX4_next 99 = .ok (.iload 9, 2) := by decide +kernel
theorem dX4_next_101 : decode cX4_next 101 = .ok (.invokevirtual 100, 3) := by decide +kernel
theorem dX4_next_104 : decode cX4_next 104 = .ok (.iinc 7 1, 3) := by decide +kernel
theorem dX4_next_107 : decode cX4_next 107 = .ok (.goto (-79), 3) := by decide +kernel
theorem dX4_next_110 : decode cX4_next 110 = .ok (.aload_n 0, 1) := by decide +kernel
theorem dX4_next_111 : decode cX4_next 111 = .ok (.getfield 59, 3) := by decide +kernel
theorem dX4_next_114 : decode cX4_next 114 = .ok (.iload_n 1, 1) := by decide +kernel
theorem dX4_next_115 : decode cX4_next 115 = .ok (.iconst 1, 1) := by decide +kernel
theorem dX4_next_116 : decode cX4_next 116 = .ok (.isub, 1) := by decide +kernel
theorem dX4_next_117 : decode cX4_next 117 = .ok (.aload_n 0, 1) := by decide +kernel
theorem dX4_next_118 : decode cX4_next 118 = .ok (.getfield 59, 3) := by decide +kernel
theorem dX4_next_121 : decode cX4_next 121 = .ok (.iload_n 1, 1) := by decide +kernel
theorem dX4_next_122 : decode cX4_next 122 = .ok (.iaload, 1) := by decide +kernel
theorem dX4_next_123 : decode cX4_next 123 = .ok (.iload 6, 2) := by decide +kernel
theorem dX4_next_125 : decode cX4_next 125 = .ok (.ifCond .eq 20, 3) := by decide +kernel
theorem dX4_next_128 : decode cX4_next 128 = .ok (.iload 5, 2) := by decide +kernel
theorem dX4_next_130 : decode cX4_next 130 = .ok (.iconst 3, 1) := by decide +kernel
theorem dX4_next_131 : decode cX4_next 131 = .ok (.aload_n 0, 1) := by decide +kernel
theorem dX4_next_132 : decode cX4_next 132 = .ok (.getfield 59, 3) := by decide +kernel
theorem dX4_next_135 : decode cX4_next 135 = .ok (.iload_n 1, 1) := by decide +kernel
theorem dX4_next_136 : decode cX4_next 136 = .ok (.iaload, 1) := by decide +kernel
theorem dX4_next_137 : decode cX4_next 137 = .ok (.iadd, 1) := by decide +kernel
theorem dX4_next_138 : decode cX4_next 138 = .ok (.if_icmp .ne 7, 3) := by decide +kernel
theorem dX4_next_141 : decode cX4_next 141 = .ok (.iconst 1, 1) := by decide +kernel
theorem dX4_next_142 : decode cX4_next 142 = .ok (.goto 4, 3) := by decide +kernel
theorem dX4_next_145 : decode cX4_next 145 = .ok (.iconst 0, 1) := by decide +kernel
theorem dX4_next_146 : decode cX4_next 146 = .ok (.iadd, 1) := by decide +kernel
theorem dX4_next_147 : decode cX4_next 147 = .ok (.iastore, 1) := by decide +kernel
theorem dX4_next_148 : decode cX4_next 148 = .ok (.return_, 1) := by decide +kernel
theorem dX4_lowest_0 : decode cX4_lowest 0 = .ok (.aload_n 0, 1) := by decide +kernel
theorem dX4_lowest_1 : decode cX4_lowest 1 = .ok (.getfield 44, 3) := by decide +kernel
theorem dX4_lowest_4 : decode cX4_lowest 4 = .ok (.iconst 3, 1) := by decide +kernel
theorem dX4_lowest_5 : decode cX4_lowest 5 = .ok (.iconst 2, 1) := by decide +kernel
theorem dX4_lowest_6 : decode cX4_lowest 6 = .ok (.iload_n 1, 1) := by decide +kernel
theorem dX4_lowest_7 : decode cX4_lowest 7 = .ok (.imul, 1) := by decide +kernel
theorem dX4_lowest_8 : decode cX4_lowest 8 = .ok (.iload_n 2, 1) := by decide +kernel
theorem dX4_lowest_9 : decode cX4_lowest 9 = .ok (.iadd, 1) := by decide +kernel
theorem dX4_lowest_10 : decode cX4_lowest 10 = .ok (.imul, 1) := by decide +kernel
theorem dX4_lowest_11 : decode cX4_lowest 11 = .ok (.iload_n 3, 1) := by decide +kernel
theorem dX4_lowest_12 : decode cX4_lowest 12 = .ok (.iadd, 1) := by decide +kernel
theorem dX4_lowest_13 : decode cX4_lowest 13 = .ok (.iaload, 1) := by decide +kernel
theorem dX4_lowest_14 : decode cX4_lowest 14 = .ok (.iconst 3, 1) := by decide +kernel
theorem dX4_lowest_15 : decode cX4_lowest 15 = .ok (.if_icmp .eq 6, 3) := by decide +kernel
theorem dX4_lowest_18 : decode cX4_lowest 18 = .ok (.bipush 8, 2) := by decide +kernel
theorem dX4_lowest_20 : decode cX4_lowest 20 = .ok (.ireturn, 1) := by decide +kernel
theorem dX4_lowest_21 : decode cX4_lowest 21 = .ok (.aload_n 0, 1) := by decide +kernel
theorem dX4_lowest_22 : decode cX4_lowest 22 = .ok (.getfield 107, 3) := by decide +kernel
theorem dX4_lowest_25 : decode cX4_lowest 25 = .ok (.iconst 1, 1) := by decide +kernel
theorem dX4_lowest_26 : decode cX4_lowest 26 = .ok (.if_icmp .ne 7, 3) := by decide +kernel
theorem dX4_lowest_29 : decode cX4_lowest 29 = .ok (.iconst 0, 1) := by decide +kernel
theorem dX4_lowest_30 : decode cX4_lowest 30 = .ok (.goto 24, 3) := by decide +kernel
theorem dX4_lowest_33 : decode cX4_lowest 33 = .ok (.aload_n 0, 1) := by decide +kernel
theorem dX4_lowest_34 : decode cX4_lowest 34 = .ok (.getfield 107, 3) := by decide +kernel
theorem dX4_lowest_37 : decode cX4_lowest 37 = .ok (.iconst 2, 1) := by decide +kernel
theorem dX4_lowest_38 : decode cX4_lowest 38 = .ok (.if_icmp .ne 8, 3) := by decide +kernel
theorem dX4_lowest_41 : decode cX4_lowest 41 = .ok (.bipush 9, 2) := by decide +kernel
theorem dX4_lowest_43 : decode cX4_lowest 43 = .ok (.goto 11, 3) := by decide +kernel
theorem dX4_lowest_46 : decode cX4_lowest 46 = .ok (.iconst 3, 1) := by decide +kernel
theorem dX4_lowest_47 : decode cX4_lowest 47 = .ok (.aload_n 0, 1) := by decide +kernel
theorem dX4_lowest_48 : decode cX4_lowest 48 = .ok (.getfield 59, 3) := by decide +kernel
theorem dX4_lowest_51 : decode cX4_lowest 51 = .ok (.iload_n 1, 1) := by decide +kernel
theorem dX4_lowest_52 : decode cX4_lowest 52 = .ok (.iaload, 1) := by decide +kernel
theorem dX4_lowest_53 : decode cX4_lowest 53 = .ok (.iadd, 1) := by decide +kernel
theorem dX4_lowest_54 : decode cX4_lowest 54 = .ok (.ireturn, 1) := by decide +kernel
theorem dX4_highest_0 : decode cX4_highest 0 = .ok (.aload_n 0, 1) := by decide +kernel
theorem dX4_highest_1 : decode cX4_highest 1 = .ok (.getfield 44, 3) := by decide +kernel
theorem dX4_highest_4 : decode cX4_highest 4 = .ok (.iconst 3, 1) := by decide +kernel
theorem dX4_highest_5 : decode cX4_highest 5 = .ok (.iconst 2, 1) := by decide +kernel
theorem dX4_highest_6 : decode cX4_highest 6 = .ok (.iload_n 1, 1) := by decide +kernel
theorem dX4_highest_7 : decode cX4_highest 7 = .ok (.imul, 1) := by decide +kernel
theorem dX4_highest_8 : decode cX4_highest 8 = .ok (.iload_n 2, 1) := by decide +kernel
theorem dX4_highest_9 : decode cX4_highest 9 = .ok (.iadd, 1) := by decide +kernel
theorem dX4_highest_10 : decode cX4_highest 10 = .ok (.imul, 1) := by decide +kernel
theorem dX4_highest_11 : decode cX4_highest 11 = .ok (.iload_n 3, 1) := by decide +kernel
theorem dX4_highest_12 : decode cX4_highest 12 = .ok (.iadd, 1) := by decide +kernel
theorem dX4_highest_13 : decode cX4_highest 13 = .ok (.iaload, 1) := by decide +kernel
theorem dX4_highest_14 : decode cX4_highest 14 = .ok (.iconst 3, 1) := by decide +kernel
theorem dX4_highest_15 : decode cX4_highest 15 = .ok (.if_icmp .ne 7, 3) := by decide +kernel
theorem dX4_highest_18 : decode cX4_highest 18 = .ok (.iconst 1, 1) := by decide +kernel
theorem dX4_highest_19 : decode cX4_highest 19 = .ok (.goto 4, 3) := by decide +kernel
theorem dX4_highest_22 : decode cX4_highest 22 = .ok (.iconst 0, 1) := by decide +kernel
theorem dX4_highest_23 : decode cX4_highest 23 = .ok (.istore 4, 2) := by decide +kernel
theorem dX4_highest_25 : decode cX4_highest 25 = .ok (.iload 4, 2) := by decide +kernel
theorem dX4_highest_27 : decode cX4_highest 27 = .ok (.ifCond .eq 22, 3) := by decide +kernel
theorem dX4_highest_30 : decode cX4_highest 30 = .ok (.aload_n 0, 1) := by decide +kernel
theorem dX4_highest_31 : decode cX4_highest 31 = .ok (.getfield 107, 3) := by decide +kernel
theorem dX4_highest_34 : decode cX4_highest 34 = .ok (.iconst 1, 1) := by decide +kernel
theorem dX4_highest_35 : decode cX4_highest 35 = .ok (.if_icmp .ne 14, 3) := by decide +kernel
theorem dX4_highest_38 : decode cX4_highest 38 = .ok (.iconst 3, 1) := by decide +kernel
theorem dX4_highest_39 : decode cX4_highest 39 = .ok (.aload_n 0, 1) := by decide +kernel
theorem dX4_highest_40 : decode cX4_highest 40 = .ok (.getfield 59, 3) := by decide +kernel
theorem dX4_highest_43 : decode cX4_highest 43 = .ok (.iload_n 1, 1) := by decide +kernel
theorem dX4_highest_44 : decode cX4_highest 44 = .ok (.iaload, 1) := by decide +kernel
theorem dX4_highest_45 : decode cX4_highest 45 = .ok (.iadd, 1) := by decide +kernel
theorem dX4_highest_46 : decode cX4_highest 46 = .ok (.goto 10, 3) := by decide +kernel
theorem dX4_highest_49 : decode cX4_highest 49 = .ok (.aload_n 0, 1) := by decide +kernel
theorem dX4_highest_50 : decode cX4_highest 50 = .ok (.iload_n 1, 1) := by decide +kernel
theorem dX4_highest_51 : decode cX4_highest 51 = .ok (.iload_n 2, 1) := by decide +kernel
theorem dX4_highest_52 : decode cX4_highest 52 = .ok (.iload_n 3, 1) := by decide +kernel
theorem dX4_highest_53 : decode cX4_highest 53 = .ok (.invokevirtual 110, 3) := by decide +kernel
theorem dX4_highest_56 : decode cX4_highest 56 = .ok (.ireturn, 1) := by decide +kernel
theorem dX4_holds1_0 : decode cX4_holds1 0 = .ok (.iconst 3, 1) := by decide +kernel
theorem dX4_holds1_1 : decode cX4_holds1 1 = .ok (.iload_n 1, 1) := by decide +kernel
theorem dX4_holds1_2 : decode cX4_holds1 2 = .ok (.isub, 1) := by decide +kernel
theorem dX4_holds1_3 : decode cX4_holds1 3 = .ok (.istore 4, 2) := by decide +kernel
theorem dX4_holds1_5 : decode cX4_holds1 5 = .ok (.iconst 0, 1) := by decide +kernel
theorem dX4_holds1_6 : decode cX4_holds1 6 = .ok (.istore 5, 2) := by decide +kernel
theorem dX4_holds1_8 : decode cX4_holds1 8 = .ok (.iload 5, 2) := by decide +kernel
theorem dX4_holds1_10 : decode cX4_holds1 10 = .ok (.aload_n 0, 1) := by decide +kernel
theorem dX4_holds1_11 : decode cX4_holds1 11 = .ok (.getfield 41, 3) := by decide +kernel
theorem dX4_holds1_14 : decode cX4_holds1 14 = .ok (.iload 4, 2) := by decide +kernel
theorem dX4_holds1_16 : decode cX4_holds1 16 = .ok (.iaload, 1) := by decide +kernel
theorem dX4_holds1_17 : decode cX4_holds1 17 = .ok (.if_icmp .ge 23, 3) := by decide +kernel
theorem dX4_holds1_20 : decode cX4_holds1 20 = .ok (.aload_n 0, 1) := by decide +kernel
theorem dX4_holds1_21 : decode cX4_holds1 21 = .ok (.iconst 1, 1) := by decide +kernel
theorem dX4_holds1_22 : decode cX4_holds1 22 = .ok (.iload_n 1, 1) := by decide +kernel
theorem dX4_holds1_23 : decode cX4_holds1 23 = .ok (.iload_n 2, 1) := by decide +kernel
theorem dX4_holds1_24 : decode cX4_holds1 24 = .ok (.iload 5, 2) := by decide +kernel
theorem dX4_holds1_26 : decode cX4_holds1 26 = .ok (.invokevirtual 114, 3) := by decide +kernel
theorem dX4_holds1_29 : decode cX4_holds1 29 = .ok (.ifCond .eq 5, 3) := by decide +kernel
theorem dX4_holds1_32 : decode cX4_holds1 32 = .ok (.iconst 0, 1) := by decide +kernel
theorem dX4_holds1_33 : decode cX4_holds1 33 = .ok (.ireturn, 1) := by decide +kernel
theorem dX4_holds1_34 : decode cX4_holds1 34 = .ok (.iinc 5 1, 3) := by decide +kernel
theorem dX4_holds1_37 : decode cX4_holds1 37 = .ok (.goto (-29), 3) := by decide +kernel
theorem dX4_holds1_40 : decode cX4_holds1 40 = .ok (.iconst 1, 1) := by decide +kernel
theorem dX4_holds1_41 : decode cX4_holds1 41 = .ok (.ireturn, 1) := by decide +kernel
theorem dX4_wins1_0 : decode cX4_wins1 0 = .ok (.iconst 0, 1) := by decide +kernel
theorem dX4_wins1_1 : decode cX4_wins1 1 = .ok (.istore_n 1, 1) := by decide +kernel
theorem dX4_wins1_2 : decode cX4_wins1 2 = .ok (.iload_n 1, 1) := by decide +kernel
theorem dX4_wins1_3 : decode cX4_wins1 3 = .ok (.iconst 2, 1) := by decide +kernel
theorem dX4_wins1_4 : decode cX4_wins1 4 = .ok (.if_icmp .ge 66, 3) := by decide +kernel
theorem dX4_wins1_7 : decode cX4_wins1 7 = .ok (.iconst 0, 1) := by decide +kernel
theorem dX4_wins1_8 : decode cX4_wins1 8 = .ok (.istore_n 2, 1) := by decide +kernel
theorem dX4_wins1_9 : decode cX4_wins1 9 = .ok (.iload_n 2, 1) := by decide +kernel
theorem dX4_wins1_10 : decode cX4_wins1 10 = .ok (.aload_n 0, 1) := by decide +kernel
theorem dX4_wins1_11 : decode cX4_wins1 11 = .ok (.getfield 41, 3) := by decide +kernel
theorem dX4_wins1_14 : decode cX4_wins1 14 = .ok (.iconst 2, 1) := by decide +kernel
theorem dX4_wins1_15 : decode cX4_wins1 15 = .ok (.iload_n 1, 1) := by decide +kernel
theorem dX4_wins1_16 : decode cX4_wins1 16 = .ok (.iadd, 1) := by decide +kernel
theorem dX4_wins1_17 : decode cX4_wins1 17 = .ok (.iaload, 1) := by decide +kernel
theorem dX4_wins1_18 : decode cX4_wins1 18 = .ok (.if_icmp .ge 46, 3) := by decide +kernel
theorem dX4_wins1_21 : decode cX4_wins1 21 = .ok (.aload_n 0, 1) := by decide +kernel
theorem dX4_wins1_22 : decode cX4_wins1 22 = .ok (.iconst 1, 1) := by decide +kernel
theorem dX4_wins1_23 : decode cX4_wins1 23 = .ok (.iload_n 1, 1) := by decide +kernel
theorem dX4_wins1_24 : decode cX4_wins1 24 = .ok (.iload_n 2, 1) := by decide +kernel
theorem dX4_wins1_25 : decode cX4_wins1 25 = .ok (.invokevirtual 110, 3) := by decide +kernel
theorem dX4_wins1_28 : decode cX4_wins1 28 = .ok (.istore_n 3, 1) := by decide +kernel
theorem dX4_wins1_29 : decode cX4_wins1 29 = .ok (.iload_n 3, 1) := by decide +kernel
theorem dX4_wins1_30 : decode cX4_wins1 30 = .ok (.aload_n 0, 1) := by decide +kernel
theorem dX4_wins1_31 : decode cX4_wins1 31 = .ok (.iconst 1, 1) := by decide +kernel
theorem dX4_wins1_32 : decode cX4_wins1 32 = .ok (.iload_n 1, 1) := by decide +kernel
theorem dX4_wins1_33 : decode cX4_wins1 33 = .ok (.iload_n 2, 1) := by decide +kernel
theorem dX4_wins1_34 : decode cX4_wins1 34 = .ok (.invokevirtual 118, 3) := by decide +kernel
theorem dX4_wins1_37 : decode cX4_wins1 37 = .ok (.if_icmp .gt 21, 3) := by decide +kernel
theorem dX4_wins1_40 : decode cX4_wins1 40 = .ok (.aload_n 0, 1) := by decide +kernel
theorem dX4_wins1_41 : decode cX4_wins1 41 = .ok (.iload_n 1, 1) := by decide +kernel
theorem dX4_wins1_42 : decode cX4_wins1 42 = .ok (.iload_n 2, 1) := by decide +kernel
theorem dX4_wins1_43 : decode cX4_wins1 43 = .ok (.iload_n 3, 1) := by decide +kernel
theorem dX4_wins1_44 : decode cX4_wins1 44 = .ok (.invokevirtual 121, 3) := by decide +kernel
theorem dX4_wins1_47 : decode cX4_wins1 47 = .ok (.ifCond .eq 5, 3) := by decide +kernel
theorem dX4_wins1_50 : decode cX4_wins1 50 = .ok (.iconst 1, 1) := by decide +kernel
theorem dX4_wins1_51 : decode cX4_wins1 51 = .ok (.ireturn, 1) := by decide +kernel
theorem dX4_wins1_52 : decode cX4_wins1 52 = .ok (.iinc 3 1, 3) := by decide +kernel
theorem dX4_wins1_55 : decode cX4_wins1 55 = .ok (.goto (-26), 3) := by decide +kernel
theorem dX4_wins1_58 : decode cX4_wins1 58 = .ok (.iinc 2 1, 3) := by decide +kernel
theorem dX4_wins1_61 : decode cX4_wins1 61 = .ok (.goto (-52), 3) := by decide +kernel
theorem dX4_wins1_64 : decode cX4_wins1 64 = .ok (.iinc 1 1, 3) := by decide +kernel
theorem dX4_wins1_67 : decode cX4_wins1 67 = .ok (.goto (-65), 3) := by decide +kernel
theorem dX4_wins1_70 : decode cX4_wins1 70 = .ok (.iconst 0, 1) := by decide +kernel
theorem dX4_wins1_71 : decode cX4_wins1 71 = .ok (.ireturn, 1) := by decide +kernel
theorem dX4_holds2_0 : decode cX4_holds2 0 = .ok (.iconst 5, 1) := by decide +kernel
theorem dX4_holds2_1 : decode cX4_holds2 1 = .ok (.iload_n 1, 1) := by decide +kernel
theorem dX4_holds2_2 : decode cX4_holds2 2 = .ok (.isub, 1) := by decide +kernel
theorem dX4_holds2_3 : decode cX4_holds2 3 = .ok (.istore 4, 2) := by decide +kernel
theorem dX4_holds2_5 : decode cX4_holds2 5 = .ok (.iconst 0, 1) := by decide +kernel
theorem dX4_holds2_6 : decode cX4_holds2 6 = .ok (.istore 5, 2) := by decide +kernel
theorem dX4_holds2_8 : decode cX4_holds2 8 = .ok (.iload 5, 2) := by decide +kernel
theorem dX4_holds2_10 : decode cX4_holds2 10 = .ok (.aload_n 0, 1) := by decide +kernel
theorem dX4_holds2_11 : decode cX4_holds2 11 = .ok (.getfield 41, 3) := by decide +kernel
theorem dX4_holds2_14 : decode cX4_holds2 14 = .ok (.iload 4, 2) := by decide +kernel
theorem dX4_holds2_16 : decode cX4_holds2 16 = .ok (.iaload, 1) := by decide +kernel
theorem dX4_holds2_17 : decode cX4_holds2 17 = .ok (.if_icmp .ge 35, 3) := by decide +kernel
theorem dX4_holds2_20 : decode cX4_holds2 20 = .ok (.aload_n 0, 1) := by decide +kernel
theorem dX4_holds2_21 : decode cX4_holds2 21 = .ok (.iconst 2, 1) := by decide +kernel
theorem dX4_holds2_22 : decode cX4_holds2 22 = .ok (.iload_n 1, 1) := by decide +kernel
theorem dX4_holds2_23 : decode cX4_holds2 23 = .ok (.iload_n 2, 1) := by decide +kernel
theorem dX4_holds2_24 : decode cX4_holds2 24 = .ok (.iload 5, 2) := by decide +kernel
theorem dX4_holds2_26 : decode cX4_holds2 26 = .ok (.invokevirtual 114, 3) := by decide +kernel
theorem dX4_holds2_29 : decode cX4_holds2 29 = .ok (.ifCond .eq 17, 3) := by decide +kernel
theorem dX4_holds2_32 : decode cX4_holds2 32 = .ok (.aload_n 0, 1) := by decide +kernel
theorem dX4_holds2_33 : decode cX4_holds2 33 = .ok (.iload_n 1, 1) := by decide +kernel
theorem dX4_holds2_34 : decode cX4_holds2 34 = .ok (.iload_n 2, 1) := by decide +kernel
theorem dX4_holds2_35 : decode cX4_holds2 35 = .ok (.iload 5, 2) := by decide +kernel
theorem dX4_holds2_37 : decode cX4_holds2 37 = .ok (.iload_n 3, 1) := by decide +kernel
theorem dX4_holds2_38 : decode cX4_holds2 38 = .ok (.invokevirtual 124, 3) := by decide +kernel
theorem dX4_holds2_41 : decode cX4_holds2 41 = .ok (.ifCond .ne 5, 3) := by decide +kernel
theorem dX4_holds2_44 : decode cX4_holds2 44 = .ok (.iconst 0, 1) := by decide +kernel
theorem dX4_holds2_45 : decode cX4_holds2 45 = .ok (.ireturn, 1) := by decide +kernel
theorem dX4_holds2_46 : decode cX4_holds2 46 = .ok (.iinc 5 1, 3) := by decide +kernel
theorem dX4_holds2_49 : decode cX4_holds2 49 = .ok (.goto (-41), 3) := by decide +kernel
theorem dX4_holds2_52 : decode cX4_holds2 52 = .ok (.iconst 1, 1) := by decide +kernel
theorem dX4_holds2_53 : decode cX4_holds2 53 = .ok (.ireturn, 1) := by decide +kernel
theorem dX4_follows2_0 : decode cX4_follows2 0 = .ok (.iload 4, 2) := by decide +kernel
theorem dX4_follows2_2 : decode cX4_follows2 2 = .ok (.bipush 9, 2) := by decide +kernel
theorem dX4_follows2_4 : decode cX4_follows2 4 = .ok (.if_icmp .ge 18, 3) := by decide +kernel
theorem dX4_follows2_7 : decode cX4_follows2 7 = .ok (.aload_n 0, 1) := by decide +kernel
theorem dX4_follows2_8 : decode cX4_follows2 8 = .ok (.iconst 2, 1) := by decide +kernel
theorem dX4_follows2_9 : decode cX4_follows2 9 = .ok (.iload_n 1, 1) := by decide +kernel
theorem dX4_follows2_10 : decode cX4_follows2 10 = .ok (.iload_n 2, 1) := by decide +kernel
theorem dX4_follows2_11 : decode cX4_follows2 11 = .ok (.iload_n 3, 1) := by decide +kernel
theorem dX4_follows2_12 : decode cX4_follows2 12 = .ok (.iload 4, 2) := by decide +kernel
theorem dX4_follows2_14 : decode cX4_follows2 14 = .ok (.invokevirtual 127, 3) := by decide +kernel
theorem dX4_follows2_17 : decode cX4_follows2 17 = .ok (.aload_n 0, 1) := by decide +kernel
theorem dX4_follows2_18 : decode cX4_follows2 18 = .ok (.invokevirtual 131, 3) := by decide +kernel
theorem dX4_follows2_21 : decode cX4_follows2 21 = .ok (.ireturn, 1) := by decide +kernel
theorem dX4_follows2_22 : decode cX4_follows2 22 = .ok (.iconst 0, 1) := by decide +kernel
theorem dX4_follows2_23 : decode cX4_follows2 23 = .ok (.istore 5, 2) := by decide +kernel
theorem dX4_follows2_25 : decode cX4_follows2 25 = .ok (.iload 5, 2) := by decide +kernel
theorem dX4_follows2_27 : decode cX4_follows2 27 = .ok (.iconst 3, 1) := by decide +kernel
theorem dX4_follows2_28 : decode cX4_follows2 28 = .ok (.aload_n 0, 1) := by decide +kernel
theorem dX4_follows2_29 : decode cX4_follows2 29 = .ok (.getfield 59, 3) := by decide +kernel
theorem dX4_follows2_32 : decode cX4_follows2 32 = .ok (.iconst 2, 1) := by decide +kernel
theorem dX4_follows2_33 : decode cX4_follows2 33 = .ok (.iaload, 1) := by decide +kernel
theorem dX4_follows2_34 : decode cX4_follows2 34 = .ok (.iadd, 1) := by decide +kernel
theorem dX4_follows2_35 : decode cX4_follows2 35 = .ok (.if_icmp .gt 28, 3) := by decide +kernel
theorem dX4_follows2_38 : decode cX4_follows2 38 = .ok (.aload_n 0, 1) := by decide +kernel
theorem dX4_follows2_39 : decode cX4_follows2 39 = .ok (.iconst 2, 1) := by decide +kernel
theorem dX4_follows2_40 : decode cX4_follows2 40 = .ok (.iload_n 1, 1) := by decide +kernel
theorem dX4_follows2_41 : decode cX4_follows2 41 = .ok (.iload_n 2, 1) := by decide +kernel
theorem dX4_follows2_42 : decode cX4_follows2 42 = .ok (.iload_n 3, 1) := by decide +kernel
theorem dX4_follows2_43 : decode cX4_follows2 43 = .ok (.iload 5, 2) := by decide +kernel
theorem dX4_follows2_45 : decode cX4_follows2 45 = .ok (.invokevirtual 127, 3) := by decide +kernel
theorem dX4_follows2_48 : decode cX4_follows2 48 = .ok (.aload_n 0, 1) := by decide +kernel
theorem dX4_follows2_49 : decode cX4_follows2 49 = .ok (.invokevirtual 131, 3) := by decide +kernel
theorem dX4_follows2_52 : decode cX4_follows2 52 = .ok (.ifCond .eq 5, 3) := by decide +kernel
theorem dX4_follows2_55 : decode cX4_follows2 55 = .ok (.iconst 1, 1) := by decide +kernel
theorem dX4_follows2_56 : decode cX4_follows2 56 = .ok (.ireturn, 1) := by decide +kernel
theorem dX4_follows2_57 : decode cX4_follows2 57 = .ok (.iinc 5 1, 3) := by decide +kernel
theorem dX4_follows2_60 : decode cX4_follows2 60 = .ok (.goto (-35), 3) := by decide +kernel
theorem dX4_follows2_63 : decode cX4_follows2 63 = .ok (.iconst 0, 1) := by decide +kernel
theorem dX4_follows2_64 : decode cX4_follows2 64 = .ok (.ireturn, 1) := by decide +kernel
theorem dX4_wins2_0 : decode cX4_wins2 0 = .ok (.iconst 0, 1) := by decide +kernel
theorem dX4_wins2_1 : decode cX4_wins2 1 = .ok (.istore_n 1, 1) := by decide +kernel
theorem dX4_wins2_2 : decode cX4_wins2 2 = .ok (.iload_n 1, 1) := by decide +kernel
theorem dX4_wins2_3 : decode cX4_wins2 3 = .ok (.iconst 2, 1) := by decide +kernel
theorem dX4_wins2_4 : decode cX4_wins2 4 = .ok (.if_icmp .ge 66, 3) := by decide +kernel
theorem dX4_wins2_7 : decode cX4_wins2 7 = .ok (.iconst 0, 1) := by decide +kernel
theorem dX4_wins2_8 : decode cX4_wins2 8 = .ok (.istore_n 2, 1) := by decide +kernel
theorem dX4_wins2_9 : decode cX4_wins2 9 = .ok (.iload_n 2, 1) := by decide +kernel
theorem dX4_wins2_10 : decode cX4_wins2 10 = .ok (.aload_n 0, 1) := by decide +kernel
theorem dX4_wins2_11 : decode cX4_wins2 11 = .ok (.getfield 41, 3) := by decide +kernel
theorem dX4_wins2_14 : decode cX4_wins2 14 = .ok (.iconst 4, 1) := by decide +kernel
theorem dX4_wins2_15 : decode cX4_wins2 15 = .ok (.iload_n 1, 1) := by decide +kernel
theorem dX4_wins2_16 : decode cX4_wins2 16 = .ok (.iadd, 1) := by decide +kernel
theorem dX4_wins2_17 : decode cX4_wins2 17 = .ok (.iaload, 1) := by decide +kernel
theorem dX4_wins2_18 : decode cX4_wins2 18 = .ok (.if_icmp .ge 46, 3) := by decide +kernel
theorem dX4_wins2_21 : decode cX4_wins2 21 = .ok (.aload_n 0, 1) := by decide +kernel
theorem dX4_wins2_22 : decode cX4_wins2 22 = .ok (.iconst 2, 1) := by decide +kernel
theorem dX4_wins2_23 : decode cX4_wins2 23 = .ok (.iload_n 1, 1) := by decide +kernel
theorem dX4_wins2_24 : decode cX4_wins2 24 = .ok (.iload_n 2, 1) := by decide +kernel
theorem dX4_wins2_25 : decode cX4_wins2 25 = .ok (.invokevirtual 110, 3) := by decide +kernel
theorem dX4_wins2_28 : decode cX4_wins2 28 = .ok (.istore_n 3, 1) := by decide +kernel
theorem dX4_wins2_29 : decode cX4_wins2 29 = .ok (.iload_n 3, 1) := by decide +kernel
theorem dX4_wins2_30 : decode cX4_wins2 30 = .ok (.aload_n 0, 1) := by decide +kernel
theorem dX4_wins2_31 : decode cX4_wins2 31 = .ok (.iconst 2, 1) := by decide +kernel
theorem dX4_wins2_32 : decode cX4_wins2 32 = .ok (.iload_n 1, 1) := by decide +kernel
theorem dX4_wins2_33 : decode cX4_wins2 33 = .ok (.iload_n 2, 1) := by decide +kernel
theorem dX4_wins2_34 : decode cX4_wins2 34 = .ok (.invokevirtual 118, 3) := by decide +kernel
theorem dX4_wins2_37 : decode cX4_wins2 37 = .ok (.if_icmp .gt 21, 3) := by decide +kernel
theorem dX4_wins2_40 : decode cX4_wins2 40 = .ok (.aload_n 0, 1) := by decide +kernel
theorem dX4_wins2_41 : decode cX4_wins2 41 = .ok (.iload_n 1, 1) := by decide +kernel
theorem dX4_wins2_42 : decode cX4_wins2 42 = .ok (.iload_n 2, 1) := by decide +kernel
theorem dX4_wins2_43 : decode cX4_wins2 43 = .ok (.iload_n 3, 1) := by decide +kernel
theorem dX4_wins2_44 : decode cX4_wins2 44 = .ok (.invokevirtual 135, 3) := by decide +kernel
theorem dX4_wins2_47 : decode cX4_wins2 47 = .ok (.ifCond .eq 5, 3) := by decide +kernel
theorem dX4_wins2_50 : decode cX4_wins2 50 = .ok (.iconst 1, 1) := by decide +kernel
theorem dX4_wins2_51 : decode cX4_wins2 51 = .ok (.ireturn, 1) := by decide +kernel
theorem dX4_wins2_52 : decode cX4_wins2 52 = .ok (.iinc 3 1, 3) := by decide +kernel
theorem dX4_wins2_55 : decode cX4_wins2 55 = .ok (.goto (-26), 3) := by decide +kernel
theorem dX4_wins2_58 : decode cX4_wins2 58 = .ok (.iinc 2 1, 3) := by decide +kernel
theorem dX4_wins2_61 : decode cX4_wins2 61 = .ok (.goto (-52), 3) := by decide +kernel
theorem dX4_wins2_64 : decode cX4_wins2 64 = .ok (.iinc 1 1, 3) := by decide +kernel
theorem dX4_wins2_67 : decode cX4_wins2 67 = .ok (.goto (-65), 3) := by decide +kernel
theorem dX4_wins2_70 : decode cX4_wins2 70 = .ok (.iconst 0, 1) := by decide +kernel
theorem dX4_wins2_71 : decode cX4_wins2 71 = .ok (.ireturn, 1) := by decide +kernel
theorem dX4_holds3_0 : decode cX4_holds3 0 = .ok (.bipush 7, 2) := by decide +kernel
theorem dX4_holds3_2 : decode cX4_holds3 2 = .ok (.iload_n 1, 1) := by decide +kernel
theorem dX4_holds3_3 : decode cX4_holds3 3 = .ok (.isub, 1) := by decide +kernel
theorem dX4_holds3_4 : decode cX4_holds3 4 = .ok (.istore 4, 2) := by decide +kernel
theorem dX4_holds3_6 : decode cX4_holds3 6 = .ok (.iconst 0, 1) := by decide +kernel
theorem dX4_holds3_7 : decode cX4_holds3 7 = .ok (.istore 5, 2) := by decide +kernel
theorem dX4_holds3_9 : decode cX4_holds3 9 = .ok (.iload 5, 2) := by decide +kernel
theorem dX4_holds3_11 : decode cX4_holds3 11 = .ok (.aload_n 0, 1) := by decide +kernel
theorem dX4_holds3_12 : decode cX4_holds3 12 = .ok (.getfield 41, 3) := by decide +kernel
theorem dX4_holds3_15 : decode cX4_holds3 15 = .ok (.iload 4, 2) := by decide +kernel
theorem dX4_holds3_17 : decode cX4_holds3 17 = .ok (.iaload, 1) := by decide +kernel
theorem dX4_holds3_18 : decode cX4_holds3 18 = .ok (.if_icmp .ge 35, 3) := by decide +kernel
theorem dX4_holds3_21 : decode cX4_holds3 21 = .ok (.aload_n 0, 1) := by decide +kernel
theorem dX4_holds3_22 : decode cX4_holds3 22 = .ok (.iconst 3, 1) := by decide +kernel
theorem dX4_holds3_23 : decode cX4_holds3 23 = .ok (.iload_n 1, 1) := by decide +kernel
theorem dX4_holds3_24 : decode cX4_holds3 24 = .ok (.iload_n 2, 1) := by decide +kernel
theorem dX4_holds3_25 : decode cX4_holds3 25 = .ok (.iload 5, 2) := by decide +kernel
theorem dX4_holds3_27 : decode cX4_holds3 27 = .ok (.invokevirtual 114, 3) := by decide +kernel
theorem dX4_holds3_30 : decode cX4_holds3 30 = .ok (.ifCond .eq 17, 3) := by decide +kernel
theorem dX4_holds3_33 : decode cX4_holds3 33 = .ok (.aload_n 0, 1) := by decide +kernel
theorem dX4_holds3_34 : decode cX4_holds3 34 = .ok (.iload_n 1, 1) := by decide +kernel
theorem dX4_holds3_35 : decode cX4_holds3 35 = .ok (.iload_n 2, 1) := by decide +kernel
theorem dX4_holds3_36 : decode cX4_holds3 36 = .ok (.iload 5, 2) := by decide +kernel
theorem dX4_holds3_38 : decode cX4_holds3 38 = .ok (.iload_n 3, 1) := by decide +kernel
theorem dX4_holds3_39 : decode cX4_holds3 39 = .ok (.invokevirtual 138, 3) := by decide +kernel
theorem dX4_holds3_42 : decode cX4_holds3 42 = .ok (.ifCond .ne 5, 3) := by decide +kernel
theorem dX4_holds3_45 : decode cX4_holds3 45 = .ok (.iconst 0, 1) := by decide +kernel
theorem dX4_holds3_46 : decode cX4_holds3 46 = .ok (.ireturn, 1) := by decide +kernel
theorem dX4_holds3_47 : decode cX4_holds3 47 = .ok (.iinc 5 1, 3) := by decide +kernel
theorem dX4_holds3_50 : decode cX4_holds3 50 = .ok (.goto (-41), 3) := by decide +kernel
theorem dX4_holds3_53 : decode cX4_holds3 53 = .ok (.iconst 1, 1) := by decide +kernel
theorem dX4_holds3_54 : decode cX4_holds3 54 = .ok (.ireturn, 1) := by decide +kernel
theorem dX4_follows3_0 : decode cX4_follows3 0 = .ok (.iload 4, 2) := by decide +kernel
theorem dX4_follows3_2 : decode cX4_follows3 2 = .ok (.bipush 9, 2) := by decide +kernel
theorem dX4_follows3_4 : decode cX4_follows3 4 = .ok (.if_icmp .ge 18, 3) := by decide +kernel
theorem dX4_follows3_7 : decode cX4_follows3 7 = .ok (.aload_n 0, 1) := by decide +kernel
theorem dX4_follows3_8 : decode cX4_follows3 8 = .ok (.iconst 3, 1) := by decide +kernel
theorem dX4_follows3_9 : decode cX4_follows3 9 = .ok (.iload_n 1, 1) := by decide +kernel
theorem dX4_follows3_10 : decode cX4_follows3 10 = .ok (.iload_n 2, 1) := by decide +kernel
theorem dX4_follows3_11 : decode cX4_follows3 11 = .ok (.iload_n 3, 1) := by decide +kernel
theorem dX4_follows3_12 : decode cX4_follows3 12 = .ok (.iload 4, 2) := by decide +kernel
theorem dX4_follows3_14 : decode cX4_follows3 14 = .ok (.invokevirtual 127, 3) := by decide +kernel
theorem dX4_follows3_17 : decode cX4_follows3 17 = .ok (.aload_n 0, 1) := by decide +kernel
theorem dX4_follows3_18 : decode cX4_follows3 18 = .ok (.invokevirtual 141, 3) := by decide +kernel
theorem dX4_follows3_21 : decode cX4_follows3 21 = .ok (.ireturn, 1) := by decide +kernel
theorem dX4_follows3_22 : decode cX4_follows3 22 = .ok (.iconst 0, 1) := by decide +kernel
theorem dX4_follows3_23 : decode cX4_follows3 23 = .ok (.istore 5, 2) := by decide +kernel
theorem dX4_follows3_25 : decode cX4_follows3 25 = .ok (.iload 5, 2) := by decide +kernel
theorem dX4_follows3_27 : decode cX4_follows3 27 = .ok (.iconst 3, 1) := by decide +kernel
theorem dX4_follows3_28 : decode cX4_follows3 28 = .ok (.aload_n 0, 1) := by decide +kernel
theorem dX4_follows3_29 : decode cX4_follows3 29 = .ok (.getfield 59, 3) := by decide +kernel
theorem dX4_follows3_32 : decode cX4_follows3 32 = .ok (.iconst 3, 1) := by decide +kernel
theorem dX4_follows3_33 : decode cX4_follows3 33 = .ok (.iaload, 1) := by decide +kernel
theorem dX4_follows3_34 : decode cX4_follows3 34 = .ok (.iadd, 1) := by decide +kernel
theorem dX4_follows3_35 : decode cX4_follows3 35 = .ok (.if_icmp .gt 28, 3) := by decide +kernel
theorem dX4_follows3_38 : decode cX4_follows3 38 = .ok (.aload_n 0, 1) := by decide +kernel
theorem dX4_follows3_39 : decode cX4_follows3 39 = .ok (.iconst 3, 1) := by decide +kernel
theorem dX4_follows3_40 : decode cX4_follows3 40 = .ok (.iload_n 1, 1) := by decide +kernel
theorem dX4_follows3_41 : decode cX4_follows3 41 = .ok (.iload_n 2, 1) := by decide +kernel
theorem dX4_follows3_42 : decode cX4_follows3 42 = .ok (.iload_n 3, 1) := by decide +kernel
theorem dX4_follows3_43 : decode cX4_follows3 43 = .ok (.iload 5, 2) := by decide +kernel
theorem dX4_follows3_45 : decode cX4_follows3 45 = .ok (.invokevirtual 127, 3) := by decide +kernel
theorem dX4_follows3_48 : decode cX4_follows3 48 = .ok (.aload_n 0, 1) := by decide +kernel
theorem dX4_follows3_49 : decode cX4_follows3 49 = .ok (.invokevirtual 141, 3) := by decide +kernel
theorem dX4_follows3_52 : decode cX4_follows3 52 = .ok (.ifCond .eq 5, 3) := by decide +kernel
theorem dX4_follows3_55 : decode cX4_follows3 55 = .ok (.iconst 1, 1) := by decide +kernel
theorem dX4_follows3_56 : decode cX4_follows3 56 = .ok (.ireturn, 1) := by decide +kernel
theorem dX4_follows3_57 : decode cX4_follows3 57 = .ok (.iinc 5 1, 3) := by decide +kernel
theorem dX4_follows3_60 : decode cX4_follows3 60 = .ok (.goto (-35), 3) := by decide +kernel
theorem dX4_follows3_63 : decode cX4_follows3 63 = .ok (.iconst 0, 1) := by decide +kernel
theorem dX4_follows3_64 : decode cX4_follows3 64 = .ok (.ireturn, 1) := by decide +kernel
theorem dX4_wins3_0 : decode cX4_wins3 0 = .ok (.iconst 0, 1) := by decide +kernel
theorem dX4_wins3_1 : decode cX4_wins3 1 = .ok (.istore_n 1, 1) := by decide +kernel
theorem dX4_wins3_2 : decode cX4_wins3 2 = .ok (.iload_n 1, 1) := by decide +kernel
theorem dX4_wins3_3 : decode cX4_wins3 3 = .ok (.iconst 2, 1) := by decide +kernel
theorem dX4_wins3_4 : decode cX4_wins3 4 = .ok (.if_icmp .ge 67, 3) := by decide +kernel
theorem dX4_wins3_7 : decode cX4_wins3 7 = .ok (.iconst 0, 1) := by decide +kernel
theorem dX4_wins3_8 : decode cX4_wins3 8 = .ok (.istore_n 2, 1) := by decide +kernel
theorem dX4_wins3_9 : decode cX4_wins3 9 = .ok (.iload_n 2, 1) := by decide +kernel
theorem dX4_wins3_10 : decode cX4_wins3 10 = .ok (.aload_n 0, 1) := by decide +kernel
theorem dX4_wins3_11 : decode cX4_wins3 11 = .ok (.getfield 41, 3) := by decide +kernel
theorem dX4_wins3_14 : decode cX4_wins3 14 = .ok (.bipush 6, 2) := by decide +kernel
theorem dX4_wins3_16 : decode cX4_wins3 16 = .ok (.iload_n 1, 1) := by decide +kernel
theorem dX4_wins3_17 : decode cX4_wins3 17 = .ok (.iadd, 1) := by decide +kernel
theorem dX4_wins3_18 : decode cX4_wins3 18 = .ok (.iaload, 1) := by decide +kernel
theorem dX4_wins3_19 : decode cX4_wins3 19 = .ok (.if_icmp .ge 46, 3) := by decide +kernel
theorem dX4_wins3_22 : decode cX4_wins3 22 = .ok (.aload_n 0, 1) := by decide +kernel
theorem dX4_wins3_23 : decode cX4_wins3 23 = .ok (.iconst 3, 1) := by decide +kernel
theorem dX4_wins3_24 : decode cX4_wins3 24 = .ok (.iload_n 1, 1) := by decide +kernel
theorem dX4_wins3_25 : decode cX4_wins3 25 = .ok (.iload_n 2, 1) := by decide +kernel
theorem dX4_wins3_26 : decode cX4_wins3 26 = .ok (.invokevirtual 110, 3) := by decide +kernel
theorem dX4_wins3_29 : decode cX4_wins3 29 = .ok (.istore_n 3, 1) := by decide +kernel
theorem dX4_wins3_30 : decode cX4_wins3 30 = .ok (.iload_n 3, 1) := by decide +kernel
theorem dX4_wins3_31 : decode cX4_wins3 31 = .ok (.aload_n 0, 1) := by decide +kernel
theorem dX4_wins3_32 : decode cX4_wins3 32 = .ok (.iconst 3, 1) := by decide +kernel
theorem dX4_wins3_33 : decode cX4_wins3 33 = .ok (.iload_n 1, 1) := by decide +kernel
theorem dX4_wins3_34 : decode cX4_wins3 34 = .ok (.iload_n 2, 1) := by decide +kernel
theorem dX4_wins3_35 : decode cX4_wins3 35 = .ok (.invokevirtual 118, 3) := by decide +kernel
theorem dX4_wins3_38 : decode cX4_wins3 38 = .ok (.if_icmp .gt 21, 3) := by decide +kernel
theorem dX4_wins3_41 : decode cX4_wins3 41 = .ok (.aload_n 0, 1) := by decide +kernel
theorem dX4_wins3_42 : decode cX4_wins3 42 = .ok (.iload_n 1, 1) := by decide +kernel
theorem dX4_wins3_43 : decode cX4_wins3 43 = .ok (.iload_n 2, 1) := by decide +kernel
theorem dX4_wins3_44 : decode cX4_wins3 44 = .ok (.iload_n 3, 1) := by decide +kernel
theorem dX4_wins3_45 : decode cX4_wins3 45 = .ok (.invokevirtual 144, 3) := by decide +kernel
theorem dX4_wins3_48 : decode cX4_wins3 48 = .ok (.ifCond .eq 5, 3) := by decide +kernel
theorem dX4_wins3_51 : decode cX4_wins3 51 = .ok (.iconst 1, 1) := by decide +kernel
theorem dX4_wins3_52 : decode cX4_wins3 52 = .ok (.ireturn, 1) := by decide +kernel
theorem dX4_wins3_53 : decode cX4_wins3 53 = .ok (.iinc 3 1, 3) := by decide +kernel
theorem dX4_wins3_56 : decode cX4_wins3 56 = .ok (.goto (-26), 3) := by decide +kernel
theorem dX4_wins3_59 : decode cX4_wins3 59 = .ok (.iinc 2 1, 3) := by decide +kernel
theorem dX4_wins3_62 : decode cX4_wins3 62 = .ok (.goto (-53), 3) := by decide +kernel
theorem dX4_wins3_65 : decode cX4_wins3 65 = .ok (.iinc 1 1, 3) := by decide +kernel
theorem dX4_wins3_68 : decode cX4_wins3 68 = .ok (.goto (-66), 3) := by decide +kernel
theorem dX4_wins3_71 : decode cX4_wins3 71 = .ok (.iconst 0, 1) := by decide +kernel
theorem dX4_wins3_72 : decode cX4_wins3 72 = .ok (.ireturn, 1) := by decide +kernel
theorem dX4_wins_0 : decode cX4_wins 0 = .ok (.iload_n 1, 1) := by decide +kernel
theorem dX4_wins_1 : decode cX4_wins 1 = .ok (.iconst 1, 1) := by decide +kernel
theorem dX4_wins_2 : decode cX4_wins 2 = .ok (.if_icmp .ne 10, 3) := by decide +kernel
theorem dX4_wins_5 : decode cX4_wins 5 = .ok (.aload_n 0, 1) := by decide +kernel
theorem dX4_wins_6 : decode cX4_wins 6 = .ok (.invokevirtual 131, 3) := by decide +kernel
theorem dX4_wins_9 : decode cX4_wins 9 = .ok (.goto 19, 3) := by decide +kernel
theorem dX4_wins_12 : decode cX4_wins 12 = .ok (.iload_n 1, 1) := by decide +kernel
theorem dX4_wins_13 : decode cX4_wins 13 = .ok (.iconst 2, 1) := by decide +kernel
theorem dX4_wins_14 : decode cX4_wins 14 = .ok (.if_icmp .ne 10, 3) := by decide +kernel
theorem dX4_wins_17 : decode cX4_wins 17 = .ok (.aload_n 0, 1) := by decide +kernel
theorem dX4_wins_18 : decode cX4_wins 18 = .ok (.invokevirtual 141, 3) := by decide +kernel
theorem dX4_wins_21 : decode cX4_wins 21 = .ok (.goto 7, 3) := by decide +kernel
theorem dX4_wins_24 : decode cX4_wins 24 = .ok (.aload_n 0, 1) := by decide +kernel
theorem dX4_wins_25 : decode cX4_wins 25 = .ok (.invokevirtual 147, 3) := by decide +kernel
theorem dX4_wins_28 : decode cX4_wins 28 = .ok (.ireturn, 1) := by decide +kernel
theorem dX4_starts_0 : decode cX4_starts 0 = .ok (.aload_n 0, 1) := by decide +kernel
theorem dX4_starts_1 : decode cX4_starts 1 = .ok (.iconst 2, 1) := by decide +kernel
theorem dX4_starts_2 : decode cX4_starts 2 = .ok (.iload_n 1, 1) := by decide +kernel
theorem dX4_starts_3 : decode cX4_starts 3 = .ok (.imul, 1) := by decide +kernel
theorem dX4_starts_4 : decode cX4_starts 4 = .ok (.iload_n 2, 1) := by decide +kernel
theorem dX4_starts_5 : decode cX4_starts 5 = .ok (.iconst 0, 1) := by decide +kernel
theorem dX4_starts_6 : decode cX4_starts 6 = .ok (.invokevirtual 100, 3) := by decide +kernel
theorem dX4_starts_9 : decode cX4_starts 9 = .ok (.aload_n 0, 1) := by decide +kernel
theorem dX4_starts_10 : decode cX4_starts 10 = .ok (.iconst 2, 1) := by decide +kernel
theorem dX4_starts_11 : decode cX4_starts 11 = .ok (.iload_n 1, 1) := by decide +kernel
theorem dX4_starts_12 : decode cX4_starts 12 = .ok (.imul, 1) := by decide +kernel
theorem dX4_starts_13 : decode cX4_starts 13 = .ok (.iconst 1, 1) := by decide +kernel
theorem dX4_starts_14 : decode cX4_starts 14 = .ok (.iadd, 1) := by decide +kernel
theorem dX4_starts_15 : decode cX4_starts 15 = .ok (.iload_n 3, 1) := by decide +kernel
theorem dX4_starts_16 : decode cX4_starts 16 = .ok (.iconst 0, 1) := by decide +kernel
theorem dX4_starts_17 : decode cX4_starts 17 = .ok (.invokevirtual 100, 3) := by decide +kernel
theorem dX4_starts_20 : decode cX4_starts 20 = .ok (.aload_n 0, 1) := by decide +kernel
theorem dX4_starts_21 : decode cX4_starts 21 = .ok (.getfield 59, 3) := by decide +kernel
theorem dX4_starts_24 : decode cX4_starts 24 = .ok (.iload_n 1, 1) := by decide +kernel
theorem dX4_starts_25 : decode cX4_starts 25 = .ok (.iconst 0, 1) := by decide +kernel
theorem dX4_starts_26 : decode cX4_starts 26 = .ok (.iastore, 1) := by decide +kernel
theorem dX4_starts_27 : decode cX4_starts 27 = .ok (.return_, 1) := by decide +kernel
theorem dX4_separated_0 : decode cX4_separated 0 = .ok (.iconst 1, 1) := by decide +kernel
theorem dX4_separated_1 : decode cX4_separated 1 = .ok (.istore_n 3, 1) := by decide +kernel
theorem dX4_separated_2 : decode cX4_separated 2 = .ok (.iload_n 3, 1) := by decide +kernel
theorem dX4_separated_3 : decode cX4_separated 3 = .ok (.iconst 4, 1) := by decide +kernel
theorem dX4_separated_4 : decode cX4_separated 4 = .ok (.if_icmp .ge 26, 3) := by decide +kernel
theorem dX4_separated_7 : decode cX4_separated 7 = .ok (.aload_n 0, 1) := by decide +kernel
theorem dX4_separated_8 : decode cX4_separated 8 = .ok (.iload_n 3, 1) := by decide +kernel
theorem dX4_separated_9 : decode cX4_separated 9 = .ok (.iload_n 1, 1) := by decide +kernel
theorem dX4_separated_10 : decode cX4_separated 10 = .ok (.iload_n 2, 1) := by decide +kernel
theorem dX4_separated_11 : decode cX4_separated 11 = .ok (.invokevirtual 150, 3) := by decide +kernel
theorem dX4_separated_14 : decode cX4_separated 14 = .ok (.aload_n 0, 1) := by decide +kernel
theorem dX4_separated_15 : decode cX4_separated 15 = .ok (.iload_n 3, 1) := by decide +kernel
theorem dX4_separated_16 : decode cX4_separated 16 = .ok (.invokevirtual 153, 3) := by decide +kernel
theorem dX4_separated_19 : decode cX4_separated 19 = .ok (.ifCond .eq 5, 3) := by decide +kernel
theorem dX4_separated_22 : decode cX4_separated 22 = .ok (.iload_n 3, 1) := by decide +kernel
theorem dX4_separated_23 : decode cX4_separated 23 = .ok (.ireturn, 1) := by decide +kernel
theorem dX4_separated_24 : decode cX4_separated 24 = .ok (.iinc 3 1, 3) := by decide +kernel
theorem dX4_separated_27 : decode cX4_separated 27 = .ok (.goto (-25), 3) := by decide +kernel
theorem dX4_separated_30 : decode cX4_separated 30 = .ok (.iconst 0, 1) := by decide +kernel
theorem dX4_separated_31 : decode cX4_separated 31 = .ok (.ireturn, 1) := by decide +kernel
theorem dX4_pairError_0 : decode cX4_pairError 0 = .ok (.aload_n 0, 1) := by decide +kernel
theorem dX4_pairError_1 : decode cX4_pairError 1 = .ok (.iload_n 1, 1) := by decide +kernel
theorem dX4_pairError_2 : decode cX4_pairError 2 = .ok (.invokevirtual 77, 3) := by decide +kernel
theorem dX4_pairError_5 : decode cX4_pairError 5 = .ok (.ifCond .eq 20, 3) := by decide +kernel
theorem dX4_pairError_8 : decode cX4_pairError 8 = .ok (.aload_n 0, 1) := by decide +kernel
theorem dX4_pairError_9 : decode cX4_pairError 9 = .ok (.iload_n 2, 1) := by decide +kernel
theorem dX4_pairError_10 : decode cX4_pairError 10 = .ok (.invokevirtual 77, 3) := by decide +kernel
theorem dX4_pairError_13 : decode cX4_pairError 13 = .ok (.ifCond .eq 12, 3) := by decide +kernel
theorem dX4_pairError_16 : decode cX4_pairError 16 = .ok (.iload_n 3, 1) := by decide +kernel
theorem dX4_pairError_17 : decode cX4_pairError 17 = .ok (.iconst 0, 1) := by decide +kernel
theorem dX4_pairError_18 : decode cX4_pairError 18 = .ok (.iconst 2, 1) := by decide +kernel
theorem dX4_pairError_19 : decode cX4_pairError 19 = .ok (.invokestatic 65, 3) := by decide +kernel
theorem dX4_pairError_22 : decode cX4_pairError 22 = .ok (.ifCond .ne 5, 3) := by decide +kernel
theorem dX4_pairError_25 : decode cX4_pairError 25 = .ok (.iconst (-1), 1) := by decide +kernel
theorem dX4_pairError_26 : decode cX4_pairError 26 = .ok (.ireturn, 1) := by decide +kernel
theorem dX4_pairError_27 : decode cX4_pairError 27 = .ok (.aload_n 0, 1) := by decide +kernel
theorem dX4_pairError_28 : decode cX4_pairError 28 = .ok (.iload_n 3, 1) := by decide +kernel
theorem dX4_pairError_29 : decode cX4_pairError 29 = .ok (.putfield 107, 3) := by decide +kernel
theorem dX4_pairError_32 : decode cX4_pairError 32 = .ok (.aload_n 0, 1) := by decide +kernel
theorem dX4_pairError_33 : decode cX4_pairError 33 = .ok (.getfield 35, 3) := by decide +kernel
theorem dX4_pairError_36 : decode cX4_pairError 36 = .ok (.iload_n 1, 1) := by decide +kernel
theorem dX4_pairError_37 : decode cX4_pairError 37 = .ok (.iaload, 1) := by decide +kernel
theorem dX4_pairError_38 : decode cX4_pairError 38 = .ok (.ifCond .gt 12, 3) := by decide +kernel
theorem dX4_pairError_41 : decode cX4_pairError 41 = .ok (.aload_n 0, 1) := by decide +kernel
theorem dX4_pairError_42 : decode cX4_pairError 42 = .ok (.getfield 35, 3) := by decide +kernel
theorem dX4_pairError_45 : decode cX4_pairError 45 = .ok (.iload_n 2, 1) := by decide +kernel
theorem dX4_pairError_46 : decode cX4_pairError 46 = .ok (.iaload, 1) := by decide +kernel
theorem dX4_pairError_47 : decode cX4_pairError 47 = .ok (.ifCond .le 8, 3) := by decide +kernel
theorem dX4_pairError_50 : decode cX4_pairError 50 = .ok (.bipush (-2), 2) := by decide +kernel
theorem dX4_pairError_52 : decode cX4_pairError 52 = .ok (.goto 4, 3) := by decide +kernel
theorem dX4_pairError_55 : decode cX4_pairError 55 = .ok (.iconst 0, 1) := by decide +kernel
theorem dX4_pairError_56 : decode cX4_pairError 56 = .ok (.ireturn, 1) := by decide +kernel
theorem dX4_areRelated_0 : decode cX4_areRelated 0 = .ok (.aload_n 0, 1) := by decide +kernel
theorem dX4_areRelated_1 : decode cX4_areRelated 1 = .ok (.iload_n 1, 1) := by decide +kernel
theorem dX4_areRelated_2 : decode cX4_areRelated 2 = .ok (.iload_n 2, 1) := by decide +kernel
theorem dX4_areRelated_3 : decode cX4_areRelated 3 = .ok (.iload_n 3, 1) := by decide +kernel
theorem dX4_areRelated_4 : decode cX4_areRelated 4 = .ok (.invokevirtual 156, 3) := by decide +kernel
theorem dX4_areRelated_7 : decode cX4_areRelated 7 = .ok (.istore 4, 2) := by decide +kernel
theorem dX4_areRelated_9 : decode cX4_areRelated 9 = .ok (.iload 4, 2) := by decide +kernel
theorem dX4_areRelated_11 : decode cX4_areRelated 11 = .ok (.ifCond .ge 8, 3) := by decide +kernel
theorem dX4_areRelated_14 : decode cX4_areRelated 14 = .ok (.iload 4, 2) := by decide +kernel
theorem dX4_areRelated_16 : decode cX4_areRelated 16 = .ok (.goto 17, 3) := by decide +kernel
theorem dX4_areRelated_19 : decode cX4_areRelated 19 = .ok (.aload_n 0, 1) := by decide +kernel
theorem dX4_areRelated_20 : decode cX4_areRelated 20 = .ok (.iload_n 1, 1) := by decide +kernel
theorem dX4_areRelated_21 : decode cX4_areRelated 21 = .ok (.iload_n 2, 1) := by decide +kernel
theorem dX4_areRelated_22 : decode cX4_areRelated 22 = .ok (.invokevirtual 159, 3) := by decide +kernel
theorem dX4_areRelated_25 : decode cX4_areRelated 25 = .ok (.ifCond .ne 7, 3) := by decide +kernel
theorem dX4_areRelated_28 : decode cX4_areRelated 28 = .ok (.iconst 1, 1) := by decide +kernel
theorem dX4_areRelated_29 : decode cX4_areRelated 29 = .ok (.goto 4, 3) := by decide +kernel
theorem dX4_areRelated_32 : decode cX4_areRelated 32 = .ok (.iconst 0, 1) := by decide +kernel
theorem dX4_areRelated_33 : decode cX4_areRelated 33 = .ok (.ireturn, 1) := by decide +kernel
theorem dX4_rounds_0 : decode cX4_rounds 0 = .ok (.aload_n 0, 1) := by decide +kernel
theorem dX4_rounds_1 : decode cX4_rounds 1 = .ok (.iload_n 1, 1) := by decide +kernel
theorem dX4_rounds_2 : decode cX4_rounds 2 = .ok (.iload_n 2, 1) := by decide +kernel
theorem dX4_rounds_3 : decode cX4_rounds 3 = .ok (.iload_n 3, 1) := by decide +kernel
theorem dX4_rounds_4 : decode cX4_rounds 4 = .ok (.invokevirtual 156, 3) := by decide +kernel
theorem dX4_rounds_7 : decode cX4_rounds 7 = .ok (.istore 4, 2) := by decide +kernel
theorem dX4_rounds_9 : decode cX4_rounds 9 = .ok (.iload 4, 2) := by decide +kernel
theorem dX4_rounds_11 : decode cX4_rounds 11 = .ok (.ifCond .ge 6, 3) := by decide +kernel
theorem dX4_rounds_14 : decode cX4_rounds 14 = .ok (.iload 4, 2) := by decide +kernel
theorem dX4_rounds_16 : decode cX4_rounds 16 = .ok (.ireturn, 1) := by decide +kernel
theorem dX4_rounds_17 : decode cX4_rounds 17 = .ok (.aload_n 0, 1) := by decide +kernel
theorem dX4_rounds_18 : decode cX4_rounds 18 = .ok (.iload_n 1, 1) := by decide +kernel
theorem dX4_rounds_19 : decode cX4_rounds 19 = .ok (.iload_n 2, 1) := by decide +kernel
theorem dX4_rounds_20 : decode cX4_rounds 20 = .ok (.invokevirtual 159, 3) := by decide +kernel
theorem dX4_rounds_23 : decode cX4_rounds 23 = .ok (.istore 5, 2) := by decide +kernel
theorem dX4_rounds_25 : decode cX4_rounds 25 = .ok (.iload 5, 2) := by decide +kernel
theorem dX4_rounds_27 : decode cX4_rounds 27 = .ok (.ifCond .ne 8, 3) := by decide +kernel
theorem dX4_rounds_30 : decode cX4_rounds 30 = .ok (.bipush (-4), 2) := by decide +kernel
theorem dX4_rounds_32 : decode cX4_rounds 32 = .ok (.goto 5, 3) := by decide +kernel
theorem dX4_rounds_35 : decode cX4_rounds 35 = .ok (.iload 5, 2) := by decide +kernel
theorem dX4_rounds_37 : decode cX4_rounds 37 = .ok (.ireturn, 1) := by decide +kernel
theorem dX4_holds_0 : decode cX4_holds 0 = .ok (.iload_n 1, 1) := by decide +kernel
theorem dX4_holds_1 : decode cX4_holds 1 = .ok (.iconst 1, 1) := by decide +kernel
theorem dX4_holds_2 : decode cX4_holds 2 = .ok (.if_icmp .ne 14, 3) := by decide +kernel
theorem dX4_holds_5 : decode cX4_holds 5 = .ok (.aload_n 0, 1) := by decide +kernel
theorem dX4_holds_6 : decode cX4_holds 6 = .ok (.iload_n 2, 1) := by decide +kernel
theorem dX4_holds_7 : decode cX4_holds 7 = .ok (.iload_n 3, 1) := by decide +kernel
theorem dX4_holds_8 : decode cX4_holds 8 = .ok (.iload 4, 2) := by decide +kernel
theorem dX4_holds_10 : decode cX4_holds 10 = .ok (.invokevirtual 121, 3) := by decide +kernel
theorem dX4_holds_13 : decode cX4_holds 13 = .ok (.goto 27, 3) := by decide +kernel
theorem dX4_holds_16 : decode cX4_holds 16 = .ok (.iload_n 1, 1) := by decide +kernel
theorem dX4_holds_17 : decode cX4_holds 17 = .ok (.iconst 2, 1) := by decide +kernel
theorem dX4_holds_18 : decode cX4_holds 18 = .ok (.if_icmp .ne 14, 3) := by decide +kernel
theorem dX4_holds_21 : decode cX4_holds 21 = .ok (.aload_n 0, 1) := by decide +kernel
theorem dX4_holds_22 : decode cX4_holds 22 = .ok (.iload_n 2, 1) := by decide +kernel
theorem dX4_holds_23 : decode cX4_holds 23 = .ok (.iload_n 3, 1) := by decide +kernel
theorem dX4_holds_24 : decode cX4_holds 24 = .ok (.iload 4, 2) := by decide +kernel
theorem dX4_holds_26 : decode cX4_holds 26 = .ok (.invokevirtual 135, 3) := by decide +kernel
theorem dX4_holds_29 : decode cX4_holds 29 = .ok (.goto 11, 3) := by decide +kernel
theorem dX4_holds_32 : decode cX4_holds 32 = .ok (.aload_n 0, 1) := by decide +kernel
theorem dX4_holds_33 : decode cX4_holds 33 = .ok (.iload_n 2, 1) := by decide +kernel
theorem dX4_holds_34 : decode cX4_holds 34 = .ok (.iload_n 3, 1) := by decide +kernel
theorem dX4_holds_35 : decode cX4_holds 35 = .ok (.iload 4, 2) := by decide +kernel
theorem dX4_holds_37 : decode cX4_holds 37 = .ok (.invokevirtual 144, 3) := by decide +kernel
theorem dX4_holds_40 : decode cX4_holds 40 = .ok (.ireturn, 1) := by decide +kernel
theorem dX4_firstAttack_0 : decode cX4_firstAttack 0 = .ok (.aload_n 0, 1) := by decide +kernel
theorem dX4_firstAttack_1 : decode cX4_firstAttack 1 = .ok (.iload_n 1, 1) := by decide +kernel
theorem dX4_firstAttack_2 : decode cX4_firstAttack 2 = .ok (.iload_n 2, 1) := by decide +kernel
theorem dX4_firstAttack_3 : decode cX4_firstAttack 3 = .ok (.iload_n 3, 1) := by decide +kernel
theorem dX4_firstAttack_4 : decode cX4_firstAttack 4 = .ok (.invokevirtual 156, 3) := by decide +kernel
theorem dX4_firstAttack_7 : decode cX4_firstAttack 7 = .ok (.istore 4, 2) := by decide +kernel
theorem dX4_firstAttack_9 : decode cX4_firstAttack 9 = .ok (.iload 4, 2) := by decide +kernel
theorem dX4_firstAttack_11 : decode cX4_firstAttack 11 = .ok (.ifCond .ge 6, 3) := by decide +kernel
theorem dX4_firstAttack_14 : decode cX4_firstAttack 14 = .ok (.iload 4, 2) := by decide +kernel
theorem dX4_firstAttack_16 : decode cX4_firstAttack 16 = .ok (.ireturn, 1) := by decide +kernel
theorem dX4_firstAttack_17 : decode cX4_firstAttack 17 = .ok (.aload_n 0, 1) := by decide +kernel
theorem dX4_firstAttack_18 : decode cX4_firstAttack 18 = .ok (.iload_n 1, 1) := by decide +kernel
theorem dX4_firstAttack_19 : decode cX4_firstAttack 19 = .ok (.iload_n 2, 1) := by decide +kernel
theorem dX4_firstAttack_20 : decode cX4_firstAttack 20 = .ok (.invokevirtual 159, 3) := by decide +kernel
theorem dX4_firstAttack_23 : decode cX4_firstAttack 23 = .ok (.istore 5, 2) := by decide +kernel
theorem dX4_firstAttack_25 : decode cX4_firstAttack 25 = .ok (.iload 5, 2) := by decide +kernel
theorem dX4_firstAttack_27 : decode cX4_firstAttack 27 = .ok (.ifCond .ne 6, 3) := by decide +kernel
theorem dX4_firstAttack_30 : decode cX4_firstAttack 30 = .ok (.bipush (-4), 2) := by decide +kernel
theorem dX4_firstAttack_32 : decode cX4_firstAttack 32 = .ok (.ireturn, 1) := by decide +kernel
theorem dX4_firstAttack_33 : decode cX4_firstAttack 33 = .ok (.aload_n 0, 1) := by decide +kernel
theorem dX4_firstAttack_34 : decode cX4_firstAttack 34 = .ok (.iload 5, 2) := by decide +kernel
theorem dX4_firstAttack_36 : decode cX4_firstAttack 36 = .ok (.iload_n 1, 1) := by decide +kernel
theorem dX4_firstAttack_37 : decode cX4_firstAttack 37 = .ok (.iload_n 2, 1) := by decide +kernel
theorem dX4_firstAttack_38 : decode cX4_firstAttack 38 = .ok (.invokevirtual 150, 3) := by decide +kernel
theorem dX4_firstAttack_41 : decode cX4_firstAttack 41 = .ok (.iconst 0, 1) := by decide +kernel
theorem dX4_firstAttack_42 : decode cX4_firstAttack 42 = .ok (.istore 6, 2) := by decide +kernel
theorem dX4_firstAttack_44 : decode cX4_firstAttack 44 = .ok (.iload 6, 2) := by decide +kernel
theorem dX4_firstAttack_46 : decode cX4_firstAttack 46 = .ok (.iconst 2, 1) := by decide +kernel
theorem dX4_firstAttack_47 : decode cX4_firstAttack 47 = .ok (.if_icmp .ge 116, 3) := by decide +kernel
theorem dX4_firstAttack_50 : decode cX4_firstAttack 50 = .ok (.iconst 0, 1) := by decide +kernel
theorem dX4_firstAttack_51 : decode cX4_firstAttack 51 = .ok (.istore 7, 2) := by decide +kernel
theorem dX4_firstAttack_53 : decode cX4_firstAttack 53 = .ok (.iload 7, 2) := by decide +kernel
theorem dX4_firstAttack_55 : decode cX4_firstAttack 55 = .ok (.aload_n 0, 1) := by decide +kernel
theorem dX4_firstAttack_56 : decode cX4_firstAttack 56 = .ok (.getfield 41, 3) := by decide +kernel
theorem dX4_firstAttack_59 : decode cX4_firstAttack 59 = .ok (.iconst 2, 1) := by decide +kernel
theorem dX4_firstAttack_60 : decode cX4_firstAttack 60 = .ok (.iload 5, 2) := by decide +kernel
theorem dX4_firstAttack_62 : decode cX4_firstAttack 62 = .ok (.imul, 1) := by decide +kernel
theorem dX4_firstAttack_63 : decode cX4_firstAttack 63 = .ok (.iload 6, 2) := by decide +kernel
theorem dX4_firstAttack_65 : decode cX4_firstAttack 65 = .ok (.iadd, 1) := by decide +kernel
theorem dX4_firstAttack_66 : decode cX4_firstAttack 66 = .ok (.iaload, 1) := by decide +kernel
theorem dX4_firstAttack_67 : decode cX4_firstAttack 67 = .ok (.if_icmp .ge 90, 3) := by decide +kernel
theorem dX4_firstAttack_70 : decode cX4_firstAttack 70 = .ok (.aload_n 0, 1) := by decide +kernel
theorem dX4_firstAttack_71 : decode cX4_firstAttack 71 = .ok (.iload 5, 2) := by decide +kernel
theorem dX4_firstAttack_73 : decode cX4_firstAttack 73 = .ok (.iload 6, 2) := by decide +kernel
theorem dX4_firstAttack_75 : decode cX4_firstAttack 75 = .ok (.iload 7, 2) := by decide +kernel
theorem dX4_firstAttack_77 : decode cX4_firstAttack 77 = .ok (.invokevirtual 110, 3) := by decide +kernel
theorem dX4_firstAttack_80 : decode cX4_firstAttack 80 = .ok (.istore 8, 2) := by decide +kernel
theorem dX4_firstAttack_82 : decode cX4_firstAttack 82 = .ok (.iload 8, 2) := by decide +kernel
theorem dX4_firstAttack_84 : decode cX4_firstAttack 84 = .ok (.aload_n 0, 1) := by decide +kernel
theorem dX4_firstAttack_85 : decode cX4_firstAttack 85 = .ok (.iload 5, 2) := by decide +kernel
theorem dX4_firstAttack_87 : decode cX4_firstAttack 87 = .ok (.iload 6, 2) := by decide +kernel
theorem dX4_firstAttack_89 : decode cX4_firstAttack 89 = .ok (.iload 7, 2) := by decide +kernel
theorem dX4_firstAttack_91 : decode cX4_firstAttack 91 = .ok (.invokevirtual 118, 3) := by decide +kernel
theorem dX4_firstAttack_94 : decode cX4_firstAttack 94 = .ok (.if_icmp .gt 57, 3) := by decide +kernel
theorem dX4_firstAttack_97 : decode cX4_firstAttack 97 = .ok (.aload_n 0, 1) := by decide +kernel
theorem dX4_firstAttack_98 : decode cX4_firstAttack 98 = .ok (.iload 5, 2) := by decide +kernel
theorem dX4_firstAttack_100 : decode cX4_firstAttack 100 = .ok (.iload 6, 2) := by decide +kernel
theorem dX4_firstAttack_102 : decode cX4_firstAttack 102 = .ok (.iload 7, 2) := by decide +kernel
theorem dX4_firstAttack_104 : decode cX4_firstAttack 104 = .ok (.iload 8, 2) := by decide +kernel
theorem dX4_firstAttack_106 : decode cX4_firstAttack 106 = .ok (.invokevirtual 162, 3) := by decide +kernel
theorem dX4_firstAttack_109 : decode cX4_firstAttack 109 = .ok (.ifCond .eq 36, 3) := by decide +kernel
theorem dX4_firstAttack_112 : decode cX4_firstAttack 112 = .ok (.sipush 1000, 3) := by decide +kernel
theorem dX4_firstAttack_115 : decode cX4_firstAttack 115 = .ok (.iload 6, 2) := by decide +kernel
theorem dX4_firstAttack_117 : decode cX4_firstAttack 117 = .ok (.imul, 1) := by decide +kernel
theorem dX4_firstAttack_118 : decode cX4_firstAttack 118 = .ok (.bipush 10, 2) := by decide +kernel
theorem dX4_firstAttack_120 : decode cX4_firstAttack 120 = .ok (.iload 7, 2) := by decide +kernel
theorem dX4_firstAttack_122 : decode cX4_firstAttack 122 = .ok (.imul, 1) := by decide +kernel
theorem dX4_firstAttack_123 : decode cX4_firstAttack 123 = .ok (.iadd, 1) := by decide +kernel
theorem dX4_firstAttack_124 : decode cX4_firstAttack 124 = .ok (.iload_n 3, 1) := by decide +kernel
theorem dX4_firstAttack_125 : decode cX4_firstAttack 125 = .ok (.iconst 1, 1) := by decide +kernel
theorem dX4_firstAttack_126 : decode cX4_firstAttack 126 = .ok (.if_icmp .ne 15, 3) := by decide +kernel
theorem dX4_firstAttack_129 : decode cX4_firstAttack 129 = .ok (.iload 8, 2) := by decide +kernel
theorem dX4_firstAttack_131 : decode cX4_firstAttack 131 = .ok (.bipush 6, 2) := by decide +kernel
theorem dX4_firstAttack_133 : decode cX4_firstAttack 133 = .ok (.if_icmp .ge 8, 3) := by decide +kernel
theorem dX4_firstAttack_136 : decode cX4_firstAttack 136 = .ok (.iload 8, 2) := by decide +kernel
theorem dX4_firstAttack_138 : decode cX4_firstAttack 138 = .ok (.goto 5, 3) := by decide +kernel
theorem dX4_firstAttack_141 : decode cX4_firstAttack 141 = .ok (.bipush 9, 2) := by decide +kernel
theorem dX4_firstAttack_143 : decode cX4_firstAttack 143 = .ok (.iadd, 1) := by decide +kernel
theorem dX4_firstAttack_144 : decode cX4_firstAttack 144 = .ok (.ireturn, 1) := by decide +kernel
theorem dX4_firstAttack_145 : decode cX4_firstAttack 145 = .ok (.iinc 8 1, 3) := by decide +kernel
theorem dX4_firstAttack_148 : decode cX4_firstAttack 148 = .ok (.goto (-66), 3) := by decide +kernel
theorem dX4_firstAttack_151 : decode cX4_firstAttack 151 = .ok (.iinc 7 1, 3) := by decide +kernel
theorem dX4_firstAttack_154 : decode cX4_firstAttack 154 = .ok (.goto (-101), 3) := by decide +kernel
theorem dX4_firstAttack_157 : decode cX4_firstAttack 157 = .ok (.iinc 6 1, 3) := by decide +kernel
theorem dX4_firstAttack_160 : decode cX4_firstAttack 160 = .ok (.goto (-116), 3) := by decide +kernel
theorem dX4_firstAttack_163 : decode cX4_firstAttack 163 = .ok (.bipush (-4), 2) := by decide +kernel
theorem dX4_firstAttack_165 : decode cX4_firstAttack 165 = .ok (.ireturn, 1) := by decide +kernel
theorem dX4_least_0 : decode cX4_least 0 = .ok (.iconst 0, 1) := by decide +kernel
theorem dX4_least_1 : decode cX4_least 1 = .ok (.istore_n 2, 1) := by decide +kernel
theorem dX4_least_2 : decode cX4_least 2 = .ok (.aload_n 0, 1) := by decide +kernel
theorem dX4_least_3 : decode cX4_least 3 = .ok (.getfield 35, 3) := by decide +kernel
theorem dX4_least_6 : decode cX4_least 6 = .ok (.iload_n 2, 1) := by decide +kernel
theorem dX4_least_7 : decode cX4_least 7 = .ok (.iaload, 1) := by decide +kernel
theorem dX4_least_8 : decode cX4_least 8 = .ok (.ifCond .gt 12, 3) := by decide +kernel
theorem dX4_least_11 : decode cX4_least 11 = .ok (.aload_n 0, 1) := by decide +kernel
theorem dX4_least_12 : decode cX4_least 12 = .ok (.iload_n 2, 1) := by decide +kernel
theorem dX4_least_13 : decode cX4_least 13 = .ok (.iload_n 1, 1) := by decide +kernel
theorem dX4_least_14 : decode cX4_least 14 = .ok (.invokevirtual 159, 3) := by decide +kernel
theorem dX4_least_17 : decode cX4_least 17 = .ok (.ifCond .le 9, 3) := by decide +kernel
theorem dX4_least_20 : decode cX4_least 20 = .ok (.iinc 2 1, 3) := by decide +kernel
theorem dX4_least_23 : decode cX4_least 23 = .ok (.goto (-21), 3) := by decide +kernel
theorem dX4_least_26 : decode cX4_least 26 = .ok (.iload_n 2, 1) := by decide +kernel
theorem dX4_least_27 : decode cX4_least 27 = .ok (.ireturn, 1) := by decide +kernel
theorem dX4_representative_0 : decode cX4_representative 0 = .ok (.aload_n 0, 1) := by decide +kernel
theorem dX4_representative_1 : decode cX4_representative 1 = .ok (.iload_n 1, 1) := by decide +kernel
theorem dX4_representative_2 : decode cX4_representative 2 = .ok (.iload_n 1, 1) := by decide +kernel
theorem dX4_representative_3 : decode cX4_representative 3 = .ok (.iload_n 2, 1) := by decide +kernel
theorem dX4_representative_4 : decode cX4_representative 4 = .ok (.invokevirtual 156, 3) := by decide +kernel
theorem dX4_representative_7 : decode cX4_representative 7 = .ok (.istore_n 3, 1) := by decide +kernel
theorem dX4_representative_8 : decode cX4_representative 8 = .ok (.iload_n 3, 1) := by decide +kernel
theorem dX4_representative_9 : decode cX4_representative 9 = .ok (.ifCond .ge 7, 3) := by decide +kernel
theorem dX4_representative_12 : decode cX4_representative 12 = .ok (.iload_n 3, 1) := by decide +kernel
theorem dX4_representative_13 : decode cX4_representative 13 = .ok (.goto 8, 3) := by decide +kernel
theorem dX4_representative_16 : decode cX4_representative 16 = .ok (.aload_n 0, 1) := by decide +kernel
theorem dX4_representative_17 : decode cX4_representative 17 = .ok (.iload_n 1, 1) := by decide +kernel
theorem dX4_representative_18 : decode cX4_representative 18 = .ok (.invokevirtual 165, 3) := by decide +kernel
theorem dX4_representative_21 : decode cX4_representative 21 = .ok (.ireturn, 1) := by decide +kernel
theorem dX4_classCount_0 : decode cX4_classCount 0 = .ok (.iload_n 1, 1) := by decide +kernel
theorem dX4_classCount_1 : decode cX4_classCount 1 = .ok (.iconst 0, 1) := by decide +kernel
theorem dX4_classCount_2 : decode cX4_classCount 2 = .ok (.iconst 2, 1) := by decide +kernel
theorem dX4_classCount_3 : decode cX4_classCount 3 = .ok (.invokestatic 65, 3) := by decide +kernel
theorem dX4_classCount_6 : decode cX4_classCount 6 = .ok (.ifCond .ne 5, 3) := by decide +kernel
theorem dX4_classCount_9 : decode cX4_classCount 9 = .ok (.iconst (-1), 1) := by decide +kernel
theorem dX4_classCount_10 : decode cX4_classCount 10 = .ok (.ireturn, 1) := by decide +kernel
theorem dX4_classCount_11 : decode cX4_classCount 11 = .ok (.aload_n 0, 1) := by decide +kernel
theorem dX4_classCount_12 : decode cX4_classCount 12 = .ok (.iload_n 1, 1) := by decide +kernel
theorem dX4_classCount_13 : decode cX4_classCount 13 = .ok (.putfield 107, 3) := by decide +kernel
theorem dX4_classCount_16 : decode cX4_classCount 16 = .ok (.iconst 0, 1) := by decide +kernel
theorem dX4_classCount_17 : decode cX4_classCount 17 = .ok (.istore_n 2, 1) := by decide +kernel
theorem dX4_classCount_18 : decode cX4_classCount 18 = .ok (.iconst 0, 1) := by decide +kernel
theorem dX4_classCount_19 : decode cX4_classCount 19 = .ok (.istore_n 3, 1) := by decide +kernel
theorem dX4_classCount_20 : decode cX4_classCount 20 = .ok (.iload_n 3, 1) := by decide +kernel
theorem dX4_classCount_21 : decode cX4_classCount 21 = .ok (.aload_n 0, 1) := by decide +kernel
theorem dX4_classCount_22 : decode cX4_classCount 22 = .ok (.getfield 7, 3) := by decide +kernel
theorem dX4_classCount_25 : decode cX4_classCount 25 = .ok (.if_icmp .ge 35, 3) := by decide +kernel
theorem dX4_classCount_28 : decode cX4_classCount 28 = .ok (.iload_n 2, 1) := by decide +kernel
theorem dX4_classCount_29 : decode cX4_classCount 29 = .ok (.aload_n 0, 1) := by decide +kernel
theorem dX4_classCount_30 : decode cX4_classCount 30 = .ok (.getfield 35, 3) := by decide +kernel
theorem dX4_classCount_33 : decode cX4_classCount 33 = .ok (.iload_n 3, 1) := by decide +kernel
theorem dX4_classCount_34 : decode cX4_classCount 34 = .ok (.iaload, 1) := by decide +kernel
theorem dX4_classCount_35 : decode cX4_classCount 35 = .ok (.ifCond .ne 16, 3) := by decide +kernel
theorem dX4_classCount_38 : decode cX4_classCount 38 = .ok (.aload_n 0, 1) := by decide +kernel
theorem dX4_classCount_39 : decode cX4_classCount 39 = .ok (.iload_n 3, 1) := by decide +kernel
theorem dX4_classCount_40 : decode cX4_classCount 40 = .ok (.invokevirtual 165, 3) := by decide +kernel
theorem dX4_classCount_43 : decode cX4_classCount 43 = .ok (.iload_n 3, 1) := by decide +kernel
theorem dX4_classCount_44 : decode cX4_classCount 44 = .ok (.if_icmp .ne 7, 3) := by decide +kernel
theorem dX4_classCount_47 : decode cX4_classCount 47 = .ok (.iconst 1, 1) := by decide +kernel
theorem dX4_classCount_48 : decode cX4_classCount 48 = .ok (.goto 4, 3) := by decide +kernel
theorem dX4_classCount_51 : decode cX4_classCount 51 = .ok (.iconst 0, 1) := by decide +kernel
theorem dX4_classCount_52 : decode cX4_classCount 52 = .ok (.iadd, 1) := by decide +kernel
theorem dX4_classCount_53 : decode cX4_classCount 53 = .ok (.istore_n 2, 1) := by decide +kernel
theorem dX4_classCount_54 : decode cX4_classCount 54 = .ok (.iinc 3 1, 3) := by decide +kernel
theorem dX4_classCount_57 : decode cX4_classCount 57 = .ok (.goto (-37), 3) := by decide +kernel
theorem dX4_classCount_60 : decode cX4_classCount 60 = .ok (.iload_n 2, 1) := by decide +kernel
theorem dX4_classCount_61 : decode cX4_classCount 61 = .ok (.ireturn, 1) := by decide +kernel
