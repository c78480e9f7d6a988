theorem dL_cell_0 : decode cL_cell 0 = .ok (.iload_n 1, 1) := by decide +kernel
theorem dL_cell_1 : decode cL_cell 1 = .ok (.aload_n 0, 1) := by decide +kernel
theorem dL_cell_2 : decode cL_cell 2 = .ok (.arraylength, 1) := by decide +kernel
theorem dL_cell_3 : decode cL_cell 3 = .ok (.if_icmp .ge 9, 3) := by decide +kernel
theorem dL_cell_6 : decode cL_cell 6 = .ok (.aload_n 0, 1) := by decide +kernel
theorem dL_cell_7 : decode cL_cell 7 = .ok (.iload_n 1, 1) := by decide +kernel
theorem dL_cell_8 : decode cL_cell 8 = .ok (.iaload, 1) := by decide +kernel
theorem dL_cell_9 : decode cL_cell 9 = .ok (.goto 10, 3) := by decide +kernel
theorem dL_cell_12 : decode cL_cell 12 = .ok (.ldc 7, 2) := by decide +kernel
theorem dL_cell_14 : decode cL_cell 14 = .ok (.iload_n 1, 1) := by decide +kernel
theorem dL_cell_15 : decode cL_cell 15 = .ok (.imul, 1) := by decide +kernel
theorem dL_cell_16 : decode cL_cell 16 = .ok (.bipush 109, 2) := by decide +kernel
theorem dL_cell_18 : decode cL_cell 18 = .ok (.iadd, 1) := by decide +kernel
theorem dL_cell_19 : decode cL_cell 19 = .ok (.ldc 8, 2) := by decide +kernel
theorem dL_cell_21 : decode cL_cell 21 = .ok (.iand, 1) := by decide +kernel
theorem dL_cell_22 : decode cL_cell 22 = .ok (.ireturn, 1) := by decide +kernel
theorem dL_process_0 : decode cL_process 0 = .ok (.iload_n 0, 1) := by decide +kernel
theorem dL_process_1 : decode cL_process 1 = .ok (.bipush 20, 2) := by decide +kernel
theorem dL_process_3 : decode cL_process 3 = .ok (.ishl, 1) := by decide +kernel
theorem dL_process_4 : decode cL_process 4 = .ok (.iload_n 1, 1) := by decide +kernel
theorem dL_process_5 : decode cL_process 5 = .ok (.bipush 15, 2) := by decide +kernel
theorem dL_process_7 : decode cL_process 7 = .ok (.ishl, 1) := by decide +kernel
theorem dL_process_8 : decode cL_process 8 = .ok (.ior, 1) := by decide +kernel
theorem dL_process_9 : decode cL_process 9 = .ok (.iload_n 2, 1) := by decide +kernel
theorem dL_process_10 : decode cL_process 10 = .ok (.bipush 10, 2) := by decide +kernel
theorem dL_process_12 : decode cL_process 12 = .ok (.ishl, 1) := by decide +kernel
theorem dL_process_13 : decode cL_process 13 = .ok (.ior, 1) := by decide +kernel
theorem dL_process_14 : decode cL_process 14 = .ok (.iload_n 3, 1) := by decide +kernel
theorem dL_process_15 : decode cL_process 15 = .ok (.iconst 5, 1) := by decide +kernel
theorem dL_process_16 : decode cL_process 16 = .ok (.ishl, 1) := by decide +kernel
theorem dL_process_17 : decode cL_process 17 = .ok (.ior, 1) := by decide +kernel
theorem dL_process_18 : decode cL_process 18 = .ok (.iload 4, 2) := by decide +kernel
theorem dL_process_20 : decode cL_process 20 = .ok (.ior, 1) := by decide +kernel
theorem dL_process_21 : decode cL_process 21 = .ok (.ireturn, 1) := by decide +kernel
theorem dL_most_0 : decode cL_most 0 = .ok (.iload_n 0, 1) := by decide +kernel
theorem dL_most_1 : decode cL_most 1 = .ok (.iload_n 1, 1) := by decide +kernel
theorem dL_most_2 : decode cL_most 2 = .ok (.if_icmp .le 7, 3) := by decide +kernel
theorem dL_most_5 : decode cL_most 5 = .ok (.iload_n 0, 1) := by decide +kernel
theorem dL_most_6 : decode cL_most 6 = .ok (.goto 4, 3) := by decide +kernel
theorem dL_most_9 : decode cL_most 9 = .ok (.iload_n 1, 1) := by decide +kernel
theorem dL_most_10 : decode cL_most 10 = .ok (.ireturn, 1) := by decide +kernel
theorem dL_named_0 : decode cL_named 0 = .ok (.iload_n 0, 1) := by decide +kernel
theorem dL_named_1 : decode cL_named 1 = .ok (.iconst 2, 1) := by decide +kernel
theorem dL_named_2 : decode cL_named 2 = .ok (.if_icmp .le 9, 3) := by decide +kernel
theorem dL_named_5 : decode cL_named 5 = .ok (.iload_n 0, 1) := by decide +kernel
theorem dL_named_6 : decode cL_named 6 = .ok (.iconst 2, 1) := by decide +kernel
theorem dL_named_7 : decode cL_named 7 = .ok (.isub, 1) := by decide +kernel
theorem dL_named_8 : decode cL_named 8 = .ok (.goto 4, 3) := by decide +kernel
theorem dL_named_11 : decode cL_named 11 = .ok (.iconst 0, 1) := by decide +kernel
theorem dL_named_12 : decode cL_named 12 = .ok (.ireturn, 1) := by decide +kernel
theorem dL_sizes_0 : decode cL_sizes 0 = .ok (.aload_n 0, 1) := by decide +kernel
theorem dL_sizes_1 : decode cL_sizes 1 = .ok (.iload 4, 2) := by decide +kernel
theorem dL_sizes_3 : decode cL_sizes 3 = .ok (.iaload, 1) := by decide +kernel
theorem dL_sizes_4 : decode cL_sizes 4 = .ok (.bipush 64, 2) := by decide +kernel
theorem dL_sizes_6 : decode cL_sizes 6 = .ok (.idiv, 1) := by decide +kernel
theorem dL_sizes_7 : decode cL_sizes 7 = .ok (.istore 6, 2) := by decide +kernel
theorem dL_sizes_9 : decode cL_sizes 9 = .ok (.aload_n 0, 1) := by decide +kernel
theorem dL_sizes_10 : decode cL_sizes 10 = .ok (.iload 4, 2) := by decide +kernel
theorem dL_sizes_12 : decode cL_sizes 12 = .ok (.iaload, 1) := by decide +kernel
theorem dL_sizes_13 : decode cL_sizes 13 = .ok (.bipush 8, 2) := by decide +kernel
theorem dL_sizes_15 : decode cL_sizes 15 = .ok (.idiv, 1) := by decide +kernel
theorem dL_sizes_16 : decode cL_sizes 16 = .ok (.bipush 8, 2) := by decide +kernel
theorem dL_sizes_18 : decode cL_sizes 18 = .ok (.irem, 1) := by decide +kernel
theorem dL_sizes_19 : decode cL_sizes 19 = .ok (.istore 7, 2) := by decide +kernel
theorem dL_sizes_21 : decode cL_sizes 21 = .ok (.aload_n 0, 1) := by decide +kernel
theorem dL_sizes_22 : decode cL_sizes 22 = .ok (.iload 4, 2) := by decide +kernel
theorem dL_sizes_24 : decode cL_sizes 24 = .ok (.iaload, 1) := by decide +kernel
theorem dL_sizes_25 : decode cL_sizes 25 = .ok (.bipush 8, 2) := by decide +kernel
theorem dL_sizes_27 : decode cL_sizes 27 = .ok (.irem, 1) := by decide +kernel
theorem dL_sizes_28 : decode cL_sizes 28 = .ok (.istore 8, 2) := by decide +kernel
theorem dL_sizes_30 : decode cL_sizes 30 = .ok (.iload_n 1, 1) := by decide +kernel
theorem dL_sizes_31 : decode cL_sizes 31 = .ok (.iconst 5, 1) := by decide +kernel
theorem dL_sizes_32 : decode cL_sizes 32 = .ok (.if_icmp .ne 49, 3) := by decide +kernel
theorem dL_sizes_35 : decode cL_sizes 35 = .ok (.bipush 64, 2) := by decide +kernel
theorem dL_sizes_37 : decode cL_sizes 37 = .ok (.iload 6, 2) := by decide +kernel
theorem dL_sizes_39 : decode cL_sizes 39 = .ok (.aload_n 0, 1) := by decide +kernel
theorem dL_sizes_40 : decode cL_sizes 40 = .ok (.iload 5, 2) := by decide +kernel
theorem dL_sizes_42 : decode cL_sizes 42 = .ok (.iaload, 1) := by decide +kernel
theorem dL_sizes_43 : decode cL_sizes 43 = .ok (.bipush 64, 2) := by decide +kernel
theorem dL_sizes_45 : decode cL_sizes 45 = .ok (.idiv, 1) := by decide +kernel
theorem dL_sizes_46 : decode cL_sizes 46 = .ok (.invokestatic 9, 3) := by decide +kernel
theorem dL_sizes_49 : decode cL_sizes 49 = .ok (.imul, 1) := by decide +kernel
theorem dL_sizes_50 : decode cL_sizes 50 = .ok (.bipush 8, 2) := by decide +kernel
theorem dL_sizes_52 : decode cL_sizes 52 = .ok (.iload 7, 2) := by decide +kernel
theorem dL_sizes_54 : decode cL_sizes 54 = .ok (.aload_n 0, 1) := by decide +kernel
theorem dL_sizes_55 : decode cL_sizes 55 = .ok (.iload 5, 2) := by decide +kernel
theorem dL_sizes_57 : decode cL_sizes 57 = .ok (.iaload, 1) := by decide +kernel
theorem dL_sizes_58 : decode cL_sizes 58 = .ok (.bipush 8, 2) := by decide +kernel
theorem dL_sizes_60 : decode cL_sizes 60 = .ok (.idiv, 1) := by decide +kernel
theorem dL_sizes_61 : decode cL_sizes 61 = .ok (.bipush 8, 2) := by decide +kernel
theorem dL_sizes_63 : decode cL_sizes 63 = .ok (.irem, 1) := by decide +kernel
theorem dL_sizes_64 : decode cL_sizes 64 = .ok (.iadd, 1) := by decide +kernel
theorem dL_sizes_65 : decode cL_sizes 65 = .ok (.imul, 1) := by decide +kernel
theorem dL_sizes_66 : decode cL_sizes 66 = .ok (.iadd, 1) := by decide +kernel
theorem dL_sizes_67 : decode cL_sizes 67 = .ok (.iload 8, 2) := by decide +kernel
theorem dL_sizes_69 : decode cL_sizes 69 = .ok (.aload_n 0, 1) := by decide +kernel
theorem dL_sizes_70 : decode cL_sizes 70 = .ok (.iload 5, 2) := by decide +kernel
theorem dL_sizes_72 : decode cL_sizes 72 = .ok (.iaload, 1) := by decide +kernel
theorem dL_sizes_73 : decode cL_sizes 73 = .ok (.bipush 8, 2) := by decide +kernel
theorem dL_sizes_75 : decode cL_sizes 75 = .ok (.irem, 1) := by decide +kernel
theorem dL_sizes_76 : decode cL_sizes 76 = .ok (.invokestatic 9, 3) := by decide +kernel
theorem dL_sizes_79 : decode cL_sizes 79 = .ok (.iadd, 1) := by decide +kernel
theorem dL_sizes_80 : decode cL_sizes 80 = .ok (.ireturn, 1) := by decide +kernel
theorem dL_sizes_81 : decode cL_sizes 81 = .ok (.iload_n 1, 1) := by decide +kernel
theorem dL_sizes_82 : decode cL_sizes 82 = .ok (.iconst 4, 1) := by decide +kernel
theorem dL_sizes_83 : decode cL_sizes 83 = .ok (.if_icmp .ne 32, 3) := by decide +kernel
theorem dL_sizes_86 : decode cL_sizes 86 = .ok (.bipush 64, 2) := by decide +kernel
theorem dL_sizes_88 : decode cL_sizes 88 = .ok (.iload 6, 2) := by decide +kernel
theorem dL_sizes_90 : decode cL_sizes 90 = .ok (.imul, 1) := by decide +kernel
theorem dL_sizes_91 : decode cL_sizes 91 = .ok (.bipush 8, 2) := by decide +kernel
theorem dL_sizes_93 : decode cL_sizes 93 = .ok (.iload 7, 2) := by decide +kernel
theorem dL_sizes_95 : decode cL_sizes 95 = .ok (.imul, 1) := by decide +kernel
theorem dL_sizes_96 : decode cL_sizes 96 = .ok (.iadd, 1) := by decide +kernel
theorem dL_sizes_97 : decode cL_sizes 97 = .ok (.iload 8, 2) := by decide +kernel
theorem dL_sizes_99 : decode cL_sizes 99 = .ok (.iload_n 2, 1) := by decide +kernel
theorem dL_sizes_100 : decode cL_sizes 100 = .ok (.invokestatic 15, 3) := by decide +kernel
theorem dL_sizes_103 : decode cL_sizes 103 = .ok (.iload_n 3, 1) := by decide +kernel
theorem dL_sizes_104 : decode cL_sizes 104 = .ok (.invokestatic 15, 3) := by decide +kernel
theorem dL_sizes_107 : decode cL_sizes 107 = .ok (.invokestatic 9, 3) := by decide +kernel
theorem dL_sizes_110 : decode cL_sizes 110 = .ok (.invokestatic 9, 3) := by decide +kernel
theorem dL_sizes_113 : decode cL_sizes 113 = .ok (.iadd, 1) := by decide +kernel
theorem dL_sizes_114 : decode cL_sizes 114 = .ok (.ireturn, 1) := by decide +kernel
theorem dL_sizes_115 : decode cL_sizes 115 = .ok (.iload_n 1, 1) := by decide +kernel
theorem dL_sizes_116 : decode cL_sizes 116 = .ok (.iconst 3, 1) := by decide +kernel
theorem dL_sizes_117 : decode cL_sizes 117 = .ok (.if_icmp .ne 15, 3) := by decide +kernel
theorem dL_sizes_120 : decode cL_sizes 120 = .ok (.iload 8, 2) := by decide +kernel
theorem dL_sizes_122 : decode cL_sizes 122 = .ok (.ifCond .le 10, 3) := by decide +kernel
theorem dL_sizes_125 : decode cL_sizes 125 = .ok (.iload 8, 2) := by decide +kernel
theorem dL_sizes_127 : decode cL_sizes 127 = .ok (.iconst 1, 1) := by decide +kernel
theorem dL_sizes_128 : decode cL_sizes 128 = .ok (.isub, 1) := by decide +kernel
theorem dL_sizes_129 : decode cL_sizes 129 = .ok (.goto 5, 3) := by decide +kernel
theorem dL_sizes_132 : decode cL_sizes 132 = .ok (.iload 8, 2) := by decide +kernel
theorem dL_sizes_134 : decode cL_sizes 134 = .ok (.istore 9, 2) := by decide +kernel
theorem dL_sizes_136 : decode cL_sizes 136 = .ok (.bipush 64, 2) := by decide +kernel
theorem dL_sizes_138 : decode cL_sizes 138 = .ok (.iload 6, 2) := by decide +kernel
theorem dL_sizes_140 : decode cL_sizes 140 = .ok (.iconst 1, 1) := by decide +kernel
theorem dL_sizes_141 : decode cL_sizes 141 = .ok (.iadd, 1) := by decide +kernel
theorem dL_sizes_142 : decode cL_sizes 142 = .ok (.imul, 1) := by decide +kernel
theorem dL_sizes_143 : decode cL_sizes 143 = .ok (.bipush 8, 2) := by decide +kernel
theorem dL_sizes_145 : decode cL_sizes 145 = .ok (.iadd, 1) := by decide +kernel
theorem dL_sizes_146 : decode cL_sizes 146 = .ok (.iload_n 1, 1) := by decide +kernel
theorem dL_sizes_147 : decode cL_sizes 147 = .ok (.iconst 1, 1) := by decide +kernel
theorem dL_sizes_148 : decode cL_sizes 148 = .ok (.if_icmp .ne 8, 3) := by decide +kernel
theorem dL_sizes_151 : decode cL_sizes 151 = .ok (.iload 9, 2) := by decide +kernel
theorem dL_sizes_153 : decode cL_sizes 153 = .ok (.goto 31, 3) := by decide +kernel
theorem dL_sizes_156 : decode cL_sizes 156 = .ok (.iload 9, 2) := by decide +kernel
theorem dL_sizes_158 : decode cL_sizes 158 = .ok (.iload_n 1, 1) := by decide +kernel
theorem dL_sizes_159 : decode cL_sizes 159 = .ok (.iconst 2, 1) := by decide +kernel
theorem dL_sizes_160 : decode cL_sizes 160 = .ok (.if_icmp .ne 17, 3) := by decide +kernel
theorem dL_sizes_163 : decode cL_sizes 163 = .ok (.iload_n 2, 1) := by decide +kernel
theorem dL_sizes_164 : decode cL_sizes 164 = .ok (.invokestatic 15, 3) := by decide +kernel
theorem dL_sizes_167 : decode cL_sizes 167 = .ok (.iload_n 3, 1) := by decide +kernel
theorem dL_sizes_168 : decode cL_sizes 168 = .ok (.invokestatic 15, 3) := by decide +kernel
theorem dL_sizes_171 : decode cL_sizes 171 = .ok (.invokestatic 9, 3) := by decide +kernel
theorem dL_sizes_174 : decode cL_sizes 174 = .ok (.goto 7, 3) := by decide +kernel
theorem dL_sizes_177 : decode cL_sizes 177 = .ok (.iload_n 2, 1) := by decide +kernel
theorem dL_sizes_178 : decode cL_sizes 178 = .ok (.invokestatic 15, 3) := by decide +kernel
theorem dL_sizes_181 : decode cL_sizes 181 = .ok (.invokestatic 9, 3) := by decide +kernel
theorem dL_sizes_184 : decode cL_sizes 184 = .ok (.iadd, 1) := by decide +kernel
theorem dL_sizes_185 : decode cL_sizes 185 = .ok (.ireturn, 1) := by decide +kernel
theorem dL_builds_0 : decode cL_builds 0 = .ok (.iload_n 1, 1) := by decide +kernel
theorem dL_builds_1 : decode cL_builds 1 = .ok (.tableswitch 64 1 4 #[31, 38, 47, 55], 31) := by decide +kernel
theorem dL_builds_32 : decode cL_builds 32 = .ok (.aload_n 0, 1) := by decide +kernel
theorem dL_builds_33 : decode cL_builds 33 = .ok (.iload 4, 2) := by decide +kernel
theorem dL_builds_35 : decode cL_builds 35 = .ok (.invokevirtual 19, 3) := by decide +kernel
theorem dL_builds_38 : decode cL_builds 38 = .ok (.ireturn, 1) := by decide +kernel
theorem dL_builds_39 : decode cL_builds 39 = .ok (.aload_n 0, 1) := by decide +kernel
theorem dL_builds_40 : decode cL_builds 40 = .ok (.iload_n 2, 1) := by decide +kernel
theorem dL_builds_41 : decode cL_builds 41 = .ok (.iload_n 3, 1) := by decide +kernel
theorem dL_builds_42 : decode cL_builds 42 = .ok (.iload 4, 2) := by decide +kernel
theorem dL_builds_44 : decode cL_builds 44 = .ok (.invokevirtual 24, 3) := by decide +kernel
theorem dL_builds_47 : decode cL_builds 47 = .ok (.ireturn, 1) := by decide +kernel
theorem dL_builds_48 : decode cL_builds 48 = .ok (.aload_n 0, 1) := by decide +kernel
theorem dL_builds_49 : decode cL_builds 49 = .ok (.iload_n 2, 1) := by decide +kernel
theorem dL_builds_50 : decode cL_builds 50 = .ok (.iload 4, 2) := by decide +kernel
theorem dL_builds_52 : decode cL_builds 52 = .ok (.invokevirtual 28, 3) := by decide +kernel
theorem dL_builds_55 : decode cL_builds 55 = .ok (.ireturn, 1) := by decide +kernel
theorem dL_builds_56 : decode cL_builds 56 = .ok (.aload_n 0, 1) := by decide +kernel
theorem dL_builds_57 : decode cL_builds 57 = .ok (.iload_n 2, 1) := by decide +kernel
theorem dL_builds_58 : decode cL_builds 58 = .ok (.iload_n 3, 1) := by decide +kernel
theorem dL_builds_59 : decode cL_builds 59 = .ok (.iload 4, 2) := by decide +kernel
theorem dL_builds_61 : decode cL_builds 61 = .ok (.invokevirtual 31, 3) := by decide +kernel
theorem dL_builds_64 : decode cL_builds 64 = .ok (.ireturn, 1) := by decide +kernel
theorem dL_builds_65 : decode cL_builds 65 = .ok (.aload_n 0, 1) := by decide +kernel
theorem dL_builds_66 : decode cL_builds 66 = .ok (.iload 4, 2) := by decide +kernel
theorem dL_builds_68 : decode cL_builds 68 = .ok (.iload 5, 2) := by decide +kernel
theorem dL_builds_70 : decode cL_builds 70 = .ok (.invokevirtual 34, 3) := by decide +kernel
theorem dL_builds_73 : decode cL_builds 73 = .ok (.ireturn, 1) := by decide +kernel
theorem dL_adds_0 : decode cL_adds 0 = .ok (.iconst 1, 1) := by decide +kernel
theorem dL_adds_1 : decode cL_adds 1 = .ok (.iload_n 1, 1) := by decide +kernel
theorem dL_adds_2 : decode cL_adds 2 = .ok (.iconst 5, 1) := by decide +kernel
theorem dL_adds_3 : decode cL_adds 3 = .ok (.irem, 1) := by decide +kernel
theorem dL_adds_4 : decode cL_adds 4 = .ok (.iadd, 1) := by decide +kernel
theorem dL_adds_5 : decode cL_adds 5 = .ok (.istore 5, 2) := by decide +kernel
theorem dL_adds_7 : decode cL_adds 7 = .ok (.iload_n 1, 1) := by decide +kernel
theorem dL_adds_8 : decode cL_adds 8 = .ok (.iconst 3, 1) := by decide +kernel
theorem dL_adds_9 : decode cL_adds 9 = .ok (.ishr, 1) := by decide +kernel
theorem dL_adds_10 : decode cL_adds 10 = .ok (.iconst 5, 1) := by decide +kernel
theorem dL_adds_11 : decode cL_adds 11 = .ok (.irem, 1) := by decide +kernel
theorem dL_adds_12 : decode cL_adds 12 = .ok (.istore 6, 2) := by decide +kernel
theorem dL_adds_14 : decode cL_adds 14 = .ok (.iload_n 1, 1) := by decide +kernel
theorem dL_adds_15 : decode cL_adds 15 = .ok (.bipush 6, 2) := by decide +kernel
theorem dL_adds_17 : decode cL_adds 17 = .ok (.ishr, 1) := by decide +kernel
theorem dL_adds_18 : decode cL_adds 18 = .ok (.iconst 5, 1) := by decide +kernel
theorem dL_adds_19 : decode cL_adds 19 = .ok (.irem, 1) := by decide +kernel
theorem dL_adds_20 : decode cL_adds 20 = .ok (.istore 7, 2) := by decide +kernel
theorem dL_adds_22 : decode cL_adds 22 = .ok (.iload_n 2, 1) := by decide +kernel
theorem dL_adds_23 : decode cL_adds 23 = .ok (.iconst 1, 1) := by decide +kernel
theorem dL_adds_24 : decode cL_adds 24 = .ok (.isub, 1) := by decide +kernel
theorem dL_adds_25 : decode cL_adds 25 = .ok (.iload_n 1, 1) := by decide +kernel
theorem dL_adds_26 : decode cL_adds 26 = .ok (.bipush 9, 2) := by decide +kernel
theorem dL_adds_28 : decode cL_adds 28 = .ok (.ishr, 1) := by decide +kernel
theorem dL_adds_29 : decode cL_adds 29 = .ok (.iload_n 2, 1) := by decide +kernel
theorem dL_adds_30 : decode cL_adds 30 = .ok (.iconst 4, 1) := by decide +kernel
theorem dL_adds_31 : decode cL_adds 31 = .ok (.if_icmp .ge 7, 3) := by decide +kernel
theorem dL_adds_34 : decode cL_adds 34 = .ok (.iload_n 2, 1) := by decide +kernel
theorem dL_adds_35 : decode cL_adds 35 = .ok (.goto 4, 3) := by decide +kernel
theorem dL_adds_38 : decode cL_adds 38 = .ok (.iconst 4, 1) := by decide +kernel
theorem dL_adds_39 : decode cL_adds 39 = .ok (.irem, 1) := by decide +kernel
theorem dL_adds_40 : decode cL_adds 40 = .ok (.isub, 1) := by decide +kernel
theorem dL_adds_41 : decode cL_adds 41 = .ok (.istore 8, 2) := by decide +kernel
theorem dL_adds_43 : decode cL_adds 43 = .ok (.iload_n 1, 1) := by decide +kernel
theorem dL_adds_44 : decode cL_adds 44 = .ok (.bipush 12, 2) := by decide +kernel
theorem dL_adds_46 : decode cL_adds 46 = .ok (.ishr, 1) := by decide +kernel
theorem dL_adds_47 : decode cL_adds 47 = .ok (.iload_n 2, 1) := by decide +kernel
theorem dL_adds_48 : decode cL_adds 48 = .ok (.irem, 1) := by decide +kernel
theorem dL_adds_49 : decode cL_adds 49 = .ok (.istore 9, 2) := by decide +kernel
theorem dL_adds_51 : decode cL_adds 51 = .ok (.iload 5, 2) := by decide +kernel
theorem dL_adds_53 : decode cL_adds 53 = .ok (.iconst 1, 1) := by decide +kernel
theorem dL_adds_54 : decode cL_adds 54 = .ok (.if_icmp .eq 9, 3) := by decide +kernel
theorem dL_adds_57 : decode cL_adds 57 = .ok (.iload 5, 2) := by decide +kernel
theorem dL_adds_59 : decode cL_adds 59 = .ok (.iconst 5, 1) := by decide +kernel
theorem dL_adds_60 : decode cL_adds 60 = .ok (.if_icmp .ne 6, 3) := by decide +kernel
theorem dL_adds_63 : decode cL_adds 63 = .ok (.iconst 0, 1) := by decide +kernel
theorem dL_adds_64 : decode cL_adds 64 = .ok (.istore 6, 2) := by decide +kernel
theorem dL_adds_66 : decode cL_adds 66 = .ok (.iload 5, 2) := by decide +kernel
theorem dL_adds_68 : decode cL_adds 68 = .ok (.iconst 1, 1) := by decide +kernel
theorem dL_adds_69 : decode cL_adds 69 = .ok (.if_icmp .eq 15, 3) := by decide +kernel
theorem dL_adds_72 : decode cL_adds 72 = .ok (.iload 5, 2) := by decide +kernel
theorem dL_adds_74 : decode cL_adds 74 = .ok (.iconst 3, 1) := by decide +kernel
theorem dL_adds_75 : decode cL_adds 75 = .ok (.if_icmp .eq 9, 3) := by decide +kernel
theorem dL_adds_78 : decode cL_adds 78 = .ok (.iload 5, 2) := by decide +kernel
theorem dL_adds_80 : decode cL_adds 80 = .ok (.iconst 5, 1) := by decide +kernel
theorem dL_adds_81 : decode cL_adds 81 = .ok (.if_icmp .ne 6, 3) := by decide +kernel
theorem dL_adds_84 : decode cL_adds 84 = .ok (.iconst 0, 1) := by decide +kernel
theorem dL_adds_85 : decode cL_adds 85 = .ok (.istore 7, 2) := by decide +kernel
theorem dL_adds_87 : decode cL_adds 87 = .ok (.aload 4, 2) := by decide +kernel
theorem dL_adds_89 : decode cL_adds 89 = .ok (.iload 5, 2) := by decide +kernel
theorem dL_adds_91 : decode cL_adds 91 = .ok (.iload 6, 2) := by decide +kernel
theorem dL_adds_93 : decode cL_adds 93 = .ok (.iload 7, 2) := by decide +kernel
theorem dL_adds_95 : decode cL_adds 95 = .ok (.iload 8, 2) := by decide +kernel
theorem dL_adds_97 : decode cL_adds 97 = .ok (.iload 9, 2) := by decide +kernel
theorem dL_adds_99 : decode cL_adds 99 = .ok (.invokestatic 37, 3) := by decide +kernel
theorem dL_adds_102 : decode cL_adds 102 = .ok (.istore 10, 2) := by decide +kernel
theorem dL_adds_104 : decode cL_adds 104 = .ok (.aload_n 0, 1) := by decide +kernel
theorem dL_adds_105 : decode cL_adds 105 = .ok (.iload 5, 2) := by decide +kernel
theorem dL_adds_107 : decode cL_adds 107 = .ok (.iload 6, 2) := by decide +kernel
theorem dL_adds_109 : decode cL_adds 109 = .ok (.iload 7, 2) := by decide +kernel
theorem dL_adds_111 : decode cL_adds 111 = .ok (.iload 8, 2) := by decide +kernel
theorem dL_adds_113 : decode cL_adds 113 = .ok (.iload 9, 2) := by decide +kernel
theorem dL_adds_115 : decode cL_adds 115 = .ok (.invokestatic 41, 3) := by decide +kernel
theorem dL_adds_118 : decode cL_adds 118 = .ok (.istore 11, 2) := by decide +kernel
theorem dL_adds_120 : decode cL_adds 120 = .ok (.iload_n 2, 1) := by decide +kernel
theorem dL_adds_121 : decode cL_adds 121 = .ok (.bipush 24, 2) := by decide +kernel
theorem dL_adds_123 : decode cL_adds 123 = .ok (.if_icmp .eq 24, 3) := by decide +kernel
theorem dL_adds_126 : decode cL_adds 126 = .ok (.iload 10, 2) := by decide +kernel
theorem dL_adds_128 : decode cL_adds 128 = .ok (.bipush 64, 2) := by decide +kernel
theorem dL_adds_130 : decode cL_adds 130 = .ok (.idiv, 1) := by decide +kernel
theorem dL_adds_131 : decode cL_adds 131 = .ok (.iconst 3, 1) := by decide +kernel
theorem dL_adds_132 : decode cL_adds 132 = .ok (.if_icmp .gt 15, 3) := by decide +kernel
theorem dL_adds_135 : decode cL_adds 135 = .ok (.iload 10, 2) := by decide +kernel
theorem dL_adds_137 : decode cL_adds 137 = .ok (.bipush 8, 2) := by decide +kernel
theorem dL_adds_139 : decode cL_adds 139 = .ok (.idiv, 1) := by decide +kernel
theorem dL_adds_140 : decode cL_adds 140 = .ok (.bipush 8, 2) := by decide +kernel
theorem dL_adds_142 : decode cL_adds 142 = .ok (.irem, 1) := by decide +kernel
theorem dL_adds_143 : decode cL_adds 143 = .ok (.iconst 3, 1) := by decide +kernel
theorem dL_adds_144 : decode cL_adds 144 = .ok (.if_icmp .le 16, 3) := by decide +kernel
theorem dL_adds_147 : decode cL_adds 147 = .ok (.iload 11, 2) := by decide +kernel
theorem dL_adds_149 : decode cL_adds 149 = .ok (.bipush (-3), 2) := by decide +kernel
theorem dL_adds_151 : decode cL_adds 151 = .ok (.if_icmp .ne 7, 3) := by decide +kernel
theorem dL_adds_154 : decode cL_adds 154 = .ok (.iload_n 2, 1) := by decide +kernel
theorem dL_adds_155 : decode cL_adds 155 = .ok (.goto 4, 3) := by decide +kernel
theorem dL_adds_158 : decode cL_adds 158 = .ok (.iconst (-1), 1) := by decide +kernel
theorem dL_adds_159 : decode cL_adds 159 = .ok (.ireturn, 1) := by decide +kernel
theorem dL_adds_160 : decode cL_adds 160 = .ok (.aload_n 3, 1) := by decide +kernel
theorem dL_adds_161 : decode cL_adds 161 = .ok (.iload_n 2, 1) := by decide +kernel
theorem dL_adds_162 : decode cL_adds 162 = .ok (.iload 5, 2) := by decide +kernel
theorem dL_adds_164 : decode cL_adds 164 = .ok (.iload 6, 2) := by decide +kernel
theorem dL_adds_166 : decode cL_adds 166 = .ok (.iload 7, 2) := by decide +kernel
theorem dL_adds_168 : decode cL_adds 168 = .ok (.iload 8, 2) := by decide +kernel
theorem dL_adds_170 : decode cL_adds 170 = .ok (.iload 5, 2) := by decide +kernel
theorem dL_adds_172 : decode cL_adds 172 = .ok (.iconst 5, 1) := by decide +kernel
theorem dL_adds_173 : decode cL_adds 173 = .ok (.if_icmp .ne 8, 3) := by decide +kernel
theorem dL_adds_176 : decode cL_adds 176 = .ok (.iload 9, 2) := by decide +kernel
theorem dL_adds_178 : decode cL_adds 178 = .ok (.goto 4, 3) := by decide +kernel
theorem dL_adds_181 : decode cL_adds 181 = .ok (.iconst 0, 1) := by decide +kernel
theorem dL_adds_182 : decode cL_adds 182 = .ok (.invokestatic 45, 3) := by decide +kernel
theorem dL_adds_185 : decode cL_adds 185 = .ok (.iastore, 1) := by decide +kernel
theorem dL_adds_186 : decode cL_adds 186 = .ok (.aload 4, 2) := by decide +kernel
theorem dL_adds_188 : decode cL_adds 188 = .ok (.iload_n 2, 1) := by decide +kernel
theorem dL_adds_189 : decode cL_adds 189 = .ok (.iload 10, 2) := by decide +kernel
theorem dL_adds_191 : decode cL_adds 191 = .ok (.iastore, 1) := by decide +kernel
theorem dL_adds_192 : decode cL_adds 192 = .ok (.iload 11, 2) := by decide +kernel
theorem dL_adds_194 : decode cL_adds 194 = .ok (.iload_n 2, 1) := by decide +kernel
theorem dL_adds_195 : decode cL_adds 195 = .ok (.if_icmp .ne 19, 3) := by decide +kernel
theorem dL_adds_198 : decode cL_adds 198 = .ok (.aload_n 0, 1) := by decide +kernel
theorem dL_adds_199 : decode cL_adds 199 = .ok (.invokevirtual 49, 3) := by decide +kernel
theorem dL_adds_202 : decode cL_adds 202 = .ok (.iload_n 2, 1) := by decide +kernel
theorem dL_adds_203 : decode cL_adds 203 = .ok (.iconst 1, 1) := by decide +kernel
theorem dL_adds_204 : decode cL_adds 204 = .ok (.iadd, 1) := by decide +kernel
theorem dL_adds_205 : decode cL_adds 205 = .ok (.if_icmp .ne 9, 3) := by decide +kernel
theorem dL_adds_208 : decode cL_adds 208 = .ok (.iload_n 2, 1) := by decide +kernel
theorem dL_adds_209 : decode cL_adds 209 = .ok (.iconst 1, 1) := by decide +kernel
theorem dL_adds_210 : decode cL_adds 210 = .ok (.iadd, 1) := by decide +kernel
theorem dL_adds_211 : decode cL_adds 211 = .ok (.goto 4, 3) := by decide +kernel
theorem dL_adds_214 : decode cL_adds 214 = .ok (.iconst (-1), 1) := by decide +kernel
theorem dL_adds_215 : decode cL_adds 215 = .ok (.ireturn, 1) := by decide +kernel
theorem dL_related_0 : decode cL_related 0 = .ok (.aload_n 0, 1) := by decide +kernel
theorem dL_related_1 : decode cL_related 1 = .ok (.iload_n 1, 1) := by decide +kernel
theorem dL_related_2 : decode cL_related 2 = .ok (.iload_n 2, 1) := by decide +kernel
theorem dL_related_3 : decode cL_related 3 = .ok (.iconst 0, 1) := by decide +kernel
theorem dL_related_4 : decode cL_related 4 = .ok (.invokevirtual 53, 3) := by decide +kernel
theorem dL_related_7 : decode cL_related 7 = .ok (.iconst 1, 1) := by decide +kernel
theorem dL_related_8 : decode cL_related 8 = .ok (.if_icmp .ne 41, 3) := by decide +kernel
theorem dL_related_11 : decode cL_related 11 = .ok (.aload_n 0, 1) := by decide +kernel
theorem dL_related_12 : decode cL_related 12 = .ok (.iload_n 1, 1) := by decide +kernel
theorem dL_related_13 : decode cL_related 13 = .ok (.iload_n 2, 1) := by decide +kernel
theorem dL_related_14 : decode cL_related 14 = .ok (.iconst 1, 1) := by decide +kernel
theorem dL_related_15 : decode cL_related 15 = .ok (.invokevirtual 53, 3) := by decide +kernel
theorem dL_related_18 : decode cL_related 18 = .ok (.iconst 1, 1) := by decide +kernel
theorem dL_related_19 : decode cL_related 19 = .ok (.if_icmp .ne 30, 3) := by decide +kernel
theorem dL_related_22 : decode cL_related 22 = .ok (.aload_n 0, 1) := by decide +kernel
theorem dL_related_23 : decode cL_related 23 = .ok (.iload_n 1, 1) := by decide +kernel
theorem dL_related_24 : decode cL_related 24 = .ok (.iload_n 2, 1) := by decide +kernel
theorem dL_related_25 : decode cL_related 25 = .ok (.iconst 2, 1) := by decide +kernel
theorem dL_related_26 : decode cL_related 26 = .ok (.invokevirtual 53, 3) := by decide +kernel
theorem dL_related_29 : decode cL_related 29 = .ok (.iconst 1, 1) := by decide +kernel
theorem dL_related_30 : decode cL_related 30 = .ok (.if_icmp .ne 19, 3) := by decide +kernel
theorem dL_related_33 : decode cL_related 33 = .ok (.aload_n 0, 1) := by decide +kernel
theorem dL_related_34 : decode cL_related 34 = .ok (.iload_n 1, 1) := by decide +kernel
theorem dL_related_35 : decode cL_related 35 = .ok (.iload_n 2, 1) := by decide +kernel
theorem dL_related_36 : decode cL_related 36 = .ok (.iconst 2, 1) := by decide +kernel
theorem dL_related_37 : decode cL_related 37 = .ok (.invokevirtual 56, 3) := by decide +kernel
theorem dL_related_40 : decode cL_related 40 = .ok (.bipush (-4), 2) := by decide +kernel
theorem dL_related_42 : decode cL_related 42 = .ok (.if_icmp .ne 7, 3) := by decide +kernel
theorem dL_related_45 : decode cL_related 45 = .ok (.iconst 1, 1) := by decide +kernel
theorem dL_related_46 : decode cL_related 46 = .ok (.goto 4, 3) := by decide +kernel
theorem dL_related_49 : decode cL_related 49 = .ok (.iconst 0, 1) := by decide +kernel
theorem dL_related_50 : decode cL_related 50 = .ok (.ireturn, 1) := by decide +kernel
theorem dL_law_0 : decode cL_law 0 = .ok (.new 20, 3) := by decide +kernel
theorem dL_law_3 : decode cL_law 3 = .ok (.dup, 1) := by decide +kernel
theorem dL_law_4 : decode cL_law 4 = .ok (.invokespecial 59, 3) := by decide +kernel
theorem dL_law_7 : decode cL_law 7 = .ok (.astore_n 1, 1) := by decide +kernel
theorem dL_law_8 : decode cL_law 8 = .ok (.bipush 24, 2) := by decide +kernel
theorem dL_law_10 : decode cL_law 10 = .ok (.newarray .int, 2) := by decide +kernel
theorem dL_law_12 : decode cL_law 12 = .ok (.astore_n 2, 1) := by decide +kernel
theorem dL_law_13 : decode cL_law 13 = .ok (.bipush 24, 2) := by decide +kernel
theorem dL_law_15 : decode cL_law 15 = .ok (.newarray .int, 2) := by decide +kernel
theorem dL_law_17 : decode cL_law 17 = .ok (.astore_n 3, 1) := by decide +kernel
theorem dL_law_18 : decode cL_law 18 = .ok (.iconst 1, 1) := by decide +kernel
theorem dL_law_19 : decode cL_law 19 = .ok (.istore 4, 2) := by decide +kernel
theorem dL_law_21 : decode cL_law 21 = .ok (.iconst 1, 1) := by decide +kernel
theorem dL_law_22 : decode cL_law 22 = .ok (.istore 5, 2) := by decide +kernel
theorem dL_law_24 : decode cL_law 24 = .ok (.iconst 0, 1) := by decide +kernel
theorem dL_law_25 : decode cL_law 25 = .ok (.istore 6, 2) := by decide +kernel
theorem dL_law_27 : decode cL_law 27 = .ok (.iload 6, 2) := by decide +kernel
theorem dL_law_29 : decode cL_law 29 = .ok (.bipush 12, 2) := by decide +kernel
theorem dL_law_31 : decode cL_law 31 = .ok (.if_icmp .ge 42, 3) := by decide +kernel
theorem dL_law_34 : decode cL_law 34 = .ok (.iload 5, 2) := by decide +kernel
theorem dL_law_36 : decode cL_law 36 = .ok (.ifCond .eq 37, 3) := by decide +kernel
theorem dL_law_39 : decode cL_law 39 = .ok (.aload_n 1, 1) := by decide +kernel
theorem dL_law_40 : decode cL_law 40 = .ok (.aload_n 0, 1) := by decide +kernel
theorem dL_law_41 : decode cL_law 41 = .ok (.iload 6, 2) := by decide +kernel
theorem dL_law_43 : decode cL_law 43 = .ok (.invokestatic 60, 3) := by decide +kernel
theorem dL_law_46 : decode cL_law 46 = .ok (.iload 4, 2) := by decide +kernel
theorem dL_law_48 : decode cL_law 48 = .ok (.aload_n 2, 1) := by decide +kernel
theorem dL_law_49 : decode cL_law 49 = .ok (.aload_n 3, 1) := by decide +kernel
theorem dL_law_50 : decode cL_law 50 = .ok (.invokestatic 64, 3) := by decide +kernel
theorem dL_law_53 : decode cL_law 53 = .ok (.istore 4, 2) := by decide +kernel
theorem dL_law_55 : decode cL_law 55 = .ok (.iload 4, 2) := by decide +kernel
theorem dL_law_57 : decode cL_law 57 = .ok (.ifCond .le 7, 3) := by decide +kernel
theorem dL_law_60 : decode cL_law 60 = .ok (.iconst 1, 1) := by decide +kernel
theorem dL_law_61 : decode cL_law 61 = .ok (.goto 4, 3) := by decide +kernel
theorem dL_law_64 : decode cL_law 64 = .ok (.iconst 0, 1) := by decide +kernel
theorem dL_law_65 : decode cL_law 65 = .ok (.istore 5, 2) := by decide +kernel
theorem dL_law_67 : decode cL_law 67 = .ok (.iinc 6 1, 3) := by decide +kernel
theorem dL_law_70 : decode cL_law 70 = .ok (.goto (-43), 3) := by decide +kernel
theorem dL_law_73 : decode cL_law 73 = .ok (.iload 5, 2) := by decide +kernel
theorem dL_law_75 : decode cL_law 75 = .ok (.ifCond .eq 15, 3) := by decide +kernel
theorem dL_law_78 : decode cL_law 78 = .ok (.aload_n 0, 1) := by decide +kernel
theorem dL_law_79 : decode cL_law 79 = .ok (.bipush 12, 2) := by decide +kernel
theorem dL_law_81 : decode cL_law 81 = .ok (.invokestatic 60, 3) := by decide +kernel
theorem dL_law_84 : decode cL_law 84 = .ok (.iload 4, 2) := by decide +kernel
theorem dL_law_86 : decode cL_law 86 = .ok (.irem, 1) := by decide +kernel
theorem dL_law_87 : decode cL_law 87 = .ok (.goto 4, 3) := by decide +kernel
theorem dL_law_90 : decode cL_law 90 = .ok (.iconst 0, 1) := by decide +kernel
theorem dL_law_91 : decode cL_law 91 = .ok (.istore 6, 2) := by decide +kernel
theorem dL_law_93 : decode cL_law 93 = .ok (.iload 5, 2) := by decide +kernel
theorem dL_law_95 : decode cL_law 95 = .ok (.ifCond .eq 18, 3) := by decide +kernel
theorem dL_law_98 : decode cL_law 98 = .ok (.aload_n 0, 1) := by decide +kernel
theorem dL_law_99 : decode cL_law 99 = .ok (.bipush 12, 2) := by decide +kernel
theorem dL_law_101 : decode cL_law 101 = .ok (.invokestatic 60, 3) := by decide +kernel
theorem dL_law_104 : decode cL_law 104 = .ok (.bipush 6, 2) := by decide +kernel
theorem dL_law_106 : decode cL_law 106 = .ok (.ishr, 1) := by decide +kernel
theorem dL_law_107 : decode cL_law 107 = .ok (.iload 4, 2) := by decide +kernel
theorem dL_law_109 : decode cL_law 109 = .ok (.irem, 1) := by decide +kernel
theorem dL_law_110 : decode cL_law 110 = .ok (.goto 4, 3) := by decide +kernel
theorem dL_law_113 : decode cL_law 113 = .ok (.iconst 0, 1) := by decide +kernel
theorem dL_law_114 : decode cL_law 114 = .ok (.istore 7, 2) := by decide +kernel
theorem dL_law_116 : decode cL_law 116 = .ok (.aload_n 0, 1) := by decide +kernel
theorem dL_law_117 : decode cL_law 117 = .ok (.bipush 12, 2) := by decide +kernel
theorem dL_law_119 : decode cL_law 119 = .ok (.invokestatic 60, 3) := by decide +kernel
theorem dL_law_122 : decode cL_law 122 = .ok (.bipush 12, 2) := by decide +kernel
theorem dL_law_124 : decode cL_law 124 = .ok (.ishr, 1) := by decide +kernel
theorem dL_law_125 : decode cL_law 125 = .ok (.iconst 3, 1) := by decide +kernel
theorem dL_law_126 : decode cL_law 126 = .ok (.irem, 1) := by decide +kernel
theorem dL_law_127 : decode cL_law 127 = .ok (.istore 8, 2) := by decide +kernel
theorem dL_law_129 : decode cL_law 129 = .ok (.iload 8, 2) := by decide +kernel
theorem dL_law_131 : decode cL_law 131 = .ok (.iconst 1, 1) := by decide +kernel
theorem dL_law_132 : decode cL_law 132 = .ok (.iadd, 1) := by decide +kernel
theorem dL_law_133 : decode cL_law 133 = .ok (.aload_n 0, 1) := by decide +kernel
theorem dL_law_134 : decode cL_law 134 = .ok (.bipush 12, 2) := by decide +kernel
theorem dL_law_136 : decode cL_law 136 = .ok (.invokestatic 60, 3) := by decide +kernel
theorem dL_law_139 : decode cL_law 139 = .ok (.bipush 14, 2) := by decide +kernel
theorem dL_law_141 : decode cL_law 141 = .ok (.ishr, 1) := by decide +kernel
theorem dL_law_142 : decode cL_law 142 = .ok (.iconst 2, 1) := by decide +kernel
theorem dL_law_143 : decode cL_law 143 = .ok (.irem, 1) := by decide +kernel
theorem dL_law_144 : decode cL_law 144 = .ok (.iadd, 1) := by decide +kernel
theorem dL_law_145 : decode cL_law 145 = .ok (.iconst 3, 1) := by decide +kernel
theorem dL_law_146 : decode cL_law 146 = .ok (.irem, 1) := by decide +kernel
theorem dL_law_147 : decode cL_law 147 = .ok (.istore 9, 2) := by decide +kernel
theorem dL_law_149 : decode cL_law 149 = .ok (.iload 5, 2) := by decide +kernel
theorem dL_law_151 : decode cL_law 151 = .ok (.ifCond .eq 531, 3) := by decide +kernel
theorem dL_law_154 : decode cL_law 154 = .ok (.aload_n 3, 1) := by decide +kernel
theorem dL_law_155 : decode cL_law 155 = .ok (.iload 6, 2) := by decide +kernel
theorem dL_law_157 : decode cL_law 157 = .ok (.iaload, 1) := by decide +kernel
theorem dL_law_158 : decode cL_law 158 = .ok (.bipush 8, 2) := by decide +kernel
theorem dL_law_160 : decode cL_law 160 = .ok (.irem, 1) := by decide +kernel
theorem dL_law_161 : decode cL_law 161 = .ok (.ifCond .ne 521, 3) := by decide +kernel
theorem dL_law_164 : decode cL_law 164 = .ok (.aload_n 3, 1) := by decide +kernel
theorem dL_law_165 : decode cL_law 165 = .ok (.iload 7, 2) := by decide +kernel
theorem dL_law_167 : decode cL_law 167 = .ok (.iaload, 1) := by decide +kernel
theorem dL_law_168 : decode cL_law 168 = .ok (.bipush 8, 2) := by decide +kernel
theorem dL_law_170 : decode cL_law 170 = .ok (.irem, 1) := by decide +kernel
theorem dL_law_171 : decode cL_law 171 = .ok (.ifCond .ne 511, 3) := by decide +kernel
theorem dL_law_174 : decode cL_law 174 = .ok (.aload_n 0, 1) := by decide +kernel
theorem dL_law_175 : decode cL_law 175 = .ok (.bipush 13, 2) := by decide +kernel
theorem dL_law_177 : decode cL_law 177 = .ok (.invokestatic 60, 3) := by decide +kernel
theorem dL_law_180 : decode cL_law 180 = .ok (.iconst 3, 1) := by decide +kernel
theorem dL_law_181 : decode cL_law 181 = .ok (.irem, 1) := by decide +kernel
theorem dL_law_182 : decode cL_law 182 = .ok (.istore 10, 2) := by decide +kernel
theorem dL_law_184 : decode cL_law 184 = .ok (.aload_n 1, 1) := by decide +kernel
theorem dL_law_185 : decode cL_law 185 = .ok (.iload 8, 2) := by decide +kernel
theorem dL_law_187 : decode cL_law 187 = .ok (.iload 8, 2) := by decide +kernel
theorem dL_law_189 : decode cL_law 189 = .ok (.iload 6, 2) := by decide +kernel
theorem dL_law_191 : decode cL_law 191 = .ok (.invokevirtual 31, 3) := by decide +kernel
theorem dL_law_194 : decode cL_law 194 = .ok (.istore 11, 2) := by decide +kernel
theorem dL_law_196 : decode cL_law 196 = .ok (.aload_n 1, 1) := by decide +kernel
theorem dL_law_197 : decode cL_law 197 = .ok (.iload 8, 2) := by decide +kernel
theorem dL_law_199 : decode cL_law 199 = .ok (.iload 9, 2) := by decide +kernel
theorem dL_law_201 : decode cL_law 201 = .ok (.iload 6, 2) := by decide +kernel
theorem dL_law_203 : decode cL_law 203 = .ok (.invokevirtual 31, 3) := by decide +kernel
theorem dL_law_206 : decode cL_law 206 = .ok (.istore 12, 2) := by decide +kernel
theorem dL_law_208 : decode cL_law 208 = .ok (.aload_n 1, 1) := by decide +kernel
theorem dL_law_209 : decode cL_law 209 = .ok (.iload 6, 2) := by decide +kernel
theorem dL_law_211 : decode cL_law 211 = .ok (.iload 11, 2) := by decide +kernel
theorem dL_law_213 : decode cL_law 213 = .ok (.invokestatic 68, 3) := by decide +kernel
theorem dL_law_216 : decode cL_law 216 = .ok (.ifCond .eq 34, 3) := by decide +kernel
theorem dL_law_219 : decode cL_law 219 = .ok (.aload_n 1, 1) := by decide +kernel
theorem dL_law_220 : decode cL_law 220 = .ok (.iconst 0, 1) := by decide +kernel
theorem dL_law_221 : decode cL_law 221 = .ok (.iload 12, 2) := by decide +kernel
theorem dL_law_223 : decode cL_law 223 = .ok (.invokestatic 68, 3) := by decide +kernel
theorem dL_law_226 : decode cL_law 226 = .ok (.ifCond .eq 24, 3) := by decide +kernel
theorem dL_law_229 : decode cL_law 229 = .ok (.aload_n 1, 1) := by decide +kernel
theorem dL_law_230 : decode cL_law 230 = .ok (.iload 11, 2) := by decide +kernel
theorem dL_law_232 : decode cL_law 232 = .ok (.invokevirtual 72, 3) := by decide +kernel
theorem dL_law_235 : decode cL_law 235 = .ok (.aload_n 1, 1) := by decide +kernel
theorem dL_law_236 : decode cL_law 236 = .ok (.iload 6, 2) := by decide +kernel
theorem dL_law_238 : decode cL_law 238 = .ok (.invokevirtual 72, 3) := by decide +kernel
theorem dL_law_241 : decode cL_law 241 = .ok (.iconst 5, 1) := by decide +kernel
theorem dL_law_242 : decode cL_law 242 = .ok (.iadd, 1) := by decide +kernel
theorem dL_law_243 : decode cL_law 243 = .ok (.if_icmp .ne 7, 3) := by decide +kernel
theorem dL_law_246 : decode cL_law 246 = .ok (.iconst 1, 1) := by decide +kernel
theorem dL_law_247 : decode cL_law 247 = .ok (.goto 4, 3) := by decide +kernel
theorem dL_law_250 : decode cL_law 250 = .ok (.iconst 0, 1) := by decide +kernel
theorem dL_law_251 : decode cL_law 251 = .ok (.istore 5, 2) := by decide +kernel
theorem dL_law_253 : decode cL_law 253 = .ok (.aload_n 1, 1) := by decide +kernel
theorem dL_law_254 : decode cL_law 254 = .ok (.iload 6, 2) := by decide +kernel
theorem dL_law_256 : decode cL_law 256 = .ok (.iconst 0, 1) := by decide +kernel
theorem dL_law_257 : decode cL_law 257 = .ok (.invokevirtual 34, 3) := by decide +kernel
theorem dL_law_260 : decode cL_law 260 = .ok (.istore 13, 2) := by decide +kernel
theorem dL_law_262 : decode cL_law 262 = .ok (.iload 5, 2) := by decide +kernel
theorem dL_law_264 : decode cL_law 264 = .ok (.ifCond .eq 33, 3) := by decide +kernel
theorem dL_law_267 : decode cL_law 267 = .ok (.aload_n 1, 1) := by decide +kernel
theorem dL_law_268 : decode cL_law 268 = .ok (.iload 6, 2) := by decide +kernel
theorem dL_law_270 : decode cL_law 270 = .ok (.iload 13, 2) := by decide +kernel
theorem dL_law_272 : decode cL_law 272 = .ok (.invokestatic 68, 3) := by decide +kernel
theorem dL_law_275 : decode cL_law 275 = .ok (.ifCond .eq 22, 3) := by decide +kernel
theorem dL_law_278 : decode cL_law 278 = .ok (.aload_n 1, 1) := by decide +kernel
theorem dL_law_279 : decode cL_law 279 = .ok (.iload 13, 2) := by decide +kernel
theorem dL_law_281 : decode cL_law 281 = .ok (.invokevirtual 75, 3) := by decide +kernel
theorem dL_law_284 : decode cL_law 284 = .ok (.aload_n 1, 1) := by decide +kernel
theorem dL_law_285 : decode cL_law 285 = .ok (.iload 6, 2) := by decide +kernel
theorem dL_law_287 : decode cL_law 287 = .ok (.invokevirtual 75, 3) := by decide +kernel
theorem dL_law_290 : decode cL_law 290 = .ok (.if_icmp .ne 7, 3) := by decide +kernel
theorem dL_law_293 : decode cL_law 293 = .ok (.iconst 1, 1) := by decide +kernel
theorem dL_law_294 : decode cL_law 294 = .ok (.goto 4, 3) := by decide +kernel
theorem dL_law_297 : decode cL_law 297 = .ok (.iconst 0, 1) := by decide +kernel
theorem dL_law_298 : decode cL_law 298 = .ok (.istore 5, 2) := by decide +kernel
theorem dL_law_300 : decode cL_law 300 = .ok (.aload_n 1, 1) := by decide +kernel
theorem dL_law_301 : decode cL_law 301 = .ok (.iload 6, 2) := by decide +kernel
theorem dL_law_303 : decode cL_law 303 = .ok (.iload 7, 2) := by decide +kernel
theorem dL_law_305 : decode cL_law 305 = .ok (.invokevirtual 34, 3) := by decide +kernel
theorem dL_law_308 : decode cL_law 308 = .ok (.istore 14, 2) := by decide +kernel
theorem dL_law_310 : decode cL_law 310 = .ok (.iload 14, 2) := by decide +kernel
theorem dL_law_312 : decode cL_law 312 = .ok (.ifCond .le 85, 3) := by decide +kernel
theorem dL_law_315 : decode cL_law 315 = .ok (.iload 5, 2) := by decide +kernel
theorem dL_law_317 : decode cL_law 317 = .ok (.ifCond .eq 80, 3) := by decide +kernel
theorem dL_law_320 : decode cL_law 320 = .ok (.aload_n 1, 1) := by decide +kernel
theorem dL_law_321 : decode cL_law 321 = .ok (.iload 7, 2) := by decide +kernel
theorem dL_law_323 : decode cL_law 323 = .ok (.iload 6, 2) := by decide +kernel
theorem dL_law_325 : decode cL_law 325 = .ok (.invokevirtual 34, 3) := by decide +kernel
theorem dL_law_328 : decode cL_law 328 = .ok (.istore 15, 2) := by decide +kernel
theorem dL_law_330 : decode cL_law 330 = .ok (.aload_n 1, 1) := by decide +kernel
theorem dL_law_331 : decode cL_law 331 = .ok (.iload 14, 2) := by decide +kernel
theorem dL_law_333 : decode cL_law 333 = .ok (.iload 15, 2) := by decide +kernel
theorem dL_law_335 : decode cL_law 335 = .ok (.invokestatic 68, 3) := by decide +kernel
theorem dL_law_338 : decode cL_law 338 = .ok (.ifCond .eq 56, 3) := by decide +kernel
theorem dL_law_341 : decode cL_law 341 = .ok (.aload_n 1, 1) := by decide +kernel
theorem dL_law_342 : decode cL_law 342 = .ok (.iload 14, 2) := by decide +kernel
theorem dL_law_344 : decode cL_law 344 = .ok (.invokevirtual 75, 3) := by decide +kernel
theorem dL_law_347 : decode cL_law 347 = .ok (.aload_n 1, 1) := by decide +kernel
theorem dL_law_348 : decode cL_law 348 = .ok (.iload 6, 2) := by decide +kernel
theorem dL_law_350 : decode cL_law 350 = .ok (.invokevirtual 75, 3) := by decide +kernel
theorem dL_law_353 : decode cL_law 353 = .ok (.aload_n 1, 1) := by decide +kernel
theorem dL_law_354 : decode cL_law 354 = .ok (.iload 7, 2) := by decide +kernel
theorem dL_law_356 : decode cL_law 356 = .ok (.invokevirtual 75, 3) := by decide +kernel
theorem dL_law_359 : decode cL_law 359 = .ok (.iadd, 1) := by decide +kernel
theorem dL_law_360 : decode cL_law 360 = .ok (.if_icmp .ne 34, 3) := by decide +kernel
theorem dL_law_363 : decode cL_law 363 = .ok (.aload_n 1, 1) := by decide +kernel
theorem dL_law_364 : decode cL_law 364 = .ok (.iload 6, 2) := by decide +kernel
theorem dL_law_366 : decode cL_law 366 = .ok (.iload 7, 2) := by decide +kernel
theorem dL_law_368 : decode cL_law 368 = .ok (.iload 10, 2) := by decide +kernel
theorem dL_law_370 : decode cL_law 370 = .ok (.invokevirtual 53, 3) := by decide +kernel
theorem dL_law_373 : decode cL_law 373 = .ok (.ifCond .eq 17, 3) := by decide +kernel
theorem dL_law_376 : decode cL_law 376 = .ok (.aload_n 1, 1) := by decide +kernel
theorem dL_law_377 : decode cL_law 377 = .ok (.iload 14, 2) := by decide +kernel
theorem dL_law_379 : decode cL_law 379 = .ok (.iload 6, 2) := by decide +kernel
theorem dL_law_381 : decode cL_law 381 = .ok (.iload 10, 2) := by decide +kernel
theorem dL_law_383 : decode cL_law 383 = .ok (.invokevirtual 53, 3) := by decide +kernel
theorem dL_law_386 : decode cL_law 386 = .ok (.iconst 1, 1) := by decide +kernel
theorem dL_law_387 : decode cL_law 387 = .ok (.if_icmp .ne 7, 3) := by decide +kernel
theorem dL_law_390 : decode cL_law 390 = .ok (.iconst 1, 1) := by decide +kernel
theorem dL_law_391 : decode cL_law 391 = .ok (.goto 4, 3) := by decide +kernel
theorem dL_law_394 : decode cL_law 394 = .ok (.iconst 0, 1) := by decide +kernel
theorem dL_law_395 : decode cL_law 395 = .ok (.istore 5, 2) := by decide +kernel
theorem dL_law_397 : decode cL_law 397 = .ok (.iload 5, 2) := by decide +kernel
theorem dL_law_399 : decode cL_law 399 = .ok (.ifCond .eq 283, 3) := by decide +kernel
theorem dL_law_402 : decode cL_law 402 = .ok (.aload_n 3, 1) := by decide +kernel
theorem dL_law_403 : decode cL_law 403 = .ok (.iload 6, 2) := by decide +kernel
theorem dL_law_405 : decode cL_law 405 = .ok (.iaload, 1) := by decide +kernel
theorem dL_law_406 : decode cL_law 406 = .ok (.bipush 64, 2) := by decide +kernel
theorem dL_law_408 : decode cL_law 408 = .ok (.idiv, 1) := by decide +kernel
theorem dL_law_409 : decode cL_law 409 = .ok (.iconst 3, 1) := by decide +kernel
theorem dL_law_410 : decode cL_law 410 = .ok (.if_icmp .ge 272, 3) := by decide +kernel
theorem dL_law_413 : decode cL_law 413 = .ok (.aload_n 3, 1) := by decide +kernel
theorem dL_law_414 : decode cL_law 414 = .ok (.iload 7, 2) := by decide +kernel
theorem dL_law_416 : decode cL_law 416 = .ok (.iaload, 1) := by decide +kernel
theorem dL_law_417 : decode cL_law 417 = .ok (.bipush 64, 2) := by decide +kernel
theorem dL_law_419 : decode cL_law 419 = .ok (.idiv, 1) := by decide +kernel
theorem dL_law_420 : decode cL_law 420 = .ok (.iconst 3, 1) := by decide +kernel
theorem dL_law_421 : decode cL_law 421 = .ok (.if_icmp .ge 261, 3) := by decide +kernel
theorem dL_law_424 : decode cL_law 424 = .ok (.aload_n 1, 1) := by decide +kernel
theorem dL_law_425 : decode cL_law 425 = .ok (.iload 6, 2) := by decide +kernel
theorem dL_law_427 : decode cL_law 427 = .ok (.invokevirtual 19, 3) := by decide +kernel
theorem dL_law_430 : decode cL_law 430 = .ok (.istore 15, 2) := by decide +kernel
theorem dL_law_432 : decode cL_law 432 = .ok (.aload_n 1, 1) := by decide +kernel
theorem dL_law_433 : decode cL_law 433 = .ok (.iload 7, 2) := by decide +kernel
theorem dL_law_435 : decode cL_law 435 = .ok (.invokevirtual 19, 3) := by decide +kernel
theorem dL_law_438 : decode cL_law 438 = .ok (.istore 16, 2) := by decide +kernel
theorem dL_law_440 : decode cL_law 440 = .ok (.aload_n 1, 1) := by decide +kernel
theorem dL_law_441 : decode cL_law 441 = .ok (.iload 6, 2) := by decide +kernel
theorem dL_law_443 : decode cL_law 443 = .ok (.iload 7, 2) := by decide +kernel
theorem dL_law_445 : decode cL_law 445 = .ok (.iload 10, 2) := by decide +kernel
theorem dL_law_447 : decode cL_law 447 = .ok (.invokevirtual 56, 3) := by decide +kernel
theorem dL_law_450 : decode cL_law 450 = .ok (.istore 17, 2) := by decide +kernel
theorem dL_law_452 : decode cL_law 452 = .ok (.aload_n 1, 1) := by decide +kernel
theorem dL_law_453 : decode cL_law 453 = .ok (.iload 15, 2) := by decide +kernel
theorem dL_law_455 : decode cL_law 455 = .ok (.iload 16, 2) := by decide +kernel
theorem dL_law_457 : decode cL_law 457 = .ok (.iload 10, 2) := by decide +kernel
theorem dL_law_459 : decode cL_law 459 = .ok (.invokevirtual 56, 3) := by decide +kernel
theorem dL_law_462 : decode cL_law 462 = .ok (.iload 17, 2) := by decide +kernel
theorem dL_law_464 : decode cL_law 464 = .ok (.ifCond .ge 8, 3) := by decide +kernel
theorem dL_law_467 : decode cL_law 467 = .ok (.bipush (-4), 2) := by decide +kernel
theorem dL_law_469 : decode cL_law 469 = .ok (.goto 7, 3) := by decide +kernel
theorem dL_law_472 : decode cL_law 472 = .ok (.iload 17, 2) := by decide +kernel
theorem dL_law_474 : decode cL_law 474 = .ok (.iconst 1, 1) := by decide +kernel
theorem dL_law_475 : decode cL_law 475 = .ok (.iadd, 1) := by decide +kernel
theorem dL_law_476 : decode cL_law 476 = .ok (.if_icmp .ne 25, 3) := by decide +kernel
theorem dL_law_479 : decode cL_law 479 = .ok (.aload_n 1, 1) := by decide +kernel
theorem dL_law_480 : decode cL_law 480 = .ok (.invokevirtual 78, 3) := by decide +kernel
theorem dL_law_483 : decode cL_law 483 = .ok (.iload 16, 2) := by decide +kernel
theorem dL_law_485 : decode cL_law 485 = .ok (.if_icmp .ne 16, 3) := by decide +kernel
theorem dL_law_488 : decode cL_law 488 = .ok (.aload_n 1, 1) := by decide +kernel
theorem dL_law_489 : decode cL_law 489 = .ok (.invokevirtual 78, 3) := by decide +kernel
theorem dL_law_492 : decode cL_law 492 = .ok (.iload 15, 2) := by decide +kernel
theorem dL_law_494 : decode cL_law 494 = .ok (.if_icmp .ne 7, 3) := by decide +kernel
theorem dL_law_497 : decode cL_law 497 = .ok (.iconst 1, 1) := by decide +kernel
theorem dL_law_498 : decode cL_law 498 = .ok (.goto 4, 3) := by decide +kernel
theorem dL_law_501 : decode cL_law 501 = .ok (.iconst 0, 1) := by decide +kernel
theorem dL_law_502 : decode cL_law 502 = .ok (.istore 5, 2) := by decide +kernel
theorem dL_law_504 : decode cL_law 504 = .ok (.aload_n 1, 1) := by decide +kernel
theorem dL_law_505 : decode cL_law 505 = .ok (.iload 8, 2) := by decide +kernel
theorem dL_law_507 : decode cL_law 507 = .ok (.iload 9, 2) := by decide +kernel
theorem dL_law_509 : decode cL_law 509 = .ok (.iload 6, 2) := by decide +kernel
theorem dL_law_511 : decode cL_law 511 = .ok (.invokevirtual 24, 3) := by decide +kernel
theorem dL_law_514 : decode cL_law 514 = .ok (.istore 18, 2) := by decide +kernel
theorem dL_law_516 : decode cL_law 516 = .ok (.aload_n 1, 1) := by decide +kernel
theorem dL_law_517 : decode cL_law 517 = .ok (.iload 8, 2) := by decide +kernel
theorem dL_law_519 : decode cL_law 519 = .ok (.iload 9, 2) := by decide +kernel
theorem dL_law_521 : decode cL_law 521 = .ok (.iload 7, 2) := by decide +kernel
theorem dL_law_523 : decode cL_law 523 = .ok (.invokevirtual 24, 3) := by decide +kernel
theorem dL_law_526 : decode cL_law 526 = .ok (.istore 19, 2) := by decide +kernel
theorem dL_law_528 : decode cL_law 528 = .ok (.iload 5, 2) := by decide +kernel
theorem dL_law_530 : decode cL_law 530 = .ok (.ifCond .eq 72, 3) := by decide +kernel
theorem dL_law_533 : decode cL_law 533 = .ok (.aload_n 1, 1) := by decide +kernel
theorem dL_law_534 : decode cL_law 534 = .ok (.iload 18, 2) := by decide +kernel
theorem dL_law_536 : decode cL_law 536 = .ok (.iload 19, 2) := by decide +kernel
theorem dL_law_538 : decode cL_law 538 = .ok (.iload 10, 2) := by decide +kernel
theorem dL_law_540 : decode cL_law 540 = .ok (.invokevirtual 56, 3) := by decide +kernel
theorem dL_law_543 : decode cL_law 543 = .ok (.iload 17, 2) := by decide +kernel
theorem dL_law_545 : decode cL_law 545 = .ok (.ifCond .ge 8, 3) := by decide +kernel
theorem dL_law_548 : decode cL_law 548 = .ok (.bipush (-4), 2) := by decide +kernel
theorem dL_law_550 : decode cL_law 550 = .ok (.goto 7, 3) := by decide +kernel
theorem dL_law_553 : decode cL_law 553 = .ok (.iload 17, 2) := by decide +kernel
theorem dL_law_555 : decode cL_law 555 = .ok (.iconst 1, 1) := by decide +kernel
theorem dL_law_556 : decode cL_law 556 = .ok (.iadd, 1) := by decide +kernel
theorem dL_law_557 : decode cL_law 557 = .ok (.if_icmp .ne 45, 3) := by decide +kernel
theorem dL_law_560 : decode cL_law 560 = .ok (.iload 17, 2) := by decide +kernel
theorem dL_law_562 : decode cL_law 562 = .ok (.ifCond .lt 18, 3) := by decide +kernel
theorem dL_law_565 : decode cL_law 565 = .ok (.aload_n 1, 1) := by decide +kernel
theorem dL_law_566 : decode cL_law 566 = .ok (.iload 18, 2) := by decide +kernel
theorem dL_law_568 : decode cL_law 568 = .ok (.iload 19, 2) := by decide +kernel
theorem dL_law_570 : decode cL_law 570 = .ok (.iload 10, 2) := by decide +kernel
theorem dL_law_572 : decode cL_law 572 = .ok (.invokevirtual 81, 3) := by decide +kernel
theorem dL_law_575 : decode cL_law 575 = .ok (.bipush 9, 2) := by decide +kernel
theorem dL_law_577 : decode cL_law 577 = .ok (.if_icmp .ne 25, 3) := by decide +kernel
theorem dL_law_580 : decode cL_law 580 = .ok (.aload_n 1, 1) := by decide +kernel
theorem dL_law_581 : decode cL_law 581 = .ok (.invokevirtual 78, 3) := by decide +kernel
theorem dL_law_584 : decode cL_law 584 = .ok (.iload 19, 2) := by decide +kernel
theorem dL_law_586 : decode cL_law 586 = .ok (.if_icmp .ne 16, 3) := by decide +kernel
theorem dL_law_589 : decode cL_law 589 = .ok (.aload_n 1, 1) := by decide +kernel
theorem dL_law_590 : decode cL_law 590 = .ok (.invokevirtual 78, 3) := by decide +kernel
theorem dL_law_593 : decode cL_law 593 = .ok (.iload 18, 2) := by decide +kernel
theorem dL_law_595 : decode cL_law 595 = .ok (.if_icmp .ne 7, 3) := by decide +kernel
theorem dL_law_598 : decode cL_law 598 = .ok (.iconst 1, 1) := by decide +kernel
theorem dL_law_599 : decode cL_law 599 = .ok (.goto 4, 3) := by decide +kernel
theorem dL_law_602 : decode cL_law 602 = .ok (.iconst 0, 1) := by decide +kernel
theorem dL_law_603 : decode cL_law 603 = .ok (.istore 5, 2) := by decide +kernel
theorem dL_law_605 : decode cL_law 605 = .ok (.aload_n 1, 1) := by decide +kernel
theorem dL_law_606 : decode cL_law 606 = .ok (.iload 8, 2) := by decide +kernel
theorem dL_law_608 : decode cL_law 608 = .ok (.iload 6, 2) := by decide +kernel
theorem dL_law_610 : decode cL_law 610 = .ok (.invokevirtual 28, 3) := by decide +kernel
theorem dL_law_613 : decode cL_law 613 = .ok (.istore 20, 2) := by decide +kernel
theorem dL_law_615 : decode cL_law 615 = .ok (.aload_n 1, 1) := by decide +kernel
theorem dL_law_616 : decode cL_law 616 = .ok (.iload 8, 2) := by decide +kernel
theorem dL_law_618 : decode cL_law 618 = .ok (.iload 7, 2) := by decide +kernel
theorem dL_law_620 : decode cL_law 620 = .ok (.invokevirtual 28, 3) := by decide +kernel
theorem dL_law_623 : decode cL_law 623 = .ok (.istore 21, 2) := by decide +kernel
theorem dL_law_625 : decode cL_law 625 = .ok (.iload 5, 2) := by decide +kernel
theorem dL_law_627 : decode cL_law 627 = .ok (.ifCond .eq 52, 3) := by decide +kernel
theorem dL_law_630 : decode cL_law 630 = .ok (.aload_n 1, 1) := by decide +kernel
theorem dL_law_631 : decode cL_law 631 = .ok (.iload 20, 2) := by decide +kernel
theorem dL_law_633 : decode cL_law 633 = .ok (.iload 21, 2) := by decide +kernel
theorem dL_law_635 : decode cL_law 635 = .ok (.iload 10, 2) := by decide +kernel
theorem dL_law_637 : decode cL_law 637 = .ok (.invokevirtual 56, 3) := by decide +kernel
theorem dL_law_640 : decode cL_law 640 = .ok (.iload 17, 2) := by decide +kernel
theorem dL_law_642 : decode cL_law 642 = .ok (.ifCond .ge 8, 3) := by decide +kernel
theorem dL_law_645 : decode cL_law 645 = .ok (.bipush (-4), 2) := by decide +kernel
theorem dL_law_647 : decode cL_law 647 = .ok (.goto 7, 3) := by decide +kernel
theorem dL_law_650 : decode cL_law 650 = .ok (.iload 17, 2) := by decide +kernel
theorem dL_law_652 : decode cL_law 652 = .ok (.iconst 1, 1) := by decide +kernel
theorem dL_law_653 : decode cL_law 653 = .ok (.iadd, 1) := by decide +kernel
theorem dL_law_654 : decode cL_law 654 = .ok (.if_icmp .ne 25, 3) := by decide +kernel
theorem dL_law_657 : decode cL_law 657 = .ok (.aload_n 1, 1) := by decide +kernel
theorem dL_law_658 : decode cL_law 658 = .ok (.iload 21, 2) := by decide +kernel
theorem dL_law_660 : decode cL_law 660 = .ok (.invokevirtual 84, 3) := by decide +kernel
theorem dL_law_663 : decode cL_law 663 = .ok (.aload_n 3, 1) := by decide +kernel
theorem dL_law_664 : decode cL_law 664 = .ok (.iload 7, 2) := by decide +kernel
theorem dL_law_666 : decode cL_law 666 = .ok (.iaload, 1) := by decide +kernel
theorem dL_law_667 : decode cL_law 667 = .ok (.bipush 64, 2) := by decide +kernel
theorem dL_law_669 : decode cL_law 669 = .ok (.idiv, 1) := by decide +kernel
theorem dL_law_670 : decode cL_law 670 = .ok (.iconst 1, 1) := by decide +kernel
theorem dL_law_671 : decode cL_law 671 = .ok (.iadd, 1) := by decide +kernel
theorem dL_law_672 : decode cL_law 672 = .ok (.if_icmp .ne 7, 3) := by decide +kernel
theorem dL_law_675 : decode cL_law 675 = .ok (.iconst 1, 1) := by decide +kernel
theorem dL_law_676 : decode cL_law 676 = .ok (.goto 4, 3) := by decide +kernel
theorem dL_law_679 : decode cL_law 679 = .ok (.iconst 0, 1) := by decide +kernel
theorem dL_law_680 : decode cL_law 680 = .ok (.istore 5, 2) := by decide +kernel
theorem dL_law_682 : decode cL_law 682 = .ok (.new 20, 3) := by decide +kernel
theorem dL_law_685 : decode cL_law 685 = .ok (.dup, 1) := by decide +kernel
theorem dL_law_686 : decode cL_law 686 = .ok (.invokespecial 59, 3) := by decide +kernel
theorem dL_law_689 : decode cL_law 689 = .ok (.astore_n 1, 1) := by decide +kernel
theorem dL_law_690 : decode cL_law 690 = .ok (.aload_n 1, 1) := by decide +kernel
theorem dL_law_691 : decode cL_law 691 = .ok (.iconst 0, 1) := by decide +kernel
theorem dL_law_692 : decode cL_law 692 = .ok (.invokevirtual 19, 3) := by decide +kernel
theorem dL_law_695 : decode cL_law 695 = .ok (.istore 10, 2) := by decide +kernel
theorem dL_law_697 : decode cL_law 697 = .ok (.iload 5, 2) := by decide +kernel
theorem dL_law_699 : decode cL_law 699 = .ok (.ifCond .eq 15, 3) := by decide +kernel
theorem dL_law_702 : decode cL_law 702 = .ok (.aload_n 1, 1) := by decide +kernel
theorem dL_law_703 : decode cL_law 703 = .ok (.iconst 3, 1) := by decide +kernel
theorem dL_law_704 : decode cL_law 704 = .ok (.iload 9, 2) := by decide +kernel
theorem dL_law_706 : decode cL_law 706 = .ok (.iload 10, 2) := by decide +kernel
theorem dL_law_708 : decode cL_law 708 = .ok (.invokevirtual 31, 3) := by decide +kernel
theorem dL_law_711 : decode cL_law 711 = .ok (.goto 4, 3) := by decide +kernel
theorem dL_law_714 : decode cL_law 714 = .ok (.iconst 0, 1) := by decide +kernel
theorem dL_law_715 : decode cL_law 715 = .ok (.istore 10, 2) := by decide +kernel
theorem dL_law_717 : decode cL_law 717 = .ok (.iload 5, 2) := by decide +kernel
theorem dL_law_719 : decode cL_law 719 = .ok (.ifCond .eq 14, 3) := by decide +kernel
theorem dL_law_722 : decode cL_law 722 = .ok (.aload_n 1, 1) := by decide +kernel
theorem dL_law_723 : decode cL_law 723 = .ok (.iload 8, 2) := by decide +kernel
theorem dL_law_725 : decode cL_law 725 = .ok (.iload 10, 2) := by decide +kernel
theorem dL_law_727 : decode cL_law 727 = .ok (.invokevirtual 28, 3) := by decide +kernel
theorem dL_law_730 : decode cL_law 730 = .ok (.goto 4, 3) := by decide +kernel
theorem dL_law_733 : decode cL_law 733 = .ok (.iconst 0, 1) := by decide +kernel
theorem dL_law_734 : decode cL_law 734 = .ok (.istore 11, 2) := by decide +kernel
theorem dL_law_736 : decode cL_law 736 = .ok (.iload 5, 2) := by decide +kernel
theorem dL_law_738 : decode cL_law 738 = .ok (.ifCond .eq 13, 3) := by decide +kernel
theorem dL_law_741 : decode cL_law 741 = .ok (.aload_n 1, 1) := by decide +kernel
theorem dL_law_742 : decode cL_law 742 = .ok (.iload 8, 2) := by decide +kernel
theorem dL_law_744 : decode cL_law 744 = .ok (.iconst 0, 1) := by decide +kernel
theorem dL_law_745 : decode cL_law 745 = .ok (.invokevirtual 28, 3) := by decide +kernel
theorem dL_law_748 : decode cL_law 748 = .ok (.goto 4, 3) := by decide +kernel
theorem dL_law_751 : decode cL_law 751 = .ok (.iconst 0, 1) := by decide +kernel
theorem dL_law_752 : decode cL_law 752 = .ok (.istore 12, 2) := by decide +kernel
theorem dL_law_754 : decode cL_law 754 = .ok (.iload 5, 2) := by decide +kernel
theorem dL_law_756 : decode cL_law 756 = .ok (.ifCond .eq 97, 3) := by decide +kernel
theorem dL_law_759 : decode cL_law 759 = .ok (.aload_n 1, 1) := by decide +kernel
theorem dL_law_760 : decode cL_law 760 = .ok (.iload 10, 2) := by decide +kernel
theorem dL_law_762 : decode cL_law 762 = .ok (.invokevirtual 87, 3) := by decide +kernel
theorem dL_law_765 : decode cL_law 765 = .ok (.iconst 1, 1) := by decide +kernel
theorem dL_law_766 : decode cL_law 766 = .ok (.if_icmp .ne 87, 3) := by decide +kernel
theorem dL_law_769 : decode cL_law 769 = .ok (.aload_n 1, 1) := by decide +kernel
theorem dL_law_770 : decode cL_law 770 = .ok (.iload 11, 2) := by decide +kernel
theorem dL_law_772 : decode cL_law 772 = .ok (.iload 12, 2) := by decide +kernel
theorem dL_law_774 : decode cL_law 774 = .ok (.iconst 0, 1) := by decide +kernel
theorem dL_law_775 : decode cL_law 775 = .ok (.invokevirtual 53, 3) := by decide +kernel
theorem dL_law_778 : decode cL_law 778 = .ok (.iconst 1, 1) := by decide +kernel
theorem dL_law_779 : decode cL_law 779 = .ok (.if_icmp .ne 74, 3) := by decide +kernel
theorem dL_law_782 : decode cL_law 782 = .ok (.aload_n 1, 1) := by decide +kernel
theorem dL_law_783 : decode cL_law 783 = .ok (.iload 11, 2) := by decide +kernel
theorem dL_law_785 : decode cL_law 785 = .ok (.iload 12, 2) := by decide +kernel
theorem dL_law_787 : decode cL_law 787 = .ok (.iconst 1, 1) := by decide +kernel
theorem dL_law_788 : decode cL_law 788 = .ok (.invokevirtual 56, 3) := by decide +kernel
theorem dL_law_791 : decode cL_law 791 = .ok (.iconst 2, 1) := by decide +kernel
theorem dL_law_792 : decode cL_law 792 = .ok (.if_icmp .ne 61, 3) := by decide +kernel
theorem dL_law_795 : decode cL_law 795 = .ok (.aload_n 1, 1) := by decide +kernel
theorem dL_law_796 : decode cL_law 796 = .ok (.iload 11, 2) := by decide +kernel
theorem dL_law_798 : decode cL_law 798 = .ok (.iload 12, 2) := by decide +kernel
theorem dL_law_800 : decode cL_law 800 = .ok (.iconst 2, 1) := by decide +kernel
theorem dL_law_801 : decode cL_law 801 = .ok (.invokevirtual 56, 3) := by decide +kernel
theorem dL_law_804 : decode cL_law 804 = .ok (.iconst 2, 1) := by decide +kernel
theorem dL_law_805 : decode cL_law 805 = .ok (.if_icmp .ne 48, 3) := by decide +kernel
theorem dL_law_808 : decode cL_law 808 = .ok (.aload_n 1, 1) := by decide +kernel
theorem dL_law_809 : decode cL_law 809 = .ok (.iload 11, 2) := by decide +kernel
theorem dL_law_811 : decode cL_law 811 = .ok (.iload 12, 2) := by decide +kernel
theorem dL_law_813 : decode cL_law 813 = .ok (.iconst 1, 1) := by decide +kernel
theorem dL_law_814 : decode cL_law 814 = .ok (.invokevirtual 81, 3) := by decide +kernel
theorem dL_law_817 : decode cL_law 817 = .ok (.iload 9, 2) := by decide +kernel
theorem dL_law_819 : decode cL_law 819 = .ok (.if_icmp .ne 34, 3) := by decide +kernel
theorem dL_law_822 : decode cL_law 822 = .ok (.aload_n 1, 1) := by decide +kernel
theorem dL_law_823 : decode cL_law 823 = .ok (.iload 11, 2) := by decide +kernel
theorem dL_law_825 : decode cL_law 825 = .ok (.iload 12, 2) := by decide +kernel
theorem dL_law_827 : decode cL_law 827 = .ok (.iconst 2, 1) := by decide +kernel
theorem dL_law_828 : decode cL_law 828 = .ok (.invokevirtual 81, 3) := by decide +kernel
theorem dL_law_831 : decode cL_law 831 = .ok (.bipush 9, 2) := by decide +kernel
theorem dL_law_833 : decode cL_law 833 = .ok (.if_icmp .ne 20, 3) := by decide +kernel
theorem dL_law_836 : decode cL_law 836 = .ok (.aload_n 1, 1) := by decide +kernel
theorem dL_law_837 : decode cL_law 837 = .ok (.iload 12, 2) := by decide +kernel
theorem dL_law_839 : decode cL_law 839 = .ok (.iload 11, 2) := by decide +kernel
theorem dL_law_841 : decode cL_law 841 = .ok (.iconst 1, 1) := by decide +kernel
theorem dL_law_842 : decode cL_law 842 = .ok (.invokevirtual 56, 3) := by decide +kernel
theorem dL_law_845 : decode cL_law 845 = .ok (.iconst 2, 1) := by decide +kernel
theorem dL_law_846 : decode cL_law 846 = .ok (.if_icmp .ne 7, 3) := by decide +kernel
theorem dL_law_849 : decode cL_law 849 = .ok (.iconst 1, 1) := by decide +kernel
theorem dL_law_850 : decode cL_law 850 = .ok (.goto 4, 3) := by decide +kernel
theorem dL_law_853 : decode cL_law 853 = .ok (.iconst 0, 1) := by decide +kernel
theorem dL_law_854 : decode cL_law 854 = .ok (.istore 5, 2) := by decide +kernel
theorem dL_law_856 : decode cL_law 856 = .ok (.iload 5, 2) := by decide +kernel
theorem dL_law_858 : decode cL_law 858 = .ok (.ifCond .eq 13, 3) := by decide +kernel
theorem dL_law_861 : decode cL_law 861 = .ok (.aload_n 1, 1) := by decide +kernel
theorem dL_law_862 : decode cL_law 862 = .ok (.iload 8, 2) := by decide +kernel
theorem dL_law_864 : decode cL_law 864 = .ok (.iconst 1, 1) := by decide +kernel
theorem dL_law_865 : decode cL_law 865 = .ok (.invokevirtual 28, 3) := by decide +kernel
theorem dL_law_868 : decode cL_law 868 = .ok (.goto 4, 3) := by decide +kernel
theorem dL_law_871 : decode cL_law 871 = .ok (.iconst 0, 1) := by decide +kernel
theorem dL_law_872 : decode cL_law 872 = .ok (.istore 13, 2) := by decide +kernel
theorem dL_law_874 : decode cL_law 874 = .ok (.iload 5, 2) := by decide +kernel
theorem dL_law_876 : decode cL_law 876 = .ok (.ifCond .eq 14, 3) := by decide +kernel
theorem dL_law_879 : decode cL_law 879 = .ok (.aload_n 1, 1) := by decide +kernel
theorem dL_law_880 : decode cL_law 880 = .ok (.iload 13, 2) := by decide +kernel
theorem dL_law_882 : decode cL_law 882 = .ok (.iload 12, 2) := by decide +kernel
theorem dL_law_884 : decode cL_law 884 = .ok (.invokevirtual 34, 3) := by decide +kernel
theorem dL_law_887 : decode cL_law 887 = .ok (.goto 4, 3) := by decide +kernel
theorem dL_law_890 : decode cL_law 890 = .ok (.iconst 0, 1) := by decide +kernel
theorem dL_law_891 : decode cL_law 891 = .ok (.istore 14, 2) := by decide +kernel
theorem dL_law_893 : decode cL_law 893 = .ok (.iload 5, 2) := by decide +kernel
theorem dL_law_895 : decode cL_law 895 = .ok (.ifCond .eq 14, 3) := by decide +kernel
theorem dL_law_898 : decode cL_law 898 = .ok (.aload_n 1, 1) := by decide +kernel
theorem dL_law_899 : decode cL_law 899 = .ok (.iload 14, 2) := by decide +kernel
theorem dL_law_901 : decode cL_law 901 = .ok (.iload 11, 2) := by decide +kernel
theorem dL_law_903 : decode cL_law 903 = .ok (.invokevirtual 34, 3) := by decide +kernel
theorem dL_law_906 : decode cL_law 906 = .ok (.goto 4, 3) := by decide +kernel
theorem dL_law_909 : decode cL_law 909 = .ok (.iconst 0, 1) := by decide +kernel
theorem dL_law_910 : decode cL_law 910 = .ok (.istore 15, 2) := by decide +kernel
theorem dL_law_912 : decode cL_law 912 = .ok (.iload 5, 2) := by decide +kernel
theorem dL_law_914 : decode cL_law 914 = .ok (.ifCond .eq 90, 3) := by decide +kernel
theorem dL_law_917 : decode cL_law 917 = .ok (.iload 15, 2) := by decide +kernel
theorem dL_law_919 : decode cL_law 919 = .ok (.ifCond .le 85, 3) := by decide +kernel
theorem dL_law_922 : decode cL_law 922 = .ok (.aload_n 1, 1) := by decide +kernel
theorem dL_law_923 : decode cL_law 923 = .ok (.iload 15, 2) := by decide +kernel
theorem dL_law_925 : decode cL_law 925 = .ok (.invokevirtual 75, 3) := by decide +kernel
theorem dL_law_928 : decode cL_law 928 = .ok (.iconst 3, 1) := by decide +kernel
theorem dL_law_929 : decode cL_law 929 = .ok (.if_icmp .ne 75, 3) := by decide +kernel
theorem dL_law_932 : decode cL_law 932 = .ok (.aload_n 1, 1) := by decide +kernel
theorem dL_law_933 : decode cL_law 933 = .ok (.iload 14, 2) := by decide +kernel
theorem dL_law_935 : decode cL_law 935 = .ok (.iload 15, 2) := by decide +kernel
theorem dL_law_937 : decode cL_law 937 = .ok (.iconst 0, 1) := by decide +kernel
theorem dL_law_938 : decode cL_law 938 = .ok (.invokevirtual 53, 3) := by decide +kernel
theorem dL_law_941 : decode cL_law 941 = .ok (.iconst 1, 1) := by decide +kernel
theorem dL_law_942 : decode cL_law 942 = .ok (.if_icmp .ne 62, 3) := by decide +kernel
theorem dL_law_945 : decode cL_law 945 = .ok (.aload_n 1, 1) := by decide +kernel
theorem dL_law_946 : decode cL_law 946 = .ok (.iload 14, 2) := by decide +kernel
theorem dL_law_948 : decode cL_law 948 = .ok (.iload 15, 2) := by decide +kernel
theorem dL_law_950 : decode cL_law 950 = .ok (.iconst 1, 1) := by decide +kernel
theorem dL_law_951 : decode cL_law 951 = .ok (.invokevirtual 53, 3) := by decide +kernel
theorem dL_law_954 : decode cL_law 954 = .ok (.iconst 1, 1) := by decide +kernel
theorem dL_law_955 : decode cL_law 955 = .ok (.if_icmp .ne 49, 3) := by decide +kernel
theorem dL_law_958 : decode cL_law 958 = .ok (.aload_n 1, 1) := by decide +kernel
theorem dL_law_959 : decode cL_law 959 = .ok (.iload 14, 2) := by decide +kernel
theorem dL_law_961 : decode cL_law 961 = .ok (.iload 15, 2) := by decide +kernel
theorem dL_law_963 : decode cL_law 963 = .ok (.iconst 2, 1) := by decide +kernel
theorem dL_law_964 : decode cL_law 964 = .ok (.invokevirtual 56, 3) := by decide +kernel
theorem dL_law_967 : decode cL_law 967 = .ok (.iconst 2, 1) := by decide +kernel
theorem dL_law_968 : decode cL_law 968 = .ok (.if_icmp .ne 36, 3) := by decide +kernel
theorem dL_law_971 : decode cL_law 971 = .ok (.aload_n 1, 1) := by decide +kernel
theorem dL_law_972 : decode cL_law 972 = .ok (.iload 14, 2) := by decide +kernel
theorem dL_law_974 : decode cL_law 974 = .ok (.iload 15, 2) := by decide +kernel
theorem dL_law_976 : decode cL_law 976 = .ok (.iconst 2, 1) := by decide +kernel
theorem dL_law_977 : decode cL_law 977 = .ok (.invokevirtual 81, 3) := by decide +kernel
theorem dL_law_980 : decode cL_law 980 = .ok (.sipush 1029, 3) := by decide +kernel
theorem dL_law_983 : decode cL_law 983 = .ok (.if_icmp .ne 21, 3) := by decide +kernel
theorem dL_law_986 : decode cL_law 986 = .ok (.aload_n 1, 1) := by decide +kernel
theorem dL_law_987 : decode cL_law 987 = .ok (.iload 15, 2) := by decide +kernel
theorem dL_law_989 : decode cL_law 989 = .ok (.iload 14, 2) := by decide +kernel
theorem dL_law_991 : decode cL_law 991 = .ok (.iconst 2, 1) := by decide +kernel
theorem dL_law_992 : decode cL_law 992 = .ok (.invokevirtual 81, 3) := by decide +kernel
theorem dL_law_995 : decode cL_law 995 = .ok (.bipush 29, 2) := by decide +kernel
theorem dL_law_997 : decode cL_law 997 = .ok (.if_icmp .ne 7, 3) := by decide +kernel
theorem dL_law_1000 : decode cL_law 1000 = .ok (.iconst 1, 1) := by decide +kernel
theorem dL_law_1001 : decode cL_law 1001 = .ok (.goto 4, 3) := by decide +kernel
theorem dL_law_1004 : decode cL_law 1004 = .ok (.iconst 0, 1) := by decide +kernel
theorem dL_law_1005 : decode cL_law 1005 = .ok (.istore 5, 2) := by decide +kernel
theorem dL_law_1007 : decode cL_law 1007 = .ok (.iload 5, 2) := by decide +kernel
theorem dL_law_1009 : decode cL_law 1009 = .ok (.ifCond .eq 70, 3) := by decide +kernel
theorem dL_law_1012 : decode cL_law 1012 = .ok (.aload_n 1, 1) := by decide +kernel
theorem dL_law_1013 : decode cL_law 1013 = .ok (.iload 15, 2) := by decide +kernel
theorem dL_law_1015 : decode cL_law 1015 = .ok (.iload 10, 2) := by decide +kernel
theorem dL_law_1017 : decode cL_law 1017 = .ok (.invokevirtual 34, 3) := by decide +kernel
theorem dL_law_1020 : decode cL_law 1020 = .ok (.bipush (-3), 2) := by decide +kernel
theorem dL_law_1022 : decode cL_law 1022 = .ok (.if_icmp .ne 57, 3) := by decide +kernel
theorem dL_law_1025 : decode cL_law 1025 = .ok (.aload_n 1, 1) := by decide +kernel
theorem dL_law_1026 : decode cL_law 1026 = .ok (.iload 15, 2) := by decide +kernel
theorem dL_law_1028 : decode cL_law 1028 = .ok (.iconst 1, 1) := by decide +kernel
theorem dL_law_1029 : decode cL_law 1029 = .ok (.invokevirtual 90, 3) := by decide +kernel
theorem dL_law_1032 : decode cL_law 1032 = .ok (.iload 14, 2) := by decide +kernel
theorem dL_law_1034 : decode cL_law 1034 = .ok (.if_icmp .ne 45, 3) := by decide +kernel
theorem dL_law_1037 : decode cL_law 1037 = .ok (.aload_n 1, 1) := by decide +kernel
theorem dL_law_1038 : decode cL_law 1038 = .ok (.iload 15, 2) := by decide +kernel
theorem dL_law_1040 : decode cL_law 1040 = .ok (.iconst 2, 1) := by decide +kernel
theorem dL_law_1041 : decode cL_law 1041 = .ok (.invokevirtual 90, 3) := by decide +kernel
theorem dL_law_1044 : decode cL_law 1044 = .ok (.iload 15, 2) := by decide +kernel
theorem dL_law_1046 : decode cL_law 1046 = .ok (.if_icmp .ne 33, 3) := by decide +kernel
theorem dL_law_1049 : decode cL_law 1049 = .ok (.aload_n 1, 1) := by decide +kernel
theorem dL_law_1050 : decode cL_law 1050 = .ok (.iconst 0, 1) := by decide +kernel
theorem dL_law_1051 : decode cL_law 1051 = .ok (.invokevirtual 93, 3) := by decide +kernel
theorem dL_law_1054 : decode cL_law 1054 = .ok (.aload_n 1, 1) := by decide +kernel
theorem dL_law_1055 : decode cL_law 1055 = .ok (.iconst 1, 1) := by decide +kernel
theorem dL_law_1056 : decode cL_law 1056 = .ok (.invokevirtual 93, 3) := by decide +kernel
theorem dL_law_1059 : decode cL_law 1059 = .ok (.if_icmp .gt 20, 3) := by decide +kernel
theorem dL_law_1062 : decode cL_law 1062 = .ok (.aload_n 1, 1) := by decide +kernel
theorem dL_law_1063 : decode cL_law 1063 = .ok (.iconst 1, 1) := by decide +kernel
theorem dL_law_1064 : decode cL_law 1064 = .ok (.invokevirtual 93, 3) := by decide +kernel
theorem dL_law_1067 : decode cL_law 1067 = .ok (.aload_n 1, 1) := by decide +kernel
theorem dL_law_1068 : decode cL_law 1068 = .ok (.iconst 2, 1) := by decide +kernel
theorem dL_law_1069 : decode cL_law 1069 = .ok (.invokevirtual 93, 3) := by decide +kernel
theorem dL_law_1072 : decode cL_law 1072 = .ok (.if_icmp .gt 7, 3) := by decide +kernel
theorem dL_law_1075 : decode cL_law 1075 = .ok (.iconst 1, 1) := by decide +kernel
theorem dL_law_1076 : decode cL_law 1076 = .ok (.goto 4, 3) := by decide +kernel
theorem dL_law_1079 : decode cL_law 1079 = .ok (.iconst 0, 1) := by decide +kernel
theorem dL_law_1080 : decode cL_law 1080 = .ok (.ireturn, 1) := by decide +kernel
