theorem dX12_opened_30 : decode cX12_opened 30 = .ok (.iinc 2 1, 3) := by decide +kernel
theorem dX12_opened_33 : decode cX12_opened 33 = .ok (.goto (-29), 3) := by decide +kernel
theorem dX12_opened_36 : decode cX12_opened 36 = .ok (.iload_n 1, 1) := by decide +kernel
theorem dX12_opened_37 : decode cX12_opened 37 = .ok (.ireturn, 1) := by decide +kernel
theorem dX12_operand_0 : decode cX12_operand 0 = .ok (.aload_n 0, 1) := by decide +kernel
theorem dX12_operand_1 : decode cX12_operand 1 = .ok (.getfield 99, 3) := by decide +kernel
theorem dX12_operand_4 : decode cX12_operand 4 = .ok (.aload_n 0, 1) := by decide +kernel
theorem dX12_operand_5 : decode cX12_operand 5 = .ok (.getfield 256, 3) := by decide +kernel
theorem dX12_operand_8 : decode cX12_operand 8 = .ok (.baload, 1) := by decide +kernel
theorem dX12_operand_9 : decode cX12_operand 9 = .ok (.istore_n 3, 1) := by decide +kernel
theorem dX12_operand_10 : decode cX12_operand 10 = .ok (.iload_n 3, 1) := by decide +kernel
theorem dX12_operand_11 : decode cX12_operand 11 = .ok (.bipush 40, 2) := by decide +kernel
theorem dX12_operand_13 : decode cX12_operand 13 = .ok (.if_icmp .ne 46, 3) := by decide +kernel
theorem dX12_operand_16 : decode cX12_operand 16 = .ok (.aload_n 0, 1) := by decide +kernel
theorem dX12_operand_17 : decode cX12_operand 17 = .ok (.invokevirtual 259, 3) := by decide +kernel
theorem dX12_operand_20 : decode cX12_operand 20 = .ok (.bipush 10, 2) := by decide +kernel
theorem dX12_operand_22 : decode cX12_operand 22 = .ok (.if_icmp .ne 5, 3) := by decide +kernel
theorem dX12_operand_25 : decode cX12_operand 25 = .ok (.iconst 0, 1) := by decide +kernel
theorem dX12_operand_26 : decode cX12_operand 26 = .ok (.ireturn, 1) := by decide +kernel
theorem dX12_operand_27 : decode cX12_operand 27 = .ok (.aload_n 0, 1) := by decide +kernel
theorem dX12_operand_28 : decode cX12_operand 28 = .ok (.getfield 121, 3) := by decide +kernel
theorem dX12_operand_31 : decode cX12_operand 31 = .ok (.aload_n 0, 1) := by decide +kernel
theorem dX12_operand_32 : decode cX12_operand 32 = .ok (.getfield 246, 3) := by decide +kernel
theorem dX12_operand_35 : decode cX12_operand 35 = .ok (.iconst 4, 1) := by decide +kernel
theorem dX12_operand_36 : decode cX12_operand 36 = .ok (.iastore, 1) := by decide +kernel
theorem dX12_operand_37 : decode cX12_operand 37 = .ok (.aload_n 0, 1) := by decide +kernel
theorem dX12_operand_38 : decode cX12_operand 38 = .ok (.dup, 1) := by decide +kernel
theorem dX12_operand_39 : decode cX12_operand 39 = .ok (.getfield 246, 3) := by decide +kernel
theorem dX12_operand_42 : decode cX12_operand 42 = .ok (.iconst 1, 1) := by decide +kernel
theorem dX12_operand_43 : decode cX12_operand 43 = .ok (.iadd, 1) := by decide +kernel
theorem dX12_operand_44 : decode cX12_operand 44 = .ok (.putfield 246, 3) := by decide +kernel
theorem dX12_operand_47 : decode cX12_operand 47 = .ok (.aload_n 0, 1) := by decide +kernel
theorem dX12_operand_48 : decode cX12_operand 48 = .ok (.dup, 1) := by decide +kernel
theorem dX12_operand_49 : decode cX12_operand 49 = .ok (.getfield 256, 3) := by decide +kernel
theorem dX12_operand_52 : decode cX12_operand 52 = .ok (.iconst 1, 1) := by decide +kernel
theorem dX12_operand_53 : decode cX12_operand 53 = .ok (.iadd, 1) := by decide +kernel
theorem dX12_operand_54 : decode cX12_operand 54 = .ok (.putfield 256, 3) := by decide +kernel
theorem dX12_operand_57 : decode cX12_operand 57 = .ok (.iconst 1, 1) := by decide +kernel
theorem dX12_operand_58 : decode cX12_operand 58 = .ok (.ireturn, 1) := by decide +kernel
theorem dX12_operand_59 : decode cX12_operand 59 = .ok (.iload_n 3, 1) := by decide +kernel
theorem dX12_operand_60 : decode cX12_operand 60 = .ok (.iload_n 2, 1) := by decide +kernel
theorem dX12_operand_61 : decode cX12_operand 61 = .ok (.invokestatic 263, 3) := by decide +kernel
theorem dX12_operand_64 : decode cX12_operand 64 = .ok (.ifCond .eq 25, 3) := by decide +kernel
theorem dX12_operand_67 : decode cX12_operand 67 = .ok (.aload_n 0, 1) := by decide +kernel
theorem dX12_operand_68 : decode cX12_operand 68 = .ok (.iload_n 1, 1) := by decide +kernel
theorem dX12_operand_69 : decode cX12_operand 69 = .ok (.bipush 100, 2) := by decide +kernel
theorem dX12_operand_71 : decode cX12_operand 71 = .ok (.iload_n 3, 1) := by decide +kernel
theorem dX12_operand_72 : decode cX12_operand 72 = .ok (.iadd, 1) := by decide +kernel
theorem dX12_operand_73 : decode cX12_operand 73 = .ok (.iconst 0, 1) := by decide +kernel
theorem dX12_operand_74 : decode cX12_operand 74 = .ok (.invokevirtual 252, 3) := by decide +kernel
theorem dX12_operand_77 : decode cX12_operand 77 = .ok (.aload_n 0, 1) := by decide +kernel
theorem dX12_operand_78 : decode cX12_operand 78 = .ok (.dup, 1) := by decide +kernel
theorem dX12_operand_79 : decode cX12_operand 79 = .ok (.getfield 256, 3) := by decide +kernel
theorem dX12_operand_82 : decode cX12_operand 82 = .ok (.iconst 1, 1) := by decide +kernel
theorem dX12_operand_83 : decode cX12_operand 83 = .ok (.iadd, 1) := by decide +kernel
theorem dX12_operand_84 : decode cX12_operand 84 = .ok (.putfield 256, 3) := by decide +kernel
theorem dX12_operand_87 : decode cX12_operand 87 = .ok (.iconst 1, 1) := by decide +kernel
theorem dX12_operand_88 : decode cX12_operand 88 = .ok (.ireturn, 1) := by decide +kernel
theorem dX12_operand_89 : decode cX12_operand 89 = .ok (.iconst 0, 1) := by decide +kernel
theorem dX12_operand_90 : decode cX12_operand 90 = .ok (.istore 4, 2) := by decide +kernel
theorem dX12_operand_92 : decode cX12_operand 92 = .ok (.iconst 0, 1) := by decide +kernel
theorem dX12_operand_93 : decode cX12_operand 93 = .ok (.istore 5, 2) := by decide +kernel
theorem dX12_operand_95 : decode cX12_operand 95 = .ok (.aload_n 0, 1) := by decide +kernel
theorem dX12_operand_96 : decode cX12_operand 96 = .ok (.getfield 256, 3) := by decide +kernel
theorem dX12_operand_99 : decode cX12_operand 99 = .ok (.aload_n 0, 1) := by decide +kernel
theorem dX12_operand_100 : decode cX12_operand 100 = .ok (.getfield 240, 3) := by decide +kernel
theorem dX12_operand_103 : decode cX12_operand 103 = .ok (.if_icmp .ge 61, 3) := by decide +kernel
theorem dX12_operand_106 : decode cX12_operand 106 = .ok (.aload_n 0, 1) := by decide +kernel
theorem dX12_operand_107 : decode cX12_operand 107 = .ok (.getfield 99, 3) := by decide +kernel
theorem dX12_operand_110 : decode cX12_operand 110 = .ok (.aload_n 0, 1) := by decide +kernel
theorem dX12_operand_111 : decode cX12_operand 111 = .ok (.getfield 256, 3) := by decide +kernel
theorem dX12_operand_114 : decode cX12_operand 114 = .ok (.baload, 1) := by decide +kernel
theorem dX12_operand_115 : decode cX12_operand 115 = .ok (.invokestatic 266, 3) := by decide +kernel
theorem dX12_operand_118 : decode cX12_operand 118 = .ok (.ifCond .eq 46, 3) := by decide +kernel
theorem dX12_operand_121 : decode cX12_operand 121 = .ok (.iload 4, 2) := by decide +kernel
theorem dX12_operand_123 : decode cX12_operand 123 = .ok (.bipush 6, 2) := by decide +kernel
theorem dX12_operand_125 : decode cX12_operand 125 = .ok (.if_icmp .ge 39, 3) := by decide +kernel
theorem dX12_operand_128 : decode cX12_operand 128 = .ok (.bipush 10, 2) := by decide +kernel
theorem dX12_operand_130 : decode cX12_operand 130 = .ok (.iload 5, 2) := by decide +kernel
theorem dX12_operand_132 : decode cX12_operand 132 = .ok (.imul, 1) := by decide +kernel
theorem dX12_operand_133 : decode cX12_operand 133 = .ok (.aload_n 0, 1) := by decide +kernel
theorem dX12_operand_134 : decode cX12_operand 134 = .ok (.getfield 99, 3) := by decide +kernel
theorem dX12_operand_137 : decode cX12_operand 137 = .ok (.aload_n 0, 1) := by decide +kernel
theorem dX12_operand_138 : decode cX12_operand 138 = .ok (.getfield 256, 3) := by decide +kernel
theorem dX12_operand_141 : decode cX12_operand 141 = .ok (.baload, 1) := by decide +kernel
theorem dX12_operand_142 : decode cX12_operand 142 = .ok (.iadd, 1) := by decide +kernel
theorem dX12_operand_143 : decode cX12_operand 143 = .ok (.bipush 48, 2) := by decide +kernel
theorem dX12_operand_145 : decode cX12_operand 145 = .ok (.isub, 1) := by decide +kernel
theorem dX12_operand_146 : decode cX12_operand 146 = .ok (.istore 5, 2) := by decide +kernel
theorem dX12_operand_148 : decode cX12_operand 148 = .ok (.iinc 4 1, 3) := by decide +kernel
theorem dX12_operand_151 : decode cX12_operand 151 = .ok (.aload_n 0, 1) := by decide +kernel
theorem dX12_operand_152 : decode cX12_operand 152 = .ok (.dup, 1) := by decide +kernel
theorem dX12_operand_153 : decode cX12_operand 153 = .ok (.getfield 256, 3) := by decide +kernel
theorem dX12_operand_156 : decode cX12_operand 156 = .ok (.iconst 1, 1) := by decide +kernel
theorem dX12_operand_157 : decode cX12_operand 157 = .ok (.iadd, 1) := by decide +kernel
theorem dX12_operand_158 : decode cX12_operand 158 = .ok (.putfield 256, 3) := by decide +kernel
theorem dX12_operand_161 : decode cX12_operand 161 = .ok (.goto (-66), 3) := by decide +kernel
theorem dX12_operand_164 : decode cX12_operand 164 = .ok (.iload 4, 2) := by decide +kernel
theorem dX12_operand_166 : decode cX12_operand 166 = .ok (.ifCond .eq 36, 3) := by decide +kernel
theorem dX12_operand_169 : decode cX12_operand 169 = .ok (.iload 4, 2) := by decide +kernel
theorem dX12_operand_171 : decode cX12_operand 171 = .ok (.bipush 6, 2) := by decide +kernel
theorem dX12_operand_173 : decode cX12_operand 173 = .ok (.if_icmp .ne 31, 3) := by decide +kernel
theorem dX12_operand_176 : decode cX12_operand 176 = .ok (.aload_n 0, 1) := by decide +kernel
theorem dX12_operand_177 : decode cX12_operand 177 = .ok (.getfield 256, 3) := by decide +kernel
theorem dX12_operand_180 : decode cX12_operand 180 = .ok (.aload_n 0, 1) := by decide +kernel
theorem dX12_operand_181 : decode cX12_operand 181 = .ok (.getfield 240, 3) := by decide +kernel
theorem dX12_operand_184 : decode cX12_operand 184 = .ok (.if_icmp .ge 20, 3) := by decide +kernel
theorem dX12_operand_187 : decode cX12_operand 187 = .ok (.aload_n 0, 1) := by decide +kernel
theorem dX12_operand_188 : decode cX12_operand 188 = .ok (.getfield 99, 3) := by decide +kernel
theorem dX12_operand_191 : decode cX12_operand 191 = .ok (.aload_n 0, 1) := by decide +kernel
theorem dX12_operand_192 : decode cX12_operand 192 = .ok (.getfield 256, 3) := by decide +kernel
theorem dX12_operand_195 : decode cX12_operand 195 = .ok (.baload, 1) := by decide +kernel
theorem dX12_operand_196 : decode cX12_operand 196 = .ok (.invokestatic 266, 3) := by decide +kernel
theorem dX12_operand_199 : decode cX12_operand 199 = .ok (.ifCond .eq 5, 3) := by decide +kernel
theorem dX12_operand_202 : decode cX12_operand 202 = .ok (.iconst 0, 1) := by decide +kernel
theorem dX12_operand_203 : decode cX12_operand 203 = .ok (.ireturn, 1) := by decide +kernel
theorem dX12_operand_204 : decode cX12_operand 204 = .ok (.aload_n 0, 1) := by decide +kernel
theorem dX12_operand_205 : decode cX12_operand 205 = .ok (.iload_n 1, 1) := by decide +kernel
theorem dX12_operand_206 : decode cX12_operand 206 = .ok (.iconst 1, 1) := by decide +kernel
theorem dX12_operand_207 : decode cX12_operand 207 = .ok (.iload 5, 2) := by decide +kernel
theorem dX12_operand_209 : decode cX12_operand 209 = .ok (.invokevirtual 252, 3) := by decide +kernel
theorem dX12_operand_212 : decode cX12_operand 212 = .ok (.iconst 1, 1) := by decide +kernel
theorem dX12_operand_213 : decode cX12_operand 213 = .ok (.ireturn, 1) := by decide +kernel
theorem dX12_parse_0 : decode cX12_parse 0 = .ok (.aload_n 0, 1) := by decide +kernel
theorem dX12_parse_1 : decode cX12_parse 1 = .ok (.iconst 0, 1) := by decide +kernel
theorem dX12_parse_2 : decode cX12_parse 2 = .ok (.putfield 256, 3) := by decide +kernel
theorem dX12_parse_5 : decode cX12_parse 5 = .ok (.aload_n 0, 1) := by decide +kernel
theorem dX12_parse_6 : decode cX12_parse 6 = .ok (.iconst 0, 1) := by decide +kernel
theorem dX12_parse_7 : decode cX12_parse 7 = .ok (.putfield 246, 3) := by decide +kernel
theorem dX12_parse_10 : decode cX12_parse 10 = .ok (.aload_n 0, 1) := by decide +kernel
theorem dX12_parse_11 : decode cX12_parse 11 = .ok (.iconst 0, 1) := by decide +kernel
theorem dX12_parse_12 : decode cX12_parse 12 = .ok (.putfield 243, 3) := by decide +kernel
theorem dX12_parse_15 : decode cX12_parse 15 = .ok (.iconst 1, 1) := by decide +kernel
theorem dX12_parse_16 : decode cX12_parse 16 = .ok (.istore_n 3, 1) := by decide +kernel
theorem dX12_parse_17 : decode cX12_parse 17 = .ok (.iconst 0, 1) := by decide +kernel
theorem dX12_parse_18 : decode cX12_parse 18 = .ok (.istore 4, 2) := by decide +kernel
theorem dX12_parse_20 : decode cX12_parse 20 = .ok (.iconst 0, 1) := by decide +kernel
theorem dX12_parse_21 : decode cX12_parse 21 = .ok (.istore 5, 2) := by decide +kernel
theorem dX12_parse_23 : decode cX12_parse 23 = .ok (.aload_n 0, 1) := by decide +kernel
theorem dX12_parse_24 : decode cX12_parse 24 = .ok (.getfield 256, 3) := by decide +kernel
theorem dX12_parse_27 : decode cX12_parse 27 = .ok (.aload_n 0, 1) := by decide +kernel
theorem dX12_parse_28 : decode cX12_parse 28 = .ok (.getfield 240, 3) := by decide +kernel
theorem dX12_parse_31 : decode cX12_parse 31 = .ok (.if_icmp .ge 314, 3) := by decide +kernel
theorem dX12_parse_34 : decode cX12_parse 34 = .ok (.aload_n 0, 1) := by decide +kernel
theorem dX12_parse_35 : decode cX12_parse 35 = .ok (.getfield 99, 3) := by decide +kernel
theorem dX12_parse_38 : decode cX12_parse 38 = .ok (.aload_n 0, 1) := by decide +kernel
theorem dX12_parse_39 : decode cX12_parse 39 = .ok (.getfield 256, 3) := by decide +kernel
theorem dX12_parse_42 : decode cX12_parse 42 = .ok (.baload, 1) := by decide +kernel
theorem dX12_parse_43 : decode cX12_parse 43 = .ok (.istore 6, 2) := by decide +kernel
theorem dX12_parse_45 : decode cX12_parse 45 = .ok (.iload_n 3, 1) := by decide +kernel
theorem dX12_parse_46 : decode cX12_parse 46 = .ok (.ifCond .eq 40, 3) := by decide +kernel
theorem dX12_parse_49 : decode cX12_parse 49 = .ok (.iload 6, 2) := by decide +kernel
theorem dX12_parse_51 : decode cX12_parse 51 = .ok (.bipush 40, 2) := by decide +kernel
theorem dX12_parse_53 : decode cX12_parse 53 = .ok (.if_icmp .ne 7, 3) := by decide +kernel
theorem dX12_parse_56 : decode cX12_parse 56 = .ok (.iconst 1, 1) := by decide +kernel
theorem dX12_parse_57 : decode cX12_parse 57 = .ok (.goto 4, 3) := by decide +kernel
theorem dX12_parse_60 : decode cX12_parse 60 = .ok (.iconst 0, 1) := by decide +kernel
theorem dX12_parse_61 : decode cX12_parse 61 = .ok (.istore 7, 2) := by decide +kernel
theorem dX12_parse_63 : decode cX12_parse 63 = .ok (.aload_n 0, 1) := by decide +kernel
theorem dX12_parse_64 : decode cX12_parse 64 = .ok (.iload_n 1, 1) := by decide +kernel
theorem dX12_parse_65 : decode cX12_parse 65 = .ok (.iload_n 2, 1) := by decide +kernel
theorem dX12_parse_66 : decode cX12_parse 66 = .ok (.invokevirtual 269, 3) := by decide +kernel
theorem dX12_parse_69 : decode cX12_parse 69 = .ok (.ifCond .ne 8, 3) := by decide +kernel
theorem dX12_parse_72 : decode cX12_parse 72 = .ok (.aload_n 0, 1) := by decide +kernel
theorem dX12_parse_73 : decode cX12_parse 73 = .ok (.getfield 256, 3) := by decide +kernel
theorem dX12_parse_76 : decode cX12_parse 76 = .ok (.ireturn, 1) := by decide +kernel
theorem dX12_parse_77 : decode cX12_parse 77 = .ok (.iload 7, 2) := by decide +kernel
theorem dX12_parse_79 : decode cX12_parse 79 = .ok (.istore_n 3, 1) := by decide +kernel
theorem dX12_parse_80 : decode cX12_parse 80 = .ok (.iconst 0, 1) := by decide +kernel
theorem dX12_parse_81 : decode cX12_parse 81 = .ok (.istore 5, 2) := by decide +kernel
theorem dX12_parse_83 : decode cX12_parse 83 = .ok (.goto (-60), 3) := by decide +kernel
theorem dX12_parse_86 : decode cX12_parse 86 = .ok (.iload 6, 2) := by decide +kernel
theorem dX12_parse_88 : decode cX12_parse 88 = .ok (.invokestatic 272, 3) := by decide +kernel
theorem dX12_parse_91 : decode cX12_parse 91 = .ok (.istore 7, 2) := by decide +kernel
theorem dX12_parse_93 : decode cX12_parse 93 = .ok (.iload 7, 2) := by decide +kernel
theorem dX12_parse_95 : decode cX12_parse 95 = .ok (.ifCond .le 99, 3) := by decide +kernel
theorem dX12_parse_98 : decode cX12_parse 98 = .ok (.iload 7, 2) := by decide +kernel
theorem dX12_parse_100 : decode cX12_parse 100 = .ok (.invokestatic 249, 3) := by decide +kernel
theorem dX12_parse_103 : decode cX12_parse 103 = .ok (.iconst 4, 1) := by decide +kernel
theorem dX12_parse_104 : decode cX12_parse 104 = .ok (.if_icmp .ne 7, 3) := by decide +kernel
theorem dX12_parse_107 : decode cX12_parse 107 = .ok (.iconst 1, 1) := by decide +kernel
theorem dX12_parse_108 : decode cX12_parse 108 = .ok (.goto 4, 3) := by decide +kernel
theorem dX12_parse_111 : decode cX12_parse 111 = .ok (.iconst 0, 1) := by decide +kernel
theorem dX12_parse_112 : decode cX12_parse 112 = .ok (.istore 8, 2) := by decide +kernel
theorem dX12_parse_114 : decode cX12_parse 114 = .ok (.aload_n 0, 1) := by decide +kernel
theorem dX12_parse_115 : decode cX12_parse 115 = .ok (.iload_n 1, 1) := by decide +kernel
theorem dX12_parse_116 : decode cX12_parse 116 = .ok (.iload 8, 2) := by decide +kernel
theorem dX12_parse_118 : decode cX12_parse 118 = .ok (.ifCond .eq 7, 3) := by decide +kernel
theorem dX12_parse_121 : decode cX12_parse 121 = .ok (.iconst 5, 1) := by decide +kernel
theorem dX12_parse_122 : decode cX12_parse 122 = .ok (.goto 8, 3) := by decide +kernel
theorem dX12_parse_125 : decode cX12_parse 125 = .ok (.iload 7, 2) := by decide +kernel
theorem dX12_parse_127 : decode cX12_parse 127 = .ok (.invokestatic 249, 3) := by decide +kernel
theorem dX12_parse_130 : decode cX12_parse 130 = .ok (.invokevirtual 275, 3) := by decide +kernel
theorem dX12_parse_133 : decode cX12_parse 133 = .ok (.iload 8, 2) := by decide +kernel
theorem dX12_parse_135 : decode cX12_parse 135 = .ok (.ifCond .eq 33, 3) := by decide +kernel
theorem dX12_parse_138 : decode cX12_parse 138 = .ok (.aload_n 0, 1) := by decide +kernel
theorem dX12_parse_139 : decode cX12_parse 139 = .ok (.getfield 246, 3) := by decide +kernel
theorem dX12_parse_142 : decode cX12_parse 142 = .ok (.ifCond .le 26, 3) := by decide +kernel
theorem dX12_parse_145 : decode cX12_parse 145 = .ok (.aload_n 0, 1) := by decide +kernel
theorem dX12_parse_146 : decode cX12_parse 146 = .ok (.getfield 121, 3) := by decide +kernel
theorem dX12_parse_149 : decode cX12_parse 149 = .ok (.aload_n 0, 1) := by decide +kernel
theorem dX12_parse_150 : decode cX12_parse 150 = .ok (.getfield 246, 3) := by decide +kernel
theorem dX12_parse_153 : decode cX12_parse 153 = .ok (.iconst 1, 1) := by decide +kernel
theorem dX12_parse_154 : decode cX12_parse 154 = .ok (.isub, 1) := by decide +kernel
theorem dX12_parse_155 : decode cX12_parse 155 = .ok (.iaload, 1) := by decide +kernel
theorem dX12_parse_156 : decode cX12_parse 156 = .ok (.invokestatic 249, 3) := by decide +kernel
theorem dX12_parse_159 : decode cX12_parse 159 = .ok (.iconst 4, 1) := by decide +kernel
theorem dX12_parse_160 : decode cX12_parse 160 = .ok (.if_icmp .ne 8, 3) := by decide +kernel
theorem dX12_parse_163 : decode cX12_parse 163 = .ok (.aload_n 0, 1) := by decide +kernel
theorem dX12_parse_164 : decode cX12_parse 164 = .ok (.getfield 256, 3) := by decide +kernel
theorem dX12_parse_167 : decode cX12_parse 167 = .ok (.ireturn, 1) := by decide +kernel
theorem dX12_parse_168 : decode cX12_parse 168 = .ok (.aload_n 0, 1) := by decide +kernel
theorem dX12_parse_169 : decode cX12_parse 169 = .ok (.getfield 121, 3) := by decide +kernel
theorem dX12_parse_172 : decode cX12_parse 172 = .ok (.aload_n 0, 1) := by decide +kernel
theorem dX12_parse_173 : decode cX12_parse 173 = .ok (.getfield 246, 3) := by decide +kernel
theorem dX12_parse_176 : decode cX12_parse 176 = .ok (.iload 7, 2) := by decide +kernel
theorem dX12_parse_178 : decode cX12_parse 178 = .ok (.iastore, 1) := by decide +kernel
theorem dX12_parse_179 : decode cX12_parse 179 = .ok (.aload_n 0, 1) := by decide +kernel
theorem dX12_parse_180 : decode cX12_parse 180 = .ok (.dup, 1) := by decide +kernel
theorem dX12_parse_181 : decode cX12_parse 181 = .ok (.getfield 246, 3) := by decide +kernel
theorem dX12_parse_184 : decode cX12_parse 184 = .ok (.iconst 1, 1) := by decide +kernel
theorem dX12_parse_185 : decode cX12_parse 185 = .ok (.iadd, 1) := by decide +kernel
theorem dX12_parse_186 : decode cX12_parse 186 = .ok (.putfield 246, 3) := by decide +kernel
theorem dX12_parse_189 : decode cX12_parse 189 = .ok (.iconst 1, 1) := by decide +kernel
theorem dX12_parse_190 : decode cX12_parse 190 = .ok (.istore_n 3, 1) := by decide +kernel
theorem dX12_parse_191 : decode cX12_parse 191 = .ok (.goto 141, 3) := by decide +kernel
theorem dX12_parse_194 : decode cX12_parse 194 = .ok (.iload 6, 2) := by decide +kernel
theorem dX12_parse_196 : decode cX12_parse 196 = .ok (.bipush 41, 2) := by decide +kernel
theorem dX12_parse_198 : decode cX12_parse 198 = .ok (.if_icmp .ne 34, 3) := by decide +kernel
theorem dX12_parse_201 : decode cX12_parse 201 = .ok (.aload_n 0, 1) := by decide +kernel
theorem dX12_parse_202 : decode cX12_parse 202 = .ok (.iload_n 1, 1) := by decide +kernel
theorem dX12_parse_203 : decode cX12_parse 203 = .ok (.iconst 1, 1) := by decide +kernel
theorem dX12_parse_204 : decode cX12_parse 204 = .ok (.invokevirtual 275, 3) := by decide +kernel
theorem dX12_parse_207 : decode cX12_parse 207 = .ok (.aload_n 0, 1) := by decide +kernel
theorem dX12_parse_208 : decode cX12_parse 208 = .ok (.getfield 246, 3) := by decide +kernel
theorem dX12_parse_211 : decode cX12_parse 211 = .ok (.ifCond .ne 8, 3) := by decide +kernel
theorem dX12_parse_214 : decode cX12_parse 214 = .ok (.aload_n 0, 1) := by decide +kernel
theorem dX12_parse_215 : decode cX12_parse 215 = .ok (.getfield 256, 3) := by decide +kernel
theorem dX12_parse_218 : decode cX12_parse 218 = .ok (.ireturn, 1) := by decide +kernel
theorem dX12_parse_219 : decode cX12_parse 219 = .ok (.aload_n 0, 1) := by decide +kernel
theorem dX12_parse_220 : decode cX12_parse 220 = .ok (.dup, 1) := by decide +kernel
theorem dX12_parse_221 : decode cX12_parse 221 = .ok (.getfield 246, 3) := by decide +kernel
theorem dX12_parse_224 : decode cX12_parse 224 = .ok (.iconst 1, 1) := by decide +kernel
theorem dX12_parse_225 : decode cX12_parse 225 = .ok (.isub, 1) := by decide +kernel
theorem dX12_parse_226 : decode cX12_parse 226 = .ok (.putfield 246, 3) := by decide +kernel
theorem dX12_parse_229 : decode cX12_parse 229 = .ok (.goto 103, 3) := by decide +kernel
theorem dX12_parse_232 : decode cX12_parse 232 = .ok (.iload 6, 2) := by decide +kernel
theorem dX12_parse_234 : decode cX12_parse 234 = .ok (.bipush 63, 2) := by decide +kernel
theorem dX12_parse_236 : decode cX12_parse 236 = .ok (.if_icmp .eq 10, 3) := by decide +kernel
theorem dX12_parse_239 : decode cX12_parse 239 = .ok (.iload 6, 2) := by decide +kernel
theorem dX12_parse_241 : decode cX12_parse 241 = .ok (.bipush 59, 2) := by decide +kernel
theorem dX12_parse_243 : decode cX12_parse 243 = .ok (.if_icmp .ne 84, 3) := by decide +kernel
theorem dX12_parse_246 : decode cX12_parse 246 = .ok (.aload_n 0, 1) := by decide +kernel
theorem dX12_parse_247 : decode cX12_parse 247 = .ok (.iload_n 1, 1) := by decide +kernel
theorem dX12_parse_248 : decode cX12_parse 248 = .ok (.iconst 1, 1) := by decide +kernel
theorem dX12_parse_249 : decode cX12_parse 249 = .ok (.invokevirtual 275, 3) := by decide +kernel
theorem dX12_parse_252 : decode cX12_parse 252 = .ok (.aload_n 0, 1) := by decide +kernel
theorem dX12_parse_253 : decode cX12_parse 253 = .ok (.getfield 246, 3) := by decide +kernel
theorem dX12_parse_256 : decode cX12_parse 256 = .ok (.ifCond .gt 15, 3) := by decide +kernel
theorem dX12_parse_259 : decode cX12_parse 259 = .ok (.iload 6, 2) := by decide +kernel
theorem dX12_parse_261 : decode cX12_parse 261 = .ok (.bipush 63, 2) := by decide +kernel
theorem dX12_parse_263 : decode cX12_parse 263 = .ok (.if_icmp .ne 13, 3) := by decide +kernel
theorem dX12_parse_266 : decode cX12_parse 266 = .ok (.iload 4, 2) := by decide +kernel
theorem dX12_parse_268 : decode cX12_parse 268 = .ok (.ifCond .eq 8, 3) := by decide +kernel
theorem dX12_parse_271 : decode cX12_parse 271 = .ok (.aload_n 0, 1) := by decide +kernel
theorem dX12_parse_272 : decode cX12_parse 272 = .ok (.getfield 256, 3) := by decide +kernel
theorem dX12_parse_275 : decode cX12_parse 275 = .ok (.ireturn, 1) := by decide +kernel
theorem dX12_parse_276 : decode cX12_parse 276 = .ok (.aload_n 0, 1) := by decide +kernel
theorem dX12_parse_277 : decode cX12_parse 277 = .ok (.iload_n 1, 1) := by decide +kernel
theorem dX12_parse_278 : decode cX12_parse 278 = .ok (.iload 6, 2) := by decide +kernel
theorem dX12_parse_280 : decode cX12_parse 280 = .ok (.bipush 63, 2) := by decide +kernel
theorem dX12_parse_282 : decode cX12_parse 282 = .ok (.if_icmp .ne 7, 3) := by decide +kernel
theorem dX12_parse_285 : decode cX12_parse 285 = .ok (.iconst 2, 1) := by decide +kernel
theorem dX12_parse_286 : decode cX12_parse 286 = .ok (.goto 4, 3) := by decide +kernel
theorem dX12_parse_289 : decode cX12_parse 289 = .ok (.iconst 3, 1) := by decide +kernel
theorem dX12_parse_290 : decode cX12_parse 290 = .ok (.iconst 0, 1) := by decide +kernel
theorem dX12_parse_291 : decode cX12_parse 291 = .ok (.invokevirtual 252, 3) := by decide +kernel
theorem dX12_parse_294 : decode cX12_parse 294 = .ok (.iload 6, 2) := by decide +kernel
theorem dX12_parse_296 : decode cX12_parse 296 = .ok (.bipush 63, 2) := by decide +kernel
theorem dX12_parse_298 : decode cX12_parse 298 = .ok (.if_icmp .ne 7, 3) := by decide +kernel
theorem dX12_parse_301 : decode cX12_parse 301 = .ok (.iconst 1, 1) := by decide +kernel
theorem dX12_parse_302 : decode cX12_parse 302 = .ok (.goto 4, 3) := by decide +kernel
theorem dX12_parse_305 : decode cX12_parse 305 = .ok (.iconst 0, 1) := by decide +kernel
theorem dX12_parse_306 : decode cX12_parse 306 = .ok (.istore 4, 2) := by decide +kernel
theorem dX12_parse_308 : decode cX12_parse 308 = .ok (.iconst 1, 1) := by decide +kernel
theorem dX12_parse_309 : decode cX12_parse 309 = .ok (.istore_n 3, 1) := by decide +kernel
theorem dX12_parse_310 : decode cX12_parse 310 = .ok (.iload 6, 2) := by decide +kernel
theorem dX12_parse_312 : decode cX12_parse 312 = .ok (.bipush 59, 2) := by decide +kernel
theorem dX12_parse_314 : decode cX12_parse 314 = .ok (.if_icmp .ne 7, 3) := by decide +kernel
theorem dX12_parse_317 : decode cX12_parse 317 = .ok (.iconst 1, 1) := by decide +kernel
theorem dX12_parse_318 : decode cX12_parse 318 = .ok (.goto 4, 3) := by decide +kernel
theorem dX12_parse_321 : decode cX12_parse 321 = .ok (.iconst 0, 1) := by decide +kernel
theorem dX12_parse_322 : decode cX12_parse 322 = .ok (.istore 5, 2) := by decide +kernel
theorem dX12_parse_324 : decode cX12_parse 324 = .ok (.goto 8, 3) := by decide +kernel
theorem dX12_parse_327 : decode cX12_parse 327 = .ok (.aload_n 0, 1) := by decide +kernel
theorem dX12_parse_328 : decode cX12_parse 328 = .ok (.getfield 256, 3) := by decide +kernel
theorem dX12_parse_331 : decode cX12_parse 331 = .ok (.ireturn, 1) := by decide +kernel
theorem dX12_parse_332 : decode cX12_parse 332 = .ok (.aload_n 0, 1) := by decide +kernel
theorem dX12_parse_333 : decode cX12_parse 333 = .ok (.dup, 1) := by decide +kernel
theorem dX12_parse_334 : decode cX12_parse 334 = .ok (.getfield 256, 3) := by decide +kernel
theorem dX12_parse_337 : decode cX12_parse 337 = .ok (.iconst 1, 1) := by decide +kernel
theorem dX12_parse_338 : decode cX12_parse 338 = .ok (.iadd, 1) := by decide +kernel
theorem dX12_parse_339 : decode cX12_parse 339 = .ok (.putfield 256, 3) := by decide +kernel
theorem dX12_parse_342 : decode cX12_parse 342 = .ok (.goto (-319), 3) := by decide +kernel
theorem dX12_parse_345 : decode cX12_parse 345 = .ok (.iload_n 3, 1) := by decide +kernel
theorem dX12_parse_346 : decode cX12_parse 346 = .ok (.ifCond .eq 17, 3) := by decide +kernel
theorem dX12_parse_349 : decode cX12_parse 349 = .ok (.iload 5, 2) := by decide +kernel
theorem dX12_parse_351 : decode cX12_parse 351 = .ok (.ifCond .eq 7, 3) := by decide +kernel
theorem dX12_parse_354 : decode cX12_parse 354 = .ok (.iconst (-1), 1) := by decide +kernel
theorem dX12_parse_355 : decode cX12_parse 355 = .ok (.goto 7, 3) := by decide +kernel
theorem dX12_parse_358 : decode cX12_parse 358 = .ok (.aload_n 0, 1) := by decide +kernel
theorem dX12_parse_359 : decode cX12_parse 359 = .ok (.getfield 240, 3) := by decide +kernel
theorem dX12_parse_362 : decode cX12_parse 362 = .ok (.ireturn, 1) := by decide +kernel
theorem dX12_parse_363 : decode cX12_parse 363 = .ok (.aload_n 0, 1) := by decide +kernel
theorem dX12_parse_364 : decode cX12_parse 364 = .ok (.iload_n 1, 1) := by decide +kernel
theorem dX12_parse_365 : decode cX12_parse 365 = .ok (.iconst 1, 1) := by decide +kernel
theorem dX12_parse_366 : decode cX12_parse 366 = .ok (.invokevirtual 275, 3) := by decide +kernel
theorem dX12_parse_369 : decode cX12_parse 369 = .ok (.aload_n 0, 1) := by decide +kernel
theorem dX12_parse_370 : decode cX12_parse 370 = .ok (.getfield 246, 3) := by decide +kernel
theorem dX12_parse_373 : decode cX12_parse 373 = .ok (.ifCond .le 8, 3) := by decide +kernel
theorem dX12_parse_376 : decode cX12_parse 376 = .ok (.aload_n 0, 1) := by decide +kernel
theorem dX12_parse_377 : decode cX12_parse 377 = .ok (.getfield 240, 3) := by decide +kernel
theorem dX12_parse_380 : decode cX12_parse 380 = .ok (.ireturn, 1) := by decide +kernel
theorem dX12_parse_381 : decode cX12_parse 381 = .ok (.aload_n 0, 1) := by decide +kernel
theorem dX12_parse_382 : decode cX12_parse 382 = .ok (.iload_n 1, 1) := by decide +kernel
theorem dX12_parse_383 : decode cX12_parse 383 = .ok (.iconst 3, 1) := by decide +kernel
theorem dX12_parse_384 : decode cX12_parse 384 = .ok (.iconst 0, 1) := by decide +kernel
theorem dX12_parse_385 : decode cX12_parse 385 = .ok (.invokevirtual 252, 3) := by decide +kernel
theorem dX12_parse_388 : decode cX12_parse 388 = .ok (.iconst (-1), 1) := by decide +kernel
theorem dX12_parse_389 : decode cX12_parse 389 = .ok (.ireturn, 1) := by decide +kernel
theorem dX12_act_0 : decode cX12_act 0 = .ok (.iload_n 1, 1) := by decide +kernel
theorem dX12_act_1 : decode cX12_act 1 = .ok (.iconst 0, 1) := by decide +kernel
theorem dX12_act_2 : decode cX12_act 2 = .ok (.iconst 1, 1) := by decide +kernel
theorem dX12_act_3 : decode cX12_act 3 = .ok (.invokestatic 164, 3) := by decide +kernel
theorem dX12_act_6 : decode cX12_act 6 = .ok (.ifCond .eq 14, 3) := by decide +kernel
theorem dX12_act_9 : decode cX12_act 9 = .ok (.iload_n 2, 1) := by decide +kernel
theorem dX12_act_10 : decode cX12_act 10 = .ok (.iconst 0, 1) := by decide +kernel
theorem dX12_act_11 : decode cX12_act 11 = .ok (.sipush 9999, 3) := by decide +kernel
theorem dX12_act_14 : decode cX12_act 14 = .ok (.invokestatic 164, 3) := by decide +kernel
theorem dX12_act_17 : decode cX12_act 17 = .ok (.ifCond .ne 5, 3) := by decide +kernel
theorem dX12_act_20 : decode cX12_act 20 = .ok (.iconst (-1), 1) := by decide +kernel
theorem dX12_act_21 : decode cX12_act 21 = .ok (.ireturn, 1) := by decide +kernel
theorem dX12_act_22 : decode cX12_act 22 = .ok (.aload_n 0, 1) := by decide +kernel
theorem dX12_act_23 : decode cX12_act 23 = .ok (.getfield 279, 3) := by decide +kernel
theorem dX12_act_26 : decode cX12_act 26 = .ok (.bipush 20, 2) := by decide +kernel
theorem dX12_act_28 : decode cX12_act 28 = .ok (.if_icmp .ne 6, 3) := by decide +kernel
theorem dX12_act_31 : decode cX12_act 31 = .ok (.bipush (-3), 2) := by decide +kernel
theorem dX12_act_33 : decode cX12_act 33 = .ok (.ireturn, 1) := by decide +kernel
theorem dX12_act_34 : decode cX12_act 34 = .ok (.aload_n 0, 1) := by decide +kernel
theorem dX12_act_35 : decode cX12_act 35 = .ok (.aload_n 0, 1) := by decide +kernel
theorem dX12_act_36 : decode cX12_act 36 = .ok (.getfield 279, 3) := by decide +kernel
theorem dX12_act_39 : decode cX12_act 39 = .ok (.iload_n 1, 1) := by decide +kernel
theorem dX12_act_40 : decode cX12_act 40 = .ok (.invokevirtual 282, 3) := by decide +kernel
theorem dX12_act_43 : decode cX12_act 43 = .ok (.istore_n 3, 1) := by decide +kernel
theorem dX12_act_44 : decode cX12_act 44 = .ok (.aload_n 0, 1) := by decide +kernel
theorem dX12_act_45 : decode cX12_act 45 = .ok (.iconst 0, 1) := by decide +kernel
theorem dX12_act_46 : decode cX12_act 46 = .ok (.putfield 240, 3) := by decide +kernel
theorem dX12_act_49 : decode cX12_act 49 = .ok (.iload_n 3, 1) := by decide +kernel
theorem dX12_act_50 : decode cX12_act 50 = .ok (.ifCond .lt 8, 3) := by decide +kernel
theorem dX12_act_53 : decode cX12_act 53 = .ok (.bipush (-100), 2) := by decide +kernel
theorem dX12_act_55 : decode cX12_act 55 = .ok (.iload_n 3, 1) := by decide +kernel
theorem dX12_act_56 : decode cX12_act 56 = .ok (.isub, 1) := by decide +kernel
theorem dX12_act_57 : decode cX12_act 57 = .ok (.ireturn, 1) := by decide +kernel
theorem dX12_act_58 : decode cX12_act 58 = .ok (.aload_n 0, 1) := by decide +kernel
theorem dX12_act_59 : decode cX12_act 59 = .ok (.getfield 103, 3) := by decide +kernel
theorem dX12_act_62 : decode cX12_act 62 = .ok (.aload_n 0, 1) := by decide +kernel
theorem dX12_act_63 : decode cX12_act 63 = .ok (.getfield 279, 3) := by decide +kernel
theorem dX12_act_66 : decode cX12_act 66 = .ok (.iload_n 1, 1) := by decide +kernel
theorem dX12_act_67 : decode cX12_act 67 = .ok (.iastore, 1) := by decide +kernel
theorem dX12_act_68 : decode cX12_act 68 = .ok (.aload_n 0, 1) := by decide +kernel
theorem dX12_act_69 : decode cX12_act 69 = .ok (.getfield 106, 3) := by decide +kernel
theorem dX12_act_72 : decode cX12_act 72 = .ok (.aload_n 0, 1) := by decide +kernel
theorem dX12_act_73 : decode cX12_act 73 = .ok (.getfield 279, 3) := by decide +kernel
theorem dX12_act_76 : decode cX12_act 76 = .ok (.aload_n 0, 1) := by decide +kernel
theorem dX12_act_77 : decode cX12_act 77 = .ok (.getfield 237, 3) := by decide +kernel
theorem dX12_act_80 : decode cX12_act 80 = .ok (.iastore, 1) := by decide +kernel
theorem dX12_act_81 : decode cX12_act 81 = .ok (.aload_n 0, 1) := by decide +kernel
theorem dX12_act_82 : decode cX12_act 82 = .ok (.getfield 109, 3) := by decide +kernel
theorem dX12_act_85 : decode cX12_act 85 = .ok (.aload_n 0, 1) := by decide +kernel
theorem dX12_act_86 : decode cX12_act 86 = .ok (.getfield 279, 3) := by decide +kernel
theorem dX12_act_89 : decode cX12_act 89 = .ok (.iload_n 2, 1) := by decide +kernel
theorem dX12_act_90 : decode cX12_act 90 = .ok (.iastore, 1) := by decide +kernel
theorem dX12_act_91 : decode cX12_act 91 = .ok (.aload_n 0, 1) := by decide +kernel
theorem dX12_act_92 : decode cX12_act 92 = .ok (.getfield 112, 3) := by decide +kernel
theorem dX12_act_95 : decode cX12_act 95 = .ok (.aload_n 0, 1) := by decide +kernel
theorem dX12_act_96 : decode cX12_act 96 = .ok (.getfield 279, 3) := by decide +kernel
theorem dX12_act_99 : decode cX12_act 99 = .ok (.aload_n 0, 1) := by decide +kernel
theorem dX12_act_100 : decode cX12_act 100 = .ok (.getfield 243, 3) := by decide +kernel
theorem dX12_act_103 : decode cX12_act 103 = .ok (.iastore, 1) := by decide +kernel
theorem dX12_act_104 : decode cX12_act 104 = .ok (.aload_n 0, 1) := by decide +kernel
theorem dX12_act_105 : decode cX12_act 105 = .ok (.dup, 1) := by decide +kernel
theorem dX12_act_106 : decode cX12_act 106 = .ok (.getfield 279, 3) := by decide +kernel
theorem dX12_act_109 : decode cX12_act 109 = .ok (.iconst 1, 1) := by decide +kernel
theorem dX12_act_110 : decode cX12_act 110 = .ok (.iadd, 1) := by decide +kernel
theorem dX12_act_111 : decode cX12_act 111 = .ok (.putfield 279, 3) := by decide +kernel
theorem dX12_act_114 : decode cX12_act 114 = .ok (.aload_n 0, 1) := by decide +kernel
theorem dX12_act_115 : decode cX12_act 115 = .ok (.getfield 279, 3) := by decide +kernel
theorem dX12_act_118 : decode cX12_act 118 = .ok (.iconst 1, 1) := by decide +kernel
theorem dX12_act_119 : decode cX12_act 119 = .ok (.isub, 1) := by decide +kernel
theorem dX12_act_120 : decode cX12_act 120 = .ok (.ireturn, 1) := by decide +kernel
theorem dX12_forceOn_0 : decode cX12_forceOn 0 = .ok (.aload_n 0, 1) := by decide +kernel
theorem dX12_forceOn_1 : decode cX12_forceOn 1 = .ok (.getfield 279, 3) := by decide +kernel
theorem dX12_forceOn_4 : decode cX12_forceOn 4 = .ok (.iconst 1, 1) := by decide +kernel
theorem dX12_forceOn_5 : decode cX12_forceOn 5 = .ok (.isub, 1) := by decide +kernel
theorem dX12_forceOn_6 : decode cX12_forceOn 6 = .ok (.istore 4, 2) := by decide +kernel
theorem dX12_forceOn_8 : decode cX12_forceOn 8 = .ok (.iload 4, 2) := by decide +kernel
theorem dX12_forceOn_10 : decode cX12_forceOn 10 = .ok (.ifCond .lt 45, 3) := by decide +kernel
theorem dX12_forceOn_13 : decode cX12_forceOn 13 = .ok (.aload_n 0, 1) := by decide +kernel
theorem dX12_forceOn_14 : decode cX12_forceOn 14 = .ok (.getfield 103, 3) := by decide +kernel
theorem dX12_forceOn_17 : decode cX12_forceOn 17 = .ok (.iload 4, 2) := by decide +kernel
theorem dX12_forceOn_19 : decode cX12_forceOn 19 = .ok (.iaload, 1) := by decide +kernel
theorem dX12_forceOn_20 : decode cX12_forceOn 20 = .ok (.iload_n 1, 1) := by decide +kernel
theorem dX12_forceOn_21 : decode cX12_forceOn 21 = .ok (.if_icmp .ne 28, 3) := by decide +kernel
theorem dX12_forceOn_24 : decode cX12_forceOn 24 = .ok (.aload_n 0, 1) := by decide +kernel
theorem dX12_forceOn_25 : decode cX12_forceOn 25 = .ok (.getfield 106, 3) := by decide +kernel
theorem dX12_forceOn_28 : decode cX12_forceOn 28 = .ok (.iload 4, 2) := by decide +kernel
theorem dX12_forceOn_30 : decode cX12_forceOn 30 = .ok (.iaload, 1) := by decide +kernel
theorem dX12_forceOn_31 : decode cX12_forceOn 31 = .ok (.iload_n 3, 1) := by decide +kernel
theorem dX12_forceOn_32 : decode cX12_forceOn 32 = .ok (.if_icmp .gt 17, 3) := by decide +kernel
theorem dX12_forceOn_35 : decode cX12_forceOn 35 = .ok (.aload_n 0, 1) := by decide +kernel
theorem dX12_forceOn_36 : decode cX12_forceOn 36 = .ok (.getfield 109, 3) := by decide +kernel
theorem dX12_forceOn_39 : decode cX12_forceOn 39 = .ok (.iload 4, 2) := by decide +kernel
theorem dX12_forceOn_41 : decode cX12_forceOn 41 = .ok (.iaload, 1) := by decide +kernel
theorem dX12_forceOn_42 : decode cX12_forceOn 42 = .ok (.iload_n 2, 1) := by decide +kernel
theorem dX12_forceOn_43 : decode cX12_forceOn 43 = .ok (.if_icmp .gt 6, 3) := by decide +kernel
theorem dX12_forceOn_46 : decode cX12_forceOn 46 = .ok (.iload 4, 2) := by decide +kernel
theorem dX12_forceOn_48 : decode cX12_forceOn 48 = .ok (.ireturn, 1) := by decide +kernel
theorem dX12_forceOn_49 : decode cX12_forceOn 49 = .ok (.iinc 4 (-1), 3) := by decide +kernel
theorem dX12_forceOn_52 : decode cX12_forceOn 52 = .ok (.goto (-44), 3) := by decide +kernel
theorem dX12_forceOn_55 : decode cX12_forceOn 55 = .ok (.bipush (-2), 2) := by decide +kernel
theorem dX12_forceOn_57 : decode cX12_forceOn 57 = .ok (.ireturn, 1) := by decide +kernel
theorem dX12_isDay_0 : decode cX12_isDay 0 = .ok (.iload_n 0, 1) := by decide +kernel
theorem dX12_isDay_1 : decode cX12_isDay 1 = .ok (.iconst 0, 1) := by decide +kernel
theorem dX12_isDay_2 : decode cX12_isDay 2 = .ok (.sipush 9999, 3) := by decide +kernel
theorem dX12_isDay_5 : decode cX12_isDay 5 = .ok (.invokestatic 164, 3) := by decide +kernel
theorem dX12_isDay_8 : decode cX12_isDay 8 = .ok (.ireturn, 1) := by decide +kernel
theorem dX12_inForce_0 : decode cX12_inForce 0 = .ok (.iload_n 1, 1) := by decide +kernel
theorem dX12_inForce_1 : decode cX12_inForce 1 = .ok (.iconst 0, 1) := by decide +kernel
theorem dX12_inForce_2 : decode cX12_inForce 2 = .ok (.iconst 1, 1) := by decide +kernel
theorem dX12_inForce_3 : decode cX12_inForce 3 = .ok (.invokestatic 164, 3) := by decide +kernel
theorem dX12_inForce_6 : decode cX12_inForce 6 = .ok (.ifCond .eq 27, 3) := by decide +kernel
theorem dX12_inForce_9 : decode cX12_inForce 9 = .ok (.iload_n 2, 1) := by decide +kernel
theorem dX12_inForce_10 : decode cX12_inForce 10 = .ok (.invokestatic 285, 3) := by decide +kernel
theorem dX12_inForce_13 : decode cX12_inForce 13 = .ok (.ifCond .eq 20, 3) := by decide +kernel
theorem dX12_inForce_16 : decode cX12_inForce 16 = .ok (.iload_n 3, 1) := by decide +kernel
theorem dX12_inForce_17 : decode cX12_inForce 17 = .ok (.invokestatic 285, 3) := by decide +kernel
theorem dX12_inForce_20 : decode cX12_inForce 20 = .ok (.ifCond .eq 13, 3) := by decide +kernel
theorem dX12_inForce_23 : decode cX12_inForce 23 = .ok (.aload_n 0, 1) := by decide +kernel
theorem dX12_inForce_24 : decode cX12_inForce 24 = .ok (.iload_n 1, 1) := by decide +kernel
theorem dX12_inForce_25 : decode cX12_inForce 25 = .ok (.iload_n 2, 1) := by decide +kernel
theorem dX12_inForce_26 : decode cX12_inForce 26 = .ok (.iload_n 3, 1) := by decide +kernel
theorem dX12_inForce_27 : decode cX12_inForce 27 = .ok (.invokevirtual 288, 3) := by decide +kernel
theorem dX12_inForce_30 : decode cX12_inForce 30 = .ok (.goto 4, 3) := by decide +kernel
theorem dX12_inForce_33 : decode cX12_inForce 33 = .ok (.iconst (-1), 1) := by decide +kernel
theorem dX12_inForce_34 : decode cX12_inForce 34 = .ok (.ireturn, 1) := by decide +kernel
theorem dX12_both_0 : decode cX12_both 0 = .ok (.iload_n 0, 1) := by decide +kernel
theorem dX12_both_1 : decode cX12_both 1 = .ok (.tableswitch 170 40 61 #[103, 114, 125, 170, 170, 170, 170, 170, 170, 170, 136, 140, 170, 170, 170, 170, 170, 170, 170, 170, 144, 148], 103) := by decide +kernel
theorem dX12_both_104 : decode cX12_both 104 = .ok (.iload_n 1, 1) := by decide +kernel
theorem dX12_both_105 : decode cX12_both 105 = .ok (.iload_n 2, 1) := by decide +kernel
theorem dX12_both_106 : decode cX12_both 106 = .ok (.if_icmp .ge 7, 3) := by decide +kernel
theorem dX12_both_109 : decode cX12_both 109 = .ok (.iconst 1, 1) := by decide +kernel
theorem dX12_both_110 : decode cX12_both 110 = .ok (.goto 4, 3) := by decide +kernel
theorem dX12_both_113 : decode cX12_both 113 = .ok (.iconst 0, 1) := by decide +kernel
theorem dX12_both_114 : decode cX12_both 114 = .ok (.ireturn, 1) := by decide +kernel
theorem dX12_both_115 : decode cX12_both 115 = .ok (.iload_n 1, 1) := by decide +kernel
theorem dX12_both_116 : decode cX12_both 116 = .ok (.iload_n 2, 1) := by decide +kernel
theorem dX12_both_117 : decode cX12_both 117 = .ok (.if_icmp .ne 7, 3) := by decide +kernel
theorem dX12_both_120 : decode cX12_both 120 = .ok (.iconst 1, 1) := by decide +kernel
theorem dX12_both_121 : decode cX12_both 121 = .ok (.goto 4, 3) := by decide +kernel
theorem dX12_both_124 : decode cX12_both 124 = .ok (.iconst 0, 1) := by decide +kernel
theorem dX12_both_125 : decode cX12_both 125 = .ok (.ireturn, 1) := by decide +kernel
theorem dX12_both_126 : decode cX12_both 126 = .ok (.iload_n 1, 1) := by decide +kernel
theorem dX12_both_127 : decode cX12_both 127 = .ok (.iload_n 2, 1) := by decide +kernel
theorem dX12_both_128 : decode cX12_both 128 = .ok (.if_icmp .le 7, 3) := by decide +kernel
theorem dX12_both_131 : decode cX12_both 131 = .ok (.iconst 1, 1) := by decide +kernel
theorem dX12_both_132 : decode cX12_both 132 = .ok (.goto 4, 3) := by decide +kernel
theorem dX12_both_135 : decode cX12_both 135 = .ok (.iconst 0, 1) := by decide +kernel
theorem dX12_both_136 : decode cX12_both 136 = .ok (.ireturn, 1) := by decide +kernel
theorem dX12_both_137 : decode cX12_both 137 = .ok (.iload_n 1, 1) := by decide +kernel
theorem dX12_both_138 : decode cX12_both 138 = .ok (.iload_n 2, 1) := by decide +kernel
theorem dX12_both_139 : decode cX12_both 139 = .ok (.iadd, 1) := by decide +kernel
theorem dX12_both_140 : decode cX12_both 140 = .ok (.ireturn, 1) := by decide +kernel
theorem dX12_both_141 : decode cX12_both 141 = .ok (.iload_n 1, 1) := by decide +kernel
theorem dX12_both_142 : decode cX12_both 142 = .ok (.iload_n 2, 1) := by decide +kernel
theorem dX12_both_143 : decode cX12_both 143 = .ok (.isub, 1) := by decide +kernel
theorem dX12_both_144 : decode cX12_both 144 = .ok (.ireturn, 1) := by decide +kernel
theorem dX12_both_145 : decode cX12_both 145 = .ok (.iload_n 1, 1) := by decide +kernel
theorem dX12_both_146 : decode cX12_both 146 = .ok (.iload_n 2, 1) := by decide +kernel
theorem dX12_both_147 : decode cX12_both 147 = .ok (.imul, 1) := by decide +kernel
theorem dX12_both_148 : decode cX12_both 148 = .ok (.ireturn, 1) := by decide +kernel
theorem dX12_both_149 : decode cX12_both 149 = .ok (.iload_n 2, 1) := by decide +kernel
theorem dX12_both_150 : decode cX12_both 150 = .ok (.ifCond .ne 7, 3) := by decide +kernel
theorem dX12_both_153 : decode cX12_both 153 = .ok (.iconst 0, 1) := by decide +kernel
theorem dX12_both_154 : decode cX12_both 154 = .ok (.goto 16, 3) := by decide +kernel
theorem dX12_both_157 : decode cX12_both 157 = .ok (.iload_n 2, 1) := by decide +kernel
theorem dX12_both_158 : decode cX12_both 158 = .ok (.iconst (-1), 1) := by decide +kernel
theorem dX12_both_159 : decode cX12_both 159 = .ok (.if_icmp .ne 8, 3) := by decide +kernel
theorem dX12_both_162 : decode cX12_both 162 = .ok (.iload_n 1, 1) := by decide +kernel
theorem dX12_both_163 : decode cX12_both 163 = .ok (.ineg, 1) := by decide +kernel
theorem dX12_both_164 : decode cX12_both 164 = .ok (.goto 6, 3) := by decide +kernel
theorem dX12_both_167 : decode cX12_both 167 = .ok (.iload_n 1, 1) := by decide +kernel
theorem dX12_both_168 : decode cX12_both 168 = .ok (.iload_n 2, 1) := by decide +kernel
theorem dX12_both_169 : decode cX12_both 169 = .ok (.idiv, 1) := by decide +kernel
theorem dX12_both_170 : decode cX12_both 170 = .ok (.ireturn, 1) := by decide +kernel
theorem dX12_both_171 : decode cX12_both 171 = .ok (.iload_n 2, 1) := by decide +kernel
theorem dX12_both_172 : decode cX12_both 172 = .ok (.ifCond .eq 8, 3) := by decide +kernel
theorem dX12_both_175 : decode cX12_both 175 = .ok (.iload_n 2, 1) := by decide +kernel
theorem dX12_both_176 : decode cX12_both 176 = .ok (.iconst (-1), 1) := by decide +kernel
theorem dX12_both_177 : decode cX12_both 177 = .ok (.if_icmp .ne 7, 3) := by decide +kernel
theorem dX12_both_180 : decode cX12_both 180 = .ok (.iconst 0, 1) := by decide +kernel
theorem dX12_both_181 : decode cX12_both 181 = .ok (.goto 6, 3) := by decide +kernel
theorem dX12_both_184 : decode cX12_both 184 = .ok (.iload_n 1, 1) := by decide +kernel
theorem dX12_both_185 : decode cX12_both 185 = .ok (.iload_n 2, 1) := by decide +kernel
theorem dX12_both_186 : decode cX12_both 186 = .ok (.irem, 1) := by decide +kernel
theorem dX12_both_187 : decode cX12_both 187 = .ok (.ireturn, 1) := by decide +kernel
theorem dX12_says_0 : decode cX12_says 0 = .ok (.iconst 0, 1) := by decide +kernel
theorem dX12_says_1 : decode cX12_says 1 = .ok (.istore_n 2, 1) := by decide +kernel
theorem dX12_says_2 : decode cX12_says 2 = .ok (.iconst 0, 1) := by decide +kernel
theorem dX12_says_3 : decode cX12_says 3 = .ok (.istore_n 3, 1) := by decide +kernel
theorem dX12_says_4 : decode cX12_says 4 = .ok (.iconst 0, 1) := by decide +kernel
theorem dX12_says_5 : decode cX12_says 5 = .ok (.istore 4, 2) := by decide +kernel
theorem dX12_says_7 : decode cX12_says 7 = .ok (.aload_n 0, 1) := by decide +kernel
theorem dX12_says_8 : decode cX12_says 8 = .ok (.iconst (-1), 1) := by decide +kernel
theorem dX12_says_9 : decode cX12_says 9 = .ok (.putfield 291, 3) := by decide +kernel
theorem dX12_says_12 : decode cX12_says 12 = .ok (.sipush 170, 3) := by decide +kernel
theorem dX12_says_15 : decode cX12_says 15 = .ok (.iload_n 1, 1) := by decide +kernel
theorem dX12_says_16 : decode cX12_says 16 = .ok (.imul, 1) := by decide +kernel
theorem dX12_says_17 : decode cX12_says 17 = .ok (.istore 5, 2) := by decide +kernel
theorem dX12_says_19 : decode cX12_says 19 = .ok (.iload 5, 2) := by decide +kernel
theorem dX12_says_21 : decode cX12_says 21 = .ok (.sipush 170, 3) := by decide +kernel
theorem dX12_says_24 : decode cX12_says 24 = .ok (.iload_n 1, 1) := by decide +kernel
theorem dX12_says_25 : decode cX12_says 25 = .ok (.imul, 1) := by decide +kernel
theorem dX12_says_26 : decode cX12_says 26 = .ok (.aload_n 0, 1) := by decide +kernel
theorem dX12_says_27 : decode cX12_says 27 = .ok (.getfield 112, 3) := by decide +kernel
theorem dX12_says_30 : decode cX12_says 30 = .ok (.iload_n 1, 1) := by decide +kernel
theorem dX12_says_31 : decode cX12_says 31 = .ok (.iaload, 1) := by decide +kernel
theorem dX12_says_32 : decode cX12_says 32 = .ok (.iadd, 1) := by decide +kernel
theorem dX12_says_33 : decode cX12_says 33 = .ok (.if_icmp .ge 160, 3) := by decide +kernel
theorem dX12_says_36 : decode cX12_says 36 = .ok (.aload_n 0, 1) := by decide +kernel
theorem dX12_says_37 : decode cX12_says 37 = .ok (.getfield 115, 3) := by decide +kernel
theorem dX12_says_40 : decode cX12_says 40 = .ok (.iload 5, 2) := by decide +kernel
theorem dX12_says_42 : decode cX12_says 42 = .ok (.iaload, 1) := by decide +kernel
theorem dX12_says_43 : decode cX12_says 43 = .ok (.istore 6, 2) := by decide +kernel
theorem dX12_says_45 : decode cX12_says 45 = .ok (.iload 6, 2) := by decide +kernel
theorem dX12_says_47 : decode cX12_says 47 = .ok (.iconst 3, 1) := by decide +kernel
theorem dX12_says_48 : decode cX12_says 48 = .ok (.if_icmp .ne 31, 3) := by decide +kernel
theorem dX12_says_51 : decode cX12_says 51 = .ok (.iload 4, 2) := by decide +kernel
theorem dX12_says_53 : decode cX12_says 53 = .ok (.ifCond .ne 15, 3) := by decide +kernel
theorem dX12_says_56 : decode cX12_says 56 = .ok (.aload_n 0, 1) := by decide +kernel
theorem dX12_says_57 : decode cX12_says 57 = .ok (.iload_n 3, 1) := by decide +kernel
theorem dX12_says_58 : decode cX12_says 58 = .ok (.putfield 291, 3) := by decide +kernel
theorem dX12_says_61 : decode cX12_says 61 = .ok (.aload_n 0, 1) := by decide +kernel
theorem dX12_says_62 : decode cX12_says 62 = .ok (.getfield 127, 3) := by decide +kernel
theorem dX12_says_65 : decode cX12_says 65 = .ok (.iconst 0, 1) := by decide +kernel
theorem dX12_says_66 : decode cX12_says 66 = .ok (.iaload, 1) := by decide +kernel
theorem dX12_says_67 : decode cX12_says 67 = .ok (.ireturn, 1) := by decide +kernel
theorem dX12_says_68 : decode cX12_says 68 = .ok (.iconst 0, 1) := by decide +kernel
theorem dX12_says_69 : decode cX12_says 69 = .ok (.istore 4, 2) := by decide +kernel
theorem dX12_says_71 : decode cX12_says 71 = .ok (.iinc 3 1, 3) := by decide +kernel
theorem dX12_says_74 : decode cX12_says 74 = .ok (.iconst 0, 1) := by decide +kernel
theorem dX12_says_75 : decode cX12_says 75 = .ok (.istore_n 2, 1) := by decide +kernel
theorem dX12_says_76 : decode cX12_says 76 = .ok (.goto 111, 3) := by decide +kernel
theorem dX12_says_79 : decode cX12_says 79 = .ok (.iload 6, 2) := by decide +kernel
theorem dX12_says_81 : decode cX12_says 81 = .ok (.iconst 2, 1) := by decide +kernel
theorem dX12_says_82 : decode cX12_says 82 = .ok (.if_icmp .ne 24, 3) := by decide +kernel
theorem dX12_says_85 : decode cX12_says 85 = .ok (.aload_n 0, 1) := by decide +kernel
theorem dX12_says_86 : decode cX12_says 86 = .ok (.getfield 127, 3) := by decide +kernel
theorem dX12_says_89 : decode cX12_says 89 = .ok (.iconst 0, 1) := by decide +kernel
theorem dX12_says_90 : decode cX12_says 90 = .ok (.iaload, 1) := by decide +kernel
theorem dX12_says_91 : decode cX12_says 91 = .ok (.ifCond .ne 7, 3) := by decide +kernel
theorem dX12_says_94 : decode cX12_says 94 = .ok (.iconst 1, 1) := by decide +kernel
theorem dX12_says_95 : decode cX12_says 95 = .ok (.goto 4, 3) := by decide +kernel
theorem dX12_says_98 : decode cX12_says 98 = .ok (.iconst 0, 1) := by decide +kernel
theorem dX12_says_99 : decode cX12_says 99 = .ok (.istore 4, 2) := by decide +kernel
theorem dX12_says_101 : decode cX12_says 101 = .ok (.iconst 0, 1) := by decide +kernel
theorem dX12_says_102 : decode cX12_says 102 = .ok (.istore_n 2, 1) := by decide +kernel
theorem dX12_says_103 : decode cX12_says 103 = .ok (.goto 84, 3) := by decide +kernel
theorem dX12_says_106 : decode cX12_says 106 = .ok (.iload 6, 2) := by decide +kernel
theorem dX12_says_108 : decode cX12_says 108 = .ok (.iconst 1, 1) := by decide +kernel
theorem dX12_says_109 : decode cX12_says 109 = .ok (.if_icmp .eq 10, 3) := by decide +kernel
theorem dX12_says_112 : decode cX12_says 112 = .ok (.iload 6, 2) := by decide +kernel
theorem dX12_says_114 : decode cX12_says 114 = .ok (.bipush 100, 2) := by decide +kernel
theorem dX12_says_116 : decode cX12_says 116 = .ok (.if_icmp .lt 41, 3) := by decide +kernel
theorem dX12_says_119 : decode cX12_says 119 = .ok (.aload_n 0, 1) := by decide +kernel
theorem dX12_says_120 : decode cX12_says 120 = .ok (.getfield 127, 3) := by decide +kernel
theorem dX12_says_123 : decode cX12_says 123 = .ok (.iload_n 2, 1) := by decide +kernel
theorem dX12_says_124 : decode cX12_says 124 = .ok (.iload 6, 2) := by decide +kernel
theorem dX12_says_126 : decode cX12_says 126 = .ok (.iconst 1, 1) := by decide +kernel
theorem dX12_says_127 : decode cX12_says 127 = .ok (.if_icmp .ne 13, 3) := by decide +kernel
theorem dX12_says_130 : decode cX12_says 130 = .ok (.aload_n 0, 1) := by decide +kernel
theorem dX12_says_131 : decode cX12_says 131 = .ok (.getfield 118, 3) := by decide +kernel
theorem dX12_says_134 : decode cX12_says 134 = .ok (.iload 5, 2) := by decide +kernel
theorem dX12_says_136 : decode cX12_says 136 = .ok (.iaload, 1) := by decide +kernel
theorem dX12_says_137 : decode cX12_says 137 = .ok (.goto 13, 3) := by decide +kernel
theorem dX12_says_140 : decode cX12_says 140 = .ok (.aload_n 0, 1) := by decide +kernel
theorem dX12_says_141 : decode cX12_says 141 = .ok (.getfield 124, 3) := by decide +kernel
theorem dX12_says_144 : decode cX12_says 144 = .ok (.iload 6, 2) := by decide +kernel
theorem dX12_says_146 : decode cX12_says 146 = .ok (.bipush 100, 2) := by decide +kernel
theorem dX12_says_148 : decode cX12_says 148 = .ok (.isub, 1) := by decide +kernel
theorem dX12_says_149 : decode cX12_says 149 = .ok (.iaload, 1) := by decide +kernel
theorem dX12_says_150 : decode cX12_says 150 = .ok (.iastore, 1) := by decide +kernel
theorem dX12_says_151 : decode cX12_says 151 = .ok (.iinc 2 1, 3) := by decide +kernel
theorem dX12_says_154 : decode cX12_says 154 = .ok (.goto 33, 3) := by decide +kernel
theorem dX12_says_157 : decode cX12_says 157 = .ok (.iinc 2 (-1), 3) := by decide +kernel
theorem dX12_says_160 : decode cX12_says 160 = .ok (.aload_n 0, 1) := by decide +kernel
theorem dX12_says_161 : decode cX12_says 161 = .ok (.getfield 127, 3) := by decide +kernel
theorem dX12_says_164 : decode cX12_says 164 = .ok (.iload_n 2, 1) := by decide +kernel
theorem dX12_says_165 : decode cX12_says 165 = .ok (.iconst 1, 1) := by decide +kernel
theorem dX12_says_166 : decode cX12_says 166 = .ok (.isub, 1) := by decide +kernel
theorem dX12_says_167 : decode cX12_says 167 = .ok (.iload 6, 2) := by decide +kernel
theorem dX12_says_169 : decode cX12_says 169 = .ok (.aload_n 0, 1) := by decide +kernel
theorem dX12_says_170 : decode cX12_says 170 = .ok (.getfield 127, 3) := by decide +kernel
theorem dX12_says_173 : decode cX12_says 173 = .ok (.iload_n 2, 1) := by decide +kernel
theorem dX12_says_174 : decode cX12_says 174 = .ok (.iconst 1, 1) := by decide +kernel
theorem dX12_says_175 : decode cX12_says 175 = .ok (.isub, 1) := by decide +kernel
theorem dX12_says_176 : decode cX12_says 176 = .ok (.iaload, 1) := by decide +kernel
theorem dX12_says_177 : decode cX12_says 177 = .ok (.aload_n 0, 1) := by decide +kernel
theorem dX12_says_178 : decode cX12_says 178 = .ok (.getfield 127, 3) := by decide +kernel
theorem dX12_says_181 : decode cX12_says 181 = .ok (.iload_n 2, 1) := by decide +kernel
theorem dX12_says_182 : decode cX12_says 182 = .ok (.iaload, 1) := by decide +kernel
theorem dX12_says_183 : decode cX12_says 183 = .ok (.invokestatic 294, 3) := by decide +kernel
theorem dX12_says_186 : decode cX12_says 186 = .ok (.iastore, 1) := by decide +kernel
theorem dX12_says_187 : decode cX12_says 187 = .ok (.iinc 5 1, 3) := by decide +kernel
theorem dX12_says_190 : decode cX12_says 190 = .ok (.goto (-171), 3) := by decide +kernel
theorem dX12_says_193 : decode cX12_says 193 = .ok (.iconst 0, 1) := by decide +kernel
theorem dX12_says_194 : decode cX12_says 194 = .ok (.ireturn, 1) := by decide +kernel
theorem dX12_clamp_0 : decode cX12_clamp 0 = .ok (.iload_n 0, 1) := by decide +kernel
theorem dX12_clamp_1 : decode cX12_clamp 1 = .ok (.ifCond .ge 7, 3) := by decide +kernel
theorem dX12_clamp_4 : decode cX12_clamp 4 = .ok (.iconst 0, 1) := by decide +kernel
theorem dX12_clamp_5 : decode cX12_clamp 5 = .ok (.goto 15, 3) := by decide +kernel
theorem dX12_clamp_8 : decode cX12_clamp 8 = .ok (.iload_n 0, 1) := by decide +kernel
theorem dX12_clamp_9 : decode cX12_clamp 9 = .ok (.ldc 189, 2) := by decide +kernel
theorem dX12_clamp_11 : decode cX12_clamp 11 = .ok (.if_icmp .le 8, 3) := by decide +kernel
theorem dX12_clamp_14 : decode cX12_clamp 14 = .ok (.ldc 189, 2) := by decide +kernel
theorem dX12_clamp_16 : decode cX12_clamp 16 = .ok (.goto 4, 3) := by decide +kernel
theorem dX12_clamp_19 : decode cX12_clamp 19 = .ok (.iload_n 0, 1) := by decide +kernel
theorem dX12_clamp_20 : decode cX12_clamp 20 = .ok (.ireturn, 1) := by decide +kernel
theorem dX12_part_0 : decode cX12_part 0 = .ok (.aload_n 0, 1) := by decide +kernel
theorem dX12_part_1 : decode cX12_part 1 = .ok (.getfield 124, 3) := by decide +kernel
theorem dX12_part_4 : decode cX12_part 4 = .ok (.bipush 102, 2) := by decide +kernel
theorem dX12_part_6 : decode cX12_part 6 = .ok (.iload_n 3, 1) := by decide +kernel
theorem dX12_part_7 : decode cX12_part 7 = .ok (.ifCond .eq 12, 3) := by decide +kernel
theorem dX12_part_10 : decode cX12_part 10 = .ok (.aload_n 0, 1) := by decide +kernel
theorem dX12_part_11 : decode cX12_part 11 = .ok (.getfield 87, 3) := by decide +kernel
theorem dX12_part_14 : decode cX12_part 14 = .ok (.iload_n 2, 1) := by decide +kernel
theorem dX12_part_15 : decode cX12_part 15 = .ok (.iaload, 1) := by decide +kernel
theorem dX12_part_16 : decode cX12_part 16 = .ok (.goto 9, 3) := by decide +kernel
theorem dX12_part_19 : decode cX12_part 19 = .ok (.aload_n 0, 1) := by decide +kernel
theorem dX12_part_20 : decode cX12_part 20 = .ok (.getfield 93, 3) := by decide +kernel
theorem dX12_part_23 : decode cX12_part 23 = .ok (.iload_n 2, 1) := by decide +kernel
theorem dX12_part_24 : decode cX12_part 24 = .ok (.iaload, 1) := by decide +kernel
theorem dX12_part_25 : decode cX12_part 25 = .ok (.iastore, 1) := by decide +kernel
theorem dX12_part_26 : decode cX12_part 26 = .ok (.aload_n 0, 1) := by decide +kernel
theorem dX12_part_27 : decode cX12_part 27 = .ok (.getfield 124, 3) := by decide +kernel
theorem dX12_part_30 : decode cX12_part 30 = .ok (.bipush 103, 2) := by decide +kernel
theorem dX12_part_32 : decode cX12_part 32 = .ok (.iload_n 3, 1) := by decide +kernel
theorem dX12_part_33 : decode cX12_part 33 = .ok (.ifCond .eq 12, 3) := by decide +kernel
theorem dX12_part_36 : decode cX12_part 36 = .ok (.aload_n 0, 1) := by decide +kernel
theorem dX12_part_37 : decode cX12_part 37 = .ok (.getfield 93, 3) := by decide +kernel
theorem dX12_part_40 : decode cX12_part 40 = .ok (.iload_n 2, 1) := by decide +kernel
theorem dX12_part_41 : decode cX12_part 41 = .ok (.iaload, 1) := by decide +kernel
theorem dX12_part_42 : decode cX12_part 42 = .ok (.goto 9, 3) := by decide +kernel
theorem dX12_part_45 : decode cX12_part 45 = .ok (.aload_n 0, 1) := by decide +kernel
theorem dX12_part_46 : decode cX12_part 46 = .ok (.getfield 87, 3) := by decide +kernel
theorem dX12_part_49 : decode cX12_part 49 = .ok (.iload_n 2, 1) := by decide +kernel
theorem dX12_part_50 : decode cX12_part 50 = .ok (.iaload, 1) := by decide +kernel
theorem dX12_part_51 : decode cX12_part 51 = .ok (.iastore, 1) := by decide +kernel
theorem dX12_part_52 : decode cX12_part 52 = .ok (.aload_n 0, 1) := by decide +kernel
theorem dX12_part_53 : decode cX12_part 53 = .ok (.getfield 124, 3) := by decide +kernel
theorem dX12_part_56 : decode cX12_part 56 = .ok (.bipush 118, 2) := by decide +kernel
theorem dX12_part_58 : decode cX12_part 58 = .ok (.aload_n 0, 1) := by decide +kernel
theorem dX12_part_59 : decode cX12_part 59 = .ok (.getfield 96, 3) := by decide +kernel
theorem dX12_part_62 : decode cX12_part 62 = .ok (.iload_n 2, 1) := by decide +kernel
theorem dX12_part_63 : decode cX12_part 63 = .ok (.iaload, 1) := by decide +kernel
theorem dX12_part_64 : decode cX12_part 64 = .ok (.iastore, 1) := by decide +kernel
theorem dX12_part_65 : decode cX12_part 65 = .ok (.aload_n 0, 1) := by decide +kernel
theorem dX12_part_66 : decode cX12_part 66 = .ok (.getfield 124, 3) := by decide +kernel
theorem dX12_part_69 : decode cX12_part 69 = .ok (.bipush 115, 2) := by decide +kernel
theorem dX12_part_71 : decode cX12_part 71 = .ok (.iload_n 3, 1) := by decide +kernel
theorem dX12_part_72 : decode cX12_part 72 = .ok (.ifCond .eq 12, 3) := by decide +kernel
theorem dX12_part_75 : decode cX12_part 75 = .ok (.aload_n 0, 1) := by decide +kernel
theorem dX12_part_76 : decode cX12_part 76 = .ok (.getfield 84, 3) := by decide +kernel
theorem dX12_part_79 : decode cX12_part 79 = .ok (.iload_n 2, 1) := by decide +kernel
theorem dX12_part_80 : decode cX12_part 80 = .ok (.iaload, 1) := by decide +kernel
theorem dX12_part_81 : decode cX12_part 81 = .ok (.goto 9, 3) := by decide +kernel
theorem dX12_part_84 : decode cX12_part 84 = .ok (.aload_n 0, 1) := by decide +kernel
theorem dX12_part_85 : decode cX12_part 85 = .ok (.getfield 90, 3) := by decide +kernel
theorem dX12_part_88 : decode cX12_part 88 = .ok (.iload_n 2, 1) := by decide +kernel
theorem dX12_part_89 : decode cX12_part 89 = .ok (.iaload, 1) := by decide +kernel
theorem dX12_part_90 : decode cX12_part 90 = .ok (.iastore, 1) := by decide +kernel
theorem dX12_part_91 : decode cX12_part 91 = .ok (.aload_n 0, 1) := by decide +kernel
theorem dX12_part_92 : decode cX12_part 92 = .ok (.getfield 124, 3) := by decide +kernel
theorem dX12_part_95 : decode cX12_part 95 = .ok (.bipush 99, 2) := by decide +kernel
theorem dX12_part_97 : decode cX12_part 97 = .ok (.aload_n 0, 1) := by decide +kernel
theorem dX12_part_98 : decode cX12_part 98 = .ok (.getfield 90, 3) := by decide +kernel
theorem dX12_part_101 : decode cX12_part 101 = .ok (.iload_n 2, 1) := by decide +kernel
theorem dX12_part_102 : decode cX12_part 102 = .ok (.iaload, 1) := by decide +kernel
theorem dX12_part_103 : decode cX12_part 103 = .ok (.ifCond .ge 7, 3) := by decide +kernel
theorem dX12_part_106 : decode cX12_part 106 = .ok (.iconst 0, 1) := by decide +kernel
theorem dX12_part_107 : decode cX12_part 107 = .ok (.goto 4, 3) := by decide +kernel
theorem dX12_part_110 : decode cX12_part 110 = .ok (.iconst 1, 1) := by decide +kernel
theorem dX12_part_111 : decode cX12_part 111 = .ok (.iastore, 1) := by decide +kernel
theorem dX12_part_112 : decode cX12_part 112 = .ok (.aload_n 0, 1) := by decide +kernel
theorem dX12_part_113 : decode cX12_part 113 = .ok (.getfield 124, 3) := by decide +kernel
theorem dX12_part_116 : decode cX12_part 116 = .ok (.bipush 121, 2) := by decide +kernel
theorem dX12_part_118 : decode cX12_part 118 = .ok (.iload 4, 2) := by decide +kernel
theorem dX12_part_120 : decode cX12_part 120 = .ok (.sipush 365, 3) := by decide +kernel
theorem dX12_part_123 : decode cX12_part 123 = .ok (.idiv, 1) := by decide +kernel
theorem dX12_part_124 : decode cX12_part 124 = .ok (.iastore, 1) := by decide +kernel
theorem dX12_part_125 : decode cX12_part 125 = .ok (.aload_n 0, 1) := by decide +kernel
theorem dX12_part_126 : decode cX12_part 126 = .ok (.iload_n 1, 1) := by decide +kernel
theorem dX12_part_127 : decode cX12_part 127 = .ok (.invokevirtual 297, 3) := by decide +kernel
theorem dX12_part_130 : decode cX12_part 130 = .ok (.invokestatic 300, 3) := by decide +kernel
theorem dX12_part_133 : decode cX12_part 133 = .ok (.ireturn, 1) := by decide +kernel
theorem dX12_isHouse_0 : decode cX12_isHouse 0 = .ok (.iload_n 1, 1) := by decide +kernel
theorem dX12_isHouse_1 : decode cX12_isHouse 1 = .ok (.iconst 0, 1) := by decide +kernel
theorem dX12_isHouse_2 : decode cX12_isHouse 2 = .ok (.aload_n 0, 1) := by decide +kernel
theorem dX12_isHouse_3 : decode cX12_isHouse 3 = .ok (.getfield 234, 3) := by decide +kernel
theorem dX12_isHouse_6 : decode cX12_isHouse 6 = .ok (.iconst 1, 1) := by decide +kernel
theorem dX12_isHouse_7 : decode cX12_isHouse 7 = .ok (.isub, 1) := by decide +kernel
theorem dX12_isHouse_8 : decode cX12_isHouse 8 = .ok (.invokestatic 164, 3) := by decide +kernel
theorem dX12_isHouse_11 : decode cX12_isHouse 11 = .ok (.ireturn, 1) := by decide +kernel
theorem dX12_rate_0 : decode cX12_rate 0 = .ok (.aload_n 0, 1) := by decide +kernel
theorem dX12_rate_1 : decode cX12_rate 1 = .ok (.iload_n 1, 1) := by decide +kernel
theorem dX12_rate_2 : decode cX12_rate 2 = .ok (.invokevirtual 303, 3) := by decide +kernel
theorem dX12_rate_5 : decode cX12_rate 5 = .ok (.ifCond .eq 17, 3) := by decide +kernel
theorem dX12_rate_8 : decode cX12_rate 8 = .ok (.iload_n 2, 1) := by decide +kernel
theorem dX12_rate_9 : decode cX12_rate 9 = .ok (.invokestatic 285, 3) := by decide +kernel
theorem dX12_rate_12 : decode cX12_rate 12 = .ok (.ifCond .eq 10, 3) := by decide +kernel
theorem dX12_rate_15 : decode cX12_rate 15 = .ok (.iload_n 3, 1) := by decide +kernel
theorem dX12_rate_16 : decode cX12_rate 16 = .ok (.invokestatic 285, 3) := by decide +kernel
theorem dX12_rate_19 : decode cX12_rate 19 = .ok (.ifCond .ne 7, 3) := by decide +kernel
theorem dX12_rate_22 : decode cX12_rate 22 = .ok (.ldc_w 306, 3) := by decide +kernel
theorem dX12_rate_25 : decode cX12_rate 25 = .ok (.ireturn, 1) := by decide +kernel
theorem dX12_rate_26 : decode cX12_rate 26 = .ok (.aload_n 0, 1) := by decide +kernel
theorem dX12_rate_27 : decode cX12_rate 27 = .ok (.iconst 0, 1) := by decide +kernel
theorem dX12_rate_28 : decode cX12_rate 28 = .ok (.iload_n 2, 1) := by decide +kernel
theorem dX12_rate_29 : decode cX12_rate 29 = .ok (.iload_n 3, 1) := by decide +kernel
theorem dX12_rate_30 : decode cX12_rate 30 = .ok (.invokevirtual 288, 3) := by decide +kernel
theorem dX12_rate_33 : decode cX12_rate 33 = .ok (.istore 4, 2) := by decide +kernel
theorem dX12_rate_35 : decode cX12_rate 35 = .ok (.iload 4, 2) := by decide +kernel
theorem dX12_rate_37 : decode cX12_rate 37 = .ok (.ifCond .ge 5, 3) := by decide +kernel
theorem dX12_rate_40 : decode cX12_rate 40 = .ok (.iconst 0, 1) := by decide +kernel
theorem dX12_rate_41 : decode cX12_rate 41 = .ok (.ireturn, 1) := by decide +kernel
theorem dX12_rate_42 : decode cX12_rate 42 = .ok (.aload_n 0, 1) := by decide +kernel
theorem dX12_rate_43 : decode cX12_rate 43 = .ok (.iload 4, 2) := by decide +kernel
theorem dX12_rate_45 : decode cX12_rate 45 = .ok (.iload_n 1, 1) := by decide +kernel
theorem dX12_rate_46 : decode cX12_rate 46 = .ok (.iconst 1, 1) := by decide +kernel
theorem dX12_rate_47 : decode cX12_rate 47 = .ok (.iload_n 2, 1) := by decide +kernel
theorem dX12_rate_48 : decode cX12_rate 48 = .ok (.invokevirtual 307, 3) := by decide +kernel
theorem dX12_rate_51 : decode cX12_rate 51 = .ok (.aload_n 0, 1) := by decide +kernel
theorem dX12_rate_52 : decode cX12_rate 52 = .ok (.getfield 90, 3) := by decide +kernel
theorem dX12_rate_55 : decode cX12_rate 55 = .ok (.iload_n 1, 1) := by decide +kernel
theorem dX12_rate_56 : decode cX12_rate 56 = .ok (.iaload, 1) := by decide +kernel
theorem dX12_rate_57 : decode cX12_rate 57 = .ok (.ifCond .ge 7, 3) := by decide +kernel
theorem dX12_rate_60 : decode cX12_rate 60 = .ok (.iconst 0, 1) := by decide +kernel
theorem dX12_rate_61 : decode cX12_rate 61 = .ok (.goto 12, 3) := by decide +kernel
theorem dX12_rate_64 : decode cX12_rate 64 = .ok (.aload_n 0, 1) := by decide +kernel
theorem dX12_rate_65 : decode cX12_rate 65 = .ok (.iload 4, 2) := by decide +kernel
theorem dX12_rate_67 : decode cX12_rate 67 = .ok (.iload_n 1, 1) := by decide +kernel
theorem dX12_rate_68 : decode cX12_rate 68 = .ok (.iconst 0, 1) := by decide +kernel
theorem dX12_rate_69 : decode cX12_rate 69 = .ok (.iload_n 2, 1) := by decide +kernel
theorem dX12_rate_70 : decode cX12_rate 70 = .ok (.invokevirtual 307, 3) := by decide +kernel
theorem dX12_rate_73 : decode cX12_rate 73 = .ok (.iadd, 1) := by decide +kernel
theorem dX12_rate_74 : decode cX12_rate 74 = .ok (.ireturn, 1) := by decide +kernel
theorem dX12_rates_0 : decode cX12_rates 0 = .ok (.aload_n 0, 1) := by decide +kernel
theorem dX12_rates_1 : decode cX12_rates 1 = .ok (.iload_n 1, 1) := by decide +kernel
theorem dX12_rates_2 : decode cX12_rates 2 = .ok (.invokevirtual 168, 3) := by decide +kernel
theorem dX12_rates_5 : decode cX12_rates 5 = .ok (.ifCond .eq 10, 3) := by decide +kernel
theorem dX12_rates_8 : decode cX12_rates 8 = .ok (.iload_n 2, 1) := by decide +kernel
theorem dX12_rates_9 : decode cX12_rates 9 = .ok (.invokestatic 285, 3) := by decide +kernel
theorem dX12_rates_12 : decode cX12_rates 12 = .ok (.ifCond .ne 7, 3) := by decide +kernel
theorem dX12_rates_15 : decode cX12_rates 15 = .ok (.ldc_w 306, 3) := by decide +kernel
theorem dX12_rates_18 : decode cX12_rates 18 = .ok (.ireturn, 1) := by decide +kernel
theorem dX12_rates_19 : decode cX12_rates 19 = .ok (.aload_n 0, 1) := by decide +kernel
theorem dX12_rates_20 : decode cX12_rates 20 = .ok (.iconst 0, 1) := by decide +kernel
theorem dX12_rates_21 : decode cX12_rates 21 = .ok (.iload_n 2, 1) := by decide +kernel
theorem dX12_rates_22 : decode cX12_rates 22 = .ok (.iload_n 2, 1) := by decide +kernel
theorem dX12_rates_23 : decode cX12_rates 23 = .ok (.invokevirtual 288, 3) := by decide +kernel
theorem dX12_rates_26 : decode cX12_rates 26 = .ok (.istore_n 3, 1) := by decide +kernel
theorem dX12_rates_27 : decode cX12_rates 27 = .ok (.iconst 0, 1) := by decide +kernel
theorem dX12_rates_28 : decode cX12_rates 28 = .ok (.istore 4, 2) := by decide +kernel
theorem dX12_rates_30 : decode cX12_rates 30 = .ok (.iconst 0, 1) := by decide +kernel
theorem dX12_rates_31 : decode cX12_rates 31 = .ok (.istore 5, 2) := by decide +kernel
theorem dX12_rates_33 : decode cX12_rates 33 = .ok (.iload 5, 2) := by decide +kernel
theorem dX12_rates_35 : decode cX12_rates 35 = .ok (.aload_n 0, 1) := by decide +kernel
theorem dX12_rates_36 : decode cX12_rates 36 = .ok (.getfield 234, 3) := by decide +kernel
theorem dX12_rates_39 : decode cX12_rates 39 = .ok (.if_icmp .ge 63, 3) := by decide +kernel
theorem dX12_rates_42 : decode cX12_rates 42 = .ok (.iload_n 3, 1) := by decide +kernel
theorem dX12_rates_43 : decode cX12_rates 43 = .ok (.ifCond .lt 59, 3) := by decide +kernel
theorem dX12_rates_46 : decode cX12_rates 46 = .ok (.aload_n 0, 1) := by decide +kernel
theorem dX12_rates_47 : decode cX12_rates 47 = .ok (.getfield 84, 3) := by decide +kernel
theorem dX12_rates_50 : decode cX12_rates 50 = .ok (.iload 5, 2) := by decide +kernel
theorem dX12_rates_52 : decode cX12_rates 52 = .ok (.iaload, 1) := by decide +kernel
theorem dX12_rates_53 : decode cX12_rates 53 = .ok (.iload_n 1, 1) := by decide +kernel
theorem dX12_rates_54 : decode cX12_rates 54 = .ok (.if_icmp .ne 17, 3) := by decide +kernel
theorem dX12_rates_57 : decode cX12_rates 57 = .ok (.iload 4, 2) := by decide +kernel
theorem dX12_rates_59 : decode cX12_rates 59 = .ok (.aload_n 0, 1) := by decide +kernel
theorem dX12_rates_60 : decode cX12_rates 60 = .ok (.iload_n 3, 1) := by decide +kernel
theorem dX12_rates_61 : decode cX12_rates 61 = .ok (.iload 5, 2) := by decide +kernel
theorem dX12_rates_63 : decode cX12_rates 63 = .ok (.iconst 1, 1) := by decide +kernel
theorem dX12_rates_64 : decode cX12_rates 64 = .ok (.iload_n 2, 1) := by decide +kernel
theorem dX12_rates_65 : decode cX12_rates 65 = .ok (.invokevirtual 307, 3) := by decide +kernel
theorem dX12_rates_68 : decode cX12_rates 68 = .ok (.iadd, 1) := by decide +kernel
theorem dX12_rates_69 : decode cX12_rates 69 = .ok (.istore 4, 2) := by decide +kernel
theorem dX12_rates_71 : decode cX12_rates 71 = .ok (.aload_n 0, 1) := by decide +kernel
theorem dX12_rates_72 : decode cX12_rates 72 = .ok (.getfield 90, 3) := by decide +kernel
theorem dX12_rates_75 : decode cX12_rates 75 = .ok (.iload 5, 2) := by decide +kernel
theorem dX12_rates_77 : decode cX12_rates 77 = .ok (.iaload, 1) := by decide +kernel
theorem dX12_rates_78 : decode cX12_rates 78 = .ok (.iload_n 1, 1) := by decide +kernel
theorem dX12_rates_79 : decode cX12_rates 79 = .ok (.if_icmp .ne 17, 3) := by decide +kernel
theorem dX12_rates_82 : decode cX12_rates 82 = .ok (.iload 4, 2) := by decide +kernel
theorem dX12_rates_84 : decode cX12_rates 84 = .ok (.aload_n 0, 1) := by decide +kernel
theorem dX12_rates_85 : decode cX12_rates 85 = .ok (.iload_n 3, 1) := by decide +kernel
theorem dX12_rates_86 : decode cX12_rates 86 = .ok (.iload 5, 2) := by decide +kernel
theorem dX12_rates_88 : decode cX12_rates 88 = .ok (.iconst 0, 1) := by decide +kernel
theorem dX12_rates_89 : decode cX12_rates 89 = .ok (.iload_n 2, 1) := by decide +kernel
theorem dX12_rates_90 : decode cX12_rates 90 = .ok (.invokevirtual 307, 3) := by decide +kernel
theorem dX12_rates_93 : decode cX12_rates 93 = .ok (.iadd, 1) := by decide +kernel
theorem dX12_rates_94 : decode cX12_rates 94 = .ok (.istore 4, 2) := by decide +kernel
theorem dX12_rates_96 : decode cX12_rates 96 = .ok (.iinc 5 1, 3) := by decide +kernel
theorem dX12_rates_99 : decode cX12_rates 99 = .ok (.goto (-66), 3) := by decide +kernel
theorem dX12_rates_102 : decode cX12_rates 102 = .ok (.iload 4, 2) := by decide +kernel
theorem dX12_rates_104 : decode cX12_rates 104 = .ok (.ireturn, 1) := by decide +kernel
theorem dX12_clause_0 : decode cX12_clause 0 = .ok (.aload_n 0, 1) := by decide +kernel
theorem dX12_clause_1 : decode cX12_clause 1 = .ok (.iload_n 1, 1) := by decide +kernel
theorem dX12_clause_2 : decode cX12_clause 2 = .ok (.invokevirtual 303, 3) := by decide +kernel
theorem dX12_clause_5 : decode cX12_clause 5 = .ok (.ifCond .eq 10, 3) := by decide +kernel
theorem dX12_clause_8 : decode cX12_clause 8 = .ok (.iload_n 2, 1) := by decide +kernel
theorem dX12_clause_9 : decode cX12_clause 9 = .ok (.invokestatic 285, 3) := by decide +kernel
theorem dX12_clause_12 : decode cX12_clause 12 = .ok (.ifCond .ne 5, 3) := by decide +kernel
theorem dX12_clause_15 : decode cX12_clause 15 = .ok (.iconst (-1), 1) := by decide +kernel
theorem dX12_clause_16 : decode cX12_clause 16 = .ok (.ireturn, 1) := by decide +kernel
theorem dX12_clause_17 : decode cX12_clause 17 = .ok (.aload_n 0, 1) := by decide +kernel
theorem dX12_clause_18 : decode cX12_clause 18 = .ok (.iconst 0, 1) := by decide +kernel
theorem dX12_clause_19 : decode cX12_clause 19 = .ok (.iload_n 2, 1) := by decide +kernel
theorem dX12_clause_20 : decode cX12_clause 20 = .ok (.iload_n 2, 1) := by decide +kernel
theorem dX12_clause_21 : decode cX12_clause 21 = .ok (.invokevirtual 288, 3) := by decide +kernel
theorem dX12_clause_24 : decode cX12_clause 24 = .ok (.istore_n 3, 1) := by decide +kernel
theorem dX12_clause_25 : decode cX12_clause 25 = .ok (.iload_n 3, 1) := by decide +kernel
theorem dX12_clause_26 : decode cX12_clause 26 = .ok (.ifCond .ge 6, 3) := by decide +kernel
theorem dX12_clause_29 : decode cX12_clause 29 = .ok (.bipush (-2), 2) := by decide +kernel
theorem dX12_clause_31 : decode cX12_clause 31 = .ok (.ireturn, 1) := by decide +kernel
theorem dX12_clause_32 : decode cX12_clause 32 = .ok (.aload_n 0, 1) := by decide +kernel
theorem dX12_clause_33 : decode cX12_clause 33 = .ok (.iload_n 3, 1) := by decide +kernel
theorem dX12_clause_34 : decode cX12_clause 34 = .ok (.iload_n 1, 1) := by decide +kernel
theorem dX12_clause_35 : decode cX12_clause 35 = .ok (.iconst 1, 1) := by decide +kernel
theorem dX12_clause_36 : decode cX12_clause 36 = .ok (.iload_n 2, 1) := by decide +kernel
theorem dX12_clause_37 : decode cX12_clause 37 = .ok (.invokevirtual 307, 3) := by decide +kernel
theorem dX12_clause_40 : decode cX12_clause 40 = .ok (.istore 4, 2) := by decide +kernel
theorem dX12_clause_42 : decode cX12_clause 42 = .ok (.aload_n 0, 1) := by decide +kernel
theorem dX12_clause_43 : decode cX12_clause 43 = .ok (.getfield 291, 3) := by decide +kernel
theorem dX12_clause_46 : decode cX12_clause 46 = .ok (.ifCond .ge 8, 3) := by decide +kernel
theorem dX12_clause_49 : decode cX12_clause 49 = .ok (.bipush (-2), 2) := by decide +kernel
theorem dX12_clause_51 : decode cX12_clause 51 = .ok (.goto 7, 3) := by decide +kernel
theorem dX12_clause_54 : decode cX12_clause 54 = .ok (.aload_n 0, 1) := by decide +kernel
theorem dX12_clause_55 : decode cX12_clause 55 = .ok (.getfield 291, 3) := by decide +kernel
theorem dX12_clause_58 : decode cX12_clause 58 = .ok (.ireturn, 1) := by decide +kernel
theorem dX12_isAt_0 : decode cX12_isAt 0 = .ok (.iload_n 2, 1) := by decide +kernel
theorem dX12_isAt_1 : decode cX12_isAt 1 = .ok (.ifCond .lt 23, 3) := by decide +kernel
theorem dX12_isAt_4 : decode cX12_isAt 4 = .ok (.aload_n 0, 1) := by decide +kernel
theorem dX12_isAt_5 : decode cX12_isAt 5 = .ok (.iload_n 1, 1) := by decide +kernel
theorem dX12_isAt_6 : decode cX12_isAt 6 = .ok (.iload_n 2, 1) := by decide +kernel
theorem dX12_isAt_7 : decode cX12_isAt 7 = .ok (.bipush 16, 2) := by decide +kernel
theorem dX12_isAt_9 : decode cX12_isAt 9 = .ok (.idiv, 1) := by decide +kernel
theorem dX12_isAt_10 : decode cX12_isAt 10 = .ok (.iload_n 2, 1) := by decide +kernel
theorem dX12_isAt_11 : decode cX12_isAt 11 = .ok (.bipush 16, 2) := by decide +kernel
theorem dX12_isAt_13 : decode cX12_isAt 13 = .ok (.irem, 1) := by decide +kernel
theorem dX12_isAt_14 : decode cX12_isAt 14 = .ok (.invokevirtual 172, 3) := by decide +kernel
theorem dX12_isAt_17 : decode cX12_isAt 17 = .ok (.ifCond .eq 7, 3) := by decide +kernel
theorem dX12_isAt_20 : decode cX12_isAt 20 = .ok (.iconst 1, 1) := by decide +kernel
theorem dX12_isAt_21 : decode cX12_isAt 21 = .ok (.goto 4, 3) := by decide +kernel
theorem dX12_isAt_24 : decode cX12_isAt 24 = .ok (.iconst 0, 1) := by decide +kernel
theorem dX12_isAt_25 : decode cX12_isAt 25 = .ok (.ireturn, 1) := by decide +kernel
theorem dX12_openNow_0 : decode cX12_openNow 0 = .ok (.iconst 0, 1) := by decide +kernel
theorem dX12_openNow_1 : decode cX12_openNow 1 = .ok (.istore_n 3, 1) := by decide +kernel
theorem dX12_openNow_2 : decode cX12_openNow 2 = .ok (.iload_n 3, 1) := by decide +kernel
theorem dX12_openNow_3 : decode cX12_openNow 3 = .ok (.aload_n 0, 1) := by decide +kernel
theorem dX12_openNow_4 : decode cX12_openNow 4 = .ok (.getfield 311, 3) := by decide +kernel
theorem dX12_openNow_7 : decode cX12_openNow 7 = .ok (.if_icmp .ge 40, 3) := by decide +kernel
theorem dX12_openNow_10 : decode cX12_openNow 10 = .ok (.aload_n 0, 1) := by decide +kernel
theorem dX12_openNow_11 : decode cX12_openNow 11 = .ok (.getfield 133, 3) := by decide +kernel
theorem dX12_openNow_14 : decode cX12_openNow 14 = .ok (.iload_n 3, 1) := by decide +kernel
theorem dX12_openNow_15 : decode cX12_openNow 15 = .ok (.iaload, 1) := by decide +kernel
theorem dX12_openNow_16 : decode cX12_openNow 16 = .ok (.iload_n 1, 1) := by decide +kernel
theorem dX12_openNow_17 : decode cX12_openNow 17 = .ok (.if_icmp .ne 24, 3) := by decide +kernel
theorem dX12_openNow_20 : decode cX12_openNow 20 = .ok (.aload_n 0, 1) := by decide +kernel
theorem dX12_openNow_21 : decode cX12_openNow 21 = .ok (.getfield 136, 3) := by decide +kernel
theorem dX12_openNow_24 : decode cX12_openNow 24 = .ok (.iload_n 3, 1) := by decide +kernel
theorem dX12_openNow_25 : decode cX12_openNow 25 = .ok (.iaload, 1) := by decide +kernel
theorem dX12_openNow_26 : decode cX12_openNow 26 = .ok (.iload_n 2, 1) := by decide +kernel
theorem dX12_openNow_27 : decode cX12_openNow 27 = .ok (.if_icmp .ne 14, 3) := by decide +kernel
theorem dX12_openNow_30 : decode cX12_openNow 30 = .ok (.aload_n 0, 1) := by decide +kernel
theorem dX12_openNow_31 : decode cX12_openNow 31 = .ok (.getfield 145, 3) := by decide +kernel
theorem dX12_openNow_34 : decode cX12_openNow 34 = .ok (.iload_n 3, 1) := by decide +kernel
theorem dX12_openNow_35 : decode cX12_openNow 35 = .ok (.iaload, 1) := by decide +kernel
theorem dX12_openNow_36 : decode cX12_openNow 36 = .ok (.ifCond .ge 5, 3) := by decide +kernel
theorem dX12_openNow_39 : decode cX12_openNow 39 = .ok (.iload_n 3, 1) := by decide +kernel
theorem dX12_openNow_40 : decode cX12_openNow 40 = .ok (.ireturn, 1) := by decide +kernel
theorem dX12_openNow_41 : decode cX12_openNow 41 = .ok (.iinc 3 1, 3) := by decide +kernel
theorem dX12_openNow_44 : decode cX12_openNow 44 = .ok (.goto (-42), 3) := by decide +kernel
theorem dX12_openNow_47 : decode cX12_openNow 47 = .ok (.bipush (-2), 2) := by decide +kernel
theorem dX12_openNow_49 : decode cX12_openNow 49 = .ok (.ireturn, 1) := by decide +kernel
theorem dX12_open_0 : decode cX12_open 0 = .ok (.iload_n 1, 1) := by decide +kernel
theorem dX12_open_1 : decode cX12_open 1 = .ok (.iconst 0, 1) := by decide +kernel
theorem dX12_open_2 : decode cX12_open 2 = .ok (.iconst 3, 1) := by decide +kernel
theorem dX12_open_3 : decode cX12_open 3 = .ok (.invokestatic 164, 3) := by decide +kernel
theorem dX12_open_6 : decode cX12_open 6 = .ok (.ifCond .eq 23, 3) := by decide +kernel
theorem dX12_open_9 : decode cX12_open 9 = .ok (.aload_n 0, 1) := by decide +kernel
theorem dX12_open_10 : decode cX12_open 10 = .ok (.iload_n 2, 1) := by decide +kernel
theorem dX12_open_11 : decode cX12_open 11 = .ok (.iload_n 3, 1) := by decide +kernel
theorem dX12_open_12 : decode cX12_open 12 = .ok (.invokevirtual 314, 3) := by decide +kernel
theorem dX12_open_15 : decode cX12_open 15 = .ok (.ifCond .eq 14, 3) := by decide +kernel
theorem dX12_open_18 : decode cX12_open 18 = .ok (.iload 4, 2) := by decide +kernel
theorem dX12_open_20 : decode cX12_open 20 = .ok (.iconst 1, 1) := by decide +kernel
theorem dX12_open_21 : decode cX12_open 21 = .ok (.bipush 99, 2) := by decide +kernel
theorem dX12_open_23 : decode cX12_open 23 = .ok (.invokestatic 164, 3) := by decide +kernel
theorem dX12_open_26 : decode cX12_open 26 = .ok (.ifCond .ne 5, 3) := by decide +kernel
theorem dX12_open_29 : decode cX12_open 29 = .ok (.iconst (-1), 1) := by decide +kernel
theorem dX12_open_30 : decode cX12_open 30 = .ok (.ireturn, 1) := by decide +kernel
theorem dX12_open_31 : decode cX12_open 31 = .ok (.aload_n 0, 1) := by decide +kernel
theorem dX12_open_32 : decode cX12_open 32 = .ok (.iload_n 2, 1) := by decide +kernel
theorem dX12_open_33 : decode cX12_open 33 = .ok (.iload_n 3, 1) := by decide +kernel
theorem dX12_open_34 : decode cX12_open 34 = .ok (.invokevirtual 317, 3) := by decide +kernel
theorem dX12_open_37 : decode cX12_open 37 = .ok (.ifCond .lt 6, 3) := by decide +kernel
theorem dX12_open_40 : decode cX12_open 40 = .ok (.bipush (-2), 2) := by decide +kernel
theorem dX12_open_42 : decode cX12_open 42 = .ok (.ireturn, 1) := by decide +kernel
theorem dX12_open_43 : decode cX12_open 43 = .ok (.aload_n 0, 1) := by decide +kernel
theorem dX12_open_44 : decode cX12_open 44 = .ok (.getfield 311, 3) := by decide +kernel
theorem dX12_open_47 : decode cX12_open 47 = .ok (.sipush 200, 3) := by decide +kernel
theorem dX12_open_50 : decode cX12_open 50 = .ok (.if_icmp .ne 6, 3) := by decide +kernel
theorem dX12_open_53 : decode cX12_open 53 = .ok (.bipush (-3), 2) := by decide +kernel
theorem dX12_open_55 : decode cX12_open 55 = .ok (.ireturn, 1) := by decide +kernel
theorem dX12_open_56 : decode cX12_open 56 = .ok (.aload_n 0, 1) := by decide +kernel
theorem dX12_open_57 : decode cX12_open 57 = .ok (.getfield 311, 3) := by decide +kernel
theorem dX12_open_60 : decode cX12_open 60 = .ok (.istore 5, 2) := by decide +kernel
theorem dX12_open_62 : decode cX12_open 62 = .ok (.aload_n 0, 1) := by decide +kernel
theorem dX12_open_63 : decode cX12_open 63 = .ok (.getfield 130, 3) := by decide +kernel
theorem dX12_open_66 : decode cX12_open 66 = .ok (.iload 5, 2) := by decide +kernel
theorem dX12_open_68 : decode cX12_open 68 = .ok (.iload_n 1, 1) := by decide +kernel
theorem dX12_open_69 : decode cX12_open 69 = .ok (.iastore, 1) := by decide +kernel
theorem dX12_open_70 : decode cX12_open 70 = .ok (.aload_n 0, 1) := by decide +kernel
theorem dX12_open_71 : decode cX12_open 71 = .ok (.getfield 133, 3) := by decide +kernel
theorem dX12_open_74 : decode cX12_open 74 = .ok (.iload 5, 2) := by decide +kernel
theorem dX12_open_76 : decode cX12_open 76 = .ok (.iload_n 2, 1) := by decide +kernel
theorem dX12_open_77 : decode cX12_open 77 = .ok (.iastore, 1) := by decide +kernel
theorem dX12_open_78 : decode cX12_open 78 = .ok (.aload_n 0, 1) := by decide +kernel
theorem dX12_open_79 : decode cX12_open 79 = .ok (.getfield 136, 3) := by decide +kernel
theorem dX12_open_82 : decode cX12_open 82 = .ok (.iload 5, 2) := by decide +kernel
theorem dX12_open_84 : decode cX12_open 84 = .ok (.iload_n 3, 1) := by decide +kernel
theorem dX12_open_85 : decode cX12_open 85 = .ok (.iastore, 1) := by decide +kernel
theorem dX12_open_86 : decode cX12_open 86 = .ok (.aload_n 0, 1) := by decide +kernel
theorem dX12_open_87 : decode cX12_open 87 = .ok (.getfield 139, 3) := by decide +kernel
theorem dX12_open_90 : decode cX12_open 90 = .ok (.iload 5, 2) := by decide +kernel
theorem dX12_open_92 : decode cX12_open 92 = .ok (.aload_n 0, 1) := by decide +kernel
theorem dX12_open_93 : decode cX12_open 93 = .ok (.getfield 237, 3) := by decide +kernel
theorem dX12_open_96 : decode cX12_open 96 = .ok (.iastore, 1) := by decide +kernel
theorem dX12_open_97 : decode cX12_open 97 = .ok (.aload_n 0, 1) := by decide +kernel
theorem dX12_open_98 : decode cX12_open 98 = .ok (.getfield 142, 3) := by decide +kernel
theorem dX12_open_101 : decode cX12_open 101 = .ok (.iload 5, 2) := by decide +kernel
theorem dX12_open_103 : decode cX12_open 103 = .ok (.iload 4, 2) := by decide +kernel
theorem dX12_open_105 : decode cX12_open 105 = .ok (.iastore, 1) := by decide +kernel
theorem dX12_open_106 : decode cX12_open 106 = .ok (.aload_n 0, 1) := by decide +kernel
theorem dX12_open_107 : decode cX12_open 107 = .ok (.getfield 145, 3) := by decide +kernel
theorem dX12_open_110 : decode cX12_open 110 = .ok (.iload 5, 2) := by decide +kernel
theorem dX12_open_112 : decode cX12_open 112 = .ok (.iconst (-1), 1) := by decide +kernel
theorem dX12_open_113 : decode cX12_open 113 = .ok (.iastore, 1) := by decide +kernel
theorem dX12_open_114 : decode cX12_open 114 = .ok (.aload_n 0, 1) := by decide +kernel
theorem dX12_open_115 : decode cX12_open 115 = .ok (.dup, 1) := by decide +kernel
theorem dX12_open_116 : decode cX12_open 116 = .ok (.getfield 311, 3) := by decide +kernel
theorem dX12_open_119 : decode cX12_open 119 = .ok (.iconst 1, 1) := by decide +kernel
theorem dX12_open_120 : decode cX12_open 120 = .ok (.iadd, 1) := by decide +kernel
theorem dX12_open_121 : decode cX12_open 121 = .ok (.putfield 311, 3) := by decide +kernel
theorem dX12_open_124 : decode cX12_open 124 = .ok (.iload 5, 2) := by decide +kernel
theorem dX12_open_126 : decode cX12_open 126 = .ok (.ireturn, 1) := by decide +kernel
theorem dX12_isOpening_0 : decode cX12_isOpening 0 = .ok (.iload_n 1, 1) := by decide +kernel
theorem dX12_isOpening_1 : decode cX12_isOpening 1 = .ok (.iconst 0, 1) := by decide +kernel
theorem dX12_isOpening_2 : decode cX12_isOpening 2 = .ok (.aload_n 0, 1) := by decide +kernel
theorem dX12_isOpening_3 : decode cX12_isOpening 3 = .ok (.getfield 311, 3) := by decide +kernel
theorem dX12_isOpening_6 : decode cX12_isOpening 6 = .ok (.iconst 1, 1) := by decide +kernel
theorem dX12_isOpening_7 : decode cX12_isOpening 7 = .ok (.isub, 1) := by decide +kernel
theorem dX12_isOpening_8 : decode cX12_isOpening 8 = .ok (.invokestatic 164, 3) := by decide +kernel
theorem dX12_isOpening_11 : decode cX12_isOpening 11 = .ok (.ireturn, 1) := by decide +kernel
theorem dX12_back_0 : decode cX12_back 0 = .ok (.aload_n 0, 1) := by decide +kernel
theorem dX12_back_1 : decode cX12_back 1 = .ok (.iload_n 1, 1) := by decide +kernel
theorem dX12_back_2 : decode cX12_back 2 = .ok (.invokevirtual 320, 3) := by decide +kernel
theorem dX12_back_5 : decode cX12_back 5 = .ok (.ifCond .ne 5, 3) := by decide +kernel
theorem dX12_back_8 : decode cX12_back 8 = .ok (.iconst (-1), 1) := by decide +kernel
theorem dX12_back_9 : decode cX12_back 9 = .ok (.ireturn, 1) := by decide +kernel
theorem dX12_back_10 : decode cX12_back 10 = .ok (.aload_n 0, 1) := by decide +kernel
theorem dX12_back_11 : decode cX12_back 11 = .ok (.getfield 145, 3) := by decide +kernel
theorem dX12_back_14 : decode cX12_back 14 = .ok (.iload_n 1, 1) := by decide +kernel
theorem dX12_back_15 : decode cX12_back 15 = .ok (.iaload, 1) := by decide +kernel
theorem dX12_back_16 : decode cX12_back 16 = .ok (.ifCond .lt 6, 3) := by decide +kernel
theorem dX12_back_19 : decode cX12_back 19 = .ok (.bipush (-2), 2) := by decide +kernel
theorem dX12_back_21 : decode cX12_back 21 = .ok (.ireturn, 1) := by decide +kernel
theorem dX12_back_22 : decode cX12_back 22 = .ok (.aload_n 0, 1) := by decide +kernel
theorem dX12_back_23 : decode cX12_back 23 = .ok (.getfield 145, 3) := by decide +kernel
theorem dX12_back_26 : decode cX12_back 26 = .ok (.iload_n 1, 1) := by decide +kernel
theorem dX12_back_27 : decode cX12_back 27 = .ok (.aload_n 0, 1) := by decide +kernel
theorem dX12_back_28 : decode cX12_back 28 = .ok (.getfield 237, 3) := by decide +kernel
theorem dX12_back_31 : decode cX12_back 31 = .ok (.iastore, 1) := by decide +kernel
theorem dX12_back_32 : decode cX12_back 32 = .ok (.aload_n 0, 1) := by decide +kernel
theorem dX12_back_33 : decode cX12_back 33 = .ok (.getfield 237, 3) := by decide +kernel
theorem dX12_back_36 : decode cX12_back 36 = .ok (.aload_n 0, 1) := by decide +kernel
theorem dX12_back_37 : decode cX12_back 37 = .ok (.getfield 139, 3) := by decide +kernel
theorem dX12_back_40 : decode cX12_back 40 = .ok (.iload_n 1, 1) := by decide +kernel
theorem dX12_back_41 : decode cX12_back 41 = .ok (.iaload, 1) := by decide +kernel
theorem dX12_back_42 : decode cX12_back 42 = .ok (.isub, 1) := by decide +kernel
theorem dX12_back_43 : decode cX12_back 43 = .ok (.ireturn, 1) := by decide +kernel
theorem dX12_penalty_0 : decode cX12_penalty 0 = .ok (.aload_n 0, 1) := by decide +kernel
theorem dX12_penalty_1 : decode cX12_penalty 1 = .ok (.iload_n 1, 1) := by decide +kernel
theorem dX12_penalty_2 : decode cX12_penalty 2 = .ok (.invokevirtual 320, 3) := by decide +kernel
theorem dX12_penalty_5 : decode cX12_penalty 5 = .ok (.ifCond .eq 22, 3) := by decide +kernel
theorem dX12_penalty_8 : decode cX12_penalty 8 = .ok (.iload_n 2, 1) := by decide +kernel
theorem dX12_penalty_9 : decode cX12_penalty 9 = .ok (.iconst 0, 1) := by decide +kernel
theorem dX12_penalty_10 : decode cX12_penalty 10 = .ok (.aload_n 0, 1) := by decide +kernel
theorem dX12_penalty_11 : decode cX12_penalty 11 = .ok (.getfield 237, 3) := by decide +kernel
theorem dX12_penalty_14 : decode cX12_penalty 14 = .ok (.invokestatic 164, 3) := by decide +kernel
theorem dX12_penalty_17 : decode cX12_penalty 17 = .ok (.ifCond .eq 10, 3) := by decide +kernel
theorem dX12_penalty_20 : decode cX12_penalty 20 = .ok (.iload_n 3, 1) := by decide +kernel
theorem dX12_penalty_21 : decode cX12_penalty 21 = .ok (.invokestatic 285, 3) := by decide +kernel
theorem dX12_penalty_24 : decode cX12_penalty 24 = .ok (.ifCond .ne 7, 3) := by decide +kernel
theorem dX12_penalty_27 : decode cX12_penalty 27 = .ok (.ldc_w 306, 3) := by decide +kernel
theorem dX12_penalty_30 : decode cX12_penalty 30 = .ok (.ireturn, 1) := by decide +kernel
theorem dX12_penalty_31 : decode cX12_penalty 31 = .ok (.aload_n 0, 1) := by decide +kernel
theorem dX12_penalty_32 : decode cX12_penalty 32 = .ok (.iconst 1, 1) := by decide +kernel
theorem dX12_penalty_33 : decode cX12_penalty 33 = .ok (.iload_n 2, 1) := by decide +kernel
theorem dX12_penalty_34 : decode cX12_penalty 34 = .ok (.iload_n 3, 1) := by decide +kernel
theorem dX12_penalty_35 : decode cX12_penalty 35 = .ok (.invokevirtual 288, 3) := by decide +kernel
theorem dX12_penalty_38 : decode cX12_penalty 38 = .ok (.istore 4, 2) := by decide +kernel
theorem dX12_penalty_40 : decode cX12_penalty 40 = .ok (.iload 4, 2) := by decide +kernel
theorem dX12_penalty_42 : decode cX12_penalty 42 = .ok (.ifCond .lt 13, 3) := by decide +kernel
theorem dX12_penalty_45 : decode cX12_penalty 45 = .ok (.iload_n 2, 1) := by decide +kernel
theorem dX12_penalty_46 : decode cX12_penalty 46 = .ok (.aload_n 0, 1) := by decide +kernel
theorem dX12_penalty_47 : decode cX12_penalty 47 = .ok (.getfield 139, 3) := by decide +kernel
theorem dX12_penalty_50 : decode cX12_penalty 50 = .ok (.iload_n 1, 1) := by decide +kernel
theorem dX12_penalty_51 : decode cX12_penalty 51 = .ok (.iaload, 1) := by decide +kernel
theorem dX12_penalty_52 : decode cX12_penalty 52 = .ok (.if_icmp .ge 5, 3) := by decide +kernel
theorem dX12_penalty_55 : decode cX12_penalty 55 = .ok (.iconst 0, 1) := by decide +kernel
theorem dX12_penalty_56 : decode cX12_penalty 56 = .ok (.ireturn, 1) := by decide +kernel
theorem dX12_penalty_57 : decode cX12_penalty 57 = .ok (.aload_n 0, 1) := by decide +kernel
theorem dX12_penalty_58 : decode cX12_penalty 58 = .ok (.getfield 145, 3) := by decide +kernel
theorem dX12_penalty_61 : decode cX12_penalty 61 = .ok (.iload_n 1, 1) := by decide +kernel
theorem dX12_penalty_62 : decode cX12_penalty 62 = .ok (.iaload, 1) := by decide +kernel
theorem dX12_penalty_63 : decode cX12_penalty 63 = .ok (.ifCond .lt 22, 3) := by decide +kernel
theorem dX12_penalty_66 : decode cX12_penalty 66 = .ok (.aload_n 0, 1) := by decide +kernel
theorem dX12_penalty_67 : decode cX12_penalty 67 = .ok (.getfield 145, 3) := by decide +kernel
theorem dX12_penalty_70 : decode cX12_penalty 70 = .ok (.iload_n 1, 1) := by decide +kernel
theorem dX12_penalty_71 : decode cX12_penalty 71 = .ok (.iaload, 1) := by decide +kernel
theorem dX12_penalty_72 : decode cX12_penalty 72 = .ok (.iload_n 2, 1) := by decide +kernel
theorem dX12_penalty_73 : decode cX12_penalty 73 = .ok (.if_icmp .ge 12, 3) := by decide +kernel
theorem dX12_penalty_76 : decode cX12_penalty 76 = .ok (.aload_n 0, 1) := by decide +kernel
theorem dX12_penalty_77 : decode cX12_penalty 77 = .ok (.getfield 145, 3) := by decide +kernel
theorem dX12_penalty_80 : decode cX12_penalty 80 = .ok (.iload_n 1, 1) := by decide +kernel
theorem dX12_penalty_81 : decode cX12_penalty 81 = .ok (.iaload, 1) := by decide +kernel
theorem dX12_penalty_82 : decode cX12_penalty 82 = .ok (.goto 4, 3) := by decide +kernel
theorem dX12_penalty_85 : decode cX12_penalty 85 = .ok (.iload_n 2, 1) := by decide +kernel
theorem dX12_penalty_86 : decode cX12_penalty 86 = .ok (.istore 5, 2) := by decide +kernel
theorem dX12_penalty_88 : decode cX12_penalty 88 = .ok (.iload 5, 2) := by decide +kernel
theorem dX12_penalty_90 : decode cX12_penalty 90 = .ok (.aload_n 0, 1) := by decide +kernel
theorem dX12_penalty_91 : decode cX12_penalty 91 = .ok (.getfield 139, 3) := by decide +kernel
theorem dX12_penalty_94 : decode cX12_penalty 94 = .ok (.iload_n 1, 1) := by decide +kernel
theorem dX12_penalty_95 : decode cX12_penalty 95 = .ok (.iaload, 1) := by decide +kernel
theorem dX12_penalty_96 : decode cX12_penalty 96 = .ok (.isub, 1) := by decide +kernel
theorem dX12_penalty_97 : decode cX12_penalty 97 = .ok (.istore 6, 2) := by decide +kernel
theorem dX12_penalty_99 : decode cX12_penalty 99 = .ok (.iconst 0, 1) := by decide +kernel
theorem dX12_penalty_100 : decode cX12_penalty 100 = .ok (.istore 7, 2) := by decide +kernel
theorem dX12_penalty_102 : decode cX12_penalty 102 = .ok (.iconst 0, 1) := by decide +kernel
theorem dX12_penalty_103 : decode cX12_penalty 103 = .ok (.istore 8, 2) := by decide +kernel
theorem dX12_penalty_105 : decode cX12_penalty 105 = .ok (.iload 8, 2) := by decide +kernel
theorem dX12_penalty_107 : decode cX12_penalty 107 = .ok (.aload_n 0, 1) := by decide +kernel
theorem dX12_penalty_108 : decode cX12_penalty 108 = .ok (.getfield 311, 3) := by decide +kernel
theorem dX12_penalty_111 : decode cX12_penalty 111 = .ok (.if_icmp .ge 45, 3) := by decide +kernel
theorem dX12_penalty_114 : decode cX12_penalty 114 = .ok (.iload 7, 2) := by decide +kernel
theorem dX12_penalty_116 : decode cX12_penalty 116 = .ok (.aload_n 0, 1) := by decide +kernel
theorem dX12_penalty_117 : decode cX12_penalty 117 = .ok (.getfield 130, 3) := by decide +kernel
theorem dX12_penalty_120 : decode cX12_penalty 120 = .ok (.iload 8, 2) := by decide +kernel
theorem dX12_penalty_122 : decode cX12_penalty 122 = .ok (.iaload, 1) := by decide +kernel
theorem dX12_penalty_123 : decode cX12_penalty 123 = .ok (.aload_n 0, 1) := by decide +kernel
theorem dX12_penalty_124 : decode cX12_penalty 124 = .ok (.getfield 130, 3) := by decide +kernel
theorem dX12_penalty_127 : decode cX12_penalty 127 = .ok (.iload_n 1, 1) := by decide +kernel
theorem dX12_penalty_128 : decode cX12_penalty 128 = .ok (.iaload, 1) := by decide +kernel
theorem dX12_penalty_129 : decode cX12_penalty 129 = .ok (.if_icmp .ne 17, 3) := by decide +kernel
theorem dX12_penalty_132 : decode cX12_penalty 132 = .ok (.aload_n 0, 1) := by decide +kernel
theorem dX12_penalty_133 : decode cX12_penalty 133 = .ok (.getfield 145, 3) := by decide +kernel
theorem dX12_penalty_136 : decode cX12_penalty 136 = .ok (.iload 8, 2) := by decide +kernel
theorem dX12_penalty_138 : decode cX12_penalty 138 = .ok (.iaload, 1) := by decide +kernel
theorem dX12_penalty_139 : decode cX12_penalty 139 = .ok (.ifCond .ge 7, 3) := by decide +kernel
theorem dX12_penalty_142 : decode cX12_penalty 142 = .ok (.iconst 1, 1) := by decide +kernel
theorem dX12_penalty_143 : decode cX12_penalty 143 = .ok (.goto 4, 3) := by decide +kernel
theorem dX12_penalty_146 : decode cX12_penalty 146 = .ok (.iconst 0, 1) := by decide +kernel
theorem dX12_penalty_147 : decode cX12_penalty 147 = .ok (.iadd, 1) := by decide +kernel
theorem dX12_penalty_148 : decode cX12_penalty 148 = .ok (.istore 7, 2) := by decide +kernel
theorem dX12_penalty_150 : decode cX12_penalty 150 = .ok (.iinc 8 1, 3) := by decide +kernel
theorem dX12_penalty_153 : decode cX12_penalty 153 = .ok (.goto (-48), 3) := by decide +kernel
theorem dX12_penalty_156 : decode cX12_penalty 156 = .ok (.aload_n 0, 1) := by decide +kernel
theorem dX12_penalty_157 : decode cX12_penalty 157 = .ok (.getfield 124, 3) := by decide +kernel
theorem dX12_penalty_160 : decode cX12_penalty 160 = .ok (.bipush 100, 2) := by decide +kernel
theorem dX12_penalty_162 : decode cX12_penalty 162 = .ok (.iload 6, 2) := by decide +kernel
theorem dX12_penalty_164 : decode cX12_penalty 164 = .ok (.iastore, 1) := by decide +kernel
theorem dX12_penalty_165 : decode cX12_penalty 165 = .ok (.aload_n 0, 1) := by decide +kernel
theorem dX12_penalty_166 : decode cX12_penalty 166 = .ok (.getfield 124, 3) := by decide +kernel
theorem dX12_penalty_169 : decode cX12_penalty 169 = .ok (.bipush 108, 2) := by decide +kernel
theorem dX12_penalty_171 : decode cX12_penalty 171 = .ok (.iload 6, 2) := by decide +kernel
theorem dX12_penalty_173 : decode cX12_penalty 173 = .ok (.aload_n 0, 1) := by decide +kernel
theorem dX12_penalty_174 : decode cX12_penalty 174 = .ok (.getfield 142, 3) := by decide +kernel
theorem dX12_penalty_177 : decode cX12_penalty 177 = .ok (.iload_n 1, 1) := by decide +kernel
theorem dX12_penalty_178 : decode cX12_penalty 178 = .ok (.iaload, 1) := by decide +kernel
theorem dX12_penalty_179 : decode cX12_penalty 179 = .ok (.if_icmp .le 15, 3) := by decide +kernel
theorem dX12_penalty_182 : decode cX12_penalty 182 = .ok (.iload 6, 2) := by decide +kernel
theorem dX12_penalty_184 : decode cX12_penalty 184 = .ok (.aload_n 0, 1) := by decide +kernel
theorem dX12_penalty_185 : decode cX12_penalty 185 = .ok (.getfield 142, 3) := by decide +kernel
theorem dX12_penalty_188 : decode cX12_penalty 188 = .ok (.iload_n 1, 1) := by decide +kernel
theorem dX12_penalty_189 : decode cX12_penalty 189 = .ok (.iaload, 1) := by decide +kernel
theorem dX12_penalty_190 : decode cX12_penalty 190 = .ok (.isub, 1) := by decide +kernel
theorem dX12_penalty_191 : decode cX12_penalty 191 = .ok (.goto 4, 3) := by decide +kernel
theorem dX12_penalty_194 : decode cX12_penalty 194 = .ok (.iconst 0, 1) := by decide +kernel
theorem dX12_penalty_195 : decode cX12_penalty 195 = .ok (.iastore, 1) := by decide +kernel
theorem dX12_penalty_196 : decode cX12_penalty 196 = .ok (.aload_n 0, 1) := by decide +kernel
theorem dX12_penalty_197 : decode cX12_penalty 197 = .ok (.getfield 124, 3) := by decide +kernel
theorem dX12_penalty_200 : decode cX12_penalty 200 = .ok (.bipush 119, 2) := by decide +kernel
theorem dX12_penalty_202 : decode cX12_penalty 202 = .ok (.aload_n 0, 1) := by decide +kernel
theorem dX12_penalty_203 : decode cX12_penalty 203 = .ok (.getfield 130, 3) := by decide +kernel
theorem dX12_penalty_206 : decode cX12_penalty 206 = .ok (.iload_n 1, 1) := by decide +kernel
theorem dX12_penalty_207 : decode cX12_penalty 207 = .ok (.iaload, 1) := by decide +kernel
theorem dX12_penalty_208 : decode cX12_penalty 208 = .ok (.iastore, 1) := by decide +kernel
theorem dX12_penalty_209 : decode cX12_penalty 209 = .ok (.aload_n 0, 1) := by decide +kernel
theorem dX12_penalty_210 : decode cX12_penalty 210 = .ok (.getfield 124, 3) := by decide +kernel
theorem dX12_penalty_213 : decode cX12_penalty 213 = .ok (.bipush 115, 2) := by decide +kernel
theorem dX12_penalty_215 : decode cX12_penalty 215 = .ok (.aload_n 0, 1) := by decide +kernel
theorem dX12_penalty_216 : decode cX12_penalty 216 = .ok (.getfield 133, 3) := by decide +kernel
theorem dX12_penalty_219 : decode cX12_penalty 219 = .ok (.iload_n 1, 1) := by decide +kernel
theorem dX12_penalty_220 : decode cX12_penalty 220 = .ok (.iaload, 1) := by decide +kernel
theorem dX12_penalty_221 : decode cX12_penalty 221 = .ok (.iastore, 1) := by decide +kernel
theorem dX12_penalty_222 : decode cX12_penalty 222 = .ok (.aload_n 0, 1) := by decide +kernel
theorem dX12_penalty_223 : decode cX12_penalty 223 = .ok (.getfield 124, 3) := by decide +kernel
theorem dX12_penalty_226 : decode cX12_penalty 226 = .ok (.bipush 110, 2) := by decide +kernel
theorem dX12_penalty_228 : decode cX12_penalty 228 = .ok (.iload 7, 2) := by decide +kernel
theorem dX12_penalty_230 : decode cX12_penalty 230 = .ok (.iastore, 1) := by decide +kernel
theorem dX12_penalty_231 : decode cX12_penalty 231 = .ok (.aload_n 0, 1) := by decide +kernel
theorem dX12_penalty_232 : decode cX12_penalty 232 = .ok (.iload 4, 2) := by decide +kernel
theorem dX12_penalty_234 : decode cX12_penalty 234 = .ok (.invokevirtual 297, 3) := by decide +kernel
theorem dX12_penalty_237 : decode cX12_penalty 237 = .ok (.invokestatic 300, 3) := by decide +kernel
theorem dX12_penalty_240 : decode cX12_penalty 240 = .ok (.ireturn, 1) := by decide +kernel
theorem dX12_sink_0 : decode cX12_sink 0 = .ok (.aload_n 0, 1) := by decide +kernel
theorem dX12_sink_1 : decode cX12_sink 1 = .ok (.iload_n 1, 1) := by decide +kernel
theorem dX12_sink_2 : decode cX12_sink 2 = .ok (.iload_n 2, 1) := by decide +kernel
theorem dX12_sink_3 : decode cX12_sink 3 = .ok (.invokevirtual 314, 3) := by decide +kernel
theorem dX12_sink_6 : decode cX12_sink 6 = .ok (.ifCond .ne 5, 3) := by decide +kernel
theorem dX12_sink_9 : decode cX12_sink 9 = .ok (.iconst (-1), 1) := by decide +kernel
theorem dX12_sink_10 : decode cX12_sink 10 = .ok (.ireturn, 1) := by decide +kernel
theorem dX12_sink_11 : decode cX12_sink 11 = .ok (.aload_n 0, 1) := by decide +kernel
theorem dX12_sink_12 : decode cX12_sink 12 = .ok (.iload_n 1, 1) := by decide +kernel
theorem dX12_sink_13 : decode cX12_sink 13 = .ok (.iload_n 2, 1) := by decide +kernel
theorem dX12_sink_14 : decode cX12_sink 14 = .ok (.invokevirtual 317, 3) := by decide +kernel
theorem dX12_sink_17 : decode cX12_sink 17 = .ok (.istore_n 3, 1) := by decide +kernel
theorem dX12_sink_18 : decode cX12_sink 18 = .ok (.iload_n 3, 1) := by decide +kernel
theorem dX12_sink_19 : decode cX12_sink 19 = .ok (.ifCond .lt 5, 3) := by decide +kernel
theorem dX12_sink_22 : decode cX12_sink 22 = .ok (.iload_n 3, 1) := by decide +kernel
theorem dX12_sink_23 : decode cX12_sink 23 = .ok (.ireturn, 1) := by decide +kernel
theorem dX12_sink_24 : decode cX12_sink 24 = .ok (.iconst 0, 1) := by decide +kernel
theorem dX12_sink_25 : decode cX12_sink 25 = .ok (.istore 4, 2) := by decide +kernel
theorem dX12_sink_27 : decode cX12_sink 27 = .ok (.iload 4, 2) := by decide +kernel
theorem dX12_sink_29 : decode cX12_sink 29 = .ok (.aload_n 0, 1) := by decide +kernel
theorem dX12_sink_30 : decode cX12_sink 30 = .ok (.getfield 311, 3) := by decide +kernel
theorem dX12_sink_33 : decode cX12_sink 33 = .ok (.if_icmp .ge 54, 3) := by decide +kernel
theorem dX12_sink_36 : decode cX12_sink 36 = .ok (.aload_n 0, 1) := by decide +kernel
theorem dX12_sink_37 : decode cX12_sink 37 = .ok (.getfield 133, 3) := by decide +kernel
theorem dX12_sink_40 : decode cX12_sink 40 = .ok (.iload 4, 2) := by decide +kernel
theorem dX12_sink_42 : decode cX12_sink 42 = .ok (.iaload, 1) := by decide +kernel
theorem dX12_sink_43 : decode cX12_sink 43 = .ok (.iload_n 1, 1) := by decide +kernel
theorem dX12_sink_44 : decode cX12_sink 44 = .ok (.if_icmp .ne 37, 3) := by decide +kernel
theorem dX12_sink_47 : decode cX12_sink 47 = .ok (.aload_n 0, 1) := by decide +kernel
theorem dX12_sink_48 : decode cX12_sink 48 = .ok (.getfield 136, 3) := by decide +kernel
theorem dX12_sink_51 : decode cX12_sink 51 = .ok (.iload 4, 2) := by decide +kernel
theorem dX12_sink_53 : decode cX12_sink 53 = .ok (.iaload, 1) := by decide +kernel
theorem dX12_sink_54 : decode cX12_sink 54 = .ok (.iload_n 2, 1) := by decide +kernel
theorem dX12_sink_55 : decode cX12_sink 55 = .ok (.if_icmp .ne 26, 3) := by decide +kernel
theorem dX12_sink_58 : decode cX12_sink 58 = .ok (.iload_n 3, 1) := by decide +kernel
theorem dX12_sink_59 : decode cX12_sink 59 = .ok (.ifCond .lt 19, 3) := by decide +kernel
theorem dX12_sink_62 : decode cX12_sink 62 = .ok (.aload_n 0, 1) := by decide +kernel
theorem dX12_sink_63 : decode cX12_sink 63 = .ok (.getfield 145, 3) := by decide +kernel
theorem dX12_sink_66 : decode cX12_sink 66 = .ok (.iload 4, 2) := by decide +kernel
theorem dX12_sink_68 : decode cX12_sink 68 = .ok (.iaload, 1) := by decide +kernel
theorem dX12_sink_69 : decode cX12_sink 69 = .ok (.aload_n 0, 1) := by decide +kernel
theorem dX12_sink_70 : decode cX12_sink 70 = .ok (.getfield 145, 3) := by decide +kernel
theorem dX12_sink_73 : decode cX12_sink 73 = .ok (.iload_n 3, 1) := by decide +kernel
theorem dX12_sink_74 : decode cX12_sink 74 = .ok (.iaload, 1) := by decide +kernel
theorem dX12_sink_75 : decode cX12_sink 75 = .ok (.if_icmp .lt 6, 3) := by decide +kernel
theorem dX12_sink_78 : decode cX12_sink 78 = .ok (.iload 4, 2) := by decide +kernel
theorem dX12_sink_80 : decode cX12_sink 80 = .ok (.istore_n 3, 1) := by decide +kernel
theorem dX12_sink_81 : decode cX12_sink 81 = .ok (.iinc 4 1, 3) := by decide +kernel
theorem dX12_sink_84 : decode cX12_sink 84 = .ok (.goto (-57), 3) := by decide +kernel
theorem dX12_sink_87 : decode cX12_sink 87 = .ok (.iload_n 3, 1) := by decide +kernel
theorem dX12_sink_88 : decode cX12_sink 88 = .ok (.ireturn, 1) := by decide +kernel
theorem dX12_opening_0 : decode cX12_opening 0 = .ok (.aload_n 0, 1) := by decide +kernel
theorem dX12_opening_1 : decode cX12_opening 1 = .ok (.iload_n 1, 1) := by decide +kernel
theorem dX12_opening_2 : decode cX12_opening 2 = .ok (.invokevirtual 320, 3) := by decide +kernel
theorem dX12_opening_5 : decode cX12_opening 5 = .ok (.ifCond .ne 6, 3) := by decide +kernel
theorem dX12_opening_8 : decode cX12_opening 8 = .ok (.bipush (-2), 2) := by decide +kernel
theorem dX12_opening_10 : decode cX12_opening 10 = .ok (.ireturn, 1) := by decide +kernel
theorem dX12_opening_11 : decode cX12_opening 11 = .ok (.iload_n 2, 1) := by decide +kernel
theorem dX12_opening_12 : decode cX12_opening 12 = .ok (.tableswitch 82 0 5 #[40, 47, 54, 61, 68, 75], 40) := by decide +kernel
theorem dX12_opening_52 : decode cX12_opening 52 = .ok (.aload_n 0, 1) := by decide +kernel
theorem dX12_opening_53 : decode cX12_opening 53 = .ok (.getfield 130, 3) := by decide +kernel
theorem dX12_opening_56 : decode cX12_opening 56 = .ok (.iload_n 1, 1) := by decide +kernel
theorem dX12_opening_57 : decode cX12_opening 57 = .ok (.iaload, 1) := by decide +kernel
theorem dX12_opening_58 : decode cX12_opening 58 = .ok (.ireturn, 1) := by decide +kernel
theorem dX12_opening_59 : decode cX12_opening 59 = .ok (.aload_n 0, 1) := by decide +kernel
theorem dX12_opening_60 : decode cX12_opening 60 = .ok (.getfield 133, 3) := by decide +kernel
theorem dX12_opening_63 : decode cX12_opening 63 = .ok (.iload_n 1, 1) := by decide +kernel
theorem dX12_opening_64 : decode cX12_opening 64 = .ok (.iaload, 1) := by decide +kernel
theorem dX12_opening_65 : decode cX12_opening 65 = .ok (.ireturn, 1) := by decide +kernel
theorem dX12_opening_66 : decode cX12_opening 66 = .ok (.aload_n 0, 1) := by decide +kernel
theorem dX12_opening_67 : decode cX12_opening 67 = .ok (.getfield 136, 3) := by decide +kernel
theorem dX12_opening_70 : decode cX12_opening 70 = .ok (.iload_n 1, 1) := by decide +kernel
theorem dX12_opening_71 : decode cX12_opening 71 = .ok (.iaload, 1) := by decide +kernel
theorem dX12_opening_72 : decode cX12_opening 72 = .ok (.ireturn, 1) := by decide +kernel
theorem dX12_opening_73 : decode cX12_opening 73 = .ok (.aload_n 0, 1) := by decide +kernel
theorem dX12_opening_74 : decode cX12_opening 74 = .ok (.getfield 139, 3) := by decide +kernel
theorem dX12_opening_77 : decode cX12_opening 77 = .ok (.iload_n 1, 1) := by decide +kernel
theorem dX12_opening_78 : decode cX12_opening 78 = .ok (.iaload, 1) := by decide +kernel
theorem dX12_opening_79 : decode cX12_opening 79 = .ok (.ireturn, 1) := by decide +kernel
theorem dX12_opening_80 : decode cX12_opening 80 = .ok (.aload_n 0, 1) := by decide +kernel
theorem dX12_opening_81 : decode cX12_opening 81 = .ok (.getfield 142, 3) := by decide +kernel
theorem dX12_opening_84 : decode cX12_opening 84 = .ok (.iload_n 1, 1) := by decide +kernel
theorem dX12_opening_85 : decode cX12_opening 85 = .ok (.iaload, 1) := by decide +kernel
theorem dX12_opening_86 : decode cX12_opening 86 = .ok (.ireturn, 1) := by decide +kernel
theorem dX12_opening_87 : decode cX12_opening 87 = .ok (.aload_n 0, 1) := by decide +kernel
theorem dX12_opening_88 : decode cX12_opening 88 = .ok (.getfield 145, 3) := by decide +kernel
theorem dX12_opening_91 : decode cX12_opening 91 = .ok (.iload_n 1, 1) := by decide +kernel
theorem dX12_opening_92 : decode cX12_opening 92 = .ok (.iaload, 1) := by decide +kernel
theorem dX12_opening_93 : decode cX12_opening 93 = .ok (.ireturn, 1) := by decide +kernel
theorem dX12_opening_94 : decode cX12_opening 94 = .ok (.bipush (-2), 2) := by decide +kernel
theorem dX12_opening_96 : decode cX12_opening 96 = .ok (.ireturn, 1) := by decide +kernel
theorem dX12_draw_0 : decode cX12_draw 0 = .ok (.iload_n 1, 1) := by decide +kernel
theorem dX12_draw_1 : decode cX12_draw 1 = .ok (.iconst 1, 1) := by decide +kernel
theorem dX12_draw_2 : decode cX12_draw 2 = .ok (.bipush 40, 2) := by decide +kernel
theorem dX12_draw_4 : decode cX12_draw 4 = .ok (.invokestatic 164, 3) := by decide +kernel
theorem dX12_draw_7 : decode cX12_draw 7 = .ok (.ifCond .eq 12, 3) := by decide +kernel
theorem dX12_draw_10 : decode cX12_draw 10 = .ok (.iload_n 2, 1) := by decide +kernel
theorem dX12_draw_11 : decode cX12_draw 11 = .ok (.iconst 1, 1) := by decide +kernel
theorem dX12_draw_12 : decode cX12_draw 12 = .ok (.iload_n 1, 1) := by decide +kernel
theorem dX12_draw_13 : decode cX12_draw 13 = .ok (.invokestatic 164, 3) := by decide +kernel
theorem dX12_draw_16 : decode cX12_draw 16 = .ok (.ifCond .ne 5, 3) := by decide +kernel
theorem dX12_draw_19 : decode cX12_draw 19 = .ok (.iconst (-1), 1) := by decide +kernel
theorem dX12_draw_20 : decode cX12_draw 20 = .ok (.ireturn, 1) := by decide +kernel
theorem dX12_draw_21 : decode cX12_draw 21 = .ok (.iconst 0, 1) := by decide +kernel
theorem dX12_draw_22 : decode cX12_draw 22 = .ok (.istore 4, 2) := by decide +kernel
theorem dX12_draw_24 : decode cX12_draw 24 = .ok (.iload 4, 2) := by decide +kernel
theorem dX12_draw_26 : decode cX12_draw 26 = .ok (.iload_n 1, 1) := by decide +kernel
theorem dX12_draw_27 : decode cX12_draw 27 = .ok (.if_icmp .ge 17, 3) := by decide +kernel
theorem dX12_draw_30 : decode cX12_draw 30 = .ok (.aload_n 0, 1) := by decide +kernel
theorem dX12_draw_31 : decode cX12_draw 31 = .ok (.getfield 151, 3) := by decide +kernel
theorem dX12_draw_34 : decode cX12_draw 34 = .ok (.iload 4, 2) := by decide +kernel
theorem dX12_draw_36 : decode cX12_draw 36 = .ok (.iconst 0, 1) := by decide +kernel
theorem dX12_draw_37 : decode cX12_draw 37 = .ok (.bastore, 1) := by decide +kernel
theorem dX12_draw_38 : decode cX12_draw 38 = .ok (.iinc 4 1, 3) := by decide +kernel
theorem dX12_draw_41 : decode cX12_draw 41 = .ok (.goto (-17), 3) := by decide +kernel
theorem dX12_draw_44 : decode cX12_draw 44 = .ok (.iload_n 3, 1) := by decide +kernel
theorem dX12_draw_45 : decode cX12_draw 45 = .ok (.istore 4, 2) := by decide +kernel
theorem dX12_draw_47 : decode cX12_draw 47 = .ok (.iconst 0, 1) := by decide +kernel
theorem dX12_draw_48 : decode cX12_draw 48 = .ok (.istore 5, 2) := by decide +kernel
theorem dX12_draw_50 : decode cX12_draw 50 = .ok (.iload 5, 2) := by decide +kernel
theorem dX12_draw_52 : decode cX12_draw 52 = .ok (.iload_n 2, 1) := by decide +kernel
theorem dX12_draw_53 : decode cX12_draw 53 = .ok (.if_icmp .ge 94, 3) := by decide +kernel
theorem dX12_draw_56 : decode cX12_draw 56 = .ok (.iload 4, 2) := by decide +kernel
theorem dX12_draw_58 : decode cX12_draw 58 = .ok (.ldc_w 323, 3) := by decide +kernel
theorem dX12_draw_61 : decode cX12_draw 61 = .ok (.imul, 1) := by decide +kernel
theorem dX12_draw_62 : decode cX12_draw 62 = .ok (.sipush 12345, 3) := by decide +kernel
theorem dX12_draw_65 : decode cX12_draw 65 = .ok (.iadd, 1) := by decide +kernel
theorem dX12_draw_66 : decode cX12_draw 66 = .ok (.istore 4, 2) := by decide +kernel
theorem dX12_draw_68 : decode cX12_draw 68 = .ok (.iload 4, 2) := by decide +kernel
theorem dX12_draw_70 : decode cX12_draw 70 = .ok (.bipush 8, 2) := by decide +kernel
theorem dX12_draw_72 : decode cX12_draw 72 = .ok (.iushr, 1) := by decide +kernel
theorem dX12_draw_73 : decode cX12_draw 73 = .ok (.iload_n 1, 1) := by decide +kernel
theorem dX12_draw_74 : decode cX12_draw 74 = .ok (.iload 5, 2) := by decide +kernel
theorem dX12_draw_76 : decode cX12_draw 76 = .ok (.isub, 1) := by decide +kernel
theorem dX12_draw_77 : decode cX12_draw 77 = .ok (.irem, 1) := by decide +kernel
theorem dX12_draw_78 : decode cX12_draw 78 = .ok (.istore 6, 2) := by decide +kernel
theorem dX12_draw_80 : decode cX12_draw 80 = .ok (.iconst 0, 1) := by decide +kernel
theorem dX12_draw_81 : decode cX12_draw 81 = .ok (.istore 7, 2) := by decide +kernel
theorem dX12_draw_83 : decode cX12_draw 83 = .ok (.aload_n 0, 1) := by decide +kernel
theorem dX12_draw_84 : decode cX12_draw 84 = .ok (.getfield 151, 3) := by decide +kernel
theorem dX12_draw_87 : decode cX12_draw 87 = .ok (.iload 7, 2) := by decide +kernel
theorem dX12_draw_89 : decode cX12_draw 89 = .ok (.baload, 1) := by decide +kernel
theorem dX12_draw_90 : decode cX12_draw 90 = .ok (.ifCond .ne 8, 3) := by decide +kernel
theorem dX12_draw_93 : decode cX12_draw 93 = .ok (.iload 6, 2) := by decide +kernel
theorem dX12_draw_95 : decode cX12_draw 95 = .ok (.ifCond .le 29, 3) := by decide +kernel
theorem dX12_draw_98 : decode cX12_draw 98 = .ok (.iload 6, 2) := by decide +kernel
theorem dX12_draw_100 : decode cX12_draw 100 = .ok (.aload_n 0, 1) := by decide +kernel
theorem dX12_draw_101 : decode cX12_draw 101 = .ok (.getfield 151, 3) := by decide +kernel
theorem dX12_draw_104 : decode cX12_draw 104 = .ok (.iload 7, 2) := by decide +kernel
theorem dX12_draw_106 : decode cX12_draw 106 = .ok (.baload, 1) := by decide +kernel
theorem dX12_draw_107 : decode cX12_draw 107 = .ok (.ifCond .eq 7, 3) := by decide +kernel
theorem dX12_draw_110 : decode cX12_draw 110 = .ok (.iconst 0, 1) := by decide +kernel
theorem dX12_draw_111 : decode cX12_draw 111 = .ok (.goto 4, 3) := by decide +kernel
theorem dX12_draw_114 : decode cX12_draw 114 = .ok (.iconst 1, 1) := by decide +kernel
theorem dX12_draw_115 : decode cX12_draw 115 = .ok (.isub, 1) := by decide +kernel
theorem dX12_draw_116 : decode cX12_draw 116 = .ok (.istore 6, 2) := by decide +kernel
theorem dX12_draw_118 : decode cX12_draw 118 = .ok (.iinc 7 1, 3) := by decide +kernel
theorem dX12_draw_121 : decode cX12_draw 121 = .ok (.goto (-38), 3) := by decide +kernel
theorem dX12_draw_124 : decode cX12_draw 124 = .ok (.aload_n 0, 1) := by decide +kernel
theorem dX12_draw_125 : decode cX12_draw 125 = .ok (.getfield 151, 3) := by decide +kernel
theorem dX12_draw_128 : decode cX12_draw 128 = .ok (.iload 7, 2) := by decide +kernel
theorem dX12_draw_130 : decode cX12_draw 130 = .ok (.iconst 1, 1) := by decide +kernel
theorem dX12_draw_131 : decode cX12_draw 131 = .ok (.bastore, 1) := by decide +kernel
theorem dX12_draw_132 : decode cX12_draw 132 = .ok (.aload_n 0, 1) := by decide +kernel
theorem dX12_draw_133 : decode cX12_draw 133 = .ok (.getfield 148, 3) := by decide +kernel
theorem dX12_draw_136 : decode cX12_draw 136 = .ok (.iload 5, 2) := by decide +kernel
theorem dX12_draw_138 : decode cX12_draw 138 = .ok (.iload 7, 2) := by decide +kernel
theorem dX12_draw_140 : decode cX12_draw 140 = .ok (.iastore, 1) := by decide +kernel
theorem dX12_draw_141 : decode cX12_draw 141 = .ok (.iinc 5 1, 3) := by decide +kernel
theorem dX12_draw_144 : decode cX12_draw 144 = .ok (.goto (-94), 3) := by decide +kernel
theorem dX12_draw_147 : decode cX12_draw 147 = .ok (.aload_n 0, 1) := by decide +kernel
theorem dX12_draw_148 : decode cX12_draw 148 = .ok (.iload_n 2, 1) := by decide +kernel
theorem dX12_draw_149 : decode cX12_draw 149 = .ok (.putfield 324, 3) := by decide +kernel
theorem dX12_draw_152 : decode cX12_draw 152 = .ok (.iload_n 2, 1) := by decide +kernel
theorem dX12_draw_153 : decode cX12_draw 153 = .ok (.ireturn, 1) := by decide +kernel
theorem dX12_drawn_0 : decode cX12_drawn 0 = .ok (.iload_n 1, 1) := by decide +kernel
theorem dX12_drawn_1 : decode cX12_drawn 1 = .ok (.iconst 0, 1) := by decide +kernel
theorem dX12_drawn_2 : decode cX12_drawn 2 = .ok (.aload_n 0, 1) := by decide +kernel
theorem dX12_drawn_3 : decode cX12_drawn 3 = .ok (.getfield 324, 3) := by decide +kernel
theorem dX12_drawn_6 : decode cX12_drawn 6 = .ok (.iconst 1, 1) := by decide +kernel
theorem dX12_drawn_7 : decode cX12_drawn 7 = .ok (.isub, 1) := by decide +kernel
theorem dX12_drawn_8 : decode cX12_drawn 8 = .ok (.invokestatic 164, 3) := by decide +kernel
theorem dX12_drawn_11 : decode cX12_drawn 11 = .ok (.ifCond .eq 12, 3) := by decide +kernel
theorem dX12_drawn_14 : decode cX12_drawn 14 = .ok (.aload_n 0, 1) := by decide +kernel
theorem dX12_drawn_15 : decode cX12_drawn 15 = .ok (.getfield 148, 3) := by decide +kernel
theorem dX12_drawn_18 : decode cX12_drawn 18 = .ok (.iload_n 1, 1) := by decide +kernel
theorem dX12_drawn_19 : decode cX12_drawn 19 = .ok (.iaload, 1) := by decide +kernel
theorem dX12_drawn_20 : decode cX12_drawn 20 = .ok (.goto 4, 3) := by decide +kernel
theorem dX12_drawn_23 : decode cX12_drawn 23 = .ok (.iconst (-1), 1) := by decide +kernel
theorem dX12_drawn_24 : decode cX12_drawn 24 = .ok (.ireturn, 1) := by decide +kernel
theorem dX12_choose_0 : decode cX12_choose 0 = .ok (.iload_n 2, 1) := by decide +kernel
theorem dX12_choose_1 : decode cX12_choose 1 = .ok (.ifCond .lt 8, 3) := by decide +kernel
theorem dX12_choose_4 : decode cX12_choose 4 = .ok (.iload_n 2, 1) := by decide +kernel
theorem dX12_choose_5 : decode cX12_choose 5 = .ok (.iload_n 1, 1) := by decide +kernel
theorem dX12_choose_6 : decode cX12_choose 6 = .ok (.if_icmp .le 7, 3) := by decide +kernel
theorem dX12_choose_9 : decode cX12_choose 9 = .ok (.lconst 0, 1) := by decide +kernel
theorem dX12_choose_10 : decode cX12_choose 10 = .ok (.goto 14, 3) := by decide +kernel
theorem dX12_choose_13 : decode cX12_choose 13 = .ok (.aload_n 0, 1) := by decide +kernel
theorem dX12_choose_14 : decode cX12_choose 14 = .ok (.getfield 154, 3) := by decide +kernel
theorem dX12_choose_17 : decode cX12_choose 17 = .ok (.bipush 41, 2) := by decide +kernel
theorem dX12_choose_19 : decode cX12_choose 19 = .ok (.iload_n 1, 1) := by decide +kernel
theorem dX12_choose_20 : decode cX12_choose 20 = .ok (.imul, 1) := by decide +kernel
theorem dX12_choose_21 : decode cX12_choose 21 = .ok (.iload_n 2, 1) := by decide +kernel
theorem dX12_choose_22 : decode cX12_choose 22 = .ok (.iadd, 1) := by decide +kernel
theorem dX12_choose_23 : decode cX12_choose 23 = .ok (.laload, 1) := by decide +kernel
theorem dX12_choose_24 : decode cX12_choose 24 = .ok (.lreturn, 1) := by decide +kernel
theorem dX12_bad_0 : decode cX12_bad 0 = .ok (.iload_n 1, 1) := by decide +kernel
theorem dX12_bad_1 : decode cX12_bad 1 = .ok (.iconst 1, 1) := by decide +kernel
theorem dX12_bad_2 : decode cX12_bad 2 = .ok (.bipush 40, 2) := by decide +kernel
theorem dX12_bad_4 : decode cX12_bad 4 = .ok (.invokestatic 164, 3) := by decide +kernel
theorem dX12_bad_7 : decode cX12_bad 7 = .ok (.ifCond .eq 33, 3) := by decide +kernel
theorem dX12_bad_10 : decode cX12_bad 10 = .ok (.iload_n 2, 1) := by decide +kernel
theorem dX12_bad_11 : decode cX12_bad 11 = .ok (.iconst 1, 1) := by decide +kernel
theorem dX12_bad_12 : decode cX12_bad 12 = .ok (.iload_n 1, 1) := by decide +kernel
theorem dX12_bad_13 : decode cX12_bad 13 = .ok (.invokestatic 164, 3) := by decide +kernel
theorem dX12_bad_16 : decode cX12_bad 16 = .ok (.ifCond .eq 24, 3) := by decide +kernel
theorem dX12_bad_19 : decode cX12_bad 19 = .ok (.iload_n 3, 1) := by decide +kernel
theorem dX12_bad_20 : decode cX12_bad 20 = .ok (.iconst 0, 1) := by decide +kernel
theorem dX12_bad_21 : decode cX12_bad 21 = .ok (.iload_n 2, 1) := by decide +kernel
theorem dX12_bad_22 : decode cX12_bad 22 = .ok (.invokestatic 164, 3) := by decide +kernel
theorem dX12_bad_25 : decode cX12_bad 25 = .ok (.ifCond .eq 15, 3) := by decide +kernel
theorem dX12_bad_28 : decode cX12_bad 28 = .ok (.iload 4, 2) := by decide +kernel
theorem dX12_bad_30 : decode cX12_bad 30 = .ok (.iconst 1, 1) := by decide +kernel
theorem dX12_bad_31 : decode cX12_bad 31 = .ok (.sipush 9999, 3) := by decide +kernel
theorem dX12_bad_34 : decode cX12_bad 34 = .ok (.invokestatic 164, 3) := by decide +kernel
theorem dX12_bad_37 : decode cX12_bad 37 = .ok (.ifCond .ne 5, 3) := by decide +kernel
theorem dX12_bad_40 : decode cX12_bad 40 = .ok (.iconst (-1), 1) := by decide +kernel
theorem dX12_bad_41 : decode cX12_bad 41 = .ok (.ireturn, 1) := by decide +kernel
theorem dX12_bad_42 : decode cX12_bad 42 = .ok (.iconst 0, 1) := by decide +kernel
theorem dX12_bad_43 : decode cX12_bad 43 = .ok (.istore 5, 2) := by decide +kernel
theorem dX12_bad_45 : decode cX12_bad 45 = .ok (.iload 5, 2) := by decide +kernel
theorem dX12_bad_47 : decode cX12_bad 47 = .ok (.bipush 40, 2) := by decide +kernel
theorem dX12_bad_49 : decode cX12_bad 49 = .ok (.if_icmp .gt 87, 3) := by decide +kernel
theorem dX12_bad_52 : decode cX12_bad 52 = .ok (.iconst 0, 1) := by decide +kernel
theorem dX12_bad_53 : decode cX12_bad 53 = .ok (.istore 6, 2) := by decide +kernel
theorem dX12_bad_55 : decode cX12_bad 55 = .ok (.iload 6, 2) := by decide +kernel
theorem dX12_bad_57 : decode cX12_bad 57 = .ok (.iload 5, 2) := by decide +kernel
theorem dX12_bad_59 : decode cX12_bad 59 = .ok (.if_icmp .gt 71, 3) := by decide +kernel
theorem dX12_bad_62 : decode cX12_bad 62 = .ok (.aload_n 0, 1) := by decide +kernel
theorem dX12_bad_63 : decode cX12_bad 63 = .ok (.getfield 154, 3) := by decide +kernel
theorem dX12_bad_66 : decode cX12_bad 66 = .ok (.bipush 41, 2) := by decide +kernel
theorem dX12_bad_68 : decode cX12_bad 68 = .ok (.iload 5, 2) := by decide +kernel
theorem dX12_bad_70 : decode cX12_bad 70 = .ok (.imul, 1) := by decide +kernel
theorem dX12_bad_71 : decode cX12_bad 71 = .ok (.iload 6, 2) := by decide +kernel
theorem dX12_bad_73 : decode cX12_bad 73 = .ok (.iadd, 1) := by decide +kernel
theorem dX12_bad_74 : decode cX12_bad 74 = .ok (.iload 6, 2) := by decide +kernel
theorem dX12_bad_76 : decode cX12_bad 76 = .ok (.ifCond .eq 10, 3) := by decide +kernel
theorem dX12_bad_79 : decode cX12_bad 79 = .ok (.iload 6, 2) := by decide +kernel
theorem dX12_bad_81 : decode cX12_bad 81 = .ok (.iload 5, 2) := by decide +kernel
theorem dX12_bad_83 : decode cX12_bad 83 = .ok (.if_icmp .ne 7, 3) := by decide +kernel
theorem dX12_bad_86 : decode cX12_bad 86 = .ok (.lconst 1, 1) := by decide +kernel
theorem dX12_bad_87 : decode cX12_bad 87 = .ok (.goto 36, 3) := by decide +kernel
theorem dX12_bad_90 : decode cX12_bad 90 = .ok (.aload_n 0, 1) := by decide +kernel
theorem dX12_bad_91 : decode cX12_bad 91 = .ok (.getfield 154, 3) := by decide +kernel
theorem dX12_bad_94 : decode cX12_bad 94 = .ok (.bipush 41, 2) := by decide +kernel
theorem dX12_bad_96 : decode cX12_bad 96 = .ok (.iload 5, 2) := by decide +kernel
theorem dX12_bad_98 : decode cX12_bad 98 = .ok (.iconst 1, 1) := by decide +kernel
theorem dX12_bad_99 : decode cX12_bad 99 = .ok (.isub, 1) := by decide +kernel
theorem dX12_bad_100 : decode cX12_bad 100 = .ok (.imul, 1) := by decide +kernel
theorem dX12_bad_101 : decode cX12_bad 101 = .ok (.iload 6, 2) := by decide +kernel
theorem dX12_bad_103 : decode cX12_bad 103 = .ok (.iadd, 1) := by decide +kernel
theorem dX12_bad_104 : decode cX12_bad 104 = .ok (.iconst 1, 1) := by decide +kernel
theorem dX12_bad_105 : decode cX12_bad 105 = .ok (.isub, 1) := by decide +kernel
theorem dX12_bad_106 : decode cX12_bad 106 = .ok (.laload, 1) := by decide +kernel
theorem dX12_bad_107 : decode cX12_bad 107 = .ok (.aload_n 0, 1) := by decide +kernel
theorem dX12_bad_108 : decode cX12_bad 108 = .ok (.getfield 154, 3) := by decide +kernel
theorem dX12_bad_111 : decode cX12_bad 111 = .ok (.bipush 41, 2) := by decide +kernel
theorem dX12_bad_113 : decode cX12_bad 113 = .ok (.iload 5, 2) := by decide +kernel
theorem dX12_bad_115 : decode cX12_bad 115 = .ok (.iconst 1, 1) := by decide +kernel
theorem dX12_bad_116 : decode cX12_bad 116 = .ok (.isub, 1) := by decide +kernel
theorem dX12_bad_117 : decode cX12_bad 117 = .ok (.imul, 1) := by decide +kernel
theorem dX12_bad_118 : decode cX12_bad 118 = .ok (.iload 6, 2) := by decide +kernel
theorem dX12_bad_120 : decode cX12_bad 120 = .ok (.iadd, 1) := by decide +kernel
theorem dX12_bad_121 : decode cX12_bad 121 = .ok (.laload, 1) := by decide +kernel
theorem dX12_bad_122 : decode cX12_bad 122 = .ok (.ladd, 1) := by decide +kernel
theorem dX12_bad_123 : decode cX12_bad 123 = .ok (.lastore, 1) := by decide +kernel
theorem dX12_bad_124 : decode cX12_bad 124 = .ok (.iinc 6 1, 3) := by decide +kernel
theorem dX12_bad_127 : decode cX12_bad 127 = .ok (.goto (-72), 3) := by decide +kernel
theorem dX12_bad_130 : decode cX12_bad 130 = .ok (.iinc 5 1, 3) := by decide +kernel
theorem dX12_bad_133 : decode cX12_bad 133 = .ok (.goto (-88), 3) := by decide +kernel
theorem dX12_bad_136 : decode cX12_bad 136 = .ok (.iload_n 1, 1) := by decide +kernel
theorem dX12_bad_137 : decode cX12_bad 137 = .ok (.iload_n 2, 1) := by decide +kernel
theorem dX12_bad_138 : decode cX12_bad 138 = .ok (.isub, 1) := by decide +kernel
theorem dX12_bad_139 : decode cX12_bad 139 = .ok (.iload_n 3, 1) := by decide +kernel
theorem dX12_bad_140 : decode cX12_bad 140 = .ok (.iadd, 1) := by decide +kernel
theorem dX12_bad_141 : decode cX12_bad 141 = .ok (.istore 5, 2) := by decide +kernel
theorem dX12_bad_143 : decode cX12_bad 143 = .ok (.iload 5, 2) := by decide +kernel
theorem dX12_bad_145 : decode cX12_bad 145 = .ok (.iload_n 3, 1) := by decide +kernel
theorem dX12_bad_146 : decode cX12_bad 146 = .ok (.if_icmp .le 76, 3) := by decide +kernel
theorem dX12_bad_149 : decode cX12_bad 149 = .ok (.lconst 0, 1) := by decide +kernel
theorem dX12_bad_150 : decode cX12_bad 150 = .ok (.lstore 6, 2) := by decide +kernel
theorem dX12_bad_152 : decode cX12_bad 152 = .ok (.iconst 0, 1) := by decide +kernel
theorem dX12_bad_153 : decode cX12_bad 153 = .ok (.istore 8, 2) := by decide +kernel
theorem dX12_bad_155 : decode cX12_bad 155 = .ok (.iload 8, 2) := by decide +kernel
theorem dX12_bad_157 : decode cX12_bad 157 = .ok (.iload_n 3, 1) := by decide +kernel
theorem dX12_bad_158 : decode cX12_bad 158 = .ok (.if_icmp .gt 35, 3) := by decide +kernel
theorem dX12_bad_161 : decode cX12_bad 161 = .ok (.lload 6, 2) := by decide +kernel
theorem dX12_bad_163 : decode cX12_bad 163 = .ok (.aload_n 0, 1) := by decide +kernel
theorem dX12_bad_164 : decode cX12_bad 164 = .ok (.iload 5, 2) := by decide +kernel
theorem dX12_bad_166 : decode cX12_bad 166 = .ok (.iload 8, 2) := by decide +kernel
theorem dX12_bad_168 : decode cX12_bad 168 = .ok (.invokevirtual 327, 3) := by decide +kernel
theorem dX12_bad_171 : decode cX12_bad 171 = .ok (.aload_n 0, 1) := by decide +kernel
theorem dX12_bad_172 : decode cX12_bad 172 = .ok (.iload_n 1, 1) := by decide +kernel
theorem dX12_bad_173 : decode cX12_bad 173 = .ok (.iload 5, 2) := by decide +kernel
theorem dX12_bad_175 : decode cX12_bad 175 = .ok (.isub, 1) := by decide +kernel
theorem dX12_bad_176 : decode cX12_bad 176 = .ok (.iload_n 2, 1) := by decide +kernel
theorem dX12_bad_177 : decode cX12_bad 177 = .ok (.iload 8, 2) := by decide +kernel
theorem dX12_bad_179 : decode cX12_bad 179 = .ok (.isub, 1) := by decide +kernel
theorem dX12_bad_180 : decode cX12_bad 180 = .ok (.invokevirtual 327, 3) := by decide +kernel
theorem dX12_bad_183 : decode cX12_bad 183 = .ok (.lmul, 1) := by decide +kernel
theorem dX12_bad_184 : decode cX12_bad 184 = .ok (.ladd, 1) := by decide +kernel
theorem dX12_bad_185 : decode cX12_bad 185 = .ok (.lstore 6, 2) := by decide +kernel
theorem dX12_bad_187 : decode cX12_bad 187 = .ok (.iinc 8 1, 3) := by decide +kernel
theorem dX12_bad_190 : decode cX12_bad 190 = .ok (.goto (-35), 3) := by decide +kernel
theorem dX12_bad_193 : decode cX12_bad 193 = .ok (.ldc2_w 331, 3) := by decide +kernel
theorem dX12_bad_196 : decode cX12_bad 196 = .ok (.lload 6, 2) := by decide +kernel
theorem dX12_bad_198 : decode cX12_bad 198 = .ok (.lmul, 1) := by decide +kernel
theorem dX12_bad_199 : decode cX12_bad 199 = .ok (.iload 4, 2) := by decide +kernel
theorem dX12_bad_201 : decode cX12_bad 201 = .ok (.i2l, 1) := by decide +kernel
theorem dX12_bad_202 : decode cX12_bad 202 = .ok (.aload_n 0, 1) := by decide +kernel
theorem dX12_bad_203 : decode cX12_bad 203 = .ok (.iload_n 1, 1) := by decide +kernel
theorem dX12_bad_204 : decode cX12_bad 204 = .ok (.iload_n 2, 1) := by decide +kernel
theorem dX12_bad_205 : decode cX12_bad 205 = .ok (.invokevirtual 327, 3) := by decide +kernel
theorem dX12_bad_208 : decode cX12_bad 208 = .ok (.lmul, 1) := by decide +kernel
theorem dX12_bad_209 : decode cX12_bad 209 = .ok (.lcmp, 1) := by decide +kernel
theorem dX12_bad_210 : decode cX12_bad 210 = .ok (.ifCond .lt 6, 3) := by decide +kernel
theorem dX12_bad_213 : decode cX12_bad 213 = .ok (.iload 5, 2) := by decide +kernel
theorem dX12_bad_215 : decode cX12_bad 215 = .ok (.ireturn, 1) := by decide +kernel
theorem dX12_bad_216 : decode cX12_bad 216 = .ok (.iinc 5 (-1), 3) := by decide +kernel
theorem dX12_bad_219 : decode cX12_bad 219 = .ok (.goto (-76), 3) := by decide +kernel
theorem dX12_bad_222 : decode cX12_bad 222 = .ok (.iload_n 3, 1) := by decide +kernel
theorem dX12_bad_223 : decode cX12_bad 223 = .ok (.ireturn, 1) := by decide +kernel
theorem dX12_count_0 : decode cX12_count 0 = .ok (.iconst 0, 1) := by decide +kernel
theorem dX12_count_1 : decode cX12_count 1 = .ok (.istore_n 2, 1) := by decide +kernel
theorem dX12_count_2 : decode cX12_count 2 = .ok (.iload_n 1, 1) := by decide +kernel
theorem dX12_count_3 : decode cX12_count 3 = .ok (.tableswitch 144 0 8 #[49, 54, 59, 64, 69, 104, 109, 114, 119], 49) := by decide +kernel
theorem dX12_count_52 : decode cX12_count 52 = .ok (.aload_n 0, 1) := by decide +kernel
theorem dX12_count_53 : decode cX12_count 53 = .ok (.getfield 161, 3) := by decide +kernel
theorem dX12_count_56 : decode cX12_count 56 = .ok (.ireturn, 1) := by decide +kernel
theorem dX12_count_57 : decode cX12_count 57 = .ok (.aload_n 0, 1) := by decide +kernel
theorem dX12_count_58 : decode cX12_count 58 = .ok (.getfield 234, 3) := by decide +kernel
theorem dX12_count_61 : decode cX12_count 61 = .ok (.ireturn, 1) := by decide +kernel
theorem dX12_count_62 : decode cX12_count 62 = .ok (.aload_n 0, 1) := by decide +kernel
theorem dX12_count_63 : decode cX12_count 63 = .ok (.getfield 279, 3) := by decide +kernel
theorem dX12_count_66 : decode cX12_count 66 = .ok (.ireturn, 1) := by decide +kernel
theorem dX12_count_67 : decode cX12_count 67 = .ok (.aload_n 0, 1) := by decide +kernel
theorem dX12_count_68 : decode cX12_count 68 = .ok (.getfield 311, 3) := by decide +kernel
theorem dX12_count_71 : decode cX12_count 71 = .ok (.ireturn, 1) := by decide +kernel
theorem dX12_count_72 : decode cX12_count 72 = .ok (.iconst 0, 1) := by decide +kernel
theorem dX12_count_73 : decode cX12_count 73 = .ok (.istore_n 3, 1) := by decide +kernel
theorem dX12_count_74 : decode cX12_count 74 = .ok (.iload_n 3, 1) := by decide +kernel
theorem dX12_count_75 : decode cX12_count 75 = .ok (.aload_n 0, 1) := by decide +kernel
theorem dX12_count_76 : decode cX12_count 76 = .ok (.getfield 311, 3) := by decide +kernel
theorem dX12_count_79 : decode cX12_count 79 = .ok (.if_icmp .ge 26, 3) := by decide +kernel
theorem dX12_count_82 : decode cX12_count 82 = .ok (.iload_n 2, 1) := by decide +kernel
