theorem dX12_within_0 : decode cX12_within 0 = .ok (.lload_n 0, 1) := by decide +kernel
theorem dX12_within_1 : decode cX12_within 1 = .ok (.lload_n 2, 1) := by decide +kernel
theorem dX12_within_2 : decode cX12_within 2 = .ok (.lcmp, 1) := by decide +kernel
theorem dX12_within_3 : decode cX12_within 3 = .ok (.ifCond .lt 14, 3) := by decide +kernel
theorem dX12_within_6 : decode cX12_within 6 = .ok (.lload_n 0, 1) := by decide +kernel
theorem dX12_within_7 : decode cX12_within 7 = .ok (.lload 4, 2) := by decide +kernel
theorem dX12_within_9 : decode cX12_within 9 = .ok (.lcmp, 1) := by decide +kernel
theorem dX12_within_10 : decode cX12_within 10 = .ok (.ifCond .gt 7, 3) := by decide +kernel
theorem dX12_within_13 : decode cX12_within 13 = .ok (.iconst 1, 1) := by decide +kernel
theorem dX12_within_14 : decode cX12_within 14 = .ok (.goto 4, 3) := by decide +kernel
theorem dX12_within_17 : decode cX12_within 17 = .ok (.iconst 0, 1) := by decide +kernel
theorem dX12_within_18 : decode cX12_within 18 = .ok (.ireturn, 1) := by decide +kernel
theorem dX12_init_0 : decode cX12_init 0 = .ok (.aload_n 0, 1) := by decide +kernel
theorem dX12_init_1 : decode cX12_init 1 = .ok (.invokespecial 3, 3) := by decide +kernel
theorem dX12_init_4 : decode cX12_init 4 = .ok (.aload_n 0, 1) := by decide +kernel
theorem dX12_init_5 : decode cX12_init 5 = .ok (.sipush 147, 3) := by decide +kernel
theorem dX12_init_8 : decode cX12_init 8 = .ok (.newarray .int, 2) := by decide +kernel
theorem dX12_init_10 : decode cX12_init 10 = .ok (.putfield 9, 3) := by decide +kernel
theorem dX12_init_13 : decode cX12_init 13 = .ok (.aload_n 0, 1) := by decide +kernel
theorem dX12_init_14 : decode cX12_init 14 = .ok (.bipush 40, 2) := by decide +kernel
theorem dX12_init_16 : decode cX12_init 16 = .ok (.newarray .int, 2) := by decide +kernel
theorem dX12_init_18 : decode cX12_init 18 = .ok (.putfield 13, 3) := by decide +kernel
theorem dX12_init_21 : decode cX12_init 21 = .ok (.aload_n 0, 1) := by decide +kernel
theorem dX12_init_22 : decode cX12_init 22 = .ok (.bipush 40, 2) := by decide +kernel
theorem dX12_init_24 : decode cX12_init 24 = .ok (.newarray .int, 2) := by decide +kernel
theorem dX12_init_26 : decode cX12_init 26 = .ok (.putfield 16, 3) := by decide +kernel
theorem dX12_init_29 : decode cX12_init 29 = .ok (.aload_n 0, 1) := by decide +kernel
theorem dX12_init_30 : decode cX12_init 30 = .ok (.bipush 40, 2) := by decide +kernel
theorem dX12_init_32 : decode cX12_init 32 = .ok (.newarray .int, 2) := by decide +kernel
theorem dX12_init_34 : decode cX12_init 34 = .ok (.putfield 19, 3) := by decide +kernel
theorem dX12_init_37 : decode cX12_init 37 = .ok (.aload_n 0, 1) := by decide +kernel
theorem dX12_init_38 : decode cX12_init 38 = .ok (.bipush 120, 2) := by decide +kernel
theorem dX12_init_40 : decode cX12_init 40 = .ok (.newarray .int, 2) := by decide +kernel
theorem dX12_init_42 : decode cX12_init 42 = .ok (.putfield 22, 3) := by decide +kernel
theorem dX12_init_45 : decode cX12_init 45 = .ok (.aload_n 0, 1) := by decide +kernel
theorem dX12_init_46 : decode cX12_init 46 = .ok (.bipush 120, 2) := by decide +kernel
theorem dX12_init_48 : decode cX12_init 48 = .ok (.newarray .int, 2) := by decide +kernel
theorem dX12_init_50 : decode cX12_init 50 = .ok (.putfield 25, 3) := by decide +kernel
theorem dX12_init_53 : decode cX12_init 53 = .ok (.aload_n 0, 1) := by decide +kernel
theorem dX12_init_54 : decode cX12_init 54 = .ok (.bipush 6, 2) := by decide +kernel
theorem dX12_init_56 : decode cX12_init 56 = .ok (.newarray .int, 2) := by decide +kernel
theorem dX12_init_58 : decode cX12_init 58 = .ok (.putfield 28, 3) := by decide +kernel
theorem dX12_init_61 : decode cX12_init 61 = .ok (.aload_n 0, 1) := by decide +kernel
theorem dX12_init_62 : decode cX12_init 62 = .ok (.bipush 36, 2) := by decide +kernel
theorem dX12_init_64 : decode cX12_init 64 = .ok (.newarray .int, 2) := by decide +kernel
theorem dX12_init_66 : decode cX12_init 66 = .ok (.putfield 31, 3) := by decide +kernel
theorem dX12_init_69 : decode cX12_init 69 = .ok (.aload_n 0, 1) := by decide +kernel
theorem dX12_init_70 : decode cX12_init 70 = .ok (.bipush 36, 2) := by decide +kernel
theorem dX12_init_72 : decode cX12_init 72 = .ok (.newarray .int, 2) := by decide +kernel
theorem dX12_init_74 : decode cX12_init 74 = .ok (.putfield 34, 3) := by decide +kernel
theorem dX12_init_77 : decode cX12_init 77 = .ok (.aload_n 0, 1) := by decide +kernel
theorem dX12_init_78 : decode cX12_init 78 = .ok (.bipush 36, 2) := by decide +kernel
theorem dX12_init_80 : decode cX12_init 80 = .ok (.newarray .int, 2) := by decide +kernel
theorem dX12_init_82 : decode cX12_init 82 = .ok (.putfield 37, 3) := by decide +kernel
theorem dX12_init_85 : decode cX12_init 85 = .ok (.aload_n 0, 1) := by decide +kernel
theorem dX12_init_86 : decode cX12_init 86 = .ok (.bipush 36, 2) := by decide +kernel
theorem dX12_init_88 : decode cX12_init 88 = .ok (.newarray .int, 2) := by decide +kernel
theorem dX12_init_90 : decode cX12_init 90 = .ok (.putfield 40, 3) := by decide +kernel
theorem dX12_init_93 : decode cX12_init 93 = .ok (.aload_n 0, 1) := by decide +kernel
theorem dX12_init_94 : decode cX12_init 94 = .ok (.bipush 36, 2) := by decide +kernel
theorem dX12_init_96 : decode cX12_init 96 = .ok (.newarray .boolean, 2) := by decide +kernel
theorem dX12_init_98 : decode cX12_init 98 = .ok (.putfield 43, 3) := by decide +kernel
theorem dX12_init_101 : decode cX12_init 101 = .ok (.aload_n 0, 1) := by decide +kernel
theorem dX12_init_102 : decode cX12_init 102 = .ok (.iconst 4, 1) := by decide +kernel
theorem dX12_init_103 : decode cX12_init 103 = .ok (.newarray .int, 2) := by decide +kernel
theorem dX12_init_105 : decode cX12_init 105 = .ok (.putfield 47, 3) := by decide +kernel
theorem dX12_init_108 : decode cX12_init 108 = .ok (.aload_n 0, 1) := by decide +kernel
theorem dX12_init_109 : decode cX12_init 109 = .ok (.iconst 4, 1) := by decide +kernel
theorem dX12_init_110 : decode cX12_init 110 = .ok (.newarray .int, 2) := by decide +kernel
theorem dX12_init_112 : decode cX12_init 112 = .ok (.putfield 50, 3) := by decide +kernel
theorem dX12_init_115 : decode cX12_init 115 = .ok (.aload_n 0, 1) := by decide +kernel
theorem dX12_init_116 : decode cX12_init 116 = .ok (.iconst 3, 1) := by decide +kernel
theorem dX12_init_117 : decode cX12_init 117 = .ok (.newarray .int, 2) := by decide +kernel
theorem dX12_init_119 : decode cX12_init 119 = .ok (.putfield 53, 3) := by decide +kernel
theorem dX12_init_122 : decode cX12_init 122 = .ok (.aload_n 0, 1) := by decide +kernel
theorem dX12_init_123 : decode cX12_init 123 = .ok (.iconst 5, 1) := by decide +kernel
theorem dX12_init_124 : decode cX12_init 124 = .ok (.newarray .int, 2) := by decide +kernel
theorem dX12_init_126 : decode cX12_init 126 = .ok (.putfield 56, 3) := by decide +kernel
theorem dX12_init_129 : decode cX12_init 129 = .ok (.aload_n 0, 1) := by decide +kernel
theorem dX12_init_130 : decode cX12_init 130 = .ok (.sipush 147, 3) := by decide +kernel
theorem dX12_init_133 : decode cX12_init 133 = .ok (.newarray .int, 2) := by decide +kernel
theorem dX12_init_135 : decode cX12_init 135 = .ok (.putfield 59, 3) := by decide +kernel
theorem dX12_init_138 : decode cX12_init 138 = .ok (.aload_n 0, 1) := by decide +kernel
theorem dX12_init_139 : decode cX12_init 139 = .ok (.iconst 5, 1) := by decide +kernel
theorem dX12_init_140 : decode cX12_init 140 = .ok (.newarray .int, 2) := by decide +kernel
theorem dX12_init_142 : decode cX12_init 142 = .ok (.putfield 62, 3) := by decide +kernel
theorem dX12_init_145 : decode cX12_init 145 = .ok (.aload_n 0, 1) := by decide +kernel
theorem dX12_init_146 : decode cX12_init 146 = .ok (.bipush 50, 2) := by decide +kernel
theorem dX12_init_148 : decode cX12_init 148 = .ok (.newarray .int, 2) := by decide +kernel
theorem dX12_init_150 : decode cX12_init 150 = .ok (.putfield 65, 3) := by decide +kernel
theorem dX12_init_153 : decode cX12_init 153 = .ok (.aload_n 0, 1) := by decide +kernel
theorem dX12_init_154 : decode cX12_init 154 = .ok (.bipush 24, 2) := by decide +kernel
theorem dX12_init_156 : decode cX12_init 156 = .ok (.newarray .int, 2) := by decide +kernel
theorem dX12_init_158 : decode cX12_init 158 = .ok (.putfield 68, 3) := by decide +kernel
theorem dX12_init_161 : decode cX12_init 161 = .ok (.aload_n 0, 1) := by decide +kernel
theorem dX12_init_162 : decode cX12_init 162 = .ok (.bipush 6, 2) := by decide +kernel
theorem dX12_init_164 : decode cX12_init 164 = .ok (.newarray .int, 2) := by decide +kernel
theorem dX12_init_166 : decode cX12_init 166 = .ok (.putfield 71, 3) := by decide +kernel
theorem dX12_init_169 : decode cX12_init 169 = .ok (.aload_n 0, 1) := by decide +kernel
theorem dX12_init_170 : decode cX12_init 170 = .ok (.bipush 6, 2) := by decide +kernel
theorem dX12_init_172 : decode cX12_init 172 = .ok (.newarray .int, 2) := by decide +kernel
theorem dX12_init_174 : decode cX12_init 174 = .ok (.putfield 74, 3) := by decide +kernel
theorem dX12_init_177 : decode cX12_init 177 = .ok (.aload_n 0, 1) := by decide +kernel
theorem dX12_init_178 : decode cX12_init 178 = .ok (.sipush 360, 3) := by decide +kernel
theorem dX12_init_181 : decode cX12_init 181 = .ok (.newarray .long, 2) := by decide +kernel
theorem dX12_init_183 : decode cX12_init 183 = .ok (.putfield 77, 3) := by decide +kernel
theorem dX12_init_186 : decode cX12_init 186 = .ok (.aload_n 0, 1) := by decide +kernel
theorem dX12_init_187 : decode cX12_init 187 = .ok (.bipush 60, 2) := by decide +kernel
theorem dX12_init_189 : decode cX12_init 189 = .ok (.newarray .long, 2) := by decide +kernel
theorem dX12_init_191 : decode cX12_init 191 = .ok (.putfield 81, 3) := by decide +kernel
theorem dX12_init_194 : decode cX12_init 194 = .ok (.iconst 0, 1) := by decide +kernel
theorem dX12_init_195 : decode cX12_init 195 = .ok (.istore_n 1, 1) := by decide +kernel
theorem dX12_init_196 : decode cX12_init 196 = .ok (.iload_n 1, 1) := by decide +kernel
theorem dX12_init_197 : decode cX12_init 197 = .ok (.bipush 6, 2) := by decide +kernel
theorem dX12_init_199 : decode cX12_init 199 = .ok (.if_icmp .ge 16, 3) := by decide +kernel
theorem dX12_init_202 : decode cX12_init 202 = .ok (.aload_n 0, 1) := by decide +kernel
theorem dX12_init_203 : decode cX12_init 203 = .ok (.getfield 71, 3) := by decide +kernel
theorem dX12_init_206 : decode cX12_init 206 = .ok (.iload_n 1, 1) := by decide +kernel
theorem dX12_init_207 : decode cX12_init 207 = .ok (.iconst (-1), 1) := by decide +kernel
theorem dX12_init_208 : decode cX12_init 208 = .ok (.iastore, 1) := by decide +kernel
theorem dX12_init_209 : decode cX12_init 209 = .ok (.iinc 1 1, 3) := by decide +kernel
theorem dX12_init_212 : decode cX12_init 212 = .ok (.goto (-16), 3) := by decide +kernel
theorem dX12_init_215 : decode cX12_init 215 = .ok (.aload_n 0, 1) := by decide +kernel
theorem dX12_init_216 : decode cX12_init 216 = .ok (.iconst (-1), 1) := by decide +kernel
theorem dX12_init_217 : decode cX12_init 217 = .ok (.putfield 84, 3) := by decide +kernel
theorem dX12_init_220 : decode cX12_init 220 = .ok (.aload_n 0, 1) := by decide +kernel
theorem dX12_init_221 : decode cX12_init 221 = .ok (.getfield 9, 3) := by decide +kernel
theorem dX12_init_224 : decode cX12_init 224 = .ok (.sipush 144, 3) := by decide +kernel
theorem dX12_init_227 : decode cX12_init 227 = .ok (.iconst 3, 1) := by decide +kernel
theorem dX12_init_228 : decode cX12_init 228 = .ok (.iastore, 1) := by decide +kernel
theorem dX12_init_229 : decode cX12_init 229 = .ok (.aload_n 0, 1) := by decide +kernel
theorem dX12_init_230 : decode cX12_init 230 = .ok (.getfield 9, 3) := by decide +kernel
theorem dX12_init_233 : decode cX12_init 233 = .ok (.sipush 145, 3) := by decide +kernel
theorem dX12_init_236 : decode cX12_init 236 = .ok (.iconst 2, 1) := by decide +kernel
theorem dX12_init_237 : decode cX12_init 237 = .ok (.iastore, 1) := by decide +kernel
theorem dX12_init_238 : decode cX12_init 238 = .ok (.return_, 1) := by decide +kernel
theorem dX12_becomes_0 : decode cX12_becomes 0 = .ok (.aload_n 0, 1) := by decide +kernel
theorem dX12_becomes_1 : decode cX12_becomes 1 = .ok (.getfield 9, 3) := by decide +kernel
theorem dX12_becomes_4 : decode cX12_becomes 4 = .ok (.iload_n 1, 1) := by decide +kernel
theorem dX12_becomes_5 : decode cX12_becomes 5 = .ok (.iaload, 1) := by decide +kernel
theorem dX12_becomes_6 : decode cX12_becomes 6 = .ok (.istore_n 3, 1) := by decide +kernel
theorem dX12_becomes_7 : decode cX12_becomes 7 = .ok (.iload_n 3, 1) := by decide +kernel
theorem dX12_becomes_8 : decode cX12_becomes 8 = .ok (.iload_n 2, 1) := by decide +kernel
theorem dX12_becomes_9 : decode cX12_becomes 9 = .ok (.if_icmp .ne 5, 3) := by decide +kernel
theorem dX12_becomes_12 : decode cX12_becomes 12 = .ok (.iload_n 3, 1) := by decide +kernel
theorem dX12_becomes_13 : decode cX12_becomes 13 = .ok (.ireturn, 1) := by decide +kernel
theorem dX12_becomes_14 : decode cX12_becomes 14 = .ok (.aload_n 0, 1) := by decide +kernel
theorem dX12_becomes_15 : decode cX12_becomes 15 = .ok (.getfield 88, 3) := by decide +kernel
theorem dX12_becomes_18 : decode cX12_becomes 18 = .ok (.bipush 40, 2) := by decide +kernel
theorem dX12_becomes_20 : decode cX12_becomes 20 = .ok (.if_icmp .ne 77, 3) := by decide +kernel
theorem dX12_becomes_23 : decode cX12_becomes 23 = .ok (.iconst 1, 1) := by decide +kernel
theorem dX12_becomes_24 : decode cX12_becomes 24 = .ok (.istore 4, 2) := by decide +kernel
theorem dX12_becomes_26 : decode cX12_becomes 26 = .ok (.iload 4, 2) := by decide +kernel
theorem dX12_becomes_28 : decode cX12_becomes 28 = .ok (.bipush 40, 2) := by decide +kernel
theorem dX12_becomes_30 : decode cX12_becomes 30 = .ok (.if_icmp .ge 57, 3) := by decide +kernel
theorem dX12_becomes_33 : decode cX12_becomes 33 = .ok (.aload_n 0, 1) := by decide +kernel
theorem dX12_becomes_34 : decode cX12_becomes 34 = .ok (.getfield 13, 3) := by decide +kernel
theorem dX12_becomes_37 : decode cX12_becomes 37 = .ok (.iload 4, 2) := by decide +kernel
theorem dX12_becomes_39 : decode cX12_becomes 39 = .ok (.iconst 1, 1) := by decide +kernel
theorem dX12_becomes_40 : decode cX12_becomes 40 = .ok (.isub, 1) := by decide +kernel
theorem dX12_becomes_41 : decode cX12_becomes 41 = .ok (.aload_n 0, 1) := by decide +kernel
theorem dX12_becomes_42 : decode cX12_becomes 42 = .ok (.getfield 13, 3) := by decide +kernel
theorem dX12_becomes_45 : decode cX12_becomes 45 = .ok (.iload 4, 2) := by decide +kernel
theorem dX12_becomes_47 : decode cX12_becomes 47 = .ok (.iaload, 1) := by decide +kernel
theorem dX12_becomes_48 : decode cX12_becomes 48 = .ok (.iastore, 1) := by decide +kernel
theorem dX12_becomes_49 : decode cX12_becomes 49 = .ok (.aload_n 0, 1) := by decide +kernel
theorem dX12_becomes_50 : decode cX12_becomes 50 = .ok (.getfield 16, 3) := by decide +kernel
theorem dX12_becomes_53 : decode cX12_becomes 53 = .ok (.iload 4, 2) := by decide +kernel
theorem dX12_becomes_55 : decode cX12_becomes 55 = .ok (.iconst 1, 1) := by decide +kernel
theorem dX12_becomes_56 : decode cX12_becomes 56 = .ok (.isub, 1) := by decide +kernel
theorem dX12_becomes_57 : decode cX12_becomes 57 = .ok (.aload_n 0, 1) := by decide +kernel
theorem dX12_becomes_58 : decode cX12_becomes 58 = .ok (.getfield 16, 3) := by decide +kernel
theorem dX12_becomes_61 : decode cX12_becomes 61 = .ok (.iload 4, 2) := by decide +kernel
theorem dX12_becomes_63 : decode cX12_becomes 63 = .ok (.iaload, 1) := by decide +kernel
theorem dX12_becomes_64 : decode cX12_becomes 64 = .ok (.iastore, 1) := by decide +kernel
theorem dX12_becomes_65 : decode cX12_becomes 65 = .ok (.aload_n 0, 1) := by decide +kernel
theorem dX12_becomes_66 : decode cX12_becomes 66 = .ok (.getfield 19, 3) := by decide +kernel
theorem dX12_becomes_69 : decode cX12_becomes 69 = .ok (.iload 4, 2) := by decide +kernel
theorem dX12_becomes_71 : decode cX12_becomes 71 = .ok (.iconst 1, 1) := by decide +kernel
theorem dX12_becomes_72 : decode cX12_becomes 72 = .ok (.isub, 1) := by decide +kernel
theorem dX12_becomes_73 : decode cX12_becomes 73 = .ok (.aload_n 0, 1) := by decide +kernel
theorem dX12_becomes_74 : decode cX12_becomes 74 = .ok (.getfield 19, 3) := by decide +kernel
theorem dX12_becomes_77 : decode cX12_becomes 77 = .ok (.iload 4, 2) := by decide +kernel
theorem dX12_becomes_79 : decode cX12_becomes 79 = .ok (.iaload, 1) := by decide +kernel
theorem dX12_becomes_80 : decode cX12_becomes 80 = .ok (.iastore, 1) := by decide +kernel
theorem dX12_becomes_81 : decode cX12_becomes 81 = .ok (.iinc 4 1, 3) := by decide +kernel
theorem dX12_becomes_84 : decode cX12_becomes 84 = .ok (.goto (-58), 3) := by decide +kernel
theorem dX12_becomes_87 : decode cX12_becomes 87 = .ok (.aload_n 0, 1) := by decide +kernel
theorem dX12_becomes_88 : decode cX12_becomes 88 = .ok (.dup, 1) := by decide +kernel
theorem dX12_becomes_89 : decode cX12_becomes 89 = .ok (.getfield 88, 3) := by decide +kernel
theorem dX12_becomes_92 : decode cX12_becomes 92 = .ok (.iconst 1, 1) := by decide +kernel
theorem dX12_becomes_93 : decode cX12_becomes 93 = .ok (.isub, 1) := by decide +kernel
theorem dX12_becomes_94 : decode cX12_becomes 94 = .ok (.putfield 88, 3) := by decide +kernel
theorem dX12_becomes_97 : decode cX12_becomes 97 = .ok (.aload_n 0, 1) := by decide +kernel
theorem dX12_becomes_98 : decode cX12_becomes 98 = .ok (.getfield 13, 3) := by decide +kernel
theorem dX12_becomes_101 : decode cX12_becomes 101 = .ok (.aload_n 0, 1) := by decide +kernel
theorem dX12_becomes_102 : decode cX12_becomes 102 = .ok (.getfield 88, 3) := by decide +kernel
theorem dX12_becomes_105 : decode cX12_becomes 105 = .ok (.iload_n 1, 1) := by decide +kernel
theorem dX12_becomes_106 : decode cX12_becomes 106 = .ok (.iastore, 1) := by decide +kernel
theorem dX12_becomes_107 : decode cX12_becomes 107 = .ok (.aload_n 0, 1) := by decide +kernel
theorem dX12_becomes_108 : decode cX12_becomes 108 = .ok (.getfield 16, 3) := by decide +kernel
theorem dX12_becomes_111 : decode cX12_becomes 111 = .ok (.aload_n 0, 1) := by decide +kernel
theorem dX12_becomes_112 : decode cX12_becomes 112 = .ok (.getfield 88, 3) := by decide +kernel
theorem dX12_becomes_115 : decode cX12_becomes 115 = .ok (.iload_n 3, 1) := by decide +kernel
theorem dX12_becomes_116 : decode cX12_becomes 116 = .ok (.iastore, 1) := by decide +kernel
theorem dX12_becomes_117 : decode cX12_becomes 117 = .ok (.aload_n 0, 1) := by decide +kernel
theorem dX12_becomes_118 : decode cX12_becomes 118 = .ok (.getfield 19, 3) := by decide +kernel
theorem dX12_becomes_121 : decode cX12_becomes 121 = .ok (.aload_n 0, 1) := by decide +kernel
theorem dX12_becomes_122 : decode cX12_becomes 122 = .ok (.getfield 88, 3) := by decide +kernel
theorem dX12_becomes_125 : decode cX12_becomes 125 = .ok (.iload_n 2, 1) := by decide +kernel
theorem dX12_becomes_126 : decode cX12_becomes 126 = .ok (.iastore, 1) := by decide +kernel
theorem dX12_becomes_127 : decode cX12_becomes 127 = .ok (.aload_n 0, 1) := by decide +kernel
theorem dX12_becomes_128 : decode cX12_becomes 128 = .ok (.dup, 1) := by decide +kernel
theorem dX12_becomes_129 : decode cX12_becomes 129 = .ok (.getfield 88, 3) := by decide +kernel
theorem dX12_becomes_132 : decode cX12_becomes 132 = .ok (.iconst 1, 1) := by decide +kernel
theorem dX12_becomes_133 : decode cX12_becomes 133 = .ok (.iadd, 1) := by decide +kernel
theorem dX12_becomes_134 : decode cX12_becomes 134 = .ok (.putfield 88, 3) := by decide +kernel
theorem dX12_becomes_137 : decode cX12_becomes 137 = .ok (.aload_n 0, 1) := by decide +kernel
theorem dX12_becomes_138 : decode cX12_becomes 138 = .ok (.aload_n 0, 1) := by decide +kernel
theorem dX12_becomes_139 : decode cX12_becomes 139 = .ok (.getfield 88, 3) := by decide +kernel
theorem dX12_becomes_142 : decode cX12_becomes 142 = .ok (.putfield 91, 3) := by decide +kernel
theorem dX12_becomes_145 : decode cX12_becomes 145 = .ok (.aload_n 0, 1) := by decide +kernel
theorem dX12_becomes_146 : decode cX12_becomes 146 = .ok (.getfield 9, 3) := by decide +kernel
theorem dX12_becomes_149 : decode cX12_becomes 149 = .ok (.iload_n 1, 1) := by decide +kernel
theorem dX12_becomes_150 : decode cX12_becomes 150 = .ok (.iload_n 2, 1) := by decide +kernel
theorem dX12_becomes_151 : decode cX12_becomes 151 = .ok (.iastore, 1) := by decide +kernel
theorem dX12_becomes_152 : decode cX12_becomes 152 = .ok (.iload_n 3, 1) := by decide +kernel
theorem dX12_becomes_153 : decode cX12_becomes 153 = .ok (.ireturn, 1) := by decide +kernel
theorem dX12_undo_0 : decode cX12_undo 0 = .ok (.aload_n 0, 1) := by decide +kernel
theorem dX12_undo_1 : decode cX12_undo 1 = .ok (.getfield 88, 3) := by decide +kernel
theorem dX12_undo_4 : decode cX12_undo 4 = .ok (.ifCond .ne 6, 3) := by decide +kernel
theorem dX12_undo_7 : decode cX12_undo 7 = .ok (.bipush (-5), 2) := by decide +kernel
theorem dX12_undo_9 : decode cX12_undo 9 = .ok (.ireturn, 1) := by decide +kernel
theorem dX12_undo_10 : decode cX12_undo 10 = .ok (.aload_n 0, 1) := by decide +kernel
theorem dX12_undo_11 : decode cX12_undo 11 = .ok (.dup, 1) := by decide +kernel
theorem dX12_undo_12 : decode cX12_undo 12 = .ok (.getfield 88, 3) := by decide +kernel
theorem dX12_undo_15 : decode cX12_undo 15 = .ok (.iconst 1, 1) := by decide +kernel
theorem dX12_undo_16 : decode cX12_undo 16 = .ok (.isub, 1) := by decide +kernel
theorem dX12_undo_17 : decode cX12_undo 17 = .ok (.putfield 88, 3) := by decide +kernel
theorem dX12_undo_20 : decode cX12_undo 20 = .ok (.aload_n 0, 1) := by decide +kernel
theorem dX12_undo_21 : decode cX12_undo 21 = .ok (.getfield 9, 3) := by decide +kernel
theorem dX12_undo_24 : decode cX12_undo 24 = .ok (.aload_n 0, 1) := by decide +kernel
theorem dX12_undo_25 : decode cX12_undo 25 = .ok (.getfield 13, 3) := by decide +kernel
theorem dX12_undo_28 : decode cX12_undo 28 = .ok (.aload_n 0, 1) := by decide +kernel
theorem dX12_undo_29 : decode cX12_undo 29 = .ok (.getfield 88, 3) := by decide +kernel
theorem dX12_undo_32 : decode cX12_undo 32 = .ok (.iaload, 1) := by decide +kernel
theorem dX12_undo_33 : decode cX12_undo 33 = .ok (.aload_n 0, 1) := by decide +kernel
theorem dX12_undo_34 : decode cX12_undo 34 = .ok (.getfield 16, 3) := by decide +kernel
theorem dX12_undo_37 : decode cX12_undo 37 = .ok (.aload_n 0, 1) := by decide +kernel
theorem dX12_undo_38 : decode cX12_undo 38 = .ok (.getfield 88, 3) := by decide +kernel
theorem dX12_undo_41 : decode cX12_undo 41 = .ok (.iaload, 1) := by decide +kernel
theorem dX12_undo_42 : decode cX12_undo 42 = .ok (.iastore, 1) := by decide +kernel
theorem dX12_undo_43 : decode cX12_undo 43 = .ok (.aload_n 0, 1) := by decide +kernel
theorem dX12_undo_44 : decode cX12_undo 44 = .ok (.getfield 88, 3) := by decide +kernel
theorem dX12_undo_47 : decode cX12_undo 47 = .ok (.ireturn, 1) := by decide +kernel
theorem dX12_redo_0 : decode cX12_redo 0 = .ok (.aload_n 0, 1) := by decide +kernel
theorem dX12_redo_1 : decode cX12_redo 1 = .ok (.getfield 88, 3) := by decide +kernel
theorem dX12_redo_4 : decode cX12_redo 4 = .ok (.aload_n 0, 1) := by decide +kernel
theorem dX12_redo_5 : decode cX12_redo 5 = .ok (.getfield 91, 3) := by decide +kernel
theorem dX12_redo_8 : decode cX12_redo 8 = .ok (.if_icmp .ne 6, 3) := by decide +kernel
theorem dX12_redo_11 : decode cX12_redo 11 = .ok (.bipush (-5), 2) := by decide +kernel
theorem dX12_redo_13 : decode cX12_redo 13 = .ok (.ireturn, 1) := by decide +kernel
theorem dX12_redo_14 : decode cX12_redo 14 = .ok (.aload_n 0, 1) := by decide +kernel
theorem dX12_redo_15 : decode cX12_redo 15 = .ok (.getfield 9, 3) := by decide +kernel
theorem dX12_redo_18 : decode cX12_redo 18 = .ok (.aload_n 0, 1) := by decide +kernel
theorem dX12_redo_19 : decode cX12_redo 19 = .ok (.getfield 13, 3) := by decide +kernel
theorem dX12_redo_22 : decode cX12_redo 22 = .ok (.aload_n 0, 1) := by decide +kernel
theorem dX12_redo_23 : decode cX12_redo 23 = .ok (.getfield 88, 3) := by decide +kernel
theorem dX12_redo_26 : decode cX12_redo 26 = .ok (.iaload, 1) := by decide +kernel
theorem dX12_redo_27 : decode cX12_redo 27 = .ok (.aload_n 0, 1) := by decide +kernel
theorem dX12_redo_28 : decode cX12_redo 28 = .ok (.getfield 19, 3) := by decide +kernel
theorem dX12_redo_31 : decode cX12_redo 31 = .ok (.aload_n 0, 1) := by decide +kernel
theorem dX12_redo_32 : decode cX12_redo 32 = .ok (.getfield 88, 3) := by decide +kernel
theorem dX12_redo_35 : decode cX12_redo 35 = .ok (.iaload, 1) := by decide +kernel
theorem dX12_redo_36 : decode cX12_redo 36 = .ok (.iastore, 1) := by decide +kernel
theorem dX12_redo_37 : decode cX12_redo 37 = .ok (.aload_n 0, 1) := by decide +kernel
theorem dX12_redo_38 : decode cX12_redo 38 = .ok (.dup, 1) := by decide +kernel
theorem dX12_redo_39 : decode cX12_redo 39 = .ok (.getfield 88, 3) := by decide +kernel
theorem dX12_redo_42 : decode cX12_redo 42 = .ok (.iconst 1, 1) := by decide +kernel
theorem dX12_redo_43 : decode cX12_redo 43 = .ok (.iadd, 1) := by decide +kernel
theorem dX12_redo_44 : decode cX12_redo 44 = .ok (.putfield 88, 3) := by decide +kernel
theorem dX12_redo_47 : decode cX12_redo 47 = .ok (.aload_n 0, 1) := by decide +kernel
theorem dX12_redo_48 : decode cX12_redo 48 = .ok (.getfield 91, 3) := by decide +kernel
theorem dX12_redo_51 : decode cX12_redo 51 = .ok (.aload_n 0, 1) := by decide +kernel
theorem dX12_redo_52 : decode cX12_redo 52 = .ok (.getfield 88, 3) := by decide +kernel
theorem dX12_redo_55 : decode cX12_redo 55 = .ok (.isub, 1) := by decide +kernel
theorem dX12_redo_56 : decode cX12_redo 56 = .ok (.ireturn, 1) := by decide +kernel
theorem dX12_isRoom_0 : decode cX12_isRoom 0 = .ok (.lload_n 0, 1) := by decide +kernel
theorem dX12_isRoom_1 : decode cX12_isRoom 1 = .ok (.lconst 0, 1) := by decide +kernel
theorem dX12_isRoom_2 : decode cX12_isRoom 2 = .ok (.ldc2_w 94, 3) := by decide +kernel
theorem dX12_isRoom_5 : decode cX12_isRoom 5 = .ok (.invokestatic 96, 3) := by decide +kernel
theorem dX12_isRoom_8 : decode cX12_isRoom 8 = .ok (.ireturn, 1) := by decide +kernel
theorem dX12_rooms_0 : decode cX12_rooms 0 = .ok (.iload_n 1, 1) := by decide +kernel
theorem dX12_rooms_1 : decode cX12_rooms 1 = .ok (.invokestatic 100, 3) := by decide +kernel
theorem dX12_rooms_4 : decode cX12_rooms 4 = .ok (.ifCond .eq 15, 3) := by decide +kernel
theorem dX12_rooms_7 : decode cX12_rooms 7 = .ok (.iload_n 3, 1) := by decide +kernel
theorem dX12_rooms_8 : decode cX12_rooms 8 = .ok (.i2l, 1) := by decide +kernel
theorem dX12_rooms_9 : decode cX12_rooms 9 = .ok (.lconst 1, 1) := by decide +kernel
theorem dX12_rooms_10 : decode cX12_rooms 10 = .ok (.ldc2_w 104, 3) := by decide +kernel
theorem dX12_rooms_13 : decode cX12_rooms 13 = .ok (.invokestatic 96, 3) := by decide +kernel
theorem dX12_rooms_16 : decode cX12_rooms 16 = .ok (.ifCond .ne 5, 3) := by decide +kernel
theorem dX12_rooms_19 : decode cX12_rooms 19 = .ok (.iconst (-1), 1) := by decide +kernel
theorem dX12_rooms_20 : decode cX12_rooms 20 = .ok (.ireturn, 1) := by decide +kernel
theorem dX12_rooms_21 : decode cX12_rooms 21 = .ok (.aload_n 0, 1) := by decide +kernel
theorem dX12_rooms_22 : decode cX12_rooms 22 = .ok (.getfield 71, 3) := by decide +kernel
theorem dX12_rooms_25 : decode cX12_rooms 25 = .ok (.iload_n 1, 1) := by decide +kernel
theorem dX12_rooms_26 : decode cX12_rooms 26 = .ok (.iaload, 1) := by decide +kernel
theorem dX12_rooms_27 : decode cX12_rooms 27 = .ok (.ifCond .lt 17, 3) := by decide +kernel
theorem dX12_rooms_30 : decode cX12_rooms 30 = .ok (.aload_n 0, 1) := by decide +kernel
theorem dX12_rooms_31 : decode cX12_rooms 31 = .ok (.getfield 71, 3) := by decide +kernel
theorem dX12_rooms_34 : decode cX12_rooms 34 = .ok (.iload_n 1, 1) := by decide +kernel
theorem dX12_rooms_35 : decode cX12_rooms 35 = .ok (.iaload, 1) := by decide +kernel
theorem dX12_rooms_36 : decode cX12_rooms 36 = .ok (.bipush 50, 2) := by decide +kernel
theorem dX12_rooms_38 : decode cX12_rooms 38 = .ok (.if_icmp .eq 6, 3) := by decide +kernel
theorem dX12_rooms_41 : decode cX12_rooms 41 = .ok (.bipush (-12), 2) := by decide +kernel
theorem dX12_rooms_43 : decode cX12_rooms 43 = .ok (.ireturn, 1) := by decide +kernel
theorem dX12_rooms_44 : decode cX12_rooms 44 = .ok (.iconst 0, 1) := by decide +kernel
theorem dX12_rooms_45 : decode cX12_rooms 45 = .ok (.istore 4, 2) := by decide +kernel
theorem dX12_rooms_47 : decode cX12_rooms 47 = .ok (.aload_n 0, 1) := by decide +kernel
theorem dX12_rooms_48 : decode cX12_rooms 48 = .ok (.getfield 71, 3) := by decide +kernel
theorem dX12_rooms_51 : decode cX12_rooms 51 = .ok (.iload_n 1, 1) := by decide +kernel
theorem dX12_rooms_52 : decode cX12_rooms 52 = .ok (.iaload, 1) := by decide +kernel
theorem dX12_rooms_53 : decode cX12_rooms 53 = .ok (.bipush 50, 2) := by decide +kernel
theorem dX12_rooms_55 : decode cX12_rooms 55 = .ok (.if_icmp .ne 11, 3) := by decide +kernel
theorem dX12_rooms_58 : decode cX12_rooms 58 = .ok (.iload_n 2, 1) := by decide +kernel
theorem dX12_rooms_59 : decode cX12_rooms 59 = .ok (.ifCond .lt 7, 3) := by decide +kernel
theorem dX12_rooms_62 : decode cX12_rooms 62 = .ok (.iconst 1, 1) := by decide +kernel
theorem dX12_rooms_63 : decode cX12_rooms 63 = .ok (.goto 4, 3) := by decide +kernel
theorem dX12_rooms_66 : decode cX12_rooms 66 = .ok (.iconst 0, 1) := by decide +kernel
theorem dX12_rooms_67 : decode cX12_rooms 67 = .ok (.istore 5, 2) := by decide +kernel
theorem dX12_rooms_69 : decode cX12_rooms 69 = .ok (.iload 5, 2) := by decide +kernel
theorem dX12_rooms_71 : decode cX12_rooms 71 = .ok (.ifCond .eq 169, 3) := by decide +kernel
theorem dX12_rooms_74 : decode cX12_rooms 74 = .ok (.iload 4, 2) := by decide +kernel
theorem dX12_rooms_76 : decode cX12_rooms 76 = .ok (.iload_n 3, 1) := by decide +kernel
theorem dX12_rooms_77 : decode cX12_rooms 77 = .ok (.if_icmp .ge 163, 3) := by decide +kernel
theorem dX12_rooms_80 : decode cX12_rooms 80 = .ok (.iload_n 2, 1) := by decide +kernel
theorem dX12_rooms_81 : decode cX12_rooms 81 = .ok (.aload_n 0, 1) := by decide +kernel
theorem dX12_rooms_82 : decode cX12_rooms 82 = .ok (.getfield 74, 3) := by decide +kernel
theorem dX12_rooms_85 : decode cX12_rooms 85 = .ok (.iload_n 1, 1) := by decide +kernel
theorem dX12_rooms_86 : decode cX12_rooms 86 = .ok (.iaload, 1) := by decide +kernel
theorem dX12_rooms_87 : decode cX12_rooms 87 = .ok (.iconst 3, 1) := by decide +kernel
theorem dX12_rooms_88 : decode cX12_rooms 88 = .ok (.isub, 1) := by decide +kernel
theorem dX12_rooms_89 : decode cX12_rooms 89 = .ok (.iconst 3, 1) := by decide +kernel
theorem dX12_rooms_90 : decode cX12_rooms 90 = .ok (.iload 4, 2) := by decide +kernel
theorem dX12_rooms_92 : decode cX12_rooms 92 = .ok (.imul, 1) := by decide +kernel
theorem dX12_rooms_93 : decode cX12_rooms 93 = .ok (.isub, 1) := by decide +kernel
theorem dX12_rooms_94 : decode cX12_rooms 94 = .ok (.if_icmp .gt 7, 3) := by decide +kernel
theorem dX12_rooms_97 : decode cX12_rooms 97 = .ok (.iconst 1, 1) := by decide +kernel
theorem dX12_rooms_98 : decode cX12_rooms 98 = .ok (.goto 4, 3) := by decide +kernel
theorem dX12_rooms_101 : decode cX12_rooms 101 = .ok (.iconst 0, 1) := by decide +kernel
theorem dX12_rooms_102 : decode cX12_rooms 102 = .ok (.istore 5, 2) := by decide +kernel
theorem dX12_rooms_104 : decode cX12_rooms 104 = .ok (.bipush 60, 2) := by decide +kernel
theorem dX12_rooms_106 : decode cX12_rooms 106 = .ok (.iload_n 1, 1) := by decide +kernel
theorem dX12_rooms_107 : decode cX12_rooms 107 = .ok (.imul, 1) := by decide +kernel
theorem dX12_rooms_108 : decode cX12_rooms 108 = .ok (.iload_n 2, 1) := by decide +kernel
theorem dX12_rooms_109 : decode cX12_rooms 109 = .ok (.iadd, 1) := by decide +kernel
theorem dX12_rooms_110 : decode cX12_rooms 110 = .ok (.iconst 3, 1) := by decide +kernel
theorem dX12_rooms_111 : decode cX12_rooms 111 = .ok (.iload 4, 2) := by decide +kernel
theorem dX12_rooms_113 : decode cX12_rooms 113 = .ok (.imul, 1) := by decide +kernel
theorem dX12_rooms_114 : decode cX12_rooms 114 = .ok (.iadd, 1) := by decide +kernel
theorem dX12_rooms_115 : decode cX12_rooms 115 = .ok (.istore 6, 2) := by decide +kernel
theorem dX12_rooms_117 : decode cX12_rooms 117 = .ok (.iload 5, 2) := by decide +kernel
theorem dX12_rooms_119 : decode cX12_rooms 119 = .ok (.ifCond .eq 58, 3) := by decide +kernel
theorem dX12_rooms_122 : decode cX12_rooms 122 = .ok (.aload_n 0, 1) := by decide +kernel
theorem dX12_rooms_123 : decode cX12_rooms 123 = .ok (.getfield 77, 3) := by decide +kernel
theorem dX12_rooms_126 : decode cX12_rooms 126 = .ok (.iload 6, 2) := by decide +kernel
theorem dX12_rooms_128 : decode cX12_rooms 128 = .ok (.laload, 1) := by decide +kernel
theorem dX12_rooms_129 : decode cX12_rooms 129 = .ok (.invokestatic 106, 3) := by decide +kernel
theorem dX12_rooms_132 : decode cX12_rooms 132 = .ok (.ifCond .eq 45, 3) := by decide +kernel
theorem dX12_rooms_135 : decode cX12_rooms 135 = .ok (.aload_n 0, 1) := by decide +kernel
theorem dX12_rooms_136 : decode cX12_rooms 136 = .ok (.getfield 77, 3) := by decide +kernel
theorem dX12_rooms_139 : decode cX12_rooms 139 = .ok (.iload 6, 2) := by decide +kernel
theorem dX12_rooms_141 : decode cX12_rooms 141 = .ok (.iconst 1, 1) := by decide +kernel
theorem dX12_rooms_142 : decode cX12_rooms 142 = .ok (.iadd, 1) := by decide +kernel
theorem dX12_rooms_143 : decode cX12_rooms 143 = .ok (.laload, 1) := by decide +kernel
theorem dX12_rooms_144 : decode cX12_rooms 144 = .ok (.lconst 0, 1) := by decide +kernel
theorem dX12_rooms_145 : decode cX12_rooms 145 = .ok (.ldc2_w 110, 3) := by decide +kernel
theorem dX12_rooms_148 : decode cX12_rooms 148 = .ok (.invokestatic 96, 3) := by decide +kernel
theorem dX12_rooms_151 : decode cX12_rooms 151 = .ok (.ifCond .eq 26, 3) := by decide +kernel
theorem dX12_rooms_154 : decode cX12_rooms 154 = .ok (.aload_n 0, 1) := by decide +kernel
theorem dX12_rooms_155 : decode cX12_rooms 155 = .ok (.getfield 77, 3) := by decide +kernel
theorem dX12_rooms_158 : decode cX12_rooms 158 = .ok (.iload 6, 2) := by decide +kernel
theorem dX12_rooms_160 : decode cX12_rooms 160 = .ok (.iconst 2, 1) := by decide +kernel
theorem dX12_rooms_161 : decode cX12_rooms 161 = .ok (.iadd, 1) := by decide +kernel
theorem dX12_rooms_162 : decode cX12_rooms 162 = .ok (.laload, 1) := by decide +kernel
theorem dX12_rooms_163 : decode cX12_rooms 163 = .ok (.lconst 0, 1) := by decide +kernel
theorem dX12_rooms_164 : decode cX12_rooms 164 = .ok (.ldc2_w 112, 3) := by decide +kernel
theorem dX12_rooms_167 : decode cX12_rooms 167 = .ok (.invokestatic 96, 3) := by decide +kernel
theorem dX12_rooms_170 : decode cX12_rooms 170 = .ok (.ifCond .eq 7, 3) := by decide +kernel
theorem dX12_rooms_173 : decode cX12_rooms 173 = .ok (.iconst 1, 1) := by decide +kernel
theorem dX12_rooms_174 : decode cX12_rooms 174 = .ok (.goto 4, 3) := by decide +kernel
theorem dX12_rooms_177 : decode cX12_rooms 177 = .ok (.iconst 0, 1) := by decide +kernel
theorem dX12_rooms_178 : decode cX12_rooms 178 = .ok (.istore 5, 2) := by decide +kernel
theorem dX12_rooms_180 : decode cX12_rooms 180 = .ok (.iload 5, 2) := by decide +kernel
theorem dX12_rooms_182 : decode cX12_rooms 182 = .ok (.ifCond .eq 55, 3) := by decide +kernel
theorem dX12_rooms_185 : decode cX12_rooms 185 = .ok (.aload_n 0, 1) := by decide +kernel
theorem dX12_rooms_186 : decode cX12_rooms 186 = .ok (.getfield 9, 3) := by decide +kernel
theorem dX12_rooms_189 : decode cX12_rooms 189 = .ok (.aload_n 0, 1) := by decide +kernel
theorem dX12_rooms_190 : decode cX12_rooms 190 = .ok (.getfield 77, 3) := by decide +kernel
theorem dX12_rooms_193 : decode cX12_rooms 193 = .ok (.iload 6, 2) := by decide +kernel
theorem dX12_rooms_195 : decode cX12_rooms 195 = .ok (.laload, 1) := by decide +kernel
theorem dX12_rooms_196 : decode cX12_rooms 196 = .ok (.l2i, 1) := by decide +kernel
theorem dX12_rooms_197 : decode cX12_rooms 197 = .ok (.aload_n 0, 1) := by decide +kernel
theorem dX12_rooms_198 : decode cX12_rooms 198 = .ok (.getfield 77, 3) := by decide +kernel
theorem dX12_rooms_201 : decode cX12_rooms 201 = .ok (.iload 6, 2) := by decide +kernel
theorem dX12_rooms_203 : decode cX12_rooms 203 = .ok (.iconst 1, 1) := by decide +kernel
theorem dX12_rooms_204 : decode cX12_rooms 204 = .ok (.iadd, 1) := by decide +kernel
theorem dX12_rooms_205 : decode cX12_rooms 205 = .ok (.laload, 1) := by decide +kernel
theorem dX12_rooms_206 : decode cX12_rooms 206 = .ok (.l2i, 1) := by decide +kernel
theorem dX12_rooms_207 : decode cX12_rooms 207 = .ok (.iastore, 1) := by decide +kernel
theorem dX12_rooms_208 : decode cX12_rooms 208 = .ok (.aload_n 0, 1) := by decide +kernel
theorem dX12_rooms_209 : decode cX12_rooms 209 = .ok (.getfield 9, 3) := by decide +kernel
theorem dX12_rooms_212 : decode cX12_rooms 212 = .ok (.bipush 36, 2) := by decide +kernel
theorem dX12_rooms_214 : decode cX12_rooms 214 = .ok (.aload_n 0, 1) := by decide +kernel
theorem dX12_rooms_215 : decode cX12_rooms 215 = .ok (.getfield 77, 3) := by decide +kernel
theorem dX12_rooms_218 : decode cX12_rooms 218 = .ok (.iload 6, 2) := by decide +kernel
theorem dX12_rooms_220 : decode cX12_rooms 220 = .ok (.laload, 1) := by decide +kernel
theorem dX12_rooms_221 : decode cX12_rooms 221 = .ok (.l2i, 1) := by decide +kernel
theorem dX12_rooms_222 : decode cX12_rooms 222 = .ok (.iadd, 1) := by decide +kernel
theorem dX12_rooms_223 : decode cX12_rooms 223 = .ok (.aload_n 0, 1) := by decide +kernel
theorem dX12_rooms_224 : decode cX12_rooms 224 = .ok (.getfield 77, 3) := by decide +kernel
theorem dX12_rooms_227 : decode cX12_rooms 227 = .ok (.iload 6, 2) := by decide +kernel
theorem dX12_rooms_229 : decode cX12_rooms 229 = .ok (.iconst 2, 1) := by decide +kernel
theorem dX12_rooms_230 : decode cX12_rooms 230 = .ok (.iadd, 1) := by decide +kernel
theorem dX12_rooms_231 : decode cX12_rooms 231 = .ok (.laload, 1) := by decide +kernel
theorem dX12_rooms_232 : decode cX12_rooms 232 = .ok (.l2i, 1) := by decide +kernel
theorem dX12_rooms_233 : decode cX12_rooms 233 = .ok (.iastore, 1) := by decide +kernel
theorem dX12_rooms_234 : decode cX12_rooms 234 = .ok (.iinc 4 1, 3) := by decide +kernel
theorem dX12_rooms_237 : decode cX12_rooms 237 = .ok (.goto (-168), 3) := by decide +kernel
theorem dX12_rooms_240 : decode cX12_rooms 240 = .ok (.iload 4, 2) := by decide +kernel
theorem dX12_rooms_242 : decode cX12_rooms 242 = .ok (.ireturn, 1) := by decide +kernel
theorem dX12_placeOf_0 : decode cX12_placeOf 0 = .ok (.iload_n 1, 1) := by decide +kernel
theorem dX12_placeOf_1 : decode cX12_placeOf 1 = .ok (.i2l, 1) := by decide +kernel
theorem dX12_placeOf_2 : decode cX12_placeOf 2 = .ok (.lconst 0, 1) := by decide +kernel
theorem dX12_placeOf_3 : decode cX12_placeOf 3 = .ok (.ldc2_w 114, 3) := by decide +kernel
theorem dX12_placeOf_6 : decode cX12_placeOf 6 = .ok (.invokestatic 96, 3) := by decide +kernel
theorem dX12_placeOf_9 : decode cX12_placeOf 9 = .ok (.ifCond .eq 22, 3) := by decide +kernel
theorem dX12_placeOf_12 : decode cX12_placeOf 12 = .ok (.iload_n 0, 1) := by decide +kernel
theorem dX12_placeOf_13 : decode cX12_placeOf 13 = .ok (.i2l, 1) := by decide +kernel
theorem dX12_placeOf_14 : decode cX12_placeOf 14 = .ok (.invokestatic 106, 3) := by decide +kernel
theorem dX12_placeOf_17 : decode cX12_placeOf 17 = .ok (.ifCond .eq 12, 3) := by decide +kernel
theorem dX12_placeOf_20 : decode cX12_placeOf 20 = .ok (.bipush 36, 2) := by decide +kernel
theorem dX12_placeOf_22 : decode cX12_placeOf 22 = .ok (.iload_n 1, 1) := by decide +kernel
theorem dX12_placeOf_23 : decode cX12_placeOf 23 = .ok (.imul, 1) := by decide +kernel
theorem dX12_placeOf_24 : decode cX12_placeOf 24 = .ok (.iload_n 0, 1) := by decide +kernel
theorem dX12_placeOf_25 : decode cX12_placeOf 25 = .ok (.iadd, 1) := by decide +kernel
theorem dX12_placeOf_26 : decode cX12_placeOf 26 = .ok (.goto 4, 3) := by decide +kernel
theorem dX12_placeOf_29 : decode cX12_placeOf 29 = .ok (.iconst (-1), 1) := by decide +kernel
theorem dX12_placeOf_30 : decode cX12_placeOf 30 = .ok (.ireturn, 1) := by decide +kernel
theorem dX12_placeOf_31 : decode cX12_placeOf 31 = .ok (.iload_n 0, 1) := by decide +kernel
theorem dX12_placeOf_32 : decode cX12_placeOf 32 = .ok (.ifCond .ne 27, 3) := by decide +kernel
theorem dX12_placeOf_35 : decode cX12_placeOf 35 = .ok (.iload_n 1, 1) := by decide +kernel
theorem dX12_placeOf_36 : decode cX12_placeOf 36 = .ok (.i2l, 1) := by decide +kernel
theorem dX12_placeOf_37 : decode cX12_placeOf 37 = .ok (.ldc2_w 116, 3) := by decide +kernel
theorem dX12_placeOf_40 : decode cX12_placeOf 40 = .ok (.ldc2_w 118, 3) := by decide +kernel
theorem dX12_placeOf_43 : decode cX12_placeOf 43 = .ok (.invokestatic 96, 3) := by decide +kernel
theorem dX12_placeOf_46 : decode cX12_placeOf 46 = .ok (.ifCond .eq 13, 3) := by decide +kernel
theorem dX12_placeOf_49 : decode cX12_placeOf 49 = .ok (.sipush 144, 3) := by decide +kernel
theorem dX12_placeOf_52 : decode cX12_placeOf 52 = .ok (.iload_n 1, 1) := by decide +kernel
theorem dX12_placeOf_53 : decode cX12_placeOf 53 = .ok (.iadd, 1) := by decide +kernel
theorem dX12_placeOf_54 : decode cX12_placeOf 54 = .ok (.iconst 4, 1) := by decide +kernel
theorem dX12_placeOf_55 : decode cX12_placeOf 55 = .ok (.isub, 1) := by decide +kernel
theorem dX12_placeOf_56 : decode cX12_placeOf 56 = .ok (.goto 4, 3) := by decide +kernel
theorem dX12_placeOf_59 : decode cX12_placeOf 59 = .ok (.iconst (-1), 1) := by decide +kernel
theorem dX12_placeOf_60 : decode cX12_placeOf 60 = .ok (.ireturn, 1) := by decide +kernel
theorem dX12_mayBecome_0 : decode cX12_mayBecome 0 = .ok (.iload_n 0, 1) := by decide +kernel
theorem dX12_mayBecome_1 : decode cX12_mayBecome 1 = .ok (.tableswitch 93 0 6 #[43, 53, 93, 93, 63, 73, 83], 43) := by decide +kernel
theorem dX12_mayBecome_44 : decode cX12_mayBecome 44 = .ok (.iload_n 1, 1) := by decide +kernel
theorem dX12_mayBecome_45 : decode cX12_mayBecome 45 = .ok (.i2l, 1) := by decide +kernel
theorem dX12_mayBecome_46 : decode cX12_mayBecome 46 = .ok (.lconst 0, 1) := by decide +kernel
theorem dX12_mayBecome_47 : decode cX12_mayBecome 47 = .ok (.ldc2_w 110, 3) := by decide +kernel
theorem dX12_mayBecome_50 : decode cX12_mayBecome 50 = .ok (.invokestatic 96, 3) := by decide +kernel
theorem dX12_mayBecome_53 : decode cX12_mayBecome 53 = .ok (.ireturn, 1) := by decide +kernel
theorem dX12_mayBecome_54 : decode cX12_mayBecome 54 = .ok (.iload_n 1, 1) := by decide +kernel
theorem dX12_mayBecome_55 : decode cX12_mayBecome 55 = .ok (.i2l, 1) := by decide +kernel
theorem dX12_mayBecome_56 : decode cX12_mayBecome 56 = .ok (.lconst 0, 1) := by decide +kernel
theorem dX12_mayBecome_57 : decode cX12_mayBecome 57 = .ok (.ldc2_w 112, 3) := by decide +kernel
theorem dX12_mayBecome_60 : decode cX12_mayBecome 60 = .ok (.invokestatic 96, 3) := by decide +kernel
theorem dX12_mayBecome_63 : decode cX12_mayBecome 63 = .ok (.ireturn, 1) := by decide +kernel
theorem dX12_mayBecome_64 : decode cX12_mayBecome 64 = .ok (.iload_n 1, 1) := by decide +kernel
theorem dX12_mayBecome_65 : decode cX12_mayBecome 65 = .ok (.i2l, 1) := by decide +kernel
theorem dX12_mayBecome_66 : decode cX12_mayBecome 66 = .ok (.lconst 1, 1) := by decide +kernel
theorem dX12_mayBecome_67 : decode cX12_mayBecome 67 = .ok (.ldc2_w 112, 3) := by decide +kernel
theorem dX12_mayBecome_70 : decode cX12_mayBecome 70 = .ok (.invokestatic 96, 3) := by decide +kernel
theorem dX12_mayBecome_73 : decode cX12_mayBecome 73 = .ok (.ireturn, 1) := by decide +kernel
theorem dX12_mayBecome_74 : decode cX12_mayBecome 74 = .ok (.iload_n 1, 1) := by decide +kernel
theorem dX12_mayBecome_75 : decode cX12_mayBecome 75 = .ok (.i2l, 1) := by decide +kernel
theorem dX12_mayBecome_76 : decode cX12_mayBecome 76 = .ok (.lconst 1, 1) := by decide +kernel
theorem dX12_mayBecome_77 : decode cX12_mayBecome 77 = .ok (.ldc2_w 116, 3) := by decide +kernel
theorem dX12_mayBecome_80 : decode cX12_mayBecome 80 = .ok (.invokestatic 96, 3) := by decide +kernel
theorem dX12_mayBecome_83 : decode cX12_mayBecome 83 = .ok (.ireturn, 1) := by decide +kernel
theorem dX12_mayBecome_84 : decode cX12_mayBecome 84 = .ok (.iload_n 1, 1) := by decide +kernel
theorem dX12_mayBecome_85 : decode cX12_mayBecome 85 = .ok (.i2l, 1) := by decide +kernel
theorem dX12_mayBecome_86 : decode cX12_mayBecome 86 = .ok (.lconst 0, 1) := by decide +kernel
theorem dX12_mayBecome_87 : decode cX12_mayBecome 87 = .ok (.ldc2_w 120, 3) := by decide +kernel
theorem dX12_mayBecome_90 : decode cX12_mayBecome 90 = .ok (.invokestatic 96, 3) := by decide +kernel
theorem dX12_mayBecome_93 : decode cX12_mayBecome 93 = .ok (.ireturn, 1) := by decide +kernel
theorem dX12_mayBecome_94 : decode cX12_mayBecome 94 = .ok (.iload_n 1, 1) := by decide +kernel
theorem dX12_mayBecome_95 : decode cX12_mayBecome 95 = .ok (.i2l, 1) := by decide +kernel
theorem dX12_mayBecome_96 : decode cX12_mayBecome 96 = .ok (.lconst 0, 1) := by decide +kernel
theorem dX12_mayBecome_97 : decode cX12_mayBecome 97 = .ok (.lconst 1, 1) := by decide +kernel
theorem dX12_mayBecome_98 : decode cX12_mayBecome 98 = .ok (.invokestatic 96, 3) := by decide +kernel
theorem dX12_mayBecome_101 : decode cX12_mayBecome 101 = .ok (.ireturn, 1) := by decide +kernel
theorem dX12_mend_0 : decode cX12_mend 0 = .ok (.iload_n 1, 1) := by decide +kernel
theorem dX12_mend_1 : decode cX12_mend 1 = .ok (.iload_n 2, 1) := by decide +kernel
theorem dX12_mend_2 : decode cX12_mend 2 = .ok (.invokestatic 122, 3) := by decide +kernel
theorem dX12_mend_5 : decode cX12_mend 5 = .ok (.istore 4, 2) := by decide +kernel
theorem dX12_mend_7 : decode cX12_mend 7 = .ok (.iload 4, 2) := by decide +kernel
theorem dX12_mend_9 : decode cX12_mend 9 = .ok (.ifCond .lt 21, 3) := by decide +kernel
theorem dX12_mend_12 : decode cX12_mend 12 = .ok (.iload_n 2, 1) := by decide +kernel
theorem dX12_mend_13 : decode cX12_mend 13 = .ok (.iload_n 3, 1) := by decide +kernel
theorem dX12_mend_14 : decode cX12_mend 14 = .ok (.invokestatic 126, 3) := by decide +kernel
theorem dX12_mend_17 : decode cX12_mend 17 = .ok (.ifCond .eq 13, 3) := by decide +kernel
theorem dX12_mend_20 : decode cX12_mend 20 = .ok (.aload_n 0, 1) := by decide +kernel
theorem dX12_mend_21 : decode cX12_mend 21 = .ok (.iload 4, 2) := by decide +kernel
theorem dX12_mend_23 : decode cX12_mend 23 = .ok (.iload_n 3, 1) := by decide +kernel
theorem dX12_mend_24 : decode cX12_mend 24 = .ok (.invokevirtual 130, 3) := by decide +kernel
theorem dX12_mend_27 : decode cX12_mend 27 = .ok (.goto 4, 3) := by decide +kernel
theorem dX12_mend_30 : decode cX12_mend 30 = .ok (.iconst (-1), 1) := by decide +kernel
theorem dX12_mend_31 : decode cX12_mend 31 = .ok (.ireturn, 1) := by decide +kernel
theorem dX12_of_0 : decode cX12_of 0 = .ok (.iload_n 1, 1) := by decide +kernel
theorem dX12_of_1 : decode cX12_of 1 = .ok (.iload_n 2, 1) := by decide +kernel
theorem dX12_of_2 : decode cX12_of 2 = .ok (.invokestatic 122, 3) := by decide +kernel
theorem dX12_of_5 : decode cX12_of 5 = .ok (.istore_n 3, 1) := by decide +kernel
theorem dX12_of_6 : decode cX12_of 6 = .ok (.iload_n 3, 1) := by decide +kernel
theorem dX12_of_7 : decode cX12_of 7 = .ok (.ifCond .lt 12, 3) := by decide +kernel
theorem dX12_of_10 : decode cX12_of 10 = .ok (.aload_n 0, 1) := by decide +kernel
theorem dX12_of_11 : decode cX12_of 11 = .ok (.getfield 9, 3) := by decide +kernel
theorem dX12_of_14 : decode cX12_of 14 = .ok (.iload_n 3, 1) := by decide +kernel
theorem dX12_of_15 : decode cX12_of 15 = .ok (.iaload, 1) := by decide +kernel
theorem dX12_of_16 : decode cX12_of 16 = .ok (.goto 47, 3) := by decide +kernel
theorem dX12_of_19 : decode cX12_of 19 = .ok (.iload_n 2, 1) := by decide +kernel
theorem dX12_of_20 : decode cX12_of 20 = .ok (.bipush 7, 2) := by decide +kernel
theorem dX12_of_22 : decode cX12_of 22 = .ok (.if_icmp .ne 40, 3) := by decide +kernel
theorem dX12_of_25 : decode cX12_of 25 = .ok (.iload_n 1, 1) := by decide +kernel
theorem dX12_of_26 : decode cX12_of 26 = .ok (.i2l, 1) := by decide +kernel
theorem dX12_of_27 : decode cX12_of 27 = .ok (.invokestatic 106, 3) := by decide +kernel
theorem dX12_of_30 : decode cX12_of 30 = .ok (.ifCond .eq 32, 3) := by decide +kernel
theorem dX12_of_33 : decode cX12_of 33 = .ok (.aload_n 0, 1) := by decide +kernel
theorem dX12_of_34 : decode cX12_of 34 = .ok (.getfield 9, 3) := by decide +kernel
theorem dX12_of_37 : decode cX12_of 37 = .ok (.iload_n 1, 1) := by decide +kernel
theorem dX12_of_38 : decode cX12_of 38 = .ok (.iaload, 1) := by decide +kernel
theorem dX12_of_39 : decode cX12_of 39 = .ok (.ifCond .le 19, 3) := by decide +kernel
theorem dX12_of_42 : decode cX12_of 42 = .ok (.aload_n 0, 1) := by decide +kernel
theorem dX12_of_43 : decode cX12_of 43 = .ok (.getfield 9, 3) := by decide +kernel
theorem dX12_of_46 : decode cX12_of 46 = .ok (.bipush 108, 2) := by decide +kernel
theorem dX12_of_48 : decode cX12_of 48 = .ok (.iload_n 1, 1) := by decide +kernel
theorem dX12_of_49 : decode cX12_of 49 = .ok (.iadd, 1) := by decide +kernel
theorem dX12_of_50 : decode cX12_of 50 = .ok (.iaload, 1) := by decide +kernel
theorem dX12_of_51 : decode cX12_of 51 = .ok (.ifCond .ne 7, 3) := by decide +kernel
theorem dX12_of_54 : decode cX12_of 54 = .ok (.iconst 1, 1) := by decide +kernel
theorem dX12_of_55 : decode cX12_of 55 = .ok (.goto 8, 3) := by decide +kernel
theorem dX12_of_58 : decode cX12_of 58 = .ok (.iconst 0, 1) := by decide +kernel
theorem dX12_of_59 : decode cX12_of 59 = .ok (.goto 4, 3) := by decide +kernel
theorem dX12_of_62 : decode cX12_of 62 = .ok (.iconst (-1), 1) := by decide +kernel
theorem dX12_of_63 : decode cX12_of 63 = .ok (.ireturn, 1) := by decide +kernel
theorem dX12_feed_0 : decode cX12_feed 0 = .ok (.iload_n 1, 1) := by decide +kernel
theorem dX12_feed_1 : decode cX12_feed 1 = .ok (.i2l, 1) := by decide +kernel
theorem dX12_feed_2 : decode cX12_feed 2 = .ok (.lconst 0, 1) := by decide +kernel
theorem dX12_feed_3 : decode cX12_feed 3 = .ok (.ldc2_w 133, 3) := by decide +kernel
theorem dX12_feed_6 : decode cX12_feed 6 = .ok (.invokestatic 96, 3) := by decide +kernel
theorem dX12_feed_9 : decode cX12_feed 9 = .ok (.ifCond .ne 5, 3) := by decide +kernel
theorem dX12_feed_12 : decode cX12_feed 12 = .ok (.iconst (-1), 1) := by decide +kernel
theorem dX12_feed_13 : decode cX12_feed 13 = .ok (.ireturn, 1) := by decide +kernel
theorem dX12_feed_14 : decode cX12_feed 14 = .ok (.aload_n 0, 1) := by decide +kernel
theorem dX12_feed_15 : decode cX12_feed 15 = .ok (.getfield 135, 3) := by decide +kernel
theorem dX12_feed_18 : decode cX12_feed 18 = .ok (.bipush 120, 2) := by decide +kernel
theorem dX12_feed_20 : decode cX12_feed 20 = .ok (.if_icmp .ne 6, 3) := by decide +kernel
theorem dX12_feed_23 : decode cX12_feed 23 = .ok (.bipush (-3), 2) := by decide +kernel
theorem dX12_feed_25 : decode cX12_feed 25 = .ok (.ireturn, 1) := by decide +kernel
theorem dX12_feed_26 : decode cX12_feed 26 = .ok (.aload_n 0, 1) := by decide +kernel
theorem dX12_feed_27 : decode cX12_feed 27 = .ok (.getfield 22, 3) := by decide +kernel
theorem dX12_feed_30 : decode cX12_feed 30 = .ok (.aload_n 0, 1) := by decide +kernel
theorem dX12_feed_31 : decode cX12_feed 31 = .ok (.getfield 135, 3) := by decide +kernel
theorem dX12_feed_34 : decode cX12_feed 34 = .ok (.iload_n 1, 1) := by decide +kernel
theorem dX12_feed_35 : decode cX12_feed 35 = .ok (.iastore, 1) := by decide +kernel
theorem dX12_feed_36 : decode cX12_feed 36 = .ok (.aload_n 0, 1) := by decide +kernel
theorem dX12_feed_37 : decode cX12_feed 37 = .ok (.dup, 1) := by decide +kernel
theorem dX12_feed_38 : decode cX12_feed 38 = .ok (.getfield 135, 3) := by decide +kernel
theorem dX12_feed_41 : decode cX12_feed 41 = .ok (.iconst 1, 1) := by decide +kernel
theorem dX12_feed_42 : decode cX12_feed 42 = .ok (.iadd, 1) := by decide +kernel
theorem dX12_feed_43 : decode cX12_feed 43 = .ok (.putfield 135, 3) := by decide +kernel
theorem dX12_feed_46 : decode cX12_feed 46 = .ok (.aload_n 0, 1) := by decide +kernel
theorem dX12_feed_47 : decode cX12_feed 47 = .ok (.getfield 135, 3) := by decide +kernel
theorem dX12_feed_50 : decode cX12_feed 50 = .ok (.ireturn, 1) := by decide +kernel
theorem dX12_byteAt_0 : decode cX12_byteAt 0 = .ok (.aload_n 0, 1) := by decide +kernel
theorem dX12_byteAt_1 : decode cX12_byteAt 1 = .ok (.getfield 138, 3) := by decide +kernel
theorem dX12_byteAt_4 : decode cX12_byteAt 4 = .ok (.aload_n 0, 1) := by decide +kernel
theorem dX12_byteAt_5 : decode cX12_byteAt 5 = .ok (.getfield 141, 3) := by decide +kernel
theorem dX12_byteAt_8 : decode cX12_byteAt 8 = .ok (.if_icmp .ge 39, 3) := by decide +kernel
theorem dX12_byteAt_11 : decode cX12_byteAt 11 = .ok (.aload_n 0, 1) := by decide +kernel
theorem dX12_byteAt_12 : decode cX12_byteAt 12 = .ok (.getfield 144, 3) := by decide +kernel
theorem dX12_byteAt_15 : decode cX12_byteAt 15 = .ok (.ifCond .ge 15, 3) := by decide +kernel
theorem dX12_byteAt_18 : decode cX12_byteAt 18 = .ok (.aload_n 0, 1) := by decide +kernel
theorem dX12_byteAt_19 : decode cX12_byteAt 19 = .ok (.getfield 22, 3) := by decide +kernel
theorem dX12_byteAt_22 : decode cX12_byteAt 22 = .ok (.aload_n 0, 1) := by decide +kernel
theorem dX12_byteAt_23 : decode cX12_byteAt 23 = .ok (.getfield 138, 3) := by decide +kernel
theorem dX12_byteAt_26 : decode cX12_byteAt 26 = .ok (.iaload, 1) := by decide +kernel
theorem dX12_byteAt_27 : decode cX12_byteAt 27 = .ok (.goto 21, 3) := by decide +kernel
theorem dX12_byteAt_30 : decode cX12_byteAt 30 = .ok (.aload_n 0, 1) := by decide +kernel
theorem dX12_byteAt_31 : decode cX12_byteAt 31 = .ok (.getfield 25, 3) := by decide +kernel
theorem dX12_byteAt_34 : decode cX12_byteAt 34 = .ok (.aload_n 0, 1) := by decide +kernel
theorem dX12_byteAt_35 : decode cX12_byteAt 35 = .ok (.getfield 144, 3) := by decide +kernel
theorem dX12_byteAt_38 : decode cX12_byteAt 38 = .ok (.aload_n 0, 1) := by decide +kernel
theorem dX12_byteAt_39 : decode cX12_byteAt 39 = .ok (.getfield 138, 3) := by decide +kernel
theorem dX12_byteAt_42 : decode cX12_byteAt 42 = .ok (.iadd, 1) := by decide +kernel
theorem dX12_byteAt_43 : decode cX12_byteAt 43 = .ok (.iaload, 1) := by decide +kernel
theorem dX12_byteAt_44 : decode cX12_byteAt 44 = .ok (.goto 4, 3) := by decide +kernel
theorem dX12_byteAt_47 : decode cX12_byteAt 47 = .ok (.iconst 0, 1) := by decide +kernel
theorem dX12_byteAt_48 : decode cX12_byteAt 48 = .ok (.ireturn, 1) := by decide +kernel
theorem dX12_wrong_0 : decode cX12_wrong 0 = .ok (.aload_n 0, 1) := by decide +kernel
theorem dX12_wrong_1 : decode cX12_wrong 1 = .ok (.aload_n 0, 1) := by decide +kernel
theorem dX12_wrong_2 : decode cX12_wrong 2 = .ok (.getfield 147, 3) := by decide +kernel
theorem dX12_wrong_5 : decode cX12_wrong 5 = .ok (.ifCond .ge 10, 3) := by decide +kernel
theorem dX12_wrong_8 : decode cX12_wrong 8 = .ok (.aload_n 0, 1) := by decide +kernel
theorem dX12_wrong_9 : decode cX12_wrong 9 = .ok (.getfield 138, 3) := by decide +kernel
theorem dX12_wrong_12 : decode cX12_wrong 12 = .ok (.goto 7, 3) := by decide +kernel
theorem dX12_wrong_15 : decode cX12_wrong 15 = .ok (.aload_n 0, 1) := by decide +kernel
theorem dX12_wrong_16 : decode cX12_wrong 16 = .ok (.getfield 147, 3) := by decide +kernel
theorem dX12_wrong_19 : decode cX12_wrong 19 = .ok (.putfield 147, 3) := by decide +kernel
theorem dX12_wrong_22 : decode cX12_wrong 22 = .ok (.iconst 0, 1) := by decide +kernel
theorem dX12_wrong_23 : decode cX12_wrong 23 = .ok (.ireturn, 1) := by decide +kernel
theorem dX12_takes_0 : decode cX12_takes 0 = .ok (.aload_n 0, 1) := by decide +kernel
theorem dX12_takes_1 : decode cX12_takes 1 = .ok (.getfield 147, 3) := by decide +kernel
theorem dX12_takes_4 : decode cX12_takes 4 = .ok (.ifCond .ge 11, 3) := by decide +kernel
theorem dX12_takes_7 : decode cX12_takes 7 = .ok (.aload_n 0, 1) := by decide +kernel
theorem dX12_takes_8 : decode cX12_takes 8 = .ok (.invokevirtual 150, 3) := by decide +kernel
theorem dX12_takes_11 : decode cX12_takes 11 = .ok (.iload_n 1, 1) := by decide +kernel
theorem dX12_takes_12 : decode cX12_takes 12 = .ok (.if_icmp .eq 5, 3) := by decide +kernel
theorem dX12_takes_15 : decode cX12_takes 15 = .ok (.iconst 0, 1) := by decide +kernel
theorem dX12_takes_16 : decode cX12_takes 16 = .ok (.ireturn, 1) := by decide +kernel
theorem dX12_takes_17 : decode cX12_takes 17 = .ok (.aload_n 0, 1) := by decide +kernel
theorem dX12_takes_18 : decode cX12_takes 18 = .ok (.dup, 1) := by decide +kernel
theorem dX12_takes_19 : decode cX12_takes 19 = .ok (.getfield 138, 3) := by decide +kernel
theorem dX12_takes_22 : decode cX12_takes 22 = .ok (.iconst 1, 1) := by decide +kernel
theorem dX12_takes_23 : decode cX12_takes 23 = .ok (.iadd, 1) := by decide +kernel
theorem dX12_takes_24 : decode cX12_takes 24 = .ok (.putfield 138, 3) := by decide +kernel
theorem dX12_takes_27 : decode cX12_takes 27 = .ok (.iconst 1, 1) := by decide +kernel
theorem dX12_takes_28 : decode cX12_takes 28 = .ok (.ireturn, 1) := by decide +kernel
theorem dX12_either_0 : decode cX12_either 0 = .ok (.aload_n 0, 1) := by decide +kernel
theorem dX12_either_1 : decode cX12_either 1 = .ok (.invokevirtual 154, 3) := by decide +kernel
theorem dX12_either_4 : decode cX12_either 4 = .ok (.istore_n 1, 1) := by decide +kernel
theorem dX12_either_5 : decode cX12_either 5 = .ok (.aload_n 0, 1) := by decide +kernel
theorem dX12_either_6 : decode cX12_either 6 = .ok (.bipush 124, 2) := by decide +kernel
theorem dX12_either_8 : decode cX12_either 8 = .ok (.invokevirtual 157, 3) := by decide +kernel
theorem dX12_either_11 : decode cX12_either 11 = .ok (.ifCond .eq 25, 3) := by decide +kernel
theorem dX12_either_14 : decode cX12_either 14 = .ok (.aload_n 0, 1) := by decide +kernel
theorem dX12_either_15 : decode cX12_either 15 = .ok (.invokevirtual 154, 3) := by decide +kernel
theorem dX12_either_18 : decode cX12_either 18 = .ok (.istore_n 2, 1) := by decide +kernel
theorem dX12_either_19 : decode cX12_either 19 = .ok (.iload_n 1, 1) := by decide +kernel
theorem dX12_either_20 : decode cX12_either 20 = .ok (.ifCond .ne 7, 3) := by decide +kernel
theorem dX12_either_23 : decode cX12_either 23 = .ok (.iload_n 2, 1) := by decide +kernel
theorem dX12_either_24 : decode cX12_either 24 = .ok (.ifCond .eq 7, 3) := by decide +kernel
theorem dX12_either_27 : decode cX12_either 27 = .ok (.iconst 1, 1) := by decide +kernel
theorem dX12_either_28 : decode cX12_either 28 = .ok (.goto 4, 3) := by decide +kernel
theorem dX12_either_31 : decode cX12_either 31 = .ok (.iconst 0, 1) := by decide +kernel
theorem dX12_either_32 : decode cX12_either 32 = .ok (.istore_n 1, 1) := by decide +kernel
theorem dX12_either_33 : decode cX12_either 33 = .ok (.goto (-28), 3) := by decide +kernel
theorem dX12_either_36 : decode cX12_either 36 = .ok (.iload_n 1, 1) := by decide +kernel
theorem dX12_either_37 : decode cX12_either 37 = .ok (.ireturn, 1) := by decide +kernel
theorem dX12_both_0 : decode cX12_both 0 = .ok (.aload_n 0, 1) := by decide +kernel
theorem dX12_both_1 : decode cX12_both 1 = .ok (.invokevirtual 160, 3) := by decide +kernel
theorem dX12_both_4 : decode cX12_both 4 = .ok (.istore_n 1, 1) := by decide +kernel
theorem dX12_both_5 : decode cX12_both 5 = .ok (.aload_n 0, 1) := by decide +kernel
theorem dX12_both_6 : decode cX12_both 6 = .ok (.bipush 38, 2) := by decide +kernel
theorem dX12_both_8 : decode cX12_both 8 = .ok (.invokevirtual 157, 3) := by decide +kernel
theorem dX12_both_11 : decode cX12_both 11 = .ok (.ifCond .eq 25, 3) := by decide +kernel
theorem dX12_both_14 : decode cX12_both 14 = .ok (.aload_n 0, 1) := by decide +kernel
theorem dX12_both_15 : decode cX12_both 15 = .ok (.invokevirtual 160, 3) := by decide +kernel
theorem dX12_both_18 : decode cX12_both 18 = .ok (.istore_n 2, 1) := by decide +kernel
theorem dX12_both_19 : decode cX12_both 19 = .ok (.iload_n 1, 1) := by decide +kernel
theorem dX12_both_20 : decode cX12_both 20 = .ok (.ifCond .eq 11, 3) := by decide +kernel
theorem dX12_both_23 : decode cX12_both 23 = .ok (.iload_n 2, 1) := by decide +kernel
theorem dX12_both_24 : decode cX12_both 24 = .ok (.ifCond .eq 7, 3) := by decide +kernel
theorem dX12_both_27 : decode cX12_both 27 = .ok (.iconst 1, 1) := by decide +kernel
theorem dX12_both_28 : decode cX12_both 28 = .ok (.goto 4, 3) := by decide +kernel
theorem dX12_both_31 : decode cX12_both 31 = .ok (.iconst 0, 1) := by decide +kernel
theorem dX12_both_32 : decode cX12_both 32 = .ok (.istore_n 1, 1) := by decide +kernel
theorem dX12_both_33 : decode cX12_both 33 = .ok (.goto (-28), 3) := by decide +kernel
theorem dX12_both_36 : decode cX12_both 36 = .ok (.iload_n 1, 1) := by decide +kernel
theorem dX12_both_37 : decode cX12_both 37 = .ok (.ireturn, 1) := by decide +kernel
theorem dX12_compared_0 : decode cX12_compared 0 = .ok (.aload_n 0, 1) := by decide +kernel
theorem dX12_compared_1 : decode cX12_compared 1 = .ok (.invokevirtual 163, 3) := by decide +kernel
theorem dX12_compared_4 : decode cX12_compared 4 = .ok (.istore_n 1, 1) := by decide +kernel
theorem dX12_compared_5 : decode cX12_compared 5 = .ok (.aload_n 0, 1) := by decide +kernel
theorem dX12_compared_6 : decode cX12_compared 6 = .ok (.invokevirtual 150, 3) := by decide +kernel
theorem dX12_compared_9 : decode cX12_compared 9 = .ok (.istore_n 2, 1) := by decide +kernel
theorem dX12_compared_10 : decode cX12_compared 10 = .ok (.aload_n 0, 1) := by decide +kernel
theorem dX12_compared_11 : decode cX12_compared 11 = .ok (.getfield 147, 3) := by decide +kernel
theorem dX12_compared_14 : decode cX12_compared 14 = .ok (.ifCond .ge 21, 3) := by decide +kernel
theorem dX12_compared_17 : decode cX12_compared 17 = .ok (.iload_n 2, 1) := by decide +kernel
theorem dX12_compared_18 : decode cX12_compared 18 = .ok (.bipush 60, 2) := by decide +kernel
theorem dX12_compared_20 : decode cX12_compared 20 = .ok (.if_icmp .eq 17, 3) := by decide +kernel
theorem dX12_compared_23 : decode cX12_compared 23 = .ok (.iload_n 2, 1) := by decide +kernel
theorem dX12_compared_24 : decode cX12_compared 24 = .ok (.bipush 61, 2) := by decide +kernel
theorem dX12_compared_26 : decode cX12_compared 26 = .ok (.if_icmp .eq 11, 3) := by decide +kernel
theorem dX12_compared_29 : decode cX12_compared 29 = .ok (.iload_n 2, 1) := by decide +kernel
theorem dX12_compared_30 : decode cX12_compared 30 = .ok (.bipush 62, 2) := by decide +kernel
theorem dX12_compared_32 : decode cX12_compared 32 = .ok (.if_icmp .eq 5, 3) := by decide +kernel
theorem dX12_compared_35 : decode cX12_compared 35 = .ok (.iload_n 1, 1) := by decide +kernel
theorem dX12_compared_36 : decode cX12_compared 36 = .ok (.ireturn, 1) := by decide +kernel
theorem dX12_compared_37 : decode cX12_compared 37 = .ok (.aload_n 0, 1) := by decide +kernel
theorem dX12_compared_38 : decode cX12_compared 38 = .ok (.dup, 1) := by decide +kernel
theorem dX12_compared_39 : decode cX12_compared 39 = .ok (.getfield 138, 3) := by decide +kernel
theorem dX12_compared_42 : decode cX12_compared 42 = .ok (.iconst 1, 1) := by decide +kernel
theorem dX12_compared_43 : decode cX12_compared 43 = .ok (.iadd, 1) := by decide +kernel
theorem dX12_compared_44 : decode cX12_compared 44 = .ok (.putfield 138, 3) := by decide +kernel
theorem dX12_compared_47 : decode cX12_compared 47 = .ok (.aload_n 0, 1) := by decide +kernel
theorem dX12_compared_48 : decode cX12_compared 48 = .ok (.invokevirtual 163, 3) := by decide +kernel
theorem dX12_compared_51 : decode cX12_compared 51 = .ok (.istore_n 3, 1) := by decide +kernel
theorem dX12_compared_52 : decode cX12_compared 52 = .ok (.iload_n 2, 1) := by decide +kernel
theorem dX12_compared_53 : decode cX12_compared 53 = .ok (.bipush 60, 2) := by decide +kernel
theorem dX12_compared_55 : decode cX12_compared 55 = .ok (.if_icmp .ne 11, 3) := by decide +kernel
theorem dX12_compared_58 : decode cX12_compared 58 = .ok (.iload_n 1, 1) := by decide +kernel
theorem dX12_compared_59 : decode cX12_compared 59 = .ok (.iload_n 3, 1) := by decide +kernel
theorem dX12_compared_60 : decode cX12_compared 60 = .ok (.if_icmp .ge 29, 3) := by decide +kernel
theorem dX12_compared_63 : decode cX12_compared 63 = .ok (.goto 22, 3) := by decide +kernel
theorem dX12_compared_66 : decode cX12_compared 66 = .ok (.iload_n 2, 1) := by decide +kernel
theorem dX12_compared_67 : decode cX12_compared 67 = .ok (.bipush 61, 2) := by decide +kernel
theorem dX12_compared_69 : decode cX12_compared 69 = .ok (.if_icmp .ne 11, 3) := by decide +kernel
theorem dX12_compared_72 : decode cX12_compared 72 = .ok (.iload_n 1, 1) := by decide +kernel
theorem dX12_compared_73 : decode cX12_compared 73 = .ok (.iload_n 3, 1) := by decide +kernel
theorem dX12_compared_74 : decode cX12_compared 74 = .ok (.if_icmp .ne 15, 3) := by decide +kernel
theorem dX12_compared_77 : decode cX12_compared 77 = .ok (.goto 8, 3) := by decide +kernel
theorem dX12_compared_80 : decode cX12_compared 80 = .ok (.iload_n 1, 1) := by decide +kernel
theorem dX12_compared_81 : decode cX12_compared 81 = .ok (.iload_n 3, 1) := by decide +kernel
theorem dX12_compared_82 : decode cX12_compared 82 = .ok (.if_icmp .le 7, 3) := by decide +kernel
theorem dX12_compared_85 : decode cX12_compared 85 = .ok (.iconst 1, 1) := by decide +kernel
theorem dX12_compared_86 : decode cX12_compared 86 = .ok (.goto 4, 3) := by decide +kernel
theorem dX12_compared_89 : decode cX12_compared 89 = .ok (.iconst 0, 1) := by decide +kernel
theorem dX12_compared_90 : decode cX12_compared 90 = .ok (.ireturn, 1) := by decide +kernel
theorem dX12_sums_0 : decode cX12_sums 0 = .ok (.aload_n 0, 1) := by decide +kernel
theorem dX12_sums_1 : decode cX12_sums 1 = .ok (.invokevirtual 166, 3) := by decide +kernel
theorem dX12_sums_4 : decode cX12_sums 4 = .ok (.istore_n 1, 1) := by decide +kernel
theorem dX12_sums_5 : decode cX12_sums 5 = .ok (.aload_n 0, 1) := by decide +kernel
theorem dX12_sums_6 : decode cX12_sums 6 = .ok (.getfield 147, 3) := by decide +kernel
theorem dX12_sums_9 : decode cX12_sums 9 = .ok (.ifCond .ge 68, 3) := by decide +kernel
theorem dX12_sums_12 : decode cX12_sums 12 = .ok (.aload_n 0, 1) := by decide +kernel
theorem dX12_sums_13 : decode cX12_sums 13 = .ok (.invokevirtual 150, 3) := by decide +kernel
theorem dX12_sums_16 : decode cX12_sums 16 = .ok (.bipush 43, 2) := by decide +kernel
theorem dX12_sums_18 : decode cX12_sums 18 = .ok (.if_icmp .eq 12, 3) := by decide +kernel
theorem dX12_sums_21 : decode cX12_sums 21 = .ok (.aload_n 0, 1) := by decide +kernel
theorem dX12_sums_22 : decode cX12_sums 22 = .ok (.invokevirtual 150, 3) := by decide +kernel
theorem dX12_sums_25 : decode cX12_sums 25 = .ok (.bipush 45, 2) := by decide +kernel
theorem dX12_sums_27 : decode cX12_sums 27 = .ok (.if_icmp .ne 50, 3) := by decide +kernel
theorem dX12_sums_30 : decode cX12_sums 30 = .ok (.aload_n 0, 1) := by decide +kernel
theorem dX12_sums_31 : decode cX12_sums 31 = .ok (.invokevirtual 150, 3) := by decide +kernel
theorem dX12_sums_34 : decode cX12_sums 34 = .ok (.bipush 43, 2) := by decide +kernel
theorem dX12_sums_36 : decode cX12_sums 36 = .ok (.if_icmp .ne 7, 3) := by decide +kernel
theorem dX12_sums_39 : decode cX12_sums 39 = .ok (.iconst 1, 1) := by decide +kernel
theorem dX12_sums_40 : decode cX12_sums 40 = .ok (.goto 4, 3) := by decide +kernel
theorem dX12_sums_43 : decode cX12_sums 43 = .ok (.iconst 0, 1) := by decide +kernel
theorem dX12_sums_44 : decode cX12_sums 44 = .ok (.istore_n 2, 1) := by decide +kernel
theorem dX12_sums_45 : decode cX12_sums 45 = .ok (.aload_n 0, 1) := by decide +kernel
theorem dX12_sums_46 : decode cX12_sums 46 = .ok (.dup, 1) := by decide +kernel
theorem dX12_sums_47 : decode cX12_sums 47 = .ok (.getfield 138, 3) := by decide +kernel
theorem dX12_sums_50 : decode cX12_sums 50 = .ok (.iconst 1, 1) := by decide +kernel
theorem dX12_sums_51 : decode cX12_sums 51 = .ok (.iadd, 1) := by decide +kernel
theorem dX12_sums_52 : decode cX12_sums 52 = .ok (.putfield 138, 3) := by decide +kernel
theorem dX12_sums_55 : decode cX12_sums 55 = .ok (.aload_n 0, 1) := by decide +kernel
theorem dX12_sums_56 : decode cX12_sums 56 = .ok (.invokevirtual 166, 3) := by decide +kernel
theorem dX12_sums_59 : decode cX12_sums 59 = .ok (.istore_n 3, 1) := by decide +kernel
theorem dX12_sums_60 : decode cX12_sums 60 = .ok (.iload_n 2, 1) := by decide +kernel
theorem dX12_sums_61 : decode cX12_sums 61 = .ok (.ifCond .eq 9, 3) := by decide +kernel
theorem dX12_sums_64 : decode cX12_sums 64 = .ok (.iload_n 1, 1) := by decide +kernel
theorem dX12_sums_65 : decode cX12_sums 65 = .ok (.iload_n 3, 1) := by decide +kernel
theorem dX12_sums_66 : decode cX12_sums 66 = .ok (.iadd, 1) := by decide +kernel
theorem dX12_sums_67 : decode cX12_sums 67 = .ok (.goto 6, 3) := by decide +kernel
theorem dX12_sums_70 : decode cX12_sums 70 = .ok (.iload_n 1, 1) := by decide +kernel
theorem dX12_sums_71 : decode cX12_sums 71 = .ok (.iload_n 3, 1) := by decide +kernel
theorem dX12_sums_72 : decode cX12_sums 72 = .ok (.isub, 1) := by decide +kernel
theorem dX12_sums_73 : decode cX12_sums 73 = .ok (.istore_n 1, 1) := by decide +kernel
theorem dX12_sums_74 : decode cX12_sums 74 = .ok (.goto (-69), 3) := by decide +kernel
theorem dX12_sums_77 : decode cX12_sums 77 = .ok (.iload_n 1, 1) := by decide +kernel
theorem dX12_sums_78 : decode cX12_sums 78 = .ok (.ireturn, 1) := by decide +kernel
theorem dX12_product_0 : decode cX12_product 0 = .ok (.aload_n 0, 1) := by decide +kernel
theorem dX12_product_1 : decode cX12_product 1 = .ok (.invokevirtual 169, 3) := by decide +kernel
theorem dX12_product_4 : decode cX12_product 4 = .ok (.istore_n 1, 1) := by decide +kernel
theorem dX12_product_5 : decode cX12_product 5 = .ok (.aload_n 0, 1) := by decide +kernel
theorem dX12_product_6 : decode cX12_product 6 = .ok (.invokevirtual 150, 3) := by decide +kernel
theorem dX12_product_9 : decode cX12_product 9 = .ok (.istore_n 2, 1) := by decide +kernel
theorem dX12_product_10 : decode cX12_product 10 = .ok (.aload_n 0, 1) := by decide +kernel
theorem dX12_product_11 : decode cX12_product 11 = .ok (.getfield 147, 3) := by decide +kernel
theorem dX12_product_14 : decode cX12_product 14 = .ok (.ifCond .ge 80, 3) := by decide +kernel
theorem dX12_product_17 : decode cX12_product 17 = .ok (.iload_n 2, 1) := by decide +kernel
theorem dX12_product_18 : decode cX12_product 18 = .ok (.bipush 42, 2) := by decide +kernel
theorem dX12_product_20 : decode cX12_product 20 = .ok (.if_icmp .eq 15, 3) := by decide +kernel
theorem dX12_product_23 : decode cX12_product 23 = .ok (.iload_n 2, 1) := by decide +kernel
theorem dX12_product_24 : decode cX12_product 24 = .ok (.bipush 47, 2) := by decide +kernel
theorem dX12_product_26 : decode cX12_product 26 = .ok (.if_icmp .eq 9, 3) := by decide +kernel
theorem dX12_product_29 : decode cX12_product 29 = .ok (.iload_n 2, 1) := by decide +kernel
theorem dX12_product_30 : decode cX12_product 30 = .ok (.bipush 37, 2) := by decide +kernel
theorem dX12_product_32 : decode cX12_product 32 = .ok (.if_icmp .ne 62, 3) := by decide +kernel
theorem dX12_product_35 : decode cX12_product 35 = .ok (.aload_n 0, 1) := by decide +kernel
theorem dX12_product_36 : decode cX12_product 36 = .ok (.dup, 1) := by decide +kernel
theorem dX12_product_37 : decode cX12_product 37 = .ok (.getfield 138, 3) := by decide +kernel
theorem dX12_product_40 : decode cX12_product 40 = .ok (.iconst 1, 1) := by decide +kernel
theorem dX12_product_41 : decode cX12_product 41 = .ok (.iadd, 1) := by decide +kernel
theorem dX12_product_42 : decode cX12_product 42 = .ok (.putfield 138, 3) := by decide +kernel
theorem dX12_product_45 : decode cX12_product 45 = .ok (.aload_n 0, 1) := by decide +kernel
theorem dX12_product_46 : decode cX12_product 46 = .ok (.invokevirtual 169, 3) := by decide +kernel
theorem dX12_product_49 : decode cX12_product 49 = .ok (.istore_n 3, 1) := by decide +kernel
theorem dX12_product_50 : decode cX12_product 50 = .ok (.iload_n 2, 1) := by decide +kernel
theorem dX12_product_51 : decode cX12_product 51 = .ok (.bipush 42, 2) := by decide +kernel
theorem dX12_product_53 : decode cX12_product 53 = .ok (.if_icmp .ne 9, 3) := by decide +kernel
theorem dX12_product_56 : decode cX12_product 56 = .ok (.iload_n 1, 1) := by decide +kernel
theorem dX12_product_57 : decode cX12_product 57 = .ok (.iload_n 3, 1) := by decide +kernel
theorem dX12_product_58 : decode cX12_product 58 = .ok (.imul, 1) := by decide +kernel
theorem dX12_product_59 : decode cX12_product 59 = .ok (.goto 26, 3) := by decide +kernel
theorem dX12_product_62 : decode cX12_product 62 = .ok (.iload_n 3, 1) := by decide +kernel
theorem dX12_product_63 : decode cX12_product 63 = .ok (.ifCond .ne 7, 3) := by decide +kernel
theorem dX12_product_66 : decode cX12_product 66 = .ok (.iconst 0, 1) := by decide +kernel
theorem dX12_product_67 : decode cX12_product 67 = .ok (.goto 18, 3) := by decide +kernel
theorem dX12_product_70 : decode cX12_product 70 = .ok (.iload_n 2, 1) := by decide +kernel
theorem dX12_product_71 : decode cX12_product 71 = .ok (.bipush 47, 2) := by decide +kernel
theorem dX12_product_73 : decode cX12_product 73 = .ok (.if_icmp .ne 9, 3) := by decide +kernel
theorem dX12_product_76 : decode cX12_product 76 = .ok (.iload_n 1, 1) := by decide +kernel
theorem dX12_product_77 : decode cX12_product 77 = .ok (.iload_n 3, 1) := by decide +kernel
theorem dX12_product_78 : decode cX12_product 78 = .ok (.idiv, 1) := by decide +kernel
theorem dX12_product_79 : decode cX12_product 79 = .ok (.goto 6, 3) := by decide +kernel
theorem dX12_product_82 : decode cX12_product 82 = .ok (.iload_n 1, 1) := by decide +kernel
theorem dX12_product_83 : decode cX12_product 83 = .ok (.iload_n 3, 1) := by decide +kernel
theorem dX12_product_84 : decode cX12_product 84 = .ok (.irem, 1) := by decide +kernel
theorem dX12_product_85 : decode cX12_product 85 = .ok (.istore_n 1, 1) := by decide +kernel
theorem dX12_product_86 : decode cX12_product 86 = .ok (.aload_n 0, 1) := by decide +kernel
theorem dX12_product_87 : decode cX12_product 87 = .ok (.invokevirtual 150, 3) := by decide +kernel
theorem dX12_product_90 : decode cX12_product 90 = .ok (.istore_n 2, 1) := by decide +kernel
theorem dX12_product_91 : decode cX12_product 91 = .ok (.goto (-81), 3) := by decide +kernel
theorem dX12_product_94 : decode cX12_product 94 = .ok (.iload_n 1, 1) := by decide +kernel
theorem dX12_product_95 : decode cX12_product 95 = .ok (.ireturn, 1) := by decide +kernel
theorem dX12_nameOf_0 : decode cX12_nameOf 0 = .ok (.iload_n 0, 1) := by decide +kernel
theorem dX12_nameOf_1 : decode cX12_nameOf 1 = .ok (.lookupswitch 71 #[(99, 65), (100, 59), (103, 63), (104, 69), (108, 61), (119, 67)], 59) := by decide +kernel
theorem dX12_nameOf_60 : decode cX12_nameOf 60 = .ok (.iconst 0, 1) := by decide +kernel
theorem dX12_nameOf_61 : decode cX12_nameOf 61 = .ok (.ireturn, 1) := by decide +kernel
theorem dX12_nameOf_62 : decode cX12_nameOf 62 = .ok (.iconst 1, 1) := by decide +kernel
theorem dX12_nameOf_63 : decode cX12_nameOf 63 = .ok (.ireturn, 1) := by decide +kernel
theorem dX12_nameOf_64 : decode cX12_nameOf 64 = .ok (.iconst 2, 1) := by decide +kernel
theorem dX12_nameOf_65 : decode cX12_nameOf 65 = .ok (.ireturn, 1) := by decide +kernel
theorem dX12_nameOf_66 : decode cX12_nameOf 66 = .ok (.iconst 3, 1) := by decide +kernel
theorem dX12_nameOf_67 : decode cX12_nameOf 67 = .ok (.ireturn, 1) := by decide +kernel
theorem dX12_nameOf_68 : decode cX12_nameOf 68 = .ok (.iconst 4, 1) := by decide +kernel
theorem dX12_nameOf_69 : decode cX12_nameOf 69 = .ok (.ireturn, 1) := by decide +kernel
theorem dX12_nameOf_70 : decode cX12_nameOf 70 = .ok (.iconst 5, 1) := by decide +kernel
theorem dX12_nameOf_71 : decode cX12_nameOf 71 = .ok (.ireturn, 1) := by decide +kernel
theorem dX12_nameOf_72 : decode cX12_nameOf 72 = .ok (.iconst (-1), 1) := by decide +kernel
theorem dX12_nameOf_73 : decode cX12_nameOf 73 = .ok (.ireturn, 1) := by decide +kernel
theorem dX12_one_0 : decode cX12_one 0 = .ok (.aload_n 0, 1) := by decide +kernel
theorem dX12_one_1 : decode cX12_one 1 = .ok (.getfield 147, 3) := by decide +kernel
theorem dX12_one_4 : decode cX12_one 4 = .ok (.ifCond .lt 5, 3) := by decide +kernel
theorem dX12_one_7 : decode cX12_one 7 = .ok (.iconst 0, 1) := by decide +kernel
theorem dX12_one_8 : decode cX12_one 8 = .ok (.ireturn, 1) := by decide +kernel
theorem dX12_one_9 : decode cX12_one 9 = .ok (.aload_n 0, 1) := by decide +kernel
theorem dX12_one_10 : decode cX12_one 10 = .ok (.invokevirtual 150, 3) := by decide +kernel
theorem dX12_one_13 : decode cX12_one 13 = .ok (.istore_n 1, 1) := by decide +kernel
theorem dX12_one_14 : decode cX12_one 14 = .ok (.iload_n 1, 1) := by decide +kernel
theorem dX12_one_15 : decode cX12_one 15 = .ok (.bipush 33, 2) := by decide +kernel
theorem dX12_one_17 : decode cX12_one 17 = .ok (.if_icmp .eq 15, 3) := by decide +kernel
theorem dX12_one_20 : decode cX12_one 20 = .ok (.iload_n 1, 1) := by decide +kernel
theorem dX12_one_21 : decode cX12_one 21 = .ok (.bipush 45, 2) := by decide +kernel
theorem dX12_one_23 : decode cX12_one 23 = .ok (.if_icmp .eq 9, 3) := by decide +kernel
theorem dX12_one_26 : decode cX12_one 26 = .ok (.iload_n 1, 1) := by decide +kernel
theorem dX12_one_27 : decode cX12_one 27 = .ok (.bipush 40, 2) := by decide +kernel
theorem dX12_one_29 : decode cX12_one 29 = .ok (.if_icmp .ne 116, 3) := by decide +kernel
theorem dX12_one_32 : decode cX12_one 32 = .ok (.aload_n 0, 1) := by decide +kernel
theorem dX12_one_33 : decode cX12_one 33 = .ok (.getfield 172, 3) := by decide +kernel
theorem dX12_one_36 : decode cX12_one 36 = .ok (.bipush 6, 2) := by decide +kernel
theorem dX12_one_38 : decode cX12_one 38 = .ok (.if_icmp .ne 8, 3) := by decide +kernel
theorem dX12_one_41 : decode cX12_one 41 = .ok (.aload_n 0, 1) := by decide +kernel
theorem dX12_one_42 : decode cX12_one 42 = .ok (.invokevirtual 175, 3) := by decide +kernel
theorem dX12_one_45 : decode cX12_one 45 = .ok (.ireturn, 1) := by decide +kernel
theorem dX12_one_46 : decode cX12_one 46 = .ok (.aload_n 0, 1) := by decide +kernel
theorem dX12_one_47 : decode cX12_one 47 = .ok (.dup, 1) := by decide +kernel
theorem dX12_one_48 : decode cX12_one 48 = .ok (.getfield 172, 3) := by decide +kernel
theorem dX12_one_51 : decode cX12_one 51 = .ok (.iconst 1, 1) := by decide +kernel
theorem dX12_one_52 : decode cX12_one 52 = .ok (.iadd, 1) := by decide +kernel
theorem dX12_one_53 : decode cX12_one 53 = .ok (.putfield 172, 3) := by decide +kernel
theorem dX12_one_56 : decode cX12_one 56 = .ok (.aload_n 0, 1) := by decide +kernel
theorem dX12_one_57 : decode cX12_one 57 = .ok (.dup, 1) := by decide +kernel
theorem dX12_one_58 : decode cX12_one 58 = .ok (.getfield 138, 3) := by decide +kernel
theorem dX12_one_61 : decode cX12_one 61 = .ok (.iconst 1, 1) := by decide +kernel
theorem dX12_one_62 : decode cX12_one 62 = .ok (.iadd, 1) := by decide +kernel
theorem dX12_one_63 : decode cX12_one 63 = .ok (.putfield 138, 3) := by decide +kernel
theorem dX12_one_66 : decode cX12_one 66 = .ok (.iload_n 1, 1) := by decide +kernel
theorem dX12_one_67 : decode cX12_one 67 = .ok (.bipush 40, 2) := by decide +kernel
theorem dX12_one_69 : decode cX12_one 69 = .ok (.if_icmp .ne 10, 3) := by decide +kernel
theorem dX12_one_72 : decode cX12_one 72 = .ok (.aload_n 0, 1) := by decide +kernel
theorem dX12_one_73 : decode cX12_one 73 = .ok (.invokevirtual 178, 3) := by decide +kernel
theorem dX12_one_76 : decode cX12_one 76 = .ok (.goto 7, 3) := by decide +kernel
theorem dX12_one_79 : decode cX12_one 79 = .ok (.aload_n 0, 1) := by decide +kernel
theorem dX12_one_80 : decode cX12_one 80 = .ok (.invokevirtual 169, 3) := by decide +kernel
theorem dX12_one_83 : decode cX12_one 83 = .ok (.istore_n 2, 1) := by decide +kernel
theorem dX12_one_84 : decode cX12_one 84 = .ok (.iload_n 1, 1) := by decide +kernel
theorem dX12_one_85 : decode cX12_one 85 = .ok (.bipush 40, 2) := by decide +kernel
theorem dX12_one_87 : decode cX12_one 87 = .ok (.if_icmp .ne 17, 3) := by decide +kernel
theorem dX12_one_90 : decode cX12_one 90 = .ok (.aload_n 0, 1) := by decide +kernel
theorem dX12_one_91 : decode cX12_one 91 = .ok (.bipush 41, 2) := by decide +kernel
theorem dX12_one_93 : decode cX12_one 93 = .ok (.invokevirtual 157, 3) := by decide +kernel
theorem dX12_one_96 : decode cX12_one 96 = .ok (.ifCond .ne 8, 3) := by decide +kernel
theorem dX12_one_99 : decode cX12_one 99 = .ok (.aload_n 0, 1) := by decide +kernel
theorem dX12_one_100 : decode cX12_one 100 = .ok (.invokevirtual 175, 3) := by decide +kernel
theorem dX12_one_103 : decode cX12_one 103 = .ok (.ireturn, 1) := by decide +kernel
theorem dX12_one_104 : decode cX12_one 104 = .ok (.aload_n 0, 1) := by decide +kernel
theorem dX12_one_105 : decode cX12_one 105 = .ok (.dup, 1) := by decide +kernel
theorem dX12_one_106 : decode cX12_one 106 = .ok (.getfield 172, 3) := by decide +kernel
theorem dX12_one_109 : decode cX12_one 109 = .ok (.iconst 1, 1) := by decide +kernel
theorem dX12_one_110 : decode cX12_one 110 = .ok (.isub, 1) := by decide +kernel
theorem dX12_one_111 : decode cX12_one 111 = .ok (.putfield 172, 3) := by decide +kernel
theorem dX12_one_114 : decode cX12_one 114 = .ok (.iload_n 1, 1) := by decide +kernel
theorem dX12_one_115 : decode cX12_one 115 = .ok (.bipush 40, 2) := by decide +kernel
theorem dX12_one_117 : decode cX12_one 117 = .ok (.if_icmp .ne 7, 3) := by decide +kernel
theorem dX12_one_120 : decode cX12_one 120 = .ok (.iload_n 2, 1) := by decide +kernel
theorem dX12_one_121 : decode cX12_one 121 = .ok (.goto 23, 3) := by decide +kernel
theorem dX12_one_124 : decode cX12_one 124 = .ok (.iload_n 1, 1) := by decide +kernel
theorem dX12_one_125 : decode cX12_one 125 = .ok (.bipush 45, 2) := by decide +kernel
theorem dX12_one_127 : decode cX12_one 127 = .ok (.if_icmp .ne 8, 3) := by decide +kernel
theorem dX12_one_130 : decode cX12_one 130 = .ok (.iload_n 2, 1) := by decide +kernel
theorem dX12_one_131 : decode cX12_one 131 = .ok (.ineg, 1) := by decide +kernel
theorem dX12_one_132 : decode cX12_one 132 = .ok (.goto 12, 3) := by decide +kernel
theorem dX12_one_135 : decode cX12_one 135 = .ok (.iload_n 2, 1) := by decide +kernel
theorem dX12_one_136 : decode cX12_one 136 = .ok (.ifCond .ne 7, 3) := by decide +kernel
theorem dX12_one_139 : decode cX12_one 139 = .ok (.iconst 1, 1) := by decide +kernel
theorem dX12_one_140 : decode cX12_one 140 = .ok (.goto 4, 3) := by decide +kernel
theorem dX12_one_143 : decode cX12_one 143 = .ok (.iconst 0, 1) := by decide +kernel
theorem dX12_one_144 : decode cX12_one 144 = .ok (.ireturn, 1) := by decide +kernel
theorem dX12_one_145 : decode cX12_one 145 = .ok (.iload_n 1, 1) := by decide +kernel
theorem dX12_one_146 : decode cX12_one 146 = .ok (.invokestatic 181, 3) := by decide +kernel
theorem dX12_one_149 : decode cX12_one 149 = .ok (.istore_n 2, 1) := by decide +kernel
theorem dX12_one_150 : decode cX12_one 150 = .ok (.iload_n 2, 1) := by decide +kernel
theorem dX12_one_151 : decode cX12_one 151 = .ok (.ifCond .lt 20, 3) := by decide +kernel
theorem dX12_one_154 : decode cX12_one 154 = .ok (.aload_n 0, 1) := by decide +kernel
theorem dX12_one_155 : decode cX12_one 155 = .ok (.dup, 1) := by decide +kernel
theorem dX12_one_156 : decode cX12_one 156 = .ok (.getfield 138, 3) := by decide +kernel
theorem dX12_one_159 : decode cX12_one 159 = .ok (.iconst 1, 1) := by decide +kernel
theorem dX12_one_160 : decode cX12_one 160 = .ok (.iadd, 1) := by decide +kernel
theorem dX12_one_161 : decode cX12_one 161 = .ok (.putfield 138, 3) := by decide +kernel
theorem dX12_one_164 : decode cX12_one 164 = .ok (.aload_n 0, 1) := by decide +kernel
theorem dX12_one_165 : decode cX12_one 165 = .ok (.getfield 28, 3) := by decide +kernel
theorem dX12_one_168 : decode cX12_one 168 = .ok (.iload_n 2, 1) := by decide +kernel
theorem dX12_one_169 : decode cX12_one 169 = .ok (.iaload, 1) := by decide +kernel
theorem dX12_one_170 : decode cX12_one 170 = .ok (.ireturn, 1) := by decide +kernel
theorem dX12_one_171 : decode cX12_one 171 = .ok (.iconst 0, 1) := by decide +kernel
theorem dX12_one_172 : decode cX12_one 172 = .ok (.istore_n 3, 1) := by decide +kernel
theorem dX12_one_173 : decode cX12_one 173 = .ok (.iconst 0, 1) := by decide +kernel
theorem dX12_one_174 : decode cX12_one 174 = .ok (.istore 4, 2) := by decide +kernel
theorem dX12_one_176 : decode cX12_one 176 = .ok (.iload 4, 2) := by decide +kernel
theorem dX12_one_178 : decode cX12_one 178 = .ok (.iconst 4, 1) := by decide +kernel
theorem dX12_one_179 : decode cX12_one 179 = .ok (.if_icmp .ge 50, 3) := by decide +kernel
theorem dX12_one_182 : decode cX12_one 182 = .ok (.aload_n 0, 1) := by decide +kernel
theorem dX12_one_183 : decode cX12_one 183 = .ok (.invokevirtual 150, 3) := by decide +kernel
theorem dX12_one_186 : decode cX12_one 186 = .ok (.bipush 48, 2) := by decide +kernel
theorem dX12_one_188 : decode cX12_one 188 = .ok (.if_icmp .lt 41, 3) := by decide +kernel
theorem dX12_one_191 : decode cX12_one 191 = .ok (.aload_n 0, 1) := by decide +kernel
theorem dX12_one_192 : decode cX12_one 192 = .ok (.invokevirtual 150, 3) := by decide +kernel
theorem dX12_one_195 : decode cX12_one 195 = .ok (.bipush 57, 2) := by decide +kernel
theorem dX12_one_197 : decode cX12_one 197 = .ok (.if_icmp .gt 32, 3) := by decide +kernel
theorem dX12_one_200 : decode cX12_one 200 = .ok (.bipush 10, 2) := by decide +kernel
theorem dX12_one_202 : decode cX12_one 202 = .ok (.iload_n 3, 1) := by decide +kernel
theorem dX12_one_203 : decode cX12_one 203 = .ok (.imul, 1) := by decide +kernel
theorem dX12_one_204 : decode cX12_one 204 = .ok (.aload_n 0, 1) := by decide +kernel
theorem dX12_one_205 : decode cX12_one 205 = .ok (.invokevirtual 150, 3) := by decide +kernel
theorem dX12_one_208 : decode cX12_one 208 = .ok (.iadd, 1) := by decide +kernel
theorem dX12_one_209 : decode cX12_one 209 = .ok (.bipush 48, 2) := by decide +kernel
theorem dX12_one_211 : decode cX12_one 211 = .ok (.isub, 1) := by decide +kernel
theorem dX12_one_212 : decode cX12_one 212 = .ok (.istore_n 3, 1) := by decide +kernel
theorem dX12_one_213 : decode cX12_one 213 = .ok (.iinc 4 1, 3) := by decide +kernel
theorem dX12_one_216 : decode cX12_one 216 = .ok (.aload_n 0, 1) := by decide +kernel
theorem dX12_one_217 : decode cX12_one 217 = .ok (.dup, 1) := by decide +kernel
theorem dX12_one_218 : decode cX12_one 218 = .ok (.getfield 138, 3) := by decide +kernel
theorem dX12_one_221 : decode cX12_one 221 = .ok (.iconst 1, 1) := by decide +kernel
theorem dX12_one_222 : decode cX12_one 222 = .ok (.iadd, 1) := by decide +kernel
theorem dX12_one_223 : decode cX12_one 223 = .ok (.putfield 138, 3) := by decide +kernel
theorem dX12_one_226 : decode cX12_one 226 = .ok (.goto (-50), 3) := by decide +kernel
theorem dX12_one_229 : decode cX12_one 229 = .ok (.iload 4, 2) := by decide +kernel
theorem dX12_one_231 : decode cX12_one 231 = .ok (.ifCond .ne 10, 3) := by decide +kernel
theorem dX12_one_234 : decode cX12_one 234 = .ok (.aload_n 0, 1) := by decide +kernel
theorem dX12_one_235 : decode cX12_one 235 = .ok (.invokevirtual 175, 3) := by decide +kernel
theorem dX12_one_238 : decode cX12_one 238 = .ok (.goto 4, 3) := by decide +kernel
theorem dX12_one_241 : decode cX12_one 241 = .ok (.iload_n 3, 1) := by decide +kernel
theorem dX12_one_242 : decode cX12_one 242 = .ok (.ireturn, 1) := by decide +kernel
theorem dX12_workOut_0 : decode cX12_workOut 0 = .ok (.aload_n 0, 1) := by decide +kernel
theorem dX12_workOut_1 : decode cX12_workOut 1 = .ok (.iload_n 1, 1) := by decide +kernel
theorem dX12_workOut_2 : decode cX12_workOut 2 = .ok (.putfield 144, 3) := by decide +kernel
theorem dX12_workOut_5 : decode cX12_workOut 5 = .ok (.aload_n 0, 1) := by decide +kernel
theorem dX12_workOut_6 : decode cX12_workOut 6 = .ok (.iconst 0, 1) := by decide +kernel
theorem dX12_workOut_7 : decode cX12_workOut 7 = .ok (.putfield 138, 3) := by decide +kernel
theorem dX12_workOut_10 : decode cX12_workOut 10 = .ok (.aload_n 0, 1) := by decide +kernel
theorem dX12_workOut_11 : decode cX12_workOut 11 = .ok (.iload_n 2, 1) := by decide +kernel
theorem dX12_workOut_12 : decode cX12_workOut 12 = .ok (.putfield 141, 3) := by decide +kernel
theorem dX12_workOut_15 : decode cX12_workOut 15 = .ok (.aload_n 0, 1) := by decide +kernel
theorem dX12_workOut_16 : decode cX12_workOut 16 = .ok (.iconst (-1), 1) := by decide +kernel
theorem dX12_workOut_17 : decode cX12_workOut 17 = .ok (.putfield 147, 3) := by decide +kernel
theorem dX12_workOut_20 : decode cX12_workOut 20 = .ok (.aload_n 0, 1) := by decide +kernel
theorem dX12_workOut_21 : decode cX12_workOut 21 = .ok (.iconst 0, 1) := by decide +kernel
theorem dX12_workOut_22 : decode cX12_workOut 22 = .ok (.putfield 172, 3) := by decide +kernel
theorem dX12_workOut_25 : decode cX12_workOut 25 = .ok (.iconst 0, 1) := by decide +kernel
theorem dX12_workOut_26 : decode cX12_workOut 26 = .ok (.istore_n 3, 1) := by decide +kernel
theorem dX12_workOut_27 : decode cX12_workOut 27 = .ok (.iconst 0, 1) := by decide +kernel
theorem dX12_workOut_28 : decode cX12_workOut 28 = .ok (.istore 4, 2) := by decide +kernel
theorem dX12_workOut_30 : decode cX12_workOut 30 = .ok (.iconst 1, 1) := by decide +kernel
theorem dX12_workOut_31 : decode cX12_workOut 31 = .ok (.istore 5, 2) := by decide +kernel
theorem dX12_workOut_33 : decode cX12_workOut 33 = .ok (.iload 5, 2) := by decide +kernel
theorem dX12_workOut_35 : decode cX12_workOut 35 = .ok (.ifCond .eq 72, 3) := by decide +kernel
theorem dX12_workOut_38 : decode cX12_workOut 38 = .ok (.aload_n 0, 1) := by decide +kernel
theorem dX12_workOut_39 : decode cX12_workOut 39 = .ok (.invokevirtual 178, 3) := by decide +kernel
theorem dX12_workOut_42 : decode cX12_workOut 42 = .ok (.istore 6, 2) := by decide +kernel
theorem dX12_workOut_44 : decode cX12_workOut 44 = .ok (.iconst 1, 1) := by decide +kernel
theorem dX12_workOut_45 : decode cX12_workOut 45 = .ok (.istore 7, 2) := by decide +kernel
theorem dX12_workOut_47 : decode cX12_workOut 47 = .ok (.aload_n 0, 1) := by decide +kernel
theorem dX12_workOut_48 : decode cX12_workOut 48 = .ok (.bipush 63, 2) := by decide +kernel
theorem dX12_workOut_50 : decode cX12_workOut 50 = .ok (.invokevirtual 157, 3) := by decide +kernel
theorem dX12_workOut_53 : decode cX12_workOut 53 = .ok (.ifCond .eq 21, 3) := by decide +kernel
theorem dX12_workOut_56 : decode cX12_workOut 56 = .ok (.iload 6, 2) := by decide +kernel
theorem dX12_workOut_58 : decode cX12_workOut 58 = .ok (.ifCond .eq 7, 3) := by decide +kernel
theorem dX12_workOut_61 : decode cX12_workOut 61 = .ok (.iconst 1, 1) := by decide +kernel
theorem dX12_workOut_62 : decode cX12_workOut 62 = .ok (.goto 4, 3) := by decide +kernel
theorem dX12_workOut_65 : decode cX12_workOut 65 = .ok (.iconst 0, 1) := by decide +kernel
theorem dX12_workOut_66 : decode cX12_workOut 66 = .ok (.istore 7, 2) := by decide +kernel
theorem dX12_workOut_68 : decode cX12_workOut 68 = .ok (.aload_n 0, 1) := by decide +kernel
theorem dX12_workOut_69 : decode cX12_workOut 69 = .ok (.invokevirtual 178, 3) := by decide +kernel
theorem dX12_workOut_72 : decode cX12_workOut 72 = .ok (.istore 6, 2) := by decide +kernel
theorem dX12_workOut_74 : decode cX12_workOut 74 = .ok (.aload_n 0, 1) := by decide +kernel
theorem dX12_workOut_75 : decode cX12_workOut 75 = .ok (.getfield 147, 3) := by decide +kernel
theorem dX12_workOut_78 : decode cX12_workOut 78 = .ok (.ifCond .ge 18, 3) := by decide +kernel
theorem dX12_workOut_81 : decode cX12_workOut 81 = .ok (.iload 7, 2) := by decide +kernel
theorem dX12_workOut_83 : decode cX12_workOut 83 = .ok (.ifCond .eq 13, 3) := by decide +kernel
theorem dX12_workOut_86 : decode cX12_workOut 86 = .ok (.iload_n 3, 1) := by decide +kernel
theorem dX12_workOut_87 : decode cX12_workOut 87 = .ok (.ifCond .ne 9, 3) := by decide +kernel
theorem dX12_workOut_90 : decode cX12_workOut 90 = .ok (.iconst 1, 1) := by decide +kernel
theorem dX12_workOut_91 : decode cX12_workOut 91 = .ok (.istore_n 3, 1) := by decide +kernel
theorem dX12_workOut_92 : decode cX12_workOut 92 = .ok (.iload 6, 2) := by decide +kernel
theorem dX12_workOut_94 : decode cX12_workOut 94 = .ok (.istore 4, 2) := by decide +kernel
theorem dX12_workOut_96 : decode cX12_workOut 96 = .ok (.aload_n 0, 1) := by decide +kernel
theorem dX12_workOut_97 : decode cX12_workOut 97 = .ok (.bipush 59, 2) := by decide +kernel
theorem dX12_workOut_99 : decode cX12_workOut 99 = .ok (.invokevirtual 157, 3) := by decide +kernel
theorem dX12_workOut_102 : decode cX12_workOut 102 = .ok (.istore 5, 2) := by decide +kernel
theorem dX12_workOut_104 : decode cX12_workOut 104 = .ok (.goto (-71), 3) := by decide +kernel
theorem dX12_workOut_107 : decode cX12_workOut 107 = .ok (.aload_n 0, 1) := by decide +kernel
theorem dX12_workOut_108 : decode cX12_workOut 108 = .ok (.getfield 147, 3) := by decide +kernel
theorem dX12_workOut_111 : decode cX12_workOut 111 = .ok (.ifCond .ge 19, 3) := by decide +kernel
theorem dX12_workOut_114 : decode cX12_workOut 114 = .ok (.aload_n 0, 1) := by decide +kernel
theorem dX12_workOut_115 : decode cX12_workOut 115 = .ok (.getfield 138, 3) := by decide +kernel
theorem dX12_workOut_118 : decode cX12_workOut 118 = .ok (.aload_n 0, 1) := by decide +kernel
theorem dX12_workOut_119 : decode cX12_workOut 119 = .ok (.getfield 141, 3) := by decide +kernel
theorem dX12_workOut_122 : decode cX12_workOut 122 = .ok (.if_icmp .ge 8, 3) := by decide +kernel
theorem dX12_workOut_125 : decode cX12_workOut 125 = .ok (.aload_n 0, 1) := by decide +kernel
theorem dX12_workOut_126 : decode cX12_workOut 126 = .ok (.invokevirtual 175, 3) := by decide +kernel
theorem dX12_workOut_129 : decode cX12_workOut 129 = .ok (.ireturn, 1) := by decide +kernel
theorem dX12_workOut_130 : decode cX12_workOut 130 = .ok (.iload 4, 2) := by decide +kernel
theorem dX12_workOut_132 : decode cX12_workOut 132 = .ok (.ireturn, 1) := by decide +kernel
theorem dX12_law_0 : decode cX12_law 0 = .ok (.aload_n 0, 1) := by decide +kernel
theorem dX12_law_1 : decode cX12_law 1 = .ok (.iconst (-1), 1) := by decide +kernel
theorem dX12_law_2 : decode cX12_law 2 = .ok (.aload_n 0, 1) := by decide +kernel
theorem dX12_law_3 : decode cX12_law 3 = .ok (.getfield 135, 3) := by decide +kernel
theorem dX12_law_6 : decode cX12_law 6 = .ok (.invokevirtual 185, 3) := by decide +kernel
theorem dX12_law_9 : decode cX12_law 9 = .ok (.istore_n 1, 1) := by decide +kernel
theorem dX12_law_10 : decode cX12_law 10 = .ok (.aload_n 0, 1) := by decide +kernel
theorem dX12_law_11 : decode cX12_law 11 = .ok (.getfield 135, 3) := by decide +kernel
theorem dX12_law_14 : decode cX12_law 14 = .ok (.istore_n 2, 1) := by decide +kernel
theorem dX12_law_15 : decode cX12_law 15 = .ok (.aload_n 0, 1) := by decide +kernel
theorem dX12_law_16 : decode cX12_law 16 = .ok (.iconst 0, 1) := by decide +kernel
theorem dX12_law_17 : decode cX12_law 17 = .ok (.putfield 135, 3) := by decide +kernel
theorem dX12_law_20 : decode cX12_law 20 = .ok (.aload_n 0, 1) := by decide +kernel
theorem dX12_law_21 : decode cX12_law 21 = .ok (.getfield 147, 3) := by decide +kernel
theorem dX12_law_24 : decode cX12_law 24 = .ok (.ifCond .lt 11, 3) := by decide +kernel
theorem dX12_law_27 : decode cX12_law 27 = .ok (.bipush (-100), 2) := by decide +kernel
theorem dX12_law_29 : decode cX12_law 29 = .ok (.aload_n 0, 1) := by decide +kernel
theorem dX12_law_30 : decode cX12_law 30 = .ok (.getfield 147, 3) := by decide +kernel
theorem dX12_law_33 : decode cX12_law 33 = .ok (.isub, 1) := by decide +kernel
theorem dX12_law_34 : decode cX12_law 34 = .ok (.ireturn, 1) := by decide +kernel
theorem dX12_law_35 : decode cX12_law 35 = .ok (.iconst 0, 1) := by decide +kernel
theorem dX12_law_36 : decode cX12_law 36 = .ok (.istore_n 3, 1) := by decide +kernel
theorem dX12_law_37 : decode cX12_law 37 = .ok (.iload_n 3, 1) := by decide +kernel
theorem dX12_law_38 : decode cX12_law 38 = .ok (.iload_n 2, 1) := by decide +kernel
theorem dX12_law_39 : decode cX12_law 39 = .ok (.if_icmp .ge 21, 3) := by decide +kernel
theorem dX12_law_42 : decode cX12_law 42 = .ok (.aload_n 0, 1) := by decide +kernel
theorem dX12_law_43 : decode cX12_law 43 = .ok (.getfield 25, 3) := by decide +kernel
theorem dX12_law_46 : decode cX12_law 46 = .ok (.iload_n 3, 1) := by decide +kernel
theorem dX12_law_47 : decode cX12_law 47 = .ok (.aload_n 0, 1) := by decide +kernel
theorem dX12_law_48 : decode cX12_law 48 = .ok (.getfield 22, 3) := by decide +kernel
theorem dX12_law_51 : decode cX12_law 51 = .ok (.iload_n 3, 1) := by decide +kernel
theorem dX12_law_52 : decode cX12_law 52 = .ok (.iaload, 1) := by decide +kernel
theorem dX12_law_53 : decode cX12_law 53 = .ok (.iastore, 1) := by decide +kernel
theorem dX12_law_54 : decode cX12_law 54 = .ok (.iinc 3 1, 3) := by decide +kernel
theorem dX12_law_57 : decode cX12_law 57 = .ok (.goto (-20), 3) := by decide +kernel
theorem dX12_law_60 : decode cX12_law 60 = .ok (.aload_n 0, 1) := by decide +kernel
theorem dX12_law_61 : decode cX12_law 61 = .ok (.iload_n 2, 1) := by decide +kernel
theorem dX12_law_62 : decode cX12_law 62 = .ok (.putfield 84, 3) := by decide +kernel
theorem dX12_law_65 : decode cX12_law 65 = .ok (.iconst 1, 1) := by decide +kernel
theorem dX12_law_66 : decode cX12_law 66 = .ok (.ireturn, 1) := by decide +kernel
theorem dX12_begins_0 : decode cX12_begins 0 = .ok (.iconst 0, 1) := by decide +kernel
theorem dX12_begins_1 : decode cX12_begins 1 = .ok (.istore_n 1, 1) := by decide +kernel
theorem dX12_begins_2 : decode cX12_begins 2 = .ok (.iload_n 1, 1) := by decide +kernel
theorem dX12_begins_3 : decode cX12_begins 3 = .ok (.bipush 36, 2) := by decide +kernel
theorem dX12_begins_5 : decode cX12_begins 5 = .ok (.if_icmp .ge 36, 3) := by decide +kernel
theorem dX12_begins_8 : decode cX12_begins 8 = .ok (.aload_n 0, 1) := by decide +kernel
theorem dX12_begins_9 : decode cX12_begins 9 = .ok (.getfield 31, 3) := by decide +kernel
theorem dX12_begins_12 : decode cX12_begins 12 = .ok (.iload_n 1, 1) := by decide +kernel
theorem dX12_begins_13 : decode cX12_begins 13 = .ok (.aload_n 0, 1) := by decide +kernel
theorem dX12_begins_14 : decode cX12_begins 14 = .ok (.getfield 9, 3) := by decide +kernel
theorem dX12_begins_17 : decode cX12_begins 17 = .ok (.iload_n 1, 1) := by decide +kernel
theorem dX12_begins_18 : decode cX12_begins 18 = .ok (.iaload, 1) := by decide +kernel
theorem dX12_begins_19 : decode cX12_begins 19 = .ok (.iastore, 1) := by decide +kernel
theorem dX12_begins_20 : decode cX12_begins 20 = .ok (.aload_n 0, 1) := by decide +kernel
theorem dX12_begins_21 : decode cX12_begins 21 = .ok (.getfield 34, 3) := by decide +kernel
theorem dX12_begins_24 : decode cX12_begins 24 = .ok (.iload_n 1, 1) := by decide +kernel
theorem dX12_begins_25 : decode cX12_begins 25 = .ok (.aload_n 0, 1) := by decide +kernel
theorem dX12_begins_26 : decode cX12_begins 26 = .ok (.getfield 9, 3) := by decide +kernel
theorem dX12_begins_29 : decode cX12_begins 29 = .ok (.bipush 108, 2) := by decide +kernel
theorem dX12_begins_31 : decode cX12_begins 31 = .ok (.iload_n 1, 1) := by decide +kernel
theorem dX12_begins_32 : decode cX12_begins 32 = .ok (.iadd, 1) := by decide +kernel
theorem dX12_begins_33 : decode cX12_begins 33 = .ok (.iaload, 1) := by decide +kernel
theorem dX12_begins_34 : decode cX12_begins 34 = .ok (.iastore, 1) := by decide +kernel
theorem dX12_begins_35 : decode cX12_begins 35 = .ok (.iinc 1 1, 3) := by decide +kernel
theorem dX12_begins_38 : decode cX12_begins 38 = .ok (.goto (-36), 3) := by decide +kernel
theorem dX12_begins_41 : decode cX12_begins 41 = .ok (.aload_n 0, 1) := by decide +kernel
theorem dX12_begins_42 : decode cX12_begins 42 = .ok (.aload_n 0, 1) := by decide +kernel
theorem dX12_begins_43 : decode cX12_begins 43 = .ok (.getfield 9, 3) := by decide +kernel
theorem dX12_begins_46 : decode cX12_begins 46 = .ok (.sipush 146, 3) := by decide +kernel
theorem dX12_begins_49 : decode cX12_begins 49 = .ok (.iaload, 1) := by decide +kernel
theorem dX12_begins_50 : decode cX12_begins 50 = .ok (.putfield 188, 3) := by decide +kernel
theorem dX12_begins_53 : decode cX12_begins 53 = .ok (.return_, 1) := by decide +kernel
theorem dX12_beside_0 : decode cX12_beside 0 = .ok (.iload_n 0, 1) := by decide +kernel
theorem dX12_beside_1 : decode cX12_beside 1 = .ok (.bipush 6, 2) := by decide +kernel
theorem dX12_beside_3 : decode cX12_beside 3 = .ok (.irem, 1) := by decide +kernel
theorem dX12_beside_4 : decode cX12_beside 4 = .ok (.iload_n 1, 1) := by decide +kernel
theorem dX12_beside_5 : decode cX12_beside 5 = .ok (.iconst 1, 1) := by decide +kernel
theorem dX12_beside_6 : decode cX12_beside 6 = .ok (.if_icmp .ne 7, 3) := by decide +kernel
theorem dX12_beside_9 : decode cX12_beside 9 = .ok (.iconst 1, 1) := by decide +kernel
theorem dX12_beside_10 : decode cX12_beside 10 = .ok (.goto 13, 3) := by decide +kernel
theorem dX12_beside_13 : decode cX12_beside 13 = .ok (.iload_n 1, 1) := by decide +kernel
theorem dX12_beside_14 : decode cX12_beside 14 = .ok (.iconst 3, 1) := by decide +kernel
theorem dX12_beside_15 : decode cX12_beside 15 = .ok (.if_icmp .ne 7, 3) := by decide +kernel
theorem dX12_beside_18 : decode cX12_beside 18 = .ok (.iconst (-1), 1) := by decide +kernel
theorem dX12_beside_19 : decode cX12_beside 19 = .ok (.goto 4, 3) := by decide +kernel
theorem dX12_beside_22 : decode cX12_beside 22 = .ok (.iconst 0, 1) := by decide +kernel
theorem dX12_beside_23 : decode cX12_beside 23 = .ok (.iadd, 1) := by decide +kernel
theorem dX12_beside_24 : decode cX12_beside 24 = .ok (.istore_n 2, 1) := by decide +kernel
theorem dX12_beside_25 : decode cX12_beside 25 = .ok (.iload_n 0, 1) := by decide +kernel
theorem dX12_beside_26 : decode cX12_beside 26 = .ok (.bipush 6, 2) := by decide +kernel
theorem dX12_beside_28 : decode cX12_beside 28 = .ok (.idiv, 1) := by decide +kernel
theorem dX12_beside_29 : decode cX12_beside 29 = .ok (.iload_n 1, 1) := by decide +kernel
theorem dX12_beside_30 : decode cX12_beside 30 = .ok (.ifCond .ne 7, 3) := by decide +kernel
theorem dX12_beside_33 : decode cX12_beside 33 = .ok (.iconst (-1), 1) := by decide +kernel
theorem dX12_beside_34 : decode cX12_beside 34 = .ok (.goto 13, 3) := by decide +kernel
theorem dX12_beside_37 : decode cX12_beside 37 = .ok (.iload_n 1, 1) := by decide +kernel
theorem dX12_beside_38 : decode cX12_beside 38 = .ok (.iconst 2, 1) := by decide +kernel
theorem dX12_beside_39 : decode cX12_beside 39 = .ok (.if_icmp .ne 7, 3) := by decide +kernel
theorem dX12_beside_42 : decode cX12_beside 42 = .ok (.iconst 1, 1) := by decide +kernel
theorem dX12_beside_43 : decode cX12_beside 43 = .ok (.goto 4, 3) := by decide +kernel
theorem dX12_beside_46 : decode cX12_beside 46 = .ok (.iconst 0, 1) := by decide +kernel
theorem dX12_beside_47 : decode cX12_beside 47 = .ok (.iadd, 1) := by decide +kernel
theorem dX12_beside_48 : decode cX12_beside 48 = .ok (.istore_n 3, 1) := by decide +kernel
theorem dX12_beside_49 : decode cX12_beside 49 = .ok (.iload_n 2, 1) := by decide +kernel
theorem dX12_beside_50 : decode cX12_beside 50 = .ok (.i2l, 1) := by decide +kernel
theorem dX12_beside_51 : decode cX12_beside 51 = .ok (.lconst 0, 1) := by decide +kernel
theorem dX12_beside_52 : decode cX12_beside 52 = .ok (.ldc2_w 191, 3) := by decide +kernel
theorem dX12_beside_55 : decode cX12_beside 55 = .ok (.invokestatic 96, 3) := by decide +kernel
theorem dX12_beside_58 : decode cX12_beside 58 = .ok (.ifCond .eq 24, 3) := by decide +kernel
theorem dX12_beside_61 : decode cX12_beside 61 = .ok (.iload_n 3, 1) := by decide +kernel
theorem dX12_beside_62 : decode cX12_beside 62 = .ok (.i2l, 1) := by decide +kernel
theorem dX12_beside_63 : decode cX12_beside 63 = .ok (.lconst 0, 1) := by decide +kernel
theorem dX12_beside_64 : decode cX12_beside 64 = .ok (.ldc2_w 191, 3) := by decide +kernel
theorem dX12_beside_67 : decode cX12_beside 67 = .ok (.invokestatic 96, 3) := by decide +kernel
theorem dX12_beside_70 : decode cX12_beside 70 = .ok (.ifCond .eq 12, 3) := by decide +kernel
theorem dX12_beside_73 : decode cX12_beside 73 = .ok (.bipush 6, 2) := by decide +kernel
theorem dX12_beside_75 : decode cX12_beside 75 = .ok (.iload_n 3, 1) := by decide +kernel
theorem dX12_beside_76 : decode cX12_beside 76 = .ok (.imul, 1) := by decide +kernel
theorem dX12_beside_77 : decode cX12_beside 77 = .ok (.iload_n 2, 1) := by decide +kernel
theorem dX12_beside_78 : decode cX12_beside 78 = .ok (.iadd, 1) := by decide +kernel
theorem dX12_beside_79 : decode cX12_beside 79 = .ok (.goto 4, 3) := by decide +kernel
theorem dX12_beside_82 : decode cX12_beside 82 = .ok (.iconst (-1), 1) := by decide +kernel
theorem dX12_beside_83 : decode cX12_beside 83 = .ok (.ireturn, 1) := by decide +kernel
theorem dX12_isLit_0 : decode cX12_isLit 0 = .ok (.aload_n 0, 1) := by decide +kernel
theorem dX12_isLit_1 : decode cX12_isLit 1 = .ok (.getfield 31, 3) := by decide +kernel
theorem dX12_isLit_4 : decode cX12_isLit 4 = .ok (.iload_n 1, 1) := by decide +kernel
theorem dX12_isLit_5 : decode cX12_isLit 5 = .ok (.iaload, 1) := by decide +kernel
theorem dX12_isLit_6 : decode cX12_isLit 6 = .ok (.ifCond .le 16, 3) := by decide +kernel
theorem dX12_isLit_9 : decode cX12_isLit 9 = .ok (.aload_n 0, 1) := by decide +kernel
theorem dX12_isLit_10 : decode cX12_isLit 10 = .ok (.getfield 34, 3) := by decide +kernel
theorem dX12_isLit_13 : decode cX12_isLit 13 = .ok (.iload_n 1, 1) := by decide +kernel
theorem dX12_isLit_14 : decode cX12_isLit 14 = .ok (.iaload, 1) := by decide +kernel
theorem dX12_isLit_15 : decode cX12_isLit 15 = .ok (.ifCond .ne 7, 3) := by decide +kernel
theorem dX12_isLit_18 : decode cX12_isLit 18 = .ok (.iconst 1, 1) := by decide +kernel
theorem dX12_isLit_19 : decode cX12_isLit 19 = .ok (.goto 4, 3) := by decide +kernel
theorem dX12_isLit_22 : decode cX12_isLit 22 = .ok (.iconst 0, 1) := by decide +kernel
theorem dX12_isLit_23 : decode cX12_isLit 23 = .ok (.ireturn, 1) := by decide +kernel
theorem dX12_darkBeside_0 : decode cX12_darkBeside 0 = .ok (.iconst 0, 1) := by decide +kernel
theorem dX12_darkBeside_1 : decode cX12_darkBeside 1 = .ok (.istore_n 2, 1) := by decide +kernel
theorem dX12_darkBeside_2 : decode cX12_darkBeside 2 = .ok (.iconst 0, 1) := by decide +kernel
theorem dX12_darkBeside_3 : decode cX12_darkBeside 3 = .ok (.istore_n 3, 1) := by decide +kernel
theorem dX12_darkBeside_4 : decode cX12_darkBeside 4 = .ok (.iload_n 3, 1) := by decide +kernel
theorem dX12_darkBeside_5 : decode cX12_darkBeside 5 = .ok (.iconst 4, 1) := by decide +kernel
theorem dX12_darkBeside_6 : decode cX12_darkBeside 6 = .ok (.if_icmp .ge 35, 3) := by decide +kernel
theorem dX12_darkBeside_9 : decode cX12_darkBeside 9 = .ok (.iload_n 1, 1) := by decide +kernel
theorem dX12_darkBeside_10 : decode cX12_darkBeside 10 = .ok (.iload_n 3, 1) := by decide +kernel
theorem dX12_darkBeside_11 : decode cX12_darkBeside 11 = .ok (.invokestatic 193, 3) := by decide +kernel
theorem dX12_darkBeside_14 : decode cX12_darkBeside 14 = .ok (.istore 4, 2) := by decide +kernel
theorem dX12_darkBeside_16 : decode cX12_darkBeside 16 = .ok (.iload_n 2, 1) := by decide +kernel
theorem dX12_darkBeside_17 : decode cX12_darkBeside 17 = .ok (.iload 4, 2) := by decide +kernel
theorem dX12_darkBeside_19 : decode cX12_darkBeside 19 = .ok (.ifCond .ge 7, 3) := by decide +kernel
theorem dX12_darkBeside_22 : decode cX12_darkBeside 22 = .ok (.iconst 1, 1) := by decide +kernel
theorem dX12_darkBeside_23 : decode cX12_darkBeside 23 = .ok (.goto 10, 3) := by decide +kernel
theorem dX12_darkBeside_26 : decode cX12_darkBeside 26 = .ok (.aload_n 0, 1) := by decide +kernel
theorem dX12_darkBeside_27 : decode cX12_darkBeside 27 = .ok (.getfield 34, 3) := by decide +kernel
theorem dX12_darkBeside_30 : decode cX12_darkBeside 30 = .ok (.iload 4, 2) := by decide +kernel
theorem dX12_darkBeside_32 : decode cX12_darkBeside 32 = .ok (.iaload, 1) := by decide +kernel
theorem dX12_darkBeside_33 : decode cX12_darkBeside 33 = .ok (.iadd, 1) := by decide +kernel
theorem dX12_darkBeside_34 : decode cX12_darkBeside 34 = .ok (.istore_n 2, 1) := by decide +kernel
theorem dX12_darkBeside_35 : decode cX12_darkBeside 35 = .ok (.iinc 3 1, 3) := by decide +kernel
theorem dX12_darkBeside_38 : decode cX12_darkBeside 38 = .ok (.goto (-34), 3) := by decide +kernel
theorem dX12_darkBeside_41 : decode cX12_darkBeside 41 = .ok (.iload_n 2, 1) := by decide +kernel
theorem dX12_darkBeside_42 : decode cX12_darkBeside 42 = .ok (.ireturn, 1) := by decide +kernel
theorem dX12_litBeside_0 : decode cX12_litBeside 0 = .ok (.iconst 0, 1) := by decide +kernel
theorem dX12_litBeside_1 : decode cX12_litBeside 1 = .ok (.istore_n 2, 1) := by decide +kernel
theorem dX12_litBeside_2 : decode cX12_litBeside 2 = .ok (.iconst 0, 1) := by decide +kernel
theorem dX12_litBeside_3 : decode cX12_litBeside 3 = .ok (.istore_n 3, 1) := by decide +kernel
theorem dX12_litBeside_4 : decode cX12_litBeside 4 = .ok (.iload_n 3, 1) := by decide +kernel
theorem dX12_litBeside_5 : decode cX12_litBeside 5 = .ok (.iconst 4, 1) := by decide +kernel
theorem dX12_litBeside_6 : decode cX12_litBeside 6 = .ok (.if_icmp .ge 38, 3) := by decide +kernel
theorem dX12_litBeside_9 : decode cX12_litBeside 9 = .ok (.iload_n 1, 1) := by decide +kernel
theorem dX12_litBeside_10 : decode cX12_litBeside 10 = .ok (.iload_n 3, 1) := by decide +kernel
theorem dX12_litBeside_11 : decode cX12_litBeside 11 = .ok (.invokestatic 193, 3) := by decide +kernel
theorem dX12_litBeside_14 : decode cX12_litBeside 14 = .ok (.istore 4, 2) := by decide +kernel
theorem dX12_litBeside_16 : decode cX12_litBeside 16 = .ok (.iload_n 2, 1) := by decide +kernel
theorem dX12_litBeside_17 : decode cX12_litBeside 17 = .ok (.iload 4, 2) := by decide +kernel
theorem dX12_litBeside_19 : decode cX12_litBeside 19 = .ok (.ifCond .lt 16, 3) := by decide +kernel
theorem dX12_litBeside_22 : decode cX12_litBeside 22 = .ok (.aload_n 0, 1) := by decide +kernel
theorem dX12_litBeside_23 : decode cX12_litBeside 23 = .ok (.iload 4, 2) := by decide +kernel
theorem dX12_litBeside_25 : decode cX12_litBeside 25 = .ok (.invokevirtual 196, 3) := by decide +kernel
theorem dX12_litBeside_28 : decode cX12_litBeside 28 = .ok (.ifCond .eq 7, 3) := by decide +kernel
theorem dX12_litBeside_31 : decode cX12_litBeside 31 = .ok (.iconst 1, 1) := by decide +kernel
theorem dX12_litBeside_32 : decode cX12_litBeside 32 = .ok (.goto 4, 3) := by decide +kernel
theorem dX12_litBeside_35 : decode cX12_litBeside 35 = .ok (.iconst 0, 1) := by decide +kernel
theorem dX12_litBeside_36 : decode cX12_litBeside 36 = .ok (.iadd, 1) := by decide +kernel
theorem dX12_litBeside_37 : decode cX12_litBeside 37 = .ok (.istore_n 2, 1) := by decide +kernel
theorem dX12_litBeside_38 : decode cX12_litBeside 38 = .ok (.iinc 3 1, 3) := by decide +kernel
theorem dX12_litBeside_41 : decode cX12_litBeside 41 = .ok (.goto (-37), 3) := by decide +kernel
theorem dX12_litBeside_44 : decode cX12_litBeside 44 = .ok (.iload_n 2, 1) := by decide +kernel
theorem dX12_litBeside_45 : decode cX12_litBeside 45 = .ok (.ireturn, 1) := by decide +kernel
theorem dX12_pressOn_0 : decode cX12_pressOn 0 = .ok (.aload_n 0, 1) := by decide +kernel
theorem dX12_pressOn_1 : decode cX12_pressOn 1 = .ok (.iload_n 1, 1) := by decide +kernel
theorem dX12_pressOn_2 : decode cX12_pressOn 2 = .ok (.invokevirtual 199, 3) := by decide +kernel
theorem dX12_pressOn_5 : decode cX12_pressOn 5 = .ok (.aload_n 0, 1) := by decide +kernel
theorem dX12_pressOn_6 : decode cX12_pressOn 6 = .ok (.getfield 9, 3) := by decide +kernel
theorem dX12_pressOn_9 : decode cX12_pressOn 9 = .ok (.bipush 36, 2) := by decide +kernel
theorem dX12_pressOn_11 : decode cX12_pressOn 11 = .ok (.iload_n 1, 1) := by decide +kernel
theorem dX12_pressOn_12 : decode cX12_pressOn 12 = .ok (.iadd, 1) := by decide +kernel
theorem dX12_pressOn_13 : decode cX12_pressOn 13 = .ok (.iaload, 1) := by decide +kernel
theorem dX12_pressOn_14 : decode cX12_pressOn 14 = .ok (.iconst 3, 1) := by decide +kernel
theorem dX12_pressOn_15 : decode cX12_pressOn 15 = .ok (.idiv, 1) := by decide +kernel
theorem dX12_pressOn_16 : decode cX12_pressOn 16 = .ok (.iadd, 1) := by decide +kernel
theorem dX12_pressOn_17 : decode cX12_pressOn 17 = .ok (.aload_n 0, 1) := by decide +kernel
theorem dX12_pressOn_18 : decode cX12_pressOn 18 = .ok (.iload_n 1, 1) := by decide +kernel
theorem dX12_pressOn_19 : decode cX12_pressOn 19 = .ok (.invokevirtual 202, 3) := by decide +kernel
theorem dX12_pressOn_22 : decode cX12_pressOn 22 = .ok (.isub, 1) := by decide +kernel
theorem dX12_pressOn_23 : decode cX12_pressOn 23 = .ok (.istore_n 2, 1) := by decide +kernel
theorem dX12_pressOn_24 : decode cX12_pressOn 24 = .ok (.aload_n 0, 1) := by decide +kernel
theorem dX12_pressOn_25 : decode cX12_pressOn 25 = .ok (.getfield 84, 3) := by decide +kernel
theorem dX12_pressOn_28 : decode cX12_pressOn 28 = .ok (.ifCond .lt 87, 3) := by decide +kernel
theorem dX12_pressOn_31 : decode cX12_pressOn 31 = .ok (.aload_n 0, 1) := by decide +kernel
theorem dX12_pressOn_32 : decode cX12_pressOn 32 = .ok (.getfield 28, 3) := by decide +kernel
theorem dX12_pressOn_35 : decode cX12_pressOn 35 = .ok (.iconst 0, 1) := by decide +kernel
theorem dX12_pressOn_36 : decode cX12_pressOn 36 = .ok (.aload_n 0, 1) := by decide +kernel
theorem dX12_pressOn_37 : decode cX12_pressOn 37 = .ok (.iload_n 1, 1) := by decide +kernel
theorem dX12_pressOn_38 : decode cX12_pressOn 38 = .ok (.invokevirtual 199, 3) := by decide +kernel
theorem dX12_pressOn_41 : decode cX12_pressOn 41 = .ok (.iastore, 1) := by decide +kernel
theorem dX12_pressOn_42 : decode cX12_pressOn 42 = .ok (.aload_n 0, 1) := by decide +kernel
theorem dX12_pressOn_43 : decode cX12_pressOn 43 = .ok (.getfield 28, 3) := by decide +kernel
theorem dX12_pressOn_46 : decode cX12_pressOn 46 = .ok (.iconst 1, 1) := by decide +kernel
theorem dX12_pressOn_47 : decode cX12_pressOn 47 = .ok (.aload_n 0, 1) := by decide +kernel
theorem dX12_pressOn_48 : decode cX12_pressOn 48 = .ok (.iload_n 1, 1) := by decide +kernel
theorem dX12_pressOn_49 : decode cX12_pressOn 49 = .ok (.invokevirtual 202, 3) := by decide +kernel
theorem dX12_pressOn_52 : decode cX12_pressOn 52 = .ok (.iastore, 1) := by decide +kernel
theorem dX12_pressOn_53 : decode cX12_pressOn 53 = .ok (.aload_n 0, 1) := by decide +kernel
theorem dX12_pressOn_54 : decode cX12_pressOn 54 = .ok (.getfield 28, 3) := by decide +kernel
theorem dX12_pressOn_57 : decode cX12_pressOn 57 = .ok (.iconst 2, 1) := by decide +kernel
theorem dX12_pressOn_58 : decode cX12_pressOn 58 = .ok (.aload_n 0, 1) := by decide +kernel
theorem dX12_pressOn_59 : decode cX12_pressOn 59 = .ok (.getfield 9, 3) := by decide +kernel
theorem dX12_pressOn_62 : decode cX12_pressOn 62 = .ok (.bipush 36, 2) := by decide +kernel
theorem dX12_pressOn_64 : decode cX12_pressOn 64 = .ok (.iload_n 1, 1) := by decide +kernel
theorem dX12_pressOn_65 : decode cX12_pressOn 65 = .ok (.iadd, 1) := by decide +kernel
theorem dX12_pressOn_66 : decode cX12_pressOn 66 = .ok (.iaload, 1) := by decide +kernel
theorem dX12_pressOn_67 : decode cX12_pressOn 67 = .ok (.iastore, 1) := by decide +kernel
theorem dX12_pressOn_68 : decode cX12_pressOn 68 = .ok (.aload_n 0, 1) := by decide +kernel
theorem dX12_pressOn_69 : decode cX12_pressOn 69 = .ok (.getfield 28, 3) := by decide +kernel
theorem dX12_pressOn_72 : decode cX12_pressOn 72 = .ok (.iconst 3, 1) := by decide +kernel
theorem dX12_pressOn_73 : decode cX12_pressOn 73 = .ok (.aload_n 0, 1) := by decide +kernel
theorem dX12_pressOn_74 : decode cX12_pressOn 74 = .ok (.getfield 9, 3) := by decide +kernel
theorem dX12_pressOn_77 : decode cX12_pressOn 77 = .ok (.bipush 72, 2) := by decide +kernel
theorem dX12_pressOn_79 : decode cX12_pressOn 79 = .ok (.iload_n 1, 1) := by decide +kernel
theorem dX12_pressOn_80 : decode cX12_pressOn 80 = .ok (.iadd, 1) := by decide +kernel
theorem dX12_pressOn_81 : decode cX12_pressOn 81 = .ok (.iaload, 1) := by decide +kernel
theorem dX12_pressOn_82 : decode cX12_pressOn 82 = .ok (.iastore, 1) := by decide +kernel
theorem dX12_pressOn_83 : decode cX12_pressOn 83 = .ok (.aload_n 0, 1) := by decide +kernel
theorem dX12_pressOn_84 : decode cX12_pressOn 84 = .ok (.getfield 28, 3) := by decide +kernel
theorem dX12_pressOn_87 : decode cX12_pressOn 87 = .ok (.iconst 4, 1) := by decide +kernel
theorem dX12_pressOn_88 : decode cX12_pressOn 88 = .ok (.aload_n 0, 1) := by decide +kernel
theorem dX12_pressOn_89 : decode cX12_pressOn 89 = .ok (.getfield 31, 3) := by decide +kernel
theorem dX12_pressOn_92 : decode cX12_pressOn 92 = .ok (.iload_n 1, 1) := by decide +kernel
theorem dX12_pressOn_93 : decode cX12_pressOn 93 = .ok (.iaload, 1) := by decide +kernel
theorem dX12_pressOn_94 : decode cX12_pressOn 94 = .ok (.iastore, 1) := by decide +kernel
theorem dX12_pressOn_95 : decode cX12_pressOn 95 = .ok (.aload_n 0, 1) := by decide +kernel
theorem dX12_pressOn_96 : decode cX12_pressOn 96 = .ok (.getfield 28, 3) := by decide +kernel
theorem dX12_pressOn_99 : decode cX12_pressOn 99 = .ok (.iconst 5, 1) := by decide +kernel
theorem dX12_pressOn_100 : decode cX12_pressOn 100 = .ok (.aload_n 0, 1) := by decide +kernel
theorem dX12_pressOn_101 : decode cX12_pressOn 101 = .ok (.getfield 188, 3) := by decide +kernel
theorem dX12_pressOn_104 : decode cX12_pressOn 104 = .ok (.iastore, 1) := by decide +kernel
theorem dX12_pressOn_105 : decode cX12_pressOn 105 = .ok (.aload_n 0, 1) := by decide +kernel
theorem dX12_pressOn_106 : decode cX12_pressOn 106 = .ok (.iconst 0, 1) := by decide +kernel
theorem dX12_pressOn_107 : decode cX12_pressOn 107 = .ok (.aload_n 0, 1) := by decide +kernel
theorem dX12_pressOn_108 : decode cX12_pressOn 108 = .ok (.getfield 84, 3) := by decide +kernel
theorem dX12_pressOn_111 : decode cX12_pressOn 111 = .ok (.invokevirtual 185, 3) := by decide +kernel
theorem dX12_pressOn_114 : decode cX12_pressOn 114 = .ok (.istore_n 2, 1) := by decide +kernel
theorem dX12_pressOn_115 : decode cX12_pressOn 115 = .ok (.iload_n 2, 1) := by decide +kernel
theorem dX12_pressOn_116 : decode cX12_pressOn 116 = .ok (.ifCond .ge 7, 3) := by decide +kernel
theorem dX12_pressOn_119 : decode cX12_pressOn 119 = .ok (.iconst 0, 1) := by decide +kernel
theorem dX12_pressOn_120 : decode cX12_pressOn 120 = .ok (.goto 15, 3) := by decide +kernel
theorem dX12_pressOn_123 : decode cX12_pressOn 123 = .ok (.iload_n 2, 1) := by decide +kernel
theorem dX12_pressOn_124 : decode cX12_pressOn 124 = .ok (.bipush 9, 2) := by decide +kernel
theorem dX12_pressOn_126 : decode cX12_pressOn 126 = .ok (.if_icmp .le 8, 3) := by decide +kernel
theorem dX12_pressOn_129 : decode cX12_pressOn 129 = .ok (.bipush 9, 2) := by decide +kernel
theorem dX12_pressOn_131 : decode cX12_pressOn 131 = .ok (.goto 4, 3) := by decide +kernel
theorem dX12_pressOn_134 : decode cX12_pressOn 134 = .ok (.iload_n 2, 1) := by decide +kernel
theorem dX12_pressOn_135 : decode cX12_pressOn 135 = .ok (.ireturn, 1) := by decide +kernel
theorem dX12_goesHour_0 : decode cX12_goesHour 0 = .ok (.aload_n 0, 1) := by decide +kernel
theorem dX12_goesHour_1 : decode cX12_goesHour 1 = .ok (.iconst 0, 1) := by decide +kernel
theorem dX12_goesHour_2 : decode cX12_goesHour 2 = .ok (.putfield 205, 3) := by decide +kernel
theorem dX12_goesHour_5 : decode cX12_goesHour 5 = .ok (.aload_n 0, 1) := by decide +kernel
theorem dX12_goesHour_6 : decode cX12_goesHour 6 = .ok (.iconst 0, 1) := by decide +kernel
theorem dX12_goesHour_7 : decode cX12_goesHour 7 = .ok (.putfield 208, 3) := by decide +kernel
theorem dX12_goesHour_10 : decode cX12_goesHour 10 = .ok (.aload_n 0, 1) := by decide +kernel
theorem dX12_goesHour_11 : decode cX12_goesHour 11 = .ok (.iconst 0, 1) := by decide +kernel
theorem dX12_goesHour_12 : decode cX12_goesHour 12 = .ok (.putfield 211, 3) := by decide +kernel
theorem dX12_goesHour_15 : decode cX12_goesHour 15 = .ok (.iconst 0, 1) := by decide +kernel
theorem dX12_goesHour_16 : decode cX12_goesHour 16 = .ok (.istore_n 1, 1) := by decide +kernel
theorem dX12_goesHour_17 : decode cX12_goesHour 17 = .ok (.iload_n 1, 1) := by decide +kernel
theorem dX12_goesHour_18 : decode cX12_goesHour 18 = .ok (.bipush 36, 2) := by decide +kernel
theorem dX12_goesHour_20 : decode cX12_goesHour 20 = .ok (.if_icmp .ge 82, 3) := by decide +kernel
theorem dX12_goesHour_23 : decode cX12_goesHour 23 = .ok (.aload_n 0, 1) := by decide +kernel
theorem dX12_goesHour_24 : decode cX12_goesHour 24 = .ok (.getfield 37, 3) := by decide +kernel
theorem dX12_goesHour_27 : decode cX12_goesHour 27 = .ok (.iload_n 1, 1) := by decide +kernel
theorem dX12_goesHour_28 : decode cX12_goesHour 28 = .ok (.aload_n 0, 1) := by decide +kernel
theorem dX12_goesHour_29 : decode cX12_goesHour 29 = .ok (.iload_n 1, 1) := by decide +kernel
theorem dX12_goesHour_30 : decode cX12_goesHour 30 = .ok (.invokevirtual 196, 3) := by decide +kernel
theorem dX12_goesHour_33 : decode cX12_goesHour 33 = .ok (.ifCond .eq 7, 3) := by decide +kernel
theorem dX12_goesHour_36 : decode cX12_goesHour 36 = .ok (.iconst 3, 1) := by decide +kernel
theorem dX12_goesHour_37 : decode cX12_goesHour 37 = .ok (.goto 58, 3) := by decide +kernel
theorem dX12_goesHour_40 : decode cX12_goesHour 40 = .ok (.aload_n 0, 1) := by decide +kernel
theorem dX12_goesHour_41 : decode cX12_goesHour 41 = .ok (.getfield 34, 3) := by decide +kernel
theorem dX12_goesHour_44 : decode cX12_goesHour 44 = .ok (.iload_n 1, 1) := by decide +kernel
theorem dX12_goesHour_45 : decode cX12_goesHour 45 = .ok (.iaload, 1) := by decide +kernel
theorem dX12_goesHour_46 : decode cX12_goesHour 46 = .ok (.iconst 1, 1) := by decide +kernel
theorem dX12_goesHour_47 : decode cX12_goesHour 47 = .ok (.if_icmp .ne 27, 3) := by decide +kernel
theorem dX12_goesHour_50 : decode cX12_goesHour 50 = .ok (.aload_n 0, 1) := by decide +kernel
theorem dX12_goesHour_51 : decode cX12_goesHour 51 = .ok (.iload_n 1, 1) := by decide +kernel
theorem dX12_goesHour_52 : decode cX12_goesHour 52 = .ok (.invokevirtual 202, 3) := by decide +kernel
theorem dX12_goesHour_55 : decode cX12_goesHour 55 = .ok (.aload_n 0, 1) := by decide +kernel
theorem dX12_goesHour_56 : decode cX12_goesHour 56 = .ok (.getfield 9, 3) := by decide +kernel
theorem dX12_goesHour_59 : decode cX12_goesHour 59 = .ok (.sipush 145, 3) := by decide +kernel
theorem dX12_goesHour_62 : decode cX12_goesHour 62 = .ok (.iaload, 1) := by decide +kernel
theorem dX12_goesHour_63 : decode cX12_goesHour 63 = .ok (.if_icmp .lt 7, 3) := by decide +kernel
theorem dX12_goesHour_66 : decode cX12_goesHour 66 = .ok (.iconst 2, 1) := by decide +kernel
theorem dX12_goesHour_67 : decode cX12_goesHour 67 = .ok (.goto 28, 3) := by decide +kernel
theorem dX12_goesHour_70 : decode cX12_goesHour 70 = .ok (.iconst 0, 1) := by decide +kernel
theorem dX12_goesHour_71 : decode cX12_goesHour 71 = .ok (.goto 24, 3) := by decide +kernel
theorem dX12_goesHour_74 : decode cX12_goesHour 74 = .ok (.aload_n 0, 1) := by decide +kernel
theorem dX12_goesHour_75 : decode cX12_goesHour 75 = .ok (.iload_n 1, 1) := by decide +kernel
theorem dX12_goesHour_76 : decode cX12_goesHour 76 = .ok (.invokevirtual 214, 3) := by decide +kernel
theorem dX12_goesHour_79 : decode cX12_goesHour 79 = .ok (.aload_n 0, 1) := by decide +kernel
theorem dX12_goesHour_80 : decode cX12_goesHour 80 = .ok (.getfield 9, 3) := by decide +kernel
theorem dX12_goesHour_83 : decode cX12_goesHour 83 = .ok (.sipush 144, 3) := by decide +kernel
theorem dX12_goesHour_86 : decode cX12_goesHour 86 = .ok (.iaload, 1) := by decide +kernel
theorem dX12_goesHour_87 : decode cX12_goesHour 87 = .ok (.if_icmp .lt 7, 3) := by decide +kernel
theorem dX12_goesHour_90 : decode cX12_goesHour 90 = .ok (.iconst 1, 1) := by decide +kernel
theorem dX12_goesHour_91 : decode cX12_goesHour 91 = .ok (.goto 4, 3) := by decide +kernel
theorem dX12_goesHour_94 : decode cX12_goesHour 94 = .ok (.iconst 0, 1) := by decide +kernel
theorem dX12_goesHour_95 : decode cX12_goesHour 95 = .ok (.iastore, 1) := by decide +kernel
theorem dX12_goesHour_96 : decode cX12_goesHour 96 = .ok (.iinc 1 1, 3) := by decide +kernel
theorem dX12_goesHour_99 : decode cX12_goesHour 99 = .ok (.goto (-82), 3) := by decide +kernel
theorem dX12_goesHour_102 : decode cX12_goesHour 102 = .ok (.iconst 0, 1) := by decide +kernel
theorem dX12_goesHour_103 : decode cX12_goesHour 103 = .ok (.istore_n 1, 1) := by decide +kernel
theorem dX12_goesHour_104 : decode cX12_goesHour 104 = .ok (.iload_n 1, 1) := by decide +kernel
theorem dX12_goesHour_105 : decode cX12_goesHour 105 = .ok (.bipush 36, 2) := by decide +kernel
theorem dX12_goesHour_107 : decode cX12_goesHour 107 = .ok (.if_icmp .ge 135, 3) := by decide +kernel
theorem dX12_goesHour_110 : decode cX12_goesHour 110 = .ok (.aload_n 0, 1) := by decide +kernel
theorem dX12_goesHour_111 : decode cX12_goesHour 111 = .ok (.getfield 37, 3) := by decide +kernel
theorem dX12_goesHour_114 : decode cX12_goesHour 114 = .ok (.iload_n 1, 1) := by decide +kernel
theorem dX12_goesHour_115 : decode cX12_goesHour 115 = .ok (.iaload, 1) := by decide +kernel
theorem dX12_goesHour_116 : decode cX12_goesHour 116 = .ok (.iconst 1, 1) := by decide +kernel
theorem dX12_goesHour_117 : decode cX12_goesHour 117 = .ok (.if_icmp .ne 20, 3) := by decide +kernel
theorem dX12_goesHour_120 : decode cX12_goesHour 120 = .ok (.aload_n 0, 1) := by decide +kernel
theorem dX12_goesHour_121 : decode cX12_goesHour 121 = .ok (.getfield 34, 3) := by decide +kernel
theorem dX12_goesHour_124 : decode cX12_goesHour 124 = .ok (.iload_n 1, 1) := by decide +kernel
theorem dX12_goesHour_125 : decode cX12_goesHour 125 = .ok (.iconst 1, 1) := by decide +kernel
theorem dX12_goesHour_126 : decode cX12_goesHour 126 = .ok (.iastore, 1) := by decide +kernel
theorem dX12_goesHour_127 : decode cX12_goesHour 127 = .ok (.aload_n 0, 1) := by decide +kernel
theorem dX12_goesHour_128 : decode cX12_goesHour 128 = .ok (.dup, 1) := by decide +kernel
theorem dX12_goesHour_129 : decode cX12_goesHour 129 = .ok (.getfield 205, 3) := by decide +kernel
theorem dX12_goesHour_132 : decode cX12_goesHour 132 = .ok (.iconst 1, 1) := by decide +kernel
theorem dX12_goesHour_133 : decode cX12_goesHour 133 = .ok (.iadd, 1) := by decide +kernel
theorem dX12_goesHour_134 : decode cX12_goesHour 134 = .ok (.putfield 205, 3) := by decide +kernel
theorem dX12_goesHour_137 : decode cX12_goesHour 137 = .ok (.aload_n 0, 1) := by decide +kernel
theorem dX12_goesHour_138 : decode cX12_goesHour 138 = .ok (.getfield 37, 3) := by decide +kernel
theorem dX12_goesHour_141 : decode cX12_goesHour 141 = .ok (.iload_n 1, 1) := by decide +kernel
theorem dX12_goesHour_142 : decode cX12_goesHour 142 = .ok (.iaload, 1) := by decide +kernel
theorem dX12_goesHour_143 : decode cX12_goesHour 143 = .ok (.iconst 2, 1) := by decide +kernel
theorem dX12_goesHour_144 : decode cX12_goesHour 144 = .ok (.if_icmp .ne 27, 3) := by decide +kernel
theorem dX12_goesHour_147 : decode cX12_goesHour 147 = .ok (.aload_n 0, 1) := by decide +kernel
theorem dX12_goesHour_148 : decode cX12_goesHour 148 = .ok (.getfield 34, 3) := by decide +kernel
theorem dX12_goesHour_151 : decode cX12_goesHour 151 = .ok (.iload_n 1, 1) := by decide +kernel
theorem dX12_goesHour_152 : decode cX12_goesHour 152 = .ok (.iconst 0, 1) := by decide +kernel
theorem dX12_goesHour_153 : decode cX12_goesHour 153 = .ok (.iastore, 1) := by decide +kernel
theorem dX12_goesHour_154 : decode cX12_goesHour 154 = .ok (.aload_n 0, 1) := by decide +kernel
theorem dX12_goesHour_155 : decode cX12_goesHour 155 = .ok (.getfield 31, 3) := by decide +kernel
theorem dX12_goesHour_158 : decode cX12_goesHour 158 = .ok (.iload_n 1, 1) := by decide +kernel
theorem dX12_goesHour_159 : decode cX12_goesHour 159 = .ok (.iconst 0, 1) := by decide +kernel
theorem dX12_goesHour_160 : decode cX12_goesHour 160 = .ok (.iastore, 1) := by decide +kernel
theorem dX12_goesHour_161 : decode cX12_goesHour 161 = .ok (.aload_n 0, 1) := by decide +kernel
theorem dX12_goesHour_162 : decode cX12_goesHour 162 = .ok (.dup, 1) := by decide +kernel
theorem dX12_goesHour_163 : decode cX12_goesHour 163 = .ok (.getfield 208, 3) := by decide +kernel
theorem dX12_goesHour_166 : decode cX12_goesHour 166 = .ok (.iconst 1, 1) := by decide +kernel
theorem dX12_goesHour_167 : decode cX12_goesHour 167 = .ok (.iadd, 1) := by decide +kernel
theorem dX12_goesHour_168 : decode cX12_goesHour 168 = .ok (.putfield 208, 3) := by decide +kernel
theorem dX12_goesHour_171 : decode cX12_goesHour 171 = .ok (.aload_n 0, 1) := by decide +kernel
theorem dX12_goesHour_172 : decode cX12_goesHour 172 = .ok (.getfield 37, 3) := by decide +kernel
theorem dX12_goesHour_175 : decode cX12_goesHour 175 = .ok (.iload_n 1, 1) := by decide +kernel
theorem dX12_goesHour_176 : decode cX12_goesHour 176 = .ok (.iaload, 1) := by decide +kernel
theorem dX12_goesHour_177 : decode cX12_goesHour 177 = .ok (.iconst 3, 1) := by decide +kernel
theorem dX12_goesHour_178 : decode cX12_goesHour 178 = .ok (.if_icmp .ne 58, 3) := by decide +kernel
theorem dX12_goesHour_181 : decode cX12_goesHour 181 = .ok (.iconst 1, 1) := by decide +kernel
theorem dX12_goesHour_182 : decode cX12_goesHour 182 = .ok (.aload_n 0, 1) := by decide +kernel
theorem dX12_goesHour_183 : decode cX12_goesHour 183 = .ok (.getfield 9, 3) := by decide +kernel
theorem dX12_goesHour_186 : decode cX12_goesHour 186 = .ok (.bipush 36, 2) := by decide +kernel
theorem dX12_goesHour_188 : decode cX12_goesHour 188 = .ok (.iload_n 1, 1) := by decide +kernel
theorem dX12_goesHour_189 : decode cX12_goesHour 189 = .ok (.iadd, 1) := by decide +kernel
theorem dX12_goesHour_190 : decode cX12_goesHour 190 = .ok (.iaload, 1) := by decide +kernel
theorem dX12_goesHour_191 : decode cX12_goesHour 191 = .ok (.iconst 5, 1) := by decide +kernel
theorem dX12_goesHour_192 : decode cX12_goesHour 192 = .ok (.idiv, 1) := by decide +kernel
theorem dX12_goesHour_193 : decode cX12_goesHour 193 = .ok (.iadd, 1) := by decide +kernel
theorem dX12_goesHour_194 : decode cX12_goesHour 194 = .ok (.istore_n 2, 1) := by decide +kernel
theorem dX12_goesHour_195 : decode cX12_goesHour 195 = .ok (.iload_n 2, 1) := by decide +kernel
theorem dX12_goesHour_196 : decode cX12_goesHour 196 = .ok (.aload_n 0, 1) := by decide +kernel
theorem dX12_goesHour_197 : decode cX12_goesHour 197 = .ok (.getfield 31, 3) := by decide +kernel
theorem dX12_goesHour_200 : decode cX12_goesHour 200 = .ok (.iload_n 1, 1) := by decide +kernel
theorem dX12_goesHour_201 : decode cX12_goesHour 201 = .ok (.iaload, 1) := by decide +kernel
theorem dX12_goesHour_202 : decode cX12_goesHour 202 = .ok (.if_icmp .le 12, 3) := by decide +kernel
theorem dX12_goesHour_205 : decode cX12_goesHour 205 = .ok (.aload_n 0, 1) := by decide +kernel
theorem dX12_goesHour_206 : decode cX12_goesHour 206 = .ok (.getfield 31, 3) := by decide +kernel
theorem dX12_goesHour_209 : decode cX12_goesHour 209 = .ok (.iload_n 1, 1) := by decide +kernel
theorem dX12_goesHour_210 : decode cX12_goesHour 210 = .ok (.iaload, 1) := by decide +kernel
theorem dX12_goesHour_211 : decode cX12_goesHour 211 = .ok (.goto 4, 3) := by decide +kernel
theorem dX12_goesHour_214 : decode cX12_goesHour 214 = .ok (.iload_n 2, 1) := by decide +kernel
theorem dX12_goesHour_215 : decode cX12_goesHour 215 = .ok (.istore_n 2, 1) := by decide +kernel
theorem dX12_goesHour_216 : decode cX12_goesHour 216 = .ok (.aload_n 0, 1) := by decide +kernel
theorem dX12_goesHour_217 : decode cX12_goesHour 217 = .ok (.getfield 31, 3) := by decide +kernel
theorem dX12_goesHour_220 : decode cX12_goesHour 220 = .ok (.iload_n 1, 1) := by decide +kernel
theorem dX12_goesHour_221 : decode cX12_goesHour 221 = .ok (.dup2, 1) := by decide +kernel
theorem dX12_goesHour_222 : decode cX12_goesHour 222 = .ok (.iaload, 1) := by decide +kernel
theorem dX12_goesHour_223 : decode cX12_goesHour 223 = .ok (.iload_n 2, 1) := by decide +kernel
theorem dX12_goesHour_224 : decode cX12_goesHour 224 = .ok (.isub, 1) := by decide +kernel
theorem dX12_goesHour_225 : decode cX12_goesHour 225 = .ok (.iastore, 1) := by decide +kernel
theorem dX12_goesHour_226 : decode cX12_goesHour 226 = .ok (.aload_n 0, 1) := by decide +kernel
theorem dX12_goesHour_227 : decode cX12_goesHour 227 = .ok (.dup, 1) := by decide +kernel
theorem dX12_goesHour_228 : decode cX12_goesHour 228 = .ok (.getfield 211, 3) := by decide +kernel
theorem dX12_goesHour_231 : decode cX12_goesHour 231 = .ok (.iload_n 2, 1) := by decide +kernel
theorem dX12_goesHour_232 : decode cX12_goesHour 232 = .ok (.iadd, 1) := by decide +kernel
theorem dX12_goesHour_233 : decode cX12_goesHour 233 = .ok (.putfield 211, 3) := by decide +kernel
theorem dX12_goesHour_236 : decode cX12_goesHour 236 = .ok (.iinc 1 1, 3) := by decide +kernel
theorem dX12_goesHour_239 : decode cX12_goesHour 239 = .ok (.goto (-135), 3) := by decide +kernel
theorem dX12_goesHour_242 : decode cX12_goesHour 242 = .ok (.aload_n 0, 1) := by decide +kernel
theorem dX12_goesHour_243 : decode cX12_goesHour 243 = .ok (.aload_n 0, 1) := by decide +kernel
theorem dX12_goesHour_244 : decode cX12_goesHour 244 = .ok (.getfield 188, 3) := by decide +kernel
theorem dX12_goesHour_247 : decode cX12_goesHour 247 = .ok (.iconst 1, 1) := by decide +kernel
theorem dX12_goesHour_248 : decode cX12_goesHour 248 = .ok (.iadd, 1) := by decide +kernel
theorem dX12_goesHour_249 : decode cX12_goesHour 249 = .ok (.bipush 12, 2) := by decide +kernel
theorem dX12_goesHour_251 : decode cX12_goesHour 251 = .ok (.irem, 1) := by decide +kernel
theorem dX12_goesHour_252 : decode cX12_goesHour 252 = .ok (.putfield 188, 3) := by decide +kernel
theorem dX12_goesHour_255 : decode cX12_goesHour 255 = .ok (.return_, 1) := by decide +kernel
theorem dX12_goesHours_0 : decode cX12_goesHours 0 = .ok (.iconst 0, 1) := by decide +kernel
theorem dX12_goesHours_1 : decode cX12_goesHours 1 = .ok (.istore_n 2, 1) := by decide +kernel
theorem dX12_goesHours_2 : decode cX12_goesHours 2 = .ok (.iload_n 2, 1) := by decide +kernel
theorem dX12_goesHours_3 : decode cX12_goesHours 3 = .ok (.iload_n 1, 1) := by decide +kernel
theorem dX12_goesHours_4 : decode cX12_goesHours 4 = .ok (.if_icmp .ge 13, 3) := by decide +kernel
theorem dX12_goesHours_7 : decode cX12_goesHours 7 = .ok (.aload_n 0, 1) := by decide +kernel
theorem dX12_goesHours_8 : decode cX12_goesHours 8 = .ok (.invokevirtual 217, 3) := by decide +kernel
theorem dX12_goesHours_11 : decode cX12_goesHours 11 = .ok (.iinc 2 1, 3) := by decide +kernel
theorem dX12_goesHours_14 : decode cX12_goesHours 14 = .ok (.goto (-12), 3) := by decide +kernel
theorem dX12_goesHours_17 : decode cX12_goesHours 17 = .ok (.return_, 1) := by decide +kernel
theorem dX12_darkMany_0 : decode cX12_darkMany 0 = .ok (.iconst 0, 1) := by decide +kernel
theorem dX12_darkMany_1 : decode cX12_darkMany 1 = .ok (.istore_n 1, 1) := by decide +kernel
theorem dX12_darkMany_2 : decode cX12_darkMany 2 = .ok (.iconst 0, 1) := by decide +kernel
theorem dX12_darkMany_3 : decode cX12_darkMany 3 = .ok (.istore_n 2, 1) := by decide +kernel
theorem dX12_darkMany_4 : decode cX12_darkMany 4 = .ok (.iload_n 2, 1) := by decide +kernel
theorem dX12_darkMany_5 : decode cX12_darkMany 5 = .ok (.bipush 36, 2) := by decide +kernel
theorem dX12_darkMany_7 : decode cX12_darkMany 7 = .ok (.if_icmp .ge 18, 3) := by decide +kernel
theorem dX12_darkMany_10 : decode cX12_darkMany 10 = .ok (.iload_n 1, 1) := by decide +kernel
theorem dX12_darkMany_11 : decode cX12_darkMany 11 = .ok (.aload_n 0, 1) := by decide +kernel
theorem dX12_darkMany_12 : decode cX12_darkMany 12 = .ok (.getfield 34, 3) := by decide +kernel
theorem dX12_darkMany_15 : decode cX12_darkMany 15 = .ok (.iload_n 2, 1) := by decide +kernel
theorem dX12_darkMany_16 : decode cX12_darkMany 16 = .ok (.iaload, 1) := by decide +kernel
theorem dX12_darkMany_17 : decode cX12_darkMany 17 = .ok (.iadd, 1) := by decide +kernel
theorem dX12_darkMany_18 : decode cX12_darkMany 18 = .ok (.istore_n 1, 1) := by decide +kernel
theorem dX12_darkMany_19 : decode cX12_darkMany 19 = .ok (.iinc 2 1, 3) := by decide +kernel
theorem dX12_darkMany_22 : decode cX12_darkMany 22 = .ok (.goto (-18), 3) := by decide +kernel
theorem dX12_darkMany_25 : decode cX12_darkMany 25 = .ok (.iload_n 1, 1) := by decide +kernel
theorem dX12_darkMany_26 : decode cX12_darkMany 26 = .ok (.ireturn, 1) := by decide +kernel
theorem dX12_darkChildren_0 : decode cX12_darkChildren 0 = .ok (.iconst 0, 1) := by decide +kernel
theorem dX12_darkChildren_1 : decode cX12_darkChildren 1 = .ok (.istore_n 1, 1) := by decide +kernel
theorem dX12_darkChildren_2 : decode cX12_darkChildren 2 = .ok (.iconst 0, 1) := by decide +kernel
theorem dX12_darkChildren_3 : decode cX12_darkChildren 3 = .ok (.istore_n 2, 1) := by decide +kernel
theorem dX12_darkChildren_4 : decode cX12_darkChildren 4 = .ok (.iload_n 2, 1) := by decide +kernel
theorem dX12_darkChildren_5 : decode cX12_darkChildren 5 = .ok (.bipush 36, 2) := by decide +kernel
theorem dX12_darkChildren_7 : decode cX12_darkChildren 7 = .ok (.if_icmp .ge 28, 3) := by decide +kernel
theorem dX12_darkChildren_10 : decode cX12_darkChildren 10 = .ok (.iload_n 1, 1) := by decide +kernel
theorem dX12_darkChildren_11 : decode cX12_darkChildren 11 = .ok (.aload_n 0, 1) := by decide +kernel
theorem dX12_darkChildren_12 : decode cX12_darkChildren 12 = .ok (.getfield 34, 3) := by decide +kernel
theorem dX12_darkChildren_15 : decode cX12_darkChildren 15 = .ok (.iload_n 2, 1) := by decide +kernel
theorem dX12_darkChildren_16 : decode cX12_darkChildren 16 = .ok (.iaload, 1) := by decide +kernel
theorem dX12_darkChildren_17 : decode cX12_darkChildren 17 = .ok (.aload_n 0, 1) := by decide +kernel
theorem dX12_darkChildren_18 : decode cX12_darkChildren 18 = .ok (.getfield 9, 3) := by decide +kernel
theorem dX12_darkChildren_21 : decode cX12_darkChildren 21 = .ok (.bipush 72, 2) := by decide +kernel
theorem dX12_darkChildren_23 : decode cX12_darkChildren 23 = .ok (.iload_n 2, 1) := by decide +kernel
theorem dX12_darkChildren_24 : decode cX12_darkChildren 24 = .ok (.iadd, 1) := by decide +kernel
theorem dX12_darkChildren_25 : decode cX12_darkChildren 25 = .ok (.iaload, 1) := by decide +kernel
theorem dX12_darkChildren_26 : decode cX12_darkChildren 26 = .ok (.imul, 1) := by decide +kernel
theorem dX12_darkChildren_27 : decode cX12_darkChildren 27 = .ok (.iadd, 1) := by decide +kernel
theorem dX12_darkChildren_28 : decode cX12_darkChildren 28 = .ok (.istore_n 1, 1) := by decide +kernel
theorem dX12_darkChildren_29 : decode cX12_darkChildren 29 = .ok (.iinc 2 1, 3) := by decide +kernel
theorem dX12_darkChildren_32 : decode cX12_darkChildren 32 = .ok (.goto (-28), 3) := by decide +kernel
theorem dX12_darkChildren_35 : decode cX12_darkChildren 35 = .ok (.iload_n 1, 1) := by decide +kernel
theorem dX12_darkChildren_36 : decode cX12_darkChildren 36 = .ok (.ireturn, 1) := by decide +kernel
theorem dX12_darkSet_0 : decode cX12_darkSet 0 = .ok (.lconst 0, 1) := by decide +kernel
theorem dX12_darkSet_1 : decode cX12_darkSet 1 = .ok (.lstore_n 1, 1) := by decide +kernel
theorem dX12_darkSet_2 : decode cX12_darkSet 2 = .ok (.iconst 0, 1) := by decide +kernel
theorem dX12_darkSet_3 : decode cX12_darkSet 3 = .ok (.istore_n 3, 1) := by decide +kernel
theorem dX12_darkSet_4 : decode cX12_darkSet 4 = .ok (.iload_n 3, 1) := by decide +kernel
theorem dX12_darkSet_5 : decode cX12_darkSet 5 = .ok (.bipush 36, 2) := by decide +kernel
theorem dX12_darkSet_7 : decode cX12_darkSet 7 = .ok (.if_icmp .ge 21, 3) := by decide +kernel
theorem dX12_darkSet_10 : decode cX12_darkSet 10 = .ok (.lload_n 1, 1) := by decide +kernel
theorem dX12_darkSet_11 : decode cX12_darkSet 11 = .ok (.aload_n 0, 1) := by decide +kernel
theorem dX12_darkSet_12 : decode cX12_darkSet 12 = .ok (.getfield 34, 3) := by decide +kernel
theorem dX12_darkSet_15 : decode cX12_darkSet 15 = .ok (.iload_n 3, 1) := by decide +kernel
theorem dX12_darkSet_16 : decode cX12_darkSet 16 = .ok (.iaload, 1) := by decide +kernel
theorem dX12_darkSet_17 : decode cX12_darkSet 17 = .ok (.i2l, 1) := by decide +kernel
theorem dX12_darkSet_18 : decode cX12_darkSet 18 = .ok (.iload_n 3, 1) := by decide +kernel
theorem dX12_darkSet_19 : decode cX12_darkSet 19 = .ok (.lshl, 1) := by decide +kernel
theorem dX12_darkSet_20 : decode cX12_darkSet 20 = .ok (.lor, 1) := by decide +kernel
theorem dX12_darkSet_21 : decode cX12_darkSet 21 = .ok (.lstore_n 1, 1) := by decide +kernel
theorem dX12_darkSet_22 : decode cX12_darkSet 22 = .ok (.iinc 3 1, 3) := by decide +kernel
theorem dX12_darkSet_25 : decode cX12_darkSet 25 = .ok (.goto (-21), 3) := by decide +kernel
theorem dX12_darkSet_28 : decode cX12_darkSet 28 = .ok (.lload_n 1, 1) := by decide +kernel
theorem dX12_darkSet_29 : decode cX12_darkSet 29 = .ok (.lreturn, 1) := by decide +kernel
theorem dX12_press_0 : decode cX12_press 0 = .ok (.iload_n 1, 1) := by decide +kernel
theorem dX12_press_1 : decode cX12_press 1 = .ok (.i2l, 1) := by decide +kernel
theorem dX12_press_2 : decode cX12_press 2 = .ok (.invokestatic 106, 3) := by decide +kernel
theorem dX12_press_5 : decode cX12_press 5 = .ok (.ifCond .ne 5, 3) := by decide +kernel
theorem dX12_press_8 : decode cX12_press 8 = .ok (.iconst (-1), 1) := by decide +kernel
theorem dX12_press_9 : decode cX12_press 9 = .ok (.ireturn, 1) := by decide +kernel
theorem dX12_press_10 : decode cX12_press 10 = .ok (.aload_n 0, 1) := by decide +kernel
theorem dX12_press_11 : decode cX12_press 11 = .ok (.invokevirtual 220, 3) := by decide +kernel
theorem dX12_press_14 : decode cX12_press 14 = .ok (.aload_n 0, 1) := by decide +kernel
theorem dX12_press_15 : decode cX12_press 15 = .ok (.iload_n 1, 1) := by decide +kernel
theorem dX12_press_16 : decode cX12_press 16 = .ok (.invokevirtual 214, 3) := by decide +kernel
theorem dX12_press_19 : decode cX12_press 19 = .ok (.ireturn, 1) := by decide +kernel
theorem dX12_areHours_0 : decode cX12_areHours 0 = .ok (.iload_n 0, 1) := by decide +kernel
theorem dX12_areHours_1 : decode cX12_areHours 1 = .ok (.i2l, 1) := by decide +kernel
theorem dX12_areHours_2 : decode cX12_areHours 2 = .ok (.lconst 0, 1) := by decide +kernel
theorem dX12_areHours_3 : decode cX12_areHours 3 = .ok (.ldc2_w 223, 3) := by decide +kernel
theorem dX12_areHours_6 : decode cX12_areHours 6 = .ok (.invokestatic 96, 3) := by decide +kernel
theorem dX12_areHours_9 : decode cX12_areHours 9 = .ok (.ireturn, 1) := by decide +kernel
theorem dX12_later_0 : decode cX12_later 0 = .ok (.iload_n 1, 1) := by decide +kernel
theorem dX12_later_1 : decode cX12_later 1 = .ok (.invokestatic 225, 3) := by decide +kernel
theorem dX12_later_4 : decode cX12_later 4 = .ok (.ifCond .eq 21, 3) := by decide +kernel
theorem dX12_later_7 : decode cX12_later 7 = .ok (.iload_n 2, 1) := by decide +kernel
theorem dX12_later_8 : decode cX12_later 8 = .ok (.i2l, 1) := by decide +kernel
theorem dX12_later_9 : decode cX12_later 9 = .ok (.invokestatic 106, 3) := by decide +kernel
theorem dX12_later_12 : decode cX12_later 12 = .ok (.ifCond .eq 13, 3) := by decide +kernel
theorem dX12_later_15 : decode cX12_later 15 = .ok (.iload_n 3, 1) := by decide +kernel
theorem dX12_later_16 : decode cX12_later 16 = .ok (.i2l, 1) := by decide +kernel
theorem dX12_later_17 : decode cX12_later 17 = .ok (.lconst 0, 1) := by decide +kernel
theorem dX12_later_18 : decode cX12_later 18 = .ok (.lconst 1, 1) := by decide +kernel
theorem dX12_later_19 : decode cX12_later 19 = .ok (.invokestatic 96, 3) := by decide +kernel
theorem dX12_later_22 : decode cX12_later 22 = .ok (.ifCond .ne 5, 3) := by decide +kernel
theorem dX12_later_25 : decode cX12_later 25 = .ok (.iconst (-1), 1) := by decide +kernel
theorem dX12_later_26 : decode cX12_later 26 = .ok (.ireturn, 1) := by decide +kernel
theorem dX12_later_27 : decode cX12_later 27 = .ok (.aload_n 0, 1) := by decide +kernel
theorem dX12_later_28 : decode cX12_later 28 = .ok (.invokevirtual 220, 3) := by decide +kernel
theorem dX12_later_31 : decode cX12_later 31 = .ok (.aload_n 0, 1) := by decide +kernel
theorem dX12_later_32 : decode cX12_later 32 = .ok (.iload_n 1, 1) := by decide +kernel
theorem dX12_later_33 : decode cX12_later 33 = .ok (.invokevirtual 228, 3) := by decide +kernel
theorem dX12_later_36 : decode cX12_later 36 = .ok (.iload_n 3, 1) := by decide +kernel
theorem dX12_later_37 : decode cX12_later 37 = .ok (.ifCond .ne 12, 3) := by decide +kernel
theorem dX12_later_40 : decode cX12_later 40 = .ok (.aload_n 0, 1) := by decide +kernel
theorem dX12_later_41 : decode cX12_later 41 = .ok (.getfield 34, 3) := by decide +kernel
theorem dX12_later_44 : decode cX12_later 44 = .ok (.iload_n 2, 1) := by decide +kernel
theorem dX12_later_45 : decode cX12_later 45 = .ok (.iaload, 1) := by decide +kernel
theorem dX12_later_46 : decode cX12_later 46 = .ok (.goto 9, 3) := by decide +kernel
theorem dX12_later_49 : decode cX12_later 49 = .ok (.aload_n 0, 1) := by decide +kernel
theorem dX12_later_50 : decode cX12_later 50 = .ok (.getfield 31, 3) := by decide +kernel
theorem dX12_later_53 : decode cX12_later 53 = .ok (.iload_n 2, 1) := by decide +kernel
theorem dX12_later_54 : decode cX12_later 54 = .ok (.iaload, 1) := by decide +kernel
theorem dX12_later_55 : decode cX12_later 55 = .ok (.ireturn, 1) := by decide +kernel
theorem dX12_dark_0 : decode cX12_dark 0 = .ok (.iload_n 1, 1) := by decide +kernel
theorem dX12_dark_1 : decode cX12_dark 1 = .ok (.invokestatic 225, 3) := by decide +kernel
theorem dX12_dark_4 : decode cX12_dark 4 = .ok (.ifCond .eq 13, 3) := by decide +kernel
theorem dX12_dark_7 : decode cX12_dark 7 = .ok (.iload_n 2, 1) := by decide +kernel
theorem dX12_dark_8 : decode cX12_dark 8 = .ok (.i2l, 1) := by decide +kernel
theorem dX12_dark_9 : decode cX12_dark 9 = .ok (.lconst 0, 1) := by decide +kernel
theorem dX12_dark_10 : decode cX12_dark 10 = .ok (.lconst 1, 1) := by decide +kernel
theorem dX12_dark_11 : decode cX12_dark 11 = .ok (.invokestatic 96, 3) := by decide +kernel
theorem dX12_dark_14 : decode cX12_dark 14 = .ok (.ifCond .ne 5, 3) := by decide +kernel
theorem dX12_dark_17 : decode cX12_dark 17 = .ok (.iconst (-1), 1) := by decide +kernel
theorem dX12_dark_18 : decode cX12_dark 18 = .ok (.ireturn, 1) := by decide +kernel
theorem dX12_dark_19 : decode cX12_dark 19 = .ok (.aload_n 0, 1) := by decide +kernel
theorem dX12_dark_20 : decode cX12_dark 20 = .ok (.invokevirtual 220, 3) := by decide +kernel
theorem dX12_dark_23 : decode cX12_dark 23 = .ok (.aload_n 0, 1) := by decide +kernel
theorem dX12_dark_24 : decode cX12_dark 24 = .ok (.iload_n 1, 1) := by decide +kernel
theorem dX12_dark_25 : decode cX12_dark 25 = .ok (.invokevirtual 228, 3) := by decide +kernel
theorem dX12_dark_28 : decode cX12_dark 28 = .ok (.iload_n 2, 1) := by decide +kernel
theorem dX12_dark_29 : decode cX12_dark 29 = .ok (.ifCond .ne 10, 3) := by decide +kernel
theorem dX12_dark_32 : decode cX12_dark 32 = .ok (.aload_n 0, 1) := by decide +kernel
theorem dX12_dark_33 : decode cX12_dark 33 = .ok (.invokevirtual 232, 3) := by decide +kernel
theorem dX12_dark_36 : decode cX12_dark 36 = .ok (.goto 7, 3) := by decide +kernel
theorem dX12_dark_39 : decode cX12_dark 39 = .ok (.aload_n 0, 1) := by decide +kernel
theorem dX12_dark_40 : decode cX12_dark 40 = .ok (.invokevirtual 235, 3) := by decide +kernel
theorem dX12_dark_43 : decode cX12_dark 43 = .ok (.ireturn, 1) := by decide +kernel
theorem dX12_map_0 : decode cX12_map 0 = .ok (.iload_n 1, 1) := by decide +kernel
theorem dX12_map_1 : decode cX12_map 1 = .ok (.invokestatic 225, 3) := by decide +kernel
theorem dX12_map_4 : decode cX12_map 4 = .ok (.ifCond .ne 7, 3) := by decide +kernel
theorem dX12_map_7 : decode cX12_map 7 = .ok (.ldc2_w 240, 3) := by decide +kernel
theorem dX12_map_10 : decode cX12_map 10 = .ok (.lreturn, 1) := by decide +kernel
theorem dX12_map_11 : decode cX12_map 11 = .ok (.aload_n 0, 1) := by decide +kernel
theorem dX12_map_12 : decode cX12_map 12 = .ok (.invokevirtual 220, 3) := by decide +kernel
theorem dX12_map_15 : decode cX12_map 15 = .ok (.aload_n 0, 1) := by decide +kernel
theorem dX12_map_16 : decode cX12_map 16 = .ok (.iload_n 1, 1) := by decide +kernel
theorem dX12_map_17 : decode cX12_map 17 = .ok (.invokevirtual 228, 3) := by decide +kernel
theorem dX12_map_20 : decode cX12_map 20 = .ok (.aload_n 0, 1) := by decide +kernel
theorem dX12_map_21 : decode cX12_map 21 = .ok (.invokevirtual 242, 3) := by decide +kernel
theorem dX12_map_24 : decode cX12_map 24 = .ok (.lreturn, 1) := by decide +kernel
theorem dX12_falls_0 : decode cX12_falls 0 = .ok (.iload_n 1, 1) := by decide +kernel
theorem dX12_falls_1 : decode cX12_falls 1 = .ok (.i2l, 1) := by decide +kernel
theorem dX12_falls_2 : decode cX12_falls 2 = .ok (.invokestatic 106, 3) := by decide +kernel
theorem dX12_falls_5 : decode cX12_falls 5 = .ok (.ifCond .ne 5, 3) := by decide +kernel
theorem dX12_falls_8 : decode cX12_falls 8 = .ok (.iconst (-1), 1) := by decide +kernel
theorem dX12_falls_9 : decode cX12_falls 9 = .ok (.ireturn, 1) := by decide +kernel
theorem dX12_falls_10 : decode cX12_falls 10 = .ok (.aload_n 0, 1) := by decide +kernel
theorem dX12_falls_11 : decode cX12_falls 11 = .ok (.invokevirtual 220, 3) := by decide +kernel
theorem dX12_falls_14 : decode cX12_falls 14 = .ok (.iconst 0, 1) := by decide +kernel
theorem dX12_falls_15 : decode cX12_falls 15 = .ok (.istore_n 2, 1) := by decide +kernel
theorem dX12_falls_16 : decode cX12_falls 16 = .ok (.iload_n 2, 1) := by decide +kernel
theorem dX12_falls_17 : decode cX12_falls 17 = .ok (.bipush 48, 2) := by decide +kernel
theorem dX12_falls_19 : decode cX12_falls 19 = .ok (.if_icmp .gt 25, 3) := by decide +kernel
theorem dX12_falls_22 : decode cX12_falls 22 = .ok (.aload_n 0, 1) := by decide +kernel
theorem dX12_falls_23 : decode cX12_falls 23 = .ok (.getfield 34, 3) := by decide +kernel
theorem dX12_falls_26 : decode cX12_falls 26 = .ok (.iload_n 1, 1) := by decide +kernel
theorem dX12_falls_27 : decode cX12_falls 27 = .ok (.iaload, 1) := by decide +kernel
theorem dX12_falls_28 : decode cX12_falls 28 = .ok (.iconst 1, 1) := by decide +kernel
theorem dX12_falls_29 : decode cX12_falls 29 = .ok (.if_icmp .ne 5, 3) := by decide +kernel
theorem dX12_falls_32 : decode cX12_falls 32 = .ok (.iload_n 2, 1) := by decide +kernel
theorem dX12_falls_33 : decode cX12_falls 33 = .ok (.ireturn, 1) := by decide +kernel
theorem dX12_falls_34 : decode cX12_falls 34 = .ok (.aload_n 0, 1) := by decide +kernel
theorem dX12_falls_35 : decode cX12_falls 35 = .ok (.invokevirtual 217, 3) := by decide +kernel
theorem dX12_falls_38 : decode cX12_falls 38 = .ok (.iinc 2 1, 3) := by decide +kernel
theorem dX12_falls_41 : decode cX12_falls 41 = .ok (.goto (-25), 3) := by decide +kernel
theorem dX12_falls_44 : decode cX12_falls 44 = .ok (.bipush (-2), 2) := by decide +kernel
theorem dX12_falls_46 : decode cX12_falls 46 = .ok (.ireturn, 1) := by decide +kernel
theorem dX12_still_0 : decode cX12_still 0 = .ok (.aload_n 0, 1) := by decide +kernel
theorem dX12_still_1 : decode cX12_still 1 = .ok (.invokevirtual 220, 3) := by decide +kernel
theorem dX12_still_4 : decode cX12_still 4 = .ok (.iconst 0, 1) := by decide +kernel
theorem dX12_still_5 : decode cX12_still 5 = .ok (.istore_n 1, 1) := by decide +kernel
theorem dX12_still_6 : decode cX12_still 6 = .ok (.iload_n 1, 1) := by decide +kernel
theorem dX12_still_7 : decode cX12_still 7 = .ok (.bipush 48, 2) := by decide +kernel
theorem dX12_still_9 : decode cX12_still 9 = .ok (.if_icmp .gt 29, 3) := by decide +kernel
theorem dX12_still_12 : decode cX12_still 12 = .ok (.aload_n 0, 1) := by decide +kernel
theorem dX12_still_13 : decode cX12_still 13 = .ok (.invokevirtual 242, 3) := by decide +kernel
theorem dX12_still_16 : decode cX12_still 16 = .ok (.lstore_n 2, 1) := by decide +kernel
theorem dX12_still_17 : decode cX12_still 17 = .ok (.aload_n 0, 1) := by decide +kernel
theorem dX12_still_18 : decode cX12_still 18 = .ok (.invokevirtual 217, 3) := by decide +kernel
theorem dX12_still_21 : decode cX12_still 21 = .ok (.aload_n 0, 1) := by decide +kernel
theorem dX12_still_22 : decode cX12_still 22 = .ok (.invokevirtual 242, 3) := by decide +kernel
theorem dX12_still_25 : decode cX12_still 25 = .ok (.lload_n 2, 1) := by decide +kernel
theorem dX12_still_26 : decode cX12_still 26 = .ok (.lcmp, 1) := by decide +kernel
theorem dX12_still_27 : decode cX12_still 27 = .ok (.ifCond .ne 5, 3) := by decide +kernel
theorem dX12_still_30 : decode cX12_still 30 = .ok (.iload_n 1, 1) := by decide +kernel
theorem dX12_still_31 : decode cX12_still 31 = .ok (.ireturn, 1) := by decide +kernel
theorem dX12_still_32 : decode cX12_still 32 = .ok (.iinc 1 1, 3) := by decide +kernel
theorem dX12_still_35 : decode cX12_still 35 = .ok (.goto (-29), 3) := by decide +kernel
theorem dX12_still_38 : decode cX12_still 38 = .ok (.bipush (-2), 2) := by decide +kernel
theorem dX12_still_40 : decode cX12_still 40 = .ok (.ireturn, 1) := by decide +kernel
theorem dX12_holdsWith_0 : decode cX12_holdsWith 0 = .ok (.aload_n 0, 1) := by decide +kernel
theorem dX12_holdsWith_1 : decode cX12_holdsWith 1 = .ok (.invokevirtual 220, 3) := by decide +kernel
theorem dX12_holdsWith_4 : decode cX12_holdsWith 4 = .ok (.aload_n 0, 1) := by decide +kernel
theorem dX12_holdsWith_5 : decode cX12_holdsWith 5 = .ok (.getfield 31, 3) := by decide +kernel
theorem dX12_holdsWith_8 : decode cX12_holdsWith 8 = .ok (.iload_n 1, 1) := by decide +kernel
theorem dX12_holdsWith_9 : decode cX12_holdsWith 9 = .ok (.iload_n 2, 1) := by decide +kernel
theorem dX12_holdsWith_10 : decode cX12_holdsWith 10 = .ok (.iastore, 1) := by decide +kernel
theorem dX12_holdsWith_11 : decode cX12_holdsWith 11 = .ok (.aload_n 0, 1) := by decide +kernel
theorem dX12_holdsWith_12 : decode cX12_holdsWith 12 = .ok (.getfield 34, 3) := by decide +kernel
theorem dX12_holdsWith_15 : decode cX12_holdsWith 15 = .ok (.iload_n 1, 1) := by decide +kernel
theorem dX12_holdsWith_16 : decode cX12_holdsWith 16 = .ok (.iaload, 1) := by decide +kernel
theorem dX12_holdsWith_17 : decode cX12_holdsWith 17 = .ok (.ifCond .ne 7, 3) := by decide +kernel
theorem dX12_holdsWith_20 : decode cX12_holdsWith 20 = .ok (.iconst 1, 1) := by decide +kernel
theorem dX12_holdsWith_21 : decode cX12_holdsWith 21 = .ok (.goto 4, 3) := by decide +kernel
theorem dX12_holdsWith_24 : decode cX12_holdsWith 24 = .ok (.iconst 0, 1) := by decide +kernel
theorem dX12_holdsWith_25 : decode cX12_holdsWith 25 = .ok (.istore 4, 2) := by decide +kernel
theorem dX12_holdsWith_27 : decode cX12_holdsWith 27 = .ok (.iconst 0, 1) := by decide +kernel
theorem dX12_holdsWith_28 : decode cX12_holdsWith 28 = .ok (.istore 5, 2) := by decide +kernel
theorem dX12_holdsWith_30 : decode cX12_holdsWith 30 = .ok (.iload 5, 2) := by decide +kernel
theorem dX12_holdsWith_32 : decode cX12_holdsWith 32 = .ok (.iload_n 3, 1) := by decide +kernel
theorem dX12_holdsWith_33 : decode cX12_holdsWith 33 = .ok (.if_icmp .ge 34, 3) := by decide +kernel
theorem dX12_holdsWith_36 : decode cX12_holdsWith 36 = .ok (.iload 4, 2) := by decide +kernel
theorem dX12_holdsWith_38 : decode cX12_holdsWith 38 = .ok (.ifCond .eq 29, 3) := by decide +kernel
theorem dX12_holdsWith_41 : decode cX12_holdsWith 41 = .ok (.aload_n 0, 1) := by decide +kernel
theorem dX12_holdsWith_42 : decode cX12_holdsWith 42 = .ok (.invokevirtual 217, 3) := by decide +kernel
theorem dX12_holdsWith_45 : decode cX12_holdsWith 45 = .ok (.aload_n 0, 1) := by decide +kernel
theorem dX12_holdsWith_46 : decode cX12_holdsWith 46 = .ok (.getfield 34, 3) := by decide +kernel
theorem dX12_holdsWith_49 : decode cX12_holdsWith 49 = .ok (.iload_n 1, 1) := by decide +kernel
theorem dX12_holdsWith_50 : decode cX12_holdsWith 50 = .ok (.iaload, 1) := by decide +kernel
theorem dX12_holdsWith_51 : decode cX12_holdsWith 51 = .ok (.ifCond .ne 7, 3) := by decide +kernel
theorem dX12_holdsWith_54 : decode cX12_holdsWith 54 = .ok (.iconst 1, 1) := by decide +kernel
theorem dX12_holdsWith_55 : decode cX12_holdsWith 55 = .ok (.goto 4, 3) := by decide +kernel
theorem dX12_holdsWith_58 : decode cX12_holdsWith 58 = .ok (.iconst 0, 1) := by decide +kernel
theorem dX12_holdsWith_59 : decode cX12_holdsWith 59 = .ok (.istore 4, 2) := by decide +kernel
theorem dX12_holdsWith_61 : decode cX12_holdsWith 61 = .ok (.iinc 5 1, 3) := by decide +kernel
theorem dX12_holdsWith_64 : decode cX12_holdsWith 64 = .ok (.goto (-34), 3) := by decide +kernel
theorem dX12_holdsWith_67 : decode cX12_holdsWith 67 = .ok (.iload 4, 2) := by decide +kernel
theorem dX12_holdsWith_69 : decode cX12_holdsWith 69 = .ok (.ireturn, 1) := by decide +kernel
theorem dX12_enough_0 : decode cX12_enough 0 = .ok (.iload_n 1, 1) := by decide +kernel
theorem dX12_enough_1 : decode cX12_enough 1 = .ok (.i2l, 1) := by decide +kernel
theorem dX12_enough_2 : decode cX12_enough 2 = .ok (.invokestatic 106, 3) := by decide +kernel
theorem dX12_enough_5 : decode cX12_enough 5 = .ok (.ifCond .eq 15, 3) := by decide +kernel
theorem dX12_enough_8 : decode cX12_enough 8 = .ok (.iload_n 2, 1) := by decide +kernel
theorem dX12_enough_9 : decode cX12_enough 9 = .ok (.i2l, 1) := by decide +kernel
theorem dX12_enough_10 : decode cX12_enough 10 = .ok (.lconst 0, 1) := by decide +kernel
theorem dX12_enough_11 : decode cX12_enough 11 = .ok (.ldc2_w 246, 3) := by decide +kernel
theorem dX12_enough_14 : decode cX12_enough 14 = .ok (.invokestatic 96, 3) := by decide +kernel
theorem dX12_enough_17 : decode cX12_enough 17 = .ok (.ifCond .ne 5, 3) := by decide +kernel
theorem dX12_enough_20 : decode cX12_enough 20 = .ok (.iconst (-1), 1) := by decide +kernel
theorem dX12_enough_21 : decode cX12_enough 21 = .ok (.ireturn, 1) := by decide +kernel
theorem dX12_enough_22 : decode cX12_enough 22 = .ok (.iconst 0, 1) := by decide +kernel
theorem dX12_enough_23 : decode cX12_enough 23 = .ok (.istore_n 3, 1) := by decide +kernel
theorem dX12_enough_24 : decode cX12_enough 24 = .ok (.iload_n 3, 1) := by decide +kernel
theorem dX12_enough_25 : decode cX12_enough 25 = .ok (.bipush 99, 2) := by decide +kernel
theorem dX12_enough_27 : decode cX12_enough 27 = .ok (.if_icmp .gt 21, 3) := by decide +kernel
theorem dX12_enough_30 : decode cX12_enough 30 = .ok (.aload_n 0, 1) := by decide +kernel
theorem dX12_enough_31 : decode cX12_enough 31 = .ok (.iload_n 1, 1) := by decide +kernel
theorem dX12_enough_32 : decode cX12_enough 32 = .ok (.iload_n 3, 1) := by decide +kernel
theorem dX12_enough_33 : decode cX12_enough 33 = .ok (.iload_n 2, 1) := by decide +kernel
theorem dX12_enough_34 : decode cX12_enough 34 = .ok (.invokevirtual 248, 3) := by decide +kernel
theorem dX12_enough_37 : decode cX12_enough 37 = .ok (.ifCond .eq 5, 3) := by decide +kernel
theorem dX12_enough_40 : decode cX12_enough 40 = .ok (.iload_n 3, 1) := by decide +kernel
theorem dX12_enough_41 : decode cX12_enough 41 = .ok (.ireturn, 1) := by decide +kernel
theorem dX12_enough_42 : decode cX12_enough 42 = .ok (.iinc 3 1, 3) := by decide +kernel
theorem dX12_enough_45 : decode cX12_enough 45 = .ok (.goto (-21), 3) := by decide +kernel
theorem dX12_enough_48 : decode cX12_enough 48 = .ok (.bipush (-2), 2) := by decide +kernel
theorem dX12_enough_50 : decode cX12_enough 50 = .ok (.ireturn, 1) := by decide +kernel
theorem dX12_least_0 : decode cX12_least 0 = .ok (.iload_n 0, 1) := by decide +kernel
theorem dX12_least_1 : decode cX12_least 1 = .ok (.iload_n 1, 1) := by decide +kernel
theorem dX12_least_2 : decode cX12_least 2 = .ok (.if_icmp .ge 7, 3) := by decide +kernel
theorem dX12_least_5 : decode cX12_least 5 = .ok (.iload_n 0, 1) := by decide +kernel
theorem dX12_least_6 : decode cX12_least 6 = .ok (.goto 4, 3) := by decide +kernel
theorem dX12_least_9 : decode cX12_least 9 = .ok (.iload_n 1, 1) := by decide +kernel
theorem dX12_least_10 : decode cX12_least 10 = .ok (.ireturn, 1) := by decide +kernel
theorem dX12_stubs_0 : decode cX12_stubs 0 = .ok (.iload_n 1, 1) := by decide +kernel
theorem dX12_stubs_1 : decode cX12_stubs 1 = .ok (.i2l, 1) := by decide +kernel
theorem dX12_stubs_2 : decode cX12_stubs 2 = .ok (.lconst 0, 1) := by decide +kernel
theorem dX12_stubs_3 : decode cX12_stubs 3 = .ok (.ldc2_w 252, 3) := by decide +kernel
theorem dX12_stubs_6 : decode cX12_stubs 6 = .ok (.invokestatic 96, 3) := by decide +kernel
theorem dX12_stubs_9 : decode cX12_stubs 9 = .ok (.ifCond .eq 27, 3) := by decide +kernel
theorem dX12_stubs_12 : decode cX12_stubs 12 = .ok (.iload_n 2, 1) := by decide +kernel
theorem dX12_stubs_13 : decode cX12_stubs 13 = .ok (.i2l, 1) := by decide +kernel
theorem dX12_stubs_14 : decode cX12_stubs 14 = .ok (.lconst 0, 1) := by decide +kernel
theorem dX12_stubs_15 : decode cX12_stubs 15 = .ok (.ldc2_w 254, 3) := by decide +kernel
theorem dX12_stubs_18 : decode cX12_stubs 18 = .ok (.invokestatic 96, 3) := by decide +kernel
theorem dX12_stubs_21 : decode cX12_stubs 21 = .ok (.ifCond .eq 15, 3) := by decide +kernel
theorem dX12_stubs_24 : decode cX12_stubs 24 = .ok (.iload_n 3, 1) := by decide +kernel
theorem dX12_stubs_25 : decode cX12_stubs 25 = .ok (.i2l, 1) := by decide +kernel
theorem dX12_stubs_26 : decode cX12_stubs 26 = .ok (.lconst 0, 1) := by decide +kernel
theorem dX12_stubs_27 : decode cX12_stubs 27 = .ok (.ldc2_w 252, 3) := by decide +kernel
theorem dX12_stubs_30 : decode cX12_stubs 30 = .ok (.invokestatic 96, 3) := by decide +kernel
theorem dX12_stubs_33 : decode cX12_stubs 33 = .ok (.ifCond .ne 5, 3) := by decide +kernel
theorem dX12_stubs_36 : decode cX12_stubs 36 = .ok (.iconst (-1), 1) := by decide +kernel
theorem dX12_stubs_37 : decode cX12_stubs 37 = .ok (.ireturn, 1) := by decide +kernel
theorem dX12_stubs_38 : decode cX12_stubs 38 = .ok (.bipush (-2), 2) := by decide +kernel
theorem dX12_stubs_40 : decode cX12_stubs 40 = .ok (.istore 4, 2) := by decide +kernel
theorem dX12_stubs_42 : decode cX12_stubs 42 = .ok (.ldc_w 256, 3) := by decide +kernel
theorem dX12_stubs_45 : decode cX12_stubs 45 = .ok (.istore 5, 2) := by decide +kernel
theorem dX12_stubs_47 : decode cX12_stubs 47 = .ok (.ldc_w 256, 3) := by decide +kernel
theorem dX12_stubs_50 : decode cX12_stubs 50 = .ok (.istore 6, 2) := by decide +kernel
theorem dX12_stubs_52 : decode cX12_stubs 52 = .ok (.iload_n 1, 1) := by decide +kernel
theorem dX12_stubs_53 : decode cX12_stubs 53 = .ok (.iconst 2, 1) := by decide +kernel
theorem dX12_stubs_54 : decode cX12_stubs 54 = .ok (.if_icmp .ne 7, 3) := by decide +kernel
theorem dX12_stubs_57 : decode cX12_stubs 57 = .ok (.iconst 0, 1) := by decide +kernel
theorem dX12_stubs_58 : decode cX12_stubs 58 = .ok (.goto 5, 3) := by decide +kernel
theorem dX12_stubs_61 : decode cX12_stubs 61 = .ok (.bipush 36, 2) := by decide +kernel
theorem dX12_stubs_63 : decode cX12_stubs 63 = .ok (.istore 7, 2) := by decide +kernel
theorem dX12_stubs_65 : decode cX12_stubs 65 = .ok (.iload 7, 2) := by decide +kernel
theorem dX12_stubs_67 : decode cX12_stubs 67 = .ok (.iload_n 1, 1) := by decide +kernel
theorem dX12_stubs_68 : decode cX12_stubs 68 = .ok (.iconst 2, 1) := by decide +kernel
theorem dX12_stubs_69 : decode cX12_stubs 69 = .ok (.if_icmp .ne 8, 3) := by decide +kernel
theorem dX12_stubs_72 : decode cX12_stubs 72 = .ok (.bipush 36, 2) := by decide +kernel
theorem dX12_stubs_74 : decode cX12_stubs 74 = .ok (.goto 5, 3) := by decide +kernel
theorem dX12_stubs_77 : decode cX12_stubs 77 = .ok (.bipush 37, 2) := by decide +kernel
theorem dX12_stubs_79 : decode cX12_stubs 79 = .ok (.if_icmp .ge 230, 3) := by decide +kernel
theorem dX12_stubs_82 : decode cX12_stubs 82 = .ok (.iload_n 1, 1) := by decide +kernel
theorem dX12_stubs_83 : decode cX12_stubs 83 = .ok (.ifCond .ne 8, 3) := by decide +kernel
theorem dX12_stubs_86 : decode cX12_stubs 86 = .ok (.bipush 36, 2) := by decide +kernel
theorem dX12_stubs_88 : decode cX12_stubs 88 = .ok (.goto 16, 3) := by decide +kernel
theorem dX12_stubs_91 : decode cX12_stubs 91 = .ok (.iload_n 1, 1) := by decide +kernel
theorem dX12_stubs_92 : decode cX12_stubs 92 = .ok (.iconst 2, 1) := by decide +kernel
theorem dX12_stubs_93 : decode cX12_stubs 93 = .ok (.if_icmp .ne 10, 3) := by decide +kernel
theorem dX12_stubs_96 : decode cX12_stubs 96 = .ok (.iload 7, 2) := by decide +kernel
theorem dX12_stubs_98 : decode cX12_stubs 98 = .ok (.iconst 1, 1) := by decide +kernel
theorem dX12_stubs_99 : decode cX12_stubs 99 = .ok (.iadd, 1) := by decide +kernel
theorem dX12_stubs_100 : decode cX12_stubs 100 = .ok (.goto 4, 3) := by decide +kernel
theorem dX12_stubs_103 : decode cX12_stubs 103 = .ok (.iconst 0, 1) := by decide +kernel
theorem dX12_stubs_104 : decode cX12_stubs 104 = .ok (.istore 8, 2) := by decide +kernel
theorem dX12_stubs_106 : decode cX12_stubs 106 = .ok (.iload 8, 2) := by decide +kernel
theorem dX12_stubs_108 : decode cX12_stubs 108 = .ok (.iload_n 1, 1) := by decide +kernel
theorem dX12_stubs_109 : decode cX12_stubs 109 = .ok (.ifCond .ne 8, 3) := by decide +kernel
theorem dX12_stubs_112 : decode cX12_stubs 112 = .ok (.bipush 37, 2) := by decide +kernel
theorem dX12_stubs_114 : decode cX12_stubs 114 = .ok (.goto 5, 3) := by decide +kernel
theorem dX12_stubs_117 : decode cX12_stubs 117 = .ok (.bipush 36, 2) := by decide +kernel
theorem dX12_stubs_119 : decode cX12_stubs 119 = .ok (.if_icmp .ge 184, 3) := by decide +kernel
theorem dX12_stubs_122 : decode cX12_stubs 122 = .ok (.iload 7, 2) := by decide +kernel
theorem dX12_stubs_124 : decode cX12_stubs 124 = .ok (.bipush 36, 2) := by decide +kernel
theorem dX12_stubs_126 : decode cX12_stubs 126 = .ok (.if_icmp .eq 16, 3) := by decide +kernel
theorem dX12_stubs_129 : decode cX12_stubs 129 = .ok (.aload_n 0, 1) := by decide +kernel
theorem dX12_stubs_130 : decode cX12_stubs 130 = .ok (.getfield 9, 3) := by decide +kernel
theorem dX12_stubs_133 : decode cX12_stubs 133 = .ok (.bipush 108, 2) := by decide +kernel
theorem dX12_stubs_135 : decode cX12_stubs 135 = .ok (.iload 7, 2) := by decide +kernel
theorem dX12_stubs_137 : decode cX12_stubs 137 = .ok (.iadd, 1) := by decide +kernel
theorem dX12_stubs_138 : decode cX12_stubs 138 = .ok (.iaload, 1) := by decide +kernel
theorem dX12_stubs_139 : decode cX12_stubs 139 = .ok (.ifCond .ne 158, 3) := by decide +kernel
theorem dX12_stubs_142 : decode cX12_stubs 142 = .ok (.iload 8, 2) := by decide +kernel
theorem dX12_stubs_144 : decode cX12_stubs 144 = .ok (.bipush 36, 2) := by decide +kernel
theorem dX12_stubs_146 : decode cX12_stubs 146 = .ok (.if_icmp .eq 16, 3) := by decide +kernel
theorem dX12_stubs_149 : decode cX12_stubs 149 = .ok (.aload_n 0, 1) := by decide +kernel
theorem dX12_stubs_150 : decode cX12_stubs 150 = .ok (.getfield 9, 3) := by decide +kernel
theorem dX12_stubs_153 : decode cX12_stubs 153 = .ok (.bipush 108, 2) := by decide +kernel
theorem dX12_stubs_155 : decode cX12_stubs 155 = .ok (.iload 8, 2) := by decide +kernel
theorem dX12_stubs_157 : decode cX12_stubs 157 = .ok (.iadd, 1) := by decide +kernel
theorem dX12_stubs_158 : decode cX12_stubs 158 = .ok (.iaload, 1) := by decide +kernel
theorem dX12_stubs_159 : decode cX12_stubs 159 = .ok (.ifCond .ne 138, 3) := by decide +kernel
theorem dX12_stubs_162 : decode cX12_stubs 162 = .ok (.aload_n 0, 1) := by decide +kernel
theorem dX12_stubs_163 : decode cX12_stubs 163 = .ok (.invokevirtual 220, 3) := by decide +kernel
theorem dX12_stubs_166 : decode cX12_stubs 166 = .ok (.iload 7, 2) := by decide +kernel
theorem dX12_stubs_168 : decode cX12_stubs 168 = .ok (.bipush 36, 2) := by decide +kernel
theorem dX12_stubs_170 : decode cX12_stubs 170 = .ok (.if_icmp .ge 25, 3) := by decide +kernel
theorem dX12_stubs_173 : decode cX12_stubs 173 = .ok (.aload_n 0, 1) := by decide +kernel
theorem dX12_stubs_174 : decode cX12_stubs 174 = .ok (.getfield 31, 3) := by decide +kernel
theorem dX12_stubs_177 : decode cX12_stubs 177 = .ok (.iload 7, 2) := by decide +kernel
theorem dX12_stubs_179 : decode cX12_stubs 179 = .ok (.bipush 99, 2) := by decide +kernel
theorem dX12_stubs_181 : decode cX12_stubs 181 = .ok (.aload_n 0, 1) := by decide +kernel
theorem dX12_stubs_182 : decode cX12_stubs 182 = .ok (.getfield 31, 3) := by decide +kernel
theorem dX12_stubs_185 : decode cX12_stubs 185 = .ok (.iload 7, 2) := by decide +kernel
theorem dX12_stubs_187 : decode cX12_stubs 187 = .ok (.iaload, 1) := by decide +kernel
theorem dX12_stubs_188 : decode cX12_stubs 188 = .ok (.bipush 12, 2) := by decide +kernel
theorem dX12_stubs_190 : decode cX12_stubs 190 = .ok (.iadd, 1) := by decide +kernel
theorem dX12_stubs_191 : decode cX12_stubs 191 = .ok (.invokestatic 257, 3) := by decide +kernel
theorem dX12_stubs_194 : decode cX12_stubs 194 = .ok (.iastore, 1) := by decide +kernel
theorem dX12_stubs_195 : decode cX12_stubs 195 = .ok (.iload 8, 2) := by decide +kernel
theorem dX12_stubs_197 : decode cX12_stubs 197 = .ok (.bipush 36, 2) := by decide +kernel
theorem dX12_stubs_199 : decode cX12_stubs 199 = .ok (.if_icmp .ge 25, 3) := by decide +kernel
theorem dX12_stubs_202 : decode cX12_stubs 202 = .ok (.aload_n 0, 1) := by decide +kernel
theorem dX12_stubs_203 : decode cX12_stubs 203 = .ok (.getfield 31, 3) := by decide +kernel
theorem dX12_stubs_206 : decode cX12_stubs 206 = .ok (.iload 8, 2) := by decide +kernel
theorem dX12_stubs_208 : decode cX12_stubs 208 = .ok (.bipush 99, 2) := by decide +kernel
theorem dX12_stubs_210 : decode cX12_stubs 210 = .ok (.aload_n 0, 1) := by decide +kernel
theorem dX12_stubs_211 : decode cX12_stubs 211 = .ok (.getfield 31, 3) := by decide +kernel
theorem dX12_stubs_214 : decode cX12_stubs 214 = .ok (.iload 8, 2) := by decide +kernel
theorem dX12_stubs_216 : decode cX12_stubs 216 = .ok (.iaload, 1) := by decide +kernel
theorem dX12_stubs_217 : decode cX12_stubs 217 = .ok (.bipush 12, 2) := by decide +kernel
theorem dX12_stubs_219 : decode cX12_stubs 219 = .ok (.iadd, 1) := by decide +kernel
theorem dX12_stubs_220 : decode cX12_stubs 220 = .ok (.invokestatic 257, 3) := by decide +kernel
theorem dX12_stubs_223 : decode cX12_stubs 223 = .ok (.iastore, 1) := by decide +kernel
theorem dX12_stubs_224 : decode cX12_stubs 224 = .ok (.aload_n 0, 1) := by decide +kernel
theorem dX12_stubs_225 : decode cX12_stubs 225 = .ok (.iload_n 2, 1) := by decide +kernel
theorem dX12_stubs_226 : decode cX12_stubs 226 = .ok (.invokevirtual 228, 3) := by decide +kernel
theorem dX12_stubs_229 : decode cX12_stubs 229 = .ok (.aload_n 0, 1) := by decide +kernel
theorem dX12_stubs_230 : decode cX12_stubs 230 = .ok (.invokevirtual 235, 3) := by decide +kernel
theorem dX12_stubs_233 : decode cX12_stubs 233 = .ok (.iload 5, 2) := by decide +kernel
theorem dX12_stubs_235 : decode cX12_stubs 235 = .ok (.if_icmp .lt 21, 3) := by decide +kernel
theorem dX12_stubs_238 : decode cX12_stubs 238 = .ok (.aload_n 0, 1) := by decide +kernel
theorem dX12_stubs_239 : decode cX12_stubs 239 = .ok (.invokevirtual 235, 3) := by decide +kernel
theorem dX12_stubs_242 : decode cX12_stubs 242 = .ok (.iload 5, 2) := by decide +kernel
theorem dX12_stubs_244 : decode cX12_stubs 244 = .ok (.if_icmp .ne 53, 3) := by decide +kernel
theorem dX12_stubs_247 : decode cX12_stubs 247 = .ok (.aload_n 0, 1) := by decide +kernel
theorem dX12_stubs_248 : decode cX12_stubs 248 = .ok (.invokevirtual 232, 3) := by decide +kernel
theorem dX12_stubs_251 : decode cX12_stubs 251 = .ok (.iload 6, 2) := by decide +kernel
theorem dX12_stubs_253 : decode cX12_stubs 253 = .ok (.if_icmp .ge 44, 3) := by decide +kernel
theorem dX12_stubs_256 : decode cX12_stubs 256 = .ok (.aload_n 0, 1) := by decide +kernel
theorem dX12_stubs_257 : decode cX12_stubs 257 = .ok (.invokevirtual 235, 3) := by decide +kernel
theorem dX12_stubs_260 : decode cX12_stubs 260 = .ok (.istore 5, 2) := by decide +kernel
theorem dX12_stubs_262 : decode cX12_stubs 262 = .ok (.aload_n 0, 1) := by decide +kernel
theorem dX12_stubs_263 : decode cX12_stubs 263 = .ok (.invokevirtual 232, 3) := by decide +kernel
theorem dX12_stubs_266 : decode cX12_stubs 266 = .ok (.istore 6, 2) := by decide +kernel
theorem dX12_stubs_268 : decode cX12_stubs 268 = .ok (.iload_n 1, 1) := by decide +kernel
theorem dX12_stubs_269 : decode cX12_stubs 269 = .ok (.ifCond .ne 8, 3) := by decide +kernel
theorem dX12_stubs_272 : decode cX12_stubs 272 = .ok (.bipush (-9), 2) := by decide +kernel
theorem dX12_stubs_274 : decode cX12_stubs 274 = .ok (.goto 21, 3) := by decide +kernel
theorem dX12_stubs_277 : decode cX12_stubs 277 = .ok (.iload_n 1, 1) := by decide +kernel
theorem dX12_stubs_278 : decode cX12_stubs 278 = .ok (.iconst 1, 1) := by decide +kernel
theorem dX12_stubs_279 : decode cX12_stubs 279 = .ok (.if_icmp .ne 8, 3) := by decide +kernel
theorem dX12_stubs_282 : decode cX12_stubs 282 = .ok (.iload 8, 2) := by decide +kernel
theorem dX12_stubs_284 : decode cX12_stubs 284 = .ok (.goto 11, 3) := by decide +kernel
theorem dX12_stubs_287 : decode cX12_stubs 287 = .ok (.bipush 36, 2) := by decide +kernel
theorem dX12_stubs_289 : decode cX12_stubs 289 = .ok (.iload 7, 2) := by decide +kernel
theorem dX12_stubs_291 : decode cX12_stubs 291 = .ok (.imul, 1) := by decide +kernel
theorem dX12_stubs_292 : decode cX12_stubs 292 = .ok (.iload 8, 2) := by decide +kernel
theorem dX12_stubs_294 : decode cX12_stubs 294 = .ok (.iadd, 1) := by decide +kernel
theorem dX12_stubs_295 : decode cX12_stubs 295 = .ok (.istore 4, 2) := by decide +kernel
theorem dX12_stubs_297 : decode cX12_stubs 297 = .ok (.iinc 8 1, 3) := by decide +kernel
theorem dX12_stubs_300 : decode cX12_stubs 300 = .ok (.goto (-194), 3) := by decide +kernel
theorem dX12_stubs_303 : decode cX12_stubs 303 = .ok (.iinc 7 1, 3) := by decide +kernel
theorem dX12_stubs_306 : decode cX12_stubs 306 = .ok (.goto (-241), 3) := by decide +kernel
theorem dX12_stubs_309 : decode cX12_stubs 309 = .ok (.iload 5, 2) := by decide +kernel
theorem dX12_stubs_311 : decode cX12_stubs 311 = .ok (.ldc_w 256, 3) := by decide +kernel
theorem dX12_stubs_314 : decode cX12_stubs 314 = .ok (.if_icmp .ne 8, 3) := by decide +kernel
theorem dX12_stubs_317 : decode cX12_stubs 317 = .ok (.bipush (-2), 2) := by decide +kernel
theorem dX12_stubs_319 : decode cX12_stubs 319 = .ok (.goto 24, 3) := by decide +kernel
theorem dX12_stubs_322 : decode cX12_stubs 322 = .ok (.iload_n 3, 1) := by decide +kernel
theorem dX12_stubs_323 : decode cX12_stubs 323 = .ok (.ifCond .ne 8, 3) := by decide +kernel
theorem dX12_stubs_326 : decode cX12_stubs 326 = .ok (.iload 5, 2) := by decide +kernel
theorem dX12_stubs_328 : decode cX12_stubs 328 = .ok (.goto 15, 3) := by decide +kernel
theorem dX12_stubs_331 : decode cX12_stubs 331 = .ok (.iload_n 3, 1) := by decide +kernel
theorem dX12_stubs_332 : decode cX12_stubs 332 = .ok (.iconst 1, 1) := by decide +kernel
theorem dX12_stubs_333 : decode cX12_stubs 333 = .ok (.if_icmp .ne 8, 3) := by decide +kernel
theorem dX12_stubs_336 : decode cX12_stubs 336 = .ok (.iload 6, 2) := by decide +kernel
theorem dX12_stubs_338 : decode cX12_stubs 338 = .ok (.goto 5, 3) := by decide +kernel
theorem dX12_stubs_341 : decode cX12_stubs 341 = .ok (.iload 4, 2) := by decide +kernel
theorem dX12_stubs_343 : decode cX12_stubs 343 = .ok (.ireturn, 1) := by decide +kernel
theorem dX12_isOpen_0 : decode cX12_isOpen 0 = .ok (.aload_n 0, 1) := by decide +kernel
theorem dX12_isOpen_1 : decode cX12_isOpen 1 = .ok (.getfield 34, 3) := by decide +kernel
theorem dX12_isOpen_4 : decode cX12_isOpen 4 = .ok (.iload_n 1, 1) := by decide +kernel
theorem dX12_isOpen_5 : decode cX12_isOpen 5 = .ok (.iaload, 1) := by decide +kernel
theorem dX12_isOpen_6 : decode cX12_isOpen 6 = .ok (.ifCond .ne 24, 3) := by decide +kernel
theorem dX12_isOpen_9 : decode cX12_isOpen 9 = .ok (.aload_n 0, 1) := by decide +kernel
theorem dX12_isOpen_10 : decode cX12_isOpen 10 = .ok (.iload_n 1, 1) := by decide +kernel
theorem dX12_isOpen_11 : decode cX12_isOpen 11 = .ok (.invokevirtual 196, 3) := by decide +kernel
theorem dX12_isOpen_14 : decode cX12_isOpen 14 = .ok (.ifCond .ne 16, 3) := by decide +kernel
theorem dX12_isOpen_17 : decode cX12_isOpen 17 = .ok (.aload_n 0, 1) := by decide +kernel
theorem dX12_isOpen_18 : decode cX12_isOpen 18 = .ok (.getfield 43, 3) := by decide +kernel
theorem dX12_isOpen_21 : decode cX12_isOpen 21 = .ok (.iload_n 1, 1) := by decide +kernel
theorem dX12_isOpen_22 : decode cX12_isOpen 22 = .ok (.baload, 1) := by decide +kernel
theorem dX12_isOpen_23 : decode cX12_isOpen 23 = .ok (.ifCond .ne 7, 3) := by decide +kernel
theorem dX12_isOpen_26 : decode cX12_isOpen 26 = .ok (.iconst 1, 1) := by decide +kernel
theorem dX12_isOpen_27 : decode cX12_isOpen 27 = .ok (.goto 4, 3) := by decide +kernel
theorem dX12_isOpen_30 : decode cX12_isOpen 30 = .ok (.iconst 0, 1) := by decide +kernel
theorem dX12_isOpen_31 : decode cX12_isOpen 31 = .ok (.ireturn, 1) := by decide +kernel
theorem dX12_isAtDark_0 : decode cX12_isAtDark 0 = .ok (.aload_n 0, 1) := by decide +kernel
theorem dX12_isAtDark_1 : decode cX12_isAtDark 1 = .ok (.iload_n 1, 1) := by decide +kernel
theorem dX12_isAtDark_2 : decode cX12_isAtDark 2 = .ok (.invokevirtual 199, 3) := by decide +kernel
theorem dX12_isAtDark_5 : decode cX12_isAtDark 5 = .ok (.ifCond .le 7, 3) := by decide +kernel
theorem dX12_isAtDark_8 : decode cX12_isAtDark 8 = .ok (.iconst 1, 1) := by decide +kernel
theorem dX12_isAtDark_9 : decode cX12_isAtDark 9 = .ok (.goto 4, 3) := by decide +kernel
theorem dX12_isAtDark_12 : decode cX12_isAtDark 12 = .ok (.iconst 0, 1) := by decide +kernel
theorem dX12_isAtDark_13 : decode cX12_isAtDark 13 = .ok (.ireturn, 1) := by decide +kernel
theorem dX12_stepsIn_0 : decode cX12_stepsIn 0 = .ok (.iconst 0, 1) := by decide +kernel
theorem dX12_stepsIn_1 : decode cX12_stepsIn 1 = .ok (.istore_n 2, 1) := by decide +kernel
theorem dX12_stepsIn_2 : decode cX12_stepsIn 2 = .ok (.iload_n 2, 1) := by decide +kernel
theorem dX12_stepsIn_3 : decode cX12_stepsIn 3 = .ok (.bipush 36, 2) := by decide +kernel
theorem dX12_stepsIn_5 : decode cX12_stepsIn 5 = .ok (.if_icmp .ge 36, 3) := by decide +kernel
theorem dX12_stepsIn_8 : decode cX12_stepsIn 8 = .ok (.aload_n 0, 1) := by decide +kernel
theorem dX12_stepsIn_9 : decode cX12_stepsIn 9 = .ok (.getfield 40, 3) := by decide +kernel
theorem dX12_stepsIn_12 : decode cX12_stepsIn 12 = .ok (.iload_n 2, 1) := by decide +kernel
theorem dX12_stepsIn_13 : decode cX12_stepsIn 13 = .ok (.aload_n 0, 1) := by decide +kernel
theorem dX12_stepsIn_14 : decode cX12_stepsIn 14 = .ok (.iload_n 2, 1) := by decide +kernel
theorem dX12_stepsIn_15 : decode cX12_stepsIn 15 = .ok (.invokevirtual 260, 3) := by decide +kernel
theorem dX12_stepsIn_18 : decode cX12_stepsIn 18 = .ok (.ifCond .eq 15, 3) := by decide +kernel
theorem dX12_stepsIn_21 : decode cX12_stepsIn 21 = .ok (.aload_n 0, 1) := by decide +kernel
theorem dX12_stepsIn_22 : decode cX12_stepsIn 22 = .ok (.iload_n 2, 1) := by decide +kernel
theorem dX12_stepsIn_23 : decode cX12_stepsIn 23 = .ok (.invokevirtual 263, 3) := by decide +kernel
theorem dX12_stepsIn_26 : decode cX12_stepsIn 26 = .ok (.ifCond .eq 7, 3) := by decide +kernel
theorem dX12_stepsIn_29 : decode cX12_stepsIn 29 = .ok (.iconst 1, 1) := by decide +kernel
theorem dX12_stepsIn_30 : decode cX12_stepsIn 30 = .ok (.goto 4, 3) := by decide +kernel
theorem dX12_stepsIn_33 : decode cX12_stepsIn 33 = .ok (.iconst 0, 1) := by decide +kernel
theorem dX12_stepsIn_34 : decode cX12_stepsIn 34 = .ok (.iastore, 1) := by decide +kernel
theorem dX12_stepsIn_35 : decode cX12_stepsIn 35 = .ok (.iinc 2 1, 3) := by decide +kernel
theorem dX12_stepsIn_38 : decode cX12_stepsIn 38 = .ok (.goto (-36), 3) := by decide +kernel
theorem dX12_stepsIn_41 : decode cX12_stepsIn 41 = .ok (.iconst 1, 1) := by decide +kernel
theorem dX12_stepsIn_42 : decode cX12_stepsIn 42 = .ok (.istore_n 2, 1) := by decide +kernel
theorem dX12_stepsIn_43 : decode cX12_stepsIn 43 = .ok (.iconst 1, 1) := by decide +kernel
theorem dX12_stepsIn_44 : decode cX12_stepsIn 44 = .ok (.istore_n 3, 1) := by decide +kernel
theorem dX12_stepsIn_45 : decode cX12_stepsIn 45 = .ok (.iload_n 2, 1) := by decide +kernel
theorem dX12_stepsIn_46 : decode cX12_stepsIn 46 = .ok (.ifCond .eq 98, 3) := by decide +kernel
theorem dX12_stepsIn_49 : decode cX12_stepsIn 49 = .ok (.iconst 0, 1) := by decide +kernel
theorem dX12_stepsIn_50 : decode cX12_stepsIn 50 = .ok (.istore_n 2, 1) := by decide +kernel
theorem dX12_stepsIn_51 : decode cX12_stepsIn 51 = .ok (.iconst 0, 1) := by decide +kernel
theorem dX12_stepsIn_52 : decode cX12_stepsIn 52 = .ok (.istore 4, 2) := by decide +kernel
theorem dX12_stepsIn_54 : decode cX12_stepsIn 54 = .ok (.iload 4, 2) := by decide +kernel
theorem dX12_stepsIn_56 : decode cX12_stepsIn 56 = .ok (.bipush 36, 2) := by decide +kernel
theorem dX12_stepsIn_58 : decode cX12_stepsIn 58 = .ok (.if_icmp .ge 80, 3) := by decide +kernel
theorem dX12_stepsIn_61 : decode cX12_stepsIn 61 = .ok (.iconst 0, 1) := by decide +kernel
theorem dX12_stepsIn_62 : decode cX12_stepsIn 62 = .ok (.istore 5, 2) := by decide +kernel
theorem dX12_stepsIn_64 : decode cX12_stepsIn 64 = .ok (.iload 5, 2) := by decide +kernel
theorem dX12_stepsIn_66 : decode cX12_stepsIn 66 = .ok (.iconst 4, 1) := by decide +kernel
theorem dX12_stepsIn_67 : decode cX12_stepsIn 67 = .ok (.if_icmp .ge 65, 3) := by decide +kernel
theorem dX12_stepsIn_70 : decode cX12_stepsIn 70 = .ok (.aload_n 0, 1) := by decide +kernel
theorem dX12_stepsIn_71 : decode cX12_stepsIn 71 = .ok (.getfield 40, 3) := by decide +kernel
theorem dX12_stepsIn_74 : decode cX12_stepsIn 74 = .ok (.iload 4, 2) := by decide +kernel
theorem dX12_stepsIn_76 : decode cX12_stepsIn 76 = .ok (.iaload, 1) := by decide +kernel
theorem dX12_stepsIn_77 : decode cX12_stepsIn 77 = .ok (.ifCond .ne 55, 3) := by decide +kernel
theorem dX12_stepsIn_80 : decode cX12_stepsIn 80 = .ok (.aload_n 0, 1) := by decide +kernel
theorem dX12_stepsIn_81 : decode cX12_stepsIn 81 = .ok (.iload 4, 2) := by decide +kernel
theorem dX12_stepsIn_83 : decode cX12_stepsIn 83 = .ok (.invokevirtual 260, 3) := by decide +kernel
theorem dX12_stepsIn_86 : decode cX12_stepsIn 86 = .ok (.ifCond .eq 46, 3) := by decide +kernel
theorem dX12_stepsIn_89 : decode cX12_stepsIn 89 = .ok (.iload 4, 2) := by decide +kernel
theorem dX12_stepsIn_91 : decode cX12_stepsIn 91 = .ok (.iload 5, 2) := by decide +kernel
theorem dX12_stepsIn_93 : decode cX12_stepsIn 93 = .ok (.invokestatic 193, 3) := by decide +kernel
theorem dX12_stepsIn_96 : decode cX12_stepsIn 96 = .ok (.istore 6, 2) := by decide +kernel
theorem dX12_stepsIn_98 : decode cX12_stepsIn 98 = .ok (.iload 6, 2) := by decide +kernel
theorem dX12_stepsIn_100 : decode cX12_stepsIn 100 = .ok (.ifCond .lt 26, 3) := by decide +kernel
theorem dX12_stepsIn_103 : decode cX12_stepsIn 103 = .ok (.aload_n 0, 1) := by decide +kernel
theorem dX12_stepsIn_104 : decode cX12_stepsIn 104 = .ok (.getfield 40, 3) := by decide +kernel
theorem dX12_stepsIn_107 : decode cX12_stepsIn 107 = .ok (.iload 6, 2) := by decide +kernel
theorem dX12_stepsIn_109 : decode cX12_stepsIn 109 = .ok (.iaload, 1) := by decide +kernel
theorem dX12_stepsIn_110 : decode cX12_stepsIn 110 = .ok (.iload_n 3, 1) := by decide +kernel
theorem dX12_stepsIn_111 : decode cX12_stepsIn 111 = .ok (.if_icmp .ne 15, 3) := by decide +kernel
theorem dX12_stepsIn_114 : decode cX12_stepsIn 114 = .ok (.aload_n 0, 1) := by decide +kernel
theorem dX12_stepsIn_115 : decode cX12_stepsIn 115 = .ok (.getfield 40, 3) := by decide +kernel
theorem dX12_stepsIn_118 : decode cX12_stepsIn 118 = .ok (.iload 4, 2) := by decide +kernel
theorem dX12_stepsIn_120 : decode cX12_stepsIn 120 = .ok (.iload_n 3, 1) := by decide +kernel
theorem dX12_stepsIn_121 : decode cX12_stepsIn 121 = .ok (.iconst 1, 1) := by decide +kernel
theorem dX12_stepsIn_122 : decode cX12_stepsIn 122 = .ok (.iadd, 1) := by decide +kernel
theorem dX12_stepsIn_123 : decode cX12_stepsIn 123 = .ok (.iastore, 1) := by decide +kernel
theorem dX12_stepsIn_124 : decode cX12_stepsIn 124 = .ok (.iconst 1, 1) := by decide +kernel
theorem dX12_stepsIn_125 : decode cX12_stepsIn 125 = .ok (.istore_n 2, 1) := by decide +kernel
theorem dX12_stepsIn_126 : decode cX12_stepsIn 126 = .ok (.iinc 5 1, 3) := by decide +kernel
theorem dX12_stepsIn_129 : decode cX12_stepsIn 129 = .ok (.goto (-65), 3) := by decide +kernel
theorem dX12_stepsIn_132 : decode cX12_stepsIn 132 = .ok (.iinc 4 1, 3) := by decide +kernel
theorem dX12_stepsIn_135 : decode cX12_stepsIn 135 = .ok (.goto (-81), 3) := by decide +kernel
theorem dX12_stepsIn_138 : decode cX12_stepsIn 138 = .ok (.iinc 3 1, 3) := by decide +kernel
theorem dX12_stepsIn_141 : decode cX12_stepsIn 141 = .ok (.goto (-96), 3) := by decide +kernel
theorem dX12_stepsIn_144 : decode cX12_stepsIn 144 = .ok (.aload_n 0, 1) := by decide +kernel
theorem dX12_stepsIn_145 : decode cX12_stepsIn 145 = .ok (.getfield 40, 3) := by decide +kernel
theorem dX12_stepsIn_148 : decode cX12_stepsIn 148 = .ok (.iload_n 1, 1) := by decide +kernel
theorem dX12_stepsIn_149 : decode cX12_stepsIn 149 = .ok (.iaload, 1) := by decide +kernel
theorem dX12_stepsIn_150 : decode cX12_stepsIn 150 = .ok (.ireturn, 1) := by decide +kernel
theorem dX12_canCut_0 : decode cX12_canCut 0 = .ok (.aload_n 0, 1) := by decide +kernel
theorem dX12_canCut_1 : decode cX12_canCut 1 = .ok (.iload_n 1, 1) := by decide +kernel
theorem dX12_canCut_2 : decode cX12_canCut 2 = .ok (.invokevirtual 266, 3) := by decide +kernel
theorem dX12_canCut_5 : decode cX12_canCut 5 = .ok (.ifCond .ne 5, 3) := by decide +kernel
theorem dX12_canCut_8 : decode cX12_canCut 8 = .ok (.iconst 1, 1) := by decide +kernel
theorem dX12_canCut_9 : decode cX12_canCut 9 = .ok (.ireturn, 1) := by decide +kernel
theorem dX12_canCut_10 : decode cX12_canCut 10 = .ok (.iload_n 3, 1) := by decide +kernel
theorem dX12_canCut_11 : decode cX12_canCut 11 = .ok (.ifCond .ne 5, 3) := by decide +kernel
theorem dX12_canCut_14 : decode cX12_canCut 14 = .ok (.iconst 0, 1) := by decide +kernel
theorem dX12_canCut_15 : decode cX12_canCut 15 = .ok (.ireturn, 1) := by decide +kernel
theorem dX12_canCut_16 : decode cX12_canCut 16 = .ok (.iload_n 2, 1) := by decide +kernel
theorem dX12_canCut_17 : decode cX12_canCut 17 = .ok (.istore 4, 2) := by decide +kernel
theorem dX12_canCut_19 : decode cX12_canCut 19 = .ok (.iload 4, 2) := by decide +kernel
theorem dX12_canCut_21 : decode cX12_canCut 21 = .ok (.bipush 36, 2) := by decide +kernel
theorem dX12_canCut_23 : decode cX12_canCut 23 = .ok (.if_icmp .ge 61, 3) := by decide +kernel
theorem dX12_canCut_26 : decode cX12_canCut 26 = .ok (.iload 4, 2) := by decide +kernel
theorem dX12_canCut_28 : decode cX12_canCut 28 = .ok (.iload_n 1, 1) := by decide +kernel
theorem dX12_canCut_29 : decode cX12_canCut 29 = .ok (.if_icmp .eq 49, 3) := by decide +kernel
theorem dX12_canCut_32 : decode cX12_canCut 32 = .ok (.aload_n 0, 1) := by decide +kernel
theorem dX12_canCut_33 : decode cX12_canCut 33 = .ok (.iload 4, 2) := by decide +kernel
theorem dX12_canCut_35 : decode cX12_canCut 35 = .ok (.invokevirtual 260, 3) := by decide +kernel
theorem dX12_canCut_38 : decode cX12_canCut 38 = .ok (.ifCond .eq 40, 3) := by decide +kernel
theorem dX12_canCut_41 : decode cX12_canCut 41 = .ok (.aload_n 0, 1) := by decide +kernel
theorem dX12_canCut_42 : decode cX12_canCut 42 = .ok (.getfield 43, 3) := by decide +kernel
theorem dX12_canCut_45 : decode cX12_canCut 45 = .ok (.iload 4, 2) := by decide +kernel
theorem dX12_canCut_47 : decode cX12_canCut 47 = .ok (.iconst 1, 1) := by decide +kernel
theorem dX12_canCut_48 : decode cX12_canCut 48 = .ok (.bastore, 1) := by decide +kernel
theorem dX12_canCut_49 : decode cX12_canCut 49 = .ok (.aload_n 0, 1) := by decide +kernel
theorem dX12_canCut_50 : decode cX12_canCut 50 = .ok (.iload_n 1, 1) := by decide +kernel
theorem dX12_canCut_51 : decode cX12_canCut 51 = .ok (.iload 4, 2) := by decide +kernel
theorem dX12_canCut_53 : decode cX12_canCut 53 = .ok (.iconst 1, 1) := by decide +kernel
theorem dX12_canCut_54 : decode cX12_canCut 54 = .ok (.iadd, 1) := by decide +kernel
theorem dX12_canCut_55 : decode cX12_canCut 55 = .ok (.iload_n 3, 1) := by decide +kernel
theorem dX12_canCut_56 : decode cX12_canCut 56 = .ok (.iconst 1, 1) := by decide +kernel
theorem dX12_canCut_57 : decode cX12_canCut 57 = .ok (.isub, 1) := by decide +kernel
theorem dX12_canCut_58 : decode cX12_canCut 58 = .ok (.invokevirtual 269, 3) := by decide +kernel
theorem dX12_canCut_61 : decode cX12_canCut 61 = .ok (.istore 5, 2) := by decide +kernel
theorem dX12_canCut_63 : decode cX12_canCut 63 = .ok (.aload_n 0, 1) := by decide +kernel
theorem dX12_canCut_64 : decode cX12_canCut 64 = .ok (.getfield 43, 3) := by decide +kernel
theorem dX12_canCut_67 : decode cX12_canCut 67 = .ok (.iload 4, 2) := by decide +kernel
theorem dX12_canCut_69 : decode cX12_canCut 69 = .ok (.iconst 0, 1) := by decide +kernel
theorem dX12_canCut_70 : decode cX12_canCut 70 = .ok (.bastore, 1) := by decide +kernel
theorem dX12_canCut_71 : decode cX12_canCut 71 = .ok (.iload 5, 2) := by decide +kernel
theorem dX12_canCut_73 : decode cX12_canCut 73 = .ok (.ifCond .eq 5, 3) := by decide +kernel
theorem dX12_canCut_76 : decode cX12_canCut 76 = .ok (.iconst 1, 1) := by decide +kernel
theorem dX12_canCut_77 : decode cX12_canCut 77 = .ok (.ireturn, 1) := by decide +kernel
theorem dX12_canCut_78 : decode cX12_canCut 78 = .ok (.iinc 4 1, 3) := by decide +kernel
theorem dX12_canCut_81 : decode cX12_canCut 81 = .ok (.goto (-62), 3) := by decide +kernel
theorem dX12_canCut_84 : decode cX12_canCut 84 = .ok (.iconst 0, 1) := by decide +kernel
theorem dX12_canCut_85 : decode cX12_canCut 85 = .ok (.ireturn, 1) := by decide +kernel
theorem dX12_wayIn_0 : decode cX12_wayIn 0 = .ok (.iload_n 1, 1) := by decide +kernel
theorem dX12_wayIn_1 : decode cX12_wayIn 1 = .ok (.i2l, 1) := by decide +kernel
theorem dX12_wayIn_2 : decode cX12_wayIn 2 = .ok (.invokestatic 106, 3) := by decide +kernel
theorem dX12_wayIn_5 : decode cX12_wayIn 5 = .ok (.ifCond .eq 13, 3) := by decide +kernel
theorem dX12_wayIn_8 : decode cX12_wayIn 8 = .ok (.iload_n 2, 1) := by decide +kernel
theorem dX12_wayIn_9 : decode cX12_wayIn 9 = .ok (.i2l, 1) := by decide +kernel
theorem dX12_wayIn_10 : decode cX12_wayIn 10 = .ok (.lconst 0, 1) := by decide +kernel
theorem dX12_wayIn_11 : decode cX12_wayIn 11 = .ok (.lconst 1, 1) := by decide +kernel
theorem dX12_wayIn_12 : decode cX12_wayIn 12 = .ok (.invokestatic 96, 3) := by decide +kernel
theorem dX12_wayIn_15 : decode cX12_wayIn 15 = .ok (.ifCond .ne 5, 3) := by decide +kernel
theorem dX12_wayIn_18 : decode cX12_wayIn 18 = .ok (.iconst (-1), 1) := by decide +kernel
theorem dX12_wayIn_19 : decode cX12_wayIn 19 = .ok (.ireturn, 1) := by decide +kernel
theorem dX12_wayIn_20 : decode cX12_wayIn 20 = .ok (.aload_n 0, 1) := by decide +kernel
theorem dX12_wayIn_21 : decode cX12_wayIn 21 = .ok (.invokevirtual 220, 3) := by decide +kernel
theorem dX12_wayIn_24 : decode cX12_wayIn 24 = .ok (.iload_n 2, 1) := by decide +kernel
theorem dX12_wayIn_25 : decode cX12_wayIn 25 = .ok (.ifCond .ne 34, 3) := by decide +kernel
theorem dX12_wayIn_28 : decode cX12_wayIn 28 = .ok (.aload_n 0, 1) := by decide +kernel
theorem dX12_wayIn_29 : decode cX12_wayIn 29 = .ok (.iload_n 1, 1) := by decide +kernel
theorem dX12_wayIn_30 : decode cX12_wayIn 30 = .ok (.invokevirtual 266, 3) := by decide +kernel
theorem dX12_wayIn_33 : decode cX12_wayIn 33 = .ok (.istore_n 3, 1) := by decide +kernel
theorem dX12_wayIn_34 : decode cX12_wayIn 34 = .ok (.aload_n 0, 1) := by decide +kernel
theorem dX12_wayIn_35 : decode cX12_wayIn 35 = .ok (.getfield 34, 3) := by decide +kernel
theorem dX12_wayIn_38 : decode cX12_wayIn 38 = .ok (.iload_n 1, 1) := by decide +kernel
theorem dX12_wayIn_39 : decode cX12_wayIn 39 = .ok (.iaload, 1) := by decide +kernel
theorem dX12_wayIn_40 : decode cX12_wayIn 40 = .ok (.iconst 1, 1) := by decide +kernel
theorem dX12_wayIn_41 : decode cX12_wayIn 41 = .ok (.if_icmp .ne 7, 3) := by decide +kernel
theorem dX12_wayIn_44 : decode cX12_wayIn 44 = .ok (.iconst 0, 1) := by decide +kernel
theorem dX12_wayIn_45 : decode cX12_wayIn 45 = .ok (.goto 13, 3) := by decide +kernel
theorem dX12_wayIn_48 : decode cX12_wayIn 48 = .ok (.iload_n 3, 1) := by decide +kernel
theorem dX12_wayIn_49 : decode cX12_wayIn 49 = .ok (.ifCond .ne 8, 3) := by decide +kernel
theorem dX12_wayIn_52 : decode cX12_wayIn 52 = .ok (.bipush (-2), 2) := by decide +kernel
theorem dX12_wayIn_54 : decode cX12_wayIn 54 = .ok (.goto 4, 3) := by decide +kernel
theorem dX12_wayIn_57 : decode cX12_wayIn 57 = .ok (.iload_n 3, 1) := by decide +kernel
theorem dX12_wayIn_58 : decode cX12_wayIn 58 = .ok (.ireturn, 1) := by decide +kernel
theorem dX12_wayIn_59 : decode cX12_wayIn 59 = .ok (.aload_n 0, 1) := by decide +kernel
theorem dX12_wayIn_60 : decode cX12_wayIn 60 = .ok (.iload_n 1, 1) := by decide +kernel
theorem dX12_wayIn_61 : decode cX12_wayIn 61 = .ok (.invokevirtual 196, 3) := by decide +kernel
theorem dX12_wayIn_64 : decode cX12_wayIn 64 = .ok (.ifCond .eq 5, 3) := by decide +kernel
theorem dX12_wayIn_67 : decode cX12_wayIn 67 = .ok (.iconst 0, 1) := by decide +kernel
theorem dX12_wayIn_68 : decode cX12_wayIn 68 = .ok (.ireturn, 1) := by decide +kernel
theorem dX12_wayIn_69 : decode cX12_wayIn 69 = .ok (.aload_n 0, 1) := by decide +kernel
theorem dX12_wayIn_70 : decode cX12_wayIn 70 = .ok (.getfield 34, 3) := by decide +kernel
theorem dX12_wayIn_73 : decode cX12_wayIn 73 = .ok (.iload_n 1, 1) := by decide +kernel
theorem dX12_wayIn_74 : decode cX12_wayIn 74 = .ok (.iaload, 1) := by decide +kernel
theorem dX12_wayIn_75 : decode cX12_wayIn 75 = .ok (.iconst 1, 1) := by decide +kernel
theorem dX12_wayIn_76 : decode cX12_wayIn 76 = .ok (.if_icmp .eq 11, 3) := by decide +kernel
theorem dX12_wayIn_79 : decode cX12_wayIn 79 = .ok (.aload_n 0, 1) := by decide +kernel
theorem dX12_wayIn_80 : decode cX12_wayIn 80 = .ok (.iload_n 1, 1) := by decide +kernel
theorem dX12_wayIn_81 : decode cX12_wayIn 81 = .ok (.invokevirtual 263, 3) := by decide +kernel
theorem dX12_wayIn_84 : decode cX12_wayIn 84 = .ok (.ifCond .eq 6, 3) := by decide +kernel
theorem dX12_wayIn_87 : decode cX12_wayIn 87 = .ok (.bipush (-2), 2) := by decide +kernel
theorem dX12_wayIn_89 : decode cX12_wayIn 89 = .ok (.ireturn, 1) := by decide +kernel
theorem dX12_wayIn_90 : decode cX12_wayIn 90 = .ok (.iconst 0, 1) := by decide +kernel
theorem dX12_wayIn_91 : decode cX12_wayIn 91 = .ok (.istore_n 3, 1) := by decide +kernel
theorem dX12_wayIn_92 : decode cX12_wayIn 92 = .ok (.iload_n 3, 1) := by decide +kernel
theorem dX12_wayIn_93 : decode cX12_wayIn 93 = .ok (.iconst 4, 1) := by decide +kernel
theorem dX12_wayIn_94 : decode cX12_wayIn 94 = .ok (.if_icmp .ge 19, 3) := by decide +kernel
theorem dX12_wayIn_97 : decode cX12_wayIn 97 = .ok (.aload_n 0, 1) := by decide +kernel
theorem dX12_wayIn_98 : decode cX12_wayIn 98 = .ok (.iload_n 1, 1) := by decide +kernel
theorem dX12_wayIn_99 : decode cX12_wayIn 99 = .ok (.iconst 0, 1) := by decide +kernel
theorem dX12_wayIn_100 : decode cX12_wayIn 100 = .ok (.iload_n 3, 1) := by decide +kernel
theorem dX12_wayIn_101 : decode cX12_wayIn 101 = .ok (.invokevirtual 269, 3) := by decide +kernel
theorem dX12_wayIn_104 : decode cX12_wayIn 104 = .ok (.ifCond .ne 9, 3) := by decide +kernel
theorem dX12_wayIn_107 : decode cX12_wayIn 107 = .ok (.iinc 3 1, 3) := by decide +kernel
theorem dX12_wayIn_110 : decode cX12_wayIn 110 = .ok (.goto (-18), 3) := by decide +kernel
theorem dX12_wayIn_113 : decode cX12_wayIn 113 = .ok (.iload_n 3, 1) := by decide +kernel
theorem dX12_wayIn_114 : decode cX12_wayIn 114 = .ok (.ireturn, 1) := by decide +kernel
theorem dX12_triesRound_0 : decode cX12_triesRound 0 = .ok (.iload_n 2, 1) := by decide +kernel
theorem dX12_triesRound_1 : decode cX12_triesRound 1 = .ok (.iload_n 3, 1) := by decide +kernel
theorem dX12_triesRound_2 : decode cX12_triesRound 2 = .ok (.if_icmp .ne 139, 3) := by decide +kernel
theorem dX12_triesRound_5 : decode cX12_triesRound 5 = .ok (.aload_n 0, 1) := by decide +kernel
theorem dX12_triesRound_6 : decode cX12_triesRound 6 = .ok (.invokevirtual 220, 3) := by decide +kernel
theorem dX12_triesRound_9 : decode cX12_triesRound 9 = .ok (.iload_n 1, 1) := by decide +kernel
theorem dX12_triesRound_10 : decode cX12_triesRound 10 = .ok (.istore 4, 2) := by decide +kernel
theorem dX12_triesRound_12 : decode cX12_triesRound 12 = .ok (.iconst 0, 1) := by decide +kernel
theorem dX12_triesRound_13 : decode cX12_triesRound 13 = .ok (.istore 5, 2) := by decide +kernel
theorem dX12_triesRound_15 : decode cX12_triesRound 15 = .ok (.iload 5, 2) := by decide +kernel
theorem dX12_triesRound_17 : decode cX12_triesRound 17 = .ok (.iload_n 3, 1) := by decide +kernel
theorem dX12_triesRound_18 : decode cX12_triesRound 18 = .ok (.if_icmp .ge 74, 3) := by decide +kernel
theorem dX12_triesRound_21 : decode cX12_triesRound 21 = .ok (.aload_n 0, 1) := by decide +kernel
theorem dX12_triesRound_22 : decode cX12_triesRound 22 = .ok (.getfield 47, 3) := by decide +kernel
theorem dX12_triesRound_25 : decode cX12_triesRound 25 = .ok (.iload 5, 2) := by decide +kernel
theorem dX12_triesRound_27 : decode cX12_triesRound 27 = .ok (.iaload, 1) := by decide +kernel
theorem dX12_triesRound_28 : decode cX12_triesRound 28 = .ok (.iconst 4, 1) := by decide +kernel
theorem dX12_triesRound_29 : decode cX12_triesRound 29 = .ok (.if_icmp .ne 8, 3) := by decide +kernel
theorem dX12_triesRound_32 : decode cX12_triesRound 32 = .ok (.iload 4, 2) := by decide +kernel
theorem dX12_triesRound_34 : decode cX12_triesRound 34 = .ok (.goto 15, 3) := by decide +kernel
theorem dX12_triesRound_37 : decode cX12_triesRound 37 = .ok (.iload 4, 2) := by decide +kernel
theorem dX12_triesRound_39 : decode cX12_triesRound 39 = .ok (.aload_n 0, 1) := by decide +kernel
theorem dX12_triesRound_40 : decode cX12_triesRound 40 = .ok (.getfield 47, 3) := by decide +kernel
theorem dX12_triesRound_43 : decode cX12_triesRound 43 = .ok (.iload 5, 2) := by decide +kernel
theorem dX12_triesRound_45 : decode cX12_triesRound 45 = .ok (.iaload, 1) := by decide +kernel
theorem dX12_triesRound_46 : decode cX12_triesRound 46 = .ok (.invokestatic 193, 3) := by decide +kernel
theorem dX12_triesRound_49 : decode cX12_triesRound 49 = .ok (.istore 4, 2) := by decide +kernel
theorem dX12_triesRound_51 : decode cX12_triesRound 51 = .ok (.aload_n 0, 1) := by decide +kernel
theorem dX12_triesRound_52 : decode cX12_triesRound 52 = .ok (.getfield 34, 3) := by decide +kernel
theorem dX12_triesRound_55 : decode cX12_triesRound 55 = .ok (.iload 4, 2) := by decide +kernel
theorem dX12_triesRound_57 : decode cX12_triesRound 57 = .ok (.iaload, 1) := by decide +kernel
theorem dX12_triesRound_58 : decode cX12_triesRound 58 = .ok (.ifCond .ne 24, 3) := by decide +kernel
theorem dX12_triesRound_61 : decode cX12_triesRound 61 = .ok (.aload_n 0, 1) := by decide +kernel
theorem dX12_triesRound_62 : decode cX12_triesRound 62 = .ok (.getfield 31, 3) := by decide +kernel
theorem dX12_triesRound_65 : decode cX12_triesRound 65 = .ok (.iload 4, 2) := by decide +kernel
theorem dX12_triesRound_67 : decode cX12_triesRound 67 = .ok (.iaload, 1) := by decide +kernel
theorem dX12_triesRound_68 : decode cX12_triesRound 68 = .ok (.bipush 6, 2) := by decide +kernel
theorem dX12_triesRound_70 : decode cX12_triesRound 70 = .ok (.if_icmp .ge 12, 3) := by decide +kernel
theorem dX12_triesRound_73 : decode cX12_triesRound 73 = .ok (.aload_n 0, 1) := by decide +kernel
theorem dX12_triesRound_74 : decode cX12_triesRound 74 = .ok (.getfield 31, 3) := by decide +kernel
theorem dX12_triesRound_77 : decode cX12_triesRound 77 = .ok (.iload 4, 2) := by decide +kernel
theorem dX12_triesRound_79 : decode cX12_triesRound 79 = .ok (.bipush 6, 2) := by decide +kernel
theorem dX12_triesRound_81 : decode cX12_triesRound 81 = .ok (.iastore, 1) := by decide +kernel
theorem dX12_triesRound_82 : decode cX12_triesRound 82 = .ok (.aload_n 0, 1) := by decide +kernel
theorem dX12_triesRound_83 : decode cX12_triesRound 83 = .ok (.invokevirtual 217, 3) := by decide +kernel
theorem dX12_triesRound_86 : decode cX12_triesRound 86 = .ok (.iinc 5 1, 3) := by decide +kernel
theorem dX12_triesRound_89 : decode cX12_triesRound 89 = .ok (.goto (-74), 3) := by decide +kernel
theorem dX12_triesRound_92 : decode cX12_triesRound 92 = .ok (.aload_n 0, 1) := by decide +kernel
theorem dX12_triesRound_93 : decode cX12_triesRound 93 = .ok (.invokevirtual 232, 3) := by decide +kernel
theorem dX12_triesRound_96 : decode cX12_triesRound 96 = .ok (.aload_n 0, 1) := by decide +kernel
theorem dX12_triesRound_97 : decode cX12_triesRound 97 = .ok (.getfield 272, 3) := by decide +kernel
theorem dX12_triesRound_100 : decode cX12_triesRound 100 = .ok (.if_icmp .ge 40, 3) := by decide +kernel
theorem dX12_triesRound_103 : decode cX12_triesRound 103 = .ok (.aload_n 0, 1) := by decide +kernel
theorem dX12_triesRound_104 : decode cX12_triesRound 104 = .ok (.aload_n 0, 1) := by decide +kernel
theorem dX12_triesRound_105 : decode cX12_triesRound 105 = .ok (.invokevirtual 232, 3) := by decide +kernel
theorem dX12_triesRound_108 : decode cX12_triesRound 108 = .ok (.putfield 272, 3) := by decide +kernel
theorem dX12_triesRound_111 : decode cX12_triesRound 111 = .ok (.iconst 0, 1) := by decide +kernel
theorem dX12_triesRound_112 : decode cX12_triesRound 112 = .ok (.istore 5, 2) := by decide +kernel
theorem dX12_triesRound_114 : decode cX12_triesRound 114 = .ok (.iload 5, 2) := by decide +kernel
theorem dX12_triesRound_116 : decode cX12_triesRound 116 = .ok (.iload_n 3, 1) := by decide +kernel
theorem dX12_triesRound_117 : decode cX12_triesRound 117 = .ok (.if_icmp .ge 23, 3) := by decide +kernel
theorem dX12_triesRound_120 : decode cX12_triesRound 120 = .ok (.aload_n 0, 1) := by decide +kernel
theorem dX12_triesRound_121 : decode cX12_triesRound 121 = .ok (.getfield 50, 3) := by decide +kernel
theorem dX12_triesRound_124 : decode cX12_triesRound 124 = .ok (.iload 5, 2) := by decide +kernel
theorem dX12_triesRound_126 : decode cX12_triesRound 126 = .ok (.aload_n 0, 1) := by decide +kernel
theorem dX12_triesRound_127 : decode cX12_triesRound 127 = .ok (.getfield 47, 3) := by decide +kernel
theorem dX12_triesRound_130 : decode cX12_triesRound 130 = .ok (.iload 5, 2) := by decide +kernel
theorem dX12_triesRound_132 : decode cX12_triesRound 132 = .ok (.iaload, 1) := by decide +kernel
theorem dX12_triesRound_133 : decode cX12_triesRound 133 = .ok (.iastore, 1) := by decide +kernel
theorem dX12_triesRound_134 : decode cX12_triesRound 134 = .ok (.iinc 5 1, 3) := by decide +kernel
theorem dX12_triesRound_137 : decode cX12_triesRound 137 = .ok (.goto (-23), 3) := by decide +kernel
theorem dX12_triesRound_140 : decode cX12_triesRound 140 = .ok (.return_, 1) := by decide +kernel
theorem dX12_triesRound_141 : decode cX12_triesRound 141 = .ok (.iload_n 1, 1) := by decide +kernel
theorem dX12_triesRound_142 : decode cX12_triesRound 142 = .ok (.istore 4, 2) := by decide +kernel
theorem dX12_triesRound_144 : decode cX12_triesRound 144 = .ok (.iconst 0, 1) := by decide +kernel
theorem dX12_triesRound_145 : decode cX12_triesRound 145 = .ok (.istore 5, 2) := by decide +kernel
theorem dX12_triesRound_147 : decode cX12_triesRound 147 = .ok (.iload 5, 2) := by decide +kernel
theorem dX12_triesRound_149 : decode cX12_triesRound 149 = .ok (.iload_n 2, 1) := by decide +kernel
theorem dX12_triesRound_150 : decode cX12_triesRound 150 = .ok (.if_icmp .ge 39, 3) := by decide +kernel
theorem dX12_triesRound_153 : decode cX12_triesRound 153 = .ok (.aload_n 0, 1) := by decide +kernel
theorem dX12_triesRound_154 : decode cX12_triesRound 154 = .ok (.getfield 47, 3) := by decide +kernel
theorem dX12_triesRound_157 : decode cX12_triesRound 157 = .ok (.iload 5, 2) := by decide +kernel
theorem dX12_triesRound_159 : decode cX12_triesRound 159 = .ok (.iaload, 1) := by decide +kernel
theorem dX12_triesRound_160 : decode cX12_triesRound 160 = .ok (.iconst 4, 1) := by decide +kernel
theorem dX12_triesRound_161 : decode cX12_triesRound 161 = .ok (.if_icmp .ne 8, 3) := by decide +kernel
theorem dX12_triesRound_164 : decode cX12_triesRound 164 = .ok (.iload 4, 2) := by decide +kernel
theorem dX12_triesRound_166 : decode cX12_triesRound 166 = .ok (.goto 15, 3) := by decide +kernel
theorem dX12_triesRound_169 : decode cX12_triesRound 169 = .ok (.iload 4, 2) := by decide +kernel
theorem dX12_triesRound_171 : decode cX12_triesRound 171 = .ok (.aload_n 0, 1) := by decide +kernel
theorem dX12_triesRound_172 : decode cX12_triesRound 172 = .ok (.getfield 47, 3) := by decide +kernel
theorem dX12_triesRound_175 : decode cX12_triesRound 175 = .ok (.iload 5, 2) := by decide +kernel
theorem dX12_triesRound_177 : decode cX12_triesRound 177 = .ok (.iaload, 1) := by decide +kernel
theorem dX12_triesRound_178 : decode cX12_triesRound 178 = .ok (.invokestatic 193, 3) := by decide +kernel
theorem dX12_triesRound_181 : decode cX12_triesRound 181 = .ok (.istore 4, 2) := by decide +kernel
theorem dX12_triesRound_183 : decode cX12_triesRound 183 = .ok (.iinc 5 1, 3) := by decide +kernel
theorem dX12_triesRound_186 : decode cX12_triesRound 186 = .ok (.goto (-39), 3) := by decide +kernel
theorem dX12_triesRound_189 : decode cX12_triesRound 189 = .ok (.iconst 0, 1) := by decide +kernel
theorem dX12_triesRound_190 : decode cX12_triesRound 190 = .ok (.istore 5, 2) := by decide +kernel
theorem dX12_triesRound_192 : decode cX12_triesRound 192 = .ok (.iload 5, 2) := by decide +kernel
theorem dX12_triesRound_194 : decode cX12_triesRound 194 = .ok (.iconst 4, 1) := by decide +kernel
theorem dX12_triesRound_195 : decode cX12_triesRound 195 = .ok (.if_icmp .gt 42, 3) := by decide +kernel
theorem dX12_triesRound_198 : decode cX12_triesRound 198 = .ok (.iload 5, 2) := by decide +kernel
theorem dX12_triesRound_200 : decode cX12_triesRound 200 = .ok (.iconst 4, 1) := by decide +kernel
theorem dX12_triesRound_201 : decode cX12_triesRound 201 = .ok (.if_icmp .eq 13, 3) := by decide +kernel
theorem dX12_triesRound_204 : decode cX12_triesRound 204 = .ok (.iload 4, 2) := by decide +kernel
theorem dX12_triesRound_206 : decode cX12_triesRound 206 = .ok (.iload 5, 2) := by decide +kernel
theorem dX12_triesRound_208 : decode cX12_triesRound 208 = .ok (.invokestatic 193, 3) := by decide +kernel
theorem dX12_triesRound_211 : decode cX12_triesRound 211 = .ok (.ifCond .lt 20, 3) := by decide +kernel
theorem dX12_triesRound_214 : decode cX12_triesRound 214 = .ok (.aload_n 0, 1) := by decide +kernel
theorem dX12_triesRound_215 : decode cX12_triesRound 215 = .ok (.getfield 47, 3) := by decide +kernel
theorem dX12_triesRound_218 : decode cX12_triesRound 218 = .ok (.iload_n 2, 1) := by decide +kernel
theorem dX12_triesRound_219 : decode cX12_triesRound 219 = .ok (.iload 5, 2) := by decide +kernel
theorem dX12_triesRound_221 : decode cX12_triesRound 221 = .ok (.iastore, 1) := by decide +kernel
theorem dX12_triesRound_222 : decode cX12_triesRound 222 = .ok (.aload_n 0, 1) := by decide +kernel
theorem dX12_triesRound_223 : decode cX12_triesRound 223 = .ok (.iload_n 1, 1) := by decide +kernel
theorem dX12_triesRound_224 : decode cX12_triesRound 224 = .ok (.iload_n 2, 1) := by decide +kernel
theorem dX12_triesRound_225 : decode cX12_triesRound 225 = .ok (.iconst 1, 1) := by decide +kernel
theorem dX12_triesRound_226 : decode cX12_triesRound 226 = .ok (.iadd, 1) := by decide +kernel
theorem dX12_triesRound_227 : decode cX12_triesRound 227 = .ok (.iload_n 3, 1) := by decide +kernel
theorem dX12_triesRound_228 : decode cX12_triesRound 228 = .ok (.invokevirtual 275, 3) := by decide +kernel
theorem dX12_triesRound_231 : decode cX12_triesRound 231 = .ok (.iinc 5 1, 3) := by decide +kernel
theorem dX12_triesRound_234 : decode cX12_triesRound 234 = .ok (.goto (-42), 3) := by decide +kernel
theorem dX12_triesRound_237 : decode cX12_triesRound 237 = .ok (.return_, 1) := by decide +kernel
theorem dX12_round_0 : decode cX12_round 0 = .ok (.iload_n 1, 1) := by decide +kernel
theorem dX12_round_1 : decode cX12_round 1 = .ok (.i2l, 1) := by decide +kernel
theorem dX12_round_2 : decode cX12_round 2 = .ok (.invokestatic 106, 3) := by decide +kernel
theorem dX12_round_5 : decode cX12_round 5 = .ok (.ifCond .eq 30, 3) := by decide +kernel
theorem dX12_round_8 : decode cX12_round 8 = .ok (.iload_n 2, 1) := by decide +kernel
theorem dX12_round_9 : decode cX12_round 9 = .ok (.i2l, 1) := by decide +kernel
theorem dX12_round_10 : decode cX12_round 10 = .ok (.lconst 0, 1) := by decide +kernel
theorem dX12_round_11 : decode cX12_round 11 = .ok (.ldc2_w 116, 3) := by decide +kernel
theorem dX12_round_14 : decode cX12_round 14 = .ok (.invokestatic 96, 3) := by decide +kernel
theorem dX12_round_17 : decode cX12_round 17 = .ok (.ifCond .eq 18, 3) := by decide +kernel
theorem dX12_round_20 : decode cX12_round 20 = .ok (.iload_n 3, 1) := by decide +kernel
theorem dX12_round_21 : decode cX12_round 21 = .ok (.i2l, 1) := by decide +kernel
theorem dX12_round_22 : decode cX12_round 22 = .ok (.ldc2_w 279, 3) := by decide +kernel
theorem dX12_round_25 : decode cX12_round 25 = .ok (.iload_n 2, 1) := by decide +kernel
theorem dX12_round_26 : decode cX12_round 26 = .ok (.iconst 1, 1) := by decide +kernel
theorem dX12_round_27 : decode cX12_round 27 = .ok (.isub, 1) := by decide +kernel
theorem dX12_round_28 : decode cX12_round 28 = .ok (.i2l, 1) := by decide +kernel
theorem dX12_round_29 : decode cX12_round 29 = .ok (.invokestatic 96, 3) := by decide +kernel
theorem dX12_round_32 : decode cX12_round 32 = .ok (.ifCond .ne 5, 3) := by decide +kernel
theorem dX12_round_35 : decode cX12_round 35 = .ok (.iconst (-1), 1) := by decide +kernel
theorem dX12_round_36 : decode cX12_round 36 = .ok (.ireturn, 1) := by decide +kernel
theorem dX12_round_37 : decode cX12_round 37 = .ok (.aload_n 0, 1) := by decide +kernel
theorem dX12_round_38 : decode cX12_round 38 = .ok (.ldc_w 256, 3) := by decide +kernel
theorem dX12_round_41 : decode cX12_round 41 = .ok (.putfield 272, 3) := by decide +kernel
theorem dX12_round_44 : decode cX12_round 44 = .ok (.aload_n 0, 1) := by decide +kernel
theorem dX12_round_45 : decode cX12_round 45 = .ok (.iload_n 1, 1) := by decide +kernel
theorem dX12_round_46 : decode cX12_round 46 = .ok (.iconst 0, 1) := by decide +kernel
theorem dX12_round_47 : decode cX12_round 47 = .ok (.iload_n 2, 1) := by decide +kernel
theorem dX12_round_48 : decode cX12_round 48 = .ok (.invokevirtual 275, 3) := by decide +kernel
theorem dX12_round_51 : decode cX12_round 51 = .ok (.iload_n 3, 1) := by decide +kernel
theorem dX12_round_52 : decode cX12_round 52 = .ok (.ifCond .ge 10, 3) := by decide +kernel
theorem dX12_round_55 : decode cX12_round 55 = .ok (.aload_n 0, 1) := by decide +kernel
theorem dX12_round_56 : decode cX12_round 56 = .ok (.getfield 272, 3) := by decide +kernel
theorem dX12_round_59 : decode cX12_round 59 = .ok (.goto 9, 3) := by decide +kernel
theorem dX12_round_62 : decode cX12_round 62 = .ok (.aload_n 0, 1) := by decide +kernel
theorem dX12_round_63 : decode cX12_round 63 = .ok (.getfield 50, 3) := by decide +kernel
theorem dX12_round_66 : decode cX12_round 66 = .ok (.iload_n 3, 1) := by decide +kernel
theorem dX12_round_67 : decode cX12_round 67 = .ok (.iaload, 1) := by decide +kernel
theorem dX12_round_68 : decode cX12_round 68 = .ok (.ireturn, 1) := by decide +kernel
theorem dX12_longsIs_0 : decode cX12_longsIs 0 = .ok (.iload_n 1, 1) := by decide +kernel
theorem dX12_longsIs_1 : decode cX12_longsIs 1 = .ok (.invokestatic 100, 3) := by decide +kernel
theorem dX12_longsIs_4 : decode cX12_longsIs 4 = .ok (.ifCond .ne 7, 3) := by decide +kernel
theorem dX12_longsIs_7 : decode cX12_longsIs 7 = .ok (.iconst (-1), 1) := by decide +kernel
theorem dX12_longsIs_8 : decode cX12_longsIs 8 = .ok (.goto 34, 3) := by decide +kernel
theorem dX12_longsIs_11 : decode cX12_longsIs 11 = .ok (.aload_n 0, 1) := by decide +kernel
theorem dX12_longsIs_12 : decode cX12_longsIs 12 = .ok (.getfield 71, 3) := by decide +kernel
theorem dX12_longsIs_15 : decode cX12_longsIs 15 = .ok (.iload_n 1, 1) := by decide +kernel
theorem dX12_longsIs_16 : decode cX12_longsIs 16 = .ok (.iaload, 1) := by decide +kernel
theorem dX12_longsIs_17 : decode cX12_longsIs 17 = .ok (.ifCond .ge 8, 3) := by decide +kernel
theorem dX12_longsIs_20 : decode cX12_longsIs 20 = .ok (.bipush (-11), 2) := by decide +kernel
theorem dX12_longsIs_22 : decode cX12_longsIs 22 = .ok (.goto 20, 3) := by decide +kernel
theorem dX12_longsIs_25 : decode cX12_longsIs 25 = .ok (.aload_n 0, 1) := by decide +kernel
theorem dX12_longsIs_26 : decode cX12_longsIs 26 = .ok (.getfield 71, 3) := by decide +kernel
theorem dX12_longsIs_29 : decode cX12_longsIs 29 = .ok (.iload_n 1, 1) := by decide +kernel
theorem dX12_longsIs_30 : decode cX12_longsIs 30 = .ok (.iaload, 1) := by decide +kernel
theorem dX12_longsIs_31 : decode cX12_longsIs 31 = .ok (.bipush 53, 2) := by decide +kernel
theorem dX12_longsIs_33 : decode cX12_longsIs 33 = .ok (.if_icmp .ne 7, 3) := by decide +kernel
theorem dX12_longsIs_36 : decode cX12_longsIs 36 = .ok (.iconst 1, 1) := by decide +kernel
theorem dX12_longsIs_37 : decode cX12_longsIs 37 = .ok (.goto 5, 3) := by decide +kernel
theorem dX12_longsIs_40 : decode cX12_longsIs 40 = .ok (.bipush (-12), 2) := by decide +kernel
theorem dX12_longsIs_42 : decode cX12_longsIs 42 = .ok (.ireturn, 1) := by decide +kernel
theorem dX12_firstFalse_0 : decode cX12_firstFalse 0 = .ok (.aload_n 0, 1) := by decide +kernel
theorem dX12_firstFalse_1 : decode cX12_firstFalse 1 = .ok (.invokevirtual 220, 3) := by decide +kernel
theorem dX12_firstFalse_4 : decode cX12_firstFalse 4 = .ok (.iconst 0, 1) := by decide +kernel
theorem dX12_firstFalse_5 : decode cX12_firstFalse 5 = .ok (.istore_n 2, 1) := by decide +kernel
theorem dX12_firstFalse_6 : decode cX12_firstFalse 6 = .ok (.iload_n 2, 1) := by decide +kernel
theorem dX12_firstFalse_7 : decode cX12_firstFalse 7 = .ok (.bipush 48, 2) := by decide +kernel
theorem dX12_firstFalse_9 : decode cX12_firstFalse 9 = .ok (.if_icmp .gt 44, 3) := by decide +kernel
theorem dX12_firstFalse_12 : decode cX12_firstFalse 12 = .ok (.iload_n 2, 1) := by decide +kernel
theorem dX12_firstFalse_13 : decode cX12_firstFalse 13 = .ok (.aload_n 0, 1) := by decide +kernel
theorem dX12_firstFalse_14 : decode cX12_firstFalse 14 = .ok (.getfield 74, 3) := by decide +kernel
theorem dX12_firstFalse_17 : decode cX12_firstFalse 17 = .ok (.iload_n 1, 1) := by decide +kernel
theorem dX12_firstFalse_18 : decode cX12_firstFalse 18 = .ok (.iaload, 1) := by decide +kernel
theorem dX12_firstFalse_19 : decode cX12_firstFalse 19 = .ok (.if_icmp .ge 34, 3) := by decide +kernel
theorem dX12_firstFalse_22 : decode cX12_firstFalse 22 = .ok (.aload_n 0, 1) := by decide +kernel
theorem dX12_firstFalse_23 : decode cX12_firstFalse 23 = .ok (.getfield 77, 3) := by decide +kernel
theorem dX12_firstFalse_26 : decode cX12_firstFalse 26 = .ok (.bipush 60, 2) := by decide +kernel
theorem dX12_firstFalse_28 : decode cX12_firstFalse 28 = .ok (.iload_n 1, 1) := by decide +kernel
theorem dX12_firstFalse_29 : decode cX12_firstFalse 29 = .ok (.imul, 1) := by decide +kernel
theorem dX12_firstFalse_30 : decode cX12_firstFalse 30 = .ok (.iload_n 2, 1) := by decide +kernel
theorem dX12_firstFalse_31 : decode cX12_firstFalse 31 = .ok (.iadd, 1) := by decide +kernel
theorem dX12_firstFalse_32 : decode cX12_firstFalse 32 = .ok (.laload, 1) := by decide +kernel
theorem dX12_firstFalse_33 : decode cX12_firstFalse 33 = .ok (.aload_n 0, 1) := by decide +kernel
theorem dX12_firstFalse_34 : decode cX12_firstFalse 34 = .ok (.invokevirtual 242, 3) := by decide +kernel
theorem dX12_firstFalse_37 : decode cX12_firstFalse 37 = .ok (.lcmp, 1) := by decide +kernel
theorem dX12_firstFalse_38 : decode cX12_firstFalse 38 = .ok (.ifCond .eq 5, 3) := by decide +kernel
theorem dX12_firstFalse_41 : decode cX12_firstFalse 41 = .ok (.iload_n 2, 1) := by decide +kernel
theorem dX12_firstFalse_42 : decode cX12_firstFalse 42 = .ok (.ireturn, 1) := by decide +kernel
theorem dX12_firstFalse_43 : decode cX12_firstFalse 43 = .ok (.aload_n 0, 1) := by decide +kernel
theorem dX12_firstFalse_44 : decode cX12_firstFalse 44 = .ok (.invokevirtual 217, 3) := by decide +kernel
theorem dX12_firstFalse_47 : decode cX12_firstFalse 47 = .ok (.iinc 2 1, 3) := by decide +kernel
theorem dX12_firstFalse_50 : decode cX12_firstFalse 50 = .ok (.goto (-44), 3) := by decide +kernel
theorem dX12_firstFalse_53 : decode cX12_firstFalse 53 = .ok (.bipush (-2), 2) := by decide +kernel
theorem dX12_firstFalse_55 : decode cX12_firstFalse 55 = .ok (.ireturn, 1) := by decide +kernel
theorem dX12_judge_0 : decode cX12_judge 0 = .ok (.aload_n 0, 1) := by decide +kernel
theorem dX12_judge_1 : decode cX12_judge 1 = .ok (.iload_n 1, 1) := by decide +kernel
theorem dX12_judge_2 : decode cX12_judge 2 = .ok (.invokevirtual 281, 3) := by decide +kernel
theorem dX12_judge_5 : decode cX12_judge 5 = .ok (.ifCond .ge 11, 3) := by decide +kernel
theorem dX12_judge_8 : decode cX12_judge 8 = .ok (.aload_n 0, 1) := by decide +kernel
theorem dX12_judge_9 : decode cX12_judge 9 = .ok (.iload_n 1, 1) := by decide +kernel
theorem dX12_judge_10 : decode cX12_judge 10 = .ok (.invokevirtual 281, 3) := by decide +kernel
theorem dX12_judge_13 : decode cX12_judge 13 = .ok (.goto 8, 3) := by decide +kernel
theorem dX12_judge_16 : decode cX12_judge 16 = .ok (.aload_n 0, 1) := by decide +kernel
theorem dX12_judge_17 : decode cX12_judge 17 = .ok (.iload_n 1, 1) := by decide +kernel
theorem dX12_judge_18 : decode cX12_judge 18 = .ok (.invokevirtual 284, 3) := by decide +kernel
theorem dX12_judge_21 : decode cX12_judge 21 = .ok (.ireturn, 1) := by decide +kernel
theorem dX12_triesAll_0 : decode cX12_triesAll 0 = .ok (.aload_n 0, 1) := by decide +kernel
theorem dX12_triesAll_1 : decode cX12_triesAll 1 = .ok (.getfield 9, 3) := by decide +kernel
theorem dX12_triesAll_4 : decode cX12_triesAll 4 = .ok (.iload_n 2, 1) := by decide +kernel
theorem dX12_triesAll_5 : decode cX12_triesAll 5 = .ok (.iaload, 1) := by decide +kernel
theorem dX12_triesAll_6 : decode cX12_triesAll 6 = .ok (.istore 5, 2) := by decide +kernel
theorem dX12_triesAll_8 : decode cX12_triesAll 8 = .ok (.iconst 0, 1) := by decide +kernel
theorem dX12_triesAll_9 : decode cX12_triesAll 9 = .ok (.istore 6, 2) := by decide +kernel
theorem dX12_triesAll_11 : decode cX12_triesAll 11 = .ok (.bipush (-2), 2) := by decide +kernel
theorem dX12_triesAll_13 : decode cX12_triesAll 13 = .ok (.istore 7, 2) := by decide +kernel
theorem dX12_triesAll_15 : decode cX12_triesAll 15 = .ok (.iload_n 3, 1) := by decide +kernel
theorem dX12_triesAll_16 : decode cX12_triesAll 16 = .ok (.istore 8, 2) := by decide +kernel
theorem dX12_triesAll_18 : decode cX12_triesAll 18 = .ok (.iload 8, 2) := by decide +kernel
theorem dX12_triesAll_20 : decode cX12_triesAll 20 = .ok (.bipush 9, 2) := by decide +kernel
theorem dX12_triesAll_22 : decode cX12_triesAll 22 = .ok (.if_icmp .gt 44, 3) := by decide +kernel
theorem dX12_triesAll_25 : decode cX12_triesAll 25 = .ok (.aload_n 0, 1) := by decide +kernel
theorem dX12_triesAll_26 : decode cX12_triesAll 26 = .ok (.getfield 9, 3) := by decide +kernel
theorem dX12_triesAll_29 : decode cX12_triesAll 29 = .ok (.iload_n 2, 1) := by decide +kernel
theorem dX12_triesAll_30 : decode cX12_triesAll 30 = .ok (.iload 8, 2) := by decide +kernel
theorem dX12_triesAll_32 : decode cX12_triesAll 32 = .ok (.iastore, 1) := by decide +kernel
theorem dX12_triesAll_33 : decode cX12_triesAll 33 = .ok (.aload_n 0, 1) := by decide +kernel
theorem dX12_triesAll_34 : decode cX12_triesAll 34 = .ok (.iload_n 1, 1) := by decide +kernel
theorem dX12_triesAll_35 : decode cX12_triesAll 35 = .ok (.invokevirtual 284, 3) := by decide +kernel
theorem dX12_triesAll_38 : decode cX12_triesAll 38 = .ok (.bipush (-2), 2) := by decide +kernel
theorem dX12_triesAll_40 : decode cX12_triesAll 40 = .ok (.if_icmp .ne 20, 3) := by decide +kernel
theorem dX12_triesAll_43 : decode cX12_triesAll 43 = .ok (.iload 6, 2) := by decide +kernel
theorem dX12_triesAll_45 : decode cX12_triesAll 45 = .ok (.ifCond .ne 8, 3) := by decide +kernel
theorem dX12_triesAll_48 : decode cX12_triesAll 48 = .ok (.iload 8, 2) := by decide +kernel
theorem dX12_triesAll_50 : decode cX12_triesAll 50 = .ok (.goto 5, 3) := by decide +kernel
theorem dX12_triesAll_53 : decode cX12_triesAll 53 = .ok (.iload 7, 2) := by decide +kernel
theorem dX12_triesAll_55 : decode cX12_triesAll 55 = .ok (.istore 7, 2) := by decide +kernel
theorem dX12_triesAll_57 : decode cX12_triesAll 57 = .ok (.iinc 6 1, 3) := by decide +kernel
theorem dX12_triesAll_60 : decode cX12_triesAll 60 = .ok (.iinc 8 1, 3) := by decide +kernel
theorem dX12_triesAll_63 : decode cX12_triesAll 63 = .ok (.goto (-45), 3) := by decide +kernel
theorem dX12_triesAll_66 : decode cX12_triesAll 66 = .ok (.aload_n 0, 1) := by decide +kernel
theorem dX12_triesAll_67 : decode cX12_triesAll 67 = .ok (.getfield 9, 3) := by decide +kernel
theorem dX12_triesAll_70 : decode cX12_triesAll 70 = .ok (.iload_n 2, 1) := by decide +kernel
theorem dX12_triesAll_71 : decode cX12_triesAll 71 = .ok (.iload 5, 2) := by decide +kernel
theorem dX12_triesAll_73 : decode cX12_triesAll 73 = .ok (.iastore, 1) := by decide +kernel
theorem dX12_triesAll_74 : decode cX12_triesAll 74 = .ok (.iload 4, 2) := by decide +kernel
theorem dX12_triesAll_76 : decode cX12_triesAll 76 = .ok (.ifCond .ne 8, 3) := by decide +kernel
theorem dX12_triesAll_79 : decode cX12_triesAll 79 = .ok (.iload 6, 2) := by decide +kernel
theorem dX12_triesAll_81 : decode cX12_triesAll 81 = .ok (.goto 5, 3) := by decide +kernel
theorem dX12_triesAll_84 : decode cX12_triesAll 84 = .ok (.iload 7, 2) := by decide +kernel
theorem dX12_triesAll_86 : decode cX12_triesAll 86 = .ok (.ireturn, 1) := by decide +kernel
theorem dX12_draughts_0 : decode cX12_draughts 0 = .ok (.aload_n 0, 1) := by decide +kernel
theorem dX12_draughts_1 : decode cX12_draughts 1 = .ok (.iload_n 1, 1) := by decide +kernel
theorem dX12_draughts_2 : decode cX12_draughts 2 = .ok (.invokevirtual 281, 3) := by decide +kernel
theorem dX12_draughts_5 : decode cX12_draughts 5 = .ok (.iconst (-1), 1) := by decide +kernel
theorem dX12_draughts_6 : decode cX12_draughts 6 = .ok (.if_icmp .eq 21, 3) := by decide +kernel
theorem dX12_draughts_9 : decode cX12_draughts 9 = .ok (.iload_n 2, 1) := by decide +kernel
theorem dX12_draughts_10 : decode cX12_draughts 10 = .ok (.i2l, 1) := by decide +kernel
theorem dX12_draughts_11 : decode cX12_draughts 11 = .ok (.invokestatic 106, 3) := by decide +kernel
theorem dX12_draughts_14 : decode cX12_draughts 14 = .ok (.ifCond .eq 13, 3) := by decide +kernel
theorem dX12_draughts_17 : decode cX12_draughts 17 = .ok (.iload_n 3, 1) := by decide +kernel
theorem dX12_draughts_18 : decode cX12_draughts 18 = .ok (.i2l, 1) := by decide +kernel
theorem dX12_draughts_19 : decode cX12_draughts 19 = .ok (.lconst 0, 1) := by decide +kernel
theorem dX12_draughts_20 : decode cX12_draughts 20 = .ok (.lconst 1, 1) := by decide +kernel
theorem dX12_draughts_21 : decode cX12_draughts 21 = .ok (.invokestatic 96, 3) := by decide +kernel
theorem dX12_draughts_24 : decode cX12_draughts 24 = .ok (.ifCond .ne 5, 3) := by decide +kernel
theorem dX12_draughts_27 : decode cX12_draughts 27 = .ok (.iconst (-1), 1) := by decide +kernel
theorem dX12_draughts_28 : decode cX12_draughts 28 = .ok (.ireturn, 1) := by decide +kernel
theorem dX12_draughts_29 : decode cX12_draughts 29 = .ok (.aload_n 0, 1) := by decide +kernel
theorem dX12_draughts_30 : decode cX12_draughts 30 = .ok (.iload_n 1, 1) := by decide +kernel
theorem dX12_draughts_31 : decode cX12_draughts 31 = .ok (.invokevirtual 281, 3) := by decide +kernel
theorem dX12_draughts_34 : decode cX12_draughts 34 = .ok (.ifCond .ge 11, 3) := by decide +kernel
theorem dX12_draughts_37 : decode cX12_draughts 37 = .ok (.aload_n 0, 1) := by decide +kernel
theorem dX12_draughts_38 : decode cX12_draughts 38 = .ok (.iload_n 1, 1) := by decide +kernel
theorem dX12_draughts_39 : decode cX12_draughts 39 = .ok (.invokevirtual 281, 3) := by decide +kernel
theorem dX12_draughts_42 : decode cX12_draughts 42 = .ok (.goto 14, 3) := by decide +kernel
theorem dX12_draughts_45 : decode cX12_draughts 45 = .ok (.aload_n 0, 1) := by decide +kernel
theorem dX12_draughts_46 : decode cX12_draughts 46 = .ok (.iload_n 1, 1) := by decide +kernel
theorem dX12_draughts_47 : decode cX12_draughts 47 = .ok (.bipush 36, 2) := by decide +kernel
theorem dX12_draughts_49 : decode cX12_draughts 49 = .ok (.iload_n 2, 1) := by decide +kernel
theorem dX12_draughts_50 : decode cX12_draughts 50 = .ok (.iadd, 1) := by decide +kernel
theorem dX12_draughts_51 : decode cX12_draughts 51 = .ok (.iconst 0, 1) := by decide +kernel
theorem dX12_draughts_52 : decode cX12_draughts 52 = .ok (.iload_n 3, 1) := by decide +kernel
theorem dX12_draughts_53 : decode cX12_draughts 53 = .ok (.invokevirtual 287, 3) := by decide +kernel
theorem dX12_draughts_56 : decode cX12_draughts 56 = .ok (.ireturn, 1) := by decide +kernel
theorem dX12_holds_0 : decode cX12_holds 0 = .ok (.aload_n 0, 1) := by decide +kernel
theorem dX12_holds_1 : decode cX12_holds 1 = .ok (.iload_n 1, 1) := by decide +kernel
theorem dX12_holds_2 : decode cX12_holds 2 = .ok (.invokevirtual 281, 3) := by decide +kernel
theorem dX12_holds_5 : decode cX12_holds 5 = .ok (.iconst (-1), 1) := by decide +kernel
theorem dX12_holds_6 : decode cX12_holds 6 = .ok (.if_icmp .eq 13, 3) := by decide +kernel
theorem dX12_holds_9 : decode cX12_holds 9 = .ok (.iload_n 2, 1) := by decide +kernel
theorem dX12_holds_10 : decode cX12_holds 10 = .ok (.i2l, 1) := by decide +kernel
theorem dX12_holds_11 : decode cX12_holds 11 = .ok (.lconst 0, 1) := by decide +kernel
theorem dX12_holds_12 : decode cX12_holds 12 = .ok (.lconst 1, 1) := by decide +kernel
theorem dX12_holds_13 : decode cX12_holds 13 = .ok (.invokestatic 96, 3) := by decide +kernel
theorem dX12_holds_16 : decode cX12_holds 16 = .ok (.ifCond .ne 5, 3) := by decide +kernel
theorem dX12_holds_19 : decode cX12_holds 19 = .ok (.iconst (-1), 1) := by decide +kernel
theorem dX12_holds_20 : decode cX12_holds 20 = .ok (.ireturn, 1) := by decide +kernel
theorem dX12_holds_21 : decode cX12_holds 21 = .ok (.aload_n 0, 1) := by decide +kernel
theorem dX12_holds_22 : decode cX12_holds 22 = .ok (.iload_n 1, 1) := by decide +kernel
theorem dX12_holds_23 : decode cX12_holds 23 = .ok (.invokevirtual 281, 3) := by decide +kernel
theorem dX12_holds_26 : decode cX12_holds 26 = .ok (.ifCond .ge 11, 3) := by decide +kernel
theorem dX12_holds_29 : decode cX12_holds 29 = .ok (.aload_n 0, 1) := by decide +kernel
theorem dX12_holds_30 : decode cX12_holds 30 = .ok (.iload_n 1, 1) := by decide +kernel
theorem dX12_holds_31 : decode cX12_holds 31 = .ok (.invokevirtual 281, 3) := by decide +kernel
theorem dX12_holds_34 : decode cX12_holds 34 = .ok (.goto 13, 3) := by decide +kernel
theorem dX12_holds_37 : decode cX12_holds 37 = .ok (.aload_n 0, 1) := by decide +kernel
theorem dX12_holds_38 : decode cX12_holds 38 = .ok (.iload_n 1, 1) := by decide +kernel
theorem dX12_holds_39 : decode cX12_holds 39 = .ok (.sipush 144, 3) := by decide +kernel
theorem dX12_holds_42 : decode cX12_holds 42 = .ok (.iconst 1, 1) := by decide +kernel
theorem dX12_holds_43 : decode cX12_holds 43 = .ok (.iload_n 2, 1) := by decide +kernel
theorem dX12_holds_44 : decode cX12_holds 44 = .ok (.invokevirtual 287, 3) := by decide +kernel
theorem dX12_holds_47 : decode cX12_holds 47 = .ok (.ireturn, 1) := by decide +kernel
theorem dX12_playsFrom_0 : decode cX12_playsFrom 0 = .ok (.iload_n 2, 1) := by decide +kernel
theorem dX12_playsFrom_1 : decode cX12_playsFrom 1 = .ok (.iload_n 3, 1) := by decide +kernel
theorem dX12_playsFrom_2 : decode cX12_playsFrom 2 = .ok (.if_icmp .ne 92, 3) := by decide +kernel
theorem dX12_playsFrom_5 : decode cX12_playsFrom 5 = .ok (.aload_n 0, 1) := by decide +kernel
theorem dX12_playsFrom_6 : decode cX12_playsFrom 6 = .ok (.invokevirtual 220, 3) := by decide +kernel
theorem dX12_playsFrom_9 : decode cX12_playsFrom 9 = .ok (.iconst 0, 1) := by decide +kernel
theorem dX12_playsFrom_10 : decode cX12_playsFrom 10 = .ok (.istore 5, 2) := by decide +kernel
theorem dX12_playsFrom_12 : decode cX12_playsFrom 12 = .ok (.iload 5, 2) := by decide +kernel
theorem dX12_playsFrom_14 : decode cX12_playsFrom 14 = .ok (.iload_n 3, 1) := by decide +kernel
theorem dX12_playsFrom_15 : decode cX12_playsFrom 15 = .ok (.if_icmp .ge 68, 3) := by decide +kernel
theorem dX12_playsFrom_18 : decode cX12_playsFrom 18 = .ok (.aload_n 0, 1) := by decide +kernel
theorem dX12_playsFrom_19 : decode cX12_playsFrom 19 = .ok (.getfield 53, 3) := by decide +kernel
theorem dX12_playsFrom_22 : decode cX12_playsFrom 22 = .ok (.iload 5, 2) := by decide +kernel
theorem dX12_playsFrom_24 : decode cX12_playsFrom 24 = .ok (.iaload, 1) := by decide +kernel
theorem dX12_playsFrom_25 : decode cX12_playsFrom 25 = .ok (.bipush 6, 2) := by decide +kernel
theorem dX12_playsFrom_27 : decode cX12_playsFrom 27 = .ok (.if_icmp .ge 50, 3) := by decide +kernel
theorem dX12_playsFrom_30 : decode cX12_playsFrom 30 = .ok (.bipush 6, 2) := by decide +kernel
theorem dX12_playsFrom_32 : decode cX12_playsFrom 32 = .ok (.iload_n 1, 1) := by decide +kernel
theorem dX12_playsFrom_33 : decode cX12_playsFrom 33 = .ok (.imul, 1) := by decide +kernel
theorem dX12_playsFrom_34 : decode cX12_playsFrom 34 = .ok (.aload_n 0, 1) := by decide +kernel
theorem dX12_playsFrom_35 : decode cX12_playsFrom 35 = .ok (.getfield 53, 3) := by decide +kernel
theorem dX12_playsFrom_38 : decode cX12_playsFrom 38 = .ok (.iload 5, 2) := by decide +kernel
theorem dX12_playsFrom_40 : decode cX12_playsFrom 40 = .ok (.iaload, 1) := by decide +kernel
theorem dX12_playsFrom_41 : decode cX12_playsFrom 41 = .ok (.iadd, 1) := by decide +kernel
theorem dX12_playsFrom_42 : decode cX12_playsFrom 42 = .ok (.istore 6, 2) := by decide +kernel
theorem dX12_playsFrom_44 : decode cX12_playsFrom 44 = .ok (.aload_n 0, 1) := by decide +kernel
theorem dX12_playsFrom_45 : decode cX12_playsFrom 45 = .ok (.getfield 31, 3) := by decide +kernel
theorem dX12_playsFrom_48 : decode cX12_playsFrom 48 = .ok (.iload 6, 2) := by decide +kernel
theorem dX12_playsFrom_50 : decode cX12_playsFrom 50 = .ok (.iload 5, 2) := by decide +kernel
theorem dX12_playsFrom_52 : decode cX12_playsFrom 52 = .ok (.iconst 2, 1) := by decide +kernel
theorem dX12_playsFrom_53 : decode cX12_playsFrom 53 = .ok (.irem, 1) := by decide +kernel
theorem dX12_playsFrom_54 : decode cX12_playsFrom 54 = .ok (.ifCond .ne 21, 3) := by decide +kernel
theorem dX12_playsFrom_57 : decode cX12_playsFrom 57 = .ok (.bipush 99, 2) := by decide +kernel
theorem dX12_playsFrom_59 : decode cX12_playsFrom 59 = .ok (.aload_n 0, 1) := by decide +kernel
theorem dX12_playsFrom_60 : decode cX12_playsFrom 60 = .ok (.getfield 31, 3) := by decide +kernel
theorem dX12_playsFrom_63 : decode cX12_playsFrom 63 = .ok (.iload 6, 2) := by decide +kernel
theorem dX12_playsFrom_65 : decode cX12_playsFrom 65 = .ok (.iaload, 1) := by decide +kernel
theorem dX12_playsFrom_66 : decode cX12_playsFrom 66 = .ok (.bipush 12, 2) := by decide +kernel
theorem dX12_playsFrom_68 : decode cX12_playsFrom 68 = .ok (.iadd, 1) := by decide +kernel
theorem dX12_playsFrom_69 : decode cX12_playsFrom 69 = .ok (.invokestatic 257, 3) := by decide +kernel
theorem dX12_playsFrom_72 : decode cX12_playsFrom 72 = .ok (.goto 4, 3) := by decide +kernel
theorem dX12_playsFrom_75 : decode cX12_playsFrom 75 = .ok (.iconst 0, 1) := by decide +kernel
theorem dX12_playsFrom_76 : decode cX12_playsFrom 76 = .ok (.iastore, 1) := by decide +kernel
theorem dX12_playsFrom_77 : decode cX12_playsFrom 77 = .ok (.iinc 5 1, 3) := by decide +kernel
theorem dX12_playsFrom_80 : decode cX12_playsFrom 80 = .ok (.goto (-68), 3) := by decide +kernel
theorem dX12_playsFrom_83 : decode cX12_playsFrom 83 = .ok (.aload_n 0, 1) := by decide +kernel
theorem dX12_playsFrom_84 : decode cX12_playsFrom 84 = .ok (.iload 4, 2) := by decide +kernel
theorem dX12_playsFrom_86 : decode cX12_playsFrom 86 = .ok (.invokevirtual 228, 3) := by decide +kernel
theorem dX12_playsFrom_89 : decode cX12_playsFrom 89 = .ok (.aload_n 0, 1) := by decide +kernel
theorem dX12_playsFrom_90 : decode cX12_playsFrom 90 = .ok (.invokevirtual 232, 3) := by decide +kernel
theorem dX12_playsFrom_93 : decode cX12_playsFrom 93 = .ok (.ireturn, 1) := by decide +kernel
theorem dX12_playsFrom_94 : decode cX12_playsFrom 94 = .ok (.aload_n 0, 1) := by decide +kernel
theorem dX12_playsFrom_95 : decode cX12_playsFrom 95 = .ok (.getfield 53, 3) := by decide +kernel
theorem dX12_playsFrom_98 : decode cX12_playsFrom 98 = .ok (.iload_n 2, 1) := by decide +kernel
theorem dX12_playsFrom_99 : decode cX12_playsFrom 99 = .ok (.bipush 6, 2) := by decide +kernel
theorem dX12_playsFrom_101 : decode cX12_playsFrom 101 = .ok (.iastore, 1) := by decide +kernel
theorem dX12_playsFrom_102 : decode cX12_playsFrom 102 = .ok (.aload_n 0, 1) := by decide +kernel
theorem dX12_playsFrom_103 : decode cX12_playsFrom 103 = .ok (.iload_n 1, 1) := by decide +kernel
theorem dX12_playsFrom_104 : decode cX12_playsFrom 104 = .ok (.iload_n 2, 1) := by decide +kernel
theorem dX12_playsFrom_105 : decode cX12_playsFrom 105 = .ok (.iconst 1, 1) := by decide +kernel
theorem dX12_playsFrom_106 : decode cX12_playsFrom 106 = .ok (.iadd, 1) := by decide +kernel
theorem dX12_playsFrom_107 : decode cX12_playsFrom 107 = .ok (.iload_n 3, 1) := by decide +kernel
theorem dX12_playsFrom_108 : decode cX12_playsFrom 108 = .ok (.iload 4, 2) := by decide +kernel
theorem dX12_playsFrom_110 : decode cX12_playsFrom 110 = .ok (.invokevirtual 291, 3) := by decide +kernel
theorem dX12_playsFrom_113 : decode cX12_playsFrom 113 = .ok (.istore 5, 2) := by decide +kernel
theorem dX12_playsFrom_115 : decode cX12_playsFrom 115 = .ok (.iconst 0, 1) := by decide +kernel
theorem dX12_playsFrom_116 : decode cX12_playsFrom 116 = .ok (.istore 6, 2) := by decide +kernel
theorem dX12_playsFrom_118 : decode cX12_playsFrom 118 = .ok (.iload 6, 2) := by decide +kernel
theorem dX12_playsFrom_120 : decode cX12_playsFrom 120 = .ok (.bipush 6, 2) := by decide +kernel
theorem dX12_playsFrom_122 : decode cX12_playsFrom 122 = .ok (.if_icmp .ge 94, 3) := by decide +kernel
theorem dX12_playsFrom_125 : decode cX12_playsFrom 125 = .ok (.iload_n 2, 1) := by decide +kernel
theorem dX12_playsFrom_126 : decode cX12_playsFrom 126 = .ok (.iconst 2, 1) := by decide +kernel
theorem dX12_playsFrom_127 : decode cX12_playsFrom 127 = .ok (.irem, 1) := by decide +kernel
theorem dX12_playsFrom_128 : decode cX12_playsFrom 128 = .ok (.iconst 1, 1) := by decide +kernel
theorem dX12_playsFrom_129 : decode cX12_playsFrom 129 = .ok (.if_icmp .eq 21, 3) := by decide +kernel
theorem dX12_playsFrom_132 : decode cX12_playsFrom 132 = .ok (.aload_n 0, 1) := by decide +kernel
theorem dX12_playsFrom_133 : decode cX12_playsFrom 133 = .ok (.getfield 9, 3) := by decide +kernel
theorem dX12_playsFrom_136 : decode cX12_playsFrom 136 = .ok (.bipush 108, 2) := by decide +kernel
theorem dX12_playsFrom_138 : decode cX12_playsFrom 138 = .ok (.bipush 6, 2) := by decide +kernel
theorem dX12_playsFrom_140 : decode cX12_playsFrom 140 = .ok (.iload_n 1, 1) := by decide +kernel
theorem dX12_playsFrom_141 : decode cX12_playsFrom 141 = .ok (.imul, 1) := by decide +kernel
theorem dX12_playsFrom_142 : decode cX12_playsFrom 142 = .ok (.iadd, 1) := by decide +kernel
theorem dX12_playsFrom_143 : decode cX12_playsFrom 143 = .ok (.iload 6, 2) := by decide +kernel
theorem dX12_playsFrom_145 : decode cX12_playsFrom 145 = .ok (.iadd, 1) := by decide +kernel
theorem dX12_playsFrom_146 : decode cX12_playsFrom 146 = .ok (.iaload, 1) := by decide +kernel
theorem dX12_playsFrom_147 : decode cX12_playsFrom 147 = .ok (.ifCond .ne 63, 3) := by decide +kernel
theorem dX12_playsFrom_150 : decode cX12_playsFrom 150 = .ok (.aload_n 0, 1) := by decide +kernel
theorem dX12_playsFrom_151 : decode cX12_playsFrom 151 = .ok (.getfield 53, 3) := by decide +kernel
theorem dX12_playsFrom_154 : decode cX12_playsFrom 154 = .ok (.iload_n 2, 1) := by decide +kernel
theorem dX12_playsFrom_155 : decode cX12_playsFrom 155 = .ok (.iload 6, 2) := by decide +kernel
theorem dX12_playsFrom_157 : decode cX12_playsFrom 157 = .ok (.iastore, 1) := by decide +kernel
theorem dX12_playsFrom_158 : decode cX12_playsFrom 158 = .ok (.aload_n 0, 1) := by decide +kernel
theorem dX12_playsFrom_159 : decode cX12_playsFrom 159 = .ok (.iload_n 1, 1) := by decide +kernel
theorem dX12_playsFrom_160 : decode cX12_playsFrom 160 = .ok (.iload_n 2, 1) := by decide +kernel
theorem dX12_playsFrom_161 : decode cX12_playsFrom 161 = .ok (.iconst 1, 1) := by decide +kernel
theorem dX12_playsFrom_162 : decode cX12_playsFrom 162 = .ok (.iadd, 1) := by decide +kernel
theorem dX12_playsFrom_163 : decode cX12_playsFrom 163 = .ok (.iload_n 3, 1) := by decide +kernel
theorem dX12_playsFrom_164 : decode cX12_playsFrom 164 = .ok (.iload 4, 2) := by decide +kernel
theorem dX12_playsFrom_166 : decode cX12_playsFrom 166 = .ok (.invokevirtual 291, 3) := by decide +kernel
theorem dX12_playsFrom_169 : decode cX12_playsFrom 169 = .ok (.istore 7, 2) := by decide +kernel
theorem dX12_playsFrom_171 : decode cX12_playsFrom 171 = .ok (.iload_n 2, 1) := by decide +kernel
theorem dX12_playsFrom_172 : decode cX12_playsFrom 172 = .ok (.iconst 2, 1) := by decide +kernel
theorem dX12_playsFrom_173 : decode cX12_playsFrom 173 = .ok (.irem, 1) := by decide +kernel
theorem dX12_playsFrom_174 : decode cX12_playsFrom 174 = .ok (.ifCond .ne 20, 3) := by decide +kernel
theorem dX12_playsFrom_177 : decode cX12_playsFrom 177 = .ok (.iload 7, 2) := by decide +kernel
theorem dX12_playsFrom_179 : decode cX12_playsFrom 179 = .ok (.iload 5, 2) := by decide +kernel
theorem dX12_playsFrom_181 : decode cX12_playsFrom 181 = .ok (.if_icmp .ge 8, 3) := by decide +kernel
theorem dX12_playsFrom_184 : decode cX12_playsFrom 184 = .ok (.iload 7, 2) := by decide +kernel
theorem dX12_playsFrom_186 : decode cX12_playsFrom 186 = .ok (.goto 22, 3) := by decide +kernel
theorem dX12_playsFrom_189 : decode cX12_playsFrom 189 = .ok (.iload 5, 2) := by decide +kernel
theorem dX12_playsFrom_191 : decode cX12_playsFrom 191 = .ok (.goto 17, 3) := by decide +kernel
theorem dX12_playsFrom_194 : decode cX12_playsFrom 194 = .ok (.iload 7, 2) := by decide +kernel
theorem dX12_playsFrom_196 : decode cX12_playsFrom 196 = .ok (.iload 5, 2) := by decide +kernel
theorem dX12_playsFrom_198 : decode cX12_playsFrom 198 = .ok (.if_icmp .le 8, 3) := by decide +kernel
theorem dX12_playsFrom_201 : decode cX12_playsFrom 201 = .ok (.iload 7, 2) := by decide +kernel
theorem dX12_playsFrom_203 : decode cX12_playsFrom 203 = .ok (.goto 5, 3) := by decide +kernel
theorem dX12_playsFrom_206 : decode cX12_playsFrom 206 = .ok (.iload 5, 2) := by decide +kernel
theorem dX12_playsFrom_208 : decode cX12_playsFrom 208 = .ok (.istore 5, 2) := by decide +kernel
theorem dX12_playsFrom_210 : decode cX12_playsFrom 210 = .ok (.iinc 6 1, 3) := by decide +kernel
theorem dX12_playsFrom_213 : decode cX12_playsFrom 213 = .ok (.goto (-95), 3) := by decide +kernel
theorem dX12_playsFrom_216 : decode cX12_playsFrom 216 = .ok (.iload 5, 2) := by decide +kernel
theorem dX12_playsFrom_218 : decode cX12_playsFrom 218 = .ok (.ireturn, 1) := by decide +kernel
theorem dX12_byTurns_0 : decode cX12_byTurns 0 = .ok (.iload_n 1, 1) := by decide +kernel
theorem dX12_byTurns_1 : decode cX12_byTurns 1 = .ok (.ifCond .lt 61, 3) := by decide +kernel
theorem dX12_byTurns_4 : decode cX12_byTurns 4 = .ok (.iload_n 1, 1) := by decide +kernel
theorem dX12_byTurns_5 : decode cX12_byTurns 5 = .ok (.bipush 100, 2) := by decide +kernel
theorem dX12_byTurns_7 : decode cX12_byTurns 7 = .ok (.idiv, 1) := by decide +kernel
theorem dX12_byTurns_8 : decode cX12_byTurns 8 = .ok (.i2l, 1) := by decide +kernel
theorem dX12_byTurns_9 : decode cX12_byTurns 9 = .ok (.lconst 0, 1) := by decide +kernel
theorem dX12_byTurns_10 : decode cX12_byTurns 10 = .ok (.ldc2_w 191, 3) := by decide +kernel
theorem dX12_byTurns_13 : decode cX12_byTurns 13 = .ok (.invokestatic 96, 3) := by decide +kernel
theorem dX12_byTurns_16 : decode cX12_byTurns 16 = .ok (.ifCond .eq 46, 3) := by decide +kernel
theorem dX12_byTurns_19 : decode cX12_byTurns 19 = .ok (.iload_n 1, 1) := by decide +kernel
theorem dX12_byTurns_20 : decode cX12_byTurns 20 = .ok (.bipush 10, 2) := by decide +kernel
theorem dX12_byTurns_22 : decode cX12_byTurns 22 = .ok (.idiv, 1) := by decide +kernel
theorem dX12_byTurns_23 : decode cX12_byTurns 23 = .ok (.bipush 10, 2) := by decide +kernel
theorem dX12_byTurns_25 : decode cX12_byTurns 25 = .ok (.irem, 1) := by decide +kernel
theorem dX12_byTurns_26 : decode cX12_byTurns 26 = .ok (.i2l, 1) := by decide +kernel
theorem dX12_byTurns_27 : decode cX12_byTurns 27 = .ok (.lconst 1, 1) := by decide +kernel
theorem dX12_byTurns_28 : decode cX12_byTurns 28 = .ok (.ldc2_w 114, 3) := by decide +kernel
theorem dX12_byTurns_31 : decode cX12_byTurns 31 = .ok (.invokestatic 96, 3) := by decide +kernel
theorem dX12_byTurns_34 : decode cX12_byTurns 34 = .ok (.ifCond .eq 28, 3) := by decide +kernel
theorem dX12_byTurns_37 : decode cX12_byTurns 37 = .ok (.iload_n 1, 1) := by decide +kernel
theorem dX12_byTurns_38 : decode cX12_byTurns 38 = .ok (.bipush 10, 2) := by decide +kernel
theorem dX12_byTurns_40 : decode cX12_byTurns 40 = .ok (.irem, 1) := by decide +kernel
theorem dX12_byTurns_41 : decode cX12_byTurns 41 = .ok (.i2l, 1) := by decide +kernel
theorem dX12_byTurns_42 : decode cX12_byTurns 42 = .ok (.lconst 0, 1) := by decide +kernel
theorem dX12_byTurns_43 : decode cX12_byTurns 43 = .ok (.ldc2_w 118, 3) := by decide +kernel
theorem dX12_byTurns_46 : decode cX12_byTurns 46 = .ok (.invokestatic 96, 3) := by decide +kernel
theorem dX12_byTurns_49 : decode cX12_byTurns 49 = .ok (.ifCond .eq 13, 3) := by decide +kernel
theorem dX12_byTurns_52 : decode cX12_byTurns 52 = .ok (.iload_n 2, 1) := by decide +kernel
theorem dX12_byTurns_53 : decode cX12_byTurns 53 = .ok (.i2l, 1) := by decide +kernel
theorem dX12_byTurns_54 : decode cX12_byTurns 54 = .ok (.lconst 0, 1) := by decide +kernel
theorem dX12_byTurns_55 : decode cX12_byTurns 55 = .ok (.lconst 1, 1) := by decide +kernel
theorem dX12_byTurns_56 : decode cX12_byTurns 56 = .ok (.invokestatic 96, 3) := by decide +kernel
theorem dX12_byTurns_59 : decode cX12_byTurns 59 = .ok (.ifCond .ne 5, 3) := by decide +kernel
theorem dX12_byTurns_62 : decode cX12_byTurns 62 = .ok (.iconst (-1), 1) := by decide +kernel
theorem dX12_byTurns_63 : decode cX12_byTurns 63 = .ok (.ireturn, 1) := by decide +kernel
theorem dX12_byTurns_64 : decode cX12_byTurns 64 = .ok (.iload_n 1, 1) := by decide +kernel
theorem dX12_byTurns_65 : decode cX12_byTurns 65 = .ok (.bipush 100, 2) := by decide +kernel
theorem dX12_byTurns_67 : decode cX12_byTurns 67 = .ok (.idiv, 1) := by decide +kernel
theorem dX12_byTurns_68 : decode cX12_byTurns 68 = .ok (.istore_n 3, 1) := by decide +kernel
theorem dX12_byTurns_69 : decode cX12_byTurns 69 = .ok (.iload_n 1, 1) := by decide +kernel
theorem dX12_byTurns_70 : decode cX12_byTurns 70 = .ok (.bipush 10, 2) := by decide +kernel
theorem dX12_byTurns_72 : decode cX12_byTurns 72 = .ok (.idiv, 1) := by decide +kernel
theorem dX12_byTurns_73 : decode cX12_byTurns 73 = .ok (.bipush 10, 2) := by decide +kernel
theorem dX12_byTurns_75 : decode cX12_byTurns 75 = .ok (.irem, 1) := by decide +kernel
theorem dX12_byTurns_76 : decode cX12_byTurns 76 = .ok (.istore 4, 2) := by decide +kernel
theorem dX12_byTurns_78 : decode cX12_byTurns 78 = .ok (.iload_n 1, 1) := by decide +kernel
theorem dX12_byTurns_79 : decode cX12_byTurns 79 = .ok (.bipush 10, 2) := by decide +kernel
theorem dX12_byTurns_81 : decode cX12_byTurns 81 = .ok (.irem, 1) := by decide +kernel
theorem dX12_byTurns_82 : decode cX12_byTurns 82 = .ok (.istore 5, 2) := by decide +kernel
theorem dX12_byTurns_84 : decode cX12_byTurns 84 = .ok (.aload_n 0, 1) := by decide +kernel
theorem dX12_byTurns_85 : decode cX12_byTurns 85 = .ok (.iload_n 3, 1) := by decide +kernel
theorem dX12_byTurns_86 : decode cX12_byTurns 86 = .ok (.iconst 0, 1) := by decide +kernel
theorem dX12_byTurns_87 : decode cX12_byTurns 87 = .ok (.iload 4, 2) := by decide +kernel
theorem dX12_byTurns_89 : decode cX12_byTurns 89 = .ok (.iload 5, 2) := by decide +kernel
theorem dX12_byTurns_91 : decode cX12_byTurns 91 = .ok (.invokevirtual 291, 3) := by decide +kernel
theorem dX12_byTurns_94 : decode cX12_byTurns 94 = .ok (.istore 6, 2) := by decide +kernel
theorem dX12_byTurns_96 : decode cX12_byTurns 96 = .ok (.iload_n 2, 1) := by decide +kernel
theorem dX12_byTurns_97 : decode cX12_byTurns 97 = .ok (.ifCond .ne 6, 3) := by decide +kernel
theorem dX12_byTurns_100 : decode cX12_byTurns 100 = .ok (.iload 6, 2) := by decide +kernel
theorem dX12_byTurns_102 : decode cX12_byTurns 102 = .ok (.ireturn, 1) := by decide +kernel
theorem dX12_byTurns_103 : decode cX12_byTurns 103 = .ok (.aload_n 0, 1) := by decide +kernel
theorem dX12_byTurns_104 : decode cX12_byTurns 104 = .ok (.getfield 53, 3) := by decide +kernel
theorem dX12_byTurns_107 : decode cX12_byTurns 107 = .ok (.iconst 0, 1) := by decide +kernel
theorem dX12_byTurns_108 : decode cX12_byTurns 108 = .ok (.bipush 6, 2) := by decide +kernel
theorem dX12_byTurns_110 : decode cX12_byTurns 110 = .ok (.iastore, 1) := by decide +kernel
theorem dX12_byTurns_111 : decode cX12_byTurns 111 = .ok (.aload_n 0, 1) := by decide +kernel
theorem dX12_byTurns_112 : decode cX12_byTurns 112 = .ok (.iload_n 3, 1) := by decide +kernel
theorem dX12_byTurns_113 : decode cX12_byTurns 113 = .ok (.iconst 1, 1) := by decide +kernel
theorem dX12_byTurns_114 : decode cX12_byTurns 114 = .ok (.iload 4, 2) := by decide +kernel
theorem dX12_byTurns_116 : decode cX12_byTurns 116 = .ok (.iload 5, 2) := by decide +kernel
theorem dX12_byTurns_118 : decode cX12_byTurns 118 = .ok (.invokevirtual 291, 3) := by decide +kernel
theorem dX12_byTurns_121 : decode cX12_byTurns 121 = .ok (.iload 6, 2) := by decide +kernel
theorem dX12_byTurns_123 : decode cX12_byTurns 123 = .ok (.if_icmp .ne 6, 3) := by decide +kernel
theorem dX12_byTurns_126 : decode cX12_byTurns 126 = .ok (.bipush 6, 2) := by decide +kernel
theorem dX12_byTurns_128 : decode cX12_byTurns 128 = .ok (.ireturn, 1) := by decide +kernel
theorem dX12_byTurns_129 : decode cX12_byTurns 129 = .ok (.iconst (-1), 1) := by decide +kernel
theorem dX12_byTurns_130 : decode cX12_byTurns 130 = .ok (.istore 7, 2) := by decide +kernel
theorem dX12_byTurns_132 : decode cX12_byTurns 132 = .ok (.iconst 0, 1) := by decide +kernel
theorem dX12_byTurns_133 : decode cX12_byTurns 133 = .ok (.istore 8, 2) := by decide +kernel
theorem dX12_byTurns_135 : decode cX12_byTurns 135 = .ok (.iload 8, 2) := by decide +kernel
theorem dX12_byTurns_137 : decode cX12_byTurns 137 = .ok (.bipush 6, 2) := by decide +kernel
theorem dX12_byTurns_139 : decode cX12_byTurns 139 = .ok (.if_icmp .ge 63, 3) := by decide +kernel
theorem dX12_byTurns_142 : decode cX12_byTurns 142 = .ok (.iload 7, 2) := by decide +kernel
theorem dX12_byTurns_144 : decode cX12_byTurns 144 = .ok (.ifCond .ge 58, 3) := by decide +kernel
theorem dX12_byTurns_147 : decode cX12_byTurns 147 = .ok (.aload_n 0, 1) := by decide +kernel
theorem dX12_byTurns_148 : decode cX12_byTurns 148 = .ok (.getfield 9, 3) := by decide +kernel
theorem dX12_byTurns_151 : decode cX12_byTurns 151 = .ok (.bipush 108, 2) := by decide +kernel
theorem dX12_byTurns_153 : decode cX12_byTurns 153 = .ok (.bipush 6, 2) := by decide +kernel
theorem dX12_byTurns_155 : decode cX12_byTurns 155 = .ok (.iload_n 3, 1) := by decide +kernel
theorem dX12_byTurns_156 : decode cX12_byTurns 156 = .ok (.imul, 1) := by decide +kernel
theorem dX12_byTurns_157 : decode cX12_byTurns 157 = .ok (.iadd, 1) := by decide +kernel
theorem dX12_byTurns_158 : decode cX12_byTurns 158 = .ok (.iload 8, 2) := by decide +kernel
theorem dX12_byTurns_160 : decode cX12_byTurns 160 = .ok (.iadd, 1) := by decide +kernel
theorem dX12_byTurns_161 : decode cX12_byTurns 161 = .ok (.iaload, 1) := by decide +kernel
theorem dX12_byTurns_162 : decode cX12_byTurns 162 = .ok (.ifCond .ne 34, 3) := by decide +kernel
theorem dX12_byTurns_165 : decode cX12_byTurns 165 = .ok (.aload_n 0, 1) := by decide +kernel
theorem dX12_byTurns_166 : decode cX12_byTurns 166 = .ok (.getfield 53, 3) := by decide +kernel
theorem dX12_byTurns_169 : decode cX12_byTurns 169 = .ok (.iconst 0, 1) := by decide +kernel
theorem dX12_byTurns_170 : decode cX12_byTurns 170 = .ok (.iload 8, 2) := by decide +kernel
theorem dX12_byTurns_172 : decode cX12_byTurns 172 = .ok (.iastore, 1) := by decide +kernel
theorem dX12_byTurns_173 : decode cX12_byTurns 173 = .ok (.aload_n 0, 1) := by decide +kernel
theorem dX12_byTurns_174 : decode cX12_byTurns 174 = .ok (.iload_n 3, 1) := by decide +kernel
theorem dX12_byTurns_175 : decode cX12_byTurns 175 = .ok (.iconst 1, 1) := by decide +kernel
theorem dX12_byTurns_176 : decode cX12_byTurns 176 = .ok (.iload 4, 2) := by decide +kernel
theorem dX12_byTurns_178 : decode cX12_byTurns 178 = .ok (.iload 5, 2) := by decide +kernel
theorem dX12_byTurns_180 : decode cX12_byTurns 180 = .ok (.invokevirtual 291, 3) := by decide +kernel
theorem dX12_byTurns_183 : decode cX12_byTurns 183 = .ok (.iload 6, 2) := by decide +kernel
theorem dX12_byTurns_185 : decode cX12_byTurns 185 = .ok (.if_icmp .ne 8, 3) := by decide +kernel
theorem dX12_byTurns_188 : decode cX12_byTurns 188 = .ok (.iload 8, 2) := by decide +kernel
theorem dX12_byTurns_190 : decode cX12_byTurns 190 = .ok (.goto 4, 3) := by decide +kernel
theorem dX12_byTurns_193 : decode cX12_byTurns 193 = .ok (.iconst (-1), 1) := by decide +kernel
theorem dX12_byTurns_194 : decode cX12_byTurns 194 = .ok (.istore 7, 2) := by decide +kernel
theorem dX12_byTurns_196 : decode cX12_byTurns 196 = .ok (.iinc 8 1, 3) := by decide +kernel
theorem dX12_byTurns_199 : decode cX12_byTurns 199 = .ok (.goto (-64), 3) := by decide +kernel
theorem dX12_byTurns_202 : decode cX12_byTurns 202 = .ok (.iload 7, 2) := by decide +kernel
theorem dX12_byTurns_204 : decode cX12_byTurns 204 = .ok (.ireturn, 1) := by decide +kernel
theorem dX12_drawn_0 : decode cX12_drawn 0 = .ok (.iload_n 2, 1) := by decide +kernel
theorem dX12_drawn_1 : decode cX12_drawn 1 = .ok (.ifCond .lt 65, 3) := by decide +kernel
theorem dX12_drawn_4 : decode cX12_drawn 4 = .ok (.iload_n 2, 1) := by decide +kernel
theorem dX12_drawn_5 : decode cX12_drawn 5 = .ok (.sipush 10000, 3) := by decide +kernel
theorem dX12_drawn_8 : decode cX12_drawn 8 = .ok (.idiv, 1) := by decide +kernel
theorem dX12_drawn_9 : decode cX12_drawn 9 = .ok (.i2l, 1) := by decide +kernel
theorem dX12_drawn_10 : decode cX12_drawn 10 = .ok (.lconst 1, 1) := by decide +kernel
theorem dX12_drawn_11 : decode cX12_drawn 11 = .ok (.ldc2_w 294, 3) := by decide +kernel
theorem dX12_drawn_14 : decode cX12_drawn 14 = .ok (.invokestatic 96, 3) := by decide +kernel
theorem dX12_drawn_17 : decode cX12_drawn 17 = .ok (.ifCond .eq 49, 3) := by decide +kernel
theorem dX12_drawn_20 : decode cX12_drawn 20 = .ok (.iload_n 2, 1) := by decide +kernel
theorem dX12_drawn_21 : decode cX12_drawn 21 = .ok (.bipush 100, 2) := by decide +kernel
theorem dX12_drawn_23 : decode cX12_drawn 23 = .ok (.idiv, 1) := by decide +kernel
theorem dX12_drawn_24 : decode cX12_drawn 24 = .ok (.bipush 100, 2) := by decide +kernel
theorem dX12_drawn_26 : decode cX12_drawn 26 = .ok (.irem, 1) := by decide +kernel
theorem dX12_drawn_27 : decode cX12_drawn 27 = .ok (.i2l, 1) := by decide +kernel
theorem dX12_drawn_28 : decode cX12_drawn 28 = .ok (.lconst 1, 1) := by decide +kernel
theorem dX12_drawn_29 : decode cX12_drawn 29 = .ok (.ldc2_w 246, 3) := by decide +kernel
theorem dX12_drawn_32 : decode cX12_drawn 32 = .ok (.invokestatic 96, 3) := by decide +kernel
theorem dX12_drawn_35 : decode cX12_drawn 35 = .ok (.ifCond .eq 31, 3) := by decide +kernel
theorem dX12_drawn_38 : decode cX12_drawn 38 = .ok (.iload_n 2, 1) := by decide +kernel
theorem dX12_drawn_39 : decode cX12_drawn 39 = .ok (.bipush 100, 2) := by decide +kernel
theorem dX12_drawn_41 : decode cX12_drawn 41 = .ok (.irem, 1) := by decide +kernel
theorem dX12_drawn_42 : decode cX12_drawn 42 = .ok (.i2l, 1) := by decide +kernel
theorem dX12_drawn_43 : decode cX12_drawn 43 = .ok (.lconst 0, 1) := by decide +kernel
theorem dX12_drawn_44 : decode cX12_drawn 44 = .ok (.ldc2_w 254, 3) := by decide +kernel
theorem dX12_drawn_47 : decode cX12_drawn 47 = .ok (.invokestatic 96, 3) := by decide +kernel
theorem dX12_drawn_50 : decode cX12_drawn 50 = .ok (.ifCond .eq 16, 3) := by decide +kernel
theorem dX12_drawn_53 : decode cX12_drawn 53 = .ok (.iload_n 3, 1) := by decide +kernel
theorem dX12_drawn_54 : decode cX12_drawn 54 = .ok (.iconst (-1), 1) := by decide +kernel
theorem dX12_drawn_55 : decode cX12_drawn 55 = .ok (.if_icmp .eq 13, 3) := by decide +kernel
theorem dX12_drawn_58 : decode cX12_drawn 58 = .ok (.iload_n 3, 1) := by decide +kernel
theorem dX12_drawn_59 : decode cX12_drawn 59 = .ok (.i2l, 1) := by decide +kernel
theorem dX12_drawn_60 : decode cX12_drawn 60 = .ok (.invokestatic 106, 3) := by decide +kernel
theorem dX12_drawn_63 : decode cX12_drawn 63 = .ok (.ifCond .ne 5, 3) := by decide +kernel
theorem dX12_drawn_66 : decode cX12_drawn 66 = .ok (.iconst (-1), 1) := by decide +kernel
theorem dX12_drawn_67 : decode cX12_drawn 67 = .ok (.ireturn, 1) := by decide +kernel
theorem dX12_drawn_68 : decode cX12_drawn 68 = .ok (.iload_n 1, 1) := by decide +kernel
theorem dX12_drawn_69 : decode cX12_drawn 69 = .ok (.istore 4, 2) := by decide +kernel
theorem dX12_drawn_71 : decode cX12_drawn 71 = .ok (.iconst 0, 1) := by decide +kernel
theorem dX12_drawn_72 : decode cX12_drawn 72 = .ok (.istore 5, 2) := by decide +kernel
theorem dX12_drawn_74 : decode cX12_drawn 74 = .ok (.iconst 0, 1) := by decide +kernel
theorem dX12_drawn_75 : decode cX12_drawn 75 = .ok (.istore 6, 2) := by decide +kernel
theorem dX12_drawn_77 : decode cX12_drawn 77 = .ok (.iconst 0, 1) := by decide +kernel
theorem dX12_drawn_78 : decode cX12_drawn 78 = .ok (.istore 7, 2) := by decide +kernel
theorem dX12_drawn_80 : decode cX12_drawn 80 = .ok (.iload 7, 2) := by decide +kernel
theorem dX12_drawn_82 : decode cX12_drawn 82 = .ok (.iload_n 2, 1) := by decide +kernel
theorem dX12_drawn_83 : decode cX12_drawn 83 = .ok (.sipush 10000, 3) := by decide +kernel
theorem dX12_drawn_86 : decode cX12_drawn 86 = .ok (.idiv, 1) := by decide +kernel
theorem dX12_drawn_87 : decode cX12_drawn 87 = .ok (.if_icmp .ge 107, 3) := by decide +kernel
theorem dX12_drawn_90 : decode cX12_drawn 90 = .ok (.aload_n 0, 1) := by decide +kernel
theorem dX12_drawn_91 : decode cX12_drawn 91 = .ok (.invokevirtual 220, 3) := by decide +kernel
theorem dX12_drawn_94 : decode cX12_drawn 94 = .ok (.iconst 0, 1) := by decide +kernel
theorem dX12_drawn_95 : decode cX12_drawn 95 = .ok (.istore 8, 2) := by decide +kernel
theorem dX12_drawn_97 : decode cX12_drawn 97 = .ok (.iload 8, 2) := by decide +kernel
theorem dX12_drawn_99 : decode cX12_drawn 99 = .ok (.iload_n 2, 1) := by decide +kernel
theorem dX12_drawn_100 : decode cX12_drawn 100 = .ok (.bipush 100, 2) := by decide +kernel
theorem dX12_drawn_102 : decode cX12_drawn 102 = .ok (.idiv, 1) := by decide +kernel
theorem dX12_drawn_103 : decode cX12_drawn 103 = .ok (.bipush 100, 2) := by decide +kernel
theorem dX12_drawn_105 : decode cX12_drawn 105 = .ok (.irem, 1) := by decide +kernel
theorem dX12_drawn_106 : decode cX12_drawn 106 = .ok (.if_icmp .ge 54, 3) := by decide +kernel
theorem dX12_drawn_109 : decode cX12_drawn 109 = .ok (.iload 4, 2) := by decide +kernel
theorem dX12_drawn_111 : decode cX12_drawn 111 = .ok (.ldc_w 296, 3) := by decide +kernel
theorem dX12_drawn_114 : decode cX12_drawn 114 = .ok (.imul, 1) := by decide +kernel
theorem dX12_drawn_115 : decode cX12_drawn 115 = .ok (.sipush 12345, 3) := by decide +kernel
theorem dX12_drawn_118 : decode cX12_drawn 118 = .ok (.iadd, 1) := by decide +kernel
theorem dX12_drawn_119 : decode cX12_drawn 119 = .ok (.istore 4, 2) := by decide +kernel
theorem dX12_drawn_121 : decode cX12_drawn 121 = .ok (.iload 4, 2) := by decide +kernel
theorem dX12_drawn_123 : decode cX12_drawn 123 = .ok (.bipush 16, 2) := by decide +kernel
theorem dX12_drawn_125 : decode cX12_drawn 125 = .ok (.iushr, 1) := by decide +kernel
theorem dX12_drawn_126 : decode cX12_drawn 126 = .ok (.bipush 12, 2) := by decide +kernel
theorem dX12_drawn_128 : decode cX12_drawn 128 = .ok (.irem, 1) := by decide +kernel
theorem dX12_drawn_129 : decode cX12_drawn 129 = .ok (.iload_n 2, 1) := by decide +kernel
theorem dX12_drawn_130 : decode cX12_drawn 130 = .ok (.bipush 100, 2) := by decide +kernel
theorem dX12_drawn_132 : decode cX12_drawn 132 = .ok (.irem, 1) := by decide +kernel
theorem dX12_drawn_133 : decode cX12_drawn 133 = .ok (.if_icmp .ge 17, 3) := by decide +kernel
theorem dX12_drawn_136 : decode cX12_drawn 136 = .ok (.aload_n 0, 1) := by decide +kernel
theorem dX12_drawn_137 : decode cX12_drawn 137 = .ok (.getfield 31, 3) := by decide +kernel
theorem dX12_drawn_140 : decode cX12_drawn 140 = .ok (.iload 4, 2) := by decide +kernel
theorem dX12_drawn_142 : decode cX12_drawn 142 = .ok (.bipush 8, 2) := by decide +kernel
theorem dX12_drawn_144 : decode cX12_drawn 144 = .ok (.iushr, 1) := by decide +kernel
theorem dX12_drawn_145 : decode cX12_drawn 145 = .ok (.bipush 36, 2) := by decide +kernel
theorem dX12_drawn_147 : decode cX12_drawn 147 = .ok (.irem, 1) := by decide +kernel
theorem dX12_drawn_148 : decode cX12_drawn 148 = .ok (.iconst 0, 1) := by decide +kernel
theorem dX12_drawn_149 : decode cX12_drawn 149 = .ok (.iastore, 1) := by decide +kernel
theorem dX12_drawn_150 : decode cX12_drawn 150 = .ok (.aload_n 0, 1) := by decide +kernel
theorem dX12_drawn_151 : decode cX12_drawn 151 = .ok (.invokevirtual 217, 3) := by decide +kernel
theorem dX12_drawn_154 : decode cX12_drawn 154 = .ok (.iinc 8 1, 3) := by decide +kernel
theorem dX12_drawn_157 : decode cX12_drawn 157 = .ok (.goto (-60), 3) := by decide +kernel
theorem dX12_drawn_160 : decode cX12_drawn 160 = .ok (.iload 5, 2) := by decide +kernel
theorem dX12_drawn_162 : decode cX12_drawn 162 = .ok (.aload_n 0, 1) := by decide +kernel
theorem dX12_drawn_163 : decode cX12_drawn 163 = .ok (.invokevirtual 232, 3) := by decide +kernel
theorem dX12_drawn_166 : decode cX12_drawn 166 = .ok (.iadd, 1) := by decide +kernel
theorem dX12_drawn_167 : decode cX12_drawn 167 = .ok (.istore 5, 2) := by decide +kernel
theorem dX12_drawn_169 : decode cX12_drawn 169 = .ok (.iload 6, 2) := by decide +kernel
theorem dX12_drawn_171 : decode cX12_drawn 171 = .ok (.iload_n 3, 1) := by decide +kernel
theorem dX12_drawn_172 : decode cX12_drawn 172 = .ok (.ifCond .lt 12, 3) := by decide +kernel
theorem dX12_drawn_175 : decode cX12_drawn 175 = .ok (.aload_n 0, 1) := by decide +kernel
theorem dX12_drawn_176 : decode cX12_drawn 176 = .ok (.getfield 34, 3) := by decide +kernel
theorem dX12_drawn_179 : decode cX12_drawn 179 = .ok (.iload_n 3, 1) := by decide +kernel
theorem dX12_drawn_180 : decode cX12_drawn 180 = .ok (.iaload, 1) := by decide +kernel
theorem dX12_drawn_181 : decode cX12_drawn 181 = .ok (.goto 4, 3) := by decide +kernel
theorem dX12_drawn_184 : decode cX12_drawn 184 = .ok (.iconst 0, 1) := by decide +kernel
theorem dX12_drawn_185 : decode cX12_drawn 185 = .ok (.iadd, 1) := by decide +kernel
theorem dX12_drawn_186 : decode cX12_drawn 186 = .ok (.istore 6, 2) := by decide +kernel
theorem dX12_drawn_188 : decode cX12_drawn 188 = .ok (.iinc 7 1, 3) := by decide +kernel
theorem dX12_drawn_191 : decode cX12_drawn 191 = .ok (.goto (-111), 3) := by decide +kernel
theorem dX12_drawn_194 : decode cX12_drawn 194 = .ok (.iload_n 3, 1) := by decide +kernel
theorem dX12_drawn_195 : decode cX12_drawn 195 = .ok (.ifCond .ge 8, 3) := by decide +kernel
theorem dX12_drawn_198 : decode cX12_drawn 198 = .ok (.iload 5, 2) := by decide +kernel
theorem dX12_drawn_200 : decode cX12_drawn 200 = .ok (.goto 5, 3) := by decide +kernel
theorem dX12_drawn_203 : decode cX12_drawn 203 = .ok (.iload 6, 2) := by decide +kernel
theorem dX12_drawn_205 : decode cX12_drawn 205 = .ok (.ireturn, 1) := by decide +kernel
theorem dX12_hour_0 : decode cX12_hour 0 = .ok (.aload_n 0, 1) := by decide +kernel
theorem dX12_hour_1 : decode cX12_hour 1 = .ok (.invokevirtual 220, 3) := by decide +kernel
theorem dX12_hour_4 : decode cX12_hour 4 = .ok (.aload_n 0, 1) := by decide +kernel
theorem dX12_hour_5 : decode cX12_hour 5 = .ok (.invokevirtual 217, 3) := by decide +kernel
theorem dX12_hour_8 : decode cX12_hour 8 = .ok (.iconst 0, 1) := by decide +kernel
theorem dX12_hour_9 : decode cX12_hour 9 = .ok (.istore_n 1, 1) := by decide +kernel
theorem dX12_hour_10 : decode cX12_hour 10 = .ok (.iload_n 1, 1) := by decide +kernel
theorem dX12_hour_11 : decode cX12_hour 11 = .ok (.bipush 36, 2) := by decide +kernel
theorem dX12_hour_13 : decode cX12_hour 13 = .ok (.if_icmp .ge 36, 3) := by decide +kernel
theorem dX12_hour_16 : decode cX12_hour 16 = .ok (.aload_n 0, 1) := by decide +kernel
theorem dX12_hour_17 : decode cX12_hour 17 = .ok (.getfield 9, 3) := by decide +kernel
theorem dX12_hour_20 : decode cX12_hour 20 = .ok (.iload_n 1, 1) := by decide +kernel
theorem dX12_hour_21 : decode cX12_hour 21 = .ok (.aload_n 0, 1) := by decide +kernel
theorem dX12_hour_22 : decode cX12_hour 22 = .ok (.getfield 31, 3) := by decide +kernel
theorem dX12_hour_25 : decode cX12_hour 25 = .ok (.iload_n 1, 1) := by decide +kernel
theorem dX12_hour_26 : decode cX12_hour 26 = .ok (.iaload, 1) := by decide +kernel
theorem dX12_hour_27 : decode cX12_hour 27 = .ok (.iastore, 1) := by decide +kernel
theorem dX12_hour_28 : decode cX12_hour 28 = .ok (.aload_n 0, 1) := by decide +kernel
theorem dX12_hour_29 : decode cX12_hour 29 = .ok (.getfield 9, 3) := by decide +kernel
theorem dX12_hour_32 : decode cX12_hour 32 = .ok (.bipush 108, 2) := by decide +kernel
theorem dX12_hour_34 : decode cX12_hour 34 = .ok (.iload_n 1, 1) := by decide +kernel
theorem dX12_hour_35 : decode cX12_hour 35 = .ok (.iadd, 1) := by decide +kernel
theorem dX12_hour_36 : decode cX12_hour 36 = .ok (.aload_n 0, 1) := by decide +kernel
theorem dX12_hour_37 : decode cX12_hour 37 = .ok (.getfield 34, 3) := by decide +kernel
theorem dX12_hour_40 : decode cX12_hour 40 = .ok (.iload_n 1, 1) := by decide +kernel
theorem dX12_hour_41 : decode cX12_hour 41 = .ok (.iaload, 1) := by decide +kernel
theorem dX12_hour_42 : decode cX12_hour 42 = .ok (.iastore, 1) := by decide +kernel
theorem dX12_hour_43 : decode cX12_hour 43 = .ok (.iinc 1 1, 3) := by decide +kernel
theorem dX12_hour_46 : decode cX12_hour 46 = .ok (.goto (-36), 3) := by decide +kernel
theorem dX12_hour_49 : decode cX12_hour 49 = .ok (.aload_n 0, 1) := by decide +kernel
theorem dX12_hour_50 : decode cX12_hour 50 = .ok (.getfield 9, 3) := by decide +kernel
theorem dX12_hour_53 : decode cX12_hour 53 = .ok (.sipush 146, 3) := by decide +kernel
theorem dX12_hour_56 : decode cX12_hour 56 = .ok (.aload_n 0, 1) := by decide +kernel
theorem dX12_hour_57 : decode cX12_hour 57 = .ok (.getfield 188, 3) := by decide +kernel
theorem dX12_hour_60 : decode cX12_hour 60 = .ok (.iastore, 1) := by decide +kernel
theorem dX12_hour_61 : decode cX12_hour 61 = .ok (.aload_n 0, 1) := by decide +kernel
theorem dX12_hour_62 : decode cX12_hour 62 = .ok (.getfield 56, 3) := by decide +kernel
theorem dX12_hour_65 : decode cX12_hour 65 = .ok (.iconst 0, 1) := by decide +kernel
theorem dX12_hour_66 : decode cX12_hour 66 = .ok (.dup2, 1) := by decide +kernel
theorem dX12_hour_67 : decode cX12_hour 67 = .ok (.iaload, 1) := by decide +kernel
theorem dX12_hour_68 : decode cX12_hour 68 = .ok (.iconst 1, 1) := by decide +kernel
theorem dX12_hour_69 : decode cX12_hour 69 = .ok (.iadd, 1) := by decide +kernel
theorem dX12_hour_70 : decode cX12_hour 70 = .ok (.iastore, 1) := by decide +kernel
theorem dX12_hour_71 : decode cX12_hour 71 = .ok (.aload_n 0, 1) := by decide +kernel
theorem dX12_hour_72 : decode cX12_hour 72 = .ok (.getfield 56, 3) := by decide +kernel
theorem dX12_hour_75 : decode cX12_hour 75 = .ok (.iconst 1, 1) := by decide +kernel
theorem dX12_hour_76 : decode cX12_hour 76 = .ok (.dup2, 1) := by decide +kernel
theorem dX12_hour_77 : decode cX12_hour 77 = .ok (.iaload, 1) := by decide +kernel
theorem dX12_hour_78 : decode cX12_hour 78 = .ok (.aload_n 0, 1) := by decide +kernel
theorem dX12_hour_79 : decode cX12_hour 79 = .ok (.getfield 205, 3) := by decide +kernel
theorem dX12_hour_82 : decode cX12_hour 82 = .ok (.iadd, 1) := by decide +kernel
theorem dX12_hour_83 : decode cX12_hour 83 = .ok (.iastore, 1) := by decide +kernel
theorem dX12_hour_84 : decode cX12_hour 84 = .ok (.aload_n 0, 1) := by decide +kernel
theorem dX12_hour_85 : decode cX12_hour 85 = .ok (.getfield 56, 3) := by decide +kernel
theorem dX12_hour_88 : decode cX12_hour 88 = .ok (.iconst 2, 1) := by decide +kernel
theorem dX12_hour_89 : decode cX12_hour 89 = .ok (.dup2, 1) := by decide +kernel
theorem dX12_hour_90 : decode cX12_hour 90 = .ok (.iaload, 1) := by decide +kernel
theorem dX12_hour_91 : decode cX12_hour 91 = .ok (.aload_n 0, 1) := by decide +kernel
theorem dX12_hour_92 : decode cX12_hour 92 = .ok (.getfield 208, 3) := by decide +kernel
theorem dX12_hour_95 : decode cX12_hour 95 = .ok (.iadd, 1) := by decide +kernel
theorem dX12_hour_96 : decode cX12_hour 96 = .ok (.iastore, 1) := by decide +kernel
theorem dX12_hour_97 : decode cX12_hour 97 = .ok (.aload_n 0, 1) := by decide +kernel
theorem dX12_hour_98 : decode cX12_hour 98 = .ok (.getfield 56, 3) := by decide +kernel
theorem dX12_hour_101 : decode cX12_hour 101 = .ok (.iconst 3, 1) := by decide +kernel
theorem dX12_hour_102 : decode cX12_hour 102 = .ok (.dup2, 1) := by decide +kernel
theorem dX12_hour_103 : decode cX12_hour 103 = .ok (.iaload, 1) := by decide +kernel
theorem dX12_hour_104 : decode cX12_hour 104 = .ok (.aload_n 0, 1) := by decide +kernel
theorem dX12_hour_105 : decode cX12_hour 105 = .ok (.getfield 211, 3) := by decide +kernel
theorem dX12_hour_108 : decode cX12_hour 108 = .ok (.iadd, 1) := by decide +kernel
theorem dX12_hour_109 : decode cX12_hour 109 = .ok (.iastore, 1) := by decide +kernel
theorem dX12_hour_110 : decode cX12_hour 110 = .ok (.aload_n 0, 1) := by decide +kernel
theorem dX12_hour_111 : decode cX12_hour 111 = .ok (.invokevirtual 232, 3) := by decide +kernel
theorem dX12_hour_114 : decode cX12_hour 114 = .ok (.ireturn, 1) := by decide +kernel
theorem dX12_stub_0 : decode cX12_stub 0 = .ok (.iload_n 1, 1) := by decide +kernel
theorem dX12_stub_1 : decode cX12_stub 1 = .ok (.i2l, 1) := by decide +kernel
theorem dX12_stub_2 : decode cX12_stub 2 = .ok (.invokestatic 106, 3) := by decide +kernel
theorem dX12_stub_5 : decode cX12_stub 5 = .ok (.ifCond .eq 15, 3) := by decide +kernel
theorem dX12_stub_8 : decode cX12_stub 8 = .ok (.iload_n 2, 1) := by decide +kernel
theorem dX12_stub_9 : decode cX12_stub 9 = .ok (.i2l, 1) := by decide +kernel
theorem dX12_stub_10 : decode cX12_stub 10 = .ok (.lconst 1, 1) := by decide +kernel
theorem dX12_stub_11 : decode cX12_stub 11 = .ok (.ldc2_w 110, 3) := by decide +kernel
theorem dX12_stub_14 : decode cX12_stub 14 = .ok (.invokestatic 96, 3) := by decide +kernel
theorem dX12_stub_17 : decode cX12_stub 17 = .ok (.ifCond .ne 5, 3) := by decide +kernel
theorem dX12_stub_20 : decode cX12_stub 20 = .ok (.iconst (-1), 1) := by decide +kernel
theorem dX12_stub_21 : decode cX12_stub 21 = .ok (.ireturn, 1) := by decide +kernel
theorem dX12_stub_22 : decode cX12_stub 22 = .ok (.aload_n 0, 1) := by decide +kernel
theorem dX12_stub_23 : decode cX12_stub 23 = .ok (.getfield 9, 3) := by decide +kernel
theorem dX12_stub_26 : decode cX12_stub 26 = .ok (.bipush 108, 2) := by decide +kernel
theorem dX12_stub_28 : decode cX12_stub 28 = .ok (.iload_n 1, 1) := by decide +kernel
theorem dX12_stub_29 : decode cX12_stub 29 = .ok (.iadd, 1) := by decide +kernel
theorem dX12_stub_30 : decode cX12_stub 30 = .ok (.iaload, 1) := by decide +kernel
theorem dX12_stub_31 : decode cX12_stub 31 = .ok (.iconst 1, 1) := by decide +kernel
theorem dX12_stub_32 : decode cX12_stub 32 = .ok (.if_icmp .ne 6, 3) := by decide +kernel
theorem dX12_stub_35 : decode cX12_stub 35 = .ok (.bipush (-5), 2) := by decide +kernel
theorem dX12_stub_37 : decode cX12_stub 37 = .ok (.ireturn, 1) := by decide +kernel
theorem dX12_stub_38 : decode cX12_stub 38 = .ok (.aload_n 0, 1) := by decide +kernel
theorem dX12_stub_39 : decode cX12_stub 39 = .ok (.getfield 9, 3) := by decide +kernel
theorem dX12_stub_42 : decode cX12_stub 42 = .ok (.iload_n 1, 1) := by decide +kernel
theorem dX12_stub_43 : decode cX12_stub 43 = .ok (.bipush 99, 2) := by decide +kernel
theorem dX12_stub_45 : decode cX12_stub 45 = .ok (.aload_n 0, 1) := by decide +kernel
theorem dX12_stub_46 : decode cX12_stub 46 = .ok (.getfield 9, 3) := by decide +kernel
theorem dX12_stub_49 : decode cX12_stub 49 = .ok (.iload_n 1, 1) := by decide +kernel
theorem dX12_stub_50 : decode cX12_stub 50 = .ok (.iaload, 1) := by decide +kernel
theorem dX12_stub_51 : decode cX12_stub 51 = .ok (.iload_n 2, 1) := by decide +kernel
theorem dX12_stub_52 : decode cX12_stub 52 = .ok (.iadd, 1) := by decide +kernel
theorem dX12_stub_53 : decode cX12_stub 53 = .ok (.invokestatic 257, 3) := by decide +kernel
theorem dX12_stub_56 : decode cX12_stub 56 = .ok (.iastore, 1) := by decide +kernel
theorem dX12_stub_57 : decode cX12_stub 57 = .ok (.aload_n 0, 1) := by decide +kernel
theorem dX12_stub_58 : decode cX12_stub 58 = .ok (.getfield 56, 3) := by decide +kernel
theorem dX12_stub_61 : decode cX12_stub 61 = .ok (.iconst 4, 1) := by decide +kernel
theorem dX12_stub_62 : decode cX12_stub 62 = .ok (.dup2, 1) := by decide +kernel
theorem dX12_stub_63 : decode cX12_stub 63 = .ok (.iaload, 1) := by decide +kernel
theorem dX12_stub_64 : decode cX12_stub 64 = .ok (.iconst 1, 1) := by decide +kernel
theorem dX12_stub_65 : decode cX12_stub 65 = .ok (.iadd, 1) := by decide +kernel
theorem dX12_stub_66 : decode cX12_stub 66 = .ok (.iastore, 1) := by decide +kernel
theorem dX12_stub_67 : decode cX12_stub 67 = .ok (.aload_n 0, 1) := by decide +kernel
theorem dX12_stub_68 : decode cX12_stub 68 = .ok (.getfield 9, 3) := by decide +kernel
theorem dX12_stub_71 : decode cX12_stub 71 = .ok (.iload_n 1, 1) := by decide +kernel
theorem dX12_stub_72 : decode cX12_stub 72 = .ok (.iaload, 1) := by decide +kernel
theorem dX12_stub_73 : decode cX12_stub 73 = .ok (.ireturn, 1) := by decide +kernel
theorem dX12_blow_0 : decode cX12_blow 0 = .ok (.iload_n 1, 1) := by decide +kernel
theorem dX12_blow_1 : decode cX12_blow 1 = .ok (.i2l, 1) := by decide +kernel
theorem dX12_blow_2 : decode cX12_blow 2 = .ok (.invokestatic 106, 3) := by decide +kernel
theorem dX12_blow_5 : decode cX12_blow 5 = .ok (.ifCond .ne 5, 3) := by decide +kernel
theorem dX12_blow_8 : decode cX12_blow 8 = .ok (.iconst (-1), 1) := by decide +kernel
theorem dX12_blow_9 : decode cX12_blow 9 = .ok (.ireturn, 1) := by decide +kernel
theorem dX12_blow_10 : decode cX12_blow 10 = .ok (.aload_n 0, 1) := by decide +kernel
theorem dX12_blow_11 : decode cX12_blow 11 = .ok (.getfield 9, 3) := by decide +kernel
theorem dX12_blow_14 : decode cX12_blow 14 = .ok (.iload_n 1, 1) := by decide +kernel
theorem dX12_blow_15 : decode cX12_blow 15 = .ok (.iaload, 1) := by decide +kernel
theorem dX12_blow_16 : decode cX12_blow 16 = .ok (.istore_n 2, 1) := by decide +kernel
theorem dX12_blow_17 : decode cX12_blow 17 = .ok (.aload_n 0, 1) := by decide +kernel
theorem dX12_blow_18 : decode cX12_blow 18 = .ok (.getfield 9, 3) := by decide +kernel
theorem dX12_blow_21 : decode cX12_blow 21 = .ok (.iload_n 1, 1) := by decide +kernel
theorem dX12_blow_22 : decode cX12_blow 22 = .ok (.iconst 0, 1) := by decide +kernel
theorem dX12_blow_23 : decode cX12_blow 23 = .ok (.iastore, 1) := by decide +kernel
theorem dX12_blow_24 : decode cX12_blow 24 = .ok (.iload_n 2, 1) := by decide +kernel
theorem dX12_blow_25 : decode cX12_blow 25 = .ok (.ireturn, 1) := by decide +kernel
theorem dX12_song_0 : decode cX12_song 0 = .ok (.iload_n 1, 1) := by decide +kernel
theorem dX12_song_1 : decode cX12_song 1 = .ok (.i2l, 1) := by decide +kernel
theorem dX12_song_2 : decode cX12_song 2 = .ok (.invokestatic 106, 3) := by decide +kernel
theorem dX12_song_5 : decode cX12_song 5 = .ok (.ifCond .ne 5, 3) := by decide +kernel
theorem dX12_song_8 : decode cX12_song 8 = .ok (.iconst (-1), 1) := by decide +kernel
theorem dX12_song_9 : decode cX12_song 9 = .ok (.ireturn, 1) := by decide +kernel
theorem dX12_song_10 : decode cX12_song 10 = .ok (.aload_n 0, 1) := by decide +kernel
theorem dX12_song_11 : decode cX12_song 11 = .ok (.getfield 9, 3) := by decide +kernel
theorem dX12_song_14 : decode cX12_song 14 = .ok (.bipush 108, 2) := by decide +kernel
theorem dX12_song_16 : decode cX12_song 16 = .ok (.iload_n 1, 1) := by decide +kernel
theorem dX12_song_17 : decode cX12_song 17 = .ok (.iadd, 1) := by decide +kernel
theorem dX12_song_18 : decode cX12_song 18 = .ok (.iaload, 1) := by decide +kernel
theorem dX12_song_19 : decode cX12_song 19 = .ok (.ifCond .ne 6, 3) := by decide +kernel
theorem dX12_song_22 : decode cX12_song 22 = .ok (.bipush (-5), 2) := by decide +kernel
theorem dX12_song_24 : decode cX12_song 24 = .ok (.ireturn, 1) := by decide +kernel
theorem dX12_song_25 : decode cX12_song 25 = .ok (.aload_n 0, 1) := by decide +kernel
theorem dX12_song_26 : decode cX12_song 26 = .ok (.getfield 9, 3) := by decide +kernel
theorem dX12_song_29 : decode cX12_song 29 = .ok (.bipush 108, 2) := by decide +kernel
theorem dX12_song_31 : decode cX12_song 31 = .ok (.iload_n 1, 1) := by decide +kernel
theorem dX12_song_32 : decode cX12_song 32 = .ok (.iadd, 1) := by decide +kernel
theorem dX12_song_33 : decode cX12_song 33 = .ok (.iconst 0, 1) := by decide +kernel
theorem dX12_song_34 : decode cX12_song 34 = .ok (.iastore, 1) := by decide +kernel
theorem dX12_song_35 : decode cX12_song 35 = .ok (.aload_n 0, 1) := by decide +kernel
theorem dX12_song_36 : decode cX12_song 36 = .ok (.getfield 9, 3) := by decide +kernel
theorem dX12_song_39 : decode cX12_song 39 = .ok (.iload_n 1, 1) := by decide +kernel
theorem dX12_song_40 : decode cX12_song 40 = .ok (.iconst 0, 1) := by decide +kernel
theorem dX12_song_41 : decode cX12_song 41 = .ok (.iastore, 1) := by decide +kernel
theorem dX12_song_42 : decode cX12_song 42 = .ok (.aload_n 0, 1) := by decide +kernel
theorem dX12_song_43 : decode cX12_song 43 = .ok (.getfield 56, 3) := by decide +kernel
theorem dX12_song_46 : decode cX12_song 46 = .ok (.iconst 2, 1) := by decide +kernel
theorem dX12_song_47 : decode cX12_song 47 = .ok (.dup2, 1) := by decide +kernel
theorem dX12_song_48 : decode cX12_song 48 = .ok (.iaload, 1) := by decide +kernel
theorem dX12_song_49 : decode cX12_song 49 = .ok (.iconst 1, 1) := by decide +kernel
theorem dX12_song_50 : decode cX12_song 50 = .ok (.iadd, 1) := by decide +kernel
theorem dX12_song_51 : decode cX12_song 51 = .ok (.iastore, 1) := by decide +kernel
theorem dX12_song_52 : decode cX12_song 52 = .ok (.iconst 1, 1) := by decide +kernel
theorem dX12_song_53 : decode cX12_song 53 = .ok (.ireturn, 1) := by decide +kernel
theorem dX12_led_0 : decode cX12_led 0 = .ok (.iload_n 1, 1) := by decide +kernel
theorem dX12_led_1 : decode cX12_led 1 = .ok (.i2l, 1) := by decide +kernel
theorem dX12_led_2 : decode cX12_led 2 = .ok (.lconst 0, 1) := by decide +kernel
theorem dX12_led_3 : decode cX12_led 3 = .ok (.ldc2_w 116, 3) := by decide +kernel
theorem dX12_led_6 : decode cX12_led 6 = .ok (.invokestatic 96, 3) := by decide +kernel
theorem dX12_led_9 : decode cX12_led 9 = .ok (.ifCond .eq 12, 3) := by decide +kernel
theorem dX12_led_12 : decode cX12_led 12 = .ok (.aload_n 0, 1) := by decide +kernel
theorem dX12_led_13 : decode cX12_led 13 = .ok (.getfield 56, 3) := by decide +kernel
theorem dX12_led_16 : decode cX12_led 16 = .ok (.iload_n 1, 1) := by decide +kernel
theorem dX12_led_17 : decode cX12_led 17 = .ok (.iaload, 1) := by decide +kernel
theorem dX12_led_18 : decode cX12_led 18 = .ok (.goto 4, 3) := by decide +kernel
theorem dX12_led_21 : decode cX12_led 21 = .ok (.iconst (-1), 1) := by decide +kernel
theorem dX12_led_22 : decode cX12_led 22 = .ok (.ireturn, 1) := by decide +kernel
theorem dX12_image_0 : decode cX12_image 0 = .ok (.aload_n 0, 1) := by decide +kernel
theorem dX12_image_1 : decode cX12_image 1 = .ok (.iconst 1, 1) := by decide +kernel
theorem dX12_image_2 : decode cX12_image 2 = .ok (.putfield 297, 3) := by decide +kernel
theorem dX12_image_5 : decode cX12_image 5 = .ok (.iconst 0, 1) := by decide +kernel
theorem dX12_image_6 : decode cX12_image 6 = .ok (.istore_n 1, 1) := by decide +kernel
theorem dX12_image_7 : decode cX12_image 7 = .ok (.iload_n 1, 1) := by decide +kernel
theorem dX12_image_8 : decode cX12_image 8 = .ok (.sipush 146, 3) := by decide +kernel
theorem dX12_image_11 : decode cX12_image 11 = .ok (.if_icmp .gt 21, 3) := by decide +kernel
theorem dX12_image_14 : decode cX12_image 14 = .ok (.aload_n 0, 1) := by decide +kernel
theorem dX12_image_15 : decode cX12_image 15 = .ok (.getfield 59, 3) := by decide +kernel
theorem dX12_image_18 : decode cX12_image 18 = .ok (.iload_n 1, 1) := by decide +kernel
theorem dX12_image_19 : decode cX12_image 19 = .ok (.aload_n 0, 1) := by decide +kernel
theorem dX12_image_20 : decode cX12_image 20 = .ok (.getfield 9, 3) := by decide +kernel
theorem dX12_image_23 : decode cX12_image 23 = .ok (.iload_n 1, 1) := by decide +kernel
theorem dX12_image_24 : decode cX12_image 24 = .ok (.iaload, 1) := by decide +kernel
theorem dX12_image_25 : decode cX12_image 25 = .ok (.iastore, 1) := by decide +kernel
theorem dX12_image_26 : decode cX12_image 26 = .ok (.iinc 1 1, 3) := by decide +kernel
theorem dX12_image_29 : decode cX12_image 29 = .ok (.goto (-22), 3) := by decide +kernel
theorem dX12_image_32 : decode cX12_image 32 = .ok (.iconst 0, 1) := by decide +kernel
theorem dX12_image_33 : decode cX12_image 33 = .ok (.istore_n 1, 1) := by decide +kernel
theorem dX12_image_34 : decode cX12_image 34 = .ok (.iload_n 1, 1) := by decide +kernel
theorem dX12_image_35 : decode cX12_image 35 = .ok (.iconst 5, 1) := by decide +kernel
theorem dX12_image_36 : decode cX12_image 36 = .ok (.if_icmp .ge 21, 3) := by decide +kernel
theorem dX12_image_39 : decode cX12_image 39 = .ok (.aload_n 0, 1) := by decide +kernel
theorem dX12_image_40 : decode cX12_image 40 = .ok (.getfield 62, 3) := by decide +kernel
theorem dX12_image_43 : decode cX12_image 43 = .ok (.iload_n 1, 1) := by decide +kernel
theorem dX12_image_44 : decode cX12_image 44 = .ok (.aload_n 0, 1) := by decide +kernel
theorem dX12_image_45 : decode cX12_image 45 = .ok (.getfield 56, 3) := by decide +kernel
theorem dX12_image_48 : decode cX12_image 48 = .ok (.iload_n 1, 1) := by decide +kernel
theorem dX12_image_49 : decode cX12_image 49 = .ok (.iaload, 1) := by decide +kernel
theorem dX12_image_50 : decode cX12_image 50 = .ok (.iastore, 1) := by decide +kernel
theorem dX12_image_51 : decode cX12_image 51 = .ok (.iinc 1 1, 3) := by decide +kernel
theorem dX12_image_54 : decode cX12_image 54 = .ok (.goto (-20), 3) := by decide +kernel
theorem dX12_image_57 : decode cX12_image 57 = .ok (.aload_n 0, 1) := by decide +kernel
theorem dX12_image_58 : decode cX12_image 58 = .ok (.getfield 56, 3) := by decide +kernel
theorem dX12_image_61 : decode cX12_image 61 = .ok (.iconst 0, 1) := by decide +kernel
theorem dX12_image_62 : decode cX12_image 62 = .ok (.iaload, 1) := by decide +kernel
theorem dX12_image_63 : decode cX12_image 63 = .ok (.ireturn, 1) := by decide +kernel
theorem dX12_back_0 : decode cX12_back 0 = .ok (.aload_n 0, 1) := by decide +kernel
theorem dX12_back_1 : decode cX12_back 1 = .ok (.getfield 297, 3) := by decide +kernel
theorem dX12_back_4 : decode cX12_back 4 = .ok (.ifCond .ne 6, 3) := by decide +kernel
theorem dX12_back_7 : decode cX12_back 7 = .ok (.bipush (-5), 2) := by decide +kernel
theorem dX12_back_9 : decode cX12_back 9 = .ok (.ireturn, 1) := by decide +kernel
theorem dX12_back_10 : decode cX12_back 10 = .ok (.iconst 0, 1) := by decide +kernel
theorem dX12_back_11 : decode cX12_back 11 = .ok (.istore_n 1, 1) := by decide +kernel
theorem dX12_back_12 : decode cX12_back 12 = .ok (.iload_n 1, 1) := by decide +kernel
theorem dX12_back_13 : decode cX12_back 13 = .ok (.bipush 36, 2) := by decide +kernel
theorem dX12_back_15 : decode cX12_back 15 = .ok (.if_icmp .ge 39, 3) := by decide +kernel
theorem dX12_back_18 : decode cX12_back 18 = .ok (.aload_n 0, 1) := by decide +kernel
theorem dX12_back_19 : decode cX12_back 19 = .ok (.getfield 9, 3) := by decide +kernel
theorem dX12_back_22 : decode cX12_back 22 = .ok (.iload_n 1, 1) := by decide +kernel
theorem dX12_back_23 : decode cX12_back 23 = .ok (.aload_n 0, 1) := by decide +kernel
theorem dX12_back_24 : decode cX12_back 24 = .ok (.getfield 59, 3) := by decide +kernel
theorem dX12_back_27 : decode cX12_back 27 = .ok (.iload_n 1, 1) := by decide +kernel
theorem dX12_back_28 : decode cX12_back 28 = .ok (.iaload, 1) := by decide +kernel
theorem dX12_back_29 : decode cX12_back 29 = .ok (.iastore, 1) := by decide +kernel
theorem dX12_back_30 : decode cX12_back 30 = .ok (.aload_n 0, 1) := by decide +kernel
theorem dX12_back_31 : decode cX12_back 31 = .ok (.getfield 9, 3) := by decide +kernel
theorem dX12_back_34 : decode cX12_back 34 = .ok (.bipush 108, 2) := by decide +kernel
theorem dX12_back_36 : decode cX12_back 36 = .ok (.iload_n 1, 1) := by decide +kernel
theorem dX12_back_37 : decode cX12_back 37 = .ok (.iadd, 1) := by decide +kernel
theorem dX12_back_38 : decode cX12_back 38 = .ok (.aload_n 0, 1) := by decide +kernel
theorem dX12_back_39 : decode cX12_back 39 = .ok (.getfield 59, 3) := by decide +kernel
theorem dX12_back_42 : decode cX12_back 42 = .ok (.bipush 108, 2) := by decide +kernel
theorem dX12_back_44 : decode cX12_back 44 = .ok (.iload_n 1, 1) := by decide +kernel
theorem dX12_back_45 : decode cX12_back 45 = .ok (.iadd, 1) := by decide +kernel
theorem dX12_back_46 : decode cX12_back 46 = .ok (.iaload, 1) := by decide +kernel
theorem dX12_back_47 : decode cX12_back 47 = .ok (.iastore, 1) := by decide +kernel
theorem dX12_back_48 : decode cX12_back 48 = .ok (.iinc 1 1, 3) := by decide +kernel
theorem dX12_back_51 : decode cX12_back 51 = .ok (.goto (-39), 3) := by decide +kernel
theorem dX12_back_54 : decode cX12_back 54 = .ok (.aload_n 0, 1) := by decide +kernel
theorem dX12_back_55 : decode cX12_back 55 = .ok (.getfield 9, 3) := by decide +kernel
theorem dX12_back_58 : decode cX12_back 58 = .ok (.sipush 146, 3) := by decide +kernel
theorem dX12_back_61 : decode cX12_back 61 = .ok (.aload_n 0, 1) := by decide +kernel
theorem dX12_back_62 : decode cX12_back 62 = .ok (.getfield 59, 3) := by decide +kernel
theorem dX12_back_65 : decode cX12_back 65 = .ok (.sipush 146, 3) := by decide +kernel
theorem dX12_back_68 : decode cX12_back 68 = .ok (.iaload, 1) := by decide +kernel
theorem dX12_back_69 : decode cX12_back 69 = .ok (.iastore, 1) := by decide +kernel
theorem dX12_back_70 : decode cX12_back 70 = .ok (.iconst 0, 1) := by decide +kernel
theorem dX12_back_71 : decode cX12_back 71 = .ok (.istore_n 1, 1) := by decide +kernel
theorem dX12_back_72 : decode cX12_back 72 = .ok (.iload_n 1, 1) := by decide +kernel
theorem dX12_back_73 : decode cX12_back 73 = .ok (.iconst 5, 1) := by decide +kernel
theorem dX12_back_74 : decode cX12_back 74 = .ok (.if_icmp .ge 21, 3) := by decide +kernel
theorem dX12_back_77 : decode cX12_back 77 = .ok (.aload_n 0, 1) := by decide +kernel
theorem dX12_back_78 : decode cX12_back 78 = .ok (.getfield 56, 3) := by decide +kernel
theorem dX12_back_81 : decode cX12_back 81 = .ok (.iload_n 1, 1) := by decide +kernel
theorem dX12_back_82 : decode cX12_back 82 = .ok (.aload_n 0, 1) := by decide +kernel
theorem dX12_back_83 : decode cX12_back 83 = .ok (.getfield 62, 3) := by decide +kernel
theorem dX12_back_86 : decode cX12_back 86 = .ok (.iload_n 1, 1) := by decide +kernel
theorem dX12_back_87 : decode cX12_back 87 = .ok (.iaload, 1) := by decide +kernel
theorem dX12_back_88 : decode cX12_back 88 = .ok (.iastore, 1) := by decide +kernel
theorem dX12_back_89 : decode cX12_back 89 = .ok (.iinc 1 1, 3) := by decide +kernel
theorem dX12_back_92 : decode cX12_back 92 = .ok (.goto (-20), 3) := by decide +kernel
theorem dX12_back_95 : decode cX12_back 95 = .ok (.aload_n 0, 1) := by decide +kernel
theorem dX12_back_96 : decode cX12_back 96 = .ok (.getfield 56, 3) := by decide +kernel
theorem dX12_back_99 : decode cX12_back 99 = .ok (.iconst 0, 1) := by decide +kernel
theorem dX12_back_100 : decode cX12_back 100 = .ok (.iaload, 1) := by decide +kernel
theorem dX12_back_101 : decode cX12_back 101 = .ok (.ireturn, 1) := by decide +kernel
theorem dX12_manyOf_0 : decode cX12_manyOf 0 = .ok (.aload_n 0, 1) := by decide +kernel
theorem dX12_manyOf_1 : decode cX12_manyOf 1 = .ok (.invokevirtual 220, 3) := by decide +kernel
theorem dX12_manyOf_4 : decode cX12_manyOf 4 = .ok (.iconst 0, 1) := by decide +kernel
theorem dX12_manyOf_5 : decode cX12_manyOf 5 = .ok (.istore_n 2, 1) := by decide +kernel
theorem dX12_manyOf_6 : decode cX12_manyOf 6 = .ok (.iconst 0, 1) := by decide +kernel
theorem dX12_manyOf_7 : decode cX12_manyOf 7 = .ok (.istore_n 3, 1) := by decide +kernel
theorem dX12_manyOf_8 : decode cX12_manyOf 8 = .ok (.iload_n 3, 1) := by decide +kernel
theorem dX12_manyOf_9 : decode cX12_manyOf 9 = .ok (.bipush 36, 2) := by decide +kernel
theorem dX12_manyOf_11 : decode cX12_manyOf 11 = .ok (.if_icmp .ge 38, 3) := by decide +kernel
theorem dX12_manyOf_14 : decode cX12_manyOf 14 = .ok (.iload_n 2, 1) := by decide +kernel
theorem dX12_manyOf_15 : decode cX12_manyOf 15 = .ok (.iload_n 1, 1) := by decide +kernel
theorem dX12_manyOf_16 : decode cX12_manyOf 16 = .ok (.ifCond .eq 19, 3) := by decide +kernel
theorem dX12_manyOf_19 : decode cX12_manyOf 19 = .ok (.aload_n 0, 1) := by decide +kernel
theorem dX12_manyOf_20 : decode cX12_manyOf 20 = .ok (.iload_n 3, 1) := by decide +kernel
theorem dX12_manyOf_21 : decode cX12_manyOf 21 = .ok (.invokevirtual 196, 3) := by decide +kernel
theorem dX12_manyOf_24 : decode cX12_manyOf 24 = .ok (.ifCond .eq 7, 3) := by decide +kernel
theorem dX12_manyOf_27 : decode cX12_manyOf 27 = .ok (.iconst 1, 1) := by decide +kernel
theorem dX12_manyOf_28 : decode cX12_manyOf 28 = .ok (.goto 13, 3) := by decide +kernel
theorem dX12_manyOf_31 : decode cX12_manyOf 31 = .ok (.iconst 0, 1) := by decide +kernel
theorem dX12_manyOf_32 : decode cX12_manyOf 32 = .ok (.goto 9, 3) := by decide +kernel
theorem dX12_manyOf_35 : decode cX12_manyOf 35 = .ok (.aload_n 0, 1) := by decide +kernel
theorem dX12_manyOf_36 : decode cX12_manyOf 36 = .ok (.getfield 34, 3) := by decide +kernel
theorem dX12_manyOf_39 : decode cX12_manyOf 39 = .ok (.iload_n 3, 1) := by decide +kernel
theorem dX12_manyOf_40 : decode cX12_manyOf 40 = .ok (.iaload, 1) := by decide +kernel
theorem dX12_manyOf_41 : decode cX12_manyOf 41 = .ok (.iadd, 1) := by decide +kernel
theorem dX12_manyOf_42 : decode cX12_manyOf 42 = .ok (.istore_n 2, 1) := by decide +kernel
theorem dX12_manyOf_43 : decode cX12_manyOf 43 = .ok (.iinc 3 1, 3) := by decide +kernel
theorem dX12_manyOf_46 : decode cX12_manyOf 46 = .ok (.goto (-38), 3) := by decide +kernel
theorem dX12_manyOf_49 : decode cX12_manyOf 49 = .ok (.iload_n 2, 1) := by decide +kernel
theorem dX12_manyOf_50 : decode cX12_manyOf 50 = .ok (.ireturn, 1) := by decide +kernel
theorem dX12_isBody_0 : decode cX12_isBody 0 = .ok (.iload_n 1, 1) := by decide +kernel
theorem dX12_isBody_1 : decode cX12_isBody 1 = .ok (.i2l, 1) := by decide +kernel
theorem dX12_isBody_2 : decode cX12_isBody 2 = .ok (.lconst 0, 1) := by decide +kernel
theorem dX12_isBody_3 : decode cX12_isBody 3 = .ok (.aload_n 0, 1) := by decide +kernel
theorem dX12_isBody_4 : decode cX12_isBody 4 = .ok (.getfield 301, 3) := by decide +kernel
theorem dX12_isBody_7 : decode cX12_isBody 7 = .ok (.iconst 1, 1) := by decide +kernel
theorem dX12_isBody_8 : decode cX12_isBody 8 = .ok (.isub, 1) := by decide +kernel
theorem dX12_isBody_9 : decode cX12_isBody 9 = .ok (.i2l, 1) := by decide +kernel
theorem dX12_isBody_10 : decode cX12_isBody 10 = .ok (.invokestatic 96, 3) := by decide +kernel
theorem dX12_isBody_13 : decode cX12_isBody 13 = .ok (.ireturn, 1) := by decide +kernel
theorem dX12_kindOf_0 : decode cX12_kindOf 0 = .ok (.aload_n 0, 1) := by decide +kernel
theorem dX12_kindOf_1 : decode cX12_kindOf 1 = .ok (.getfield 65, 3) := by decide +kernel
theorem dX12_kindOf_4 : decode cX12_kindOf 4 = .ok (.iload_n 1, 1) := by decide +kernel
theorem dX12_kindOf_5 : decode cX12_kindOf 5 = .ok (.iaload, 1) := by decide +kernel
theorem dX12_kindOf_6 : decode cX12_kindOf 6 = .ok (.ireturn, 1) := by decide +kernel
theorem dX12_body_0 : decode cX12_body 0 = .ok (.iload_n 1, 1) := by decide +kernel
theorem dX12_body_1 : decode cX12_body 1 = .ok (.i2l, 1) := by decide +kernel
theorem dX12_body_2 : decode cX12_body 2 = .ok (.lconst 0, 1) := by decide +kernel
theorem dX12_body_3 : decode cX12_body 3 = .ok (.ldc2_w 304, 3) := by decide +kernel
theorem dX12_body_6 : decode cX12_body 6 = .ok (.invokestatic 96, 3) := by decide +kernel
theorem dX12_body_9 : decode cX12_body 9 = .ok (.ifCond .ne 5, 3) := by decide +kernel
theorem dX12_body_12 : decode cX12_body 12 = .ok (.iconst (-1), 1) := by decide +kernel
theorem dX12_body_13 : decode cX12_body 13 = .ok (.ireturn, 1) := by decide +kernel
theorem dX12_body_14 : decode cX12_body 14 = .ok (.aload_n 0, 1) := by decide +kernel
theorem dX12_body_15 : decode cX12_body 15 = .ok (.getfield 301, 3) := by decide +kernel
theorem dX12_body_18 : decode cX12_body 18 = .ok (.bipush 50, 2) := by decide +kernel
theorem dX12_body_20 : decode cX12_body 20 = .ok (.if_icmp .ne 6, 3) := by decide +kernel
theorem dX12_body_23 : decode cX12_body 23 = .ok (.bipush (-3), 2) := by decide +kernel
theorem dX12_body_25 : decode cX12_body 25 = .ok (.ireturn, 1) := by decide +kernel
theorem dX12_body_26 : decode cX12_body 26 = .ok (.aload_n 0, 1) := by decide +kernel
theorem dX12_body_27 : decode cX12_body 27 = .ok (.getfield 65, 3) := by decide +kernel
theorem dX12_body_30 : decode cX12_body 30 = .ok (.aload_n 0, 1) := by decide +kernel
theorem dX12_body_31 : decode cX12_body 31 = .ok (.getfield 301, 3) := by decide +kernel
theorem dX12_body_34 : decode cX12_body 34 = .ok (.iload_n 1, 1) := by decide +kernel
theorem dX12_body_35 : decode cX12_body 35 = .ok (.iastore, 1) := by decide +kernel
theorem dX12_body_36 : decode cX12_body 36 = .ok (.aload_n 0, 1) := by decide +kernel
theorem dX12_body_37 : decode cX12_body 37 = .ok (.dup, 1) := by decide +kernel
theorem dX12_body_38 : decode cX12_body 38 = .ok (.getfield 301, 3) := by decide +kernel
theorem dX12_body_41 : decode cX12_body 41 = .ok (.iconst 1, 1) := by decide +kernel
theorem dX12_body_42 : decode cX12_body 42 = .ok (.iadd, 1) := by decide +kernel
theorem dX12_body_43 : decode cX12_body 43 = .ok (.putfield 301, 3) := by decide +kernel
theorem dX12_body_46 : decode cX12_body 46 = .ok (.aload_n 0, 1) := by decide +kernel
theorem dX12_body_47 : decode cX12_body 47 = .ok (.getfield 301, 3) := by decide +kernel
theorem dX12_body_50 : decode cX12_body 50 = .ok (.iconst 1, 1) := by decide +kernel
theorem dX12_body_51 : decode cX12_body 51 = .ok (.isub, 1) := by decide +kernel
theorem dX12_body_52 : decode cX12_body 52 = .ok (.ireturn, 1) := by decide +kernel
theorem dX12_above_0 : decode cX12_above 0 = .ok (.iload_n 0, 1) := by decide +kernel
theorem dX12_above_1 : decode cX12_above 1 = .ok (.iconst 3, 1) := by decide +kernel
theorem dX12_above_2 : decode cX12_above 2 = .ok (.if_icmp .ne 7, 3) := by decide +kernel
theorem dX12_above_5 : decode cX12_above 5 = .ok (.iconst 2, 1) := by decide +kernel
theorem dX12_above_6 : decode cX12_above 6 = .ok (.goto 32, 3) := by decide +kernel
theorem dX12_above_9 : decode cX12_above 9 = .ok (.iload_n 0, 1) := by decide +kernel
theorem dX12_above_10 : decode cX12_above 10 = .ok (.iconst 4, 1) := by decide +kernel
theorem dX12_above_11 : decode cX12_above 11 = .ok (.if_icmp .ne 7, 3) := by decide +kernel
theorem dX12_above_14 : decode cX12_above 14 = .ok (.iconst 1, 1) := by decide +kernel
theorem dX12_above_15 : decode cX12_above 15 = .ok (.goto 23, 3) := by decide +kernel
theorem dX12_above_18 : decode cX12_above 18 = .ok (.iload_n 0, 1) := by decide +kernel
theorem dX12_above_19 : decode cX12_above 19 = .ok (.iconst 5, 1) := by decide +kernel
theorem dX12_above_20 : decode cX12_above 20 = .ok (.if_icmp .ne 7, 3) := by decide +kernel
theorem dX12_above_23 : decode cX12_above 23 = .ok (.iconst 3, 1) := by decide +kernel
theorem dX12_above_24 : decode cX12_above 24 = .ok (.goto 14, 3) := by decide +kernel
theorem dX12_above_27 : decode cX12_above 27 = .ok (.iload_n 0, 1) := by decide +kernel
theorem dX12_above_28 : decode cX12_above 28 = .ok (.bipush 7, 2) := by decide +kernel
theorem dX12_above_30 : decode cX12_above 30 = .ok (.if_icmp .ne 7, 3) := by decide +kernel
theorem dX12_above_33 : decode cX12_above 33 = .ok (.iconst 4, 1) := by decide +kernel
theorem dX12_above_34 : decode cX12_above 34 = .ok (.goto 4, 3) := by decide +kernel
theorem dX12_above_37 : decode cX12_above 37 = .ok (.iconst 0, 1) := by decide +kernel
theorem dX12_above_38 : decode cX12_above 38 = .ok (.ireturn, 1) := by decide +kernel
theorem dX12_runs_0 : decode cX12_runs 0 = .ok (.aload_n 0, 1) := by decide +kernel
theorem dX12_runs_1 : decode cX12_runs 1 = .ok (.getfield 306, 3) := by decide +kernel
theorem dX12_runs_4 : decode cX12_runs 4 = .ok (.bipush 24, 2) := by decide +kernel
theorem dX12_runs_6 : decode cX12_runs 6 = .ok (.if_icmp .ge 13, 3) := by decide +kernel
theorem dX12_runs_9 : decode cX12_runs 9 = .ok (.aload_n 0, 1) := by decide +kernel
theorem dX12_runs_10 : decode cX12_runs 10 = .ok (.getfield 68, 3) := by decide +kernel
theorem dX12_runs_13 : decode cX12_runs 13 = .ok (.aload_n 0, 1) := by decide +kernel
theorem dX12_runs_14 : decode cX12_runs 14 = .ok (.getfield 306, 3) := by decide +kernel
theorem dX12_runs_17 : decode cX12_runs 17 = .ok (.iload_n 1, 1) := by decide +kernel
theorem dX12_runs_18 : decode cX12_runs 18 = .ok (.iastore, 1) := by decide +kernel
theorem dX12_runs_19 : decode cX12_runs 19 = .ok (.aload_n 0, 1) := by decide +kernel
theorem dX12_runs_20 : decode cX12_runs 20 = .ok (.dup, 1) := by decide +kernel
theorem dX12_runs_21 : decode cX12_runs 21 = .ok (.getfield 306, 3) := by decide +kernel
theorem dX12_runs_24 : decode cX12_runs 24 = .ok (.iconst 1, 1) := by decide +kernel
theorem dX12_runs_25 : decode cX12_runs 25 = .ok (.iadd, 1) := by decide +kernel
theorem dX12_runs_26 : decode cX12_runs 26 = .ok (.putfield 306, 3) := by decide +kernel
theorem dX12_runs_29 : decode cX12_runs 29 = .ok (.return_, 1) := by decide +kernel
theorem dX12_burnsAs_0 : decode cX12_burnsAs 0 = .ok (.iload_n 1, 1) := by decide +kernel
theorem dX12_burnsAs_1 : decode cX12_burnsAs 1 = .ok (.iconst 1, 1) := by decide +kernel
theorem dX12_burnsAs_2 : decode cX12_burnsAs 2 = .ok (.if_icmp .eq 14, 3) := by decide +kernel
theorem dX12_burnsAs_5 : decode cX12_burnsAs 5 = .ok (.iload_n 1, 1) := by decide +kernel
theorem dX12_burnsAs_6 : decode cX12_burnsAs 6 = .ok (.iconst 4, 1) := by decide +kernel
theorem dX12_burnsAs_7 : decode cX12_burnsAs 7 = .ok (.if_icmp .eq 9, 3) := by decide +kernel
theorem dX12_burnsAs_10 : decode cX12_burnsAs 10 = .ok (.iload_n 1, 1) := by decide +kernel
theorem dX12_burnsAs_11 : decode cX12_burnsAs 11 = .ok (.bipush 7, 2) := by decide +kernel
theorem dX12_burnsAs_13 : decode cX12_burnsAs 13 = .ok (.if_icmp .ne 18, 3) := by decide +kernel
theorem dX12_burnsAs_16 : decode cX12_burnsAs 16 = .ok (.aload_n 0, 1) := by decide +kernel
theorem dX12_burnsAs_17 : decode cX12_burnsAs 17 = .ok (.bipush 20, 2) := by decide +kernel
theorem dX12_burnsAs_19 : decode cX12_burnsAs 19 = .ok (.invokevirtual 309, 3) := by decide +kernel
theorem dX12_burnsAs_22 : decode cX12_burnsAs 22 = .ok (.aload_n 0, 1) := by decide +kernel
theorem dX12_burnsAs_23 : decode cX12_burnsAs 23 = .ok (.iconst 0, 1) := by decide +kernel
theorem dX12_burnsAs_24 : decode cX12_burnsAs 24 = .ok (.iload_n 2, 1) := by decide +kernel
theorem dX12_burnsAs_25 : decode cX12_burnsAs 25 = .ok (.invokevirtual 312, 3) := by decide +kernel
theorem dX12_burnsAs_28 : decode cX12_burnsAs 28 = .ok (.iconst 3, 1) := by decide +kernel
theorem dX12_burnsAs_29 : decode cX12_burnsAs 29 = .ok (.iadd, 1) := by decide +kernel
theorem dX12_burnsAs_30 : decode cX12_burnsAs 30 = .ok (.ireturn, 1) := by decide +kernel
theorem dX12_burnsAs_31 : decode cX12_burnsAs 31 = .ok (.iload_n 1, 1) := by decide +kernel
theorem dX12_burnsAs_32 : decode cX12_burnsAs 32 = .ok (.bipush 6, 2) := by decide +kernel
theorem dX12_burnsAs_34 : decode cX12_burnsAs 34 = .ok (.if_icmp .ne 18, 3) := by decide +kernel
theorem dX12_burnsAs_37 : decode cX12_burnsAs 37 = .ok (.aload_n 0, 1) := by decide +kernel
theorem dX12_burnsAs_38 : decode cX12_burnsAs 38 = .ok (.bipush 70, 2) := by decide +kernel
theorem dX12_burnsAs_40 : decode cX12_burnsAs 40 = .ok (.invokevirtual 309, 3) := by decide +kernel
theorem dX12_burnsAs_43 : decode cX12_burnsAs 43 = .ok (.aload_n 0, 1) := by decide +kernel
theorem dX12_burnsAs_44 : decode cX12_burnsAs 44 = .ok (.iconst 0, 1) := by decide +kernel
theorem dX12_burnsAs_45 : decode cX12_burnsAs 45 = .ok (.iload_n 2, 1) := by decide +kernel
theorem dX12_burnsAs_46 : decode cX12_burnsAs 46 = .ok (.invokevirtual 312, 3) := by decide +kernel
theorem dX12_burnsAs_49 : decode cX12_burnsAs 49 = .ok (.iconst 2, 1) := by decide +kernel
theorem dX12_burnsAs_50 : decode cX12_burnsAs 50 = .ok (.imul, 1) := by decide +kernel
theorem dX12_burnsAs_51 : decode cX12_burnsAs 51 = .ok (.ireturn, 1) := by decide +kernel
theorem dX12_burnsAs_52 : decode cX12_burnsAs 52 = .ok (.aload_n 0, 1) := by decide +kernel
theorem dX12_burnsAs_53 : decode cX12_burnsAs 53 = .ok (.iconst 1, 1) := by decide +kernel
theorem dX12_burnsAs_54 : decode cX12_burnsAs 54 = .ok (.invokevirtual 309, 3) := by decide +kernel
theorem dX12_burnsAs_57 : decode cX12_burnsAs 57 = .ok (.iload_n 2, 1) := by decide +kernel
theorem dX12_burnsAs_58 : decode cX12_burnsAs 58 = .ok (.aload_n 0, 1) := by decide +kernel
theorem dX12_burnsAs_59 : decode cX12_burnsAs 59 = .ok (.getfield 315, 3) := by decide +kernel
theorem dX12_burnsAs_62 : decode cX12_burnsAs 62 = .ok (.iadd, 1) := by decide +kernel
theorem dX12_burnsAs_63 : decode cX12_burnsAs 63 = .ok (.ireturn, 1) := by decide +kernel
theorem dX12_holdsAs_0 : decode cX12_holdsAs 0 = .ok (.iload_n 1, 1) := by decide +kernel
theorem dX12_holdsAs_1 : decode cX12_holdsAs 1 = .ok (.iconst 3, 1) := by decide +kernel
theorem dX12_holdsAs_2 : decode cX12_holdsAs 2 = .ok (.if_icmp .eq 8, 3) := by decide +kernel
theorem dX12_holdsAs_5 : decode cX12_holdsAs 5 = .ok (.iload_n 1, 1) := by decide +kernel
theorem dX12_holdsAs_6 : decode cX12_holdsAs 6 = .ok (.iconst 5, 1) := by decide +kernel
theorem dX12_holdsAs_7 : decode cX12_holdsAs 7 = .ok (.if_icmp .ne 18, 3) := by decide +kernel
theorem dX12_holdsAs_10 : decode cX12_holdsAs 10 = .ok (.aload_n 0, 1) := by decide +kernel
theorem dX12_holdsAs_11 : decode cX12_holdsAs 11 = .ok (.bipush 41, 2) := by decide +kernel
theorem dX12_holdsAs_13 : decode cX12_holdsAs 13 = .ok (.invokevirtual 309, 3) := by decide +kernel
theorem dX12_holdsAs_16 : decode cX12_holdsAs 16 = .ok (.aload_n 0, 1) := by decide +kernel
theorem dX12_holdsAs_17 : decode cX12_holdsAs 17 = .ok (.iconst 2, 1) := by decide +kernel
theorem dX12_holdsAs_18 : decode cX12_holdsAs 18 = .ok (.iload_n 2, 1) := by decide +kernel
theorem dX12_holdsAs_19 : decode cX12_holdsAs 19 = .ok (.iconst 1, 1) := by decide +kernel
theorem dX12_holdsAs_20 : decode cX12_holdsAs 20 = .ok (.iadd, 1) := by decide +kernel
theorem dX12_holdsAs_21 : decode cX12_holdsAs 21 = .ok (.invokevirtual 318, 3) := by decide +kernel
theorem dX12_holdsAs_24 : decode cX12_holdsAs 24 = .ok (.ireturn, 1) := by decide +kernel
theorem dX12_holdsAs_25 : decode cX12_holdsAs 25 = .ok (.iload_n 1, 1) := by decide +kernel
theorem dX12_holdsAs_26 : decode cX12_holdsAs 26 = .ok (.iconst 2, 1) := by decide +kernel
theorem dX12_holdsAs_27 : decode cX12_holdsAs 27 = .ok (.if_icmp .ne 17, 3) := by decide +kernel
theorem dX12_holdsAs_30 : decode cX12_holdsAs 30 = .ok (.aload_n 0, 1) := by decide +kernel
theorem dX12_holdsAs_31 : decode cX12_holdsAs 31 = .ok (.bipush 30, 2) := by decide +kernel
theorem dX12_holdsAs_33 : decode cX12_holdsAs 33 = .ok (.invokevirtual 309, 3) := by decide +kernel
theorem dX12_holdsAs_36 : decode cX12_holdsAs 36 = .ok (.aload_n 0, 1) := by decide +kernel
theorem dX12_holdsAs_37 : decode cX12_holdsAs 37 = .ok (.iconst 0, 1) := by decide +kernel
theorem dX12_holdsAs_38 : decode cX12_holdsAs 38 = .ok (.iload_n 2, 1) := by decide +kernel
theorem dX12_holdsAs_39 : decode cX12_holdsAs 39 = .ok (.invokevirtual 318, 3) := by decide +kernel
theorem dX12_holdsAs_42 : decode cX12_holdsAs 42 = .ok (.ineg, 1) := by decide +kernel
theorem dX12_holdsAs_43 : decode cX12_holdsAs 43 = .ok (.ireturn, 1) := by decide +kernel
theorem dX12_holdsAs_44 : decode cX12_holdsAs 44 = .ok (.iload_n 1, 1) := by decide +kernel
theorem dX12_holdsAs_45 : decode cX12_holdsAs 45 = .ok (.bipush 7, 2) := by decide +kernel
theorem dX12_holdsAs_47 : decode cX12_holdsAs 47 = .ok (.if_icmp .ne 28, 3) := by decide +kernel
theorem dX12_holdsAs_50 : decode cX12_holdsAs 50 = .ok (.aload_n 0, 1) := by decide +kernel
theorem dX12_holdsAs_51 : decode cX12_holdsAs 51 = .ok (.bipush 80, 2) := by decide +kernel
theorem dX12_holdsAs_53 : decode cX12_holdsAs 53 = .ok (.invokevirtual 309, 3) := by decide +kernel
theorem dX12_holdsAs_56 : decode cX12_holdsAs 56 = .ok (.aload_n 0, 1) := by decide +kernel
theorem dX12_holdsAs_57 : decode cX12_holdsAs 57 = .ok (.iconst 4, 1) := by decide +kernel
theorem dX12_holdsAs_58 : decode cX12_holdsAs 58 = .ok (.iload_n 2, 1) := by decide +kernel
theorem dX12_holdsAs_59 : decode cX12_holdsAs 59 = .ok (.invokevirtual 318, 3) := by decide +kernel
theorem dX12_holdsAs_62 : decode cX12_holdsAs 62 = .ok (.istore_n 3, 1) := by decide +kernel
theorem dX12_holdsAs_63 : decode cX12_holdsAs 63 = .ok (.iload_n 3, 1) := by decide +kernel
theorem dX12_holdsAs_64 : decode cX12_holdsAs 64 = .ok (.aload_n 0, 1) := by decide +kernel
theorem dX12_holdsAs_65 : decode cX12_holdsAs 65 = .ok (.aload_n 0, 1) := by decide +kernel
theorem dX12_holdsAs_66 : decode cX12_holdsAs 66 = .ok (.getfield 321, 3) := by decide +kernel
theorem dX12_holdsAs_69 : decode cX12_holdsAs 69 = .ok (.iconst 2, 1) := by decide +kernel
theorem dX12_holdsAs_70 : decode cX12_holdsAs 70 = .ok (.invokevirtual 324, 3) := by decide +kernel
theorem dX12_holdsAs_73 : decode cX12_holdsAs 73 = .ok (.iadd, 1) := by decide +kernel
theorem dX12_holdsAs_74 : decode cX12_holdsAs 74 = .ok (.ireturn, 1) := by decide +kernel
theorem dX12_holdsAs_75 : decode cX12_holdsAs 75 = .ok (.aload_n 0, 1) := by decide +kernel
theorem dX12_holdsAs_76 : decode cX12_holdsAs 76 = .ok (.bipush 10, 2) := by decide +kernel
theorem dX12_holdsAs_78 : decode cX12_holdsAs 78 = .ok (.invokevirtual 309, 3) := by decide +kernel
theorem dX12_holdsAs_81 : decode cX12_holdsAs 81 = .ok (.aload_n 0, 1) := by decide +kernel
theorem dX12_holdsAs_82 : decode cX12_holdsAs 82 = .ok (.aload_n 0, 1) := by decide +kernel
theorem dX12_holdsAs_83 : decode cX12_holdsAs 83 = .ok (.getfield 321, 3) := by decide +kernel
theorem dX12_holdsAs_86 : decode cX12_holdsAs 86 = .ok (.iload_n 2, 1) := by decide +kernel
theorem dX12_holdsAs_87 : decode cX12_holdsAs 87 = .ok (.invokevirtual 312, 3) := by decide +kernel
theorem dX12_holdsAs_90 : decode cX12_holdsAs 90 = .ok (.iconst 2, 1) := by decide +kernel
theorem dX12_holdsAs_91 : decode cX12_holdsAs 91 = .ok (.imul, 1) := by decide +kernel
theorem dX12_holdsAs_92 : decode cX12_holdsAs 92 = .ok (.ireturn, 1) := by decide +kernel
theorem dX12_looksAs_0 : decode cX12_looksAs 0 = .ok (.iload_n 1, 1) := by decide +kernel
theorem dX12_looksAs_1 : decode cX12_looksAs 1 = .ok (.iconst 3, 1) := by decide +kernel
theorem dX12_looksAs_2 : decode cX12_looksAs 2 = .ok (.if_icmp .eq 8, 3) := by decide +kernel
theorem dX12_looksAs_5 : decode cX12_looksAs 5 = .ok (.iload_n 1, 1) := by decide +kernel
theorem dX12_looksAs_6 : decode cX12_looksAs 6 = .ok (.iconst 5, 1) := by decide +kernel
theorem dX12_looksAs_7 : decode cX12_looksAs 7 = .ok (.if_icmp .ne 18, 3) := by decide +kernel
theorem dX12_looksAs_10 : decode cX12_looksAs 10 = .ok (.aload_n 0, 1) := by decide +kernel
theorem dX12_looksAs_11 : decode cX12_looksAs 11 = .ok (.bipush 40, 2) := by decide +kernel
theorem dX12_looksAs_13 : decode cX12_looksAs 13 = .ok (.invokevirtual 309, 3) := by decide +kernel
theorem dX12_looksAs_16 : decode cX12_looksAs 16 = .ok (.aload_n 0, 1) := by decide +kernel
theorem dX12_looksAs_17 : decode cX12_looksAs 17 = .ok (.iconst 2, 1) := by decide +kernel
theorem dX12_looksAs_18 : decode cX12_looksAs 18 = .ok (.iload_n 2, 1) := by decide +kernel
theorem dX12_looksAs_19 : decode cX12_looksAs 19 = .ok (.invokevirtual 324, 3) := by decide +kernel
theorem dX12_looksAs_22 : decode cX12_looksAs 22 = .ok (.iconst 3, 1) := by decide +kernel
theorem dX12_looksAs_23 : decode cX12_looksAs 23 = .ok (.imul, 1) := by decide +kernel
theorem dX12_looksAs_24 : decode cX12_looksAs 24 = .ok (.ireturn, 1) := by decide +kernel
theorem dX12_looksAs_25 : decode cX12_looksAs 25 = .ok (.iload_n 1, 1) := by decide +kernel
theorem dX12_looksAs_26 : decode cX12_looksAs 26 = .ok (.iconst 4, 1) := by decide +kernel
theorem dX12_looksAs_27 : decode cX12_looksAs 27 = .ok (.if_icmp .eq 9, 3) := by decide +kernel
theorem dX12_looksAs_30 : decode cX12_looksAs 30 = .ok (.iload_n 1, 1) := by decide +kernel
theorem dX12_looksAs_31 : decode cX12_looksAs 31 = .ok (.bipush 7, 2) := by decide +kernel
theorem dX12_looksAs_33 : decode cX12_looksAs 33 = .ok (.if_icmp .ne 28, 3) := by decide +kernel
theorem dX12_looksAs_36 : decode cX12_looksAs 36 = .ok (.aload_n 0, 1) := by decide +kernel
theorem dX12_looksAs_37 : decode cX12_looksAs 37 = .ok (.bipush 50, 2) := by decide +kernel
theorem dX12_looksAs_39 : decode cX12_looksAs 39 = .ok (.invokevirtual 309, 3) := by decide +kernel
theorem dX12_looksAs_42 : decode cX12_looksAs 42 = .ok (.aload_n 0, 1) := by decide +kernel
theorem dX12_looksAs_43 : decode cX12_looksAs 43 = .ok (.iconst 1, 1) := by decide +kernel
theorem dX12_looksAs_44 : decode cX12_looksAs 44 = .ok (.iload_n 2, 1) := by decide +kernel
theorem dX12_looksAs_45 : decode cX12_looksAs 45 = .ok (.invokevirtual 324, 3) := by decide +kernel
theorem dX12_looksAs_48 : decode cX12_looksAs 48 = .ok (.istore_n 3, 1) := by decide +kernel
theorem dX12_looksAs_49 : decode cX12_looksAs 49 = .ok (.iload_n 3, 1) := by decide +kernel
theorem dX12_looksAs_50 : decode cX12_looksAs 50 = .ok (.aload_n 0, 1) := by decide +kernel
theorem dX12_looksAs_51 : decode cX12_looksAs 51 = .ok (.aload_n 0, 1) := by decide +kernel
theorem dX12_looksAs_52 : decode cX12_looksAs 52 = .ok (.getfield 321, 3) := by decide +kernel
theorem dX12_looksAs_55 : decode cX12_looksAs 55 = .ok (.iconst 2, 1) := by decide +kernel
theorem dX12_looksAs_56 : decode cX12_looksAs 56 = .ok (.invokevirtual 312, 3) := by decide +kernel
theorem dX12_looksAs_59 : decode cX12_looksAs 59 = .ok (.isub, 1) := by decide +kernel
theorem dX12_looksAs_60 : decode cX12_looksAs 60 = .ok (.ireturn, 1) := by decide +kernel
theorem dX12_looksAs_61 : decode cX12_looksAs 61 = .ok (.aload_n 0, 1) := by decide +kernel
theorem dX12_looksAs_62 : decode cX12_looksAs 62 = .ok (.bipush 11, 2) := by decide +kernel
theorem dX12_looksAs_64 : decode cX12_looksAs 64 = .ok (.invokevirtual 309, 3) := by decide +kernel
theorem dX12_looksAs_67 : decode cX12_looksAs 67 = .ok (.iload_n 2, 1) := by decide +kernel
theorem dX12_looksAs_68 : decode cX12_looksAs 68 = .ok (.aload_n 0, 1) := by decide +kernel
theorem dX12_looksAs_69 : decode cX12_looksAs 69 = .ok (.getfield 315, 3) := by decide +kernel
theorem dX12_looksAs_72 : decode cX12_looksAs 72 = .ok (.ixor, 1) := by decide +kernel
theorem dX12_looksAs_73 : decode cX12_looksAs 73 = .ok (.ireturn, 1) := by decide +kernel
theorem dX12_tellsAs_0 : decode cX12_tellsAs 0 = .ok (.iload_n 1, 1) := by decide +kernel
theorem dX12_tellsAs_1 : decode cX12_tellsAs 1 = .ok (.iconst 5, 1) := by decide +kernel
theorem dX12_tellsAs_2 : decode cX12_tellsAs 2 = .ok (.if_icmp .ne 18, 3) := by decide +kernel
theorem dX12_tellsAs_5 : decode cX12_tellsAs 5 = .ok (.aload_n 0, 1) := by decide +kernel
theorem dX12_tellsAs_6 : decode cX12_tellsAs 6 = .ok (.bipush 60, 2) := by decide +kernel
theorem dX12_tellsAs_8 : decode cX12_tellsAs 8 = .ok (.invokevirtual 309, 3) := by decide +kernel
theorem dX12_tellsAs_11 : decode cX12_tellsAs 11 = .ok (.aload_n 0, 1) := by decide +kernel
theorem dX12_tellsAs_12 : decode cX12_tellsAs 12 = .ok (.iconst 3, 1) := by decide +kernel
theorem dX12_tellsAs_13 : decode cX12_tellsAs 13 = .ok (.iload_n 2, 1) := by decide +kernel
theorem dX12_tellsAs_14 : decode cX12_tellsAs 14 = .ok (.invokevirtual 327, 3) := by decide +kernel
theorem dX12_tellsAs_17 : decode cX12_tellsAs 17 = .ok (.iconst 5, 1) := by decide +kernel
theorem dX12_tellsAs_18 : decode cX12_tellsAs 18 = .ok (.ixor, 1) := by decide +kernel
theorem dX12_tellsAs_19 : decode cX12_tellsAs 19 = .ok (.ireturn, 1) := by decide +kernel
theorem dX12_tellsAs_20 : decode cX12_tellsAs 20 = .ok (.iload_n 1, 1) := by decide +kernel
theorem dX12_tellsAs_21 : decode cX12_tellsAs 21 = .ok (.bipush 7, 2) := by decide +kernel
theorem dX12_tellsAs_23 : decode cX12_tellsAs 23 = .ok (.if_icmp .ne 18, 3) := by decide +kernel
theorem dX12_tellsAs_26 : decode cX12_tellsAs 26 = .ok (.aload_n 0, 1) := by decide +kernel
theorem dX12_tellsAs_27 : decode cX12_tellsAs 27 = .ok (.bipush 81, 2) := by decide +kernel
theorem dX12_tellsAs_29 : decode cX12_tellsAs 29 = .ok (.invokevirtual 309, 3) := by decide +kernel
theorem dX12_tellsAs_32 : decode cX12_tellsAs 32 = .ok (.aload_n 0, 1) := by decide +kernel
theorem dX12_tellsAs_33 : decode cX12_tellsAs 33 = .ok (.iconst 4, 1) := by decide +kernel
theorem dX12_tellsAs_34 : decode cX12_tellsAs 34 = .ok (.iload_n 2, 1) := by decide +kernel
theorem dX12_tellsAs_35 : decode cX12_tellsAs 35 = .ok (.invokevirtual 327, 3) := by decide +kernel
theorem dX12_tellsAs_38 : decode cX12_tellsAs 38 = .ok (.iconst 1, 1) := by decide +kernel
theorem dX12_tellsAs_39 : decode cX12_tellsAs 39 = .ok (.isub, 1) := by decide +kernel
theorem dX12_tellsAs_40 : decode cX12_tellsAs 40 = .ok (.ireturn, 1) := by decide +kernel
theorem dX12_tellsAs_41 : decode cX12_tellsAs 41 = .ok (.aload_n 0, 1) := by decide +kernel
theorem dX12_tellsAs_42 : decode cX12_tellsAs 42 = .ok (.iconst 2, 1) := by decide +kernel
theorem dX12_tellsAs_43 : decode cX12_tellsAs 43 = .ok (.invokevirtual 309, 3) := by decide +kernel
theorem dX12_tellsAs_46 : decode cX12_tellsAs 46 = .ok (.aload_n 0, 1) := by decide +kernel
theorem dX12_tellsAs_47 : decode cX12_tellsAs 47 = .ok (.aload_n 0, 1) := by decide +kernel
theorem dX12_tellsAs_48 : decode cX12_tellsAs 48 = .ok (.getfield 321, 3) := by decide +kernel
theorem dX12_tellsAs_51 : decode cX12_tellsAs 51 = .ok (.iload_n 2, 1) := by decide +kernel
theorem dX12_tellsAs_52 : decode cX12_tellsAs 52 = .ok (.invokevirtual 318, 3) := by decide +kernel
theorem dX12_tellsAs_55 : decode cX12_tellsAs 55 = .ok (.istore_n 3, 1) := by decide +kernel
theorem dX12_tellsAs_56 : decode cX12_tellsAs 56 = .ok (.iload_n 3, 1) := by decide +kernel
theorem dX12_tellsAs_57 : decode cX12_tellsAs 57 = .ok (.aload_n 0, 1) := by decide +kernel
theorem dX12_tellsAs_58 : decode cX12_tellsAs 58 = .ok (.aload_n 0, 1) := by decide +kernel
theorem dX12_tellsAs_59 : decode cX12_tellsAs 59 = .ok (.getfield 321, 3) := by decide +kernel
theorem dX12_tellsAs_62 : decode cX12_tellsAs 62 = .ok (.iconst 1, 1) := by decide +kernel
theorem dX12_tellsAs_63 : decode cX12_tellsAs 63 = .ok (.invokevirtual 324, 3) := by decide +kernel
theorem dX12_tellsAs_66 : decode cX12_tellsAs 66 = .ok (.isub, 1) := by decide +kernel
theorem dX12_tellsAs_67 : decode cX12_tellsAs 67 = .ok (.ireturn, 1) := by decide +kernel
theorem dX12_act_0 : decode cX12_act 0 = .ok (.aload_n 0, 1) := by decide +kernel
theorem dX12_act_1 : decode cX12_act 1 = .ok (.iconst 0, 1) := by decide +kernel
theorem dX12_act_2 : decode cX12_act 2 = .ok (.putfield 306, 3) := by decide +kernel
theorem dX12_act_5 : decode cX12_act 5 = .ok (.aload_n 0, 1) := by decide +kernel
theorem dX12_act_6 : decode cX12_act 6 = .ok (.iload_n 1, 1) := by decide +kernel
theorem dX12_act_7 : decode cX12_act 7 = .ok (.invokevirtual 330, 3) := by decide +kernel
theorem dX12_act_10 : decode cX12_act 10 = .ok (.ifCond .ne 5, 3) := by decide +kernel
theorem dX12_act_13 : decode cX12_act 13 = .ok (.iconst 0, 1) := by decide +kernel
theorem dX12_act_14 : decode cX12_act 14 = .ok (.ireturn, 1) := by decide +kernel
theorem dX12_act_15 : decode cX12_act 15 = .ok (.aload_n 0, 1) := by decide +kernel
theorem dX12_act_16 : decode cX12_act 16 = .ok (.aload_n 0, 1) := by decide +kernel
theorem dX12_act_17 : decode cX12_act 17 = .ok (.getfield 65, 3) := by decide +kernel
theorem dX12_act_20 : decode cX12_act 20 = .ok (.iload_n 1, 1) := by decide +kernel
theorem dX12_act_21 : decode cX12_act 21 = .ok (.iaload, 1) := by decide +kernel
theorem dX12_act_22 : decode cX12_act 22 = .ok (.putfield 321, 3) := by decide +kernel
theorem dX12_act_25 : decode cX12_act 25 = .ok (.aload_n 0, 1) := by decide +kernel
theorem dX12_act_26 : decode cX12_act 26 = .ok (.iload_n 1, 1) := by decide +kernel
theorem dX12_act_27 : decode cX12_act 27 = .ok (.putfield 315, 3) := by decide +kernel
theorem dX12_act_30 : decode cX12_act 30 = .ok (.iload_n 2, 1) := by decide +kernel
theorem dX12_act_31 : decode cX12_act 31 = .ok (.tableswitch 69 0 3 #[29, 39, 49, 59], 29) := by decide +kernel
theorem dX12_act_60 : decode cX12_act 60 = .ok (.aload_n 0, 1) := by decide +kernel
theorem dX12_act_61 : decode cX12_act 61 = .ok (.aload_n 0, 1) := by decide +kernel
theorem dX12_act_62 : decode cX12_act 62 = .ok (.getfield 321, 3) := by decide +kernel
theorem dX12_act_65 : decode cX12_act 65 = .ok (.iload_n 3, 1) := by decide +kernel
theorem dX12_act_66 : decode cX12_act 66 = .ok (.invokevirtual 312, 3) := by decide +kernel
theorem dX12_act_69 : decode cX12_act 69 = .ok (.ireturn, 1) := by decide +kernel
theorem dX12_act_70 : decode cX12_act 70 = .ok (.aload_n 0, 1) := by decide +kernel
theorem dX12_act_71 : decode cX12_act 71 = .ok (.aload_n 0, 1) := by decide +kernel
theorem dX12_act_72 : decode cX12_act 72 = .ok (.getfield 321, 3) := by decide +kernel
theorem dX12_act_75 : decode cX12_act 75 = .ok (.iload_n 3, 1) := by decide +kernel
theorem dX12_act_76 : decode cX12_act 76 = .ok (.invokevirtual 318, 3) := by decide +kernel
theorem dX12_act_79 : decode cX12_act 79 = .ok (.ireturn, 1) := by decide +kernel
theorem dX12_act_80 : decode cX12_act 80 = .ok (.aload_n 0, 1) := by decide +kernel
theorem dX12_act_81 : decode cX12_act 81 = .ok (.aload_n 0, 1) := by decide +kernel
theorem dX12_act_82 : decode cX12_act 82 = .ok (.getfield 321, 3) := by decide +kernel
theorem dX12_act_85 : decode cX12_act 85 = .ok (.iload_n 3, 1) := by decide +kernel
theorem dX12_act_86 : decode cX12_act 86 = .ok (.invokevirtual 324, 3) := by decide +kernel
theorem dX12_act_89 : decode cX12_act 89 = .ok (.ireturn, 1) := by decide +kernel
theorem dX12_act_90 : decode cX12_act 90 = .ok (.aload_n 0, 1) := by decide +kernel
theorem dX12_act_91 : decode cX12_act 91 = .ok (.aload_n 0, 1) := by decide +kernel
theorem dX12_act_92 : decode cX12_act 92 = .ok (.getfield 321, 3) := by decide +kernel
theorem dX12_act_95 : decode cX12_act 95 = .ok (.iload_n 3, 1) := by decide +kernel
theorem dX12_act_96 : decode cX12_act 96 = .ok (.invokevirtual 327, 3) := by decide +kernel
theorem dX12_act_99 : decode cX12_act 99 = .ok (.ireturn, 1) := by decide +kernel
theorem dX12_act_100 : decode cX12_act 100 = .ok (.iconst 0, 1) := by decide +kernel
theorem dX12_act_101 : decode cX12_act 101 = .ok (.ireturn, 1) := by decide +kernel
theorem dX12_trace_0 : decode cX12_trace 0 = .ok (.iload_n 1, 1) := by decide +kernel
theorem dX12_trace_1 : decode cX12_trace 1 = .ok (.ifCond .lt 26, 3) := by decide +kernel
theorem dX12_trace_4 : decode cX12_trace 4 = .ok (.iload_n 1, 1) := by decide +kernel
theorem dX12_trace_5 : decode cX12_trace 5 = .ok (.aload_n 0, 1) := by decide +kernel
theorem dX12_trace_6 : decode cX12_trace 6 = .ok (.getfield 306, 3) := by decide +kernel
theorem dX12_trace_9 : decode cX12_trace 9 = .ok (.if_icmp .ge 18, 3) := by decide +kernel
theorem dX12_trace_12 : decode cX12_trace 12 = .ok (.iload_n 1, 1) := by decide +kernel
theorem dX12_trace_13 : decode cX12_trace 13 = .ok (.bipush 24, 2) := by decide +kernel
theorem dX12_trace_15 : decode cX12_trace 15 = .ok (.if_icmp .ge 12, 3) := by decide +kernel
theorem dX12_trace_18 : decode cX12_trace 18 = .ok (.aload_n 0, 1) := by decide +kernel
theorem dX12_trace_19 : decode cX12_trace 19 = .ok (.getfield 68, 3) := by decide +kernel
theorem dX12_trace_22 : decode cX12_trace 22 = .ok (.iload_n 1, 1) := by decide +kernel
theorem dX12_trace_23 : decode cX12_trace 23 = .ok (.iaload, 1) := by decide +kernel
theorem dX12_trace_24 : decode cX12_trace 24 = .ok (.goto 4, 3) := by decide +kernel
theorem dX12_trace_27 : decode cX12_trace 27 = .ok (.iconst (-1), 1) := by decide +kernel
theorem dX12_trace_28 : decode cX12_trace 28 = .ok (.ireturn, 1) := by decide +kernel
theorem dX12_isShelf_0 : decode cX12_isShelf 0 = .ok (.iload_n 0, 1) := by decide +kernel
theorem dX12_isShelf_1 : decode cX12_isShelf 1 = .ok (.i2l, 1) := by decide +kernel
theorem dX12_isShelf_2 : decode cX12_isShelf 2 = .ok (.lconst 0, 1) := by decide +kernel
theorem dX12_isShelf_3 : decode cX12_isShelf 3 = .ok (.ldc2_w 191, 3) := by decide +kernel
theorem dX12_isShelf_6 : decode cX12_isShelf 6 = .ok (.invokestatic 96, 3) := by decide +kernel
theorem dX12_isShelf_9 : decode cX12_isShelf 9 = .ok (.ireturn, 1) := by decide +kernel
theorem dX12_keep_0 : decode cX12_keep 0 = .ok (.iload_n 1, 1) := by decide +kernel
theorem dX12_keep_1 : decode cX12_keep 1 = .ok (.invokestatic 100, 3) := by decide +kernel
theorem dX12_keep_4 : decode cX12_keep 4 = .ok (.ifCond .eq 16, 3) := by decide +kernel
theorem dX12_keep_7 : decode cX12_keep 7 = .ok (.iload_n 2, 1) := by decide +kernel
theorem dX12_keep_8 : decode cX12_keep 8 = .ok (.iconst (-1), 1) := by decide +kernel
theorem dX12_keep_9 : decode cX12_keep 9 = .ok (.if_icmp .eq 13, 3) := by decide +kernel
theorem dX12_keep_12 : decode cX12_keep 12 = .ok (.aload_n 0, 1) := by decide +kernel
theorem dX12_keep_13 : decode cX12_keep 13 = .ok (.iload_n 2, 1) := by decide +kernel
theorem dX12_keep_14 : decode cX12_keep 14 = .ok (.invokevirtual 330, 3) := by decide +kernel
theorem dX12_keep_17 : decode cX12_keep 17 = .ok (.ifCond .ne 5, 3) := by decide +kernel
theorem dX12_keep_20 : decode cX12_keep 20 = .ok (.iconst (-1), 1) := by decide +kernel
theorem dX12_keep_21 : decode cX12_keep 21 = .ok (.ireturn, 1) := by decide +kernel
theorem dX12_keep_22 : decode cX12_keep 22 = .ok (.aload_n 0, 1) := by decide +kernel
theorem dX12_keep_23 : decode cX12_keep 23 = .ok (.getfield 71, 3) := by decide +kernel
theorem dX12_keep_26 : decode cX12_keep 26 = .ok (.iload_n 1, 1) := by decide +kernel
theorem dX12_keep_27 : decode cX12_keep 27 = .ok (.iload_n 2, 1) := by decide +kernel
theorem dX12_keep_28 : decode cX12_keep 28 = .ok (.iastore, 1) := by decide +kernel
theorem dX12_keep_29 : decode cX12_keep 29 = .ok (.aload_n 0, 1) := by decide +kernel
theorem dX12_keep_30 : decode cX12_keep 30 = .ok (.getfield 74, 3) := by decide +kernel
theorem dX12_keep_33 : decode cX12_keep 33 = .ok (.iload_n 1, 1) := by decide +kernel
theorem dX12_keep_34 : decode cX12_keep 34 = .ok (.iconst 0, 1) := by decide +kernel
theorem dX12_keep_35 : decode cX12_keep 35 = .ok (.iastore, 1) := by decide +kernel
theorem dX12_keep_36 : decode cX12_keep 36 = .ok (.iconst 1, 1) := by decide +kernel
theorem dX12_keep_37 : decode cX12_keep 37 = .ok (.ireturn, 1) := by decide +kernel
theorem dX12_row_0 : decode cX12_row 0 = .ok (.iload_n 1, 1) := by decide +kernel
theorem dX12_row_1 : decode cX12_row 1 = .ok (.invokestatic 100, 3) := by decide +kernel
theorem dX12_row_4 : decode cX12_row 4 = .ok (.ifCond .eq 21, 3) := by decide +kernel
theorem dX12_row_7 : decode cX12_row 7 = .ok (.iload_n 2, 1) := by decide +kernel
theorem dX12_row_8 : decode cX12_row 8 = .ok (.i2l, 1) := by decide +kernel
theorem dX12_row_9 : decode cX12_row 9 = .ok (.lconst 0, 1) := by decide +kernel
theorem dX12_row_10 : decode cX12_row 10 = .ok (.ldc2_w 116, 3) := by decide +kernel
theorem dX12_row_13 : decode cX12_row 13 = .ok (.invokestatic 96, 3) := by decide +kernel
theorem dX12_row_16 : decode cX12_row 16 = .ok (.ifCond .eq 9, 3) := by decide +kernel
theorem dX12_row_19 : decode cX12_row 19 = .ok (.iload_n 3, 1) := by decide +kernel
theorem dX12_row_20 : decode cX12_row 20 = .ok (.bipush 60, 2) := by decide +kernel
theorem dX12_row_22 : decode cX12_row 22 = .ok (.if_icmp .le 5, 3) := by decide +kernel
theorem dX12_row_25 : decode cX12_row 25 = .ok (.iconst (-1), 1) := by decide +kernel
theorem dX12_row_26 : decode cX12_row 26 = .ok (.ireturn, 1) := by decide +kernel
theorem dX12_row_27 : decode cX12_row 27 = .ok (.iload_n 3, 1) := by decide +kernel
theorem dX12_row_28 : decode cX12_row 28 = .ok (.ifCond .ge 6, 3) := by decide +kernel
theorem dX12_row_31 : decode cX12_row 31 = .ok (.bipush (-14), 2) := by decide +kernel
theorem dX12_row_33 : decode cX12_row 33 = .ok (.ireturn, 1) := by decide +kernel
theorem dX12_row_34 : decode cX12_row 34 = .ok (.aload_n 0, 1) := by decide +kernel
theorem dX12_row_35 : decode cX12_row 35 = .ok (.getfield 71, 3) := by decide +kernel
theorem dX12_row_38 : decode cX12_row 38 = .ok (.iload_n 1, 1) := by decide +kernel
theorem dX12_row_39 : decode cX12_row 39 = .ok (.bipush 50, 2) := by decide +kernel
theorem dX12_row_41 : decode cX12_row 41 = .ok (.iload_n 2, 1) := by decide +kernel
theorem dX12_row_42 : decode cX12_row 42 = .ok (.iadd, 1) := by decide +kernel
theorem dX12_row_43 : decode cX12_row 43 = .ok (.iastore, 1) := by decide +kernel
theorem dX12_row_44 : decode cX12_row 44 = .ok (.aload_n 0, 1) := by decide +kernel
theorem dX12_row_45 : decode cX12_row 45 = .ok (.getfield 74, 3) := by decide +kernel
theorem dX12_row_48 : decode cX12_row 48 = .ok (.iload_n 1, 1) := by decide +kernel
theorem dX12_row_49 : decode cX12_row 49 = .ok (.iload_n 3, 1) := by decide +kernel
theorem dX12_row_50 : decode cX12_row 50 = .ok (.iastore, 1) := by decide +kernel
theorem dX12_row_51 : decode cX12_row 51 = .ok (.bipush 60, 2) := by decide +kernel
theorem dX12_row_53 : decode cX12_row 53 = .ok (.iload_n 1, 1) := by decide +kernel
theorem dX12_row_54 : decode cX12_row 54 = .ok (.imul, 1) := by decide +kernel
theorem dX12_row_55 : decode cX12_row 55 = .ok (.istore 4, 2) := by decide +kernel
theorem dX12_row_57 : decode cX12_row 57 = .ok (.iload 4, 2) := by decide +kernel
theorem dX12_row_59 : decode cX12_row 59 = .ok (.bipush 60, 2) := by decide +kernel
theorem dX12_row_61 : decode cX12_row 61 = .ok (.iload_n 1, 1) := by decide +kernel
theorem dX12_row_62 : decode cX12_row 62 = .ok (.imul, 1) := by decide +kernel
theorem dX12_row_63 : decode cX12_row 63 = .ok (.bipush 60, 2) := by decide +kernel
theorem dX12_row_65 : decode cX12_row 65 = .ok (.iadd, 1) := by decide +kernel
theorem dX12_row_66 : decode cX12_row 66 = .ok (.if_icmp .ge 17, 3) := by decide +kernel
theorem dX12_row_69 : decode cX12_row 69 = .ok (.aload_n 0, 1) := by decide +kernel
theorem dX12_row_70 : decode cX12_row 70 = .ok (.getfield 77, 3) := by decide +kernel
theorem dX12_row_73 : decode cX12_row 73 = .ok (.iload 4, 2) := by decide +kernel
theorem dX12_row_75 : decode cX12_row 75 = .ok (.lconst 0, 1) := by decide +kernel
theorem dX12_row_76 : decode cX12_row 76 = .ok (.lastore, 1) := by decide +kernel
theorem dX12_row_77 : decode cX12_row 77 = .ok (.iinc 4 1, 3) := by decide +kernel
theorem dX12_row_80 : decode cX12_row 80 = .ok (.goto (-23), 3) := by decide +kernel
theorem dX12_row_83 : decode cX12_row 83 = .ok (.iconst 1, 1) := by decide +kernel
theorem dX12_row_84 : decode cX12_row 84 = .ok (.ireturn, 1) := by decide +kernel
theorem dX12_refusal_0 : decode cX12_refusal 0 = .ok (.iload_n 1, 1) := by decide +kernel
theorem dX12_refusal_1 : decode cX12_refusal 1 = .ok (.invokestatic 100, 3) := by decide +kernel
theorem dX12_refusal_4 : decode cX12_refusal 4 = .ok (.ifCond .ne 5, 3) := by decide +kernel
theorem dX12_refusal_7 : decode cX12_refusal 7 = .ok (.iconst (-1), 1) := by decide +kernel
theorem dX12_refusal_8 : decode cX12_refusal 8 = .ok (.ireturn, 1) := by decide +kernel
theorem dX12_refusal_9 : decode cX12_refusal 9 = .ok (.aload_n 0, 1) := by decide +kernel
theorem dX12_refusal_10 : decode cX12_refusal 10 = .ok (.getfield 71, 3) := by decide +kernel
theorem dX12_refusal_13 : decode cX12_refusal 13 = .ok (.iload_n 1, 1) := by decide +kernel
theorem dX12_refusal_14 : decode cX12_refusal 14 = .ok (.iaload, 1) := by decide +kernel
theorem dX12_refusal_15 : decode cX12_refusal 15 = .ok (.ifCond .ge 6, 3) := by decide +kernel
theorem dX12_refusal_18 : decode cX12_refusal 18 = .ok (.bipush (-11), 2) := by decide +kernel
theorem dX12_refusal_20 : decode cX12_refusal 20 = .ok (.ireturn, 1) := by decide +kernel
theorem dX12_refusal_21 : decode cX12_refusal 21 = .ok (.aload_n 0, 1) := by decide +kernel
theorem dX12_refusal_22 : decode cX12_refusal 22 = .ok (.getfield 71, 3) := by decide +kernel
theorem dX12_refusal_25 : decode cX12_refusal 25 = .ok (.iload_n 1, 1) := by decide +kernel
theorem dX12_refusal_26 : decode cX12_refusal 26 = .ok (.iaload, 1) := by decide +kernel
theorem dX12_refusal_27 : decode cX12_refusal 27 = .ok (.bipush 50, 2) := by decide +kernel
theorem dX12_refusal_29 : decode cX12_refusal 29 = .ok (.if_icmp .ge 6, 3) := by decide +kernel
theorem dX12_refusal_32 : decode cX12_refusal 32 = .ok (.bipush (-12), 2) := by decide +kernel
theorem dX12_refusal_34 : decode cX12_refusal 34 = .ok (.ireturn, 1) := by decide +kernel
theorem dX12_refusal_35 : decode cX12_refusal 35 = .ok (.iload_n 2, 1) := by decide +kernel
theorem dX12_refusal_36 : decode cX12_refusal 36 = .ok (.ifCond .lt 17, 3) := by decide +kernel
theorem dX12_refusal_39 : decode cX12_refusal 39 = .ok (.iload_n 2, 1) := by decide +kernel
theorem dX12_refusal_40 : decode cX12_refusal 40 = .ok (.aload_n 0, 1) := by decide +kernel
theorem dX12_refusal_41 : decode cX12_refusal 41 = .ok (.getfield 74, 3) := by decide +kernel
theorem dX12_refusal_44 : decode cX12_refusal 44 = .ok (.iload_n 1, 1) := by decide +kernel
theorem dX12_refusal_45 : decode cX12_refusal 45 = .ok (.iaload, 1) := by decide +kernel
theorem dX12_refusal_46 : decode cX12_refusal 46 = .ok (.if_icmp .ge 7, 3) := by decide +kernel
theorem dX12_refusal_49 : decode cX12_refusal 49 = .ok (.iconst 0, 1) := by decide +kernel
theorem dX12_refusal_50 : decode cX12_refusal 50 = .ok (.goto 5, 3) := by decide +kernel
theorem dX12_refusal_53 : decode cX12_refusal 53 = .ok (.bipush (-13), 2) := by decide +kernel
theorem dX12_refusal_55 : decode cX12_refusal 55 = .ok (.ireturn, 1) := by decide +kernel
theorem dX12_asSort_0 : decode cX12_asSort 0 = .ok (.iload_n 0, 1) := by decide +kernel
theorem dX12_asSort_1 : decode cX12_asSort 1 = .ok (.ifCond .ne 10, 3) := by decide +kernel
theorem dX12_asSort_4 : decode cX12_asSort 4 = .ok (.lload_n 1, 1) := by decide +kernel
theorem dX12_asSort_5 : decode cX12_asSort 5 = .ok (.l2i, 1) := by decide +kernel
theorem dX12_asSort_6 : decode cX12_asSort 6 = .ok (.i2b, 1) := by decide +kernel
theorem dX12_asSort_7 : decode cX12_asSort 7 = .ok (.i2l, 1) := by decide +kernel
theorem dX12_asSort_8 : decode cX12_asSort 8 = .ok (.goto 46, 3) := by decide +kernel
theorem dX12_asSort_11 : decode cX12_asSort 11 = .ok (.iload_n 0, 1) := by decide +kernel
theorem dX12_asSort_12 : decode cX12_asSort 12 = .ok (.iconst 1, 1) := by decide +kernel
theorem dX12_asSort_13 : decode cX12_asSort 13 = .ok (.if_icmp .ne 10, 3) := by decide +kernel
theorem dX12_asSort_16 : decode cX12_asSort 16 = .ok (.lload_n 1, 1) := by decide +kernel
theorem dX12_asSort_17 : decode cX12_asSort 17 = .ok (.l2i, 1) := by decide +kernel
theorem dX12_asSort_18 : decode cX12_asSort 18 = .ok (.i2s, 1) := by decide +kernel
theorem dX12_asSort_19 : decode cX12_asSort 19 = .ok (.i2l, 1) := by decide +kernel
theorem dX12_asSort_20 : decode cX12_asSort 20 = .ok (.goto 34, 3) := by decide +kernel
theorem dX12_asSort_23 : decode cX12_asSort 23 = .ok (.iload_n 0, 1) := by decide +kernel
theorem dX12_asSort_24 : decode cX12_asSort 24 = .ok (.iconst 2, 1) := by decide +kernel
theorem dX12_asSort_25 : decode cX12_asSort 25 = .ok (.if_icmp .ne 9, 3) := by decide +kernel
theorem dX12_asSort_28 : decode cX12_asSort 28 = .ok (.lload_n 1, 1) := by decide +kernel
theorem dX12_asSort_29 : decode cX12_asSort 29 = .ok (.l2i, 1) := by decide +kernel
theorem dX12_asSort_30 : decode cX12_asSort 30 = .ok (.i2l, 1) := by decide +kernel
theorem dX12_asSort_31 : decode cX12_asSort 31 = .ok (.goto 23, 3) := by decide +kernel
theorem dX12_asSort_34 : decode cX12_asSort 34 = .ok (.iload_n 0, 1) := by decide +kernel
theorem dX12_asSort_35 : decode cX12_asSort 35 = .ok (.iconst 4, 1) := by decide +kernel
theorem dX12_asSort_36 : decode cX12_asSort 36 = .ok (.if_icmp .ne 17, 3) := by decide +kernel
theorem dX12_asSort_39 : decode cX12_asSort 39 = .ok (.lload_n 1, 1) := by decide +kernel
theorem dX12_asSort_40 : decode cX12_asSort 40 = .ok (.lconst 0, 1) := by decide +kernel
theorem dX12_asSort_41 : decode cX12_asSort 41 = .ok (.lcmp, 1) := by decide +kernel
theorem dX12_asSort_42 : decode cX12_asSort 42 = .ok (.ifCond .eq 7, 3) := by decide +kernel
theorem dX12_asSort_45 : decode cX12_asSort 45 = .ok (.lconst 1, 1) := by decide +kernel
theorem dX12_asSort_46 : decode cX12_asSort 46 = .ok (.goto 8, 3) := by decide +kernel
theorem dX12_asSort_49 : decode cX12_asSort 49 = .ok (.lconst 0, 1) := by decide +kernel
theorem dX12_asSort_50 : decode cX12_asSort 50 = .ok (.goto 4, 3) := by decide +kernel
theorem dX12_asSort_53 : decode cX12_asSort 53 = .ok (.lload_n 1, 1) := by decide +kernel
theorem dX12_asSort_54 : decode cX12_asSort 54 = .ok (.lreturn, 1) := by decide +kernel
theorem dX12_put_0 : decode cX12_put 0 = .ok (.aload_n 0, 1) := by decide +kernel
theorem dX12_put_1 : decode cX12_put 1 = .ok (.iload_n 1, 1) := by decide +kernel
theorem dX12_put_2 : decode cX12_put 2 = .ok (.iload_n 2, 1) := by decide +kernel
theorem dX12_put_3 : decode cX12_put 3 = .ok (.invokevirtual 333, 3) := by decide +kernel
theorem dX12_put_6 : decode cX12_put 6 = .ok (.istore 5, 2) := by decide +kernel
theorem dX12_put_8 : decode cX12_put 8 = .ok (.iload 5, 2) := by decide +kernel
theorem dX12_put_10 : decode cX12_put 10 = .ok (.ifCond .ne 27, 3) := by decide +kernel
theorem dX12_put_13 : decode cX12_put 13 = .ok (.aload_n 0, 1) := by decide +kernel
theorem dX12_put_14 : decode cX12_put 14 = .ok (.getfield 77, 3) := by decide +kernel
theorem dX12_put_17 : decode cX12_put 17 = .ok (.bipush 60, 2) := by decide +kernel
theorem dX12_put_19 : decode cX12_put 19 = .ok (.iload_n 1, 1) := by decide +kernel
theorem dX12_put_20 : decode cX12_put 20 = .ok (.imul, 1) := by decide +kernel
theorem dX12_put_21 : decode cX12_put 21 = .ok (.iload_n 2, 1) := by decide +kernel
theorem dX12_put_22 : decode cX12_put 22 = .ok (.iadd, 1) := by decide +kernel
theorem dX12_put_23 : decode cX12_put 23 = .ok (.aload_n 0, 1) := by decide +kernel
theorem dX12_put_24 : decode cX12_put 24 = .ok (.getfield 71, 3) := by decide +kernel
theorem dX12_put_27 : decode cX12_put 27 = .ok (.iload_n 1, 1) := by decide +kernel
theorem dX12_put_28 : decode cX12_put 28 = .ok (.iaload, 1) := by decide +kernel
theorem dX12_put_29 : decode cX12_put 29 = .ok (.bipush 50, 2) := by decide +kernel
theorem dX12_put_31 : decode cX12_put 31 = .ok (.isub, 1) := by decide +kernel
theorem dX12_put_32 : decode cX12_put 32 = .ok (.lload_n 3, 1) := by decide +kernel
theorem dX12_put_33 : decode cX12_put 33 = .ok (.invokestatic 336, 3) := by decide +kernel
theorem dX12_put_36 : decode cX12_put 36 = .ok (.lastore, 1) := by decide +kernel
theorem dX12_put_37 : decode cX12_put 37 = .ok (.iload 5, 2) := by decide +kernel
theorem dX12_put_39 : decode cX12_put 39 = .ok (.ifCond .ne 7, 3) := by decide +kernel
theorem dX12_put_42 : decode cX12_put 42 = .ok (.iconst 1, 1) := by decide +kernel
theorem dX12_put_43 : decode cX12_put 43 = .ok (.goto 5, 3) := by decide +kernel
theorem dX12_put_46 : decode cX12_put 46 = .ok (.iload 5, 2) := by decide +kernel
theorem dX12_put_48 : decode cX12_put 48 = .ok (.ireturn, 1) := by decide +kernel
theorem dX12_element_0 : decode cX12_element 0 = .ok (.aload_n 0, 1) := by decide +kernel
theorem dX12_element_1 : decode cX12_element 1 = .ok (.iload_n 1, 1) := by decide +kernel
theorem dX12_element_2 : decode cX12_element 2 = .ok (.iload_n 2, 1) := by decide +kernel
theorem dX12_element_3 : decode cX12_element 3 = .ok (.invokevirtual 333, 3) := by decide +kernel
theorem dX12_element_6 : decode cX12_element 6 = .ok (.ifCond .eq 9, 3) := by decide +kernel
theorem dX12_element_9 : decode cX12_element 9 = .ok (.ldc2_w 240, 3) := by decide +kernel
theorem dX12_element_12 : decode cX12_element 12 = .ok (.goto 14, 3) := by decide +kernel
theorem dX12_element_15 : decode cX12_element 15 = .ok (.aload_n 0, 1) := by decide +kernel
theorem dX12_element_16 : decode cX12_element 16 = .ok (.getfield 77, 3) := by decide +kernel
theorem dX12_element_19 : decode cX12_element 19 = .ok (.bipush 60, 2) := by decide +kernel
theorem dX12_element_21 : decode cX12_element 21 = .ok (.iload_n 1, 1) := by decide +kernel
theorem dX12_element_22 : decode cX12_element 22 = .ok (.imul, 1) := by decide +kernel
theorem dX12_element_23 : decode cX12_element 23 = .ok (.iload_n 2, 1) := by decide +kernel
theorem dX12_element_24 : decode cX12_element 24 = .ok (.iadd, 1) := by decide +kernel
theorem dX12_element_25 : decode cX12_element 25 = .ok (.laload, 1) := by decide +kernel
theorem dX12_element_26 : decode cX12_element 26 = .ok (.lreturn, 1) := by decide +kernel
theorem dX12_shift_0 : decode cX12_shift 0 = .ok (.iload_n 1, 1) := by decide +kernel
theorem dX12_shift_1 : decode cX12_shift 1 = .ok (.invokestatic 100, 3) := by decide +kernel
theorem dX12_shift_4 : decode cX12_shift 4 = .ok (.ifCond .eq 10, 3) := by decide +kernel
theorem dX12_shift_7 : decode cX12_shift 7 = .ok (.iload_n 3, 1) := by decide +kernel
theorem dX12_shift_8 : decode cX12_shift 8 = .ok (.invokestatic 100, 3) := by decide +kernel
theorem dX12_shift_11 : decode cX12_shift 11 = .ok (.ifCond .ne 5, 3) := by decide +kernel
theorem dX12_shift_14 : decode cX12_shift 14 = .ok (.iconst (-1), 1) := by decide +kernel
theorem dX12_shift_15 : decode cX12_shift 15 = .ok (.ireturn, 1) := by decide +kernel
theorem dX12_shift_16 : decode cX12_shift 16 = .ok (.aload_n 0, 1) := by decide +kernel
theorem dX12_shift_17 : decode cX12_shift 17 = .ok (.getfield 71, 3) := by decide +kernel
theorem dX12_shift_20 : decode cX12_shift 20 = .ok (.iload_n 1, 1) := by decide +kernel
theorem dX12_shift_21 : decode cX12_shift 21 = .ok (.iaload, 1) := by decide +kernel
theorem dX12_shift_22 : decode cX12_shift 22 = .ok (.ifCond .lt 12, 3) := by decide +kernel
theorem dX12_shift_25 : decode cX12_shift 25 = .ok (.aload_n 0, 1) := by decide +kernel
theorem dX12_shift_26 : decode cX12_shift 26 = .ok (.getfield 71, 3) := by decide +kernel
theorem dX12_shift_29 : decode cX12_shift 29 = .ok (.iload_n 3, 1) := by decide +kernel
theorem dX12_shift_30 : decode cX12_shift 30 = .ok (.iaload, 1) := by decide +kernel
theorem dX12_shift_31 : decode cX12_shift 31 = .ok (.ifCond .ge 6, 3) := by decide +kernel
theorem dX12_shift_34 : decode cX12_shift 34 = .ok (.bipush (-11), 2) := by decide +kernel
theorem dX12_shift_36 : decode cX12_shift 36 = .ok (.ireturn, 1) := by decide +kernel
theorem dX12_shift_37 : decode cX12_shift 37 = .ok (.aload_n 0, 1) := by decide +kernel
theorem dX12_shift_38 : decode cX12_shift 38 = .ok (.getfield 71, 3) := by decide +kernel
theorem dX12_shift_41 : decode cX12_shift 41 = .ok (.iload_n 1, 1) := by decide +kernel
theorem dX12_shift_42 : decode cX12_shift 42 = .ok (.iaload, 1) := by decide +kernel
theorem dX12_shift_43 : decode cX12_shift 43 = .ok (.bipush 50, 2) := by decide +kernel
theorem dX12_shift_45 : decode cX12_shift 45 = .ok (.if_icmp .lt 18, 3) := by decide +kernel
theorem dX12_shift_48 : decode cX12_shift 48 = .ok (.aload_n 0, 1) := by decide +kernel
theorem dX12_shift_49 : decode cX12_shift 49 = .ok (.getfield 71, 3) := by decide +kernel
theorem dX12_shift_52 : decode cX12_shift 52 = .ok (.iload_n 1, 1) := by decide +kernel
theorem dX12_shift_53 : decode cX12_shift 53 = .ok (.iaload, 1) := by decide +kernel
theorem dX12_shift_54 : decode cX12_shift 54 = .ok (.aload_n 0, 1) := by decide +kernel
theorem dX12_shift_55 : decode cX12_shift 55 = .ok (.getfield 71, 3) := by decide +kernel
theorem dX12_shift_58 : decode cX12_shift 58 = .ok (.iload_n 3, 1) := by decide +kernel
theorem dX12_shift_59 : decode cX12_shift 59 = .ok (.iaload, 1) := by decide +kernel
theorem dX12_shift_60 : decode cX12_shift 60 = .ok (.if_icmp .eq 6, 3) := by decide +kernel
theorem dX12_shift_63 : decode cX12_shift 63 = .ok (.bipush (-12), 2) := by decide +kernel
theorem dX12_shift_65 : decode cX12_shift 65 = .ok (.ireturn, 1) := by decide +kernel
theorem dX12_shift_66 : decode cX12_shift 66 = .ok (.iload 5, 2) := by decide +kernel
theorem dX12_shift_68 : decode cX12_shift 68 = .ok (.ifCond .lt 39, 3) := by decide +kernel
theorem dX12_shift_71 : decode cX12_shift 71 = .ok (.iload_n 2, 1) := by decide +kernel
theorem dX12_shift_72 : decode cX12_shift 72 = .ok (.ifCond .lt 35, 3) := by decide +kernel
theorem dX12_shift_75 : decode cX12_shift 75 = .ok (.iload 4, 2) := by decide +kernel
theorem dX12_shift_77 : decode cX12_shift 77 = .ok (.ifCond .lt 30, 3) := by decide +kernel
theorem dX12_shift_80 : decode cX12_shift 80 = .ok (.iload_n 2, 1) := by decide +kernel
theorem dX12_shift_81 : decode cX12_shift 81 = .ok (.aload_n 0, 1) := by decide +kernel
theorem dX12_shift_82 : decode cX12_shift 82 = .ok (.getfield 74, 3) := by decide +kernel
theorem dX12_shift_85 : decode cX12_shift 85 = .ok (.iload_n 1, 1) := by decide +kernel
theorem dX12_shift_86 : decode cX12_shift 86 = .ok (.iaload, 1) := by decide +kernel
theorem dX12_shift_87 : decode cX12_shift 87 = .ok (.iload 5, 2) := by decide +kernel
theorem dX12_shift_89 : decode cX12_shift 89 = .ok (.isub, 1) := by decide +kernel
theorem dX12_shift_90 : decode cX12_shift 90 = .ok (.if_icmp .gt 17, 3) := by decide +kernel
theorem dX12_shift_93 : decode cX12_shift 93 = .ok (.iload 4, 2) := by decide +kernel
theorem dX12_shift_95 : decode cX12_shift 95 = .ok (.aload_n 0, 1) := by decide +kernel
theorem dX12_shift_96 : decode cX12_shift 96 = .ok (.getfield 74, 3) := by decide +kernel
theorem dX12_shift_99 : decode cX12_shift 99 = .ok (.iload_n 3, 1) := by decide +kernel
theorem dX12_shift_100 : decode cX12_shift 100 = .ok (.iaload, 1) := by decide +kernel
theorem dX12_shift_101 : decode cX12_shift 101 = .ok (.iload 5, 2) := by decide +kernel
theorem dX12_shift_103 : decode cX12_shift 103 = .ok (.isub, 1) := by decide +kernel
theorem dX12_shift_104 : decode cX12_shift 104 = .ok (.if_icmp .le 6, 3) := by decide +kernel
theorem dX12_shift_107 : decode cX12_shift 107 = .ok (.bipush (-13), 2) := by decide +kernel
theorem dX12_shift_109 : decode cX12_shift 109 = .ok (.ireturn, 1) := by decide +kernel
theorem dX12_shift_110 : decode cX12_shift 110 = .ok (.iconst 0, 1) := by decide +kernel
theorem dX12_shift_111 : decode cX12_shift 111 = .ok (.istore 6, 2) := by decide +kernel
theorem dX12_shift_113 : decode cX12_shift 113 = .ok (.iload 6, 2) := by decide +kernel
theorem dX12_shift_115 : decode cX12_shift 115 = .ok (.iload 5, 2) := by decide +kernel
theorem dX12_shift_117 : decode cX12_shift 117 = .ok (.if_icmp .ge 30, 3) := by decide +kernel
theorem dX12_shift_120 : decode cX12_shift 120 = .ok (.aload_n 0, 1) := by decide +kernel
theorem dX12_shift_121 : decode cX12_shift 121 = .ok (.getfield 81, 3) := by decide +kernel
theorem dX12_shift_124 : decode cX12_shift 124 = .ok (.iload 6, 2) := by decide +kernel
theorem dX12_shift_126 : decode cX12_shift 126 = .ok (.aload_n 0, 1) := by decide +kernel
theorem dX12_shift_127 : decode cX12_shift 127 = .ok (.getfield 77, 3) := by decide +kernel
theorem dX12_shift_130 : decode cX12_shift 130 = .ok (.bipush 60, 2) := by decide +kernel
theorem dX12_shift_132 : decode cX12_shift 132 = .ok (.iload_n 1, 1) := by decide +kernel
theorem dX12_shift_133 : decode cX12_shift 133 = .ok (.imul, 1) := by decide +kernel
theorem dX12_shift_134 : decode cX12_shift 134 = .ok (.iload_n 2, 1) := by decide +kernel
theorem dX12_shift_135 : decode cX12_shift 135 = .ok (.iadd, 1) := by decide +kernel
theorem dX12_shift_136 : decode cX12_shift 136 = .ok (.iload 6, 2) := by decide +kernel
theorem dX12_shift_138 : decode cX12_shift 138 = .ok (.iadd, 1) := by decide +kernel
theorem dX12_shift_139 : decode cX12_shift 139 = .ok (.laload, 1) := by decide +kernel
theorem dX12_shift_140 : decode cX12_shift 140 = .ok (.lastore, 1) := by decide +kernel
theorem dX12_shift_141 : decode cX12_shift 141 = .ok (.iinc 6 1, 3) := by decide +kernel
theorem dX12_shift_144 : decode cX12_shift 144 = .ok (.goto (-31), 3) := by decide +kernel
theorem dX12_shift_147 : decode cX12_shift 147 = .ok (.iconst 0, 1) := by decide +kernel
theorem dX12_shift_148 : decode cX12_shift 148 = .ok (.istore 6, 2) := by decide +kernel
theorem dX12_shift_150 : decode cX12_shift 150 = .ok (.iload 6, 2) := by decide +kernel
theorem dX12_shift_152 : decode cX12_shift 152 = .ok (.iload 5, 2) := by decide +kernel
theorem dX12_shift_154 : decode cX12_shift 154 = .ok (.if_icmp .ge 31, 3) := by decide +kernel
theorem dX12_shift_157 : decode cX12_shift 157 = .ok (.aload_n 0, 1) := by decide +kernel
theorem dX12_shift_158 : decode cX12_shift 158 = .ok (.getfield 77, 3) := by decide +kernel
theorem dX12_shift_161 : decode cX12_shift 161 = .ok (.bipush 60, 2) := by decide +kernel
theorem dX12_shift_163 : decode cX12_shift 163 = .ok (.iload_n 3, 1) := by decide +kernel
theorem dX12_shift_164 : decode cX12_shift 164 = .ok (.imul, 1) := by decide +kernel
theorem dX12_shift_165 : decode cX12_shift 165 = .ok (.iload 4, 2) := by decide +kernel
theorem dX12_shift_167 : decode cX12_shift 167 = .ok (.iadd, 1) := by decide +kernel
theorem dX12_shift_168 : decode cX12_shift 168 = .ok (.iload 6, 2) := by decide +kernel
theorem dX12_shift_170 : decode cX12_shift 170 = .ok (.iadd, 1) := by decide +kernel
theorem dX12_shift_171 : decode cX12_shift 171 = .ok (.aload_n 0, 1) := by decide +kernel
theorem dX12_shift_172 : decode cX12_shift 172 = .ok (.getfield 81, 3) := by decide +kernel
theorem dX12_shift_175 : decode cX12_shift 175 = .ok (.iload 6, 2) := by decide +kernel
theorem dX12_shift_177 : decode cX12_shift 177 = .ok (.laload, 1) := by decide +kernel
theorem dX12_shift_178 : decode cX12_shift 178 = .ok (.lastore, 1) := by decide +kernel
theorem dX12_shift_179 : decode cX12_shift 179 = .ok (.iinc 6 1, 3) := by decide +kernel
theorem dX12_shift_182 : decode cX12_shift 182 = .ok (.goto (-32), 3) := by decide +kernel
theorem dX12_shift_185 : decode cX12_shift 185 = .ok (.iload 5, 2) := by decide +kernel
theorem dX12_shift_187 : decode cX12_shift 187 = .ok (.ireturn, 1) := by decide +kernel
theorem dX12_taken_0 : decode cX12_taken 0 = .ok (.iload_n 1, 1) := by decide +kernel
theorem dX12_taken_1 : decode cX12_taken 1 = .ok (.invokestatic 100, 3) := by decide +kernel
theorem dX12_taken_4 : decode cX12_taken 4 = .ok (.ifCond .eq 15, 3) := by decide +kernel
theorem dX12_taken_7 : decode cX12_taken 7 = .ok (.iload_n 2, 1) := by decide +kernel
theorem dX12_taken_8 : decode cX12_taken 8 = .ok (.i2l, 1) := by decide +kernel
theorem dX12_taken_9 : decode cX12_taken 9 = .ok (.lconst 0, 1) := by decide +kernel
theorem dX12_taken_10 : decode cX12_taken 10 = .ok (.ldc2_w 304, 3) := by decide +kernel
theorem dX12_taken_13 : decode cX12_taken 13 = .ok (.invokestatic 96, 3) := by decide +kernel
theorem dX12_taken_16 : decode cX12_taken 16 = .ok (.ifCond .ne 5, 3) := by decide +kernel
theorem dX12_taken_19 : decode cX12_taken 19 = .ok (.iconst (-1), 1) := by decide +kernel
theorem dX12_taken_20 : decode cX12_taken 20 = .ok (.ireturn, 1) := by decide +kernel
theorem dX12_taken_21 : decode cX12_taken 21 = .ok (.aload_n 0, 1) := by decide +kernel
theorem dX12_taken_22 : decode cX12_taken 22 = .ok (.getfield 71, 3) := by decide +kernel
theorem dX12_taken_25 : decode cX12_taken 25 = .ok (.iload_n 1, 1) := by decide +kernel
theorem dX12_taken_26 : decode cX12_taken 26 = .ok (.iaload, 1) := by decide +kernel
theorem dX12_taken_27 : decode cX12_taken 27 = .ok (.ifCond .ge 6, 3) := by decide +kernel
theorem dX12_taken_30 : decode cX12_taken 30 = .ok (.bipush (-11), 2) := by decide +kernel
theorem dX12_taken_32 : decode cX12_taken 32 = .ok (.ireturn, 1) := by decide +kernel
theorem dX12_taken_33 : decode cX12_taken 33 = .ok (.aload_n 0, 1) := by decide +kernel
theorem dX12_taken_34 : decode cX12_taken 34 = .ok (.getfield 71, 3) := by decide +kernel
theorem dX12_taken_37 : decode cX12_taken 37 = .ok (.iload_n 1, 1) := by decide +kernel
theorem dX12_taken_38 : decode cX12_taken 38 = .ok (.iaload, 1) := by decide +kernel
theorem dX12_taken_39 : decode cX12_taken 39 = .ok (.bipush 50, 2) := by decide +kernel
theorem dX12_taken_41 : decode cX12_taken 41 = .ok (.if_icmp .lt 6, 3) := by decide +kernel
theorem dX12_taken_44 : decode cX12_taken 44 = .ok (.bipush (-12), 2) := by decide +kernel
theorem dX12_taken_46 : decode cX12_taken 46 = .ok (.ireturn, 1) := by decide +kernel
theorem dX12_taken_47 : decode cX12_taken 47 = .ok (.aload_n 0, 1) := by decide +kernel
theorem dX12_taken_48 : decode cX12_taken 48 = .ok (.aload_n 0, 1) := by decide +kernel
theorem dX12_taken_49 : decode cX12_taken 49 = .ok (.getfield 71, 3) := by decide +kernel
theorem dX12_taken_52 : decode cX12_taken 52 = .ok (.iload_n 1, 1) := by decide +kernel
theorem dX12_taken_53 : decode cX12_taken 53 = .ok (.iaload, 1) := by decide +kernel
theorem dX12_taken_54 : decode cX12_taken 54 = .ok (.invokevirtual 340, 3) := by decide +kernel
theorem dX12_taken_57 : decode cX12_taken 57 = .ok (.istore_n 3, 1) := by decide +kernel
theorem dX12_taken_58 : decode cX12_taken 58 = .ok (.iload_n 3, 1) := by decide +kernel
theorem dX12_taken_59 : decode cX12_taken 59 = .ok (.iload_n 2, 1) := by decide +kernel
theorem dX12_taken_60 : decode cX12_taken 60 = .ok (.if_icmp .eq 15, 3) := by decide +kernel
theorem dX12_taken_63 : decode cX12_taken 63 = .ok (.iload_n 3, 1) := by decide +kernel
theorem dX12_taken_64 : decode cX12_taken 64 = .ok (.ifCond .le 11, 3) := by decide +kernel
theorem dX12_taken_67 : decode cX12_taken 67 = .ok (.iload_n 3, 1) := by decide +kernel
theorem dX12_taken_68 : decode cX12_taken 68 = .ok (.invokestatic 343, 3) := by decide +kernel
theorem dX12_taken_71 : decode cX12_taken 71 = .ok (.istore_n 3, 1) := by decide +kernel
theorem dX12_taken_72 : decode cX12_taken 72 = .ok (.goto (-14), 3) := by decide +kernel
theorem dX12_taken_75 : decode cX12_taken 75 = .ok (.iload_n 3, 1) := by decide +kernel
theorem dX12_taken_76 : decode cX12_taken 76 = .ok (.iload_n 2, 1) := by decide +kernel
theorem dX12_taken_77 : decode cX12_taken 77 = .ok (.if_icmp .ne 16, 3) := by decide +kernel
theorem dX12_taken_80 : decode cX12_taken 80 = .ok (.aload_n 0, 1) := by decide +kernel
theorem dX12_taken_81 : decode cX12_taken 81 = .ok (.aload_n 0, 1) := by decide +kernel
theorem dX12_taken_82 : decode cX12_taken 82 = .ok (.getfield 71, 3) := by decide +kernel
theorem dX12_taken_85 : decode cX12_taken 85 = .ok (.iload_n 1, 1) := by decide +kernel
theorem dX12_taken_86 : decode cX12_taken 86 = .ok (.iaload, 1) := by decide +kernel
theorem dX12_taken_87 : decode cX12_taken 87 = .ok (.invokevirtual 340, 3) := by decide +kernel
theorem dX12_taken_90 : decode cX12_taken 90 = .ok (.goto 5, 3) := by decide +kernel
theorem dX12_taken_93 : decode cX12_taken 93 = .ok (.bipush (-12), 2) := by decide +kernel
theorem dX12_taken_95 : decode cX12_taken 95 = .ok (.ireturn, 1) := by decide +kernel
theorem dX12_count_0 : decode cX12_count 0 = .ok (.iload_n 1, 1) := by decide +kernel
theorem dX12_count_1 : decode cX12_count 1 = .ok (.tableswitch 71 0 5 #[39, 45, 51, 56, 61, 66], 39) := by decide +kernel
theorem dX12_count_40 : decode cX12_count 40 = .ok (.aload_n 0, 1) := by decide +kernel
theorem dX12_count_41 : decode cX12_count 41 = .ok (.iconst 1, 1) := by decide +kernel
theorem dX12_count_42 : decode cX12_count 42 = .ok (.invokevirtual 346, 3) := by decide +kernel
theorem dX12_count_45 : decode cX12_count 45 = .ok (.ireturn, 1) := by decide +kernel
theorem dX12_count_46 : decode cX12_count 46 = .ok (.aload_n 0, 1) := by decide +kernel
theorem dX12_count_47 : decode cX12_count 47 = .ok (.iconst 0, 1) := by decide +kernel
theorem dX12_count_48 : decode cX12_count 48 = .ok (.invokevirtual 346, 3) := by decide +kernel
theorem dX12_count_51 : decode cX12_count 51 = .ok (.ireturn, 1) := by decide +kernel
theorem dX12_count_52 : decode cX12_count 52 = .ok (.aload_n 0, 1) := by decide +kernel
theorem dX12_count_53 : decode cX12_count 53 = .ok (.getfield 135, 3) := by decide +kernel
theorem dX12_count_56 : decode cX12_count 56 = .ok (.ireturn, 1) := by decide +kernel
theorem dX12_count_57 : decode cX12_count 57 = .ok (.aload_n 0, 1) := by decide +kernel
theorem dX12_count_58 : decode cX12_count 58 = .ok (.getfield 88, 3) := by decide +kernel
theorem dX12_count_61 : decode cX12_count 61 = .ok (.ireturn, 1) := by decide +kernel
theorem dX12_count_62 : decode cX12_count 62 = .ok (.aload_n 0, 1) := by decide +kernel
theorem dX12_count_63 : decode cX12_count 63 = .ok (.getfield 301, 3) := by decide +kernel
theorem dX12_count_66 : decode cX12_count 66 = .ok (.ireturn, 1) := by decide +kernel
theorem dX12_count_67 : decode cX12_count 67 = .ok (.aload_n 0, 1) := by decide +kernel
theorem dX12_count_68 : decode cX12_count 68 = .ok (.getfield 306, 3) := by decide +kernel
theorem dX12_count_71 : decode cX12_count 71 = .ok (.ireturn, 1) := by decide +kernel
theorem dX12_count_72 : decode cX12_count 72 = .ok (.iconst (-1), 1) := by decide +kernel
theorem dX12_count_73 : decode cX12_count 73 = .ok (.ireturn, 1) := by decide +kernel
