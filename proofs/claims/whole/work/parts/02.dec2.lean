theorem dX9_tests_44 : decode cX9_tests 44 = .ok (.aload_n 0, 1) := by decide +kernel
theorem dX9_tests_45 : decode cX9_tests 45 = .ok (.getfield 57, 3) := by decide +kernel
theorem dX9_tests_48 : decode cX9_tests 48 = .ok (.iload_n 1, 1) := by decide +kernel
theorem dX9_tests_49 : decode cX9_tests 49 = .ok (.iaload, 1) := by decide +kernel
theorem dX9_tests_50 : decode cX9_tests 50 = .ok (.bipush 25, 2) := by decide +kernel
theorem dX9_tests_52 : decode cX9_tests 52 = .ok (.if_icmp .ne 24, 3) := by decide +kernel
theorem dX9_tests_55 : decode cX9_tests 55 = .ok (.aload_n 0, 1) := by decide +kernel
theorem dX9_tests_56 : decode cX9_tests 56 = .ok (.getfield 54, 3) := by decide +kernel
theorem dX9_tests_59 : decode cX9_tests 59 = .ok (.iload_n 1, 1) := by decide +kernel
theorem dX9_tests_60 : decode cX9_tests 60 = .ok (.iaload, 1) := by decide +kernel
theorem dX9_tests_61 : decode cX9_tests 61 = .ok (.aload_n 0, 1) := by decide +kernel
theorem dX9_tests_62 : decode cX9_tests 62 = .ok (.getfield 60, 3) := by decide +kernel
theorem dX9_tests_65 : decode cX9_tests 65 = .ok (.iload_n 1, 1) := by decide +kernel
theorem dX9_tests_66 : decode cX9_tests 66 = .ok (.iaload, 1) := by decide +kernel
theorem dX9_tests_67 : decode cX9_tests 67 = .ok (.if_icmp .ne 7, 3) := by decide +kernel
theorem dX9_tests_70 : decode cX9_tests 70 = .ok (.iconst 1, 1) := by decide +kernel
theorem dX9_tests_71 : decode cX9_tests 71 = .ok (.goto 4, 3) := by decide +kernel
theorem dX9_tests_74 : decode cX9_tests 74 = .ok (.iconst 0, 1) := by decide +kernel
theorem dX9_tests_75 : decode cX9_tests 75 = .ok (.istore_n 2, 1) := by decide +kernel
theorem dX9_tests_76 : decode cX9_tests 76 = .ok (.aload_n 0, 1) := by decide +kernel
theorem dX9_tests_77 : decode cX9_tests 77 = .ok (.getfield 51, 3) := by decide +kernel
theorem dX9_tests_80 : decode cX9_tests 80 = .ok (.iload_n 1, 1) := by decide +kernel
theorem dX9_tests_81 : decode cX9_tests 81 = .ok (.iaload, 1) := by decide +kernel
theorem dX9_tests_82 : decode cX9_tests 82 = .ok (.bipush 26, 2) := by decide +kernel
theorem dX9_tests_84 : decode cX9_tests 84 = .ok (.if_icmp .ne 22, 3) := by decide +kernel
theorem dX9_tests_87 : decode cX9_tests 87 = .ok (.aload_n 0, 1) := by decide +kernel
theorem dX9_tests_88 : decode cX9_tests 88 = .ok (.getfield 48, 3) := by decide +kernel
theorem dX9_tests_91 : decode cX9_tests 91 = .ok (.iload_n 1, 1) := by decide +kernel
theorem dX9_tests_92 : decode cX9_tests 92 = .ok (.iaload, 1) := by decide +kernel
theorem dX9_tests_93 : decode cX9_tests 93 = .ok (.ifCond .eq 11, 3) := by decide +kernel
theorem dX9_tests_96 : decode cX9_tests 96 = .ok (.iload_n 2, 1) := by decide +kernel
theorem dX9_tests_97 : decode cX9_tests 97 = .ok (.ifCond .eq 7, 3) := by decide +kernel
theorem dX9_tests_100 : decode cX9_tests 100 = .ok (.iconst 1, 1) := by decide +kernel
theorem dX9_tests_101 : decode cX9_tests 101 = .ok (.goto 4, 3) := by decide +kernel
theorem dX9_tests_104 : decode cX9_tests 104 = .ok (.iconst 0, 1) := by decide +kernel
theorem dX9_tests_105 : decode cX9_tests 105 = .ok (.istore_n 2, 1) := by decide +kernel
theorem dX9_tests_106 : decode cX9_tests 106 = .ok (.aload_n 0, 1) := by decide +kernel
theorem dX9_tests_107 : decode cX9_tests 107 = .ok (.getfield 51, 3) := by decide +kernel
theorem dX9_tests_110 : decode cX9_tests 110 = .ok (.iload_n 1, 1) := by decide +kernel
theorem dX9_tests_111 : decode cX9_tests 111 = .ok (.iaload, 1) := by decide +kernel
theorem dX9_tests_112 : decode cX9_tests 112 = .ok (.bipush 27, 2) := by decide +kernel
theorem dX9_tests_114 : decode cX9_tests 114 = .ok (.if_icmp .ne 22, 3) := by decide +kernel
theorem dX9_tests_117 : decode cX9_tests 117 = .ok (.aload_n 0, 1) := by decide +kernel
theorem dX9_tests_118 : decode cX9_tests 118 = .ok (.getfield 48, 3) := by decide +kernel
theorem dX9_tests_121 : decode cX9_tests 121 = .ok (.iload_n 1, 1) := by decide +kernel
theorem dX9_tests_122 : decode cX9_tests 122 = .ok (.iaload, 1) := by decide +kernel
theorem dX9_tests_123 : decode cX9_tests 123 = .ok (.ifCond .ne 7, 3) := by decide +kernel
theorem dX9_tests_126 : decode cX9_tests 126 = .ok (.iload_n 2, 1) := by decide +kernel
theorem dX9_tests_127 : decode cX9_tests 127 = .ok (.ifCond .eq 7, 3) := by decide +kernel
theorem dX9_tests_130 : decode cX9_tests 130 = .ok (.iconst 1, 1) := by decide +kernel
theorem dX9_tests_131 : decode cX9_tests 131 = .ok (.goto 4, 3) := by decide +kernel
theorem dX9_tests_134 : decode cX9_tests 134 = .ok (.iconst 0, 1) := by decide +kernel
theorem dX9_tests_135 : decode cX9_tests 135 = .ok (.istore_n 2, 1) := by decide +kernel
theorem dX9_tests_136 : decode cX9_tests 136 = .ok (.aload_n 0, 1) := by decide +kernel
theorem dX9_tests_137 : decode cX9_tests 137 = .ok (.getfield 48, 3) := by decide +kernel
theorem dX9_tests_140 : decode cX9_tests 140 = .ok (.iload_n 1, 1) := by decide +kernel
theorem dX9_tests_141 : decode cX9_tests 141 = .ok (.iload_n 2, 1) := by decide +kernel
theorem dX9_tests_142 : decode cX9_tests 142 = .ok (.iastore, 1) := by decide +kernel
theorem dX9_tests_143 : decode cX9_tests 143 = .ok (.aload_n 0, 1) := by decide +kernel
theorem dX9_tests_144 : decode cX9_tests 144 = .ok (.getfield 57, 3) := by decide +kernel
theorem dX9_tests_147 : decode cX9_tests 147 = .ok (.iload_n 1, 1) := by decide +kernel
theorem dX9_tests_148 : decode cX9_tests 148 = .ok (.iconst 0, 1) := by decide +kernel
theorem dX9_tests_149 : decode cX9_tests 149 = .ok (.iastore, 1) := by decide +kernel
theorem dX9_tests_150 : decode cX9_tests 150 = .ok (.aload_n 0, 1) := by decide +kernel
theorem dX9_tests_151 : decode cX9_tests 151 = .ok (.getfield 60, 3) := by decide +kernel
theorem dX9_tests_154 : decode cX9_tests 154 = .ok (.iload_n 1, 1) := by decide +kernel
theorem dX9_tests_155 : decode cX9_tests 155 = .ok (.iconst 0, 1) := by decide +kernel
theorem dX9_tests_156 : decode cX9_tests 156 = .ok (.iastore, 1) := by decide +kernel
theorem dX9_tests_157 : decode cX9_tests 157 = .ok (.aload_n 0, 1) := by decide +kernel
theorem dX9_tests_158 : decode cX9_tests 158 = .ok (.getfield 63, 3) := by decide +kernel
theorem dX9_tests_161 : decode cX9_tests 161 = .ok (.iload_n 1, 1) := by decide +kernel
theorem dX9_tests_162 : decode cX9_tests 162 = .ok (.bipush 20, 2) := by decide +kernel
theorem dX9_tests_164 : decode cX9_tests 164 = .ok (.iastore, 1) := by decide +kernel
theorem dX9_tests_165 : decode cX9_tests 165 = .ok (.return_, 1) := by decide +kernel
theorem dX9_worked_0 : decode cX9_worked 0 = .ok (.iconst 0, 1) := by decide +kernel
theorem dX9_worked_1 : decode cX9_worked 1 = .ok (.istore_n 2, 1) := by decide +kernel
theorem dX9_worked_2 : decode cX9_worked 2 = .ok (.aload_n 0, 1) := by decide +kernel
theorem dX9_worked_3 : decode cX9_worked 3 = .ok (.iconst 0, 1) := by decide +kernel
theorem dX9_worked_4 : decode cX9_worked 4 = .ok (.invokevirtual 210, 3) := by decide +kernel
theorem dX9_worked_7 : decode cX9_worked 7 = .ok (.aload_n 0, 1) := by decide +kernel
theorem dX9_worked_8 : decode cX9_worked 8 = .ok (.getfield 32, 3) := by decide +kernel
theorem dX9_worked_11 : decode cX9_worked 11 = .ok (.iload_n 1, 1) := by decide +kernel
theorem dX9_worked_12 : decode cX9_worked 12 = .ok (.iaload, 1) := by decide +kernel
theorem dX9_worked_13 : decode cX9_worked 13 = .ok (.istore_n 3, 1) := by decide +kernel
theorem dX9_worked_14 : decode cX9_worked 14 = .ok (.iload_n 3, 1) := by decide +kernel
theorem dX9_worked_15 : decode cX9_worked 15 = .ok (.aload_n 0, 1) := by decide +kernel
theorem dX9_worked_16 : decode cX9_worked 16 = .ok (.getfield 35, 3) := by decide +kernel
theorem dX9_worked_19 : decode cX9_worked 19 = .ok (.iload_n 1, 1) := by decide +kernel
theorem dX9_worked_20 : decode cX9_worked 20 = .ok (.iaload, 1) := by decide +kernel
theorem dX9_worked_21 : decode cX9_worked 21 = .ok (.if_icmp .ge 314, 3) := by decide +kernel
theorem dX9_worked_24 : decode cX9_worked 24 = .ok (.aload_n 0, 1) := by decide +kernel
theorem dX9_worked_25 : decode cX9_worked 25 = .ok (.getfield 38, 3) := by decide +kernel
theorem dX9_worked_28 : decode cX9_worked 28 = .ok (.iload_n 3, 1) := by decide +kernel
theorem dX9_worked_29 : decode cX9_worked 29 = .ok (.iaload, 1) := by decide +kernel
theorem dX9_worked_30 : decode cX9_worked 30 = .ok (.istore 4, 2) := by decide +kernel
theorem dX9_worked_32 : decode cX9_worked 32 = .ok (.iload 4, 2) := by decide +kernel
theorem dX9_worked_34 : decode cX9_worked 34 = .ok (.bipush 28, 2) := by decide +kernel
theorem dX9_worked_36 : decode cX9_worked 36 = .ok (.if_icmp .eq 10, 3) := by decide +kernel
theorem dX9_worked_39 : decode cX9_worked 39 = .ok (.iload 4, 2) := by decide +kernel
theorem dX9_worked_41 : decode cX9_worked 41 = .ok (.bipush 30, 2) := by decide +kernel
theorem dX9_worked_43 : decode cX9_worked 43 = .ok (.if_icmp .ne 32, 3) := by decide +kernel
theorem dX9_worked_46 : decode cX9_worked 46 = .ok (.iinc 2 1, 3) := by decide +kernel
theorem dX9_worked_49 : decode cX9_worked 49 = .ok (.aload_n 0, 1) := by decide +kernel
theorem dX9_worked_50 : decode cX9_worked 50 = .ok (.getfield 72, 3) := by decide +kernel
theorem dX9_worked_53 : decode cX9_worked 53 = .ok (.iload_n 2, 1) := by decide +kernel
theorem dX9_worked_54 : decode cX9_worked 54 = .ok (.iload 4, 2) := by decide +kernel
theorem dX9_worked_56 : decode cX9_worked 56 = .ok (.bipush 30, 2) := by decide +kernel
theorem dX9_worked_58 : decode cX9_worked 58 = .ok (.if_icmp .ne 7, 3) := by decide +kernel
theorem dX9_worked_61 : decode cX9_worked 61 = .ok (.iconst 1, 1) := by decide +kernel
theorem dX9_worked_62 : decode cX9_worked 62 = .ok (.goto 4, 3) := by decide +kernel
theorem dX9_worked_65 : decode cX9_worked 65 = .ok (.iconst 0, 1) := by decide +kernel
theorem dX9_worked_66 : decode cX9_worked 66 = .ok (.iastore, 1) := by decide +kernel
theorem dX9_worked_67 : decode cX9_worked 67 = .ok (.aload_n 0, 1) := by decide +kernel
theorem dX9_worked_68 : decode cX9_worked 68 = .ok (.iload_n 2, 1) := by decide +kernel
theorem dX9_worked_69 : decode cX9_worked 69 = .ok (.invokevirtual 210, 3) := by decide +kernel
theorem dX9_worked_72 : decode cX9_worked 72 = .ok (.goto 257, 3) := by decide +kernel
theorem dX9_worked_75 : decode cX9_worked 75 = .ok (.iload 4, 2) := by decide +kernel
theorem dX9_worked_77 : decode cX9_worked 77 = .ok (.bipush 20, 2) := by decide +kernel
theorem dX9_worked_79 : decode cX9_worked 79 = .ok (.if_icmp .eq 10, 3) := by decide +kernel
theorem dX9_worked_82 : decode cX9_worked 82 = .ok (.iload 4, 2) := by decide +kernel
theorem dX9_worked_84 : decode cX9_worked 84 = .ok (.bipush 21, 2) := by decide +kernel
theorem dX9_worked_86 : decode cX9_worked 86 = .ok (.if_icmp .ne 19, 3) := by decide +kernel
theorem dX9_worked_89 : decode cX9_worked 89 = .ok (.aload_n 0, 1) := by decide +kernel
theorem dX9_worked_90 : decode cX9_worked 90 = .ok (.iload_n 2, 1) := by decide +kernel
theorem dX9_worked_91 : decode cX9_worked 91 = .ok (.invokevirtual 207, 3) := by decide +kernel
theorem dX9_worked_94 : decode cX9_worked 94 = .ok (.aload_n 0, 1) := by decide +kernel
theorem dX9_worked_95 : decode cX9_worked 95 = .ok (.getfield 63, 3) := by decide +kernel
theorem dX9_worked_98 : decode cX9_worked 98 = .ok (.iload_n 2, 1) := by decide +kernel
theorem dX9_worked_99 : decode cX9_worked 99 = .ok (.iload 4, 2) := by decide +kernel
theorem dX9_worked_101 : decode cX9_worked 101 = .ok (.iastore, 1) := by decide +kernel
theorem dX9_worked_102 : decode cX9_worked 102 = .ok (.goto 227, 3) := by decide +kernel
theorem dX9_worked_105 : decode cX9_worked 105 = .ok (.iload 4, 2) := by decide +kernel
theorem dX9_worked_107 : decode cX9_worked 107 = .ok (.bipush 22, 2) := by decide +kernel
theorem dX9_worked_109 : decode cX9_worked 109 = .ok (.if_icmp .ne 14, 3) := by decide +kernel
theorem dX9_worked_112 : decode cX9_worked 112 = .ok (.aload_n 0, 1) := by decide +kernel
theorem dX9_worked_113 : decode cX9_worked 113 = .ok (.getfield 69, 3) := by decide +kernel
theorem dX9_worked_116 : decode cX9_worked 116 = .ok (.iload_n 2, 1) := by decide +kernel
theorem dX9_worked_117 : decode cX9_worked 117 = .ok (.iload 4, 2) := by decide +kernel
theorem dX9_worked_119 : decode cX9_worked 119 = .ok (.iastore, 1) := by decide +kernel
theorem dX9_worked_120 : decode cX9_worked 120 = .ok (.goto 209, 3) := by decide +kernel
theorem dX9_worked_123 : decode cX9_worked 123 = .ok (.iload 4, 2) := by decide +kernel
theorem dX9_worked_125 : decode cX9_worked 125 = .ok (.bipush 24, 2) := by decide +kernel
theorem dX9_worked_127 : decode cX9_worked 127 = .ok (.if_icmp .eq 10, 3) := by decide +kernel
theorem dX9_worked_130 : decode cX9_worked 130 = .ok (.iload 4, 2) := by decide +kernel
theorem dX9_worked_132 : decode cX9_worked 132 = .ok (.bipush 25, 2) := by decide +kernel
theorem dX9_worked_134 : decode cX9_worked 134 = .ok (.if_icmp .ne 46, 3) := by decide +kernel
theorem dX9_worked_137 : decode cX9_worked 137 = .ok (.aload_n 0, 1) := by decide +kernel
theorem dX9_worked_138 : decode cX9_worked 138 = .ok (.iload_n 2, 1) := by decide +kernel
theorem dX9_worked_139 : decode cX9_worked 139 = .ok (.invokevirtual 207, 3) := by decide +kernel
theorem dX9_worked_142 : decode cX9_worked 142 = .ok (.aload_n 0, 1) := by decide +kernel
theorem dX9_worked_143 : decode cX9_worked 143 = .ok (.getfield 54, 3) := by decide +kernel
theorem dX9_worked_146 : decode cX9_worked 146 = .ok (.iload_n 2, 1) := by decide +kernel
theorem dX9_worked_147 : decode cX9_worked 147 = .ok (.aload_n 0, 1) := by decide +kernel
theorem dX9_worked_148 : decode cX9_worked 148 = .ok (.getfield 60, 3) := by decide +kernel
theorem dX9_worked_151 : decode cX9_worked 151 = .ok (.iload_n 2, 1) := by decide +kernel
theorem dX9_worked_152 : decode cX9_worked 152 = .ok (.iaload, 1) := by decide +kernel
theorem dX9_worked_153 : decode cX9_worked 153 = .ok (.iastore, 1) := by decide +kernel
theorem dX9_worked_154 : decode cX9_worked 154 = .ok (.aload_n 0, 1) := by decide +kernel
theorem dX9_worked_155 : decode cX9_worked 155 = .ok (.getfield 57, 3) := by decide +kernel
theorem dX9_worked_158 : decode cX9_worked 158 = .ok (.iload_n 2, 1) := by decide +kernel
theorem dX9_worked_159 : decode cX9_worked 159 = .ok (.iload 4, 2) := by decide +kernel
theorem dX9_worked_161 : decode cX9_worked 161 = .ok (.iastore, 1) := by decide +kernel
theorem dX9_worked_162 : decode cX9_worked 162 = .ok (.aload_n 0, 1) := by decide +kernel
theorem dX9_worked_163 : decode cX9_worked 163 = .ok (.getfield 60, 3) := by decide +kernel
theorem dX9_worked_166 : decode cX9_worked 166 = .ok (.iload_n 2, 1) := by decide +kernel
theorem dX9_worked_167 : decode cX9_worked 167 = .ok (.iconst 0, 1) := by decide +kernel
theorem dX9_worked_168 : decode cX9_worked 168 = .ok (.iastore, 1) := by decide +kernel
theorem dX9_worked_169 : decode cX9_worked 169 = .ok (.aload_n 0, 1) := by decide +kernel
theorem dX9_worked_170 : decode cX9_worked 170 = .ok (.getfield 63, 3) := by decide +kernel
theorem dX9_worked_173 : decode cX9_worked 173 = .ok (.iload_n 2, 1) := by decide +kernel
theorem dX9_worked_174 : decode cX9_worked 174 = .ok (.bipush 20, 2) := by decide +kernel
theorem dX9_worked_176 : decode cX9_worked 176 = .ok (.iastore, 1) := by decide +kernel
theorem dX9_worked_177 : decode cX9_worked 177 = .ok (.goto 152, 3) := by decide +kernel
theorem dX9_worked_180 : decode cX9_worked 180 = .ok (.iload 4, 2) := by decide +kernel
theorem dX9_worked_182 : decode cX9_worked 182 = .ok (.bipush 26, 2) := by decide +kernel
theorem dX9_worked_184 : decode cX9_worked 184 = .ok (.if_icmp .eq 10, 3) := by decide +kernel
theorem dX9_worked_187 : decode cX9_worked 187 = .ok (.iload 4, 2) := by decide +kernel
theorem dX9_worked_189 : decode cX9_worked 189 = .ok (.bipush 27, 2) := by decide +kernel
theorem dX9_worked_191 : decode cX9_worked 191 = .ok (.if_icmp .ne 19, 3) := by decide +kernel
theorem dX9_worked_194 : decode cX9_worked 194 = .ok (.aload_n 0, 1) := by decide +kernel
theorem dX9_worked_195 : decode cX9_worked 195 = .ok (.iload_n 2, 1) := by decide +kernel
theorem dX9_worked_196 : decode cX9_worked 196 = .ok (.invokevirtual 213, 3) := by decide +kernel
theorem dX9_worked_199 : decode cX9_worked 199 = .ok (.aload_n 0, 1) := by decide +kernel
theorem dX9_worked_200 : decode cX9_worked 200 = .ok (.getfield 51, 3) := by decide +kernel
theorem dX9_worked_203 : decode cX9_worked 203 = .ok (.iload_n 2, 1) := by decide +kernel
theorem dX9_worked_204 : decode cX9_worked 204 = .ok (.iload 4, 2) := by decide +kernel
theorem dX9_worked_206 : decode cX9_worked 206 = .ok (.iastore, 1) := by decide +kernel
theorem dX9_worked_207 : decode cX9_worked 207 = .ok (.goto 122, 3) := by decide +kernel
theorem dX9_worked_210 : decode cX9_worked 210 = .ok (.iload 4, 2) := by decide +kernel
theorem dX9_worked_212 : decode cX9_worked 212 = .ok (.bipush 100, 2) := by decide +kernel
theorem dX9_worked_214 : decode cX9_worked 214 = .ok (.if_icmp .lt 11, 3) := by decide +kernel
theorem dX9_worked_217 : decode cX9_worked 217 = .ok (.iload 4, 2) := by decide +kernel
theorem dX9_worked_219 : decode cX9_worked 219 = .ok (.bipush 100, 2) := by decide +kernel
theorem dX9_worked_221 : decode cX9_worked 221 = .ok (.isub, 1) := by decide +kernel
theorem dX9_worked_222 : decode cX9_worked 222 = .ok (.goto 21, 3) := by decide +kernel
theorem dX9_worked_225 : decode cX9_worked 225 = .ok (.iload 4, 2) := by decide +kernel
theorem dX9_worked_227 : decode cX9_worked 227 = .ok (.bipush 20, 2) := by decide +kernel
theorem dX9_worked_229 : decode cX9_worked 229 = .ok (.if_icmp .ge 13, 3) := by decide +kernel
theorem dX9_worked_232 : decode cX9_worked 232 = .ok (.aload_n 0, 1) := by decide +kernel
theorem dX9_worked_233 : decode cX9_worked 233 = .ok (.getfield 75, 3) := by decide +kernel
theorem dX9_worked_236 : decode cX9_worked 236 = .ok (.iload 4, 2) := by decide +kernel
theorem dX9_worked_238 : decode cX9_worked 238 = .ok (.iaload, 1) := by decide +kernel
theorem dX9_worked_239 : decode cX9_worked 239 = .ok (.goto 4, 3) := by decide +kernel
theorem dX9_worked_242 : decode cX9_worked 242 = .ok (.iconst 0, 1) := by decide +kernel
theorem dX9_worked_243 : decode cX9_worked 243 = .ok (.istore 5, 2) := by decide +kernel
theorem dX9_worked_245 : decode cX9_worked 245 = .ok (.iload 4, 2) := by decide +kernel
theorem dX9_worked_247 : decode cX9_worked 247 = .ok (.bipush 29, 2) := by decide +kernel
theorem dX9_worked_249 : decode cX9_worked 249 = .ok (.if_icmp .ne 19, 3) := by decide +kernel
theorem dX9_worked_252 : decode cX9_worked 252 = .ok (.aload_n 0, 1) := by decide +kernel
theorem dX9_worked_253 : decode cX9_worked 253 = .ok (.iload_n 2, 1) := by decide +kernel
theorem dX9_worked_254 : decode cX9_worked 254 = .ok (.invokevirtual 213, 3) := by decide +kernel
theorem dX9_worked_257 : decode cX9_worked 257 = .ok (.aload_n 0, 1) := by decide +kernel
theorem dX9_worked_258 : decode cX9_worked 258 = .ok (.getfield 48, 3) := by decide +kernel
theorem dX9_worked_261 : decode cX9_worked 261 = .ok (.iload_n 2, 1) := by decide +kernel
theorem dX9_worked_262 : decode cX9_worked 262 = .ok (.iaload, 1) := by decide +kernel
theorem dX9_worked_263 : decode cX9_worked 263 = .ok (.istore 5, 2) := by decide +kernel
theorem dX9_worked_265 : decode cX9_worked 265 = .ok (.iinc 2 (-1), 3) := by decide +kernel
theorem dX9_worked_268 : decode cX9_worked 268 = .ok (.iload_n 2, 1) := by decide +kernel
theorem dX9_worked_269 : decode cX9_worked 269 = .ok (.ifCond .le 31, 3) := by decide +kernel
theorem dX9_worked_272 : decode cX9_worked 272 = .ok (.aload_n 0, 1) := by decide +kernel
theorem dX9_worked_273 : decode cX9_worked 273 = .ok (.getfield 72, 3) := by decide +kernel
theorem dX9_worked_276 : decode cX9_worked 276 = .ok (.iload_n 2, 1) := by decide +kernel
theorem dX9_worked_277 : decode cX9_worked 277 = .ok (.iaload, 1) := by decide +kernel
theorem dX9_worked_278 : decode cX9_worked 278 = .ok (.iconst 1, 1) := by decide +kernel
theorem dX9_worked_279 : decode cX9_worked 279 = .ok (.if_icmp .ne 21, 3) := by decide +kernel
theorem dX9_worked_282 : decode cX9_worked 282 = .ok (.iload 5, 2) := by decide +kernel
theorem dX9_worked_284 : decode cX9_worked 284 = .ok (.ifCond .ne 7, 3) := by decide +kernel
theorem dX9_worked_287 : decode cX9_worked 287 = .ok (.iconst 1, 1) := by decide +kernel
theorem dX9_worked_288 : decode cX9_worked 288 = .ok (.goto 4, 3) := by decide +kernel
theorem dX9_worked_291 : decode cX9_worked 291 = .ok (.iconst 0, 1) := by decide +kernel
theorem dX9_worked_292 : decode cX9_worked 292 = .ok (.istore 5, 2) := by decide +kernel
theorem dX9_worked_294 : decode cX9_worked 294 = .ok (.iinc 2 (-1), 3) := by decide +kernel
theorem dX9_worked_297 : decode cX9_worked 297 = .ok (.goto (-29), 3) := by decide +kernel
theorem dX9_worked_300 : decode cX9_worked 300 = .ok (.aload_n 0, 1) := by decide +kernel
theorem dX9_worked_301 : decode cX9_worked 301 = .ok (.getfield 66, 3) := by decide +kernel
theorem dX9_worked_304 : decode cX9_worked 304 = .ok (.iload_n 2, 1) := by decide +kernel
theorem dX9_worked_305 : decode cX9_worked 305 = .ok (.aload_n 0, 1) := by decide +kernel
theorem dX9_worked_306 : decode cX9_worked 306 = .ok (.getfield 69, 3) := by decide +kernel
theorem dX9_worked_309 : decode cX9_worked 309 = .ok (.iload_n 2, 1) := by decide +kernel
theorem dX9_worked_310 : decode cX9_worked 310 = .ok (.iaload, 1) := by decide +kernel
theorem dX9_worked_311 : decode cX9_worked 311 = .ok (.ifCond .ne 8, 3) := by decide +kernel
theorem dX9_worked_314 : decode cX9_worked 314 = .ok (.iload 5, 2) := by decide +kernel
theorem dX9_worked_316 : decode cX9_worked 316 = .ok (.goto 12, 3) := by decide +kernel
theorem dX9_worked_319 : decode cX9_worked 319 = .ok (.aload_n 0, 1) := by decide +kernel
theorem dX9_worked_320 : decode cX9_worked 320 = .ok (.getfield 66, 3) := by decide +kernel
theorem dX9_worked_323 : decode cX9_worked 323 = .ok (.iload_n 2, 1) := by decide +kernel
theorem dX9_worked_324 : decode cX9_worked 324 = .ok (.iaload, 1) := by decide +kernel
theorem dX9_worked_325 : decode cX9_worked 325 = .ok (.iload 5, 2) := by decide +kernel
theorem dX9_worked_327 : decode cX9_worked 327 = .ok (.imul, 1) := by decide +kernel
theorem dX9_worked_328 : decode cX9_worked 328 = .ok (.iastore, 1) := by decide +kernel
theorem dX9_worked_329 : decode cX9_worked 329 = .ok (.iinc 3 1, 3) := by decide +kernel
theorem dX9_worked_332 : decode cX9_worked 332 = .ok (.goto (-318), 3) := by decide +kernel
theorem dX9_worked_335 : decode cX9_worked 335 = .ok (.aload_n 0, 1) := by decide +kernel
theorem dX9_worked_336 : decode cX9_worked 336 = .ok (.iconst 0, 1) := by decide +kernel
theorem dX9_worked_337 : decode cX9_worked 337 = .ok (.invokevirtual 213, 3) := by decide +kernel
theorem dX9_worked_340 : decode cX9_worked 340 = .ok (.aload_n 0, 1) := by decide +kernel
theorem dX9_worked_341 : decode cX9_worked 341 = .ok (.getfield 48, 3) := by decide +kernel
theorem dX9_worked_344 : decode cX9_worked 344 = .ok (.iconst 0, 1) := by decide +kernel
theorem dX9_worked_345 : decode cX9_worked 345 = .ok (.iaload, 1) := by decide +kernel
theorem dX9_worked_346 : decode cX9_worked 346 = .ok (.ireturn, 1) := by decide +kernel
theorem dX9_isKept_0 : decode cX9_isKept 0 = .ok (.aload_n 0, 1) := by decide +kernel
theorem dX9_isKept_1 : decode cX9_isKept 1 = .ok (.getfield 154, 3) := by decide +kernel
theorem dX9_isKept_4 : decode cX9_isKept 4 = .ok (.iconst 1, 1) := by decide +kernel
theorem dX9_isKept_5 : decode cX9_isKept 5 = .ok (.if_icmp .eq 5, 3) := by decide +kernel
theorem dX9_isKept_8 : decode cX9_isKept 8 = .ok (.iconst 1, 1) := by decide +kernel
theorem dX9_isKept_9 : decode cX9_isKept 9 = .ok (.ireturn, 1) := by decide +kernel
theorem dX9_isKept_10 : decode cX9_isKept 10 = .ok (.aload_n 0, 1) := by decide +kernel
theorem dX9_isKept_11 : decode cX9_isKept 11 = .ok (.getfield 147, 3) := by decide +kernel
theorem dX9_isKept_14 : decode cX9_isKept 14 = .ok (.ldc2_w 216, 3) := by decide +kernel
theorem dX9_isKept_17 : decode cX9_isKept 17 = .ok (.lcmp, 1) := by decide +kernel
theorem dX9_isKept_18 : decode cX9_isKept 18 = .ok (.ifCond .eq 179, 3) := by decide +kernel
theorem dX9_isKept_21 : decode cX9_isKept 21 = .ok (.aload_n 0, 1) := by decide +kernel
theorem dX9_isKept_22 : decode cX9_isKept 22 = .ok (.getfield 147, 3) := by decide +kernel
theorem dX9_isKept_25 : decode cX9_isKept 25 = .ok (.ldc2_w 218, 3) := by decide +kernel
theorem dX9_isKept_28 : decode cX9_isKept 28 = .ok (.lcmp, 1) := by decide +kernel
theorem dX9_isKept_29 : decode cX9_isKept 29 = .ok (.ifCond .eq 168, 3) := by decide +kernel
theorem dX9_isKept_32 : decode cX9_isKept 32 = .ok (.aload_n 0, 1) := by decide +kernel
theorem dX9_isKept_33 : decode cX9_isKept 33 = .ok (.getfield 147, 3) := by decide +kernel
theorem dX9_isKept_36 : decode cX9_isKept 36 = .ok (.ldc2_w 220, 3) := by decide +kernel
theorem dX9_isKept_39 : decode cX9_isKept 39 = .ok (.lcmp, 1) := by decide +kernel
theorem dX9_isKept_40 : decode cX9_isKept 40 = .ok (.ifCond .eq 157, 3) := by decide +kernel
theorem dX9_isKept_43 : decode cX9_isKept 43 = .ok (.aload_n 0, 1) := by decide +kernel
theorem dX9_isKept_44 : decode cX9_isKept 44 = .ok (.getfield 147, 3) := by decide +kernel
theorem dX9_isKept_47 : decode cX9_isKept 47 = .ok (.ldc2_w 222, 3) := by decide +kernel
theorem dX9_isKept_50 : decode cX9_isKept 50 = .ok (.lcmp, 1) := by decide +kernel
theorem dX9_isKept_51 : decode cX9_isKept 51 = .ok (.ifCond .eq 146, 3) := by decide +kernel
theorem dX9_isKept_54 : decode cX9_isKept 54 = .ok (.aload_n 0, 1) := by decide +kernel
theorem dX9_isKept_55 : decode cX9_isKept 55 = .ok (.getfield 147, 3) := by decide +kernel
theorem dX9_isKept_58 : decode cX9_isKept 58 = .ok (.ldc2_w 224, 3) := by decide +kernel
theorem dX9_isKept_61 : decode cX9_isKept 61 = .ok (.lcmp, 1) := by decide +kernel
theorem dX9_isKept_62 : decode cX9_isKept 62 = .ok (.ifCond .eq 135, 3) := by decide +kernel
theorem dX9_isKept_65 : decode cX9_isKept 65 = .ok (.aload_n 0, 1) := by decide +kernel
theorem dX9_isKept_66 : decode cX9_isKept 66 = .ok (.getfield 147, 3) := by decide +kernel
theorem dX9_isKept_69 : decode cX9_isKept 69 = .ok (.ldc2_w 226, 3) := by decide +kernel
theorem dX9_isKept_72 : decode cX9_isKept 72 = .ok (.lcmp, 1) := by decide +kernel
theorem dX9_isKept_73 : decode cX9_isKept 73 = .ok (.ifCond .eq 124, 3) := by decide +kernel
theorem dX9_isKept_76 : decode cX9_isKept 76 = .ok (.aload_n 0, 1) := by decide +kernel
theorem dX9_isKept_77 : decode cX9_isKept 77 = .ok (.getfield 147, 3) := by decide +kernel
theorem dX9_isKept_80 : decode cX9_isKept 80 = .ok (.ldc2_w 228, 3) := by decide +kernel
theorem dX9_isKept_83 : decode cX9_isKept 83 = .ok (.lcmp, 1) := by decide +kernel
theorem dX9_isKept_84 : decode cX9_isKept 84 = .ok (.ifCond .eq 113, 3) := by decide +kernel
theorem dX9_isKept_87 : decode cX9_isKept 87 = .ok (.aload_n 0, 1) := by decide +kernel
theorem dX9_isKept_88 : decode cX9_isKept 88 = .ok (.getfield 147, 3) := by decide +kernel
theorem dX9_isKept_91 : decode cX9_isKept 91 = .ok (.ldc2_w 230, 3) := by decide +kernel
theorem dX9_isKept_94 : decode cX9_isKept 94 = .ok (.lcmp, 1) := by decide +kernel
theorem dX9_isKept_95 : decode cX9_isKept 95 = .ok (.ifCond .eq 102, 3) := by decide +kernel
theorem dX9_isKept_98 : decode cX9_isKept 98 = .ok (.aload_n 0, 1) := by decide +kernel
theorem dX9_isKept_99 : decode cX9_isKept 99 = .ok (.getfield 147, 3) := by decide +kernel
theorem dX9_isKept_102 : decode cX9_isKept 102 = .ok (.ldc2_w 232, 3) := by decide +kernel
theorem dX9_isKept_105 : decode cX9_isKept 105 = .ok (.lcmp, 1) := by decide +kernel
theorem dX9_isKept_106 : decode cX9_isKept 106 = .ok (.ifCond .eq 91, 3) := by decide +kernel
theorem dX9_isKept_109 : decode cX9_isKept 109 = .ok (.aload_n 0, 1) := by decide +kernel
theorem dX9_isKept_110 : decode cX9_isKept 110 = .ok (.getfield 147, 3) := by decide +kernel
theorem dX9_isKept_113 : decode cX9_isKept 113 = .ok (.ldc2_w 234, 3) := by decide +kernel
theorem dX9_isKept_116 : decode cX9_isKept 116 = .ok (.lcmp, 1) := by decide +kernel
theorem dX9_isKept_117 : decode cX9_isKept 117 = .ok (.ifCond .eq 80, 3) := by decide +kernel
theorem dX9_isKept_120 : decode cX9_isKept 120 = .ok (.aload_n 0, 1) := by decide +kernel
theorem dX9_isKept_121 : decode cX9_isKept 121 = .ok (.getfield 147, 3) := by decide +kernel
theorem dX9_isKept_124 : decode cX9_isKept 124 = .ok (.ldc2_w 236, 3) := by decide +kernel
theorem dX9_isKept_127 : decode cX9_isKept 127 = .ok (.lcmp, 1) := by decide +kernel
theorem dX9_isKept_128 : decode cX9_isKept 128 = .ok (.ifCond .eq 69, 3) := by decide +kernel
theorem dX9_isKept_131 : decode cX9_isKept 131 = .ok (.aload_n 0, 1) := by decide +kernel
theorem dX9_isKept_132 : decode cX9_isKept 132 = .ok (.getfield 147, 3) := by decide +kernel
theorem dX9_isKept_135 : decode cX9_isKept 135 = .ok (.ldc2_w 238, 3) := by decide +kernel
theorem dX9_isKept_138 : decode cX9_isKept 138 = .ok (.lcmp, 1) := by decide +kernel
theorem dX9_isKept_139 : decode cX9_isKept 139 = .ok (.ifCond .eq 58, 3) := by decide +kernel
theorem dX9_isKept_142 : decode cX9_isKept 142 = .ok (.aload_n 0, 1) := by decide +kernel
theorem dX9_isKept_143 : decode cX9_isKept 143 = .ok (.getfield 147, 3) := by decide +kernel
theorem dX9_isKept_146 : decode cX9_isKept 146 = .ok (.ldc2_w 240, 3) := by decide +kernel
theorem dX9_isKept_149 : decode cX9_isKept 149 = .ok (.lcmp, 1) := by decide +kernel
theorem dX9_isKept_150 : decode cX9_isKept 150 = .ok (.ifCond .eq 47, 3) := by decide +kernel
theorem dX9_isKept_153 : decode cX9_isKept 153 = .ok (.aload_n 0, 1) := by decide +kernel
theorem dX9_isKept_154 : decode cX9_isKept 154 = .ok (.getfield 147, 3) := by decide +kernel
theorem dX9_isKept_157 : decode cX9_isKept 157 = .ok (.ldc2_w 242, 3) := by decide +kernel
theorem dX9_isKept_160 : decode cX9_isKept 160 = .ok (.lcmp, 1) := by decide +kernel
theorem dX9_isKept_161 : decode cX9_isKept 161 = .ok (.ifCond .eq 36, 3) := by decide +kernel
theorem dX9_isKept_164 : decode cX9_isKept 164 = .ok (.aload_n 0, 1) := by decide +kernel
theorem dX9_isKept_165 : decode cX9_isKept 165 = .ok (.getfield 147, 3) := by decide +kernel
theorem dX9_isKept_168 : decode cX9_isKept 168 = .ok (.ldc2_w 183, 3) := by decide +kernel
theorem dX9_isKept_171 : decode cX9_isKept 171 = .ok (.lcmp, 1) := by decide +kernel
theorem dX9_isKept_172 : decode cX9_isKept 172 = .ok (.ifCond .eq 25, 3) := by decide +kernel
theorem dX9_isKept_175 : decode cX9_isKept 175 = .ok (.aload_n 0, 1) := by decide +kernel
theorem dX9_isKept_176 : decode cX9_isKept 176 = .ok (.getfield 147, 3) := by decide +kernel
theorem dX9_isKept_179 : decode cX9_isKept 179 = .ok (.ldc2_w 203, 3) := by decide +kernel
theorem dX9_isKept_182 : decode cX9_isKept 182 = .ok (.lcmp, 1) := by decide +kernel
theorem dX9_isKept_183 : decode cX9_isKept 183 = .ok (.ifCond .eq 14, 3) := by decide +kernel
theorem dX9_isKept_186 : decode cX9_isKept 186 = .ok (.aload_n 0, 1) := by decide +kernel
theorem dX9_isKept_187 : decode cX9_isKept 187 = .ok (.getfield 147, 3) := by decide +kernel
theorem dX9_isKept_190 : decode cX9_isKept 190 = .ok (.ldc2_w 205, 3) := by decide +kernel
theorem dX9_isKept_193 : decode cX9_isKept 193 = .ok (.lcmp, 1) := by decide +kernel
theorem dX9_isKept_194 : decode cX9_isKept 194 = .ok (.ifCond .ne 7, 3) := by decide +kernel
theorem dX9_isKept_197 : decode cX9_isKept 197 = .ok (.iconst 1, 1) := by decide +kernel
theorem dX9_isKept_198 : decode cX9_isKept 198 = .ok (.goto 4, 3) := by decide +kernel
theorem dX9_isKept_201 : decode cX9_isKept 201 = .ok (.iconst 0, 1) := by decide +kernel
theorem dX9_isKept_202 : decode cX9_isKept 202 = .ok (.ireturn, 1) := by decide +kernel
theorem dX9_callerNamed_0 : decode cX9_callerNamed 0 = .ok (.bipush 6, 2) := by decide +kernel
theorem dX9_callerNamed_2 : decode cX9_callerNamed 2 = .ok (.iload_n 1, 1) := by decide +kernel
theorem dX9_callerNamed_3 : decode cX9_callerNamed 3 = .ok (.imul, 1) := by decide +kernel
theorem dX9_callerNamed_4 : decode cX9_callerNamed 4 = .ok (.istore_n 2, 1) := by decide +kernel
theorem dX9_callerNamed_5 : decode cX9_callerNamed 5 = .ok (.iload_n 2, 1) := by decide +kernel
theorem dX9_callerNamed_6 : decode cX9_callerNamed 6 = .ok (.bipush 6, 2) := by decide +kernel
theorem dX9_callerNamed_8 : decode cX9_callerNamed 8 = .ok (.iload_n 1, 1) := by decide +kernel
theorem dX9_callerNamed_9 : decode cX9_callerNamed 9 = .ok (.imul, 1) := by decide +kernel
theorem dX9_callerNamed_10 : decode cX9_callerNamed 10 = .ok (.aload_n 0, 1) := by decide +kernel
theorem dX9_callerNamed_11 : decode cX9_callerNamed 11 = .ok (.getfield 13, 3) := by decide +kernel
theorem dX9_callerNamed_14 : decode cX9_callerNamed 14 = .ok (.iconst 2, 1) := by decide +kernel
theorem dX9_callerNamed_15 : decode cX9_callerNamed 15 = .ok (.iload_n 1, 1) := by decide +kernel
theorem dX9_callerNamed_16 : decode cX9_callerNamed 16 = .ok (.imul, 1) := by decide +kernel
theorem dX9_callerNamed_17 : decode cX9_callerNamed 17 = .ok (.iconst 0, 1) := by decide +kernel
theorem dX9_callerNamed_18 : decode cX9_callerNamed 18 = .ok (.iadd, 1) := by decide +kernel
theorem dX9_callerNamed_19 : decode cX9_callerNamed 19 = .ok (.iaload, 1) := by decide +kernel
theorem dX9_callerNamed_20 : decode cX9_callerNamed 20 = .ok (.iadd, 1) := by decide +kernel
theorem dX9_callerNamed_21 : decode cX9_callerNamed 21 = .ok (.if_icmp .ge 30, 3) := by decide +kernel
theorem dX9_callerNamed_24 : decode cX9_callerNamed 24 = .ok (.aload_n 0, 1) := by decide +kernel
theorem dX9_callerNamed_25 : decode cX9_callerNamed 25 = .ok (.getfield 16, 3) := by decide +kernel
theorem dX9_callerNamed_28 : decode cX9_callerNamed 28 = .ok (.iload_n 2, 1) := by decide +kernel
theorem dX9_callerNamed_29 : decode cX9_callerNamed 29 = .ok (.laload, 1) := by decide +kernel
theorem dX9_callerNamed_30 : decode cX9_callerNamed 30 = .ok (.aload_n 0, 1) := by decide +kernel
theorem dX9_callerNamed_31 : decode cX9_callerNamed 31 = .ok (.getfield 147, 3) := by decide +kernel
theorem dX9_callerNamed_34 : decode cX9_callerNamed 34 = .ok (.lcmp, 1) := by decide +kernel
theorem dX9_callerNamed_35 : decode cX9_callerNamed 35 = .ok (.ifCond .ne 10, 3) := by decide +kernel
theorem dX9_callerNamed_38 : decode cX9_callerNamed 38 = .ok (.iload_n 2, 1) := by decide +kernel
theorem dX9_callerNamed_39 : decode cX9_callerNamed 39 = .ok (.bipush 6, 2) := by decide +kernel
theorem dX9_callerNamed_41 : decode cX9_callerNamed 41 = .ok (.iload_n 1, 1) := by decide +kernel
theorem dX9_callerNamed_42 : decode cX9_callerNamed 42 = .ok (.imul, 1) := by decide +kernel
theorem dX9_callerNamed_43 : decode cX9_callerNamed 43 = .ok (.isub, 1) := by decide +kernel
theorem dX9_callerNamed_44 : decode cX9_callerNamed 44 = .ok (.ireturn, 1) := by decide +kernel
theorem dX9_callerNamed_45 : decode cX9_callerNamed 45 = .ok (.iinc 2 1, 3) := by decide +kernel
theorem dX9_callerNamed_48 : decode cX9_callerNamed 48 = .ok (.goto (-43), 3) := by decide +kernel
theorem dX9_callerNamed_51 : decode cX9_callerNamed 51 = .ok (.iconst (-1), 1) := by decide +kernel
theorem dX9_callerNamed_52 : decode cX9_callerNamed 52 = .ok (.ireturn, 1) := by decide +kernel
theorem dX9_needsNumber_0 : decode cX9_needsNumber 0 = .ok (.aload_n 0, 1) := by decide +kernel
theorem dX9_needsNumber_1 : decode cX9_needsNumber 1 = .ok (.getfield 154, 3) := by decide +kernel
theorem dX9_needsNumber_4 : decode cX9_needsNumber 4 = .ok (.iconst 2, 1) := by decide +kernel
theorem dX9_needsNumber_5 : decode cX9_needsNumber 5 = .ok (.if_icmp .eq 9, 3) := by decide +kernel
theorem dX9_needsNumber_8 : decode cX9_needsNumber 8 = .ok (.aload_n 0, 1) := by decide +kernel
theorem dX9_needsNumber_9 : decode cX9_needsNumber 9 = .ok (.iconst 1, 1) := by decide +kernel
theorem dX9_needsNumber_10 : decode cX9_needsNumber 10 = .ok (.invokevirtual 193, 3) := by decide +kernel
theorem dX9_needsNumber_13 : decode cX9_needsNumber 13 = .ok (.ireturn, 1) := by decide +kernel
theorem dX9_needsNumber_14 : decode cX9_needsNumber 14 = .ok (.aload_n 0, 1) := by decide +kernel
theorem dX9_needsNumber_15 : decode cX9_needsNumber 15 = .ok (.getfield 151, 3) := by decide +kernel
theorem dX9_needsNumber_18 : decode cX9_needsNumber 18 = .ok (.iload_n 1, 1) := by decide +kernel
theorem dX9_needsNumber_19 : decode cX9_needsNumber 19 = .ok (.iload_n 2, 1) := by decide +kernel
theorem dX9_needsNumber_20 : decode cX9_needsNumber 20 = .ok (.invokestatic 244, 3) := by decide +kernel
theorem dX9_needsNumber_23 : decode cX9_needsNumber 23 = .ok (.ifCond .ne 9, 3) := by decide +kernel
theorem dX9_needsNumber_26 : decode cX9_needsNumber 26 = .ok (.aload_n 0, 1) := by decide +kernel
theorem dX9_needsNumber_27 : decode cX9_needsNumber 27 = .ok (.iconst 4, 1) := by decide +kernel
theorem dX9_needsNumber_28 : decode cX9_needsNumber 28 = .ok (.invokevirtual 193, 3) := by decide +kernel
theorem dX9_needsNumber_31 : decode cX9_needsNumber 31 = .ok (.ireturn, 1) := by decide +kernel
theorem dX9_needsNumber_32 : decode cX9_needsNumber 32 = .ok (.aload_n 0, 1) := by decide +kernel
theorem dX9_needsNumber_33 : decode cX9_needsNumber 33 = .ok (.aload_n 0, 1) := by decide +kernel
theorem dX9_needsNumber_34 : decode cX9_needsNumber 34 = .ok (.getfield 151, 3) := by decide +kernel
theorem dX9_needsNumber_37 : decode cX9_needsNumber 37 = .ok (.putfield 248, 3) := by decide +kernel
theorem dX9_needsNumber_40 : decode cX9_needsNumber 40 = .ok (.aload_n 0, 1) := by decide +kernel
theorem dX9_needsNumber_41 : decode cX9_needsNumber 41 = .ok (.invokevirtual 200, 3) := by decide +kernel
theorem dX9_needsNumber_44 : decode cX9_needsNumber 44 = .ok (.iconst 1, 1) := by decide +kernel
theorem dX9_needsNumber_45 : decode cX9_needsNumber 45 = .ok (.ireturn, 1) := by decide +kernel
theorem dX9_needsWord_0 : decode cX9_needsWord 0 = .ok (.aload_n 0, 1) := by decide +kernel
theorem dX9_needsWord_1 : decode cX9_needsWord 1 = .ok (.lload_n 1, 1) := by decide +kernel
theorem dX9_needsWord_2 : decode cX9_needsWord 2 = .ok (.invokevirtual 185, 3) := by decide +kernel
theorem dX9_needsWord_5 : decode cX9_needsWord 5 = .ok (.ifCond .ne 9, 3) := by decide +kernel
theorem dX9_needsWord_8 : decode cX9_needsWord 8 = .ok (.aload_n 0, 1) := by decide +kernel
theorem dX9_needsWord_9 : decode cX9_needsWord 9 = .ok (.iconst 1, 1) := by decide +kernel
theorem dX9_needsWord_10 : decode cX9_needsWord 10 = .ok (.invokevirtual 193, 3) := by decide +kernel
theorem dX9_needsWord_13 : decode cX9_needsWord 13 = .ok (.ireturn, 1) := by decide +kernel
theorem dX9_needsWord_14 : decode cX9_needsWord 14 = .ok (.aload_n 0, 1) := by decide +kernel
theorem dX9_needsWord_15 : decode cX9_needsWord 15 = .ok (.invokevirtual 200, 3) := by decide +kernel
theorem dX9_needsWord_18 : decode cX9_needsWord 18 = .ok (.iconst 1, 1) := by decide +kernel
theorem dX9_needsWord_19 : decode cX9_needsWord 19 = .ok (.ireturn, 1) := by decide +kernel
theorem dX9_closes_0 : decode cX9_closes 0 = .ok (.aload_n 0, 1) := by decide +kernel
theorem dX9_closes_1 : decode cX9_closes 1 = .ok (.bipush 59, 2) := by decide +kernel
theorem dX9_closes_3 : decode cX9_closes 3 = .ok (.invokevirtual 189, 3) := by decide +kernel
theorem dX9_closes_6 : decode cX9_closes 6 = .ok (.ifCond .ne 9, 3) := by decide +kernel
theorem dX9_closes_9 : decode cX9_closes 9 = .ok (.aload_n 0, 1) := by decide +kernel
theorem dX9_closes_10 : decode cX9_closes 10 = .ok (.iconst 1, 1) := by decide +kernel
theorem dX9_closes_11 : decode cX9_closes 11 = .ok (.invokevirtual 193, 3) := by decide +kernel
theorem dX9_closes_14 : decode cX9_closes 14 = .ok (.ireturn, 1) := by decide +kernel
theorem dX9_closes_15 : decode cX9_closes 15 = .ok (.aload_n 0, 1) := by decide +kernel
theorem dX9_closes_16 : decode cX9_closes 16 = .ok (.invokevirtual 200, 3) := by decide +kernel
theorem dX9_closes_19 : decode cX9_closes 19 = .ok (.iconst 1, 1) := by decide +kernel
theorem dX9_closes_20 : decode cX9_closes 20 = .ok (.ireturn, 1) := by decide +kernel
theorem dX9_needsCaller_0 : decode cX9_needsCaller 0 = .ok (.aload_n 0, 1) := by decide +kernel
theorem dX9_needsCaller_1 : decode cX9_needsCaller 1 = .ok (.invokevirtual 251, 3) := by decide +kernel
theorem dX9_needsCaller_4 : decode cX9_needsCaller 4 = .ok (.ifCond .eq 9, 3) := by decide +kernel
theorem dX9_needsCaller_7 : decode cX9_needsCaller 7 = .ok (.aload_n 0, 1) := by decide +kernel
theorem dX9_needsCaller_8 : decode cX9_needsCaller 8 = .ok (.iconst 1, 1) := by decide +kernel
theorem dX9_needsCaller_9 : decode cX9_needsCaller 9 = .ok (.invokevirtual 193, 3) := by decide +kernel
theorem dX9_needsCaller_12 : decode cX9_needsCaller 12 = .ok (.ireturn, 1) := by decide +kernel
theorem dX9_needsCaller_13 : decode cX9_needsCaller 13 = .ok (.aload_n 0, 1) := by decide +kernel
theorem dX9_needsCaller_14 : decode cX9_needsCaller 14 = .ok (.aload_n 0, 1) := by decide +kernel
theorem dX9_needsCaller_15 : decode cX9_needsCaller 15 = .ok (.iconst 0, 1) := by decide +kernel
theorem dX9_needsCaller_16 : decode cX9_needsCaller 16 = .ok (.invokevirtual 255, 3) := by decide +kernel
theorem dX9_needsCaller_19 : decode cX9_needsCaller 19 = .ok (.putfield 248, 3) := by decide +kernel
theorem dX9_needsCaller_22 : decode cX9_needsCaller 22 = .ok (.aload_n 0, 1) := by decide +kernel
theorem dX9_needsCaller_23 : decode cX9_needsCaller 23 = .ok (.getfield 248, 3) := by decide +kernel
theorem dX9_needsCaller_26 : decode cX9_needsCaller 26 = .ok (.ifCond .ge 11, 3) := by decide +kernel
theorem dX9_needsCaller_29 : decode cX9_needsCaller 29 = .ok (.aload_n 0, 1) := by decide +kernel
theorem dX9_needsCaller_30 : decode cX9_needsCaller 30 = .ok (.iconst 2, 1) := by decide +kernel
theorem dX9_needsCaller_31 : decode cX9_needsCaller 31 = .ok (.invokevirtual 193, 3) := by decide +kernel
theorem dX9_needsCaller_34 : decode cX9_needsCaller 34 = .ok (.ifCond .eq 7, 3) := by decide +kernel
theorem dX9_needsCaller_37 : decode cX9_needsCaller 37 = .ok (.iconst 1, 1) := by decide +kernel
theorem dX9_needsCaller_38 : decode cX9_needsCaller 38 = .ok (.goto 4, 3) := by decide +kernel
theorem dX9_needsCaller_41 : decode cX9_needsCaller 41 = .ok (.iconst 0, 1) := by decide +kernel
theorem dX9_needsCaller_42 : decode cX9_needsCaller 42 = .ok (.ireturn, 1) := by decide +kernel
theorem dX9_readsKnows_0 : decode cX9_readsKnows 0 = .ok (.iconst 0, 1) := by decide +kernel
theorem dX9_readsKnows_1 : decode cX9_readsKnows 1 = .ok (.istore_n 2, 1) := by decide +kernel
theorem dX9_readsKnows_2 : decode cX9_readsKnows 2 = .ok (.aload_n 0, 1) := by decide +kernel
theorem dX9_readsKnows_3 : decode cX9_readsKnows 3 = .ok (.getfield 26, 3) := by decide +kernel
theorem dX9_readsKnows_6 : decode cX9_readsKnows 6 = .ok (.iload_n 1, 1) := by decide +kernel
theorem dX9_readsKnows_7 : decode cX9_readsKnows 7 = .ok (.iconst 0, 1) := by decide +kernel
theorem dX9_readsKnows_8 : decode cX9_readsKnows 8 = .ok (.iastore, 1) := by decide +kernel
theorem dX9_readsKnows_9 : decode cX9_readsKnows 9 = .ok (.iload_n 2, 1) := by decide +kernel
theorem dX9_readsKnows_10 : decode cX9_readsKnows 10 = .ok (.ifCond .eq 11, 3) := by decide +kernel
theorem dX9_readsKnows_13 : decode cX9_readsKnows 13 = .ok (.aload_n 0, 1) := by decide +kernel
theorem dX9_readsKnows_14 : decode cX9_readsKnows 14 = .ok (.getfield 154, 3) := by decide +kernel
theorem dX9_readsKnows_17 : decode cX9_readsKnows 17 = .ok (.iconst 2, 1) := by decide +kernel
theorem dX9_readsKnows_18 : decode cX9_readsKnows 18 = .ok (.if_icmp .ne 92, 3) := by decide +kernel
theorem dX9_readsKnows_21 : decode cX9_readsKnows 21 = .ok (.aload_n 0, 1) := by decide +kernel
theorem dX9_readsKnows_22 : decode cX9_readsKnows 22 = .ok (.getfield 154, 3) := by decide +kernel
theorem dX9_readsKnows_25 : decode cX9_readsKnows 25 = .ok (.iconst 2, 1) := by decide +kernel
theorem dX9_readsKnows_26 : decode cX9_readsKnows 26 = .ok (.if_icmp .eq 9, 3) := by decide +kernel
theorem dX9_readsKnows_29 : decode cX9_readsKnows 29 = .ok (.aload_n 0, 1) := by decide +kernel
theorem dX9_readsKnows_30 : decode cX9_readsKnows 30 = .ok (.iconst 1, 1) := by decide +kernel
theorem dX9_readsKnows_31 : decode cX9_readsKnows 31 = .ok (.invokevirtual 193, 3) := by decide +kernel
theorem dX9_readsKnows_34 : decode cX9_readsKnows 34 = .ok (.ireturn, 1) := by decide +kernel
theorem dX9_readsKnows_35 : decode cX9_readsKnows 35 = .ok (.aload_n 0, 1) := by decide +kernel
theorem dX9_readsKnows_36 : decode cX9_readsKnows 36 = .ok (.getfield 151, 3) := by decide +kernel
theorem dX9_readsKnows_39 : decode cX9_readsKnows 39 = .ok (.bipush 9, 2) := by decide +kernel
theorem dX9_readsKnows_41 : decode cX9_readsKnows 41 = .ok (.if_icmp .le 9, 3) := by decide +kernel
theorem dX9_readsKnows_44 : decode cX9_readsKnows 44 = .ok (.aload_n 0, 1) := by decide +kernel
theorem dX9_readsKnows_45 : decode cX9_readsKnows 45 = .ok (.iconst 4, 1) := by decide +kernel
theorem dX9_readsKnows_46 : decode cX9_readsKnows 46 = .ok (.invokevirtual 193, 3) := by decide +kernel
theorem dX9_readsKnows_49 : decode cX9_readsKnows 49 = .ok (.ireturn, 1) := by decide +kernel
theorem dX9_readsKnows_50 : decode cX9_readsKnows 50 = .ok (.aload_n 0, 1) := by decide +kernel
theorem dX9_readsKnows_51 : decode cX9_readsKnows 51 = .ok (.getfield 26, 3) := by decide +kernel
theorem dX9_readsKnows_54 : decode cX9_readsKnows 54 = .ok (.iload_n 1, 1) := by decide +kernel
theorem dX9_readsKnows_55 : decode cX9_readsKnows 55 = .ok (.iaload, 1) := by decide +kernel
theorem dX9_readsKnows_56 : decode cX9_readsKnows 56 = .ok (.aload_n 0, 1) := by decide +kernel
theorem dX9_readsKnows_57 : decode cX9_readsKnows 57 = .ok (.getfield 151, 3) := by decide +kernel
theorem dX9_readsKnows_60 : decode cX9_readsKnows 60 = .ok (.ishr, 1) := by decide +kernel
theorem dX9_readsKnows_61 : decode cX9_readsKnows 61 = .ok (.iconst 1, 1) := by decide +kernel
theorem dX9_readsKnows_62 : decode cX9_readsKnows 62 = .ok (.iand, 1) := by decide +kernel
theorem dX9_readsKnows_63 : decode cX9_readsKnows 63 = .ok (.iconst 1, 1) := by decide +kernel
theorem dX9_readsKnows_64 : decode cX9_readsKnows 64 = .ok (.if_icmp .ne 9, 3) := by decide +kernel
theorem dX9_readsKnows_67 : decode cX9_readsKnows 67 = .ok (.aload_n 0, 1) := by decide +kernel
theorem dX9_readsKnows_68 : decode cX9_readsKnows 68 = .ok (.iconst 3, 1) := by decide +kernel
theorem dX9_readsKnows_69 : decode cX9_readsKnows 69 = .ok (.invokevirtual 193, 3) := by decide +kernel
theorem dX9_readsKnows_72 : decode cX9_readsKnows 72 = .ok (.ireturn, 1) := by decide +kernel
theorem dX9_readsKnows_73 : decode cX9_readsKnows 73 = .ok (.iload_n 2, 1) := by decide +kernel
theorem dX9_readsKnows_74 : decode cX9_readsKnows 74 = .ok (.bipush 6, 2) := by decide +kernel
theorem dX9_readsKnows_76 : decode cX9_readsKnows 76 = .ok (.if_icmp .ne 9, 3) := by decide +kernel
theorem dX9_readsKnows_79 : decode cX9_readsKnows 79 = .ok (.aload_n 0, 1) := by decide +kernel
theorem dX9_readsKnows_80 : decode cX9_readsKnows 80 = .ok (.iconst 5, 1) := by decide +kernel
theorem dX9_readsKnows_81 : decode cX9_readsKnows 81 = .ok (.invokevirtual 193, 3) := by decide +kernel
theorem dX9_readsKnows_84 : decode cX9_readsKnows 84 = .ok (.ireturn, 1) := by decide +kernel
theorem dX9_readsKnows_85 : decode cX9_readsKnows 85 = .ok (.aload_n 0, 1) := by decide +kernel
theorem dX9_readsKnows_86 : decode cX9_readsKnows 86 = .ok (.getfield 26, 3) := by decide +kernel
theorem dX9_readsKnows_89 : decode cX9_readsKnows 89 = .ok (.iload_n 1, 1) := by decide +kernel
theorem dX9_readsKnows_90 : decode cX9_readsKnows 90 = .ok (.dup2, 1) := by decide +kernel
theorem dX9_readsKnows_91 : decode cX9_readsKnows 91 = .ok (.iaload, 1) := by decide +kernel
theorem dX9_readsKnows_92 : decode cX9_readsKnows 92 = .ok (.iconst 1, 1) := by decide +kernel
theorem dX9_readsKnows_93 : decode cX9_readsKnows 93 = .ok (.aload_n 0, 1) := by decide +kernel
theorem dX9_readsKnows_94 : decode cX9_readsKnows 94 = .ok (.getfield 151, 3) := by decide +kernel
theorem dX9_readsKnows_97 : decode cX9_readsKnows 97 = .ok (.ishl, 1) := by decide +kernel
theorem dX9_readsKnows_98 : decode cX9_readsKnows 98 = .ok (.ior, 1) := by decide +kernel
theorem dX9_readsKnows_99 : decode cX9_readsKnows 99 = .ok (.iastore, 1) := by decide +kernel
theorem dX9_readsKnows_100 : decode cX9_readsKnows 100 = .ok (.iinc 2 1, 3) := by decide +kernel
theorem dX9_readsKnows_103 : decode cX9_readsKnows 103 = .ok (.aload_n 0, 1) := by decide +kernel
theorem dX9_readsKnows_104 : decode cX9_readsKnows 104 = .ok (.invokevirtual 200, 3) := by decide +kernel
theorem dX9_readsKnows_107 : decode cX9_readsKnows 107 = .ok (.goto (-98), 3) := by decide +kernel
theorem dX9_readsKnows_110 : decode cX9_readsKnows 110 = .ok (.iconst 1, 1) := by decide +kernel
theorem dX9_readsKnows_111 : decode cX9_readsKnows 111 = .ok (.ireturn, 1) := by decide +kernel
theorem dX9_readsCaller_0 : decode cX9_readsCaller 0 = .ok (.bipush 6, 2) := by decide +kernel
theorem dX9_readsCaller_2 : decode cX9_readsCaller 2 = .ok (.aload_n 0, 1) := by decide +kernel
theorem dX9_readsCaller_3 : decode cX9_readsCaller 3 = .ok (.getfield 13, 3) := by decide +kernel
theorem dX9_readsCaller_6 : decode cX9_readsCaller 6 = .ok (.iconst 2, 1) := by decide +kernel
theorem dX9_readsCaller_7 : decode cX9_readsCaller 7 = .ok (.iaload, 1) := by decide +kernel
theorem dX9_readsCaller_8 : decode cX9_readsCaller 8 = .ok (.iadd, 1) := by decide +kernel
theorem dX9_readsCaller_9 : decode cX9_readsCaller 9 = .ok (.istore_n 1, 1) := by decide +kernel
theorem dX9_readsCaller_10 : decode cX9_readsCaller 10 = .ok (.iload_n 1, 1) := by decide +kernel
theorem dX9_readsCaller_11 : decode cX9_readsCaller 11 = .ok (.bipush 12, 2) := by decide +kernel
theorem dX9_readsCaller_13 : decode cX9_readsCaller 13 = .ok (.if_icmp .ne 9, 3) := by decide +kernel
theorem dX9_readsCaller_16 : decode cX9_readsCaller 16 = .ok (.aload_n 0, 1) := by decide +kernel
theorem dX9_readsCaller_17 : decode cX9_readsCaller 17 = .ok (.iconst 5, 1) := by decide +kernel
theorem dX9_readsCaller_18 : decode cX9_readsCaller 18 = .ok (.invokevirtual 193, 3) := by decide +kernel
theorem dX9_readsCaller_21 : decode cX9_readsCaller 21 = .ok (.ireturn, 1) := by decide +kernel
theorem dX9_readsCaller_22 : decode cX9_readsCaller 22 = .ok (.aload_n 0, 1) := by decide +kernel
theorem dX9_readsCaller_23 : decode cX9_readsCaller 23 = .ok (.invokevirtual 200, 3) := by decide +kernel
theorem dX9_readsCaller_26 : decode cX9_readsCaller 26 = .ok (.aload_n 0, 1) := by decide +kernel
theorem dX9_readsCaller_27 : decode cX9_readsCaller 27 = .ok (.invokevirtual 251, 3) := by decide +kernel
theorem dX9_readsCaller_30 : decode cX9_readsCaller 30 = .ok (.ifCond .eq 9, 3) := by decide +kernel
theorem dX9_readsCaller_33 : decode cX9_readsCaller 33 = .ok (.aload_n 0, 1) := by decide +kernel
theorem dX9_readsCaller_34 : decode cX9_readsCaller 34 = .ok (.iconst 1, 1) := by decide +kernel
theorem dX9_readsCaller_35 : decode cX9_readsCaller 35 = .ok (.invokevirtual 193, 3) := by decide +kernel
theorem dX9_readsCaller_38 : decode cX9_readsCaller 38 = .ok (.ireturn, 1) := by decide +kernel
theorem dX9_readsCaller_39 : decode cX9_readsCaller 39 = .ok (.aload_n 0, 1) := by decide +kernel
theorem dX9_readsCaller_40 : decode cX9_readsCaller 40 = .ok (.iconst 1, 1) := by decide +kernel
theorem dX9_readsCaller_41 : decode cX9_readsCaller 41 = .ok (.invokevirtual 255, 3) := by decide +kernel
theorem dX9_readsCaller_44 : decode cX9_readsCaller 44 = .ok (.ifCond .lt 9, 3) := by decide +kernel
theorem dX9_readsCaller_47 : decode cX9_readsCaller 47 = .ok (.aload_n 0, 1) := by decide +kernel
theorem dX9_readsCaller_48 : decode cX9_readsCaller 48 = .ok (.iconst 3, 1) := by decide +kernel
theorem dX9_readsCaller_49 : decode cX9_readsCaller 49 = .ok (.invokevirtual 193, 3) := by decide +kernel
theorem dX9_readsCaller_52 : decode cX9_readsCaller 52 = .ok (.ireturn, 1) := by decide +kernel
theorem dX9_readsCaller_53 : decode cX9_readsCaller 53 = .ok (.aload_n 0, 1) := by decide +kernel
theorem dX9_readsCaller_54 : decode cX9_readsCaller 54 = .ok (.getfield 147, 3) := by decide +kernel
theorem dX9_readsCaller_57 : decode cX9_readsCaller 57 = .ok (.lstore_n 2, 1) := by decide +kernel
theorem dX9_readsCaller_58 : decode cX9_readsCaller 58 = .ok (.aload_n 0, 1) := by decide +kernel
theorem dX9_readsCaller_59 : decode cX9_readsCaller 59 = .ok (.invokevirtual 200, 3) := by decide +kernel
theorem dX9_readsCaller_62 : decode cX9_readsCaller 62 = .ok (.aload_n 0, 1) := by decide +kernel
theorem dX9_readsCaller_63 : decode cX9_readsCaller 63 = .ok (.getfield 20, 3) := by decide +kernel
theorem dX9_readsCaller_66 : decode cX9_readsCaller 66 = .ok (.iload_n 1, 1) := by decide +kernel
theorem dX9_readsCaller_67 : decode cX9_readsCaller 67 = .ok (.aload_n 0, 1) := by decide +kernel
theorem dX9_readsCaller_68 : decode cX9_readsCaller 68 = .ok (.ldc2_w 236, 3) := by decide +kernel
theorem dX9_readsCaller_71 : decode cX9_readsCaller 71 = .ok (.invokevirtual 185, 3) := by decide +kernel
theorem dX9_readsCaller_74 : decode cX9_readsCaller 74 = .ok (.ifCond .eq 7, 3) := by decide +kernel
theorem dX9_readsCaller_77 : decode cX9_readsCaller 77 = .ok (.iconst 0, 1) := by decide +kernel
theorem dX9_readsCaller_78 : decode cX9_readsCaller 78 = .ok (.goto 46, 3) := by decide +kernel
theorem dX9_readsCaller_81 : decode cX9_readsCaller 81 = .ok (.aload_n 0, 1) := by decide +kernel
theorem dX9_readsCaller_82 : decode cX9_readsCaller 82 = .ok (.ldc2_w 238, 3) := by decide +kernel
theorem dX9_readsCaller_85 : decode cX9_readsCaller 85 = .ok (.invokevirtual 185, 3) := by decide +kernel
theorem dX9_readsCaller_88 : decode cX9_readsCaller 88 = .ok (.ifCond .eq 7, 3) := by decide +kernel
theorem dX9_readsCaller_91 : decode cX9_readsCaller 91 = .ok (.iconst 1, 1) := by decide +kernel
theorem dX9_readsCaller_92 : decode cX9_readsCaller 92 = .ok (.goto 32, 3) := by decide +kernel
theorem dX9_readsCaller_95 : decode cX9_readsCaller 95 = .ok (.aload_n 0, 1) := by decide +kernel
theorem dX9_readsCaller_96 : decode cX9_readsCaller 96 = .ok (.ldc2_w 240, 3) := by decide +kernel
theorem dX9_readsCaller_99 : decode cX9_readsCaller 99 = .ok (.invokevirtual 185, 3) := by decide +kernel
theorem dX9_readsCaller_102 : decode cX9_readsCaller 102 = .ok (.ifCond .eq 7, 3) := by decide +kernel
theorem dX9_readsCaller_105 : decode cX9_readsCaller 105 = .ok (.iconst 2, 1) := by decide +kernel
theorem dX9_readsCaller_106 : decode cX9_readsCaller 106 = .ok (.goto 18, 3) := by decide +kernel
theorem dX9_readsCaller_109 : decode cX9_readsCaller 109 = .ok (.aload_n 0, 1) := by decide +kernel
theorem dX9_readsCaller_110 : decode cX9_readsCaller 110 = .ok (.ldc2_w 242, 3) := by decide +kernel
theorem dX9_readsCaller_113 : decode cX9_readsCaller 113 = .ok (.invokevirtual 185, 3) := by decide +kernel
theorem dX9_readsCaller_116 : decode cX9_readsCaller 116 = .ok (.ifCond .eq 7, 3) := by decide +kernel
theorem dX9_readsCaller_119 : decode cX9_readsCaller 119 = .ok (.iconst 3, 1) := by decide +kernel
theorem dX9_readsCaller_120 : decode cX9_readsCaller 120 = .ok (.goto 4, 3) := by decide +kernel
theorem dX9_readsCaller_123 : decode cX9_readsCaller 123 = .ok (.iconst (-1), 1) := by decide +kernel
theorem dX9_readsCaller_124 : decode cX9_readsCaller 124 = .ok (.iastore, 1) := by decide +kernel
theorem dX9_readsCaller_125 : decode cX9_readsCaller 125 = .ok (.aload_n 0, 1) := by decide +kernel
theorem dX9_readsCaller_126 : decode cX9_readsCaller 126 = .ok (.getfield 20, 3) := by decide +kernel
theorem dX9_readsCaller_129 : decode cX9_readsCaller 129 = .ok (.iload_n 1, 1) := by decide +kernel
theorem dX9_readsCaller_130 : decode cX9_readsCaller 130 = .ok (.iaload, 1) := by decide +kernel
theorem dX9_readsCaller_131 : decode cX9_readsCaller 131 = .ok (.ifCond .ge 9, 3) := by decide +kernel
theorem dX9_readsCaller_134 : decode cX9_readsCaller 134 = .ok (.aload_n 0, 1) := by decide +kernel
theorem dX9_readsCaller_135 : decode cX9_readsCaller 135 = .ok (.iconst 1, 1) := by decide +kernel
theorem dX9_readsCaller_136 : decode cX9_readsCaller 136 = .ok (.invokevirtual 193, 3) := by decide +kernel
theorem dX9_readsCaller_139 : decode cX9_readsCaller 139 = .ok (.ireturn, 1) := by decide +kernel
theorem dX9_readsCaller_140 : decode cX9_readsCaller 140 = .ok (.aload_n 0, 1) := by decide +kernel
theorem dX9_readsCaller_141 : decode cX9_readsCaller 141 = .ok (.invokevirtual 200, 3) := by decide +kernel
theorem dX9_readsCaller_144 : decode cX9_readsCaller 144 = .ok (.aload_n 0, 1) := by decide +kernel
theorem dX9_readsCaller_145 : decode cX9_readsCaller 145 = .ok (.ldc2_w 218, 3) := by decide +kernel
theorem dX9_readsCaller_148 : decode cX9_readsCaller 148 = .ok (.invokevirtual 258, 3) := by decide +kernel
theorem dX9_readsCaller_151 : decode cX9_readsCaller 151 = .ok (.ifCond .eq 13, 3) := by decide +kernel
theorem dX9_readsCaller_154 : decode cX9_readsCaller 154 = .ok (.aload_n 0, 1) := by decide +kernel
theorem dX9_readsCaller_155 : decode cX9_readsCaller 155 = .ok (.iconst 0, 1) := by decide +kernel
theorem dX9_readsCaller_156 : decode cX9_readsCaller 156 = .ok (.bipush 9, 2) := by decide +kernel
theorem dX9_readsCaller_158 : decode cX9_readsCaller 158 = .ok (.invokevirtual 261, 3) := by decide +kernel
theorem dX9_readsCaller_161 : decode cX9_readsCaller 161 = .ok (.ifCond .ne 5, 3) := by decide +kernel
theorem dX9_readsCaller_164 : decode cX9_readsCaller 164 = .ok (.iconst 0, 1) := by decide +kernel
theorem dX9_readsCaller_165 : decode cX9_readsCaller 165 = .ok (.ireturn, 1) := by decide +kernel
theorem dX9_readsCaller_166 : decode cX9_readsCaller 166 = .ok (.aload_n 0, 1) := by decide +kernel
theorem dX9_readsCaller_167 : decode cX9_readsCaller 167 = .ok (.getfield 23, 3) := by decide +kernel
theorem dX9_readsCaller_170 : decode cX9_readsCaller 170 = .ok (.iload_n 1, 1) := by decide +kernel
theorem dX9_readsCaller_171 : decode cX9_readsCaller 171 = .ok (.aload_n 0, 1) := by decide +kernel
theorem dX9_readsCaller_172 : decode cX9_readsCaller 172 = .ok (.getfield 248, 3) := by decide +kernel
theorem dX9_readsCaller_175 : decode cX9_readsCaller 175 = .ok (.iastore, 1) := by decide +kernel
theorem dX9_readsCaller_176 : decode cX9_readsCaller 176 = .ok (.aload_n 0, 1) := by decide +kernel
theorem dX9_readsCaller_177 : decode cX9_readsCaller 177 = .ok (.ldc2_w 220, 3) := by decide +kernel
theorem dX9_readsCaller_180 : decode cX9_readsCaller 180 = .ok (.invokevirtual 258, 3) := by decide +kernel
theorem dX9_readsCaller_183 : decode cX9_readsCaller 183 = .ok (.ifCond .eq 11, 3) := by decide +kernel
theorem dX9_readsCaller_186 : decode cX9_readsCaller 186 = .ok (.aload_n 0, 1) := by decide +kernel
theorem dX9_readsCaller_187 : decode cX9_readsCaller 187 = .ok (.iload_n 1, 1) := by decide +kernel
theorem dX9_readsCaller_188 : decode cX9_readsCaller 188 = .ok (.invokevirtual 265, 3) := by decide +kernel
theorem dX9_readsCaller_191 : decode cX9_readsCaller 191 = .ok (.ifCond .ne 5, 3) := by decide +kernel
theorem dX9_readsCaller_194 : decode cX9_readsCaller 194 = .ok (.iconst 0, 1) := by decide +kernel
theorem dX9_readsCaller_195 : decode cX9_readsCaller 195 = .ok (.ireturn, 1) := by decide +kernel
theorem dX9_readsCaller_196 : decode cX9_readsCaller 196 = .ok (.aload_n 0, 1) := by decide +kernel
theorem dX9_readsCaller_197 : decode cX9_readsCaller 197 = .ok (.ldc2_w 222, 3) := by decide +kernel
theorem dX9_readsCaller_200 : decode cX9_readsCaller 200 = .ok (.invokevirtual 258, 3) := by decide +kernel
theorem dX9_readsCaller_203 : decode cX9_readsCaller 203 = .ok (.ifCond .eq 13, 3) := by decide +kernel
theorem dX9_readsCaller_206 : decode cX9_readsCaller 206 = .ok (.aload_n 0, 1) := by decide +kernel
theorem dX9_readsCaller_207 : decode cX9_readsCaller 207 = .ok (.iconst 1, 1) := by decide +kernel
theorem dX9_readsCaller_208 : decode cX9_readsCaller 208 = .ok (.bipush 30, 2) := by decide +kernel
theorem dX9_readsCaller_210 : decode cX9_readsCaller 210 = .ok (.invokevirtual 261, 3) := by decide +kernel
theorem dX9_readsCaller_213 : decode cX9_readsCaller 213 = .ok (.ifCond .ne 5, 3) := by decide +kernel
theorem dX9_readsCaller_216 : decode cX9_readsCaller 216 = .ok (.iconst 0, 1) := by decide +kernel
theorem dX9_readsCaller_217 : decode cX9_readsCaller 217 = .ok (.ireturn, 1) := by decide +kernel
theorem dX9_readsCaller_218 : decode cX9_readsCaller 218 = .ok (.aload_n 0, 1) := by decide +kernel
theorem dX9_readsCaller_219 : decode cX9_readsCaller 219 = .ok (.getfield 29, 3) := by decide +kernel
theorem dX9_readsCaller_222 : decode cX9_readsCaller 222 = .ok (.iload_n 1, 1) := by decide +kernel
theorem dX9_readsCaller_223 : decode cX9_readsCaller 223 = .ok (.aload_n 0, 1) := by decide +kernel
theorem dX9_readsCaller_224 : decode cX9_readsCaller 224 = .ok (.getfield 248, 3) := by decide +kernel
theorem dX9_readsCaller_227 : decode cX9_readsCaller 227 = .ok (.iastore, 1) := by decide +kernel
theorem dX9_readsCaller_228 : decode cX9_readsCaller 228 = .ok (.aload_n 0, 1) := by decide +kernel
theorem dX9_readsCaller_229 : decode cX9_readsCaller 229 = .ok (.getfield 16, 3) := by decide +kernel
theorem dX9_readsCaller_232 : decode cX9_readsCaller 232 = .ok (.iload_n 1, 1) := by decide +kernel
theorem dX9_readsCaller_233 : decode cX9_readsCaller 233 = .ok (.lload_n 2, 1) := by decide +kernel
theorem dX9_readsCaller_234 : decode cX9_readsCaller 234 = .ok (.lastore, 1) := by decide +kernel
theorem dX9_readsCaller_235 : decode cX9_readsCaller 235 = .ok (.aload_n 0, 1) := by decide +kernel
theorem dX9_readsCaller_236 : decode cX9_readsCaller 236 = .ok (.getfield 13, 3) := by decide +kernel
theorem dX9_readsCaller_239 : decode cX9_readsCaller 239 = .ok (.iconst 2, 1) := by decide +kernel
theorem dX9_readsCaller_240 : decode cX9_readsCaller 240 = .ok (.dup2, 1) := by decide +kernel
theorem dX9_readsCaller_241 : decode cX9_readsCaller 241 = .ok (.iaload, 1) := by decide +kernel
theorem dX9_readsCaller_242 : decode cX9_readsCaller 242 = .ok (.iconst 1, 1) := by decide +kernel
theorem dX9_readsCaller_243 : decode cX9_readsCaller 243 = .ok (.iadd, 1) := by decide +kernel
theorem dX9_readsCaller_244 : decode cX9_readsCaller 244 = .ok (.iastore, 1) := by decide +kernel
theorem dX9_readsCaller_245 : decode cX9_readsCaller 245 = .ok (.aload_n 0, 1) := by decide +kernel
theorem dX9_readsCaller_246 : decode cX9_readsCaller 246 = .ok (.invokevirtual 268, 3) := by decide +kernel
theorem dX9_readsCaller_249 : decode cX9_readsCaller 249 = .ok (.ireturn, 1) := by decide +kernel
theorem dX9_readsTakes_0 : decode cX9_readsTakes 0 = .ok (.aload_n 0, 1) := by decide +kernel
theorem dX9_readsTakes_1 : decode cX9_readsTakes 1 = .ok (.getfield 271, 3) := by decide +kernel
theorem dX9_readsTakes_4 : decode cX9_readsTakes 4 = .ok (.ifCond .eq 9, 3) := by decide +kernel
theorem dX9_readsTakes_7 : decode cX9_readsTakes 7 = .ok (.aload_n 0, 1) := by decide +kernel
theorem dX9_readsTakes_8 : decode cX9_readsTakes 8 = .ok (.iconst 3, 1) := by decide +kernel
theorem dX9_readsTakes_9 : decode cX9_readsTakes 9 = .ok (.invokevirtual 193, 3) := by decide +kernel
theorem dX9_readsTakes_12 : decode cX9_readsTakes 12 = .ok (.ireturn, 1) := by decide +kernel
theorem dX9_readsTakes_13 : decode cX9_readsTakes 13 = .ok (.aload_n 0, 1) := by decide +kernel
theorem dX9_readsTakes_14 : decode cX9_readsTakes 14 = .ok (.iconst 1, 1) := by decide +kernel
theorem dX9_readsTakes_15 : decode cX9_readsTakes 15 = .ok (.putfield 271, 3) := by decide +kernel
theorem dX9_readsTakes_18 : decode cX9_readsTakes 18 = .ok (.aload_n 0, 1) := by decide +kernel
theorem dX9_readsTakes_19 : decode cX9_readsTakes 19 = .ok (.invokevirtual 200, 3) := by decide +kernel
theorem dX9_readsTakes_22 : decode cX9_readsTakes 22 = .ok (.aload_n 0, 1) := by decide +kernel
theorem dX9_readsTakes_23 : decode cX9_readsTakes 23 = .ok (.iconst 1, 1) := by decide +kernel
theorem dX9_readsTakes_24 : decode cX9_readsTakes 24 = .ok (.bipush 20, 2) := by decide +kernel
theorem dX9_readsTakes_26 : decode cX9_readsTakes 26 = .ok (.invokevirtual 261, 3) := by decide +kernel
theorem dX9_readsTakes_29 : decode cX9_readsTakes 29 = .ok (.ifCond .ne 5, 3) := by decide +kernel
theorem dX9_readsTakes_32 : decode cX9_readsTakes 32 = .ok (.iconst 0, 1) := by decide +kernel
theorem dX9_readsTakes_33 : decode cX9_readsTakes 33 = .ok (.ireturn, 1) := by decide +kernel
theorem dX9_readsTakes_34 : decode cX9_readsTakes 34 = .ok (.aload_n 0, 1) := by decide +kernel
theorem dX9_readsTakes_35 : decode cX9_readsTakes 35 = .ok (.getfield 13, 3) := by decide +kernel
theorem dX9_readsTakes_38 : decode cX9_readsTakes 38 = .ok (.iconst 3, 1) := by decide +kernel
theorem dX9_readsTakes_39 : decode cX9_readsTakes 39 = .ok (.aload_n 0, 1) := by decide +kernel
theorem dX9_readsTakes_40 : decode cX9_readsTakes 40 = .ok (.getfield 248, 3) := by decide +kernel
theorem dX9_readsTakes_43 : decode cX9_readsTakes 43 = .ok (.iastore, 1) := by decide +kernel
theorem dX9_readsTakes_44 : decode cX9_readsTakes 44 = .ok (.aload_n 0, 1) := by decide +kernel
theorem dX9_readsTakes_45 : decode cX9_readsTakes 45 = .ok (.invokevirtual 268, 3) := by decide +kernel
theorem dX9_readsTakes_48 : decode cX9_readsTakes 48 = .ok (.ireturn, 1) := by decide +kernel
theorem dX9_readsBelieves_0 : decode cX9_readsBelieves 0 = .ok (.aload_n 0, 1) := by decide +kernel
theorem dX9_readsBelieves_1 : decode cX9_readsBelieves 1 = .ok (.getfield 35, 3) := by decide +kernel
theorem dX9_readsBelieves_4 : decode cX9_readsBelieves 4 = .ok (.iconst 1, 1) := by decide +kernel
theorem dX9_readsBelieves_5 : decode cX9_readsBelieves 5 = .ok (.iaload, 1) := by decide +kernel
theorem dX9_readsBelieves_6 : decode cX9_readsBelieves 6 = .ok (.aload_n 0, 1) := by decide +kernel
theorem dX9_readsBelieves_7 : decode cX9_readsBelieves 7 = .ok (.getfield 32, 3) := by decide +kernel
theorem dX9_readsBelieves_10 : decode cX9_readsBelieves 10 = .ok (.iconst 1, 1) := by decide +kernel
theorem dX9_readsBelieves_11 : decode cX9_readsBelieves 11 = .ok (.iaload, 1) := by decide +kernel
theorem dX9_readsBelieves_12 : decode cX9_readsBelieves 12 = .ok (.if_icmp .le 9, 3) := by decide +kernel
theorem dX9_readsBelieves_15 : decode cX9_readsBelieves 15 = .ok (.aload_n 0, 1) := by decide +kernel
theorem dX9_readsBelieves_16 : decode cX9_readsBelieves 16 = .ok (.iconst 3, 1) := by decide +kernel
theorem dX9_readsBelieves_17 : decode cX9_readsBelieves 17 = .ok (.invokevirtual 193, 3) := by decide +kernel
theorem dX9_readsBelieves_20 : decode cX9_readsBelieves 20 = .ok (.ireturn, 1) := by decide +kernel
theorem dX9_readsBelieves_21 : decode cX9_readsBelieves 21 = .ok (.aload_n 0, 1) := by decide +kernel
theorem dX9_readsBelieves_22 : decode cX9_readsBelieves 22 = .ok (.invokevirtual 200, 3) := by decide +kernel
theorem dX9_readsBelieves_25 : decode cX9_readsBelieves 25 = .ok (.aload_n 0, 1) := by decide +kernel
theorem dX9_readsBelieves_26 : decode cX9_readsBelieves 26 = .ok (.getfield 32, 3) := by decide +kernel
theorem dX9_readsBelieves_29 : decode cX9_readsBelieves 29 = .ok (.iconst 1, 1) := by decide +kernel
theorem dX9_readsBelieves_30 : decode cX9_readsBelieves 30 = .ok (.aload_n 0, 1) := by decide +kernel
theorem dX9_readsBelieves_31 : decode cX9_readsBelieves 31 = .ok (.getfield 168, 3) := by decide +kernel
theorem dX9_readsBelieves_34 : decode cX9_readsBelieves 34 = .ok (.iastore, 1) := by decide +kernel
theorem dX9_readsBelieves_35 : decode cX9_readsBelieves 35 = .ok (.aload_n 0, 1) := by decide +kernel
theorem dX9_readsBelieves_36 : decode cX9_readsBelieves 36 = .ok (.invokevirtual 275, 3) := by decide +kernel
theorem dX9_readsBelieves_39 : decode cX9_readsBelieves 39 = .ok (.ifCond .ne 5, 3) := by decide +kernel
theorem dX9_readsBelieves_42 : decode cX9_readsBelieves 42 = .ok (.iconst 0, 1) := by decide +kernel
theorem dX9_readsBelieves_43 : decode cX9_readsBelieves 43 = .ok (.ireturn, 1) := by decide +kernel
theorem dX9_readsBelieves_44 : decode cX9_readsBelieves 44 = .ok (.aload_n 0, 1) := by decide +kernel
theorem dX9_readsBelieves_45 : decode cX9_readsBelieves 45 = .ok (.getfield 35, 3) := by decide +kernel
theorem dX9_readsBelieves_48 : decode cX9_readsBelieves 48 = .ok (.iconst 1, 1) := by decide +kernel
theorem dX9_readsBelieves_49 : decode cX9_readsBelieves 49 = .ok (.aload_n 0, 1) := by decide +kernel
theorem dX9_readsBelieves_50 : decode cX9_readsBelieves 50 = .ok (.getfield 168, 3) := by decide +kernel
theorem dX9_readsBelieves_53 : decode cX9_readsBelieves 53 = .ok (.iastore, 1) := by decide +kernel
theorem dX9_readsBelieves_54 : decode cX9_readsBelieves 54 = .ok (.iconst 1, 1) := by decide +kernel
theorem dX9_readsBelieves_55 : decode cX9_readsBelieves 55 = .ok (.ireturn, 1) := by decide +kernel
theorem dX9_begins_0 : decode cX9_begins 0 = .ok (.aload_n 0, 1) := by decide +kernel
theorem dX9_begins_1 : decode cX9_begins 1 = .ok (.aload_n 0, 1) := by decide +kernel
theorem dX9_begins_2 : decode cX9_begins 2 = .ok (.getfield 135, 3) := by decide +kernel
theorem dX9_begins_5 : decode cX9_begins 5 = .ok (.putfield 138, 3) := by decide +kernel
theorem dX9_begins_8 : decode cX9_begins 8 = .ok (.aload_n 0, 1) := by decide +kernel
theorem dX9_begins_9 : decode cX9_begins 9 = .ok (.iconst 0, 1) := by decide +kernel
theorem dX9_begins_10 : decode cX9_begins 10 = .ok (.putfield 135, 3) := by decide +kernel
theorem dX9_begins_13 : decode cX9_begins 13 = .ok (.aload_n 0, 1) := by decide +kernel
theorem dX9_begins_14 : decode cX9_begins 14 = .ok (.iconst 0, 1) := by decide +kernel
theorem dX9_begins_15 : decode cX9_begins 15 = .ok (.putfield 141, 3) := by decide +kernel
theorem dX9_begins_18 : decode cX9_begins 18 = .ok (.aload_n 0, 1) := by decide +kernel
theorem dX9_begins_19 : decode cX9_begins 19 = .ok (.invokevirtual 200, 3) := by decide +kernel
theorem dX9_begins_22 : decode cX9_begins 22 = .ok (.return_, 1) := by decide +kernel
theorem dX9_readsAll_0 : decode cX9_readsAll 0 = .ok (.aload_n 0, 1) := by decide +kernel
theorem dX9_readsAll_1 : decode cX9_readsAll 1 = .ok (.getfield 13, 3) := by decide +kernel
theorem dX9_readsAll_4 : decode cX9_readsAll 4 = .ok (.iconst 2, 1) := by decide +kernel
theorem dX9_readsAll_5 : decode cX9_readsAll 5 = .ok (.iconst 0, 1) := by decide +kernel
theorem dX9_readsAll_6 : decode cX9_readsAll 6 = .ok (.iastore, 1) := by decide +kernel
theorem dX9_readsAll_7 : decode cX9_readsAll 7 = .ok (.aload_n 0, 1) := by decide +kernel
theorem dX9_readsAll_8 : decode cX9_readsAll 8 = .ok (.getfield 13, 3) := by decide +kernel
theorem dX9_readsAll_11 : decode cX9_readsAll 11 = .ok (.iconst 3, 1) := by decide +kernel
theorem dX9_readsAll_12 : decode cX9_readsAll 12 = .ok (.iconst 5, 1) := by decide +kernel
theorem dX9_readsAll_13 : decode cX9_readsAll 13 = .ok (.iastore, 1) := by decide +kernel
theorem dX9_readsAll_14 : decode cX9_readsAll 14 = .ok (.aload_n 0, 1) := by decide +kernel
theorem dX9_readsAll_15 : decode cX9_readsAll 15 = .ok (.getfield 32, 3) := by decide +kernel
theorem dX9_readsAll_18 : decode cX9_readsAll 18 = .ok (.iconst 1, 1) := by decide +kernel
theorem dX9_readsAll_19 : decode cX9_readsAll 19 = .ok (.sipush 1000, 3) := by decide +kernel
theorem dX9_readsAll_22 : decode cX9_readsAll 22 = .ok (.iastore, 1) := by decide +kernel
theorem dX9_readsAll_23 : decode cX9_readsAll 23 = .ok (.aload_n 0, 1) := by decide +kernel
theorem dX9_readsAll_24 : decode cX9_readsAll 24 = .ok (.getfield 35, 3) := by decide +kernel
theorem dX9_readsAll_27 : decode cX9_readsAll 27 = .ok (.iconst 1, 1) := by decide +kernel
theorem dX9_readsAll_28 : decode cX9_readsAll 28 = .ok (.sipush 1000, 3) := by decide +kernel
theorem dX9_readsAll_31 : decode cX9_readsAll 31 = .ok (.iastore, 1) := by decide +kernel
theorem dX9_readsAll_32 : decode cX9_readsAll 32 = .ok (.aload_n 0, 1) := by decide +kernel
theorem dX9_readsAll_33 : decode cX9_readsAll 33 = .ok (.iconst 0, 1) := by decide +kernel
theorem dX9_readsAll_34 : decode cX9_readsAll 34 = .ok (.putfield 271, 3) := by decide +kernel
theorem dX9_readsAll_37 : decode cX9_readsAll 37 = .ok (.aload_n 0, 1) := by decide +kernel
theorem dX9_readsAll_38 : decode cX9_readsAll 38 = .ok (.sipush 1000, 3) := by decide +kernel
theorem dX9_readsAll_41 : decode cX9_readsAll 41 = .ok (.putfield 168, 3) := by decide +kernel
theorem dX9_readsAll_44 : decode cX9_readsAll 44 = .ok (.aload_n 0, 1) := by decide +kernel
theorem dX9_readsAll_45 : decode cX9_readsAll 45 = .ok (.invokevirtual 278, 3) := by decide +kernel
theorem dX9_readsAll_48 : decode cX9_readsAll 48 = .ok (.aload_n 0, 1) := by decide +kernel
theorem dX9_readsAll_49 : decode cX9_readsAll 49 = .ok (.getfield 154, 3) := by decide +kernel
theorem dX9_readsAll_52 : decode cX9_readsAll 52 = .ok (.ifCond .eq 69, 3) := by decide +kernel
theorem dX9_readsAll_55 : decode cX9_readsAll 55 = .ok (.aload_n 0, 1) := by decide +kernel
theorem dX9_readsAll_56 : decode cX9_readsAll 56 = .ok (.ldc2_w 216, 3) := by decide +kernel
theorem dX9_readsAll_59 : decode cX9_readsAll 59 = .ok (.invokevirtual 185, 3) := by decide +kernel
theorem dX9_readsAll_62 : decode cX9_readsAll 62 = .ok (.ifCond .eq 10, 3) := by decide +kernel
theorem dX9_readsAll_65 : decode cX9_readsAll 65 = .ok (.aload_n 0, 1) := by decide +kernel
theorem dX9_readsAll_66 : decode cX9_readsAll 66 = .ok (.invokevirtual 281, 3) := by decide +kernel
theorem dX9_readsAll_69 : decode cX9_readsAll 69 = .ok (.goto 42, 3) := by decide +kernel
theorem dX9_readsAll_72 : decode cX9_readsAll 72 = .ok (.aload_n 0, 1) := by decide +kernel
theorem dX9_readsAll_73 : decode cX9_readsAll 73 = .ok (.ldc2_w 224, 3) := by decide +kernel
theorem dX9_readsAll_76 : decode cX9_readsAll 76 = .ok (.invokevirtual 185, 3) := by decide +kernel
theorem dX9_readsAll_79 : decode cX9_readsAll 79 = .ok (.ifCond .eq 10, 3) := by decide +kernel
theorem dX9_readsAll_82 : decode cX9_readsAll 82 = .ok (.aload_n 0, 1) := by decide +kernel
theorem dX9_readsAll_83 : decode cX9_readsAll 83 = .ok (.invokevirtual 284, 3) := by decide +kernel
theorem dX9_readsAll_86 : decode cX9_readsAll 86 = .ok (.goto 25, 3) := by decide +kernel
theorem dX9_readsAll_89 : decode cX9_readsAll 89 = .ok (.aload_n 0, 1) := by decide +kernel
theorem dX9_readsAll_90 : decode cX9_readsAll 90 = .ok (.ldc2_w 226, 3) := by decide +kernel
theorem dX9_readsAll_93 : decode cX9_readsAll 93 = .ok (.invokevirtual 185, 3) := by decide +kernel
theorem dX9_readsAll_96 : decode cX9_readsAll 96 = .ok (.ifCond .eq 10, 3) := by decide +kernel
theorem dX9_readsAll_99 : decode cX9_readsAll 99 = .ok (.aload_n 0, 1) := by decide +kernel
theorem dX9_readsAll_100 : decode cX9_readsAll 100 = .ok (.invokevirtual 287, 3) := by decide +kernel
theorem dX9_readsAll_103 : decode cX9_readsAll 103 = .ok (.goto 8, 3) := by decide +kernel
theorem dX9_readsAll_106 : decode cX9_readsAll 106 = .ok (.aload_n 0, 1) := by decide +kernel
theorem dX9_readsAll_107 : decode cX9_readsAll 107 = .ok (.iconst 1, 1) := by decide +kernel
theorem dX9_readsAll_108 : decode cX9_readsAll 108 = .ok (.invokevirtual 193, 3) := by decide +kernel
theorem dX9_readsAll_111 : decode cX9_readsAll 111 = .ok (.istore_n 1, 1) := by decide +kernel
theorem dX9_readsAll_112 : decode cX9_readsAll 112 = .ok (.iload_n 1, 1) := by decide +kernel
theorem dX9_readsAll_113 : decode cX9_readsAll 113 = .ok (.ifCond .ne 5, 3) := by decide +kernel
theorem dX9_readsAll_116 : decode cX9_readsAll 116 = .ok (.iconst 0, 1) := by decide +kernel
theorem dX9_readsAll_117 : decode cX9_readsAll 117 = .ok (.ireturn, 1) := by decide +kernel
theorem dX9_readsAll_118 : decode cX9_readsAll 118 = .ok (.goto (-70), 3) := by decide +kernel
theorem dX9_readsAll_121 : decode cX9_readsAll 121 = .ok (.iconst 1, 1) := by decide +kernel
theorem dX9_readsAll_122 : decode cX9_readsAll 122 = .ok (.ireturn, 1) := by decide +kernel
theorem dX9_shifts_0 : decode cX9_shifts 0 = .ok (.iconst 0, 1) := by decide +kernel
theorem dX9_shifts_1 : decode cX9_shifts 1 = .ok (.istore_n 2, 1) := by decide +kernel
theorem dX9_shifts_2 : decode cX9_shifts 2 = .ok (.iload_n 2, 1) := by decide +kernel
theorem dX9_shifts_3 : decode cX9_shifts 3 = .ok (.iload_n 1, 1) := by decide +kernel
theorem dX9_shifts_4 : decode cX9_shifts 4 = .ok (.if_icmp .ge 17, 3) := by decide +kernel
theorem dX9_shifts_7 : decode cX9_shifts 7 = .ok (.aload_n 0, 1) := by decide +kernel
theorem dX9_shifts_8 : decode cX9_shifts 8 = .ok (.iload_n 2, 1) := by decide +kernel
theorem dX9_shifts_9 : decode cX9_shifts 9 = .ok (.aload_n 0, 1) := by decide +kernel
theorem dX9_shifts_10 : decode cX9_shifts 10 = .ok (.iload_n 1, 1) := by decide +kernel
theorem dX9_shifts_11 : decode cX9_shifts 11 = .ok (.iload_n 2, 1) := by decide +kernel
theorem dX9_shifts_12 : decode cX9_shifts 12 = .ok (.iadd, 1) := by decide +kernel
theorem dX9_shifts_13 : decode cX9_shifts 13 = .ok (.iaload, 1) := by decide +kernel
theorem dX9_shifts_14 : decode cX9_shifts 14 = .ok (.iastore, 1) := by decide +kernel
theorem dX9_shifts_15 : decode cX9_shifts 15 = .ok (.iinc 2 1, 3) := by decide +kernel
theorem dX9_shifts_18 : decode cX9_shifts 18 = .ok (.goto (-16), 3) := by decide +kernel
theorem dX9_shifts_21 : decode cX9_shifts 21 = .ok (.return_, 1) := by decide +kernel
theorem dX9_lays_0 : decode cX9_lays 0 = .ok (.aload_n 0, 1) := by decide +kernel
theorem dX9_lays_1 : decode cX9_lays 1 = .ok (.getfield 13, 3) := by decide +kernel
theorem dX9_lays_4 : decode cX9_lays 4 = .ok (.iconst 2, 1) := by decide +kernel
theorem dX9_lays_5 : decode cX9_lays 5 = .ok (.invokestatic 290, 3) := by decide +kernel
theorem dX9_lays_8 : decode cX9_lays 8 = .ok (.iconst 0, 1) := by decide +kernel
theorem dX9_lays_9 : decode cX9_lays 9 = .ok (.istore_n 1, 1) := by decide +kernel
theorem dX9_lays_10 : decode cX9_lays 10 = .ok (.iload_n 1, 1) := by decide +kernel
theorem dX9_lays_11 : decode cX9_lays 11 = .ok (.bipush 6, 2) := by decide +kernel
theorem dX9_lays_13 : decode cX9_lays 13 = .ok (.if_icmp .ge 24, 3) := by decide +kernel
theorem dX9_lays_16 : decode cX9_lays 16 = .ok (.aload_n 0, 1) := by decide +kernel
theorem dX9_lays_17 : decode cX9_lays 17 = .ok (.getfield 16, 3) := by decide +kernel
theorem dX9_lays_20 : decode cX9_lays 20 = .ok (.iload_n 1, 1) := by decide +kernel
theorem dX9_lays_21 : decode cX9_lays 21 = .ok (.aload_n 0, 1) := by decide +kernel
theorem dX9_lays_22 : decode cX9_lays 22 = .ok (.getfield 16, 3) := by decide +kernel
theorem dX9_lays_25 : decode cX9_lays 25 = .ok (.bipush 6, 2) := by decide +kernel
theorem dX9_lays_27 : decode cX9_lays 27 = .ok (.iload_n 1, 1) := by decide +kernel
theorem dX9_lays_28 : decode cX9_lays 28 = .ok (.iadd, 1) := by decide +kernel
theorem dX9_lays_29 : decode cX9_lays 29 = .ok (.laload, 1) := by decide +kernel
theorem dX9_lays_30 : decode cX9_lays 30 = .ok (.lastore, 1) := by decide +kernel
theorem dX9_lays_31 : decode cX9_lays 31 = .ok (.iinc 1 1, 3) := by decide +kernel
theorem dX9_lays_34 : decode cX9_lays 34 = .ok (.goto (-24), 3) := by decide +kernel
theorem dX9_lays_37 : decode cX9_lays 37 = .ok (.aload_n 0, 1) := by decide +kernel
theorem dX9_lays_38 : decode cX9_lays 38 = .ok (.getfield 20, 3) := by decide +kernel
theorem dX9_lays_41 : decode cX9_lays 41 = .ok (.bipush 6, 2) := by decide +kernel
theorem dX9_lays_43 : decode cX9_lays 43 = .ok (.invokestatic 290, 3) := by decide +kernel
theorem dX9_lays_46 : decode cX9_lays 46 = .ok (.aload_n 0, 1) := by decide +kernel
theorem dX9_lays_47 : decode cX9_lays 47 = .ok (.getfield 23, 3) := by decide +kernel
theorem dX9_lays_50 : decode cX9_lays 50 = .ok (.bipush 6, 2) := by decide +kernel
theorem dX9_lays_52 : decode cX9_lays 52 = .ok (.invokestatic 290, 3) := by decide +kernel
theorem dX9_lays_55 : decode cX9_lays 55 = .ok (.aload_n 0, 1) := by decide +kernel
theorem dX9_lays_56 : decode cX9_lays 56 = .ok (.getfield 26, 3) := by decide +kernel
theorem dX9_lays_59 : decode cX9_lays 59 = .ok (.bipush 6, 2) := by decide +kernel
theorem dX9_lays_61 : decode cX9_lays 61 = .ok (.invokestatic 290, 3) := by decide +kernel
theorem dX9_lays_64 : decode cX9_lays 64 = .ok (.aload_n 0, 1) := by decide +kernel
theorem dX9_lays_65 : decode cX9_lays 65 = .ok (.getfield 29, 3) := by decide +kernel
theorem dX9_lays_68 : decode cX9_lays 68 = .ok (.bipush 6, 2) := by decide +kernel
theorem dX9_lays_70 : decode cX9_lays 70 = .ok (.invokestatic 290, 3) := by decide +kernel
theorem dX9_lays_73 : decode cX9_lays 73 = .ok (.aload_n 0, 1) := by decide +kernel
theorem dX9_lays_74 : decode cX9_lays 74 = .ok (.getfield 38, 3) := by decide +kernel
theorem dX9_lays_77 : decode cX9_lays 77 = .ok (.sipush 1000, 3) := by decide +kernel
theorem dX9_lays_80 : decode cX9_lays 80 = .ok (.invokestatic 290, 3) := by decide +kernel
theorem dX9_lays_83 : decode cX9_lays 83 = .ok (.aload_n 0, 1) := by decide +kernel
theorem dX9_lays_84 : decode cX9_lays 84 = .ok (.getfield 32, 3) := by decide +kernel
theorem dX9_lays_87 : decode cX9_lays 87 = .ok (.iconst 0, 1) := by decide +kernel
theorem dX9_lays_88 : decode cX9_lays 88 = .ok (.aload_n 0, 1) := by decide +kernel
theorem dX9_lays_89 : decode cX9_lays 89 = .ok (.getfield 32, 3) := by decide +kernel
theorem dX9_lays_92 : decode cX9_lays 92 = .ok (.iconst 1, 1) := by decide +kernel
theorem dX9_lays_93 : decode cX9_lays 93 = .ok (.iaload, 1) := by decide +kernel
theorem dX9_lays_94 : decode cX9_lays 94 = .ok (.sipush 1000, 3) := by decide +kernel
theorem dX9_lays_97 : decode cX9_lays 97 = .ok (.isub, 1) := by decide +kernel
theorem dX9_lays_98 : decode cX9_lays 98 = .ok (.iastore, 1) := by decide +kernel
theorem dX9_lays_99 : decode cX9_lays 99 = .ok (.aload_n 0, 1) := by decide +kernel
theorem dX9_lays_100 : decode cX9_lays 100 = .ok (.getfield 35, 3) := by decide +kernel
theorem dX9_lays_103 : decode cX9_lays 103 = .ok (.iconst 0, 1) := by decide +kernel
theorem dX9_lays_104 : decode cX9_lays 104 = .ok (.aload_n 0, 1) := by decide +kernel
theorem dX9_lays_105 : decode cX9_lays 105 = .ok (.getfield 35, 3) := by decide +kernel
theorem dX9_lays_108 : decode cX9_lays 108 = .ok (.iconst 1, 1) := by decide +kernel
theorem dX9_lays_109 : decode cX9_lays 109 = .ok (.iaload, 1) := by decide +kernel
theorem dX9_lays_110 : decode cX9_lays 110 = .ok (.sipush 1000, 3) := by decide +kernel
theorem dX9_lays_113 : decode cX9_lays 113 = .ok (.isub, 1) := by decide +kernel
theorem dX9_lays_114 : decode cX9_lays 114 = .ok (.iastore, 1) := by decide +kernel
theorem dX9_lays_115 : decode cX9_lays 115 = .ok (.return_, 1) := by decide +kernel
theorem dX9_copies_0 : decode cX9_copies 0 = .ok (.iconst 0, 1) := by decide +kernel
theorem dX9_copies_1 : decode cX9_copies 1 = .ok (.istore 4, 2) := by decide +kernel
theorem dX9_copies_3 : decode cX9_copies 3 = .ok (.iload 4, 2) := by decide +kernel
theorem dX9_copies_5 : decode cX9_copies 5 = .ok (.bipush 58, 2) := by decide +kernel
theorem dX9_copies_7 : decode cX9_copies 7 = .ok (.if_icmp .ge 21, 3) := by decide +kernel
theorem dX9_copies_10 : decode cX9_copies 10 = .ok (.aload_n 2, 1) := by decide +kernel
theorem dX9_copies_11 : decode cX9_copies 11 = .ok (.iload_n 3, 1) := by decide +kernel
theorem dX9_copies_12 : decode cX9_copies 12 = .ok (.iload 4, 2) := by decide +kernel
theorem dX9_copies_14 : decode cX9_copies 14 = .ok (.iadd, 1) := by decide +kernel
theorem dX9_copies_15 : decode cX9_copies 15 = .ok (.aload_n 0, 1) := by decide +kernel
theorem dX9_copies_16 : decode cX9_copies 16 = .ok (.iload_n 1, 1) := by decide +kernel
theorem dX9_copies_17 : decode cX9_copies 17 = .ok (.iload 4, 2) := by decide +kernel
theorem dX9_copies_19 : decode cX9_copies 19 = .ok (.iadd, 1) := by decide +kernel
theorem dX9_copies_20 : decode cX9_copies 20 = .ok (.iaload, 1) := by decide +kernel
theorem dX9_copies_21 : decode cX9_copies 21 = .ok (.iastore, 1) := by decide +kernel
theorem dX9_copies_22 : decode cX9_copies 22 = .ok (.iinc 4 1, 3) := by decide +kernel
theorem dX9_copies_25 : decode cX9_copies 25 = .ok (.goto (-22), 3) := by decide +kernel
theorem dX9_copies_28 : decode cX9_copies 28 = .ok (.return_, 1) := by decide +kernel
theorem dX9_readsLine_0 : decode cX9_readsLine 0 = .ok (.aload_n 0, 1) := by decide +kernel
theorem dX9_readsLine_1 : decode cX9_readsLine 1 = .ok (.ldc2_w 228, 3) := by decide +kernel
theorem dX9_readsLine_4 : decode cX9_readsLine 4 = .ok (.invokevirtual 185, 3) := by decide +kernel
theorem dX9_readsLine_7 : decode cX9_readsLine 7 = .ok (.ifCond .eq 7, 3) := by decide +kernel
theorem dX9_readsLine_10 : decode cX9_readsLine 10 = .ok (.iconst 0, 1) := by decide +kernel
theorem dX9_readsLine_11 : decode cX9_readsLine 11 = .ok (.goto 46, 3) := by decide +kernel
theorem dX9_readsLine_14 : decode cX9_readsLine 14 = .ok (.aload_n 0, 1) := by decide +kernel
theorem dX9_readsLine_15 : decode cX9_readsLine 15 = .ok (.ldc2_w 230, 3) := by decide +kernel
theorem dX9_readsLine_18 : decode cX9_readsLine 18 = .ok (.invokevirtual 185, 3) := by decide +kernel
theorem dX9_readsLine_21 : decode cX9_readsLine 21 = .ok (.ifCond .eq 7, 3) := by decide +kernel
theorem dX9_readsLine_24 : decode cX9_readsLine 24 = .ok (.iconst 1, 1) := by decide +kernel
theorem dX9_readsLine_25 : decode cX9_readsLine 25 = .ok (.goto 32, 3) := by decide +kernel
theorem dX9_readsLine_28 : decode cX9_readsLine 28 = .ok (.aload_n 0, 1) := by decide +kernel
theorem dX9_readsLine_29 : decode cX9_readsLine 29 = .ok (.ldc2_w 232, 3) := by decide +kernel
theorem dX9_readsLine_32 : decode cX9_readsLine 32 = .ok (.invokevirtual 185, 3) := by decide +kernel
theorem dX9_readsLine_35 : decode cX9_readsLine 35 = .ok (.ifCond .eq 7, 3) := by decide +kernel
theorem dX9_readsLine_38 : decode cX9_readsLine 38 = .ok (.iconst 2, 1) := by decide +kernel
theorem dX9_readsLine_39 : decode cX9_readsLine 39 = .ok (.goto 18, 3) := by decide +kernel
theorem dX9_readsLine_42 : decode cX9_readsLine 42 = .ok (.aload_n 0, 1) := by decide +kernel
theorem dX9_readsLine_43 : decode cX9_readsLine 43 = .ok (.ldc2_w 234, 3) := by decide +kernel
theorem dX9_readsLine_46 : decode cX9_readsLine 46 = .ok (.invokevirtual 185, 3) := by decide +kernel
theorem dX9_readsLine_49 : decode cX9_readsLine 49 = .ok (.ifCond .eq 7, 3) := by decide +kernel
theorem dX9_readsLine_52 : decode cX9_readsLine 52 = .ok (.iconst 3, 1) := by decide +kernel
theorem dX9_readsLine_53 : decode cX9_readsLine 53 = .ok (.goto 4, 3) := by decide +kernel
theorem dX9_readsLine_56 : decode cX9_readsLine 56 = .ok (.iconst (-1), 1) := by decide +kernel
theorem dX9_readsLine_57 : decode cX9_readsLine 57 = .ok (.istore_n 1, 1) := by decide +kernel
theorem dX9_readsLine_58 : decode cX9_readsLine 58 = .ok (.iload_n 1, 1) := by decide +kernel
theorem dX9_readsLine_59 : decode cX9_readsLine 59 = .ok (.ifCond .ge 9, 3) := by decide +kernel
theorem dX9_readsLine_62 : decode cX9_readsLine 62 = .ok (.aload_n 0, 1) := by decide +kernel
theorem dX9_readsLine_63 : decode cX9_readsLine 63 = .ok (.iconst 1, 1) := by decide +kernel
theorem dX9_readsLine_64 : decode cX9_readsLine 64 = .ok (.invokevirtual 193, 3) := by decide +kernel
theorem dX9_readsLine_67 : decode cX9_readsLine 67 = .ok (.ireturn, 1) := by decide +kernel
theorem dX9_readsLine_68 : decode cX9_readsLine 68 = .ok (.aload_n 0, 1) := by decide +kernel
theorem dX9_readsLine_69 : decode cX9_readsLine 69 = .ok (.getfield 78, 3) := by decide +kernel
theorem dX9_readsLine_72 : decode cX9_readsLine 72 = .ok (.iconst 5, 1) := by decide +kernel
theorem dX9_readsLine_73 : decode cX9_readsLine 73 = .ok (.iaload, 1) := by decide +kernel
theorem dX9_readsLine_74 : decode cX9_readsLine 74 = .ok (.bipush 40, 2) := by decide +kernel
theorem dX9_readsLine_76 : decode cX9_readsLine 76 = .ok (.if_icmp .ne 9, 3) := by decide +kernel
theorem dX9_readsLine_79 : decode cX9_readsLine 79 = .ok (.aload_n 0, 1) := by decide +kernel
theorem dX9_readsLine_80 : decode cX9_readsLine 80 = .ok (.iconst 5, 1) := by decide +kernel
theorem dX9_readsLine_81 : decode cX9_readsLine 81 = .ok (.invokevirtual 193, 3) := by decide +kernel
theorem dX9_readsLine_84 : decode cX9_readsLine 84 = .ok (.ireturn, 1) := by decide +kernel
theorem dX9_readsLine_85 : decode cX9_readsLine 85 = .ok (.aload_n 0, 1) := by decide +kernel
theorem dX9_readsLine_86 : decode cX9_readsLine 86 = .ok (.invokevirtual 200, 3) := by decide +kernel
theorem dX9_readsLine_89 : decode cX9_readsLine 89 = .ok (.sipush 200, 3) := by decide +kernel
theorem dX9_readsLine_92 : decode cX9_readsLine 92 = .ok (.aload_n 0, 1) := by decide +kernel
theorem dX9_readsLine_93 : decode cX9_readsLine 93 = .ok (.getfield 78, 3) := by decide +kernel
theorem dX9_readsLine_96 : decode cX9_readsLine 96 = .ok (.iconst 5, 1) := by decide +kernel
theorem dX9_readsLine_97 : decode cX9_readsLine 97 = .ok (.iaload, 1) := by decide +kernel
theorem dX9_readsLine_98 : decode cX9_readsLine 98 = .ok (.iadd, 1) := by decide +kernel
theorem dX9_readsLine_99 : decode cX9_readsLine 99 = .ok (.istore_n 2, 1) := by decide +kernel
theorem dX9_readsLine_100 : decode cX9_readsLine 100 = .ok (.aload_n 0, 1) := by decide +kernel
theorem dX9_readsLine_101 : decode cX9_readsLine 101 = .ok (.getfield 81, 3) := by decide +kernel
theorem dX9_readsLine_104 : decode cX9_readsLine 104 = .ok (.iload_n 2, 1) := by decide +kernel
theorem dX9_readsLine_105 : decode cX9_readsLine 105 = .ok (.iload_n 1, 1) := by decide +kernel
theorem dX9_readsLine_106 : decode cX9_readsLine 106 = .ok (.iastore, 1) := by decide +kernel
theorem dX9_readsLine_107 : decode cX9_readsLine 107 = .ok (.iload_n 1, 1) := by decide +kernel
theorem dX9_readsLine_108 : decode cX9_readsLine 108 = .ok (.iconst 3, 1) := by decide +kernel
theorem dX9_readsLine_109 : decode cX9_readsLine 109 = .ok (.if_icmp .eq 26, 3) := by decide +kernel
theorem dX9_readsLine_112 : decode cX9_readsLine 112 = .ok (.aload_n 0, 1) := by decide +kernel
theorem dX9_readsLine_113 : decode cX9_readsLine 113 = .ok (.invokevirtual 294, 3) := by decide +kernel
theorem dX9_readsLine_116 : decode cX9_readsLine 116 = .ok (.ifCond .ne 5, 3) := by decide +kernel
theorem dX9_readsLine_119 : decode cX9_readsLine 119 = .ok (.iconst 0, 1) := by decide +kernel
theorem dX9_readsLine_120 : decode cX9_readsLine 120 = .ok (.ireturn, 1) := by decide +kernel
theorem dX9_readsLine_121 : decode cX9_readsLine 121 = .ok (.aload_n 0, 1) := by decide +kernel
theorem dX9_readsLine_122 : decode cX9_readsLine 122 = .ok (.getfield 84, 3) := by decide +kernel
theorem dX9_readsLine_125 : decode cX9_readsLine 125 = .ok (.iload_n 2, 1) := by decide +kernel
theorem dX9_readsLine_126 : decode cX9_readsLine 126 = .ok (.aload_n 0, 1) := by decide +kernel
theorem dX9_readsLine_127 : decode cX9_readsLine 127 = .ok (.getfield 248, 3) := by decide +kernel
theorem dX9_readsLine_130 : decode cX9_readsLine 130 = .ok (.iastore, 1) := by decide +kernel
theorem dX9_readsLine_131 : decode cX9_readsLine 131 = .ok (.aload_n 0, 1) := by decide +kernel
theorem dX9_readsLine_132 : decode cX9_readsLine 132 = .ok (.invokevirtual 200, 3) := by decide +kernel
theorem dX9_readsLine_135 : decode cX9_readsLine 135 = .ok (.iload_n 1, 1) := by decide +kernel
theorem dX9_readsLine_136 : decode cX9_readsLine 136 = .ok (.iconst 2, 1) := by decide +kernel
theorem dX9_readsLine_137 : decode cX9_readsLine 137 = .ok (.if_icmp .ne 45, 3) := by decide +kernel
theorem dX9_readsLine_140 : decode cX9_readsLine 140 = .ok (.aload_n 0, 1) := by decide +kernel
theorem dX9_readsLine_141 : decode cX9_readsLine 141 = .ok (.invokevirtual 294, 3) := by decide +kernel
theorem dX9_readsLine_144 : decode cX9_readsLine 144 = .ok (.ifCond .ne 5, 3) := by decide +kernel
theorem dX9_readsLine_147 : decode cX9_readsLine 147 = .ok (.iconst 0, 1) := by decide +kernel
theorem dX9_readsLine_148 : decode cX9_readsLine 148 = .ok (.ireturn, 1) := by decide +kernel
theorem dX9_readsLine_149 : decode cX9_readsLine 149 = .ok (.aload_n 0, 1) := by decide +kernel
theorem dX9_readsLine_150 : decode cX9_readsLine 150 = .ok (.getfield 248, 3) := by decide +kernel
theorem dX9_readsLine_153 : decode cX9_readsLine 153 = .ok (.aload_n 0, 1) := by decide +kernel
theorem dX9_readsLine_154 : decode cX9_readsLine 154 = .ok (.getfield 84, 3) := by decide +kernel
theorem dX9_readsLine_157 : decode cX9_readsLine 157 = .ok (.iload_n 2, 1) := by decide +kernel
theorem dX9_readsLine_158 : decode cX9_readsLine 158 = .ok (.iaload, 1) := by decide +kernel
theorem dX9_readsLine_159 : decode cX9_readsLine 159 = .ok (.if_icmp .ne 9, 3) := by decide +kernel
theorem dX9_readsLine_162 : decode cX9_readsLine 162 = .ok (.aload_n 0, 1) := by decide +kernel
theorem dX9_readsLine_163 : decode cX9_readsLine 163 = .ok (.iconst 3, 1) := by decide +kernel
theorem dX9_readsLine_164 : decode cX9_readsLine 164 = .ok (.invokevirtual 193, 3) := by decide +kernel
theorem dX9_readsLine_167 : decode cX9_readsLine 167 = .ok (.ireturn, 1) := by decide +kernel
theorem dX9_readsLine_168 : decode cX9_readsLine 168 = .ok (.aload_n 0, 1) := by decide +kernel
theorem dX9_readsLine_169 : decode cX9_readsLine 169 = .ok (.getfield 87, 3) := by decide +kernel
theorem dX9_readsLine_172 : decode cX9_readsLine 172 = .ok (.iload_n 2, 1) := by decide +kernel
theorem dX9_readsLine_173 : decode cX9_readsLine 173 = .ok (.aload_n 0, 1) := by decide +kernel
theorem dX9_readsLine_174 : decode cX9_readsLine 174 = .ok (.getfield 248, 3) := by decide +kernel
theorem dX9_readsLine_177 : decode cX9_readsLine 177 = .ok (.iastore, 1) := by decide +kernel
theorem dX9_readsLine_178 : decode cX9_readsLine 178 = .ok (.aload_n 0, 1) := by decide +kernel
theorem dX9_readsLine_179 : decode cX9_readsLine 179 = .ok (.invokevirtual 200, 3) := by decide +kernel
theorem dX9_readsLine_182 : decode cX9_readsLine 182 = .ok (.aload_n 0, 1) := by decide +kernel
theorem dX9_readsLine_183 : decode cX9_readsLine 183 = .ok (.getfield 78, 3) := by decide +kernel
theorem dX9_readsLine_186 : decode cX9_readsLine 186 = .ok (.iconst 5, 1) := by decide +kernel
theorem dX9_readsLine_187 : decode cX9_readsLine 187 = .ok (.dup2, 1) := by decide +kernel
theorem dX9_readsLine_188 : decode cX9_readsLine 188 = .ok (.iaload, 1) := by decide +kernel
theorem dX9_readsLine_189 : decode cX9_readsLine 189 = .ok (.iconst 1, 1) := by decide +kernel
theorem dX9_readsLine_190 : decode cX9_readsLine 190 = .ok (.iadd, 1) := by decide +kernel
theorem dX9_readsLine_191 : decode cX9_readsLine 191 = .ok (.iastore, 1) := by decide +kernel
theorem dX9_readsLine_192 : decode cX9_readsLine 192 = .ok (.aload_n 0, 1) := by decide +kernel
theorem dX9_readsLine_193 : decode cX9_readsLine 193 = .ok (.invokevirtual 268, 3) := by decide +kernel
theorem dX9_readsLine_196 : decode cX9_readsLine 196 = .ok (.ireturn, 1) := by decide +kernel
theorem dX9_laysLines_0 : decode cX9_laysLines 0 = .ok (.aload_n 0, 1) := by decide +kernel
theorem dX9_laysLines_1 : decode cX9_laysLines 1 = .ok (.getfield 78, 3) := by decide +kernel
theorem dX9_laysLines_4 : decode cX9_laysLines 4 = .ok (.iload_n 2, 1) := by decide +kernel
theorem dX9_laysLines_5 : decode cX9_laysLines 5 = .ok (.aload_n 0, 1) := by decide +kernel
theorem dX9_laysLines_6 : decode cX9_laysLines 6 = .ok (.getfield 78, 3) := by decide +kernel
theorem dX9_laysLines_9 : decode cX9_laysLines 9 = .ok (.iload_n 1, 1) := by decide +kernel
theorem dX9_laysLines_10 : decode cX9_laysLines 10 = .ok (.iaload, 1) := by decide +kernel
theorem dX9_laysLines_11 : decode cX9_laysLines 11 = .ok (.iastore, 1) := by decide +kernel
theorem dX9_laysLines_12 : decode cX9_laysLines 12 = .ok (.iconst 0, 1) := by decide +kernel
theorem dX9_laysLines_13 : decode cX9_laysLines 13 = .ok (.istore_n 3, 1) := by decide +kernel
theorem dX9_laysLines_14 : decode cX9_laysLines 14 = .ok (.iload_n 3, 1) := by decide +kernel
theorem dX9_laysLines_15 : decode cX9_laysLines 15 = .ok (.bipush 40, 2) := by decide +kernel
theorem dX9_laysLines_17 : decode cX9_laysLines 17 = .ok (.if_icmp .ge 75, 3) := by decide +kernel
theorem dX9_laysLines_20 : decode cX9_laysLines 20 = .ok (.aload_n 0, 1) := by decide +kernel
theorem dX9_laysLines_21 : decode cX9_laysLines 21 = .ok (.getfield 81, 3) := by decide +kernel
theorem dX9_laysLines_24 : decode cX9_laysLines 24 = .ok (.bipush 40, 2) := by decide +kernel
theorem dX9_laysLines_26 : decode cX9_laysLines 26 = .ok (.iload_n 2, 1) := by decide +kernel
theorem dX9_laysLines_27 : decode cX9_laysLines 27 = .ok (.imul, 1) := by decide +kernel
theorem dX9_laysLines_28 : decode cX9_laysLines 28 = .ok (.iload_n 3, 1) := by decide +kernel
theorem dX9_laysLines_29 : decode cX9_laysLines 29 = .ok (.iadd, 1) := by decide +kernel
theorem dX9_laysLines_30 : decode cX9_laysLines 30 = .ok (.aload_n 0, 1) := by decide +kernel
theorem dX9_laysLines_31 : decode cX9_laysLines 31 = .ok (.getfield 81, 3) := by decide +kernel
theorem dX9_laysLines_34 : decode cX9_laysLines 34 = .ok (.bipush 40, 2) := by decide +kernel
theorem dX9_laysLines_36 : decode cX9_laysLines 36 = .ok (.iload_n 1, 1) := by decide +kernel
theorem dX9_laysLines_37 : decode cX9_laysLines 37 = .ok (.imul, 1) := by decide +kernel
theorem dX9_laysLines_38 : decode cX9_laysLines 38 = .ok (.iload_n 3, 1) := by decide +kernel
theorem dX9_laysLines_39 : decode cX9_laysLines 39 = .ok (.iadd, 1) := by decide +kernel
theorem dX9_laysLines_40 : decode cX9_laysLines 40 = .ok (.iaload, 1) := by decide +kernel
theorem dX9_laysLines_41 : decode cX9_laysLines 41 = .ok (.iastore, 1) := by decide +kernel
theorem dX9_laysLines_42 : decode cX9_laysLines 42 = .ok (.aload_n 0, 1) := by decide +kernel
theorem dX9_laysLines_43 : decode cX9_laysLines 43 = .ok (.getfield 84, 3) := by decide +kernel
theorem dX9_laysLines_46 : decode cX9_laysLines 46 = .ok (.bipush 40, 2) := by decide +kernel
theorem dX9_laysLines_48 : decode cX9_laysLines 48 = .ok (.iload_n 2, 1) := by decide +kernel
theorem dX9_laysLines_49 : decode cX9_laysLines 49 = .ok (.imul, 1) := by decide +kernel
theorem dX9_laysLines_50 : decode cX9_laysLines 50 = .ok (.iload_n 3, 1) := by decide +kernel
theorem dX9_laysLines_51 : decode cX9_laysLines 51 = .ok (.iadd, 1) := by decide +kernel
theorem dX9_laysLines_52 : decode cX9_laysLines 52 = .ok (.aload_n 0, 1) := by decide +kernel
theorem dX9_laysLines_53 : decode cX9_laysLines 53 = .ok (.getfield 84, 3) := by decide +kernel
theorem dX9_laysLines_56 : decode cX9_laysLines 56 = .ok (.bipush 40, 2) := by decide +kernel
theorem dX9_laysLines_58 : decode cX9_laysLines 58 = .ok (.iload_n 1, 1) := by decide +kernel
theorem dX9_laysLines_59 : decode cX9_laysLines 59 = .ok (.imul, 1) := by decide +kernel
theorem dX9_laysLines_60 : decode cX9_laysLines 60 = .ok (.iload_n 3, 1) := by decide +kernel
theorem dX9_laysLines_61 : decode cX9_laysLines 61 = .ok (.iadd, 1) := by decide +kernel
theorem dX9_laysLines_62 : decode cX9_laysLines 62 = .ok (.iaload, 1) := by decide +kernel
theorem dX9_laysLines_63 : decode cX9_laysLines 63 = .ok (.iastore, 1) := by decide +kernel
theorem dX9_laysLines_64 : decode cX9_laysLines 64 = .ok (.aload_n 0, 1) := by decide +kernel
theorem dX9_laysLines_65 : decode cX9_laysLines 65 = .ok (.getfield 87, 3) := by decide +kernel
theorem dX9_laysLines_68 : decode cX9_laysLines 68 = .ok (.bipush 40, 2) := by decide +kernel
theorem dX9_laysLines_70 : decode cX9_laysLines 70 = .ok (.iload_n 2, 1) := by decide +kernel
theorem dX9_laysLines_71 : decode cX9_laysLines 71 = .ok (.imul, 1) := by decide +kernel
theorem dX9_laysLines_72 : decode cX9_laysLines 72 = .ok (.iload_n 3, 1) := by decide +kernel
theorem dX9_laysLines_73 : decode cX9_laysLines 73 = .ok (.iadd, 1) := by decide +kernel
theorem dX9_laysLines_74 : decode cX9_laysLines 74 = .ok (.aload_n 0, 1) := by decide +kernel
theorem dX9_laysLines_75 : decode cX9_laysLines 75 = .ok (.getfield 87, 3) := by decide +kernel
theorem dX9_laysLines_78 : decode cX9_laysLines 78 = .ok (.bipush 40, 2) := by decide +kernel
theorem dX9_laysLines_80 : decode cX9_laysLines 80 = .ok (.iload_n 1, 1) := by decide +kernel
theorem dX9_laysLines_81 : decode cX9_laysLines 81 = .ok (.imul, 1) := by decide +kernel
theorem dX9_laysLines_82 : decode cX9_laysLines 82 = .ok (.iload_n 3, 1) := by decide +kernel
theorem dX9_laysLines_83 : decode cX9_laysLines 83 = .ok (.iadd, 1) := by decide +kernel
theorem dX9_laysLines_84 : decode cX9_laysLines 84 = .ok (.iaload, 1) := by decide +kernel
theorem dX9_laysLines_85 : decode cX9_laysLines 85 = .ok (.iastore, 1) := by decide +kernel
theorem dX9_laysLines_86 : decode cX9_laysLines 86 = .ok (.iinc 3 1, 3) := by decide +kernel
theorem dX9_laysLines_89 : decode cX9_laysLines 89 = .ok (.goto (-75), 3) := by decide +kernel
theorem dX9_laysLines_92 : decode cX9_laysLines 92 = .ok (.return_, 1) := by decide +kernel
theorem dX9_laysTale_0 : decode cX9_laysTale 0 = .ok (.iconst 0, 1) := by decide +kernel
theorem dX9_laysTale_1 : decode cX9_laysTale 1 = .ok (.istore_n 3, 1) := by decide +kernel
theorem dX9_laysTale_2 : decode cX9_laysTale 2 = .ok (.iload_n 3, 1) := by decide +kernel
theorem dX9_laysTale_3 : decode cX9_laysTale 3 = .ok (.bipush 6, 2) := by decide +kernel
theorem dX9_laysTale_5 : decode cX9_laysTale 5 = .ok (.if_icmp .ge 31, 3) := by decide +kernel
theorem dX9_laysTale_8 : decode cX9_laysTale 8 = .ok (.aload_n 0, 1) := by decide +kernel
theorem dX9_laysTale_9 : decode cX9_laysTale 9 = .ok (.getfield 90, 3) := by decide +kernel
theorem dX9_laysTale_12 : decode cX9_laysTale 12 = .ok (.bipush 6, 2) := by decide +kernel
theorem dX9_laysTale_14 : decode cX9_laysTale 14 = .ok (.iload_n 2, 1) := by decide +kernel
theorem dX9_laysTale_15 : decode cX9_laysTale 15 = .ok (.imul, 1) := by decide +kernel
theorem dX9_laysTale_16 : decode cX9_laysTale 16 = .ok (.iload_n 3, 1) := by decide +kernel
theorem dX9_laysTale_17 : decode cX9_laysTale 17 = .ok (.iadd, 1) := by decide +kernel
theorem dX9_laysTale_18 : decode cX9_laysTale 18 = .ok (.aload_n 0, 1) := by decide +kernel
theorem dX9_laysTale_19 : decode cX9_laysTale 19 = .ok (.getfield 90, 3) := by decide +kernel
theorem dX9_laysTale_22 : decode cX9_laysTale 22 = .ok (.bipush 6, 2) := by decide +kernel
theorem dX9_laysTale_24 : decode cX9_laysTale 24 = .ok (.iload_n 1, 1) := by decide +kernel
theorem dX9_laysTale_25 : decode cX9_laysTale 25 = .ok (.imul, 1) := by decide +kernel
theorem dX9_laysTale_26 : decode cX9_laysTale 26 = .ok (.iload_n 3, 1) := by decide +kernel
theorem dX9_laysTale_27 : decode cX9_laysTale 27 = .ok (.iadd, 1) := by decide +kernel
theorem dX9_laysTale_28 : decode cX9_laysTale 28 = .ok (.iaload, 1) := by decide +kernel
theorem dX9_laysTale_29 : decode cX9_laysTale 29 = .ok (.iastore, 1) := by decide +kernel
theorem dX9_laysTale_30 : decode cX9_laysTale 30 = .ok (.iinc 3 1, 3) := by decide +kernel
theorem dX9_laysTale_33 : decode cX9_laysTale 33 = .ok (.goto (-31), 3) := by decide +kernel
theorem dX9_laysTale_36 : decode cX9_laysTale 36 = .ok (.return_, 1) := by decide +kernel
theorem dX9_fresh_0 : decode cX9_fresh 0 = .ok (.iconst 0, 1) := by decide +kernel
theorem dX9_fresh_1 : decode cX9_fresh 1 = .ok (.istore_n 1, 1) := by decide +kernel
theorem dX9_fresh_2 : decode cX9_fresh 2 = .ok (.iload_n 1, 1) := by decide +kernel
theorem dX9_fresh_3 : decode cX9_fresh 3 = .ok (.bipush 58, 2) := by decide +kernel
theorem dX9_fresh_5 : decode cX9_fresh 5 = .ok (.if_icmp .ge 16, 3) := by decide +kernel
theorem dX9_fresh_8 : decode cX9_fresh 8 = .ok (.aload_n 0, 1) := by decide +kernel
theorem dX9_fresh_9 : decode cX9_fresh 9 = .ok (.getfield 93, 3) := by decide +kernel
theorem dX9_fresh_12 : decode cX9_fresh 12 = .ok (.iload_n 1, 1) := by decide +kernel
theorem dX9_fresh_13 : decode cX9_fresh 13 = .ok (.iconst 0, 1) := by decide +kernel
theorem dX9_fresh_14 : decode cX9_fresh 14 = .ok (.iastore, 1) := by decide +kernel
theorem dX9_fresh_15 : decode cX9_fresh 15 = .ok (.iinc 1 1, 3) := by decide +kernel
theorem dX9_fresh_18 : decode cX9_fresh 18 = .ok (.goto (-16), 3) := by decide +kernel
theorem dX9_fresh_21 : decode cX9_fresh 21 = .ok (.iconst 0, 1) := by decide +kernel
theorem dX9_fresh_22 : decode cX9_fresh 22 = .ok (.istore_n 1, 1) := by decide +kernel
theorem dX9_fresh_23 : decode cX9_fresh 23 = .ok (.iload_n 1, 1) := by decide +kernel
theorem dX9_fresh_24 : decode cX9_fresh 24 = .ok (.aload_n 0, 1) := by decide +kernel
theorem dX9_fresh_25 : decode cX9_fresh 25 = .ok (.getfield 13, 3) := by decide +kernel
theorem dX9_fresh_28 : decode cX9_fresh 28 = .ok (.iconst 0, 1) := by decide +kernel
theorem dX9_fresh_29 : decode cX9_fresh 29 = .ok (.iaload, 1) := by decide +kernel
theorem dX9_fresh_30 : decode cX9_fresh 30 = .ok (.if_icmp .ge 24, 3) := by decide +kernel
theorem dX9_fresh_33 : decode cX9_fresh 33 = .ok (.aload_n 0, 1) := by decide +kernel
theorem dX9_fresh_34 : decode cX9_fresh 34 = .ok (.getfield 93, 3) := by decide +kernel
theorem dX9_fresh_37 : decode cX9_fresh 37 = .ok (.bipush 16, 2) := by decide +kernel
theorem dX9_fresh_39 : decode cX9_fresh 39 = .ok (.iload_n 1, 1) := by decide +kernel
theorem dX9_fresh_40 : decode cX9_fresh 40 = .ok (.iadd, 1) := by decide +kernel
theorem dX9_fresh_41 : decode cX9_fresh 41 = .ok (.aload_n 0, 1) := by decide +kernel
theorem dX9_fresh_42 : decode cX9_fresh 42 = .ok (.getfield 26, 3) := by decide +kernel
theorem dX9_fresh_45 : decode cX9_fresh 45 = .ok (.iload_n 1, 1) := by decide +kernel
theorem dX9_fresh_46 : decode cX9_fresh 46 = .ok (.iaload, 1) := by decide +kernel
theorem dX9_fresh_47 : decode cX9_fresh 47 = .ok (.iastore, 1) := by decide +kernel
theorem dX9_fresh_48 : decode cX9_fresh 48 = .ok (.iinc 1 1, 3) := by decide +kernel
theorem dX9_fresh_51 : decode cX9_fresh 51 = .ok (.goto (-28), 3) := by decide +kernel
theorem dX9_fresh_54 : decode cX9_fresh 54 = .ok (.return_, 1) := by decide +kernel
theorem dX9_forgets_0 : decode cX9_forgets 0 = .ok (.iconst 0, 1) := by decide +kernel
theorem dX9_forgets_1 : decode cX9_forgets 1 = .ok (.istore_n 1, 1) := by decide +kernel
theorem dX9_forgets_2 : decode cX9_forgets 2 = .ok (.iload_n 1, 1) := by decide +kernel
theorem dX9_forgets_3 : decode cX9_forgets 3 = .ok (.bipush 6, 2) := by decide +kernel
theorem dX9_forgets_5 : decode cX9_forgets 5 = .ok (.if_icmp .ge 16, 3) := by decide +kernel
theorem dX9_forgets_8 : decode cX9_forgets 8 = .ok (.aload_n 0, 1) := by decide +kernel
theorem dX9_forgets_9 : decode cX9_forgets 9 = .ok (.getfield 90, 3) := by decide +kernel
theorem dX9_forgets_12 : decode cX9_forgets 12 = .ok (.iload_n 1, 1) := by decide +kernel
theorem dX9_forgets_13 : decode cX9_forgets 13 = .ok (.iconst (-1), 1) := by decide +kernel
theorem dX9_forgets_14 : decode cX9_forgets 14 = .ok (.iastore, 1) := by decide +kernel
theorem dX9_forgets_15 : decode cX9_forgets 15 = .ok (.iinc 1 1, 3) := by decide +kernel
theorem dX9_forgets_18 : decode cX9_forgets 18 = .ok (.goto (-16), 3) := by decide +kernel
theorem dX9_forgets_21 : decode cX9_forgets 21 = .ok (.return_, 1) := by decide +kernel
theorem dX9_office_0 : decode cX9_office 0 = .ok (.aload_n 0, 1) := by decide +kernel
theorem dX9_office_1 : decode cX9_office 1 = .ok (.iconst 0, 1) := by decide +kernel
theorem dX9_office_2 : decode cX9_office 2 = .ok (.putfield 130, 3) := by decide +kernel
theorem dX9_office_5 : decode cX9_office 5 = .ok (.aload_n 0, 1) := by decide +kernel
theorem dX9_office_6 : decode cX9_office 6 = .ok (.invokevirtual 297, 3) := by decide +kernel
theorem dX9_office_9 : decode cX9_office 9 = .ok (.ifCond .ne 8, 3) := by decide +kernel
theorem dX9_office_12 : decode cX9_office 12 = .ok (.aload_n 0, 1) := by decide +kernel
theorem dX9_office_13 : decode cX9_office 13 = .ok (.getfield 165, 3) := by decide +kernel
theorem dX9_office_16 : decode cX9_office 16 = .ok (.ireturn, 1) := by decide +kernel
theorem dX9_office_17 : decode cX9_office 17 = .ok (.aload_n 0, 1) := by decide +kernel
theorem dX9_office_18 : decode cX9_office 18 = .ok (.invokevirtual 300, 3) := by decide +kernel
theorem dX9_office_21 : decode cX9_office 21 = .ok (.aload_n 0, 1) := by decide +kernel
theorem dX9_office_22 : decode cX9_office 22 = .ok (.invokevirtual 303, 3) := by decide +kernel
theorem dX9_office_25 : decode cX9_office 25 = .ok (.aload_n 0, 1) := by decide +kernel
theorem dX9_office_26 : decode cX9_office 26 = .ok (.aload_n 0, 1) := by decide +kernel
theorem dX9_office_27 : decode cX9_office 27 = .ok (.getfield 13, 3) := by decide +kernel
theorem dX9_office_30 : decode cX9_office 30 = .ok (.iconst 1, 1) := by decide +kernel
theorem dX9_office_31 : decode cX9_office 31 = .ok (.iaload, 1) := by decide +kernel
theorem dX9_office_32 : decode cX9_office 32 = .ok (.putfield 123, 3) := by decide +kernel
theorem dX9_office_35 : decode cX9_office 35 = .ok (.aload_n 0, 1) := by decide +kernel
theorem dX9_office_36 : decode cX9_office 36 = .ok (.invokevirtual 127, 3) := by decide +kernel
theorem dX9_office_39 : decode cX9_office 39 = .ok (.aload_n 0, 1) := by decide +kernel
theorem dX9_office_40 : decode cX9_office 40 = .ok (.getfield 78, 3) := by decide +kernel
theorem dX9_office_43 : decode cX9_office 43 = .ok (.iconst 0, 1) := by decide +kernel
theorem dX9_office_44 : decode cX9_office 44 = .ok (.iconst 0, 1) := by decide +kernel
theorem dX9_office_45 : decode cX9_office 45 = .ok (.iastore, 1) := by decide +kernel
theorem dX9_office_46 : decode cX9_office 46 = .ok (.aload_n 0, 1) := by decide +kernel
theorem dX9_office_47 : decode cX9_office 47 = .ok (.iconst 0, 1) := by decide +kernel
theorem dX9_office_48 : decode cX9_office 48 = .ok (.putfield 306, 3) := by decide +kernel
theorem dX9_office_51 : decode cX9_office 51 = .ok (.iconst 0, 1) := by decide +kernel
theorem dX9_office_52 : decode cX9_office 52 = .ok (.istore_n 1, 1) := by decide +kernel
theorem dX9_office_53 : decode cX9_office 53 = .ok (.iload_n 1, 1) := by decide +kernel
theorem dX9_office_54 : decode cX9_office 54 = .ok (.iconst 4, 1) := by decide +kernel
theorem dX9_office_55 : decode cX9_office 55 = .ok (.if_icmp .ge 16, 3) := by decide +kernel
theorem dX9_office_58 : decode cX9_office 58 = .ok (.aload_n 0, 1) := by decide +kernel
theorem dX9_office_59 : decode cX9_office 59 = .ok (.getfield 108, 3) := by decide +kernel
theorem dX9_office_62 : decode cX9_office 62 = .ok (.iload_n 1, 1) := by decide +kernel
theorem dX9_office_63 : decode cX9_office 63 = .ok (.iconst 0, 1) := by decide +kernel
theorem dX9_office_64 : decode cX9_office 64 = .ok (.bastore, 1) := by decide +kernel
theorem dX9_office_65 : decode cX9_office 65 = .ok (.iinc 1 1, 3) := by decide +kernel
theorem dX9_office_68 : decode cX9_office 68 = .ok (.goto (-15), 3) := by decide +kernel
theorem dX9_office_71 : decode cX9_office 71 = .ok (.iconst 0, 1) := by decide +kernel
theorem dX9_office_72 : decode cX9_office 72 = .ok (.ireturn, 1) := by decide +kernel
theorem dX9_day_0 : decode cX9_day 0 = .ok (.aload_n 0, 1) := by decide +kernel
theorem dX9_day_1 : decode cX9_day 1 = .ok (.iconst 0, 1) := by decide +kernel
theorem dX9_day_2 : decode cX9_day 2 = .ok (.putfield 130, 3) := by decide +kernel
theorem dX9_day_5 : decode cX9_day 5 = .ok (.aload_n 0, 1) := by decide +kernel
theorem dX9_day_6 : decode cX9_day 6 = .ok (.getfield 78, 3) := by decide +kernel
theorem dX9_day_9 : decode cX9_day 9 = .ok (.iconst 5, 1) := by decide +kernel
theorem dX9_day_10 : decode cX9_day 10 = .ok (.iconst 0, 1) := by decide +kernel
theorem dX9_day_11 : decode cX9_day 11 = .ok (.iastore, 1) := by decide +kernel
theorem dX9_day_12 : decode cX9_day 12 = .ok (.aload_n 0, 1) := by decide +kernel
theorem dX9_day_13 : decode cX9_day 13 = .ok (.invokevirtual 278, 3) := by decide +kernel
theorem dX9_day_16 : decode cX9_day 16 = .ok (.aload_n 0, 1) := by decide +kernel
theorem dX9_day_17 : decode cX9_day 17 = .ok (.getfield 154, 3) := by decide +kernel
theorem dX9_day_20 : decode cX9_day 20 = .ok (.ifCond .eq 15, 3) := by decide +kernel
theorem dX9_day_23 : decode cX9_day 23 = .ok (.aload_n 0, 1) := by decide +kernel
theorem dX9_day_24 : decode cX9_day 24 = .ok (.invokevirtual 309, 3) := by decide +kernel
theorem dX9_day_27 : decode cX9_day 27 = .ok (.ifCond .ne (-11), 3) := by decide +kernel
theorem dX9_day_30 : decode cX9_day 30 = .ok (.aload_n 0, 1) := by decide +kernel
theorem dX9_day_31 : decode cX9_day 31 = .ok (.getfield 165, 3) := by decide +kernel
theorem dX9_day_34 : decode cX9_day 34 = .ok (.ireturn, 1) := by decide +kernel
theorem dX9_day_35 : decode cX9_day 35 = .ok (.aload_n 0, 1) := by decide +kernel
theorem dX9_day_36 : decode cX9_day 36 = .ok (.iconst 5, 1) := by decide +kernel
theorem dX9_day_37 : decode cX9_day 37 = .ok (.iconst 0, 1) := by decide +kernel
theorem dX9_day_38 : decode cX9_day 38 = .ok (.invokevirtual 312, 3) := by decide +kernel
theorem dX9_day_41 : decode cX9_day 41 = .ok (.iconst 0, 1) := by decide +kernel
theorem dX9_day_42 : decode cX9_day 42 = .ok (.ireturn, 1) := by decide +kernel
theorem dX9_isCaller_0 : decode cX9_isCaller 0 = .ok (.iload_n 1, 1) := by decide +kernel
theorem dX9_isCaller_1 : decode cX9_isCaller 1 = .ok (.ifCond .lt 17, 3) := by decide +kernel
theorem dX9_isCaller_4 : decode cX9_isCaller 4 = .ok (.iload_n 1, 1) := by decide +kernel
theorem dX9_isCaller_5 : decode cX9_isCaller 5 = .ok (.aload_n 0, 1) := by decide +kernel
theorem dX9_isCaller_6 : decode cX9_isCaller 6 = .ok (.getfield 13, 3) := by decide +kernel
theorem dX9_isCaller_9 : decode cX9_isCaller 9 = .ok (.iconst 0, 1) := by decide +kernel
theorem dX9_isCaller_10 : decode cX9_isCaller 10 = .ok (.iaload, 1) := by decide +kernel
theorem dX9_isCaller_11 : decode cX9_isCaller 11 = .ok (.if_icmp .ge 7, 3) := by decide +kernel
theorem dX9_isCaller_14 : decode cX9_isCaller 14 = .ok (.iconst 1, 1) := by decide +kernel
theorem dX9_isCaller_15 : decode cX9_isCaller 15 = .ok (.goto 4, 3) := by decide +kernel
theorem dX9_isCaller_18 : decode cX9_isCaller 18 = .ok (.iconst 0, 1) := by decide +kernel
theorem dX9_isCaller_19 : decode cX9_isCaller 19 = .ok (.ireturn, 1) := by decide +kernel
theorem dX9_placeOf_0 : decode cX9_placeOf 0 = .ok (.iconst 0, 1) := by decide +kernel
theorem dX9_placeOf_1 : decode cX9_placeOf 1 = .ok (.istore_n 2, 1) := by decide +kernel
theorem dX9_placeOf_2 : decode cX9_placeOf 2 = .ok (.iload_n 2, 1) := by decide +kernel
theorem dX9_placeOf_3 : decode cX9_placeOf 3 = .ok (.aload_n 0, 1) := by decide +kernel
theorem dX9_placeOf_4 : decode cX9_placeOf 4 = .ok (.getfield 93, 3) := by decide +kernel
theorem dX9_placeOf_7 : decode cX9_placeOf 7 = .ok (.iconst 1, 1) := by decide +kernel
theorem dX9_placeOf_8 : decode cX9_placeOf 8 = .ok (.iaload, 1) := by decide +kernel
theorem dX9_placeOf_9 : decode cX9_placeOf 9 = .ok (.if_icmp .ge 23, 3) := by decide +kernel
theorem dX9_placeOf_12 : decode cX9_placeOf 12 = .ok (.aload_n 0, 1) := by decide +kernel
theorem dX9_placeOf_13 : decode cX9_placeOf 13 = .ok (.getfield 93, 3) := by decide +kernel
theorem dX9_placeOf_16 : decode cX9_placeOf 16 = .ok (.iconst 4, 1) := by decide +kernel
theorem dX9_placeOf_17 : decode cX9_placeOf 17 = .ok (.iload_n 2, 1) := by decide +kernel
theorem dX9_placeOf_18 : decode cX9_placeOf 18 = .ok (.iadd, 1) := by decide +kernel
theorem dX9_placeOf_19 : decode cX9_placeOf 19 = .ok (.iaload, 1) := by decide +kernel
theorem dX9_placeOf_20 : decode cX9_placeOf 20 = .ok (.iload_n 1, 1) := by decide +kernel
theorem dX9_placeOf_21 : decode cX9_placeOf 21 = .ok (.if_icmp .ne 5, 3) := by decide +kernel
theorem dX9_placeOf_24 : decode cX9_placeOf 24 = .ok (.iload_n 2, 1) := by decide +kernel
theorem dX9_placeOf_25 : decode cX9_placeOf 25 = .ok (.ireturn, 1) := by decide +kernel
theorem dX9_placeOf_26 : decode cX9_placeOf 26 = .ok (.iinc 2 1, 3) := by decide +kernel
theorem dX9_placeOf_29 : decode cX9_placeOf 29 = .ok (.goto (-27), 3) := by decide +kernel
theorem dX9_placeOf_32 : decode cX9_placeOf 32 = .ok (.iconst (-1), 1) := by decide +kernel
theorem dX9_placeOf_33 : decode cX9_placeOf 33 = .ok (.ireturn, 1) := by decide +kernel
theorem dX9_isSettled_0 : decode cX9_isSettled 0 = .ok (.aload_n 0, 1) := by decide +kernel
theorem dX9_isSettled_1 : decode cX9_isSettled 1 = .ok (.getfield 93, 3) := by decide +kernel
theorem dX9_isSettled_4 : decode cX9_isSettled 4 = .ok (.iconst 2, 1) := by decide +kernel
theorem dX9_isSettled_5 : decode cX9_isSettled 5 = .ok (.iaload, 1) := by decide +kernel
theorem dX9_isSettled_6 : decode cX9_isSettled 6 = .ok (.iload_n 1, 1) := by decide +kernel
theorem dX9_isSettled_7 : decode cX9_isSettled 7 = .ok (.ishr, 1) := by decide +kernel
theorem dX9_isSettled_8 : decode cX9_isSettled 8 = .ok (.iconst 1, 1) := by decide +kernel
theorem dX9_isSettled_9 : decode cX9_isSettled 9 = .ok (.iand, 1) := by decide +kernel
theorem dX9_isSettled_10 : decode cX9_isSettled 10 = .ok (.iconst 1, 1) := by decide +kernel
theorem dX9_isSettled_11 : decode cX9_isSettled 11 = .ok (.if_icmp .ne 7, 3) := by decide +kernel
theorem dX9_isSettled_14 : decode cX9_isSettled 14 = .ok (.iconst 1, 1) := by decide +kernel
theorem dX9_isSettled_15 : decode cX9_isSettled 15 = .ok (.goto 4, 3) := by decide +kernel
theorem dX9_isSettled_18 : decode cX9_isSettled 18 = .ok (.iconst 0, 1) := by decide +kernel
theorem dX9_isSettled_19 : decode cX9_isSettled 19 = .ok (.ireturn, 1) := by decide +kernel
theorem dX9_canRing_0 : decode cX9_canRing 0 = .ok (.aload_n 0, 1) := by decide +kernel
theorem dX9_canRing_1 : decode cX9_canRing 1 = .ok (.iload_n 1, 1) := by decide +kernel
theorem dX9_canRing_2 : decode cX9_canRing 2 = .ok (.invokevirtual 316, 3) := by decide +kernel
theorem dX9_canRing_5 : decode cX9_canRing 5 = .ok (.ifCond .ne 15, 3) := by decide +kernel
theorem dX9_canRing_8 : decode cX9_canRing 8 = .ok (.aload_n 0, 1) := by decide +kernel
theorem dX9_canRing_9 : decode cX9_canRing 9 = .ok (.iload_n 1, 1) := by decide +kernel
theorem dX9_canRing_10 : decode cX9_canRing 10 = .ok (.invokevirtual 319, 3) := by decide +kernel
theorem dX9_canRing_13 : decode cX9_canRing 13 = .ok (.ifCond .ge 7, 3) := by decide +kernel
theorem dX9_canRing_16 : decode cX9_canRing 16 = .ok (.iconst 1, 1) := by decide +kernel
theorem dX9_canRing_17 : decode cX9_canRing 17 = .ok (.goto 4, 3) := by decide +kernel
theorem dX9_canRing_20 : decode cX9_canRing 20 = .ok (.iconst 0, 1) := by decide +kernel
theorem dX9_canRing_21 : decode cX9_canRing 21 = .ok (.ireturn, 1) := by decide +kernel
theorem dX9_rings_0 : decode cX9_rings 0 = .ok (.aload_n 0, 1) := by decide +kernel
theorem dX9_rings_1 : decode cX9_rings 1 = .ok (.getfield 93, 3) := by decide +kernel
theorem dX9_rings_4 : decode cX9_rings 4 = .ok (.iconst 4, 1) := by decide +kernel
theorem dX9_rings_5 : decode cX9_rings 5 = .ok (.aload_n 0, 1) := by decide +kernel
theorem dX9_rings_6 : decode cX9_rings 6 = .ok (.getfield 93, 3) := by decide +kernel
theorem dX9_rings_9 : decode cX9_rings 9 = .ok (.iconst 1, 1) := by decide +kernel
theorem dX9_rings_10 : decode cX9_rings 10 = .ok (.iaload, 1) := by decide +kernel
theorem dX9_rings_11 : decode cX9_rings 11 = .ok (.iadd, 1) := by decide +kernel
theorem dX9_rings_12 : decode cX9_rings 12 = .ok (.iload_n 1, 1) := by decide +kernel
theorem dX9_rings_13 : decode cX9_rings 13 = .ok (.iastore, 1) := by decide +kernel
theorem dX9_rings_14 : decode cX9_rings 14 = .ok (.aload_n 0, 1) := by decide +kernel
theorem dX9_rings_15 : decode cX9_rings 15 = .ok (.getfield 93, 3) := by decide +kernel
theorem dX9_rings_18 : decode cX9_rings 18 = .ok (.bipush 10, 2) := by decide +kernel
theorem dX9_rings_20 : decode cX9_rings 20 = .ok (.iload_n 1, 1) := by decide +kernel
theorem dX9_rings_21 : decode cX9_rings 21 = .ok (.iadd, 1) := by decide +kernel
theorem dX9_rings_22 : decode cX9_rings 22 = .ok (.iconst 0, 1) := by decide +kernel
theorem dX9_rings_23 : decode cX9_rings 23 = .ok (.iastore, 1) := by decide +kernel
theorem dX9_rings_24 : decode cX9_rings 24 = .ok (.aload_n 0, 1) := by decide +kernel
theorem dX9_rings_25 : decode cX9_rings 25 = .ok (.getfield 93, 3) := by decide +kernel
theorem dX9_rings_28 : decode cX9_rings 28 = .ok (.iconst 1, 1) := by decide +kernel
theorem dX9_rings_29 : decode cX9_rings 29 = .ok (.dup2, 1) := by decide +kernel
theorem dX9_rings_30 : decode cX9_rings 30 = .ok (.iaload, 1) := by decide +kernel
theorem dX9_rings_31 : decode cX9_rings 31 = .ok (.iconst 1, 1) := by decide +kernel
theorem dX9_rings_32 : decode cX9_rings 32 = .ok (.iadd, 1) := by decide +kernel
theorem dX9_rings_33 : decode cX9_rings 33 = .ok (.iastore, 1) := by decide +kernel
theorem dX9_rings_34 : decode cX9_rings 34 = .ok (.return_, 1) := by decide +kernel
theorem dX9_ends_0 : decode cX9_ends 0 = .ok (.aload_n 0, 1) := by decide +kernel
theorem dX9_ends_1 : decode cX9_ends 1 = .ok (.iload_n 1, 1) := by decide +kernel
theorem dX9_ends_2 : decode cX9_ends 2 = .ok (.invokevirtual 319, 3) := by decide +kernel
theorem dX9_ends_5 : decode cX9_ends 5 = .ok (.istore_n 2, 1) := by decide +kernel
theorem dX9_ends_6 : decode cX9_ends 6 = .ok (.iload_n 2, 1) := by decide +kernel
theorem dX9_ends_7 : decode cX9_ends 7 = .ok (.iconst 1, 1) := by decide +kernel
theorem dX9_ends_8 : decode cX9_ends 8 = .ok (.iadd, 1) := by decide +kernel
theorem dX9_ends_9 : decode cX9_ends 9 = .ok (.aload_n 0, 1) := by decide +kernel
theorem dX9_ends_10 : decode cX9_ends 10 = .ok (.getfield 93, 3) := by decide +kernel
theorem dX9_ends_13 : decode cX9_ends 13 = .ok (.iconst 1, 1) := by decide +kernel
theorem dX9_ends_14 : decode cX9_ends 14 = .ok (.iaload, 1) := by decide +kernel
theorem dX9_ends_15 : decode cX9_ends 15 = .ok (.if_icmp .ge 27, 3) := by decide +kernel
theorem dX9_ends_18 : decode cX9_ends 18 = .ok (.aload_n 0, 1) := by decide +kernel
theorem dX9_ends_19 : decode cX9_ends 19 = .ok (.getfield 93, 3) := by decide +kernel
theorem dX9_ends_22 : decode cX9_ends 22 = .ok (.iconst 4, 1) := by decide +kernel
theorem dX9_ends_23 : decode cX9_ends 23 = .ok (.iload_n 2, 1) := by decide +kernel
theorem dX9_ends_24 : decode cX9_ends 24 = .ok (.iadd, 1) := by decide +kernel
theorem dX9_ends_25 : decode cX9_ends 25 = .ok (.aload_n 0, 1) := by decide +kernel
theorem dX9_ends_26 : decode cX9_ends 26 = .ok (.getfield 93, 3) := by decide +kernel
theorem dX9_ends_29 : decode cX9_ends 29 = .ok (.iconst 4, 1) := by decide +kernel
theorem dX9_ends_30 : decode cX9_ends 30 = .ok (.iload_n 2, 1) := by decide +kernel
theorem dX9_ends_31 : decode cX9_ends 31 = .ok (.iadd, 1) := by decide +kernel
theorem dX9_ends_32 : decode cX9_ends 32 = .ok (.iconst 1, 1) := by decide +kernel
theorem dX9_ends_33 : decode cX9_ends 33 = .ok (.iadd, 1) := by decide +kernel
theorem dX9_ends_34 : decode cX9_ends 34 = .ok (.iaload, 1) := by decide +kernel
theorem dX9_ends_35 : decode cX9_ends 35 = .ok (.iastore, 1) := by decide +kernel
theorem dX9_ends_36 : decode cX9_ends 36 = .ok (.iinc 2 1, 3) := by decide +kernel
theorem dX9_ends_39 : decode cX9_ends 39 = .ok (.goto (-33), 3) := by decide +kernel
theorem dX9_ends_42 : decode cX9_ends 42 = .ok (.aload_n 0, 1) := by decide +kernel
theorem dX9_ends_43 : decode cX9_ends 43 = .ok (.getfield 93, 3) := by decide +kernel
theorem dX9_ends_46 : decode cX9_ends 46 = .ok (.iconst 1, 1) := by decide +kernel
theorem dX9_ends_47 : decode cX9_ends 47 = .ok (.dup2, 1) := by decide +kernel
theorem dX9_ends_48 : decode cX9_ends 48 = .ok (.iaload, 1) := by decide +kernel
theorem dX9_ends_49 : decode cX9_ends 49 = .ok (.iconst 1, 1) := by decide +kernel
theorem dX9_ends_50 : decode cX9_ends 50 = .ok (.isub, 1) := by decide +kernel
theorem dX9_ends_51 : decode cX9_ends 51 = .ok (.iastore, 1) := by decide +kernel
theorem dX9_ends_52 : decode cX9_ends 52 = .ok (.aload_n 0, 1) := by decide +kernel
theorem dX9_ends_53 : decode cX9_ends 53 = .ok (.getfield 93, 3) := by decide +kernel
theorem dX9_ends_56 : decode cX9_ends 56 = .ok (.bipush 10, 2) := by decide +kernel
theorem dX9_ends_58 : decode cX9_ends 58 = .ok (.iload_n 1, 1) := by decide +kernel
theorem dX9_ends_59 : decode cX9_ends 59 = .ok (.iadd, 1) := by decide +kernel
theorem dX9_ends_60 : decode cX9_ends 60 = .ok (.iconst 0, 1) := by decide +kernel
theorem dX9_ends_61 : decode cX9_ends 61 = .ok (.iastore, 1) := by decide +kernel
theorem dX9_ends_62 : decode cX9_ends 62 = .ok (.return_, 1) := by decide +kernel
theorem dX9_swaps_0 : decode cX9_swaps 0 = .ok (.aload_n 0, 1) := by decide +kernel
theorem dX9_swaps_1 : decode cX9_swaps 1 = .ok (.iload_n 1, 1) := by decide +kernel
theorem dX9_swaps_2 : decode cX9_swaps 2 = .ok (.invokevirtual 319, 3) := by decide +kernel
theorem dX9_swaps_5 : decode cX9_swaps 5 = .ok (.istore_n 3, 1) := by decide +kernel
theorem dX9_swaps_6 : decode cX9_swaps 6 = .ok (.aload_n 0, 1) := by decide +kernel
theorem dX9_swaps_7 : decode cX9_swaps 7 = .ok (.iload_n 2, 1) := by decide +kernel
theorem dX9_swaps_8 : decode cX9_swaps 8 = .ok (.invokevirtual 319, 3) := by decide +kernel
theorem dX9_swaps_11 : decode cX9_swaps 11 = .ok (.istore 4, 2) := by decide +kernel
theorem dX9_swaps_13 : decode cX9_swaps 13 = .ok (.aload_n 0, 1) := by decide +kernel
theorem dX9_swaps_14 : decode cX9_swaps 14 = .ok (.getfield 93, 3) := by decide +kernel
theorem dX9_swaps_17 : decode cX9_swaps 17 = .ok (.iconst 4, 1) := by decide +kernel
theorem dX9_swaps_18 : decode cX9_swaps 18 = .ok (.iload_n 3, 1) := by decide +kernel
theorem dX9_swaps_19 : decode cX9_swaps 19 = .ok (.iadd, 1) := by decide +kernel
theorem dX9_swaps_20 : decode cX9_swaps 20 = .ok (.iload_n 2, 1) := by decide +kernel
theorem dX9_swaps_21 : decode cX9_swaps 21 = .ok (.iastore, 1) := by decide +kernel
theorem dX9_swaps_22 : decode cX9_swaps 22 = .ok (.aload_n 0, 1) := by decide +kernel
theorem dX9_swaps_23 : decode cX9_swaps 23 = .ok (.getfield 93, 3) := by decide +kernel
theorem dX9_swaps_26 : decode cX9_swaps 26 = .ok (.iconst 4, 1) := by decide +kernel
theorem dX9_swaps_27 : decode cX9_swaps 27 = .ok (.iload 4, 2) := by decide +kernel
theorem dX9_swaps_29 : decode cX9_swaps 29 = .ok (.iadd, 1) := by decide +kernel
theorem dX9_swaps_30 : decode cX9_swaps 30 = .ok (.iload_n 1, 1) := by decide +kernel
theorem dX9_swaps_31 : decode cX9_swaps 31 = .ok (.iastore, 1) := by decide +kernel
theorem dX9_swaps_32 : decode cX9_swaps 32 = .ok (.return_, 1) := by decide +kernel
theorem dX9_onLine_0 : decode cX9_onLine 0 = .ok (.iconst 0, 1) := by decide +kernel
theorem dX9_onLine_1 : decode cX9_onLine 1 = .ok (.istore_n 1, 1) := by decide +kernel
theorem dX9_onLine_2 : decode cX9_onLine 2 = .ok (.iconst 0, 1) := by decide +kernel
theorem dX9_onLine_3 : decode cX9_onLine 3 = .ok (.istore_n 2, 1) := by decide +kernel
theorem dX9_onLine_4 : decode cX9_onLine 4 = .ok (.iload_n 2, 1) := by decide +kernel
theorem dX9_onLine_5 : decode cX9_onLine 5 = .ok (.aload_n 0, 1) := by decide +kernel
theorem dX9_onLine_6 : decode cX9_onLine 6 = .ok (.getfield 93, 3) := by decide +kernel
theorem dX9_onLine_9 : decode cX9_onLine 9 = .ok (.iconst 1, 1) := by decide +kernel
theorem dX9_onLine_10 : decode cX9_onLine 10 = .ok (.iaload, 1) := by decide +kernel
theorem dX9_onLine_11 : decode cX9_onLine 11 = .ok (.if_icmp .ge 22, 3) := by decide +kernel
theorem dX9_onLine_14 : decode cX9_onLine 14 = .ok (.iload_n 1, 1) := by decide +kernel
theorem dX9_onLine_15 : decode cX9_onLine 15 = .ok (.iconst 1, 1) := by decide +kernel
theorem dX9_onLine_16 : decode cX9_onLine 16 = .ok (.aload_n 0, 1) := by decide +kernel
theorem dX9_onLine_17 : decode cX9_onLine 17 = .ok (.getfield 93, 3) := by decide +kernel
theorem dX9_onLine_20 : decode cX9_onLine 20 = .ok (.iconst 4, 1) := by decide +kernel
theorem dX9_onLine_21 : decode cX9_onLine 21 = .ok (.iload_n 2, 1) := by decide +kernel
theorem dX9_onLine_22 : decode cX9_onLine 22 = .ok (.iadd, 1) := by decide +kernel
theorem dX9_onLine_23 : decode cX9_onLine 23 = .ok (.iaload, 1) := by decide +kernel
theorem dX9_onLine_24 : decode cX9_onLine 24 = .ok (.ishl, 1) := by decide +kernel
theorem dX9_onLine_25 : decode cX9_onLine 25 = .ok (.ior, 1) := by decide +kernel
theorem dX9_onLine_26 : decode cX9_onLine 26 = .ok (.istore_n 1, 1) := by decide +kernel
theorem dX9_onLine_27 : decode cX9_onLine 27 = .ok (.iinc 2 1, 3) := by decide +kernel
theorem dX9_onLine_30 : decode cX9_onLine 30 = .ok (.goto (-26), 3) := by decide +kernel
theorem dX9_onLine_33 : decode cX9_onLine 33 = .ok (.iload_n 1, 1) := by decide +kernel
theorem dX9_onLine_34 : decode cX9_onLine 34 = .ok (.ireturn, 1) := by decide +kernel
theorem dX9_believes_0 : decode cX9_believes 0 = .ok (.aload_n 0, 1) := by decide +kernel
theorem dX9_believes_1 : decode cX9_believes 1 = .ok (.getfield 35, 3) := by decide +kernel
theorem dX9_believes_4 : decode cX9_believes 4 = .ok (.iconst 0, 1) := by decide +kernel
theorem dX9_believes_5 : decode cX9_believes 5 = .ok (.iaload, 1) := by decide +kernel
theorem dX9_believes_6 : decode cX9_believes 6 = .ok (.aload_n 0, 1) := by decide +kernel
theorem dX9_believes_7 : decode cX9_believes 7 = .ok (.getfield 32, 3) := by decide +kernel
theorem dX9_believes_10 : decode cX9_believes 10 = .ok (.iconst 0, 1) := by decide +kernel
theorem dX9_believes_11 : decode cX9_believes 11 = .ok (.iaload, 1) := by decide +kernel
theorem dX9_believes_12 : decode cX9_believes 12 = .ok (.if_icmp .ne 5, 3) := by decide +kernel
theorem dX9_believes_15 : decode cX9_believes 15 = .ok (.iconst 1, 1) := by decide +kernel
theorem dX9_believes_16 : decode cX9_believes 16 = .ok (.ireturn, 1) := by decide +kernel
theorem dX9_believes_17 : decode cX9_believes 17 = .ok (.aload_n 0, 1) := by decide +kernel
theorem dX9_believes_18 : decode cX9_believes 18 = .ok (.getfield 75, 3) := by decide +kernel
theorem dX9_believes_21 : decode cX9_believes 21 = .ok (.iconst 1, 1) := by decide +kernel
theorem dX9_believes_22 : decode cX9_believes 22 = .ok (.aload_n 0, 1) := by decide +kernel
theorem dX9_believes_23 : decode cX9_believes 23 = .ok (.getfield 93, 3) := by decide +kernel
theorem dX9_believes_26 : decode cX9_believes 26 = .ok (.bipush 10, 2) := by decide +kernel
theorem dX9_believes_28 : decode cX9_believes 28 = .ok (.iload_n 1, 1) := by decide +kernel
theorem dX9_believes_29 : decode cX9_believes 29 = .ok (.iadd, 1) := by decide +kernel
theorem dX9_believes_30 : decode cX9_believes 30 = .ok (.iaload, 1) := by decide +kernel
theorem dX9_believes_31 : decode cX9_believes 31 = .ok (.iastore, 1) := by decide +kernel
theorem dX9_believes_32 : decode cX9_believes 32 = .ok (.aload_n 0, 1) := by decide +kernel
theorem dX9_believes_33 : decode cX9_believes 33 = .ok (.getfield 75, 3) := by decide +kernel
theorem dX9_believes_36 : decode cX9_believes 36 = .ok (.iconst 2, 1) := by decide +kernel
theorem dX9_believes_37 : decode cX9_believes 37 = .ok (.aload_n 0, 1) := by decide +kernel
theorem dX9_believes_38 : decode cX9_believes 38 = .ok (.getfield 93, 3) := by decide +kernel
theorem dX9_believes_41 : decode cX9_believes 41 = .ok (.bipush 22, 2) := by decide +kernel
theorem dX9_believes_43 : decode cX9_believes 43 = .ok (.bipush 6, 2) := by decide +kernel
theorem dX9_believes_45 : decode cX9_believes 45 = .ok (.iload_n 1, 1) := by decide +kernel
theorem dX9_believes_46 : decode cX9_believes 46 = .ok (.imul, 1) := by decide +kernel
theorem dX9_believes_47 : decode cX9_believes 47 = .ok (.iadd, 1) := by decide +kernel
theorem dX9_believes_48 : decode cX9_believes 48 = .ok (.iload_n 2, 1) := by decide +kernel
theorem dX9_believes_49 : decode cX9_believes 49 = .ok (.iadd, 1) := by decide +kernel
theorem dX9_believes_50 : decode cX9_believes 50 = .ok (.iaload, 1) := by decide +kernel
theorem dX9_believes_51 : decode cX9_believes 51 = .ok (.iastore, 1) := by decide +kernel
theorem dX9_believes_52 : decode cX9_believes 52 = .ok (.aload_n 0, 1) := by decide +kernel
theorem dX9_believes_53 : decode cX9_believes 53 = .ok (.getfield 75, 3) := by decide +kernel
theorem dX9_believes_56 : decode cX9_believes 56 = .ok (.iconst 3, 1) := by decide +kernel
theorem dX9_believes_57 : decode cX9_believes 57 = .ok (.aload_n 0, 1) := by decide +kernel
theorem dX9_believes_58 : decode cX9_believes 58 = .ok (.getfield 93, 3) := by decide +kernel
theorem dX9_believes_61 : decode cX9_believes 61 = .ok (.bipush 16, 2) := by decide +kernel
theorem dX9_believes_63 : decode cX9_believes 63 = .ok (.iload_n 1, 1) := by decide +kernel
theorem dX9_believes_64 : decode cX9_believes 64 = .ok (.iadd, 1) := by decide +kernel
theorem dX9_believes_65 : decode cX9_believes 65 = .ok (.iaload, 1) := by decide +kernel
theorem dX9_believes_66 : decode cX9_believes 66 = .ok (.invokestatic 322, 3) := by decide +kernel
theorem dX9_believes_69 : decode cX9_believes 69 = .ok (.iastore, 1) := by decide +kernel
theorem dX9_believes_70 : decode cX9_believes 70 = .ok (.aload_n 0, 1) := by decide +kernel
theorem dX9_believes_71 : decode cX9_believes 71 = .ok (.getfield 75, 3) := by decide +kernel
theorem dX9_believes_74 : decode cX9_believes 74 = .ok (.iconst 4, 1) := by decide +kernel
theorem dX9_believes_75 : decode cX9_believes 75 = .ok (.aload_n 0, 1) := by decide +kernel
theorem dX9_believes_76 : decode cX9_believes 76 = .ok (.getfield 93, 3) := by decide +kernel
theorem dX9_believes_79 : decode cX9_believes 79 = .ok (.bipush 16, 2) := by decide +kernel
theorem dX9_believes_81 : decode cX9_believes 81 = .ok (.iload_n 2, 1) := by decide +kernel
theorem dX9_believes_82 : decode cX9_believes 82 = .ok (.iadd, 1) := by decide +kernel
theorem dX9_believes_83 : decode cX9_believes 83 = .ok (.iaload, 1) := by decide +kernel
theorem dX9_believes_84 : decode cX9_believes 84 = .ok (.invokestatic 322, 3) := by decide +kernel
theorem dX9_believes_87 : decode cX9_believes 87 = .ok (.iastore, 1) := by decide +kernel
theorem dX9_believes_88 : decode cX9_believes 88 = .ok (.aload_n 0, 1) := by decide +kernel
theorem dX9_believes_89 : decode cX9_believes 89 = .ok (.iconst 0, 1) := by decide +kernel
theorem dX9_believes_90 : decode cX9_believes 90 = .ok (.invokevirtual 325, 3) := by decide +kernel
theorem dX9_believes_93 : decode cX9_believes 93 = .ok (.ifCond .eq 7, 3) := by decide +kernel
theorem dX9_believes_96 : decode cX9_believes 96 = .ok (.iconst 1, 1) := by decide +kernel
theorem dX9_believes_97 : decode cX9_believes 97 = .ok (.goto 4, 3) := by decide +kernel
theorem dX9_believes_100 : decode cX9_believes 100 = .ok (.iconst 0, 1) := by decide +kernel
theorem dX9_believes_101 : decode cX9_believes 101 = .ok (.ireturn, 1) := by decide +kernel
theorem dX9_tells_0 : decode cX9_tells 0 = .ok (.aload_n 0, 1) := by decide +kernel
theorem dX9_tells_1 : decode cX9_tells 1 = .ok (.getfield 93, 3) := by decide +kernel
theorem dX9_tells_4 : decode cX9_tells 4 = .ok (.bipush 16, 2) := by decide +kernel
theorem dX9_tells_6 : decode cX9_tells 6 = .ok (.iload_n 1, 1) := by decide +kernel
theorem dX9_tells_7 : decode cX9_tells 7 = .ok (.iadd, 1) := by decide +kernel
theorem dX9_tells_8 : decode cX9_tells 8 = .ok (.iaload, 1) := by decide +kernel
theorem dX9_tells_9 : decode cX9_tells 9 = .ok (.istore 4, 2) := by decide +kernel
theorem dX9_tells_11 : decode cX9_tells 11 = .ok (.aload_n 0, 1) := by decide +kernel
theorem dX9_tells_12 : decode cX9_tells 12 = .ok (.getfield 20, 3) := by decide +kernel
theorem dX9_tells_15 : decode cX9_tells 15 = .ok (.iload_n 1, 1) := by decide +kernel
theorem dX9_tells_16 : decode cX9_tells 16 = .ok (.iaload, 1) := by decide +kernel
theorem dX9_tells_17 : decode cX9_tells 17 = .ok (.iconst 1, 1) := by decide +kernel
theorem dX9_tells_18 : decode cX9_tells 18 = .ok (.if_icmp .ne 16, 3) := by decide +kernel
theorem dX9_tells_21 : decode cX9_tells 21 = .ok (.iload 4, 2) := by decide +kernel
theorem dX9_tells_23 : decode cX9_tells 23 = .ok (.iconst 1, 1) := by decide +kernel
theorem dX9_tells_24 : decode cX9_tells 24 = .ok (.aload_n 0, 1) := by decide +kernel
theorem dX9_tells_25 : decode cX9_tells 25 = .ok (.getfield 23, 3) := by decide +kernel
theorem dX9_tells_28 : decode cX9_tells 28 = .ok (.iload_n 2, 1) := by decide +kernel
theorem dX9_tells_29 : decode cX9_tells 29 = .ok (.iaload, 1) := by decide +kernel
theorem dX9_tells_30 : decode cX9_tells 30 = .ok (.ishl, 1) := by decide +kernel
theorem dX9_tells_31 : decode cX9_tells 31 = .ok (.iand, 1) := by decide +kernel
theorem dX9_tells_32 : decode cX9_tells 32 = .ok (.istore 4, 2) := by decide +kernel
theorem dX9_tells_34 : decode cX9_tells 34 = .ok (.aload_n 0, 1) := by decide +kernel
theorem dX9_tells_35 : decode cX9_tells 35 = .ok (.getfield 20, 3) := by decide +kernel
theorem dX9_tells_38 : decode cX9_tells 38 = .ok (.iload_n 1, 1) := by decide +kernel
theorem dX9_tells_39 : decode cX9_tells 39 = .ok (.iaload, 1) := by decide +kernel
theorem dX9_tells_40 : decode cX9_tells 40 = .ok (.iconst 2, 1) := by decide +kernel
theorem dX9_tells_41 : decode cX9_tells 41 = .ok (.if_icmp .ne 21, 3) := by decide +kernel
theorem dX9_tells_44 : decode cX9_tells 44 = .ok (.iload_n 3, 1) := by decide +kernel
theorem dX9_tells_45 : decode cX9_tells 45 = .ok (.ifCond .lt 17, 3) := by decide +kernel
theorem dX9_tells_48 : decode cX9_tells 48 = .ok (.iload 4, 2) := by decide +kernel
theorem dX9_tells_50 : decode cX9_tells 50 = .ok (.aload_n 0, 1) := by decide +kernel
theorem dX9_tells_51 : decode cX9_tells 51 = .ok (.getfield 93, 3) := by decide +kernel
theorem dX9_tells_54 : decode cX9_tells 54 = .ok (.bipush 16, 2) := by decide +kernel
theorem dX9_tells_56 : decode cX9_tells 56 = .ok (.iload_n 3, 1) := by decide +kernel
theorem dX9_tells_57 : decode cX9_tells 57 = .ok (.iadd, 1) := by decide +kernel
theorem dX9_tells_58 : decode cX9_tells 58 = .ok (.iaload, 1) := by decide +kernel
theorem dX9_tells_59 : decode cX9_tells 59 = .ok (.ior, 1) := by decide +kernel
theorem dX9_tells_60 : decode cX9_tells 60 = .ok (.istore 4, 2) := by decide +kernel
theorem dX9_tells_62 : decode cX9_tells 62 = .ok (.aload_n 0, 1) := by decide +kernel
theorem dX9_tells_63 : decode cX9_tells 63 = .ok (.getfield 20, 3) := by decide +kernel
theorem dX9_tells_66 : decode cX9_tells 66 = .ok (.iload_n 2, 1) := by decide +kernel
theorem dX9_tells_67 : decode cX9_tells 67 = .ok (.iaload, 1) := by decide +kernel
theorem dX9_tells_68 : decode cX9_tells 68 = .ok (.iconst 3, 1) := by decide +kernel
theorem dX9_tells_69 : decode cX9_tells 69 = .ok (.if_icmp .eq 26, 3) := by decide +kernel
theorem dX9_tells_72 : decode cX9_tells 72 = .ok (.aload_n 0, 1) := by decide +kernel
theorem dX9_tells_73 : decode cX9_tells 73 = .ok (.iload_n 2, 1) := by decide +kernel
theorem dX9_tells_74 : decode cX9_tells 74 = .ok (.iload_n 1, 1) := by decide +kernel
theorem dX9_tells_75 : decode cX9_tells 75 = .ok (.invokevirtual 328, 3) := by decide +kernel
theorem dX9_tells_78 : decode cX9_tells 78 = .ok (.ifCond .eq 17, 3) := by decide +kernel
theorem dX9_tells_81 : decode cX9_tells 81 = .ok (.aload_n 0, 1) := by decide +kernel
theorem dX9_tells_82 : decode cX9_tells 82 = .ok (.getfield 93, 3) := by decide +kernel
theorem dX9_tells_85 : decode cX9_tells 85 = .ok (.bipush 16, 2) := by decide +kernel
theorem dX9_tells_87 : decode cX9_tells 87 = .ok (.iload_n 2, 1) := by decide +kernel
theorem dX9_tells_88 : decode cX9_tells 88 = .ok (.iadd, 1) := by decide +kernel
theorem dX9_tells_89 : decode cX9_tells 89 = .ok (.dup2, 1) := by decide +kernel
theorem dX9_tells_90 : decode cX9_tells 90 = .ok (.iaload, 1) := by decide +kernel
theorem dX9_tells_91 : decode cX9_tells 91 = .ok (.iload 4, 2) := by decide +kernel
theorem dX9_tells_93 : decode cX9_tells 93 = .ok (.ior, 1) := by decide +kernel
theorem dX9_tells_94 : decode cX9_tells 94 = .ok (.iastore, 1) := by decide +kernel
theorem dX9_tells_95 : decode cX9_tells 95 = .ok (.return_, 1) := by decide +kernel
theorem dX9_talks_0 : decode cX9_talks 0 = .ok (.iconst 0, 1) := by decide +kernel
theorem dX9_talks_1 : decode cX9_talks 1 = .ok (.istore_n 1, 1) := by decide +kernel
theorem dX9_talks_2 : decode cX9_talks 2 = .ok (.iload_n 1, 1) := by decide +kernel
theorem dX9_talks_3 : decode cX9_talks 3 = .ok (.iconst 1, 1) := by decide +kernel
theorem dX9_talks_4 : decode cX9_talks 4 = .ok (.iadd, 1) := by decide +kernel
theorem dX9_talks_5 : decode cX9_talks 5 = .ok (.aload_n 0, 1) := by decide +kernel
theorem dX9_talks_6 : decode cX9_talks 6 = .ok (.getfield 93, 3) := by decide +kernel
theorem dX9_talks_9 : decode cX9_talks 9 = .ok (.iconst 1, 1) := by decide +kernel
theorem dX9_talks_10 : decode cX9_talks 10 = .ok (.iaload, 1) := by decide +kernel
theorem dX9_talks_11 : decode cX9_talks 11 = .ok (.if_icmp .ge 109, 3) := by decide +kernel
theorem dX9_talks_14 : decode cX9_talks 14 = .ok (.aload_n 0, 1) := by decide +kernel
theorem dX9_talks_15 : decode cX9_talks 15 = .ok (.getfield 93, 3) := by decide +kernel
theorem dX9_talks_18 : decode cX9_talks 18 = .ok (.iconst 4, 1) := by decide +kernel
theorem dX9_talks_19 : decode cX9_talks 19 = .ok (.iload_n 1, 1) := by decide +kernel
theorem dX9_talks_20 : decode cX9_talks 20 = .ok (.iadd, 1) := by decide +kernel
theorem dX9_talks_21 : decode cX9_talks 21 = .ok (.iaload, 1) := by decide +kernel
theorem dX9_talks_22 : decode cX9_talks 22 = .ok (.istore_n 2, 1) := by decide +kernel
theorem dX9_talks_23 : decode cX9_talks 23 = .ok (.aload_n 0, 1) := by decide +kernel
theorem dX9_talks_24 : decode cX9_talks 24 = .ok (.getfield 93, 3) := by decide +kernel
theorem dX9_talks_27 : decode cX9_talks 27 = .ok (.iconst 4, 1) := by decide +kernel
theorem dX9_talks_28 : decode cX9_talks 28 = .ok (.iload_n 1, 1) := by decide +kernel
theorem dX9_talks_29 : decode cX9_talks 29 = .ok (.iadd, 1) := by decide +kernel
theorem dX9_talks_30 : decode cX9_talks 30 = .ok (.iconst 1, 1) := by decide +kernel
theorem dX9_talks_31 : decode cX9_talks 31 = .ok (.iadd, 1) := by decide +kernel
theorem dX9_talks_32 : decode cX9_talks 32 = .ok (.iaload, 1) := by decide +kernel
theorem dX9_talks_33 : decode cX9_talks 33 = .ok (.istore_n 3, 1) := by decide +kernel
theorem dX9_talks_34 : decode cX9_talks 34 = .ok (.iload_n 1, 1) := by decide +kernel
theorem dX9_talks_35 : decode cX9_talks 35 = .ok (.iconst 2, 1) := by decide +kernel
theorem dX9_talks_36 : decode cX9_talks 36 = .ok (.iadd, 1) := by decide +kernel
theorem dX9_talks_37 : decode cX9_talks 37 = .ok (.aload_n 0, 1) := by decide +kernel
theorem dX9_talks_38 : decode cX9_talks 38 = .ok (.getfield 93, 3) := by decide +kernel
theorem dX9_talks_41 : decode cX9_talks 41 = .ok (.iconst 1, 1) := by decide +kernel
theorem dX9_talks_42 : decode cX9_talks 42 = .ok (.iaload, 1) := by decide +kernel
theorem dX9_talks_43 : decode cX9_talks 43 = .ok (.if_icmp .ge 16, 3) := by decide +kernel
theorem dX9_talks_46 : decode cX9_talks 46 = .ok (.aload_n 0, 1) := by decide +kernel
theorem dX9_talks_47 : decode cX9_talks 47 = .ok (.getfield 93, 3) := by decide +kernel
theorem dX9_talks_50 : decode cX9_talks 50 = .ok (.iconst 4, 1) := by decide +kernel
theorem dX9_talks_51 : decode cX9_talks 51 = .ok (.iload_n 1, 1) := by decide +kernel
theorem dX9_talks_52 : decode cX9_talks 52 = .ok (.iadd, 1) := by decide +kernel
theorem dX9_talks_53 : decode cX9_talks 53 = .ok (.iconst 2, 1) := by decide +kernel
theorem dX9_talks_54 : decode cX9_talks 54 = .ok (.iadd, 1) := by decide +kernel
theorem dX9_talks_55 : decode cX9_talks 55 = .ok (.iaload, 1) := by decide +kernel
theorem dX9_talks_56 : decode cX9_talks 56 = .ok (.goto 4, 3) := by decide +kernel
theorem dX9_talks_59 : decode cX9_talks 59 = .ok (.iconst (-1), 1) := by decide +kernel
theorem dX9_talks_60 : decode cX9_talks 60 = .ok (.istore 4, 2) := by decide +kernel
theorem dX9_talks_62 : decode cX9_talks 62 = .ok (.aload_n 0, 1) := by decide +kernel
theorem dX9_talks_63 : decode cX9_talks 63 = .ok (.getfield 93, 3) := by decide +kernel
theorem dX9_talks_66 : decode cX9_talks 66 = .ok (.bipush 22, 2) := by decide +kernel
theorem dX9_talks_68 : decode cX9_talks 68 = .ok (.bipush 6, 2) := by decide +kernel
theorem dX9_talks_70 : decode cX9_talks 70 = .ok (.iload_n 2, 1) := by decide +kernel
theorem dX9_talks_71 : decode cX9_talks 71 = .ok (.imul, 1) := by decide +kernel
theorem dX9_talks_72 : decode cX9_talks 72 = .ok (.iadd, 1) := by decide +kernel
theorem dX9_talks_73 : decode cX9_talks 73 = .ok (.iload_n 3, 1) := by decide +kernel
theorem dX9_talks_74 : decode cX9_talks 74 = .ok (.iadd, 1) := by decide +kernel
theorem dX9_talks_75 : decode cX9_talks 75 = .ok (.dup2, 1) := by decide +kernel
theorem dX9_talks_76 : decode cX9_talks 76 = .ok (.iaload, 1) := by decide +kernel
theorem dX9_talks_77 : decode cX9_talks 77 = .ok (.iconst 1, 1) := by decide +kernel
theorem dX9_talks_78 : decode cX9_talks 78 = .ok (.iadd, 1) := by decide +kernel
theorem dX9_talks_79 : decode cX9_talks 79 = .ok (.iastore, 1) := by decide +kernel
theorem dX9_talks_80 : decode cX9_talks 80 = .ok (.aload_n 0, 1) := by decide +kernel
theorem dX9_talks_81 : decode cX9_talks 81 = .ok (.getfield 93, 3) := by decide +kernel
theorem dX9_talks_84 : decode cX9_talks 84 = .ok (.bipush 22, 2) := by decide +kernel
theorem dX9_talks_86 : decode cX9_talks 86 = .ok (.bipush 6, 2) := by decide +kernel
theorem dX9_talks_88 : decode cX9_talks 88 = .ok (.iload_n 3, 1) := by decide +kernel
theorem dX9_talks_89 : decode cX9_talks 89 = .ok (.imul, 1) := by decide +kernel
theorem dX9_talks_90 : decode cX9_talks 90 = .ok (.iadd, 1) := by decide +kernel
theorem dX9_talks_91 : decode cX9_talks 91 = .ok (.iload_n 2, 1) := by decide +kernel
theorem dX9_talks_92 : decode cX9_talks 92 = .ok (.iadd, 1) := by decide +kernel
theorem dX9_talks_93 : decode cX9_talks 93 = .ok (.dup2, 1) := by decide +kernel
theorem dX9_talks_94 : decode cX9_talks 94 = .ok (.iaload, 1) := by decide +kernel
theorem dX9_talks_95 : decode cX9_talks 95 = .ok (.iconst 1, 1) := by decide +kernel
theorem dX9_talks_96 : decode cX9_talks 96 = .ok (.iadd, 1) := by decide +kernel
theorem dX9_talks_97 : decode cX9_talks 97 = .ok (.iastore, 1) := by decide +kernel
theorem dX9_talks_98 : decode cX9_talks 98 = .ok (.aload_n 0, 1) := by decide +kernel
theorem dX9_talks_99 : decode cX9_talks 99 = .ok (.iload_n 2, 1) := by decide +kernel
theorem dX9_talks_100 : decode cX9_talks 100 = .ok (.iload_n 3, 1) := by decide +kernel
theorem dX9_talks_101 : decode cX9_talks 101 = .ok (.iload 4, 2) := by decide +kernel
theorem dX9_talks_103 : decode cX9_talks 103 = .ok (.invokevirtual 331, 3) := by decide +kernel
theorem dX9_talks_106 : decode cX9_talks 106 = .ok (.aload_n 0, 1) := by decide +kernel
theorem dX9_talks_107 : decode cX9_talks 107 = .ok (.iload_n 3, 1) := by decide +kernel
theorem dX9_talks_108 : decode cX9_talks 108 = .ok (.iload_n 2, 1) := by decide +kernel
theorem dX9_talks_109 : decode cX9_talks 109 = .ok (.iload 4, 2) := by decide +kernel
theorem dX9_talks_111 : decode cX9_talks 111 = .ok (.invokevirtual 331, 3) := by decide +kernel
theorem dX9_talks_114 : decode cX9_talks 114 = .ok (.iinc 1 2, 3) := by decide +kernel
theorem dX9_talks_117 : decode cX9_talks 117 = .ok (.goto (-115), 3) := by decide +kernel
theorem dX9_talks_120 : decode cX9_talks 120 = .ok (.return_, 1) := by decide +kernel
theorem dX9_isHelped_0 : decode cX9_isHelped 0 = .ok (.aload_n 0, 1) := by decide +kernel
theorem dX9_isHelped_1 : decode cX9_isHelped 1 = .ok (.getfield 93, 3) := by decide +kernel
theorem dX9_isHelped_4 : decode cX9_isHelped 4 = .ok (.bipush 16, 2) := by decide +kernel
theorem dX9_isHelped_6 : decode cX9_isHelped 6 = .ok (.iload_n 1, 1) := by decide +kernel
theorem dX9_isHelped_7 : decode cX9_isHelped 7 = .ok (.iadd, 1) := by decide +kernel
theorem dX9_isHelped_8 : decode cX9_isHelped 8 = .ok (.iaload, 1) := by decide +kernel
theorem dX9_isHelped_9 : decode cX9_isHelped 9 = .ok (.aload_n 0, 1) := by decide +kernel
theorem dX9_isHelped_10 : decode cX9_isHelped 10 = .ok (.getfield 23, 3) := by decide +kernel
theorem dX9_isHelped_13 : decode cX9_isHelped 13 = .ok (.iload_n 1, 1) := by decide +kernel
theorem dX9_isHelped_14 : decode cX9_isHelped 14 = .ok (.iaload, 1) := by decide +kernel
theorem dX9_isHelped_15 : decode cX9_isHelped 15 = .ok (.ishr, 1) := by decide +kernel
theorem dX9_isHelped_16 : decode cX9_isHelped 16 = .ok (.iconst 1, 1) := by decide +kernel
theorem dX9_isHelped_17 : decode cX9_isHelped 17 = .ok (.iand, 1) := by decide +kernel
theorem dX9_isHelped_18 : decode cX9_isHelped 18 = .ok (.iconst 1, 1) := by decide +kernel
theorem dX9_isHelped_19 : decode cX9_isHelped 19 = .ok (.if_icmp .ne 7, 3) := by decide +kernel
theorem dX9_isHelped_22 : decode cX9_isHelped 22 = .ok (.iconst 1, 1) := by decide +kernel
theorem dX9_isHelped_23 : decode cX9_isHelped 23 = .ok (.goto 4, 3) := by decide +kernel
theorem dX9_isHelped_26 : decode cX9_isHelped 26 = .ok (.iconst 0, 1) := by decide +kernel
theorem dX9_isHelped_27 : decode cX9_isHelped 27 = .ok (.ireturn, 1) := by decide +kernel
theorem dX9_settles_0 : decode cX9_settles 0 = .ok (.aload_n 0, 1) := by decide +kernel
theorem dX9_settles_1 : decode cX9_settles 1 = .ok (.getfield 93, 3) := by decide +kernel
theorem dX9_settles_4 : decode cX9_settles 4 = .ok (.iconst 2, 1) := by decide +kernel
theorem dX9_settles_5 : decode cX9_settles 5 = .ok (.dup2, 1) := by decide +kernel
theorem dX9_settles_6 : decode cX9_settles 6 = .ok (.iaload, 1) := by decide +kernel
theorem dX9_settles_7 : decode cX9_settles 7 = .ok (.iconst 1, 1) := by decide +kernel
theorem dX9_settles_8 : decode cX9_settles 8 = .ok (.iload_n 1, 1) := by decide +kernel
theorem dX9_settles_9 : decode cX9_settles 9 = .ok (.ishl, 1) := by decide +kernel
theorem dX9_settles_10 : decode cX9_settles 10 = .ok (.ior, 1) := by decide +kernel
theorem dX9_settles_11 : decode cX9_settles 11 = .ok (.iastore, 1) := by decide +kernel
theorem dX9_settles_12 : decode cX9_settles 12 = .ok (.aload_n 0, 1) := by decide +kernel
theorem dX9_settles_13 : decode cX9_settles 13 = .ok (.iload_n 1, 1) := by decide +kernel
theorem dX9_settles_14 : decode cX9_settles 14 = .ok (.invokevirtual 335, 3) := by decide +kernel
theorem dX9_settles_17 : decode cX9_settles 17 = .ok (.return_, 1) := by decide +kernel
theorem dX9_passes_0 : decode cX9_passes 0 = .ok (.aload_n 0, 1) := by decide +kernel
theorem dX9_passes_1 : decode cX9_passes 1 = .ok (.getfield 93, 3) := by decide +kernel
theorem dX9_passes_4 : decode cX9_passes 4 = .ok (.iconst 2, 1) := by decide +kernel
theorem dX9_passes_5 : decode cX9_passes 5 = .ok (.iaload, 1) := by decide +kernel
theorem dX9_passes_6 : decode cX9_passes 6 = .ok (.istore_n 1, 1) := by decide +kernel
theorem dX9_passes_7 : decode cX9_passes 7 = .ok (.aload_n 0, 1) := by decide +kernel
theorem dX9_passes_8 : decode cX9_passes 8 = .ok (.invokevirtual 338, 3) := by decide +kernel
theorem dX9_passes_11 : decode cX9_passes 11 = .ok (.iconst 0, 1) := by decide +kernel
theorem dX9_passes_12 : decode cX9_passes 12 = .ok (.istore_n 2, 1) := by decide +kernel
theorem dX9_passes_13 : decode cX9_passes 13 = .ok (.iload_n 2, 1) := by decide +kernel
theorem dX9_passes_14 : decode cX9_passes 14 = .ok (.aload_n 0, 1) := by decide +kernel
theorem dX9_passes_15 : decode cX9_passes 15 = .ok (.getfield 13, 3) := by decide +kernel
theorem dX9_passes_18 : decode cX9_passes 18 = .ok (.iconst 0, 1) := by decide +kernel
theorem dX9_passes_19 : decode cX9_passes 19 = .ok (.iaload, 1) := by decide +kernel
theorem dX9_passes_20 : decode cX9_passes 20 = .ok (.if_icmp .ge 30, 3) := by decide +kernel
theorem dX9_passes_23 : decode cX9_passes 23 = .ok (.aload_n 0, 1) := by decide +kernel
theorem dX9_passes_24 : decode cX9_passes 24 = .ok (.iload_n 2, 1) := by decide +kernel
theorem dX9_passes_25 : decode cX9_passes 25 = .ok (.invokevirtual 319, 3) := by decide +kernel
theorem dX9_passes_28 : decode cX9_passes 28 = .ok (.ifCond .lt 16, 3) := by decide +kernel
theorem dX9_passes_31 : decode cX9_passes 31 = .ok (.aload_n 0, 1) := by decide +kernel
theorem dX9_passes_32 : decode cX9_passes 32 = .ok (.iload_n 2, 1) := by decide +kernel
theorem dX9_passes_33 : decode cX9_passes 33 = .ok (.invokevirtual 341, 3) := by decide +kernel
theorem dX9_passes_36 : decode cX9_passes 36 = .ok (.ifCond .eq 8, 3) := by decide +kernel
theorem dX9_passes_39 : decode cX9_passes 39 = .ok (.aload_n 0, 1) := by decide +kernel
theorem dX9_passes_40 : decode cX9_passes 40 = .ok (.iload_n 2, 1) := by decide +kernel
theorem dX9_passes_41 : decode cX9_passes 41 = .ok (.invokevirtual 344, 3) := by decide +kernel
theorem dX9_passes_44 : decode cX9_passes 44 = .ok (.iinc 2 1, 3) := by decide +kernel
theorem dX9_passes_47 : decode cX9_passes 47 = .ok (.goto (-34), 3) := by decide +kernel
theorem dX9_passes_50 : decode cX9_passes 50 = .ok (.iconst 0, 1) := by decide +kernel
theorem dX9_passes_51 : decode cX9_passes 51 = .ok (.istore_n 2, 1) := by decide +kernel
theorem dX9_passes_52 : decode cX9_passes 52 = .ok (.iload_n 2, 1) := by decide +kernel
theorem dX9_passes_53 : decode cX9_passes 53 = .ok (.aload_n 0, 1) := by decide +kernel
theorem dX9_passes_54 : decode cX9_passes 54 = .ok (.getfield 13, 3) := by decide +kernel
theorem dX9_passes_57 : decode cX9_passes 57 = .ok (.iconst 0, 1) := by decide +kernel
theorem dX9_passes_58 : decode cX9_passes 58 = .ok (.iaload, 1) := by decide +kernel
theorem dX9_passes_59 : decode cX9_passes 59 = .ok (.if_icmp .ge 56, 3) := by decide +kernel
theorem dX9_passes_62 : decode cX9_passes 62 = .ok (.aload_n 0, 1) := by decide +kernel
theorem dX9_passes_63 : decode cX9_passes 63 = .ok (.iload_n 2, 1) := by decide +kernel
theorem dX9_passes_64 : decode cX9_passes 64 = .ok (.invokevirtual 319, 3) := by decide +kernel
theorem dX9_passes_67 : decode cX9_passes 67 = .ok (.ifCond .ge 6, 3) := by decide +kernel
theorem dX9_passes_70 : decode cX9_passes 70 = .ok (.goto 39, 3) := by decide +kernel
theorem dX9_passes_73 : decode cX9_passes 73 = .ok (.aload_n 0, 1) := by decide +kernel
theorem dX9_passes_74 : decode cX9_passes 74 = .ok (.getfield 93, 3) := by decide +kernel
theorem dX9_passes_77 : decode cX9_passes 77 = .ok (.bipush 10, 2) := by decide +kernel
theorem dX9_passes_79 : decode cX9_passes 79 = .ok (.iload_n 2, 1) := by decide +kernel
theorem dX9_passes_80 : decode cX9_passes 80 = .ok (.iadd, 1) := by decide +kernel
theorem dX9_passes_81 : decode cX9_passes 81 = .ok (.dup2, 1) := by decide +kernel
theorem dX9_passes_82 : decode cX9_passes 82 = .ok (.iaload, 1) := by decide +kernel
theorem dX9_passes_83 : decode cX9_passes 83 = .ok (.iconst 1, 1) := by decide +kernel
theorem dX9_passes_84 : decode cX9_passes 84 = .ok (.iadd, 1) := by decide +kernel
theorem dX9_passes_85 : decode cX9_passes 85 = .ok (.iastore, 1) := by decide +kernel
theorem dX9_passes_86 : decode cX9_passes 86 = .ok (.aload_n 0, 1) := by decide +kernel
theorem dX9_passes_87 : decode cX9_passes 87 = .ok (.getfield 93, 3) := by decide +kernel
theorem dX9_passes_90 : decode cX9_passes 90 = .ok (.bipush 10, 2) := by decide +kernel
theorem dX9_passes_92 : decode cX9_passes 92 = .ok (.iload_n 2, 1) := by decide +kernel
theorem dX9_passes_93 : decode cX9_passes 93 = .ok (.iadd, 1) := by decide +kernel
theorem dX9_passes_94 : decode cX9_passes 94 = .ok (.iaload, 1) := by decide +kernel
theorem dX9_passes_95 : decode cX9_passes 95 = .ok (.aload_n 0, 1) := by decide +kernel
theorem dX9_passes_96 : decode cX9_passes 96 = .ok (.getfield 29, 3) := by decide +kernel
theorem dX9_passes_99 : decode cX9_passes 99 = .ok (.iload_n 2, 1) := by decide +kernel
theorem dX9_passes_100 : decode cX9_passes 100 = .ok (.iaload, 1) := by decide +kernel
theorem dX9_passes_101 : decode cX9_passes 101 = .ok (.if_icmp .ne 8, 3) := by decide +kernel
theorem dX9_passes_104 : decode cX9_passes 104 = .ok (.aload_n 0, 1) := by decide +kernel
theorem dX9_passes_105 : decode cX9_passes 105 = .ok (.iload_n 2, 1) := by decide +kernel
theorem dX9_passes_106 : decode cX9_passes 106 = .ok (.invokevirtual 335, 3) := by decide +kernel
theorem dX9_passes_109 : decode cX9_passes 109 = .ok (.iinc 2 1, 3) := by decide +kernel
theorem dX9_passes_112 : decode cX9_passes 112 = .ok (.goto (-60), 3) := by decide +kernel
theorem dX9_passes_115 : decode cX9_passes 115 = .ok (.aload_n 0, 1) := by decide +kernel
theorem dX9_passes_116 : decode cX9_passes 116 = .ok (.getfield 93, 3) := by decide +kernel
theorem dX9_passes_119 : decode cX9_passes 119 = .ok (.iconst 0, 1) := by decide +kernel
theorem dX9_passes_120 : decode cX9_passes 120 = .ok (.dup2, 1) := by decide +kernel
theorem dX9_passes_121 : decode cX9_passes 121 = .ok (.iaload, 1) := by decide +kernel
theorem dX9_passes_122 : decode cX9_passes 122 = .ok (.iconst 1, 1) := by decide +kernel
theorem dX9_passes_123 : decode cX9_passes 123 = .ok (.iadd, 1) := by decide +kernel
theorem dX9_passes_124 : decode cX9_passes 124 = .ok (.iastore, 1) := by decide +kernel
theorem dX9_passes_125 : decode cX9_passes 125 = .ok (.aload_n 0, 1) := by decide +kernel
theorem dX9_passes_126 : decode cX9_passes 126 = .ok (.getfield 93, 3) := by decide +kernel
theorem dX9_passes_129 : decode cX9_passes 129 = .ok (.iconst 0, 1) := by decide +kernel
theorem dX9_passes_130 : decode cX9_passes 130 = .ok (.iaload, 1) := by decide +kernel
theorem dX9_passes_131 : decode cX9_passes 131 = .ok (.aload_n 0, 1) := by decide +kernel
theorem dX9_passes_132 : decode cX9_passes 132 = .ok (.getfield 123, 3) := by decide +kernel
theorem dX9_passes_135 : decode cX9_passes 135 = .ok (.irem, 1) := by decide +kernel
theorem dX9_passes_136 : decode cX9_passes 136 = .ok (.ifCond .ne 56, 3) := by decide +kernel
theorem dX9_passes_139 : decode cX9_passes 139 = .ok (.aload_n 0, 1) := by decide +kernel
theorem dX9_passes_140 : decode cX9_passes 140 = .ok (.getfield 93, 3) := by decide +kernel
theorem dX9_passes_143 : decode cX9_passes 143 = .ok (.iconst 1, 1) := by decide +kernel
theorem dX9_passes_144 : decode cX9_passes 144 = .ok (.iaload, 1) := by decide +kernel
theorem dX9_passes_145 : decode cX9_passes 145 = .ok (.ifCond .le 47, 3) := by decide +kernel
theorem dX9_passes_148 : decode cX9_passes 148 = .ok (.aload_n 0, 1) := by decide +kernel
theorem dX9_passes_149 : decode cX9_passes 149 = .ok (.getfield 93, 3) := by decide +kernel
theorem dX9_passes_152 : decode cX9_passes 152 = .ok (.iconst 4, 1) := by decide +kernel
theorem dX9_passes_153 : decode cX9_passes 153 = .ok (.iaload, 1) := by decide +kernel
theorem dX9_passes_154 : decode cX9_passes 154 = .ok (.istore_n 2, 1) := by decide +kernel
theorem dX9_passes_155 : decode cX9_passes 155 = .ok (.aload_n 0, 1) := by decide +kernel
theorem dX9_passes_156 : decode cX9_passes 156 = .ok (.getfield 93, 3) := by decide +kernel
theorem dX9_passes_159 : decode cX9_passes 159 = .ok (.bipush 16, 2) := by decide +kernel
theorem dX9_passes_161 : decode cX9_passes 161 = .ok (.iload_n 2, 1) := by decide +kernel
theorem dX9_passes_162 : decode cX9_passes 162 = .ok (.iadd, 1) := by decide +kernel
theorem dX9_passes_163 : decode cX9_passes 163 = .ok (.dup2, 1) := by decide +kernel
theorem dX9_passes_164 : decode cX9_passes 164 = .ok (.iaload, 1) := by decide +kernel
theorem dX9_passes_165 : decode cX9_passes 165 = .ok (.iconst 1, 1) := by decide +kernel
theorem dX9_passes_166 : decode cX9_passes 166 = .ok (.aload_n 0, 1) := by decide +kernel
theorem dX9_passes_167 : decode cX9_passes 167 = .ok (.getfield 23, 3) := by decide +kernel
theorem dX9_passes_170 : decode cX9_passes 170 = .ok (.iload_n 2, 1) := by decide +kernel
theorem dX9_passes_171 : decode cX9_passes 171 = .ok (.iaload, 1) := by decide +kernel
theorem dX9_passes_172 : decode cX9_passes 172 = .ok (.ishl, 1) := by decide +kernel
theorem dX9_passes_173 : decode cX9_passes 173 = .ok (.ior, 1) := by decide +kernel
theorem dX9_passes_174 : decode cX9_passes 174 = .ok (.iastore, 1) := by decide +kernel
theorem dX9_passes_175 : decode cX9_passes 175 = .ok (.aload_n 0, 1) := by decide +kernel
theorem dX9_passes_176 : decode cX9_passes 176 = .ok (.getfield 93, 3) := by decide +kernel
theorem dX9_passes_179 : decode cX9_passes 179 = .ok (.iconst 3, 1) := by decide +kernel
theorem dX9_passes_180 : decode cX9_passes 180 = .ok (.dup2, 1) := by decide +kernel
theorem dX9_passes_181 : decode cX9_passes 181 = .ok (.iaload, 1) := by decide +kernel
theorem dX9_passes_182 : decode cX9_passes 182 = .ok (.iconst 1, 1) := by decide +kernel
theorem dX9_passes_183 : decode cX9_passes 183 = .ok (.iload_n 2, 1) := by decide +kernel
theorem dX9_passes_184 : decode cX9_passes 184 = .ok (.ishl, 1) := by decide +kernel
theorem dX9_passes_185 : decode cX9_passes 185 = .ok (.ior, 1) := by decide +kernel
theorem dX9_passes_186 : decode cX9_passes 186 = .ok (.iastore, 1) := by decide +kernel
theorem dX9_passes_187 : decode cX9_passes 187 = .ok (.aload_n 0, 1) := by decide +kernel
theorem dX9_passes_188 : decode cX9_passes 188 = .ok (.iload_n 2, 1) := by decide +kernel
theorem dX9_passes_189 : decode cX9_passes 189 = .ok (.invokevirtual 344, 3) := by decide +kernel
theorem dX9_passes_192 : decode cX9_passes 192 = .ok (.aload_n 0, 1) := by decide +kernel
theorem dX9_passes_193 : decode cX9_passes 193 = .ok (.getfield 93, 3) := by decide +kernel
theorem dX9_passes_196 : decode cX9_passes 196 = .ok (.iconst 2, 1) := by decide +kernel
theorem dX9_passes_197 : decode cX9_passes 197 = .ok (.iaload, 1) := by decide +kernel
theorem dX9_passes_198 : decode cX9_passes 198 = .ok (.iload_n 1, 1) := by decide +kernel
theorem dX9_passes_199 : decode cX9_passes 199 = .ok (.iconst (-1), 1) := by decide +kernel
theorem dX9_passes_200 : decode cX9_passes 200 = .ok (.ixor, 1) := by decide +kernel
theorem dX9_passes_201 : decode cX9_passes 201 = .ok (.iand, 1) := by decide +kernel
theorem dX9_passes_202 : decode cX9_passes 202 = .ok (.ireturn, 1) := by decide +kernel
theorem dX9_allAnswers_0 : decode cX9_allAnswers 0 = .ok (.iconst 0, 1) := by decide +kernel
theorem dX9_allAnswers_1 : decode cX9_allAnswers 1 = .ok (.istore_n 1, 1) := by decide +kernel
theorem dX9_allAnswers_2 : decode cX9_allAnswers 2 = .ok (.iconst 0, 1) := by decide +kernel
theorem dX9_allAnswers_3 : decode cX9_allAnswers 3 = .ok (.istore_n 2, 1) := by decide +kernel
theorem dX9_allAnswers_4 : decode cX9_allAnswers 4 = .ok (.iload_n 2, 1) := by decide +kernel
theorem dX9_allAnswers_5 : decode cX9_allAnswers 5 = .ok (.aload_n 0, 1) := by decide +kernel
theorem dX9_allAnswers_6 : decode cX9_allAnswers 6 = .ok (.getfield 13, 3) := by decide +kernel
theorem dX9_allAnswers_9 : decode cX9_allAnswers 9 = .ok (.iconst 0, 1) := by decide +kernel
theorem dX9_allAnswers_10 : decode cX9_allAnswers 10 = .ok (.iaload, 1) := by decide +kernel
theorem dX9_allAnswers_11 : decode cX9_allAnswers 11 = .ok (.if_icmp .ge 24, 3) := by decide +kernel
theorem dX9_allAnswers_14 : decode cX9_allAnswers 14 = .ok (.iload_n 1, 1) := by decide +kernel
theorem dX9_allAnswers_15 : decode cX9_allAnswers 15 = .ok (.aload_n 0, 1) := by decide +kernel
theorem dX9_allAnswers_16 : decode cX9_allAnswers 16 = .ok (.getfield 93, 3) := by decide +kernel
theorem dX9_allAnswers_19 : decode cX9_allAnswers 19 = .ok (.bipush 16, 2) := by decide +kernel
theorem dX9_allAnswers_21 : decode cX9_allAnswers 21 = .ok (.iload_n 2, 1) := by decide +kernel
theorem dX9_allAnswers_22 : decode cX9_allAnswers 22 = .ok (.iadd, 1) := by decide +kernel
theorem dX9_allAnswers_23 : decode cX9_allAnswers 23 = .ok (.iaload, 1) := by decide +kernel
theorem dX9_allAnswers_24 : decode cX9_allAnswers 24 = .ok (.invokestatic 322, 3) := by decide +kernel
theorem dX9_allAnswers_27 : decode cX9_allAnswers 27 = .ok (.iadd, 1) := by decide +kernel
theorem dX9_allAnswers_28 : decode cX9_allAnswers 28 = .ok (.istore_n 1, 1) := by decide +kernel
theorem dX9_allAnswers_29 : decode cX9_allAnswers 29 = .ok (.iinc 2 1, 3) := by decide +kernel
theorem dX9_allAnswers_32 : decode cX9_allAnswers 32 = .ok (.goto (-28), 3) := by decide +kernel
theorem dX9_allAnswers_35 : decode cX9_allAnswers 35 = .ok (.iload_n 1, 1) := by decide +kernel
theorem dX9_allAnswers_36 : decode cX9_allAnswers 36 = .ok (.ireturn, 1) := by decide +kernel
theorem dX9_caller_0 : decode cX9_caller 0 = .ok (.aload_n 0, 1) := by decide +kernel
theorem dX9_caller_1 : decode cX9_caller 1 = .ok (.iconst 0, 1) := by decide +kernel
theorem dX9_caller_2 : decode cX9_caller 2 = .ok (.putfield 130, 3) := by decide +kernel
theorem dX9_caller_5 : decode cX9_caller 5 = .ok (.aload_n 0, 1) := by decide +kernel
theorem dX9_caller_6 : decode cX9_caller 6 = .ok (.iload_n 1, 1) := by decide +kernel
theorem dX9_caller_7 : decode cX9_caller 7 = .ok (.invokevirtual 347, 3) := by decide +kernel
theorem dX9_caller_10 : decode cX9_caller 10 = .ok (.ifCond .eq 13, 3) := by decide +kernel
theorem dX9_caller_13 : decode cX9_caller 13 = .ok (.iload_n 2, 1) := by decide +kernel
theorem dX9_caller_14 : decode cX9_caller 14 = .ok (.iconst 0, 1) := by decide +kernel
theorem dX9_caller_15 : decode cX9_caller 15 = .ok (.bipush 6, 2) := by decide +kernel
theorem dX9_caller_17 : decode cX9_caller 17 = .ok (.invokestatic 244, 3) := by decide +kernel
theorem dX9_caller_20 : decode cX9_caller 20 = .ok (.ifCond .ne 6, 3) := by decide +kernel
theorem dX9_caller_23 : decode cX9_caller 23 = .ok (.bipush (-2), 2) := by decide +kernel
theorem dX9_caller_25 : decode cX9_caller 25 = .ok (.ireturn, 1) := by decide +kernel
theorem dX9_caller_26 : decode cX9_caller 26 = .ok (.iload_n 2, 1) := by decide +kernel
theorem dX9_caller_27 : decode cX9_caller 27 = .ok (.iconst 3, 1) := by decide +kernel
theorem dX9_caller_28 : decode cX9_caller 28 = .ok (.if_icmp .ge 37, 3) := by decide +kernel
theorem dX9_caller_31 : decode cX9_caller 31 = .ok (.iload_n 2, 1) := by decide +kernel
theorem dX9_caller_32 : decode cX9_caller 32 = .ok (.ifCond .ne 12, 3) := by decide +kernel
theorem dX9_caller_35 : decode cX9_caller 35 = .ok (.aload_n 0, 1) := by decide +kernel
theorem dX9_caller_36 : decode cX9_caller 36 = .ok (.getfield 20, 3) := by decide +kernel
theorem dX9_caller_39 : decode cX9_caller 39 = .ok (.iload_n 1, 1) := by decide +kernel
theorem dX9_caller_40 : decode cX9_caller 40 = .ok (.iaload, 1) := by decide +kernel
theorem dX9_caller_41 : decode cX9_caller 41 = .ok (.goto 23, 3) := by decide +kernel
theorem dX9_caller_44 : decode cX9_caller 44 = .ok (.iload_n 2, 1) := by decide +kernel
theorem dX9_caller_45 : decode cX9_caller 45 = .ok (.iconst 1, 1) := by decide +kernel
theorem dX9_caller_46 : decode cX9_caller 46 = .ok (.if_icmp .ne 12, 3) := by decide +kernel
theorem dX9_caller_49 : decode cX9_caller 49 = .ok (.aload_n 0, 1) := by decide +kernel
theorem dX9_caller_50 : decode cX9_caller 50 = .ok (.getfield 23, 3) := by decide +kernel
theorem dX9_caller_53 : decode cX9_caller 53 = .ok (.iload_n 1, 1) := by decide +kernel
theorem dX9_caller_54 : decode cX9_caller 54 = .ok (.iaload, 1) := by decide +kernel
theorem dX9_caller_55 : decode cX9_caller 55 = .ok (.goto 9, 3) := by decide +kernel
theorem dX9_caller_58 : decode cX9_caller 58 = .ok (.aload_n 0, 1) := by decide +kernel
theorem dX9_caller_59 : decode cX9_caller 59 = .ok (.getfield 29, 3) := by decide +kernel
theorem dX9_caller_62 : decode cX9_caller 62 = .ok (.iload_n 1, 1) := by decide +kernel
theorem dX9_caller_63 : decode cX9_caller 63 = .ok (.iaload, 1) := by decide +kernel
theorem dX9_caller_64 : decode cX9_caller 64 = .ok (.ireturn, 1) := by decide +kernel
theorem dX9_caller_65 : decode cX9_caller 65 = .ok (.iload_n 2, 1) := by decide +kernel
theorem dX9_caller_66 : decode cX9_caller 66 = .ok (.iconst 5, 1) := by decide +kernel
theorem dX9_caller_67 : decode cX9_caller 67 = .ok (.if_icmp .ge 34, 3) := by decide +kernel
theorem dX9_caller_70 : decode cX9_caller 70 = .ok (.iload_n 2, 1) := by decide +kernel
theorem dX9_caller_71 : decode cX9_caller 71 = .ok (.iconst 3, 1) := by decide +kernel
theorem dX9_caller_72 : decode cX9_caller 72 = .ok (.if_icmp .ne 15, 3) := by decide +kernel
theorem dX9_caller_75 : decode cX9_caller 75 = .ok (.aload_n 0, 1) := by decide +kernel
theorem dX9_caller_76 : decode cX9_caller 76 = .ok (.getfield 93, 3) := by decide +kernel
theorem dX9_caller_79 : decode cX9_caller 79 = .ok (.bipush 16, 2) := by decide +kernel
theorem dX9_caller_81 : decode cX9_caller 81 = .ok (.iload_n 1, 1) := by decide +kernel
theorem dX9_caller_82 : decode cX9_caller 82 = .ok (.iadd, 1) := by decide +kernel
theorem dX9_caller_83 : decode cX9_caller 83 = .ok (.iaload, 1) := by decide +kernel
theorem dX9_caller_84 : decode cX9_caller 84 = .ok (.goto 16, 3) := by decide +kernel
theorem dX9_caller_87 : decode cX9_caller 87 = .ok (.aload_n 0, 1) := by decide +kernel
theorem dX9_caller_88 : decode cX9_caller 88 = .ok (.iload_n 1, 1) := by decide +kernel
theorem dX9_caller_89 : decode cX9_caller 89 = .ok (.invokevirtual 316, 3) := by decide +kernel
theorem dX9_caller_92 : decode cX9_caller 92 = .ok (.ifCond .eq 7, 3) := by decide +kernel
theorem dX9_caller_95 : decode cX9_caller 95 = .ok (.iconst 1, 1) := by decide +kernel
theorem dX9_caller_96 : decode cX9_caller 96 = .ok (.goto 4, 3) := by decide +kernel
theorem dX9_caller_99 : decode cX9_caller 99 = .ok (.iconst 0, 1) := by decide +kernel
theorem dX9_caller_100 : decode cX9_caller 100 = .ok (.ireturn, 1) := by decide +kernel
theorem dX9_caller_101 : decode cX9_caller 101 = .ok (.iload_n 2, 1) := by decide +kernel
theorem dX9_caller_102 : decode cX9_caller 102 = .ok (.iconst 5, 1) := by decide +kernel
theorem dX9_caller_103 : decode cX9_caller 103 = .ok (.if_icmp .ne 11, 3) := by decide +kernel
theorem dX9_caller_106 : decode cX9_caller 106 = .ok (.aload_n 0, 1) := by decide +kernel
theorem dX9_caller_107 : decode cX9_caller 107 = .ok (.iload_n 1, 1) := by decide +kernel
theorem dX9_caller_108 : decode cX9_caller 108 = .ok (.invokevirtual 319, 3) := by decide +kernel
theorem dX9_caller_111 : decode cX9_caller 111 = .ok (.goto 12, 3) := by decide +kernel
theorem dX9_caller_114 : decode cX9_caller 114 = .ok (.aload_n 0, 1) := by decide +kernel
theorem dX9_caller_115 : decode cX9_caller 115 = .ok (.getfield 93, 3) := by decide +kernel
theorem dX9_caller_118 : decode cX9_caller 118 = .ok (.bipush 10, 2) := by decide +kernel
theorem dX9_caller_120 : decode cX9_caller 120 = .ok (.iload_n 1, 1) := by decide +kernel
theorem dX9_caller_121 : decode cX9_caller 121 = .ok (.iadd, 1) := by decide +kernel
theorem dX9_caller_122 : decode cX9_caller 122 = .ok (.iaload, 1) := by decide +kernel
theorem dX9_caller_123 : decode cX9_caller 123 = .ok (.ireturn, 1) := by decide +kernel
theorem dX9_met_0 : decode cX9_met 0 = .ok (.aload_n 0, 1) := by decide +kernel
theorem dX9_met_1 : decode cX9_met 1 = .ok (.iconst 0, 1) := by decide +kernel
theorem dX9_met_2 : decode cX9_met 2 = .ok (.putfield 130, 3) := by decide +kernel
theorem dX9_met_5 : decode cX9_met 5 = .ok (.aload_n 0, 1) := by decide +kernel
theorem dX9_met_6 : decode cX9_met 6 = .ok (.iload_n 1, 1) := by decide +kernel
theorem dX9_met_7 : decode cX9_met 7 = .ok (.invokevirtual 347, 3) := by decide +kernel
theorem dX9_met_10 : decode cX9_met 10 = .ok (.ifCond .eq 33, 3) := by decide +kernel
theorem dX9_met_13 : decode cX9_met 13 = .ok (.aload_n 0, 1) := by decide +kernel
theorem dX9_met_14 : decode cX9_met 14 = .ok (.iload_n 2, 1) := by decide +kernel
theorem dX9_met_15 : decode cX9_met 15 = .ok (.invokevirtual 347, 3) := by decide +kernel
theorem dX9_met_18 : decode cX9_met 18 = .ok (.ifCond .eq 25, 3) := by decide +kernel
theorem dX9_met_21 : decode cX9_met 21 = .ok (.iload_n 1, 1) := by decide +kernel
theorem dX9_met_22 : decode cX9_met 22 = .ok (.iload_n 2, 1) := by decide +kernel
theorem dX9_met_23 : decode cX9_met 23 = .ok (.if_icmp .eq 20, 3) := by decide +kernel
theorem dX9_met_26 : decode cX9_met 26 = .ok (.aload_n 0, 1) := by decide +kernel
theorem dX9_met_27 : decode cX9_met 27 = .ok (.getfield 93, 3) := by decide +kernel
theorem dX9_met_30 : decode cX9_met 30 = .ok (.bipush 22, 2) := by decide +kernel
theorem dX9_met_32 : decode cX9_met 32 = .ok (.bipush 6, 2) := by decide +kernel
theorem dX9_met_34 : decode cX9_met 34 = .ok (.iload_n 1, 1) := by decide +kernel
theorem dX9_met_35 : decode cX9_met 35 = .ok (.imul, 1) := by decide +kernel
theorem dX9_met_36 : decode cX9_met 36 = .ok (.iadd, 1) := by decide +kernel
theorem dX9_met_37 : decode cX9_met 37 = .ok (.iload_n 2, 1) := by decide +kernel
theorem dX9_met_38 : decode cX9_met 38 = .ok (.iadd, 1) := by decide +kernel
theorem dX9_met_39 : decode cX9_met 39 = .ok (.iaload, 1) := by decide +kernel
theorem dX9_met_40 : decode cX9_met 40 = .ok (.goto 4, 3) := by decide +kernel
theorem dX9_met_43 : decode cX9_met 43 = .ok (.iconst (-1), 1) := by decide +kernel
theorem dX9_met_44 : decode cX9_met 44 = .ok (.ireturn, 1) := by decide +kernel
theorem dX9_line_0 : decode cX9_line 0 = .ok (.aload_n 0, 1) := by decide +kernel
theorem dX9_line_1 : decode cX9_line 1 = .ok (.iconst 0, 1) := by decide +kernel
theorem dX9_line_2 : decode cX9_line 2 = .ok (.putfield 130, 3) := by decide +kernel
theorem dX9_line_5 : decode cX9_line 5 = .ok (.iload_n 1, 1) := by decide +kernel
theorem dX9_line_6 : decode cX9_line 6 = .ok (.ifCond .lt 24, 3) := by decide +kernel
theorem dX9_line_9 : decode cX9_line 9 = .ok (.iload_n 1, 1) := by decide +kernel
theorem dX9_line_10 : decode cX9_line 10 = .ok (.aload_n 0, 1) := by decide +kernel
theorem dX9_line_11 : decode cX9_line 11 = .ok (.getfield 93, 3) := by decide +kernel
theorem dX9_line_14 : decode cX9_line 14 = .ok (.iconst 1, 1) := by decide +kernel
theorem dX9_line_15 : decode cX9_line 15 = .ok (.iaload, 1) := by decide +kernel
theorem dX9_line_16 : decode cX9_line 16 = .ok (.if_icmp .ge 14, 3) := by decide +kernel
theorem dX9_line_19 : decode cX9_line 19 = .ok (.aload_n 0, 1) := by decide +kernel
theorem dX9_line_20 : decode cX9_line 20 = .ok (.getfield 93, 3) := by decide +kernel
theorem dX9_line_23 : decode cX9_line 23 = .ok (.iconst 4, 1) := by decide +kernel
theorem dX9_line_24 : decode cX9_line 24 = .ok (.iload_n 1, 1) := by decide +kernel
theorem dX9_line_25 : decode cX9_line 25 = .ok (.iadd, 1) := by decide +kernel
theorem dX9_line_26 : decode cX9_line 26 = .ok (.iaload, 1) := by decide +kernel
theorem dX9_line_27 : decode cX9_line 27 = .ok (.goto 4, 3) := by decide +kernel
theorem dX9_line_30 : decode cX9_line 30 = .ok (.iconst (-1), 1) := by decide +kernel
theorem dX9_line_31 : decode cX9_line 31 = .ok (.ireturn, 1) := by decide +kernel
theorem dX9_keeps_0 : decode cX9_keeps 0 = .ok (.aload_n 0, 1) := by decide +kernel
theorem dX9_keeps_1 : decode cX9_keeps 1 = .ok (.getfield 306, 3) := by decide +kernel
theorem dX9_keeps_4 : decode cX9_keeps 4 = .ok (.bipush 16, 2) := by decide +kernel
theorem dX9_keeps_6 : decode cX9_keeps 6 = .ok (.if_icmp .ne 43, 3) := by decide +kernel
theorem dX9_keeps_9 : decode cX9_keeps 9 = .ok (.iconst 0, 1) := by decide +kernel
theorem dX9_keeps_10 : decode cX9_keeps 10 = .ok (.istore_n 1, 1) := by decide +kernel
theorem dX9_keeps_11 : decode cX9_keeps 11 = .ok (.iload_n 1, 1) := by decide +kernel
theorem dX9_keeps_12 : decode cX9_keeps 12 = .ok (.sipush 870, 3) := by decide +kernel
theorem dX9_keeps_15 : decode cX9_keeps 15 = .ok (.if_icmp .ge 24, 3) := by decide +kernel
theorem dX9_keeps_18 : decode cX9_keeps 18 = .ok (.aload_n 0, 1) := by decide +kernel
theorem dX9_keeps_19 : decode cX9_keeps 19 = .ok (.getfield 105, 3) := by decide +kernel
theorem dX9_keeps_22 : decode cX9_keeps 22 = .ok (.iload_n 1, 1) := by decide +kernel
theorem dX9_keeps_23 : decode cX9_keeps 23 = .ok (.aload_n 0, 1) := by decide +kernel
theorem dX9_keeps_24 : decode cX9_keeps 24 = .ok (.getfield 105, 3) := by decide +kernel
theorem dX9_keeps_27 : decode cX9_keeps 27 = .ok (.iload_n 1, 1) := by decide +kernel
theorem dX9_keeps_28 : decode cX9_keeps 28 = .ok (.bipush 58, 2) := by decide +kernel
theorem dX9_keeps_30 : decode cX9_keeps 30 = .ok (.iadd, 1) := by decide +kernel
theorem dX9_keeps_31 : decode cX9_keeps 31 = .ok (.iaload, 1) := by decide +kernel
theorem dX9_keeps_32 : decode cX9_keeps 32 = .ok (.iastore, 1) := by decide +kernel
theorem dX9_keeps_33 : decode cX9_keeps 33 = .ok (.iinc 1 1, 3) := by decide +kernel
theorem dX9_keeps_36 : decode cX9_keeps 36 = .ok (.goto (-25), 3) := by decide +kernel
theorem dX9_keeps_39 : decode cX9_keeps 39 = .ok (.aload_n 0, 1) := by decide +kernel
theorem dX9_keeps_40 : decode cX9_keeps 40 = .ok (.dup, 1) := by decide +kernel
theorem dX9_keeps_41 : decode cX9_keeps 41 = .ok (.getfield 306, 3) := by decide +kernel
theorem dX9_keeps_44 : decode cX9_keeps 44 = .ok (.iconst 1, 1) := by decide +kernel
theorem dX9_keeps_45 : decode cX9_keeps 45 = .ok (.isub, 1) := by decide +kernel
theorem dX9_keeps_46 : decode cX9_keeps 46 = .ok (.putfield 306, 3) := by decide +kernel
theorem dX9_keeps_49 : decode cX9_keeps 49 = .ok (.aload_n 0, 1) := by decide +kernel
theorem dX9_keeps_50 : decode cX9_keeps 50 = .ok (.getfield 93, 3) := by decide +kernel
theorem dX9_keeps_53 : decode cX9_keeps 53 = .ok (.iconst 0, 1) := by decide +kernel
theorem dX9_keeps_54 : decode cX9_keeps 54 = .ok (.aload_n 0, 1) := by decide +kernel
theorem dX9_keeps_55 : decode cX9_keeps 55 = .ok (.getfield 105, 3) := by decide +kernel
theorem dX9_keeps_58 : decode cX9_keeps 58 = .ok (.bipush 58, 2) := by decide +kernel
theorem dX9_keeps_60 : decode cX9_keeps 60 = .ok (.aload_n 0, 1) := by decide +kernel
theorem dX9_keeps_61 : decode cX9_keeps 61 = .ok (.getfield 306, 3) := by decide +kernel
theorem dX9_keeps_64 : decode cX9_keeps 64 = .ok (.imul, 1) := by decide +kernel
theorem dX9_keeps_65 : decode cX9_keeps 65 = .ok (.invokestatic 350, 3) := by decide +kernel
theorem dX9_keeps_68 : decode cX9_keeps 68 = .ok (.aload_n 0, 1) := by decide +kernel
theorem dX9_keeps_69 : decode cX9_keeps 69 = .ok (.dup, 1) := by decide +kernel
theorem dX9_keeps_70 : decode cX9_keeps 70 = .ok (.getfield 306, 3) := by decide +kernel
theorem dX9_keeps_73 : decode cX9_keeps 73 = .ok (.iconst 1, 1) := by decide +kernel
theorem dX9_keeps_74 : decode cX9_keeps 74 = .ok (.iadd, 1) := by decide +kernel
theorem dX9_keeps_75 : decode cX9_keeps 75 = .ok (.putfield 306, 3) := by decide +kernel
theorem dX9_keeps_78 : decode cX9_keeps 78 = .ok (.return_, 1) := by decide +kernel
theorem dX9_ring_0 : decode cX9_ring 0 = .ok (.aload_n 0, 1) := by decide +kernel
theorem dX9_ring_1 : decode cX9_ring 1 = .ok (.iconst 0, 1) := by decide +kernel
theorem dX9_ring_2 : decode cX9_ring 2 = .ok (.putfield 130, 3) := by decide +kernel
theorem dX9_ring_5 : decode cX9_ring 5 = .ok (.aload_n 0, 1) := by decide +kernel
theorem dX9_ring_6 : decode cX9_ring 6 = .ok (.iload_n 1, 1) := by decide +kernel
theorem dX9_ring_7 : decode cX9_ring 7 = .ok (.invokevirtual 347, 3) := by decide +kernel
theorem dX9_ring_10 : decode cX9_ring 10 = .ok (.ifCond .eq 11, 3) := by decide +kernel
theorem dX9_ring_13 : decode cX9_ring 13 = .ok (.aload_n 0, 1) := by decide +kernel
theorem dX9_ring_14 : decode cX9_ring 14 = .ok (.iload_n 1, 1) := by decide +kernel
theorem dX9_ring_15 : decode cX9_ring 15 = .ok (.invokevirtual 354, 3) := by decide +kernel
theorem dX9_ring_18 : decode cX9_ring 18 = .ok (.ifCond .ne 5, 3) := by decide +kernel
theorem dX9_ring_21 : decode cX9_ring 21 = .ok (.iconst (-1), 1) := by decide +kernel
theorem dX9_ring_22 : decode cX9_ring 22 = .ok (.ireturn, 1) := by decide +kernel
theorem dX9_ring_23 : decode cX9_ring 23 = .ok (.aload_n 0, 1) := by decide +kernel
theorem dX9_ring_24 : decode cX9_ring 24 = .ok (.invokevirtual 357, 3) := by decide +kernel
theorem dX9_ring_27 : decode cX9_ring 27 = .ok (.aload_n 0, 1) := by decide +kernel
theorem dX9_ring_28 : decode cX9_ring 28 = .ok (.iload_n 1, 1) := by decide +kernel
theorem dX9_ring_29 : decode cX9_ring 29 = .ok (.invokevirtual 360, 3) := by decide +kernel
theorem dX9_ring_32 : decode cX9_ring 32 = .ok (.aload_n 0, 1) := by decide +kernel
theorem dX9_ring_33 : decode cX9_ring 33 = .ok (.getfield 93, 3) := by decide +kernel
theorem dX9_ring_36 : decode cX9_ring 36 = .ok (.iconst 1, 1) := by decide +kernel
theorem dX9_ring_37 : decode cX9_ring 37 = .ok (.iaload, 1) := by decide +kernel
theorem dX9_ring_38 : decode cX9_ring 38 = .ok (.iconst 1, 1) := by decide +kernel
theorem dX9_ring_39 : decode cX9_ring 39 = .ok (.isub, 1) := by decide +kernel
theorem dX9_ring_40 : decode cX9_ring 40 = .ok (.ireturn, 1) := by decide +kernel
theorem dX9_off_0 : decode cX9_off 0 = .ok (.aload_n 0, 1) := by decide +kernel
theorem dX9_off_1 : decode cX9_off 1 = .ok (.iconst 0, 1) := by decide +kernel
theorem dX9_off_2 : decode cX9_off 2 = .ok (.putfield 130, 3) := by decide +kernel
theorem dX9_off_5 : decode cX9_off 5 = .ok (.aload_n 0, 1) := by decide +kernel
theorem dX9_off_6 : decode cX9_off 6 = .ok (.iload_n 1, 1) := by decide +kernel
theorem dX9_off_7 : decode cX9_off 7 = .ok (.invokevirtual 347, 3) := by decide +kernel
theorem dX9_off_10 : decode cX9_off 10 = .ok (.ifCond .eq 11, 3) := by decide +kernel
theorem dX9_off_13 : decode cX9_off 13 = .ok (.aload_n 0, 1) := by decide +kernel
theorem dX9_off_14 : decode cX9_off 14 = .ok (.iload_n 1, 1) := by decide +kernel
theorem dX9_off_15 : decode cX9_off 15 = .ok (.invokevirtual 319, 3) := by decide +kernel
theorem dX9_off_18 : decode cX9_off 18 = .ok (.ifCond .ge 5, 3) := by decide +kernel
theorem dX9_off_21 : decode cX9_off 21 = .ok (.iconst 0, 1) := by decide +kernel
theorem dX9_off_22 : decode cX9_off 22 = .ok (.ireturn, 1) := by decide +kernel
theorem dX9_off_23 : decode cX9_off 23 = .ok (.aload_n 0, 1) := by decide +kernel
theorem dX9_off_24 : decode cX9_off 24 = .ok (.invokevirtual 357, 3) := by decide +kernel
theorem dX9_off_27 : decode cX9_off 27 = .ok (.aload_n 0, 1) := by decide +kernel
theorem dX9_off_28 : decode cX9_off 28 = .ok (.iload_n 1, 1) := by decide +kernel
theorem dX9_off_29 : decode cX9_off 29 = .ok (.invokevirtual 335, 3) := by decide +kernel
theorem dX9_off_32 : decode cX9_off 32 = .ok (.iconst 1, 1) := by decide +kernel
theorem dX9_off_33 : decode cX9_off 33 = .ok (.ireturn, 1) := by decide +kernel
theorem dX9_canSwap_0 : decode cX9_canSwap 0 = .ok (.iload_n 1, 1) := by decide +kernel
theorem dX9_canSwap_1 : decode cX9_canSwap 1 = .ok (.iload_n 2, 1) := by decide +kernel
theorem dX9_canSwap_2 : decode cX9_canSwap 2 = .ok (.if_icmp .eq 23, 3) := by decide +kernel
theorem dX9_canSwap_5 : decode cX9_canSwap 5 = .ok (.aload_n 0, 1) := by decide +kernel
theorem dX9_canSwap_6 : decode cX9_canSwap 6 = .ok (.iload_n 1, 1) := by decide +kernel
theorem dX9_canSwap_7 : decode cX9_canSwap 7 = .ok (.invokevirtual 319, 3) := by decide +kernel
theorem dX9_canSwap_10 : decode cX9_canSwap 10 = .ok (.ifCond .lt 15, 3) := by decide +kernel
theorem dX9_canSwap_13 : decode cX9_canSwap 13 = .ok (.aload_n 0, 1) := by decide +kernel
theorem dX9_canSwap_14 : decode cX9_canSwap 14 = .ok (.iload_n 2, 1) := by decide +kernel
theorem dX9_canSwap_15 : decode cX9_canSwap 15 = .ok (.invokevirtual 319, 3) := by decide +kernel
theorem dX9_canSwap_18 : decode cX9_canSwap 18 = .ok (.ifCond .lt 7, 3) := by decide +kernel
theorem dX9_canSwap_21 : decode cX9_canSwap 21 = .ok (.iconst 1, 1) := by decide +kernel
theorem dX9_canSwap_22 : decode cX9_canSwap 22 = .ok (.goto 4, 3) := by decide +kernel
theorem dX9_canSwap_25 : decode cX9_canSwap 25 = .ok (.iconst 0, 1) := by decide +kernel
theorem dX9_canSwap_26 : decode cX9_canSwap 26 = .ok (.ireturn, 1) := by decide +kernel
theorem dX9_swap_0 : decode cX9_swap 0 = .ok (.aload_n 0, 1) := by decide +kernel
theorem dX9_swap_1 : decode cX9_swap 1 = .ok (.iconst 0, 1) := by decide +kernel
theorem dX9_swap_2 : decode cX9_swap 2 = .ok (.putfield 130, 3) := by decide +kernel
theorem dX9_swap_5 : decode cX9_swap 5 = .ok (.aload_n 0, 1) := by decide +kernel
theorem dX9_swap_6 : decode cX9_swap 6 = .ok (.iload_n 1, 1) := by decide +kernel
theorem dX9_swap_7 : decode cX9_swap 7 = .ok (.invokevirtual 347, 3) := by decide +kernel
theorem dX9_swap_10 : decode cX9_swap 10 = .ok (.ifCond .eq 20, 3) := by decide +kernel
theorem dX9_swap_13 : decode cX9_swap 13 = .ok (.aload_n 0, 1) := by decide +kernel
theorem dX9_swap_14 : decode cX9_swap 14 = .ok (.iload_n 2, 1) := by decide +kernel
theorem dX9_swap_15 : decode cX9_swap 15 = .ok (.invokevirtual 347, 3) := by decide +kernel
theorem dX9_swap_18 : decode cX9_swap 18 = .ok (.ifCond .eq 12, 3) := by decide +kernel
theorem dX9_swap_21 : decode cX9_swap 21 = .ok (.aload_n 0, 1) := by decide +kernel
theorem dX9_swap_22 : decode cX9_swap 22 = .ok (.iload_n 1, 1) := by decide +kernel
theorem dX9_swap_23 : decode cX9_swap 23 = .ok (.iload_n 2, 1) := by decide +kernel
theorem dX9_swap_24 : decode cX9_swap 24 = .ok (.invokevirtual 363, 3) := by decide +kernel
theorem dX9_swap_27 : decode cX9_swap 27 = .ok (.ifCond .ne 5, 3) := by decide +kernel
theorem dX9_swap_30 : decode cX9_swap 30 = .ok (.iconst 0, 1) := by decide +kernel
theorem dX9_swap_31 : decode cX9_swap 31 = .ok (.ireturn, 1) := by decide +kernel
theorem dX9_swap_32 : decode cX9_swap 32 = .ok (.aload_n 0, 1) := by decide +kernel
theorem dX9_swap_33 : decode cX9_swap 33 = .ok (.invokevirtual 357, 3) := by decide +kernel
theorem dX9_swap_36 : decode cX9_swap 36 = .ok (.aload_n 0, 1) := by decide +kernel
theorem dX9_swap_37 : decode cX9_swap 37 = .ok (.iload_n 1, 1) := by decide +kernel
theorem dX9_swap_38 : decode cX9_swap 38 = .ok (.iload_n 2, 1) := by decide +kernel
theorem dX9_swap_39 : decode cX9_swap 39 = .ok (.invokevirtual 366, 3) := by decide +kernel
theorem dX9_swap_42 : decode cX9_swap 42 = .ok (.iconst 1, 1) := by decide +kernel
theorem dX9_swap_43 : decode cX9_swap 43 = .ok (.ireturn, 1) := by decide +kernel
theorem dX9_minute_0 : decode cX9_minute 0 = .ok (.aload_n 0, 1) := by decide +kernel
theorem dX9_minute_1 : decode cX9_minute 1 = .ok (.iconst 0, 1) := by decide +kernel
theorem dX9_minute_2 : decode cX9_minute 2 = .ok (.putfield 130, 3) := by decide +kernel
theorem dX9_minute_5 : decode cX9_minute 5 = .ok (.aload_n 0, 1) := by decide +kernel
theorem dX9_minute_6 : decode cX9_minute 6 = .ok (.invokevirtual 357, 3) := by decide +kernel
theorem dX9_minute_9 : decode cX9_minute 9 = .ok (.aload_n 0, 1) := by decide +kernel
theorem dX9_minute_10 : decode cX9_minute 10 = .ok (.invokevirtual 369, 3) := by decide +kernel
theorem dX9_minute_13 : decode cX9_minute 13 = .ok (.ireturn, 1) := by decide +kernel
theorem dX9_undo_0 : decode cX9_undo 0 = .ok (.aload_n 0, 1) := by decide +kernel
theorem dX9_undo_1 : decode cX9_undo 1 = .ok (.iconst 0, 1) := by decide +kernel
theorem dX9_undo_2 : decode cX9_undo 2 = .ok (.putfield 130, 3) := by decide +kernel
theorem dX9_undo_5 : decode cX9_undo 5 = .ok (.aload_n 0, 1) := by decide +kernel
theorem dX9_undo_6 : decode cX9_undo 6 = .ok (.getfield 306, 3) := by decide +kernel
theorem dX9_undo_9 : decode cX9_undo 9 = .ok (.ifCond .ne 5, 3) := by decide +kernel
theorem dX9_undo_12 : decode cX9_undo 12 = .ok (.iconst 0, 1) := by decide +kernel
theorem dX9_undo_13 : decode cX9_undo 13 = .ok (.ireturn, 1) := by decide +kernel
theorem dX9_undo_14 : decode cX9_undo 14 = .ok (.aload_n 0, 1) := by decide +kernel
theorem dX9_undo_15 : decode cX9_undo 15 = .ok (.dup, 1) := by decide +kernel
theorem dX9_undo_16 : decode cX9_undo 16 = .ok (.getfield 306, 3) := by decide +kernel
theorem dX9_undo_19 : decode cX9_undo 19 = .ok (.iconst 1, 1) := by decide +kernel
theorem dX9_undo_20 : decode cX9_undo 20 = .ok (.isub, 1) := by decide +kernel
theorem dX9_undo_21 : decode cX9_undo 21 = .ok (.putfield 306, 3) := by decide +kernel
theorem dX9_undo_24 : decode cX9_undo 24 = .ok (.aload_n 0, 1) := by decide +kernel
theorem dX9_undo_25 : decode cX9_undo 25 = .ok (.getfield 105, 3) := by decide +kernel
theorem dX9_undo_28 : decode cX9_undo 28 = .ok (.bipush 58, 2) := by decide +kernel
theorem dX9_undo_30 : decode cX9_undo 30 = .ok (.aload_n 0, 1) := by decide +kernel
theorem dX9_undo_31 : decode cX9_undo 31 = .ok (.getfield 306, 3) := by decide +kernel
theorem dX9_undo_34 : decode cX9_undo 34 = .ok (.imul, 1) := by decide +kernel
theorem dX9_undo_35 : decode cX9_undo 35 = .ok (.aload_n 0, 1) := by decide +kernel
theorem dX9_undo_36 : decode cX9_undo 36 = .ok (.getfield 93, 3) := by decide +kernel
theorem dX9_undo_39 : decode cX9_undo 39 = .ok (.iconst 0, 1) := by decide +kernel
theorem dX9_undo_40 : decode cX9_undo 40 = .ok (.invokestatic 350, 3) := by decide +kernel
theorem dX9_undo_43 : decode cX9_undo 43 = .ok (.iconst 1, 1) := by decide +kernel
theorem dX9_undo_44 : decode cX9_undo 44 = .ok (.ireturn, 1) := by decide +kernel
theorem dX9_goes_0 : decode cX9_goes 0 = .ok (.aload_n 0, 1) := by decide +kernel
theorem dX9_goes_1 : decode cX9_goes 1 = .ok (.getfield 84, 3) := by decide +kernel
theorem dX9_goes_4 : decode cX9_goes 4 = .ok (.iload_n 1, 1) := by decide +kernel
theorem dX9_goes_5 : decode cX9_goes 5 = .ok (.iaload, 1) := by decide +kernel
theorem dX9_goes_6 : decode cX9_goes 6 = .ok (.istore_n 2, 1) := by decide +kernel
theorem dX9_goes_7 : decode cX9_goes 7 = .ok (.aload_n 0, 1) := by decide +kernel
theorem dX9_goes_8 : decode cX9_goes 8 = .ok (.getfield 81, 3) := by decide +kernel
theorem dX9_goes_11 : decode cX9_goes 11 = .ok (.iload_n 1, 1) := by decide +kernel
theorem dX9_goes_12 : decode cX9_goes 12 = .ok (.iaload, 1) := by decide +kernel
theorem dX9_goes_13 : decode cX9_goes 13 = .ok (.istore_n 3, 1) := by decide +kernel
theorem dX9_goes_14 : decode cX9_goes 14 = .ok (.iload_n 3, 1) := by decide +kernel
theorem dX9_goes_15 : decode cX9_goes 15 = .ok (.iconst 3, 1) := by decide +kernel
theorem dX9_goes_16 : decode cX9_goes 16 = .ok (.if_icmp .ne 25, 3) := by decide +kernel
theorem dX9_goes_19 : decode cX9_goes 19 = .ok (.aload_n 0, 1) := by decide +kernel
theorem dX9_goes_20 : decode cX9_goes 20 = .ok (.invokevirtual 369, 3) := by decide +kernel
theorem dX9_goes_23 : decode cX9_goes 23 = .ok (.ifCond .eq 90, 3) := by decide +kernel
theorem dX9_goes_26 : decode cX9_goes 26 = .ok (.aload_n 0, 1) := by decide +kernel
theorem dX9_goes_27 : decode cX9_goes 27 = .ok (.getfield 372, 3) := by decide +kernel
theorem dX9_goes_30 : decode cX9_goes 30 = .ok (.ifCond .ge 83, 3) := by decide +kernel
theorem dX9_goes_33 : decode cX9_goes 33 = .ok (.aload_n 0, 1) := by decide +kernel
theorem dX9_goes_34 : decode cX9_goes 34 = .ok (.iload_n 1, 1) := by decide +kernel
theorem dX9_goes_35 : decode cX9_goes 35 = .ok (.putfield 372, 3) := by decide +kernel
theorem dX9_goes_38 : decode cX9_goes 38 = .ok (.goto 75, 3) := by decide +kernel
theorem dX9_goes_41 : decode cX9_goes 41 = .ok (.iload_n 3, 1) := by decide +kernel
theorem dX9_goes_42 : decode cX9_goes 42 = .ok (.ifCond .ne 21, 3) := by decide +kernel
theorem dX9_goes_45 : decode cX9_goes 45 = .ok (.aload_n 0, 1) := by decide +kernel
theorem dX9_goes_46 : decode cX9_goes 46 = .ok (.iload_n 2, 1) := by decide +kernel
theorem dX9_goes_47 : decode cX9_goes 47 = .ok (.invokevirtual 354, 3) := by decide +kernel
theorem dX9_goes_50 : decode cX9_goes 50 = .ok (.ifCond .ne 5, 3) := by decide +kernel
theorem dX9_goes_53 : decode cX9_goes 53 = .ok (.iconst 0, 1) := by decide +kernel
theorem dX9_goes_54 : decode cX9_goes 54 = .ok (.ireturn, 1) := by decide +kernel
theorem dX9_goes_55 : decode cX9_goes 55 = .ok (.aload_n 0, 1) := by decide +kernel
theorem dX9_goes_56 : decode cX9_goes 56 = .ok (.iload_n 2, 1) := by decide +kernel
theorem dX9_goes_57 : decode cX9_goes 57 = .ok (.invokevirtual 360, 3) := by decide +kernel
theorem dX9_goes_60 : decode cX9_goes 60 = .ok (.goto 53, 3) := by decide +kernel
theorem dX9_goes_63 : decode cX9_goes 63 = .ok (.iload_n 3, 1) := by decide +kernel
theorem dX9_goes_64 : decode cX9_goes 64 = .ok (.iconst 1, 1) := by decide +kernel
theorem dX9_goes_65 : decode cX9_goes 65 = .ok (.if_icmp .ne 21, 3) := by decide +kernel
theorem dX9_goes_68 : decode cX9_goes 68 = .ok (.aload_n 0, 1) := by decide +kernel
theorem dX9_goes_69 : decode cX9_goes 69 = .ok (.iload_n 2, 1) := by decide +kernel
theorem dX9_goes_70 : decode cX9_goes 70 = .ok (.invokevirtual 319, 3) := by decide +kernel
theorem dX9_goes_73 : decode cX9_goes 73 = .ok (.ifCond .ge 5, 3) := by decide +kernel
theorem dX9_goes_76 : decode cX9_goes 76 = .ok (.iconst 0, 1) := by decide +kernel
theorem dX9_goes_77 : decode cX9_goes 77 = .ok (.ireturn, 1) := by decide +kernel
theorem dX9_goes_78 : decode cX9_goes 78 = .ok (.aload_n 0, 1) := by decide +kernel
theorem dX9_goes_79 : decode cX9_goes 79 = .ok (.iload_n 2, 1) := by decide +kernel
theorem dX9_goes_80 : decode cX9_goes 80 = .ok (.invokevirtual 335, 3) := by decide +kernel
theorem dX9_goes_83 : decode cX9_goes 83 = .ok (.goto 30, 3) := by decide +kernel
theorem dX9_goes_86 : decode cX9_goes 86 = .ok (.aload_n 0, 1) := by decide +kernel
theorem dX9_goes_87 : decode cX9_goes 87 = .ok (.iload_n 2, 1) := by decide +kernel
theorem dX9_goes_88 : decode cX9_goes 88 = .ok (.aload_n 0, 1) := by decide +kernel
theorem dX9_goes_89 : decode cX9_goes 89 = .ok (.getfield 87, 3) := by decide +kernel
theorem dX9_goes_92 : decode cX9_goes 92 = .ok (.iload_n 1, 1) := by decide +kernel
theorem dX9_goes_93 : decode cX9_goes 93 = .ok (.iaload, 1) := by decide +kernel
theorem dX9_goes_94 : decode cX9_goes 94 = .ok (.invokevirtual 363, 3) := by decide +kernel
theorem dX9_goes_97 : decode cX9_goes 97 = .ok (.ifCond .ne 5, 3) := by decide +kernel
theorem dX9_goes_100 : decode cX9_goes 100 = .ok (.iconst 0, 1) := by decide +kernel
theorem dX9_goes_101 : decode cX9_goes 101 = .ok (.ireturn, 1) := by decide +kernel
theorem dX9_goes_102 : decode cX9_goes 102 = .ok (.aload_n 0, 1) := by decide +kernel
theorem dX9_goes_103 : decode cX9_goes 103 = .ok (.iload_n 2, 1) := by decide +kernel
theorem dX9_goes_104 : decode cX9_goes 104 = .ok (.aload_n 0, 1) := by decide +kernel
theorem dX9_goes_105 : decode cX9_goes 105 = .ok (.getfield 87, 3) := by decide +kernel
theorem dX9_goes_108 : decode cX9_goes 108 = .ok (.iload_n 1, 1) := by decide +kernel
theorem dX9_goes_109 : decode cX9_goes 109 = .ok (.iaload, 1) := by decide +kernel
theorem dX9_goes_110 : decode cX9_goes 110 = .ok (.invokevirtual 366, 3) := by decide +kernel
theorem dX9_goes_113 : decode cX9_goes 113 = .ok (.iconst 1, 1) := by decide +kernel
theorem dX9_goes_114 : decode cX9_goes 114 = .ok (.ireturn, 1) := by decide +kernel
theorem dX9_judges_0 : decode cX9_judges 0 = .ok (.aload_n 0, 1) := by decide +kernel
theorem dX9_judges_1 : decode cX9_judges 1 = .ok (.getfield 93, 3) := by decide +kernel
theorem dX9_judges_4 : decode cX9_judges 4 = .ok (.iconst 0, 1) := by decide +kernel
theorem dX9_judges_5 : decode cX9_judges 5 = .ok (.aload_n 0, 1) := by decide +kernel
theorem dX9_judges_6 : decode cX9_judges 6 = .ok (.getfield 96, 3) := by decide +kernel
theorem dX9_judges_9 : decode cX9_judges 9 = .ok (.iconst 0, 1) := by decide +kernel
theorem dX9_judges_10 : decode cX9_judges 10 = .ok (.invokestatic 350, 3) := by decide +kernel
theorem dX9_judges_13 : decode cX9_judges 13 = .ok (.aload_n 0, 1) := by decide +kernel
theorem dX9_judges_14 : decode cX9_judges 14 = .ok (.invokevirtual 303, 3) := by decide +kernel
theorem dX9_judges_17 : decode cX9_judges 17 = .ok (.aload_n 0, 1) := by decide +kernel
theorem dX9_judges_18 : decode cX9_judges 18 = .ok (.iload_n 1, 1) := by decide +kernel
theorem dX9_judges_19 : decode cX9_judges 19 = .ok (.putfield 123, 3) := by decide +kernel
theorem dX9_judges_22 : decode cX9_judges 22 = .ok (.aload_n 0, 1) := by decide +kernel
theorem dX9_judges_23 : decode cX9_judges 23 = .ok (.iconst (-1), 1) := by decide +kernel
theorem dX9_judges_24 : decode cX9_judges 24 = .ok (.putfield 375, 3) := by decide +kernel
theorem dX9_judges_27 : decode cX9_judges 27 = .ok (.aload_n 0, 1) := by decide +kernel
theorem dX9_judges_28 : decode cX9_judges 28 = .ok (.iconst (-1), 1) := by decide +kernel
theorem dX9_judges_29 : decode cX9_judges 29 = .ok (.putfield 372, 3) := by decide +kernel
theorem dX9_judges_32 : decode cX9_judges 32 = .ok (.iconst 0, 1) := by decide +kernel
theorem dX9_judges_33 : decode cX9_judges 33 = .ok (.istore_n 2, 1) := by decide +kernel
theorem dX9_judges_34 : decode cX9_judges 34 = .ok (.iload_n 2, 1) := by decide +kernel
theorem dX9_judges_35 : decode cX9_judges 35 = .ok (.aload_n 0, 1) := by decide +kernel
theorem dX9_judges_36 : decode cX9_judges 36 = .ok (.getfield 78, 3) := by decide +kernel
theorem dX9_judges_39 : decode cX9_judges 39 = .ok (.iconst 0, 1) := by decide +kernel
theorem dX9_judges_40 : decode cX9_judges 40 = .ok (.iaload, 1) := by decide +kernel
theorem dX9_judges_41 : decode cX9_judges 41 = .ok (.if_icmp .ge 29, 3) := by decide +kernel
theorem dX9_judges_44 : decode cX9_judges 44 = .ok (.aload_n 0, 1) := by decide +kernel
theorem dX9_judges_45 : decode cX9_judges 45 = .ok (.iload_n 2, 1) := by decide +kernel
theorem dX9_judges_46 : decode cX9_judges 46 = .ok (.invokevirtual 378, 3) := by decide +kernel
theorem dX9_judges_49 : decode cX9_judges 49 = .ok (.ifCond .ne 15, 3) := by decide +kernel
theorem dX9_judges_52 : decode cX9_judges 52 = .ok (.aload_n 0, 1) := by decide +kernel
theorem dX9_judges_53 : decode cX9_judges 53 = .ok (.getfield 375, 3) := by decide +kernel
theorem dX9_judges_56 : decode cX9_judges 56 = .ok (.ifCond .ge 8, 3) := by decide +kernel
theorem dX9_judges_59 : decode cX9_judges 59 = .ok (.aload_n 0, 1) := by decide +kernel
theorem dX9_judges_60 : decode cX9_judges 60 = .ok (.iload_n 2, 1) := by decide +kernel
theorem dX9_judges_61 : decode cX9_judges 61 = .ok (.putfield 375, 3) := by decide +kernel
theorem dX9_judges_64 : decode cX9_judges 64 = .ok (.iinc 2 1, 3) := by decide +kernel
theorem dX9_judges_67 : decode cX9_judges 67 = .ok (.goto (-33), 3) := by decide +kernel
theorem dX9_judges_70 : decode cX9_judges 70 = .ok (.aload_n 0, 1) := by decide +kernel
theorem dX9_judges_71 : decode cX9_judges 71 = .ok (.getfield 93, 3) := by decide +kernel
theorem dX9_judges_74 : decode cX9_judges 74 = .ok (.iconst 2, 1) := by decide +kernel
theorem dX9_judges_75 : decode cX9_judges 75 = .ok (.iaload, 1) := by decide +kernel
theorem dX9_judges_76 : decode cX9_judges 76 = .ok (.invokestatic 322, 3) := by decide +kernel
theorem dX9_judges_79 : decode cX9_judges 79 = .ok (.istore_n 2, 1) := by decide +kernel
theorem dX9_judges_80 : decode cX9_judges 80 = .ok (.aload_n 0, 1) := by decide +kernel
theorem dX9_judges_81 : decode cX9_judges 81 = .ok (.aload_n 0, 1) := by decide +kernel
theorem dX9_judges_82 : decode cX9_judges 82 = .ok (.getfield 13, 3) := by decide +kernel
theorem dX9_judges_85 : decode cX9_judges 85 = .ok (.iconst 1, 1) := by decide +kernel
theorem dX9_judges_86 : decode cX9_judges 86 = .ok (.iaload, 1) := by decide +kernel
theorem dX9_judges_87 : decode cX9_judges 87 = .ok (.putfield 123, 3) := by decide +kernel
theorem dX9_judges_90 : decode cX9_judges 90 = .ok (.aload_n 0, 1) := by decide +kernel
theorem dX9_judges_91 : decode cX9_judges 91 = .ok (.getfield 96, 3) := by decide +kernel
theorem dX9_judges_94 : decode cX9_judges 94 = .ok (.iconst 0, 1) := by decide +kernel
theorem dX9_judges_95 : decode cX9_judges 95 = .ok (.aload_n 0, 1) := by decide +kernel
theorem dX9_judges_96 : decode cX9_judges 96 = .ok (.getfield 93, 3) := by decide +kernel
theorem dX9_judges_99 : decode cX9_judges 99 = .ok (.iconst 0, 1) := by decide +kernel
theorem dX9_judges_100 : decode cX9_judges 100 = .ok (.invokestatic 350, 3) := by decide +kernel
theorem dX9_judges_103 : decode cX9_judges 103 = .ok (.iload_n 2, 1) := by decide +kernel
theorem dX9_judges_104 : decode cX9_judges 104 = .ok (.ireturn, 1) := by decide +kernel
theorem dX9_judged_0 : decode cX9_judged 0 = .ok (.aload_n 0, 1) := by decide +kernel
theorem dX9_judged_1 : decode cX9_judged 1 = .ok (.iconst 0, 1) := by decide +kernel
theorem dX9_judged_2 : decode cX9_judged 2 = .ok (.putfield 130, 3) := by decide +kernel
theorem dX9_judged_5 : decode cX9_judged 5 = .ok (.iload_n 1, 1) := by decide +kernel
theorem dX9_judged_6 : decode cX9_judged 6 = .ok (.iconst 0, 1) := by decide +kernel
theorem dX9_judged_7 : decode cX9_judged 7 = .ok (.iconst 2, 1) := by decide +kernel
theorem dX9_judged_8 : decode cX9_judged 8 = .ok (.invokestatic 244, 3) := by decide +kernel
theorem dX9_judged_11 : decode cX9_judged 11 = .ok (.ifCond .ne 6, 3) := by decide +kernel
theorem dX9_judged_14 : decode cX9_judged 14 = .ok (.bipush (-2), 2) := by decide +kernel
theorem dX9_judged_16 : decode cX9_judged 16 = .ok (.ireturn, 1) := by decide +kernel
theorem dX9_judged_17 : decode cX9_judged 17 = .ok (.aload_n 0, 1) := by decide +kernel
theorem dX9_judged_18 : decode cX9_judged 18 = .ok (.aload_n 0, 1) := by decide +kernel
theorem dX9_judged_19 : decode cX9_judged 19 = .ok (.getfield 13, 3) := by decide +kernel
theorem dX9_judged_22 : decode cX9_judged 22 = .ok (.iconst 1, 1) := by decide +kernel
theorem dX9_judged_23 : decode cX9_judged 23 = .ok (.iaload, 1) := by decide +kernel
theorem dX9_judged_24 : decode cX9_judged 24 = .ok (.invokevirtual 381, 3) := by decide +kernel
theorem dX9_judged_27 : decode cX9_judged 27 = .ok (.istore_n 2, 1) := by decide +kernel
theorem dX9_judged_28 : decode cX9_judged 28 = .ok (.iload_n 1, 1) := by decide +kernel
theorem dX9_judged_29 : decode cX9_judged 29 = .ok (.ifCond .ne 10, 3) := by decide +kernel
theorem dX9_judged_32 : decode cX9_judged 32 = .ok (.aload_n 0, 1) := by decide +kernel
theorem dX9_judged_33 : decode cX9_judged 33 = .ok (.getfield 375, 3) := by decide +kernel
theorem dX9_judged_36 : decode cX9_judged 36 = .ok (.goto 16, 3) := by decide +kernel
theorem dX9_judged_39 : decode cX9_judged 39 = .ok (.iload_n 1, 1) := by decide +kernel
theorem dX9_judged_40 : decode cX9_judged 40 = .ok (.iconst 1, 1) := by decide +kernel
theorem dX9_judged_41 : decode cX9_judged 41 = .ok (.if_icmp .ne 10, 3) := by decide +kernel
theorem dX9_judged_44 : decode cX9_judged 44 = .ok (.aload_n 0, 1) := by decide +kernel
theorem dX9_judged_45 : decode cX9_judged 45 = .ok (.getfield 372, 3) := by decide +kernel
theorem dX9_judged_48 : decode cX9_judged 48 = .ok (.goto 4, 3) := by decide +kernel
theorem dX9_judged_51 : decode cX9_judged 51 = .ok (.iload_n 2, 1) := by decide +kernel
theorem dX9_judged_52 : decode cX9_judged 52 = .ok (.ireturn, 1) := by decide +kernel
theorem dX9_other_0 : decode cX9_other 0 = .ok (.aload_n 0, 1) := by decide +kernel
theorem dX9_other_1 : decode cX9_other 1 = .ok (.iconst 0, 1) := by decide +kernel
theorem dX9_other_2 : decode cX9_other 2 = .ok (.putfield 130, 3) := by decide +kernel
theorem dX9_other_5 : decode cX9_other 5 = .ok (.iload_n 1, 1) := by decide +kernel
theorem dX9_other_6 : decode cX9_other 6 = .ok (.iconst 1, 1) := by decide +kernel
theorem dX9_other_7 : decode cX9_other 7 = .ok (.bipush 20, 2) := by decide +kernel
theorem dX9_other_9 : decode cX9_other 9 = .ok (.invokestatic 244, 3) := by decide +kernel
theorem dX9_other_12 : decode cX9_other 12 = .ok (.ifCond .eq 11, 3) := by decide +kernel
theorem dX9_other_15 : decode cX9_other 15 = .ok (.aload_n 0, 1) := by decide +kernel
theorem dX9_other_16 : decode cX9_other 16 = .ok (.iload_n 1, 1) := by decide +kernel
theorem dX9_other_17 : decode cX9_other 17 = .ok (.invokevirtual 381, 3) := by decide +kernel
theorem dX9_other_20 : decode cX9_other 20 = .ok (.goto 4, 3) := by decide +kernel
theorem dX9_other_23 : decode cX9_other 23 = .ok (.iconst (-1), 1) := by decide +kernel
theorem dX9_other_24 : decode cX9_other 24 = .ok (.ireturn, 1) := by decide +kernel
theorem dX9_goesOn_0 : decode cX9_goesOn 0 = .ok (.iconst 0, 1) := by decide +kernel
theorem dX9_goesOn_1 : decode cX9_goesOn 1 = .ok (.istore_n 1, 1) := by decide +kernel
theorem dX9_goesOn_2 : decode cX9_goesOn 2 = .ok (.iload_n 1, 1) := by decide +kernel
theorem dX9_goesOn_3 : decode cX9_goesOn 3 = .ok (.bipush 6, 2) := by decide +kernel
theorem dX9_goesOn_5 : decode cX9_goesOn 5 = .ok (.if_icmp .ge 28, 3) := by decide +kernel
theorem dX9_goesOn_8 : decode cX9_goesOn 8 = .ok (.aload_n 0, 1) := by decide +kernel
theorem dX9_goesOn_9 : decode cX9_goesOn 9 = .ok (.getfield 111, 3) := by decide +kernel
theorem dX9_goesOn_12 : decode cX9_goesOn 12 = .ok (.iload_n 1, 1) := by decide +kernel
theorem dX9_goesOn_13 : decode cX9_goesOn 13 = .ok (.aload_n 0, 1) := by decide +kernel
theorem dX9_goesOn_14 : decode cX9_goesOn 14 = .ok (.iload_n 1, 1) := by decide +kernel
theorem dX9_goesOn_15 : decode cX9_goesOn 15 = .ok (.invokevirtual 316, 3) := by decide +kernel
theorem dX9_goesOn_18 : decode cX9_goesOn 18 = .ok (.ifCond .eq 7, 3) := by decide +kernel
theorem dX9_goesOn_21 : decode cX9_goesOn 21 = .ok (.iconst 0, 1) := by decide +kernel
theorem dX9_goesOn_22 : decode cX9_goesOn 22 = .ok (.goto 4, 3) := by decide +kernel
theorem dX9_goesOn_25 : decode cX9_goesOn 25 = .ok (.iconst (-1), 1) := by decide +kernel
theorem dX9_goesOn_26 : decode cX9_goesOn 26 = .ok (.iastore, 1) := by decide +kernel
theorem dX9_goesOn_27 : decode cX9_goesOn 27 = .ok (.iinc 1 1, 3) := by decide +kernel
theorem dX9_goesOn_30 : decode cX9_goesOn 30 = .ok (.goto (-28), 3) := by decide +kernel
theorem dX9_goesOn_33 : decode cX9_goesOn 33 = .ok (.aload_n 0, 1) := by decide +kernel
theorem dX9_goesOn_34 : decode cX9_goesOn 34 = .ok (.iconst 0, 1) := by decide +kernel
theorem dX9_goesOn_35 : decode cX9_goesOn 35 = .ok (.putfield 384, 3) := by decide +kernel
theorem dX9_goesOn_38 : decode cX9_goesOn 38 = .ok (.aload_n 0, 1) := by decide +kernel
theorem dX9_goesOn_39 : decode cX9_goesOn 39 = .ok (.getfield 93, 3) := by decide +kernel
theorem dX9_goesOn_42 : decode cX9_goesOn 42 = .ok (.iconst 1, 1) := by decide +kernel
theorem dX9_goesOn_43 : decode cX9_goesOn 43 = .ok (.iaload, 1) := by decide +kernel
theorem dX9_goesOn_44 : decode cX9_goesOn 44 = .ok (.ifCond .le 54, 3) := by decide +kernel
theorem dX9_goesOn_47 : decode cX9_goesOn 47 = .ok (.aload_n 0, 1) := by decide +kernel
theorem dX9_goesOn_48 : decode cX9_goesOn 48 = .ok (.invokevirtual 369, 3) := by decide +kernel
theorem dX9_goesOn_51 : decode cX9_goesOn 51 = .ok (.istore_n 1, 1) := by decide +kernel
theorem dX9_goesOn_52 : decode cX9_goesOn 52 = .ok (.aload_n 0, 1) := by decide +kernel
theorem dX9_goesOn_53 : decode cX9_goesOn 53 = .ok (.dup, 1) := by decide +kernel
theorem dX9_goesOn_54 : decode cX9_goesOn 54 = .ok (.getfield 384, 3) := by decide +kernel
theorem dX9_goesOn_57 : decode cX9_goesOn 57 = .ok (.iconst 1, 1) := by decide +kernel
theorem dX9_goesOn_58 : decode cX9_goesOn 58 = .ok (.iadd, 1) := by decide +kernel
theorem dX9_goesOn_59 : decode cX9_goesOn 59 = .ok (.putfield 384, 3) := by decide +kernel
theorem dX9_goesOn_62 : decode cX9_goesOn 62 = .ok (.iconst 0, 1) := by decide +kernel
theorem dX9_goesOn_63 : decode cX9_goesOn 63 = .ok (.istore_n 2, 1) := by decide +kernel
theorem dX9_goesOn_64 : decode cX9_goesOn 64 = .ok (.iload_n 2, 1) := by decide +kernel
theorem dX9_goesOn_65 : decode cX9_goesOn 65 = .ok (.bipush 6, 2) := by decide +kernel
theorem dX9_goesOn_67 : decode cX9_goesOn 67 = .ok (.if_icmp .ge 28, 3) := by decide +kernel
theorem dX9_goesOn_70 : decode cX9_goesOn 70 = .ok (.iload_n 1, 1) := by decide +kernel
theorem dX9_goesOn_71 : decode cX9_goesOn 71 = .ok (.iload_n 2, 1) := by decide +kernel
theorem dX9_goesOn_72 : decode cX9_goesOn 72 = .ok (.ishr, 1) := by decide +kernel
theorem dX9_goesOn_73 : decode cX9_goesOn 73 = .ok (.iconst 1, 1) := by decide +kernel
theorem dX9_goesOn_74 : decode cX9_goesOn 74 = .ok (.iand, 1) := by decide +kernel
theorem dX9_goesOn_75 : decode cX9_goesOn 75 = .ok (.iconst 1, 1) := by decide +kernel
theorem dX9_goesOn_76 : decode cX9_goesOn 76 = .ok (.if_icmp .ne 13, 3) := by decide +kernel
theorem dX9_goesOn_79 : decode cX9_goesOn 79 = .ok (.aload_n 0, 1) := by decide +kernel
theorem dX9_goesOn_80 : decode cX9_goesOn 80 = .ok (.getfield 111, 3) := by decide +kernel
theorem dX9_goesOn_83 : decode cX9_goesOn 83 = .ok (.iload_n 2, 1) := by decide +kernel
theorem dX9_goesOn_84 : decode cX9_goesOn 84 = .ok (.aload_n 0, 1) := by decide +kernel
theorem dX9_goesOn_85 : decode cX9_goesOn 85 = .ok (.getfield 384, 3) := by decide +kernel
theorem dX9_goesOn_88 : decode cX9_goesOn 88 = .ok (.iastore, 1) := by decide +kernel
theorem dX9_goesOn_89 : decode cX9_goesOn 89 = .ok (.iinc 2 1, 3) := by decide +kernel
theorem dX9_goesOn_92 : decode cX9_goesOn 92 = .ok (.goto (-28), 3) := by decide +kernel
theorem dX9_goesOn_95 : decode cX9_goesOn 95 = .ok (.goto (-57), 3) := by decide +kernel
theorem dX9_goesOn_98 : decode cX9_goesOn 98 = .ok (.aload_n 0, 1) := by decide +kernel
theorem dX9_goesOn_99 : decode cX9_goesOn 99 = .ok (.aload_n 0, 1) := by decide +kernel
theorem dX9_goesOn_100 : decode cX9_goesOn 100 = .ok (.getfield 93, 3) := by decide +kernel
theorem dX9_goesOn_103 : decode cX9_goesOn 103 = .ok (.iconst 2, 1) := by decide +kernel
theorem dX9_goesOn_104 : decode cX9_goesOn 104 = .ok (.iaload, 1) := by decide +kernel
theorem dX9_goesOn_105 : decode cX9_goesOn 105 = .ok (.putfield 387, 3) := by decide +kernel
theorem dX9_goesOn_108 : decode cX9_goesOn 108 = .ok (.return_, 1) := by decide +kernel
theorem dX9_tries_0 : decode cX9_tries 0 = .ok (.aload_n 0, 1) := by decide +kernel
theorem dX9_tries_1 : decode cX9_tries 1 = .ok (.getfield 93, 3) := by decide +kernel
theorem dX9_tries_4 : decode cX9_tries 4 = .ok (.iconst 0, 1) := by decide +kernel
theorem dX9_tries_5 : decode cX9_tries 5 = .ok (.aload_n 0, 1) := by decide +kernel
theorem dX9_tries_6 : decode cX9_tries 6 = .ok (.getfield 99, 3) := by decide +kernel
theorem dX9_tries_9 : decode cX9_tries 9 = .ok (.iconst 0, 1) := by decide +kernel
theorem dX9_tries_10 : decode cX9_tries 10 = .ok (.invokestatic 350, 3) := by decide +kernel
theorem dX9_tries_13 : decode cX9_tries 13 = .ok (.aload_n 0, 1) := by decide +kernel
theorem dX9_tries_14 : decode cX9_tries 14 = .ok (.invokevirtual 390, 3) := by decide +kernel
theorem dX9_tries_17 : decode cX9_tries 17 = .ok (.aload_n 0, 1) := by decide +kernel
theorem dX9_tries_18 : decode cX9_tries 18 = .ok (.getfield 99, 3) := by decide +kernel
theorem dX9_tries_21 : decode cX9_tries 21 = .ok (.iconst 0, 1) := by decide +kernel
theorem dX9_tries_22 : decode cX9_tries 22 = .ok (.aload_n 0, 1) := by decide +kernel
theorem dX9_tries_23 : decode cX9_tries 23 = .ok (.getfield 93, 3) := by decide +kernel
theorem dX9_tries_26 : decode cX9_tries 26 = .ok (.iconst 0, 1) := by decide +kernel
theorem dX9_tries_27 : decode cX9_tries 27 = .ok (.invokestatic 350, 3) := by decide +kernel
theorem dX9_tries_30 : decode cX9_tries 30 = .ok (.return_, 1) := by decide +kernel
theorem dX9_next_0 : decode cX9_next 0 = .ok (.aload_n 0, 1) := by decide +kernel
theorem dX9_next_1 : decode cX9_next 1 = .ok (.iconst 0, 1) := by decide +kernel
theorem dX9_next_2 : decode cX9_next 2 = .ok (.putfield 130, 3) := by decide +kernel
theorem dX9_next_5 : decode cX9_next 5 = .ok (.aload_n 0, 1) := by decide +kernel
theorem dX9_next_6 : decode cX9_next 6 = .ok (.iload_n 1, 1) := by decide +kernel
theorem dX9_next_7 : decode cX9_next 7 = .ok (.invokevirtual 347, 3) := by decide +kernel
theorem dX9_next_10 : decode cX9_next 10 = .ok (.ifCond .eq 11, 3) := by decide +kernel
theorem dX9_next_13 : decode cX9_next 13 = .ok (.aload_n 0, 1) := by decide +kernel
theorem dX9_next_14 : decode cX9_next 14 = .ok (.iload_n 1, 1) := by decide +kernel
theorem dX9_next_15 : decode cX9_next 15 = .ok (.invokevirtual 319, 3) := by decide +kernel
theorem dX9_next_18 : decode cX9_next 18 = .ok (.goto 4, 3) := by decide +kernel
theorem dX9_next_21 : decode cX9_next 21 = .ok (.iconst (-1), 1) := by decide +kernel
theorem dX9_next_22 : decode cX9_next 22 = .ok (.istore_n 2, 1) := by decide +kernel
theorem dX9_next_23 : decode cX9_next 23 = .ok (.iload_n 2, 1) := by decide +kernel
theorem dX9_next_24 : decode cX9_next 24 = .ok (.ifCond .ge 5, 3) := by decide +kernel
theorem dX9_next_27 : decode cX9_next 27 = .ok (.iconst (-1), 1) := by decide +kernel
theorem dX9_next_28 : decode cX9_next 28 = .ok (.ireturn, 1) := by decide +kernel
theorem dX9_next_29 : decode cX9_next 29 = .ok (.iload_n 2, 1) := by decide +kernel
theorem dX9_next_30 : decode cX9_next 30 = .ok (.iconst 2, 1) := by decide +kernel
theorem dX9_next_31 : decode cX9_next 31 = .ok (.irem, 1) := by decide +kernel
theorem dX9_next_32 : decode cX9_next 32 = .ok (.ifCond .ne 9, 3) := by decide +kernel
theorem dX9_next_35 : decode cX9_next 35 = .ok (.iload_n 2, 1) := by decide +kernel
theorem dX9_next_36 : decode cX9_next 36 = .ok (.iconst 1, 1) := by decide +kernel
theorem dX9_next_37 : decode cX9_next 37 = .ok (.iadd, 1) := by decide +kernel
theorem dX9_next_38 : decode cX9_next 38 = .ok (.goto 6, 3) := by decide +kernel
theorem dX9_next_41 : decode cX9_next 41 = .ok (.iload_n 2, 1) := by decide +kernel
theorem dX9_next_42 : decode cX9_next 42 = .ok (.iconst 1, 1) := by decide +kernel
theorem dX9_next_43 : decode cX9_next 43 = .ok (.isub, 1) := by decide +kernel
theorem dX9_next_44 : decode cX9_next 44 = .ok (.istore_n 3, 1) := by decide +kernel
theorem dX9_next_45 : decode cX9_next 45 = .ok (.iload_n 3, 1) := by decide +kernel
theorem dX9_next_46 : decode cX9_next 46 = .ok (.aload_n 0, 1) := by decide +kernel
theorem dX9_next_47 : decode cX9_next 47 = .ok (.getfield 93, 3) := by decide +kernel
theorem dX9_next_50 : decode cX9_next 50 = .ok (.iconst 1, 1) := by decide +kernel
theorem dX9_next_51 : decode cX9_next 51 = .ok (.iaload, 1) := by decide +kernel
theorem dX9_next_52 : decode cX9_next 52 = .ok (.if_icmp .ge 14, 3) := by decide +kernel
theorem dX9_next_55 : decode cX9_next 55 = .ok (.aload_n 0, 1) := by decide +kernel
theorem dX9_next_56 : decode cX9_next 56 = .ok (.getfield 93, 3) := by decide +kernel
theorem dX9_next_59 : decode cX9_next 59 = .ok (.iconst 4, 1) := by decide +kernel
theorem dX9_next_60 : decode cX9_next 60 = .ok (.iload_n 3, 1) := by decide +kernel
theorem dX9_next_61 : decode cX9_next 61 = .ok (.iadd, 1) := by decide +kernel
theorem dX9_next_62 : decode cX9_next 62 = .ok (.iaload, 1) := by decide +kernel
theorem dX9_next_63 : decode cX9_next 63 = .ok (.goto 4, 3) := by decide +kernel
theorem dX9_next_66 : decode cX9_next 66 = .ok (.iconst (-1), 1) := by decide +kernel
theorem dX9_next_67 : decode cX9_next 67 = .ok (.ireturn, 1) := by decide +kernel
theorem dX9_when_0 : decode cX9_when 0 = .ok (.aload_n 0, 1) := by decide +kernel
theorem dX9_when_1 : decode cX9_when 1 = .ok (.iconst 0, 1) := by decide +kernel
theorem dX9_when_2 : decode cX9_when 2 = .ok (.putfield 130, 3) := by decide +kernel
theorem dX9_when_5 : decode cX9_when 5 = .ok (.aload_n 0, 1) := by decide +kernel
theorem dX9_when_6 : decode cX9_when 6 = .ok (.iload_n 1, 1) := by decide +kernel
theorem dX9_when_7 : decode cX9_when 7 = .ok (.invokevirtual 347, 3) := by decide +kernel
theorem dX9_when_10 : decode cX9_when 10 = .ok (.ifCond .ne 5, 3) := by decide +kernel
theorem dX9_when_13 : decode cX9_when 13 = .ok (.iconst (-1), 1) := by decide +kernel
theorem dX9_when_14 : decode cX9_when 14 = .ok (.ireturn, 1) := by decide +kernel
theorem dX9_when_15 : decode cX9_when 15 = .ok (.aload_n 0, 1) := by decide +kernel
theorem dX9_when_16 : decode cX9_when 16 = .ok (.invokevirtual 393, 3) := by decide +kernel
theorem dX9_when_19 : decode cX9_when 19 = .ok (.aload_n 0, 1) := by decide +kernel
theorem dX9_when_20 : decode cX9_when 20 = .ok (.getfield 111, 3) := by decide +kernel
theorem dX9_when_23 : decode cX9_when 23 = .ok (.iload_n 1, 1) := by decide +kernel
theorem dX9_when_24 : decode cX9_when 24 = .ok (.iaload, 1) := by decide +kernel
theorem dX9_when_25 : decode cX9_when 25 = .ok (.ireturn, 1) := by decide +kernel
theorem dX9_empty_0 : decode cX9_empty 0 = .ok (.aload_n 0, 1) := by decide +kernel
theorem dX9_empty_1 : decode cX9_empty 1 = .ok (.iconst 0, 1) := by decide +kernel
theorem dX9_empty_2 : decode cX9_empty 2 = .ok (.putfield 130, 3) := by decide +kernel
theorem dX9_empty_5 : decode cX9_empty 5 = .ok (.aload_n 0, 1) := by decide +kernel
theorem dX9_empty_6 : decode cX9_empty 6 = .ok (.invokevirtual 393, 3) := by decide +kernel
theorem dX9_empty_9 : decode cX9_empty 9 = .ok (.aload_n 0, 1) := by decide +kernel
theorem dX9_empty_10 : decode cX9_empty 10 = .ok (.getfield 384, 3) := by decide +kernel
theorem dX9_empty_13 : decode cX9_empty 13 = .ok (.ireturn, 1) := by decide +kernel
theorem dX9_gone_0 : decode cX9_gone 0 = .ok (.aload_n 0, 1) := by decide +kernel
theorem dX9_gone_1 : decode cX9_gone 1 = .ok (.iconst 0, 1) := by decide +kernel
theorem dX9_gone_2 : decode cX9_gone 2 = .ok (.putfield 130, 3) := by decide +kernel
theorem dX9_gone_5 : decode cX9_gone 5 = .ok (.aload_n 0, 1) := by decide +kernel
theorem dX9_gone_6 : decode cX9_gone 6 = .ok (.iload_n 1, 1) := by decide +kernel
theorem dX9_gone_7 : decode cX9_gone 7 = .ok (.invokevirtual 347, 3) := by decide +kernel
theorem dX9_gone_10 : decode cX9_gone 10 = .ok (.ifCond .eq 11, 3) := by decide +kernel
theorem dX9_gone_13 : decode cX9_gone 13 = .ok (.aload_n 0, 1) := by decide +kernel
theorem dX9_gone_14 : decode cX9_gone 14 = .ok (.iload_n 1, 1) := by decide +kernel
theorem dX9_gone_15 : decode cX9_gone 15 = .ok (.invokevirtual 319, 3) := by decide +kernel
theorem dX9_gone_18 : decode cX9_gone 18 = .ok (.ifCond .ge 5, 3) := by decide +kernel
theorem dX9_gone_21 : decode cX9_gone 21 = .ok (.iconst (-1), 1) := by decide +kernel
theorem dX9_gone_22 : decode cX9_gone 22 = .ok (.ireturn, 1) := by decide +kernel
theorem dX9_gone_23 : decode cX9_gone 23 = .ok (.aload_n 0, 1) := by decide +kernel
theorem dX9_gone_24 : decode cX9_gone 24 = .ok (.getfield 93, 3) := by decide +kernel
theorem dX9_gone_27 : decode cX9_gone 27 = .ok (.iconst 0, 1) := by decide +kernel
theorem dX9_gone_28 : decode cX9_gone 28 = .ok (.aload_n 0, 1) := by decide +kernel
theorem dX9_gone_29 : decode cX9_gone 29 = .ok (.getfield 99, 3) := by decide +kernel
theorem dX9_gone_32 : decode cX9_gone 32 = .ok (.iconst 0, 1) := by decide +kernel
theorem dX9_gone_33 : decode cX9_gone 33 = .ok (.invokestatic 350, 3) := by decide +kernel
theorem dX9_gone_36 : decode cX9_gone 36 = .ok (.iconst 0, 1) := by decide +kernel
theorem dX9_gone_37 : decode cX9_gone 37 = .ok (.istore_n 2, 1) := by decide +kernel
theorem dX9_gone_38 : decode cX9_gone 38 = .ok (.aload_n 0, 1) := by decide +kernel
theorem dX9_gone_39 : decode cX9_gone 39 = .ok (.iload_n 1, 1) := by decide +kernel
theorem dX9_gone_40 : decode cX9_gone 40 = .ok (.invokevirtual 319, 3) := by decide +kernel
theorem dX9_gone_43 : decode cX9_gone 43 = .ok (.ifCond .lt 14, 3) := by decide +kernel
theorem dX9_gone_46 : decode cX9_gone 46 = .ok (.aload_n 0, 1) := by decide +kernel
theorem dX9_gone_47 : decode cX9_gone 47 = .ok (.invokevirtual 369, 3) := by decide +kernel
theorem dX9_gone_50 : decode cX9_gone 50 = .ok (.pop, 1) := by decide +kernel
theorem dX9_gone_51 : decode cX9_gone 51 = .ok (.iinc 2 1, 3) := by decide +kernel
theorem dX9_gone_54 : decode cX9_gone 54 = .ok (.goto (-16), 3) := by decide +kernel
theorem dX9_gone_57 : decode cX9_gone 57 = .ok (.aload_n 0, 1) := by decide +kernel
theorem dX9_gone_58 : decode cX9_gone 58 = .ok (.getfield 99, 3) := by decide +kernel
theorem dX9_gone_61 : decode cX9_gone 61 = .ok (.iconst 0, 1) := by decide +kernel
theorem dX9_gone_62 : decode cX9_gone 62 = .ok (.aload_n 0, 1) := by decide +kernel
theorem dX9_gone_63 : decode cX9_gone 63 = .ok (.getfield 93, 3) := by decide +kernel
theorem dX9_gone_66 : decode cX9_gone 66 = .ok (.iconst 0, 1) := by decide +kernel
theorem dX9_gone_67 : decode cX9_gone 67 = .ok (.invokestatic 350, 3) := by decide +kernel
theorem dX9_gone_70 : decode cX9_gone 70 = .ok (.iload_n 2, 1) := by decide +kernel
theorem dX9_gone_71 : decode cX9_gone 71 = .ok (.ireturn, 1) := by decide +kernel
theorem dX9_holders_0 : decode cX9_holders 0 = .ok (.aload_n 0, 1) := by decide +kernel
theorem dX9_holders_1 : decode cX9_holders 1 = .ok (.iconst 0, 1) := by decide +kernel
theorem dX9_holders_2 : decode cX9_holders 2 = .ok (.putfield 130, 3) := by decide +kernel
theorem dX9_holders_5 : decode cX9_holders 5 = .ok (.iload_n 1, 1) := by decide +kernel
theorem dX9_holders_6 : decode cX9_holders 6 = .ok (.iconst 0, 1) := by decide +kernel
theorem dX9_holders_7 : decode cX9_holders 7 = .ok (.bipush 9, 2) := by decide +kernel
theorem dX9_holders_9 : decode cX9_holders 9 = .ok (.invokestatic 244, 3) := by decide +kernel
theorem dX9_holders_12 : decode cX9_holders 12 = .ok (.ifCond .ne 5, 3) := by decide +kernel
theorem dX9_holders_15 : decode cX9_holders 15 = .ok (.iconst (-1), 1) := by decide +kernel
theorem dX9_holders_16 : decode cX9_holders 16 = .ok (.ireturn, 1) := by decide +kernel
theorem dX9_holders_17 : decode cX9_holders 17 = .ok (.iconst 0, 1) := by decide +kernel
theorem dX9_holders_18 : decode cX9_holders 18 = .ok (.istore_n 2, 1) := by decide +kernel
theorem dX9_holders_19 : decode cX9_holders 19 = .ok (.iconst 0, 1) := by decide +kernel
theorem dX9_holders_20 : decode cX9_holders 20 = .ok (.istore_n 3, 1) := by decide +kernel
theorem dX9_holders_21 : decode cX9_holders 21 = .ok (.iload_n 3, 1) := by decide +kernel
theorem dX9_holders_22 : decode cX9_holders 22 = .ok (.aload_n 0, 1) := by decide +kernel
theorem dX9_holders_23 : decode cX9_holders 23 = .ok (.getfield 13, 3) := by decide +kernel
theorem dX9_holders_26 : decode cX9_holders 26 = .ok (.iconst 0, 1) := by decide +kernel
theorem dX9_holders_27 : decode cX9_holders 27 = .ok (.iaload, 1) := by decide +kernel
theorem dX9_holders_28 : decode cX9_holders 28 = .ok (.if_icmp .ge 27, 3) := by decide +kernel
theorem dX9_holders_31 : decode cX9_holders 31 = .ok (.iload_n 2, 1) := by decide +kernel
theorem dX9_holders_32 : decode cX9_holders 32 = .ok (.aload_n 0, 1) := by decide +kernel
theorem dX9_holders_33 : decode cX9_holders 33 = .ok (.getfield 93, 3) := by decide +kernel
theorem dX9_holders_36 : decode cX9_holders 36 = .ok (.bipush 16, 2) := by decide +kernel
theorem dX9_holders_38 : decode cX9_holders 38 = .ok (.iload_n 3, 1) := by decide +kernel
theorem dX9_holders_39 : decode cX9_holders 39 = .ok (.iadd, 1) := by decide +kernel
theorem dX9_holders_40 : decode cX9_holders 40 = .ok (.iaload, 1) := by decide +kernel
theorem dX9_holders_41 : decode cX9_holders 41 = .ok (.iload_n 1, 1) := by decide +kernel
theorem dX9_holders_42 : decode cX9_holders 42 = .ok (.ishr, 1) := by decide +kernel
theorem dX9_holders_43 : decode cX9_holders 43 = .ok (.iconst 1, 1) := by decide +kernel
theorem dX9_holders_44 : decode cX9_holders 44 = .ok (.iand, 1) := by decide +kernel
theorem dX9_holders_45 : decode cX9_holders 45 = .ok (.iload_n 3, 1) := by decide +kernel
theorem dX9_holders_46 : decode cX9_holders 46 = .ok (.ishl, 1) := by decide +kernel
theorem dX9_holders_47 : decode cX9_holders 47 = .ok (.ior, 1) := by decide +kernel
theorem dX9_holders_48 : decode cX9_holders 48 = .ok (.istore_n 2, 1) := by decide +kernel
theorem dX9_holders_49 : decode cX9_holders 49 = .ok (.iinc 3 1, 3) := by decide +kernel
theorem dX9_holders_52 : decode cX9_holders 52 = .ok (.goto (-31), 3) := by decide +kernel
theorem dX9_holders_55 : decode cX9_holders 55 = .ok (.iload_n 2, 1) := by decide +kernel
theorem dX9_holders_56 : decode cX9_holders 56 = .ok (.ireturn, 1) := by decide +kernel
theorem dX9_hears_0 : decode cX9_hears 0 = .ok (.aload_n 0, 1) := by decide +kernel
theorem dX9_hears_1 : decode cX9_hears 1 = .ok (.iconst 0, 1) := by decide +kernel
theorem dX9_hears_2 : decode cX9_hears 2 = .ok (.putfield 130, 3) := by decide +kernel
theorem dX9_hears_5 : decode cX9_hears 5 = .ok (.aload_n 0, 1) := by decide +kernel
theorem dX9_hears_6 : decode cX9_hears 6 = .ok (.iload_n 1, 1) := by decide +kernel
theorem dX9_hears_7 : decode cX9_hears 7 = .ok (.invokevirtual 347, 3) := by decide +kernel
theorem dX9_hears_10 : decode cX9_hears 10 = .ok (.ifCond .eq 16, 3) := by decide +kernel
theorem dX9_hears_13 : decode cX9_hears 13 = .ok (.aload_n 0, 1) := by decide +kernel
theorem dX9_hears_14 : decode cX9_hears 14 = .ok (.iload_n 2, 1) := by decide +kernel
theorem dX9_hears_15 : decode cX9_hears 15 = .ok (.invokevirtual 347, 3) := by decide +kernel
theorem dX9_hears_18 : decode cX9_hears 18 = .ok (.ifCond .eq 8, 3) := by decide +kernel
theorem dX9_hears_21 : decode cX9_hears 21 = .ok (.iload_n 1, 1) := by decide +kernel
theorem dX9_hears_22 : decode cX9_hears 22 = .ok (.iload_n 2, 1) := by decide +kernel
theorem dX9_hears_23 : decode cX9_hears 23 = .ok (.if_icmp .ne 5, 3) := by decide +kernel
theorem dX9_hears_26 : decode cX9_hears 26 = .ok (.iconst (-1), 1) := by decide +kernel
theorem dX9_hears_27 : decode cX9_hears 27 = .ok (.ireturn, 1) := by decide +kernel
theorem dX9_hears_28 : decode cX9_hears 28 = .ok (.aload_n 0, 1) := by decide +kernel
theorem dX9_hears_29 : decode cX9_hears 29 = .ok (.getfield 93, 3) := by decide +kernel
theorem dX9_hears_32 : decode cX9_hears 32 = .ok (.iconst 0, 1) := by decide +kernel
theorem dX9_hears_33 : decode cX9_hears 33 = .ok (.aload_n 0, 1) := by decide +kernel
theorem dX9_hears_34 : decode cX9_hears 34 = .ok (.getfield 99, 3) := by decide +kernel
theorem dX9_hears_37 : decode cX9_hears 37 = .ok (.iconst 0, 1) := by decide +kernel
theorem dX9_hears_38 : decode cX9_hears 38 = .ok (.invokestatic 350, 3) := by decide +kernel
theorem dX9_hears_41 : decode cX9_hears 41 = .ok (.aload_n 0, 1) := by decide +kernel
theorem dX9_hears_42 : decode cX9_hears 42 = .ok (.getfield 93, 3) := by decide +kernel
theorem dX9_hears_45 : decode cX9_hears 45 = .ok (.bipush 16, 2) := by decide +kernel
theorem dX9_hears_47 : decode cX9_hears 47 = .ok (.iload_n 1, 1) := by decide +kernel
theorem dX9_hears_48 : decode cX9_hears 48 = .ok (.iadd, 1) := by decide +kernel
theorem dX9_hears_49 : decode cX9_hears 49 = .ok (.iaload, 1) := by decide +kernel
theorem dX9_hears_50 : decode cX9_hears 50 = .ok (.istore_n 3, 1) := by decide +kernel
theorem dX9_hears_51 : decode cX9_hears 51 = .ok (.aload_n 0, 1) := by decide +kernel
theorem dX9_hears_52 : decode cX9_hears 52 = .ok (.getfield 93, 3) := by decide +kernel
theorem dX9_hears_55 : decode cX9_hears 55 = .ok (.bipush 22, 2) := by decide +kernel
theorem dX9_hears_57 : decode cX9_hears 57 = .ok (.bipush 6, 2) := by decide +kernel
theorem dX9_hears_59 : decode cX9_hears 59 = .ok (.iload_n 1, 1) := by decide +kernel
theorem dX9_hears_60 : decode cX9_hears 60 = .ok (.imul, 1) := by decide +kernel
theorem dX9_hears_61 : decode cX9_hears 61 = .ok (.iadd, 1) := by decide +kernel
theorem dX9_hears_62 : decode cX9_hears 62 = .ok (.iload_n 2, 1) := by decide +kernel
theorem dX9_hears_63 : decode cX9_hears 63 = .ok (.iadd, 1) := by decide +kernel
theorem dX9_hears_64 : decode cX9_hears 64 = .ok (.dup2, 1) := by decide +kernel
theorem dX9_hears_65 : decode cX9_hears 65 = .ok (.iaload, 1) := by decide +kernel
theorem dX9_hears_66 : decode cX9_hears 66 = .ok (.iconst 1, 1) := by decide +kernel
theorem dX9_hears_67 : decode cX9_hears 67 = .ok (.iadd, 1) := by decide +kernel
theorem dX9_hears_68 : decode cX9_hears 68 = .ok (.iastore, 1) := by decide +kernel
theorem dX9_hears_69 : decode cX9_hears 69 = .ok (.aload_n 0, 1) := by decide +kernel
theorem dX9_hears_70 : decode cX9_hears 70 = .ok (.iload_n 2, 1) := by decide +kernel
theorem dX9_hears_71 : decode cX9_hears 71 = .ok (.iload_n 1, 1) := by decide +kernel
theorem dX9_hears_72 : decode cX9_hears 72 = .ok (.iconst (-1), 1) := by decide +kernel
theorem dX9_hears_73 : decode cX9_hears 73 = .ok (.invokevirtual 331, 3) := by decide +kernel
theorem dX9_hears_76 : decode cX9_hears 76 = .ok (.aload_n 0, 1) := by decide +kernel
theorem dX9_hears_77 : decode cX9_hears 77 = .ok (.getfield 93, 3) := by decide +kernel
theorem dX9_hears_80 : decode cX9_hears 80 = .ok (.bipush 16, 2) := by decide +kernel
theorem dX9_hears_82 : decode cX9_hears 82 = .ok (.iload_n 1, 1) := by decide +kernel
theorem dX9_hears_83 : decode cX9_hears 83 = .ok (.iadd, 1) := by decide +kernel
theorem dX9_hears_84 : decode cX9_hears 84 = .ok (.iaload, 1) := by decide +kernel
theorem dX9_hears_85 : decode cX9_hears 85 = .ok (.istore 4, 2) := by decide +kernel
theorem dX9_hears_87 : decode cX9_hears 87 = .ok (.aload_n 0, 1) := by decide +kernel
theorem dX9_hears_88 : decode cX9_hears 88 = .ok (.getfield 99, 3) := by decide +kernel
theorem dX9_hears_91 : decode cX9_hears 91 = .ok (.iconst 0, 1) := by decide +kernel
theorem dX9_hears_92 : decode cX9_hears 92 = .ok (.aload_n 0, 1) := by decide +kernel
theorem dX9_hears_93 : decode cX9_hears 93 = .ok (.getfield 93, 3) := by decide +kernel
theorem dX9_hears_96 : decode cX9_hears 96 = .ok (.iconst 0, 1) := by decide +kernel
theorem dX9_hears_97 : decode cX9_hears 97 = .ok (.invokestatic 350, 3) := by decide +kernel
theorem dX9_hears_100 : decode cX9_hears 100 = .ok (.iload 4, 2) := by decide +kernel
theorem dX9_hears_102 : decode cX9_hears 102 = .ok (.iload_n 3, 1) := by decide +kernel
theorem dX9_hears_103 : decode cX9_hears 103 = .ok (.iconst (-1), 1) := by decide +kernel
theorem dX9_hears_104 : decode cX9_hears 104 = .ok (.ixor, 1) := by decide +kernel
theorem dX9_hears_105 : decode cX9_hears 105 = .ok (.iand, 1) := by decide +kernel
theorem dX9_hears_106 : decode cX9_hears 106 = .ok (.ireturn, 1) := by decide +kernel
theorem dX9_meets_0 : decode cX9_meets 0 = .ok (.aload_n 0, 1) := by decide +kernel
theorem dX9_meets_1 : decode cX9_meets 1 = .ok (.iconst 0, 1) := by decide +kernel
theorem dX9_meets_2 : decode cX9_meets 2 = .ok (.putfield 130, 3) := by decide +kernel
theorem dX9_meets_5 : decode cX9_meets 5 = .ok (.aload_n 0, 1) := by decide +kernel
theorem dX9_meets_6 : decode cX9_meets 6 = .ok (.iload_n 1, 1) := by decide +kernel
theorem dX9_meets_7 : decode cX9_meets 7 = .ok (.invokevirtual 347, 3) := by decide +kernel
theorem dX9_meets_10 : decode cX9_meets 10 = .ok (.ifCond .eq 16, 3) := by decide +kernel
theorem dX9_meets_13 : decode cX9_meets 13 = .ok (.aload_n 0, 1) := by decide +kernel
theorem dX9_meets_14 : decode cX9_meets 14 = .ok (.iload_n 2, 1) := by decide +kernel
theorem dX9_meets_15 : decode cX9_meets 15 = .ok (.invokevirtual 347, 3) := by decide +kernel
theorem dX9_meets_18 : decode cX9_meets 18 = .ok (.ifCond .eq 8, 3) := by decide +kernel
theorem dX9_meets_21 : decode cX9_meets 21 = .ok (.iload_n 1, 1) := by decide +kernel
theorem dX9_meets_22 : decode cX9_meets 22 = .ok (.iload_n 2, 1) := by decide +kernel
theorem dX9_meets_23 : decode cX9_meets 23 = .ok (.if_icmp .ne 5, 3) := by decide +kernel
theorem dX9_meets_26 : decode cX9_meets 26 = .ok (.iconst (-1), 1) := by decide +kernel
theorem dX9_meets_27 : decode cX9_meets 27 = .ok (.ireturn, 1) := by decide +kernel
theorem dX9_meets_28 : decode cX9_meets 28 = .ok (.aload_n 0, 1) := by decide +kernel
theorem dX9_meets_29 : decode cX9_meets 29 = .ok (.getfield 93, 3) := by decide +kernel
theorem dX9_meets_32 : decode cX9_meets 32 = .ok (.iconst 0, 1) := by decide +kernel
theorem dX9_meets_33 : decode cX9_meets 33 = .ok (.aload_n 0, 1) := by decide +kernel
theorem dX9_meets_34 : decode cX9_meets 34 = .ok (.getfield 99, 3) := by decide +kernel
theorem dX9_meets_37 : decode cX9_meets 37 = .ok (.iconst 0, 1) := by decide +kernel
theorem dX9_meets_38 : decode cX9_meets 38 = .ok (.invokestatic 350, 3) := by decide +kernel
theorem dX9_meets_41 : decode cX9_meets 41 = .ok (.aload_n 0, 1) := by decide +kernel
theorem dX9_meets_42 : decode cX9_meets 42 = .ok (.getfield 93, 3) := by decide +kernel
theorem dX9_meets_45 : decode cX9_meets 45 = .ok (.bipush 22, 2) := by decide +kernel
theorem dX9_meets_47 : decode cX9_meets 47 = .ok (.bipush 6, 2) := by decide +kernel
theorem dX9_meets_49 : decode cX9_meets 49 = .ok (.iload_n 1, 1) := by decide +kernel
theorem dX9_meets_50 : decode cX9_meets 50 = .ok (.imul, 1) := by decide +kernel
theorem dX9_meets_51 : decode cX9_meets 51 = .ok (.iadd, 1) := by decide +kernel
theorem dX9_meets_52 : decode cX9_meets 52 = .ok (.iload_n 2, 1) := by decide +kernel
theorem dX9_meets_53 : decode cX9_meets 53 = .ok (.iadd, 1) := by decide +kernel
theorem dX9_meets_54 : decode cX9_meets 54 = .ok (.iaload, 1) := by decide +kernel
theorem dX9_meets_55 : decode cX9_meets 55 = .ok (.istore_n 3, 1) := by decide +kernel
theorem dX9_meets_56 : decode cX9_meets 56 = .ok (.iconst 0, 1) := by decide +kernel
theorem dX9_meets_57 : decode cX9_meets 57 = .ok (.istore 4, 2) := by decide +kernel
theorem dX9_meets_59 : decode cX9_meets 59 = .ok (.iconst (-1), 1) := by decide +kernel
theorem dX9_meets_60 : decode cX9_meets 60 = .ok (.istore 5, 2) := by decide +kernel
theorem dX9_meets_62 : decode cX9_meets 62 = .ok (.aload_n 0, 1) := by decide +kernel
theorem dX9_meets_63 : decode cX9_meets 63 = .ok (.getfield 93, 3) := by decide +kernel
theorem dX9_meets_66 : decode cX9_meets 66 = .ok (.iconst 1, 1) := by decide +kernel
theorem dX9_meets_67 : decode cX9_meets 67 = .ok (.iaload, 1) := by decide +kernel
theorem dX9_meets_68 : decode cX9_meets 68 = .ok (.ifCond .le 41, 3) := by decide +kernel
theorem dX9_meets_71 : decode cX9_meets 71 = .ok (.iload 5, 2) := by decide +kernel
theorem dX9_meets_73 : decode cX9_meets 73 = .ok (.ifCond .ge 36, 3) := by decide +kernel
theorem dX9_meets_76 : decode cX9_meets 76 = .ok (.aload_n 0, 1) := by decide +kernel
theorem dX9_meets_77 : decode cX9_meets 77 = .ok (.invokevirtual 369, 3) := by decide +kernel
theorem dX9_meets_80 : decode cX9_meets 80 = .ok (.pop, 1) := by decide +kernel
theorem dX9_meets_81 : decode cX9_meets 81 = .ok (.iinc 4 1, 3) := by decide +kernel
theorem dX9_meets_84 : decode cX9_meets 84 = .ok (.aload_n 0, 1) := by decide +kernel
theorem dX9_meets_85 : decode cX9_meets 85 = .ok (.getfield 93, 3) := by decide +kernel
theorem dX9_meets_88 : decode cX9_meets 88 = .ok (.bipush 22, 2) := by decide +kernel
theorem dX9_meets_90 : decode cX9_meets 90 = .ok (.bipush 6, 2) := by decide +kernel
theorem dX9_meets_92 : decode cX9_meets 92 = .ok (.iload_n 1, 1) := by decide +kernel
theorem dX9_meets_93 : decode cX9_meets 93 = .ok (.imul, 1) := by decide +kernel
theorem dX9_meets_94 : decode cX9_meets 94 = .ok (.iadd, 1) := by decide +kernel
theorem dX9_meets_95 : decode cX9_meets 95 = .ok (.iload_n 2, 1) := by decide +kernel
theorem dX9_meets_96 : decode cX9_meets 96 = .ok (.iadd, 1) := by decide +kernel
theorem dX9_meets_97 : decode cX9_meets 97 = .ok (.iaload, 1) := by decide +kernel
theorem dX9_meets_98 : decode cX9_meets 98 = .ok (.iload_n 3, 1) := by decide +kernel
