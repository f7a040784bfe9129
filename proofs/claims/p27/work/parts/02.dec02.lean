theorem dL_came_14 : decode cL_came 14 = .ok (.aload_n 1, 1) := by decide +kernel
theorem dL_came_15 : decode cL_came 15 = .ok (.iconst 4, 1) := by decide +kernel
theorem dL_came_16 : decode cL_came 16 = .ok (.iaload, 1) := by decide +kernel
theorem dL_came_17 : decode cL_came 17 = .ok (.ifCond .le 24, 3) := by decide +kernel
theorem dL_came_20 : decode cL_came 20 = .ok (.aload_n 1, 1) := by decide +kernel
theorem dL_came_21 : decode cL_came 21 = .ok (.iconst 4, 1) := by decide +kernel
theorem dL_came_22 : decode cL_came 22 = .ok (.iaload, 1) := by decide +kernel
theorem dL_came_23 : decode cL_came 23 = .ok (.aload_n 0, 1) := by decide +kernel
theorem dL_came_24 : decode cL_came 24 = .ok (.iconst 3, 1) := by decide +kernel
theorem dL_came_25 : decode cL_came 25 = .ok (.invokevirtual 14, 3) := by decide +kernel
theorem dL_came_28 : decode cL_came 28 = .ok (.if_icmp .gt 13, 3) := by decide +kernel
theorem dL_came_31 : decode cL_came 31 = .ok (.aload_n 1, 1) := by decide +kernel
theorem dL_came_32 : decode cL_came 32 = .ok (.iconst 3, 1) := by decide +kernel
theorem dL_came_33 : decode cL_came 33 = .ok (.iaload, 1) := by decide +kernel
theorem dL_came_34 : decode cL_came 34 = .ok (.ifCond .lt 7, 3) := by decide +kernel
theorem dL_came_37 : decode cL_came 37 = .ok (.iconst 1, 1) := by decide +kernel
theorem dL_came_38 : decode cL_came 38 = .ok (.goto 4, 3) := by decide +kernel
theorem dL_came_41 : decode cL_came 41 = .ok (.iconst 0, 1) := by decide +kernel
theorem dL_came_42 : decode cL_came 42 = .ok (.istore_n 3, 1) := by decide +kernel
theorem dL_came_43 : decode cL_came 43 = .ok (.aload_n 1, 1) := by decide +kernel
theorem dL_came_44 : decode cL_came 44 = .ok (.iconst 0, 1) := by decide +kernel
theorem dL_came_45 : decode cL_came 45 = .ok (.iaload, 1) := by decide +kernel
theorem dL_came_46 : decode cL_came 46 = .ok (.ifCond .eq 78, 3) := by decide +kernel
theorem dL_came_49 : decode cL_came 49 = .ok (.iload_n 3, 1) := by decide +kernel
theorem dL_came_50 : decode cL_came 50 = .ok (.ifCond .eq 72, 3) := by decide +kernel
theorem dL_came_53 : decode cL_came 53 = .ok (.iload_n 2, 1) := by decide +kernel
theorem dL_came_54 : decode cL_came 54 = .ok (.sipush (-1005), 3) := by decide +kernel
theorem dL_came_57 : decode cL_came 57 = .ok (.if_icmp .ne 65, 3) := by decide +kernel
theorem dL_came_60 : decode cL_came 60 = .ok (.aload_n 0, 1) := by decide +kernel
theorem dL_came_61 : decode cL_came 61 = .ok (.aload_n 1, 1) := by decide +kernel
theorem dL_came_62 : decode cL_came 62 = .ok (.invokestatic 36, 3) := by decide +kernel
theorem dL_came_65 : decode cL_came 65 = .ok (.ifCond .eq 57, 3) := by decide +kernel
theorem dL_came_68 : decode cL_came 68 = .ok (.aload_n 0, 1) := by decide +kernel
theorem dL_came_69 : decode cL_came 69 = .ok (.iconst 5, 1) := by decide +kernel
theorem dL_came_70 : decode cL_came 70 = .ok (.invokevirtual 14, 3) := by decide +kernel
theorem dL_came_73 : decode cL_came 73 = .ok (.aload_n 1, 1) := by decide +kernel
theorem dL_came_74 : decode cL_came 74 = .ok (.iconst 5, 1) := by decide +kernel
theorem dL_came_75 : decode cL_came 75 = .ok (.iaload, 1) := by decide +kernel
theorem dL_came_76 : decode cL_came 76 = .ok (.if_icmp .ne 46, 3) := by decide +kernel
theorem dL_came_79 : decode cL_came 79 = .ok (.aload_n 0, 1) := by decide +kernel
theorem dL_came_80 : decode cL_came 80 = .ok (.bipush 6, 2) := by decide +kernel
theorem dL_came_82 : decode cL_came 82 = .ok (.invokevirtual 14, 3) := by decide +kernel
theorem dL_came_85 : decode cL_came 85 = .ok (.aload_n 1, 1) := by decide +kernel
theorem dL_came_86 : decode cL_came 86 = .ok (.bipush 6, 2) := by decide +kernel
theorem dL_came_88 : decode cL_came 88 = .ok (.iaload, 1) := by decide +kernel
theorem dL_came_89 : decode cL_came 89 = .ok (.if_icmp .ne 33, 3) := by decide +kernel
theorem dL_came_92 : decode cL_came 92 = .ok (.aload_n 0, 1) := by decide +kernel
theorem dL_came_93 : decode cL_came 93 = .ok (.bipush 7, 2) := by decide +kernel
theorem dL_came_95 : decode cL_came 95 = .ok (.invokevirtual 14, 3) := by decide +kernel
theorem dL_came_98 : decode cL_came 98 = .ok (.aload_n 1, 1) := by decide +kernel
theorem dL_came_99 : decode cL_came 99 = .ok (.bipush 7, 2) := by decide +kernel
theorem dL_came_101 : decode cL_came 101 = .ok (.iaload, 1) := by decide +kernel
theorem dL_came_102 : decode cL_came 102 = .ok (.if_icmp .ne 20, 3) := by decide +kernel
theorem dL_came_105 : decode cL_came 105 = .ok (.aload_n 0, 1) := by decide +kernel
theorem dL_came_106 : decode cL_came 106 = .ok (.bipush 8, 2) := by decide +kernel
theorem dL_came_108 : decode cL_came 108 = .ok (.invokevirtual 14, 3) := by decide +kernel
theorem dL_came_111 : decode cL_came 111 = .ok (.aload_n 1, 1) := by decide +kernel
theorem dL_came_112 : decode cL_came 112 = .ok (.bipush 8, 2) := by decide +kernel
theorem dL_came_114 : decode cL_came 114 = .ok (.iaload, 1) := by decide +kernel
theorem dL_came_115 : decode cL_came 115 = .ok (.if_icmp .ne 7, 3) := by decide +kernel
theorem dL_came_118 : decode cL_came 118 = .ok (.iconst 1, 1) := by decide +kernel
theorem dL_came_119 : decode cL_came 119 = .ok (.goto 4, 3) := by decide +kernel
theorem dL_came_122 : decode cL_came 122 = .ok (.iconst 0, 1) := by decide +kernel
theorem dL_came_123 : decode cL_came 123 = .ok (.ireturn, 1) := by decide +kernel
theorem dL_came_124 : decode cL_came 124 = .ok (.aload_n 1, 1) := by decide +kernel
theorem dL_came_125 : decode cL_came 125 = .ok (.iconst 4, 1) := by decide +kernel
theorem dL_came_126 : decode cL_came 126 = .ok (.iaload, 1) := by decide +kernel
theorem dL_came_127 : decode cL_came 127 = .ok (.aload_n 1, 1) := by decide +kernel
theorem dL_came_128 : decode cL_came 128 = .ok (.bipush 8, 2) := by decide +kernel
theorem dL_came_130 : decode cL_came 130 = .ok (.iaload, 1) := by decide +kernel
theorem dL_came_131 : decode cL_came 131 = .ok (.if_icmp .le 9, 3) := by decide +kernel
theorem dL_came_134 : decode cL_came 134 = .ok (.aload_n 1, 1) := by decide +kernel
theorem dL_came_135 : decode cL_came 135 = .ok (.iconst 4, 1) := by decide +kernel
theorem dL_came_136 : decode cL_came 136 = .ok (.iaload, 1) := by decide +kernel
theorem dL_came_137 : decode cL_came 137 = .ok (.goto 7, 3) := by decide +kernel
theorem dL_came_140 : decode cL_came 140 = .ok (.aload_n 1, 1) := by decide +kernel
theorem dL_came_141 : decode cL_came 141 = .ok (.bipush 8, 2) := by decide +kernel
theorem dL_came_143 : decode cL_came 143 = .ok (.iaload, 1) := by decide +kernel
theorem dL_came_144 : decode cL_came 144 = .ok (.istore 4, 2) := by decide +kernel
theorem dL_came_146 : decode cL_came 146 = .ok (.iload_n 3, 1) := by decide +kernel
theorem dL_came_147 : decode cL_came 147 = .ok (.ifCond .eq 94, 3) := by decide +kernel
theorem dL_came_150 : decode cL_came 150 = .ok (.iload_n 2, 1) := by decide +kernel
theorem dL_came_151 : decode cL_came 151 = .ok (.aload_n 1, 1) := by decide +kernel
theorem dL_came_152 : decode cL_came 152 = .ok (.iconst 2, 1) := by decide +kernel
theorem dL_came_153 : decode cL_came 153 = .ok (.iaload, 1) := by decide +kernel
theorem dL_came_154 : decode cL_came 154 = .ok (.if_icmp .ne 87, 3) := by decide +kernel
theorem dL_came_157 : decode cL_came 157 = .ok (.aload_n 1, 1) := by decide +kernel
theorem dL_came_158 : decode cL_came 158 = .ok (.iconst 1, 1) := by decide +kernel
theorem dL_came_159 : decode cL_came 159 = .ok (.iaload, 1) := by decide +kernel
theorem dL_came_160 : decode cL_came 160 = .ok (.sipush (-1006), 3) := by decide +kernel
theorem dL_came_163 : decode cL_came 163 = .ok (.if_icmp .ne 78, 3) := by decide +kernel
theorem dL_came_166 : decode cL_came 166 = .ok (.aload_n 0, 1) := by decide +kernel
theorem dL_came_167 : decode cL_came 167 = .ok (.iconst 5, 1) := by decide +kernel
theorem dL_came_168 : decode cL_came 168 = .ok (.invokevirtual 14, 3) := by decide +kernel
theorem dL_came_171 : decode cL_came 171 = .ok (.aload_n 1, 1) := by decide +kernel
theorem dL_came_172 : decode cL_came 172 = .ok (.iconst 5, 1) := by decide +kernel
theorem dL_came_173 : decode cL_came 173 = .ok (.iaload, 1) := by decide +kernel
theorem dL_came_174 : decode cL_came 174 = .ok (.iconst 1, 1) := by decide +kernel
theorem dL_came_175 : decode cL_came 175 = .ok (.iadd, 1) := by decide +kernel
theorem dL_came_176 : decode cL_came 176 = .ok (.if_icmp .ne 65, 3) := by decide +kernel
theorem dL_came_179 : decode cL_came 179 = .ok (.aload_n 0, 1) := by decide +kernel
theorem dL_came_180 : decode cL_came 180 = .ok (.bipush 6, 2) := by decide +kernel
theorem dL_came_182 : decode cL_came 182 = .ok (.invokevirtual 14, 3) := by decide +kernel
theorem dL_came_185 : decode cL_came 185 = .ok (.aload_n 1, 1) := by decide +kernel
theorem dL_came_186 : decode cL_came 186 = .ok (.bipush 6, 2) := by decide +kernel
theorem dL_came_188 : decode cL_came 188 = .ok (.iaload, 1) := by decide +kernel
theorem dL_came_189 : decode cL_came 189 = .ok (.aload_n 1, 1) := by decide +kernel
theorem dL_came_190 : decode cL_came 190 = .ok (.iconst 2, 1) := by decide +kernel
theorem dL_came_191 : decode cL_came 191 = .ok (.iaload, 1) := by decide +kernel
theorem dL_came_192 : decode cL_came 192 = .ok (.iadd, 1) := by decide +kernel
theorem dL_came_193 : decode cL_came 193 = .ok (.if_icmp .ne 48, 3) := by decide +kernel
theorem dL_came_196 : decode cL_came 196 = .ok (.aload_n 0, 1) := by decide +kernel
theorem dL_came_197 : decode cL_came 197 = .ok (.bipush 7, 2) := by decide +kernel
theorem dL_came_199 : decode cL_came 199 = .ok (.invokevirtual 14, 3) := by decide +kernel
theorem dL_came_202 : decode cL_came 202 = .ok (.aload_n 1, 1) := by decide +kernel
theorem dL_came_203 : decode cL_came 203 = .ok (.bipush 7, 2) := by decide +kernel
theorem dL_came_205 : decode cL_came 205 = .ok (.iaload, 1) := by decide +kernel
theorem dL_came_206 : decode cL_came 206 = .ok (.aload_n 1, 1) := by decide +kernel
theorem dL_came_207 : decode cL_came 207 = .ok (.iconst 3, 1) := by decide +kernel
theorem dL_came_208 : decode cL_came 208 = .ok (.iaload, 1) := by decide +kernel
theorem dL_came_209 : decode cL_came 209 = .ok (.iadd, 1) := by decide +kernel
theorem dL_came_210 : decode cL_came 210 = .ok (.if_icmp .ne 31, 3) := by decide +kernel
theorem dL_came_213 : decode cL_came 213 = .ok (.aload_n 0, 1) := by decide +kernel
theorem dL_came_214 : decode cL_came 214 = .ok (.bipush 8, 2) := by decide +kernel
theorem dL_came_216 : decode cL_came 216 = .ok (.invokevirtual 14, 3) := by decide +kernel
theorem dL_came_219 : decode cL_came 219 = .ok (.iload 4, 2) := by decide +kernel
theorem dL_came_221 : decode cL_came 221 = .ok (.if_icmp .ne 20, 3) := by decide +kernel
theorem dL_came_224 : decode cL_came 224 = .ok (.aload_n 0, 1) := by decide +kernel
theorem dL_came_225 : decode cL_came 225 = .ok (.aload_n 1, 1) := by decide +kernel
theorem dL_came_226 : decode cL_came 226 = .ok (.iconst 3, 1) := by decide +kernel
theorem dL_came_227 : decode cL_came 227 = .ok (.iaload, 1) := by decide +kernel
theorem dL_came_228 : decode cL_came 228 = .ok (.aload_n 1, 1) := by decide +kernel
theorem dL_came_229 : decode cL_came 229 = .ok (.iconst 4, 1) := by decide +kernel
theorem dL_came_230 : decode cL_came 230 = .ok (.iaload, 1) := by decide +kernel
theorem dL_came_231 : decode cL_came 231 = .ok (.invokestatic 40, 3) := by decide +kernel
theorem dL_came_234 : decode cL_came 234 = .ok (.ifCond .eq 7, 3) := by decide +kernel
theorem dL_came_237 : decode cL_came 237 = .ok (.iconst 1, 1) := by decide +kernel
theorem dL_came_238 : decode cL_came 238 = .ok (.goto 4, 3) := by decide +kernel
theorem dL_came_241 : decode cL_came 241 = .ok (.iconst 0, 1) := by decide +kernel
theorem dL_came_242 : decode cL_came 242 = .ok (.ireturn, 1) := by decide +kernel
theorem dL_inserts_0 : decode cL_inserts 0 = .ok (.iload_n 2, 1) := by decide +kernel
theorem dL_inserts_1 : decode cL_inserts 1 = .ok (.iconst 4, 1) := by decide +kernel
theorem dL_inserts_2 : decode cL_inserts 2 = .ok (.ishr, 1) := by decide +kernel
theorem dL_inserts_3 : decode cL_inserts 3 = .ok (.invokestatic 44, 3) := by decide +kernel
theorem dL_inserts_6 : decode cL_inserts 6 = .ok (.istore 4, 2) := by decide +kernel
theorem dL_inserts_8 : decode cL_inserts 8 = .ok (.iload_n 2, 1) := by decide +kernel
theorem dL_inserts_9 : decode cL_inserts 9 = .ok (.bipush 9, 2) := by decide +kernel
theorem dL_inserts_11 : decode cL_inserts 11 = .ok (.ishr, 1) := by decide +kernel
theorem dL_inserts_12 : decode cL_inserts 12 = .ok (.invokestatic 44, 3) := by decide +kernel
theorem dL_inserts_15 : decode cL_inserts 15 = .ok (.istore 5, 2) := by decide +kernel
theorem dL_inserts_17 : decode cL_inserts 17 = .ok (.aload_n 0, 1) := by decide +kernel
theorem dL_inserts_18 : decode cL_inserts 18 = .ok (.iload_n 3, 1) := by decide +kernel
theorem dL_inserts_19 : decode cL_inserts 19 = .ok (.iconst 0, 1) := by decide +kernel
theorem dL_inserts_20 : decode cL_inserts 20 = .ok (.invokevirtual 23, 3) := by decide +kernel
theorem dL_inserts_23 : decode cL_inserts 23 = .ok (.sipush (-1001), 3) := by decide +kernel
theorem dL_inserts_26 : decode cL_inserts 26 = .ok (.if_icmp .eq 7, 3) := by decide +kernel
theorem dL_inserts_29 : decode cL_inserts 29 = .ok (.iconst 1, 1) := by decide +kernel
theorem dL_inserts_30 : decode cL_inserts 30 = .ok (.goto 4, 3) := by decide +kernel
theorem dL_inserts_33 : decode cL_inserts 33 = .ok (.iconst 0, 1) := by decide +kernel
theorem dL_inserts_34 : decode cL_inserts 34 = .ok (.istore 6, 2) := by decide +kernel
theorem dL_inserts_36 : decode cL_inserts 36 = .ok (.iload 6, 2) := by decide +kernel
theorem dL_inserts_38 : decode cL_inserts 38 = .ok (.ifCond .eq 9, 3) := by decide +kernel
theorem dL_inserts_41 : decode cL_inserts 41 = .ok (.sipush (-1004), 3) := by decide +kernel
theorem dL_inserts_44 : decode cL_inserts 44 = .ok (.goto 20, 3) := by decide +kernel
theorem dL_inserts_47 : decode cL_inserts 47 = .ok (.aload_n 0, 1) := by decide +kernel
theorem dL_inserts_48 : decode cL_inserts 48 = .ok (.iconst 0, 1) := by decide +kernel
theorem dL_inserts_49 : decode cL_inserts 49 = .ok (.invokevirtual 14, 3) := by decide +kernel
theorem dL_inserts_52 : decode cL_inserts 52 = .ok (.bipush 20, 2) := by decide +kernel
theorem dL_inserts_54 : decode cL_inserts 54 = .ok (.if_icmp .ne 9, 3) := by decide +kernel
theorem dL_inserts_57 : decode cL_inserts 57 = .ok (.sipush (-1003), 3) := by decide +kernel
theorem dL_inserts_60 : decode cL_inserts 60 = .ok (.goto 4, 3) := by decide +kernel
theorem dL_inserts_63 : decode cL_inserts 63 = .ok (.iconst 0, 1) := by decide +kernel
theorem dL_inserts_64 : decode cL_inserts 64 = .ok (.istore 7, 2) := by decide +kernel
theorem dL_inserts_66 : decode cL_inserts 66 = .ok (.iload 7, 2) := by decide +kernel
theorem dL_inserts_68 : decode cL_inserts 68 = .ok (.ifCond .ge 41, 3) := by decide +kernel
theorem dL_inserts_71 : decode cL_inserts 71 = .ok (.aload_n 0, 1) := by decide +kernel
theorem dL_inserts_72 : decode cL_inserts 72 = .ok (.iload_n 3, 1) := by decide +kernel
theorem dL_inserts_73 : decode cL_inserts 73 = .ok (.iconst 1, 1) := by decide +kernel
theorem dL_inserts_74 : decode cL_inserts 74 = .ok (.iload 4, 2) := by decide +kernel
theorem dL_inserts_76 : decode cL_inserts 76 = .ok (.iload 5, 2) := by decide +kernel
theorem dL_inserts_78 : decode cL_inserts 78 = .ok (.invokevirtual 47, 3) := by decide +kernel
theorem dL_inserts_81 : decode cL_inserts 81 = .ok (.iload 7, 2) := by decide +kernel
theorem dL_inserts_83 : decode cL_inserts 83 = .ok (.if_icmp .ne 24, 3) := by decide +kernel
theorem dL_inserts_86 : decode cL_inserts 86 = .ok (.aload_n 0, 1) := by decide +kernel
theorem dL_inserts_87 : decode cL_inserts 87 = .ok (.iload_n 3, 1) := by decide +kernel
theorem dL_inserts_88 : decode cL_inserts 88 = .ok (.iconst 1, 1) := by decide +kernel
theorem dL_inserts_89 : decode cL_inserts 89 = .ok (.iload 4, 2) := by decide +kernel
theorem dL_inserts_91 : decode cL_inserts 91 = .ok (.iload 5, 2) := by decide +kernel
theorem dL_inserts_93 : decode cL_inserts 93 = .ok (.bipush 9, 2) := by decide +kernel
theorem dL_inserts_95 : decode cL_inserts 95 = .ok (.invokevirtual 51, 3) := by decide +kernel
theorem dL_inserts_98 : decode cL_inserts 98 = .ok (.iload 7, 2) := by decide +kernel
theorem dL_inserts_100 : decode cL_inserts 100 = .ok (.if_icmp .ne 7, 3) := by decide +kernel
theorem dL_inserts_103 : decode cL_inserts 103 = .ok (.iconst 1, 1) := by decide +kernel
theorem dL_inserts_104 : decode cL_inserts 104 = .ok (.goto 4, 3) := by decide +kernel
theorem dL_inserts_107 : decode cL_inserts 107 = .ok (.iconst 0, 1) := by decide +kernel
theorem dL_inserts_108 : decode cL_inserts 108 = .ok (.ireturn, 1) := by decide +kernel
theorem dL_inserts_109 : decode cL_inserts 109 = .ok (.iconst 0, 1) := by decide +kernel
theorem dL_inserts_110 : decode cL_inserts 110 = .ok (.istore 8, 2) := by decide +kernel
theorem dL_inserts_112 : decode cL_inserts 112 = .ok (.iload 8, 2) := by decide +kernel
theorem dL_inserts_114 : decode cL_inserts 114 = .ok (.iconst 5, 1) := by decide +kernel
theorem dL_inserts_115 : decode cL_inserts 115 = .ok (.if_icmp .ge 25, 3) := by decide +kernel
theorem dL_inserts_118 : decode cL_inserts 118 = .ok (.aload_n 1, 1) := by decide +kernel
theorem dL_inserts_119 : decode cL_inserts 119 = .ok (.iload 8, 2) := by decide +kernel
theorem dL_inserts_121 : decode cL_inserts 121 = .ok (.aload_n 0, 1) := by decide +kernel
theorem dL_inserts_122 : decode cL_inserts 122 = .ok (.iload_n 3, 1) := by decide +kernel
theorem dL_inserts_123 : decode cL_inserts 123 = .ok (.iconst 1, 1) := by decide +kernel
theorem dL_inserts_124 : decode cL_inserts 124 = .ok (.iload 4, 2) := by decide +kernel
theorem dL_inserts_126 : decode cL_inserts 126 = .ok (.iload 5, 2) := by decide +kernel
theorem dL_inserts_128 : decode cL_inserts 128 = .ok (.iload 8, 2) := by decide +kernel
theorem dL_inserts_130 : decode cL_inserts 130 = .ok (.invokevirtual 51, 3) := by decide +kernel
theorem dL_inserts_133 : decode cL_inserts 133 = .ok (.iastore, 1) := by decide +kernel
theorem dL_inserts_134 : decode cL_inserts 134 = .ok (.iinc 8 1, 3) := by decide +kernel
theorem dL_inserts_137 : decode cL_inserts 137 = .ok (.goto (-25), 3) := by decide +kernel
theorem dL_inserts_140 : decode cL_inserts 140 = .ok (.aload_n 0, 1) := by decide +kernel
theorem dL_inserts_141 : decode cL_inserts 141 = .ok (.aload_n 1, 1) := by decide +kernel
theorem dL_inserts_142 : decode cL_inserts 142 = .ok (.invokestatic 55, 3) := by decide +kernel
theorem dL_inserts_145 : decode cL_inserts 145 = .ok (.aload_n 0, 1) := by decide +kernel
theorem dL_inserts_146 : decode cL_inserts 146 = .ok (.iconst 0, 1) := by decide +kernel
theorem dL_inserts_147 : decode cL_inserts 147 = .ok (.invokevirtual 14, 3) := by decide +kernel
theorem dL_inserts_150 : decode cL_inserts 150 = .ok (.istore 8, 2) := by decide +kernel
theorem dL_inserts_152 : decode cL_inserts 152 = .ok (.aload_n 0, 1) := by decide +kernel
theorem dL_inserts_153 : decode cL_inserts 153 = .ok (.iload_n 3, 1) := by decide +kernel
theorem dL_inserts_154 : decode cL_inserts 154 = .ok (.iconst 1, 1) := by decide +kernel
theorem dL_inserts_155 : decode cL_inserts 155 = .ok (.iload 4, 2) := by decide +kernel
theorem dL_inserts_157 : decode cL_inserts 157 = .ok (.iload 5, 2) := by decide +kernel
theorem dL_inserts_159 : decode cL_inserts 159 = .ok (.invokevirtual 47, 3) := by decide +kernel
theorem dL_inserts_162 : decode cL_inserts 162 = .ok (.istore 9, 2) := by decide +kernel
theorem dL_inserts_164 : decode cL_inserts 164 = .ok (.aload_n 0, 1) := by decide +kernel
theorem dL_inserts_165 : decode cL_inserts 165 = .ok (.aload_n 1, 1) := by decide +kernel
theorem dL_inserts_166 : decode cL_inserts 166 = .ok (.iload 9, 2) := by decide +kernel
theorem dL_inserts_168 : decode cL_inserts 168 = .ok (.invokestatic 59, 3) := by decide +kernel
theorem dL_inserts_171 : decode cL_inserts 171 = .ok (.ifCond .eq 34, 3) := by decide +kernel
theorem dL_inserts_174 : decode cL_inserts 174 = .ok (.iload 9, 2) := by decide +kernel
theorem dL_inserts_176 : decode cL_inserts 176 = .ok (.ifCond .ge 25, 3) := by decide +kernel
theorem dL_inserts_179 : decode cL_inserts 179 = .ok (.aload_n 0, 1) := by decide +kernel
theorem dL_inserts_180 : decode cL_inserts 180 = .ok (.iconst 0, 1) := by decide +kernel
theorem dL_inserts_181 : decode cL_inserts 181 = .ok (.invokevirtual 14, 3) := by decide +kernel
theorem dL_inserts_184 : decode cL_inserts 184 = .ok (.iload 8, 2) := by decide +kernel
theorem dL_inserts_186 : decode cL_inserts 186 = .ok (.if_icmp .ne 19, 3) := by decide +kernel
theorem dL_inserts_189 : decode cL_inserts 189 = .ok (.aload_n 0, 1) := by decide +kernel
theorem dL_inserts_190 : decode cL_inserts 190 = .ok (.iload_n 3, 1) := by decide +kernel
theorem dL_inserts_191 : decode cL_inserts 191 = .ok (.iconst 0, 1) := by decide +kernel
theorem dL_inserts_192 : decode cL_inserts 192 = .ok (.invokevirtual 23, 3) := by decide +kernel
theorem dL_inserts_195 : decode cL_inserts 195 = .ok (.sipush (-1001), 3) := by decide +kernel
theorem dL_inserts_198 : decode cL_inserts 198 = .ok (.if_icmp .ne 7, 3) := by decide +kernel
theorem dL_inserts_201 : decode cL_inserts 201 = .ok (.iconst 1, 1) := by decide +kernel
theorem dL_inserts_202 : decode cL_inserts 202 = .ok (.goto 4, 3) := by decide +kernel
theorem dL_inserts_205 : decode cL_inserts 205 = .ok (.iconst 0, 1) := by decide +kernel
theorem dL_inserts_206 : decode cL_inserts 206 = .ok (.ireturn, 1) := by decide +kernel
theorem dL_updates_0 : decode cL_updates 0 = .ok (.iload_n 2, 1) := by decide +kernel
theorem dL_updates_1 : decode cL_updates 1 = .ok (.iconst 5, 1) := by decide +kernel
theorem dL_updates_2 : decode cL_updates 2 = .ok (.ishr, 1) := by decide +kernel
theorem dL_updates_3 : decode cL_updates 3 = .ok (.iconst 3, 1) := by decide +kernel
theorem dL_updates_4 : decode cL_updates 4 = .ok (.invokestatic 8, 3) := by decide +kernel
theorem dL_updates_7 : decode cL_updates 7 = .ok (.istore 4, 2) := by decide +kernel
theorem dL_updates_9 : decode cL_updates 9 = .ok (.iload_n 2, 1) := by decide +kernel
theorem dL_updates_10 : decode cL_updates 10 = .ok (.bipush 7, 2) := by decide +kernel
theorem dL_updates_12 : decode cL_updates 12 = .ok (.ishr, 1) := by decide +kernel
theorem dL_updates_13 : decode cL_updates 13 = .ok (.invokestatic 44, 3) := by decide +kernel
theorem dL_updates_16 : decode cL_updates 16 = .ok (.istore 5, 2) := by decide +kernel
theorem dL_updates_18 : decode cL_updates 18 = .ok (.aload_n 0, 1) := by decide +kernel
theorem dL_updates_19 : decode cL_updates 19 = .ok (.iload_n 3, 1) := by decide +kernel
theorem dL_updates_20 : decode cL_updates 20 = .ok (.iload 4, 2) := by decide +kernel
theorem dL_updates_22 : decode cL_updates 22 = .ok (.invokevirtual 23, 3) := by decide +kernel
theorem dL_updates_25 : decode cL_updates 25 = .ok (.istore 6, 2) := by decide +kernel
theorem dL_updates_27 : decode cL_updates 27 = .ok (.iload 6, 2) := by decide +kernel
theorem dL_updates_29 : decode cL_updates 29 = .ok (.sipush (-1001), 3) := by decide +kernel
theorem dL_updates_32 : decode cL_updates 32 = .ok (.if_icmp .ne 8, 3) := by decide +kernel
theorem dL_updates_35 : decode cL_updates 35 = .ok (.iload 6, 2) := by decide +kernel
theorem dL_updates_37 : decode cL_updates 37 = .ok (.goto 17, 3) := by decide +kernel
theorem dL_updates_40 : decode cL_updates 40 = .ok (.iload 6, 2) := by decide +kernel
theorem dL_updates_42 : decode cL_updates 42 = .ok (.iload 5, 2) := by decide +kernel
theorem dL_updates_44 : decode cL_updates 44 = .ok (.if_icmp .ne 9, 3) := by decide +kernel
theorem dL_updates_47 : decode cL_updates 47 = .ok (.sipush (-1006), 3) := by decide +kernel
theorem dL_updates_50 : decode cL_updates 50 = .ok (.goto 4, 3) := by decide +kernel
theorem dL_updates_53 : decode cL_updates 53 = .ok (.iconst 0, 1) := by decide +kernel
theorem dL_updates_54 : decode cL_updates 54 = .ok (.istore 7, 2) := by decide +kernel
theorem dL_updates_56 : decode cL_updates 56 = .ok (.iload 7, 2) := by decide +kernel
theorem dL_updates_58 : decode cL_updates 58 = .ok (.ifCond .ge 52, 3) := by decide +kernel
theorem dL_updates_61 : decode cL_updates 61 = .ok (.aload_n 0, 1) := by decide +kernel
theorem dL_updates_62 : decode cL_updates 62 = .ok (.iload_n 3, 1) := by decide +kernel
theorem dL_updates_63 : decode cL_updates 63 = .ok (.iload 4, 2) := by decide +kernel
theorem dL_updates_65 : decode cL_updates 65 = .ok (.iload 5, 2) := by decide +kernel
theorem dL_updates_67 : decode cL_updates 67 = .ok (.invokevirtual 63, 3) := by decide +kernel
theorem dL_updates_70 : decode cL_updates 70 = .ok (.iload 7, 2) := by decide +kernel
theorem dL_updates_72 : decode cL_updates 72 = .ok (.if_icmp .ne 36, 3) := by decide +kernel
theorem dL_updates_75 : decode cL_updates 75 = .ok (.aload_n 0, 1) := by decide +kernel
theorem dL_updates_76 : decode cL_updates 76 = .ok (.iload_n 3, 1) := by decide +kernel
theorem dL_updates_77 : decode cL_updates 77 = .ok (.iload 4, 2) := by decide +kernel
theorem dL_updates_79 : decode cL_updates 79 = .ok (.iload 5, 2) := by decide +kernel
theorem dL_updates_81 : decode cL_updates 81 = .ok (.iconst 0, 1) := by decide +kernel
theorem dL_updates_82 : decode cL_updates 82 = .ok (.invokevirtual 66, 3) := by decide +kernel
theorem dL_updates_85 : decode cL_updates 85 = .ok (.iload 7, 2) := by decide +kernel
theorem dL_updates_87 : decode cL_updates 87 = .ok (.if_icmp .ne 21, 3) := by decide +kernel
theorem dL_updates_90 : decode cL_updates 90 = .ok (.aload_n 0, 1) := by decide +kernel
theorem dL_updates_91 : decode cL_updates 91 = .ok (.iload_n 3, 1) := by decide +kernel
theorem dL_updates_92 : decode cL_updates 92 = .ok (.iload 4, 2) := by decide +kernel
theorem dL_updates_94 : decode cL_updates 94 = .ok (.iload 5, 2) := by decide +kernel
theorem dL_updates_96 : decode cL_updates 96 = .ok (.invokevirtual 69, 3) := by decide +kernel
theorem dL_updates_99 : decode cL_updates 99 = .ok (.iload 7, 2) := by decide +kernel
theorem dL_updates_101 : decode cL_updates 101 = .ok (.if_icmp .ne 7, 3) := by decide +kernel
theorem dL_updates_104 : decode cL_updates 104 = .ok (.iconst 1, 1) := by decide +kernel
theorem dL_updates_105 : decode cL_updates 105 = .ok (.goto 4, 3) := by decide +kernel
theorem dL_updates_108 : decode cL_updates 108 = .ok (.iconst 0, 1) := by decide +kernel
theorem dL_updates_109 : decode cL_updates 109 = .ok (.ireturn, 1) := by decide +kernel
theorem dL_updates_110 : decode cL_updates 110 = .ok (.iconst 0, 1) := by decide +kernel
theorem dL_updates_111 : decode cL_updates 111 = .ok (.istore 8, 2) := by decide +kernel
theorem dL_updates_113 : decode cL_updates 113 = .ok (.iload 8, 2) := by decide +kernel
theorem dL_updates_115 : decode cL_updates 115 = .ok (.iconst 5, 1) := by decide +kernel
theorem dL_updates_116 : decode cL_updates 116 = .ok (.if_icmp .ge 24, 3) := by decide +kernel
theorem dL_updates_119 : decode cL_updates 119 = .ok (.aload_n 1, 1) := by decide +kernel
theorem dL_updates_120 : decode cL_updates 120 = .ok (.iload 8, 2) := by decide +kernel
theorem dL_updates_122 : decode cL_updates 122 = .ok (.aload_n 0, 1) := by decide +kernel
theorem dL_updates_123 : decode cL_updates 123 = .ok (.iload_n 3, 1) := by decide +kernel
theorem dL_updates_124 : decode cL_updates 124 = .ok (.iload 4, 2) := by decide +kernel
theorem dL_updates_126 : decode cL_updates 126 = .ok (.iload 5, 2) := by decide +kernel
theorem dL_updates_128 : decode cL_updates 128 = .ok (.iload 8, 2) := by decide +kernel
theorem dL_updates_130 : decode cL_updates 130 = .ok (.invokevirtual 66, 3) := by decide +kernel
theorem dL_updates_133 : decode cL_updates 133 = .ok (.iastore, 1) := by decide +kernel
theorem dL_updates_134 : decode cL_updates 134 = .ok (.iinc 8 1, 3) := by decide +kernel
theorem dL_updates_137 : decode cL_updates 137 = .ok (.goto (-24), 3) := by decide +kernel
theorem dL_updates_140 : decode cL_updates 140 = .ok (.aload_n 0, 1) := by decide +kernel
theorem dL_updates_141 : decode cL_updates 141 = .ok (.aload_n 1, 1) := by decide +kernel
theorem dL_updates_142 : decode cL_updates 142 = .ok (.invokestatic 55, 3) := by decide +kernel
theorem dL_updates_145 : decode cL_updates 145 = .ok (.aload_n 0, 1) := by decide +kernel
theorem dL_updates_146 : decode cL_updates 146 = .ok (.iload_n 3, 1) := by decide +kernel
theorem dL_updates_147 : decode cL_updates 147 = .ok (.iload 4, 2) := by decide +kernel
theorem dL_updates_149 : decode cL_updates 149 = .ok (.iload 5, 2) := by decide +kernel
theorem dL_updates_151 : decode cL_updates 151 = .ok (.invokevirtual 69, 3) := by decide +kernel
theorem dL_updates_154 : decode cL_updates 154 = .ok (.istore 8, 2) := by decide +kernel
theorem dL_updates_156 : decode cL_updates 156 = .ok (.aload_n 1, 1) := by decide +kernel
theorem dL_updates_157 : decode cL_updates 157 = .ok (.iconst 0, 1) := by decide +kernel
theorem dL_updates_158 : decode cL_updates 158 = .ok (.iaload, 1) := by decide +kernel
theorem dL_updates_159 : decode cL_updates 159 = .ok (.ifCond .ne 34, 3) := by decide +kernel
theorem dL_updates_162 : decode cL_updates 162 = .ok (.iload 8, 2) := by decide +kernel
theorem dL_updates_164 : decode cL_updates 164 = .ok (.aload_n 1, 1) := by decide +kernel
theorem dL_updates_165 : decode cL_updates 165 = .ok (.iconst 4, 1) := by decide +kernel
theorem dL_updates_166 : decode cL_updates 166 = .ok (.iaload, 1) := by decide +kernel
theorem dL_updates_167 : decode cL_updates 167 = .ok (.if_icmp .eq 18, 3) := by decide +kernel
theorem dL_updates_170 : decode cL_updates 170 = .ok (.iload 8, 2) := by decide +kernel
theorem dL_updates_172 : decode cL_updates 172 = .ok (.ifCond .le 17, 3) := by decide +kernel
theorem dL_updates_175 : decode cL_updates 175 = .ok (.iload 8, 2) := by decide +kernel
theorem dL_updates_177 : decode cL_updates 177 = .ok (.aload_n 0, 1) := by decide +kernel
theorem dL_updates_178 : decode cL_updates 178 = .ok (.iconst 3, 1) := by decide +kernel
theorem dL_updates_179 : decode cL_updates 179 = .ok (.invokevirtual 14, 3) := by decide +kernel
theorem dL_updates_182 : decode cL_updates 182 = .ok (.if_icmp .gt 7, 3) := by decide +kernel
theorem dL_updates_185 : decode cL_updates 185 = .ok (.iconst 1, 1) := by decide +kernel
theorem dL_updates_186 : decode cL_updates 186 = .ok (.goto 37, 3) := by decide +kernel
theorem dL_updates_189 : decode cL_updates 189 = .ok (.iconst 0, 1) := by decide +kernel
theorem dL_updates_190 : decode cL_updates 190 = .ok (.goto 33, 3) := by decide +kernel
theorem dL_updates_193 : decode cL_updates 193 = .ok (.aload_n 1, 1) := by decide +kernel
theorem dL_updates_194 : decode cL_updates 194 = .ok (.iconst 0, 1) := by decide +kernel
theorem dL_updates_195 : decode cL_updates 195 = .ok (.iaload, 1) := by decide +kernel
theorem dL_updates_196 : decode cL_updates 196 = .ok (.iconst 2, 1) := by decide +kernel
theorem dL_updates_197 : decode cL_updates 197 = .ok (.if_icmp .ne 21, 3) := by decide +kernel
theorem dL_updates_200 : decode cL_updates 200 = .ok (.iload 8, 2) := by decide +kernel
theorem dL_updates_202 : decode cL_updates 202 = .ok (.sipush (-1006), 3) := by decide +kernel
theorem dL_updates_205 : decode cL_updates 205 = .ok (.if_icmp .eq 13, 3) := by decide +kernel
theorem dL_updates_208 : decode cL_updates 208 = .ok (.iload 8, 2) := by decide +kernel
theorem dL_updates_210 : decode cL_updates 210 = .ok (.aload_n 0, 1) := by decide +kernel
theorem dL_updates_211 : decode cL_updates 211 = .ok (.iconst 3, 1) := by decide +kernel
theorem dL_updates_212 : decode cL_updates 212 = .ok (.invokevirtual 14, 3) := by decide +kernel
theorem dL_updates_215 : decode cL_updates 215 = .ok (.if_icmp .le 7, 3) := by decide +kernel
theorem dL_updates_218 : decode cL_updates 218 = .ok (.iconst 1, 1) := by decide +kernel
theorem dL_updates_219 : decode cL_updates 219 = .ok (.goto 4, 3) := by decide +kernel
theorem dL_updates_222 : decode cL_updates 222 = .ok (.iconst 0, 1) := by decide +kernel
theorem dL_updates_223 : decode cL_updates 223 = .ok (.istore 9, 2) := by decide +kernel
theorem dL_updates_225 : decode cL_updates 225 = .ok (.aload_n 0, 1) := by decide +kernel
theorem dL_updates_226 : decode cL_updates 226 = .ok (.iload_n 3, 1) := by decide +kernel
theorem dL_updates_227 : decode cL_updates 227 = .ok (.iload 4, 2) := by decide +kernel
theorem dL_updates_229 : decode cL_updates 229 = .ok (.iload 5, 2) := by decide +kernel
theorem dL_updates_231 : decode cL_updates 231 = .ok (.invokevirtual 63, 3) := by decide +kernel
theorem dL_updates_234 : decode cL_updates 234 = .ok (.istore 10, 2) := by decide +kernel
theorem dL_updates_236 : decode cL_updates 236 = .ok (.iload 9, 2) := by decide +kernel
theorem dL_updates_238 : decode cL_updates 238 = .ok (.ifCond .eq 34, 3) := by decide +kernel
theorem dL_updates_241 : decode cL_updates 241 = .ok (.aload_n 0, 1) := by decide +kernel
theorem dL_updates_242 : decode cL_updates 242 = .ok (.aload_n 1, 1) := by decide +kernel
theorem dL_updates_243 : decode cL_updates 243 = .ok (.iload 10, 2) := by decide +kernel
theorem dL_updates_245 : decode cL_updates 245 = .ok (.invokestatic 59, 3) := by decide +kernel
theorem dL_updates_248 : decode cL_updates 248 = .ok (.ifCond .eq 24, 3) := by decide +kernel
theorem dL_updates_251 : decode cL_updates 251 = .ok (.iload 10, 2) := by decide +kernel
theorem dL_updates_253 : decode cL_updates 253 = .ok (.ifCond .ge 15, 3) := by decide +kernel
theorem dL_updates_256 : decode cL_updates 256 = .ok (.aload_n 0, 1) := by decide +kernel
theorem dL_updates_257 : decode cL_updates 257 = .ok (.iload_n 3, 1) := by decide +kernel
theorem dL_updates_258 : decode cL_updates 258 = .ok (.iload 4, 2) := by decide +kernel
theorem dL_updates_260 : decode cL_updates 260 = .ok (.invokevirtual 23, 3) := by decide +kernel
theorem dL_updates_263 : decode cL_updates 263 = .ok (.iload 6, 2) := by decide +kernel
theorem dL_updates_265 : decode cL_updates 265 = .ok (.if_icmp .ne 7, 3) := by decide +kernel
theorem dL_updates_268 : decode cL_updates 268 = .ok (.iconst 1, 1) := by decide +kernel
theorem dL_updates_269 : decode cL_updates 269 = .ok (.goto 4, 3) := by decide +kernel
theorem dL_updates_272 : decode cL_updates 272 = .ok (.iconst 0, 1) := by decide +kernel
theorem dL_updates_273 : decode cL_updates 273 = .ok (.ireturn, 1) := by decide +kernel
theorem dL_deletes_0 : decode cL_deletes 0 = .ok (.aload_n 0, 1) := by decide +kernel
theorem dL_deletes_1 : decode cL_deletes 1 = .ok (.iload_n 2, 1) := by decide +kernel
theorem dL_deletes_2 : decode cL_deletes 2 = .ok (.iconst 0, 1) := by decide +kernel
theorem dL_deletes_3 : decode cL_deletes 3 = .ok (.invokevirtual 23, 3) := by decide +kernel
theorem dL_deletes_6 : decode cL_deletes 6 = .ok (.sipush (-1001), 3) := by decide +kernel
theorem dL_deletes_9 : decode cL_deletes 9 = .ok (.if_icmp .ne 33, 3) := by decide +kernel
theorem dL_deletes_12 : decode cL_deletes 12 = .ok (.aload_n 0, 1) := by decide +kernel
theorem dL_deletes_13 : decode cL_deletes 13 = .ok (.iload_n 2, 1) := by decide +kernel
theorem dL_deletes_14 : decode cL_deletes 14 = .ok (.invokevirtual 72, 3) := by decide +kernel
theorem dL_deletes_17 : decode cL_deletes 17 = .ok (.sipush (-1001), 3) := by decide +kernel
theorem dL_deletes_20 : decode cL_deletes 20 = .ok (.if_icmp .ne 20, 3) := by decide +kernel
theorem dL_deletes_23 : decode cL_deletes 23 = .ok (.aload_n 0, 1) := by decide +kernel
theorem dL_deletes_24 : decode cL_deletes 24 = .ok (.iload_n 2, 1) := by decide +kernel
theorem dL_deletes_25 : decode cL_deletes 25 = .ok (.bipush 7, 2) := by decide +kernel
theorem dL_deletes_27 : decode cL_deletes 27 = .ok (.invokevirtual 75, 3) := by decide +kernel
theorem dL_deletes_30 : decode cL_deletes 30 = .ok (.sipush (-1001), 3) := by decide +kernel
theorem dL_deletes_33 : decode cL_deletes 33 = .ok (.if_icmp .ne 7, 3) := by decide +kernel
theorem dL_deletes_36 : decode cL_deletes 36 = .ok (.iconst 1, 1) := by decide +kernel
theorem dL_deletes_37 : decode cL_deletes 37 = .ok (.goto 4, 3) := by decide +kernel
theorem dL_deletes_40 : decode cL_deletes 40 = .ok (.iconst 0, 1) := by decide +kernel
theorem dL_deletes_41 : decode cL_deletes 41 = .ok (.ireturn, 1) := by decide +kernel
theorem dL_deletes_42 : decode cL_deletes 42 = .ok (.iconst 0, 1) := by decide +kernel
theorem dL_deletes_43 : decode cL_deletes 43 = .ok (.istore_n 3, 1) := by decide +kernel
theorem dL_deletes_44 : decode cL_deletes 44 = .ok (.iload_n 3, 1) := by decide +kernel
theorem dL_deletes_45 : decode cL_deletes 45 = .ok (.iconst 5, 1) := by decide +kernel
theorem dL_deletes_46 : decode cL_deletes 46 = .ok (.if_icmp .ge 18, 3) := by decide +kernel
theorem dL_deletes_49 : decode cL_deletes 49 = .ok (.aload_n 1, 1) := by decide +kernel
theorem dL_deletes_50 : decode cL_deletes 50 = .ok (.iload_n 3, 1) := by decide +kernel
theorem dL_deletes_51 : decode cL_deletes 51 = .ok (.aload_n 0, 1) := by decide +kernel
theorem dL_deletes_52 : decode cL_deletes 52 = .ok (.iload_n 2, 1) := by decide +kernel
theorem dL_deletes_53 : decode cL_deletes 53 = .ok (.iload_n 3, 1) := by decide +kernel
theorem dL_deletes_54 : decode cL_deletes 54 = .ok (.invokevirtual 75, 3) := by decide +kernel
theorem dL_deletes_57 : decode cL_deletes 57 = .ok (.iastore, 1) := by decide +kernel
theorem dL_deletes_58 : decode cL_deletes 58 = .ok (.iinc 3 1, 3) := by decide +kernel
theorem dL_deletes_61 : decode cL_deletes 61 = .ok (.goto (-17), 3) := by decide +kernel
theorem dL_deletes_64 : decode cL_deletes 64 = .ok (.aload_n 0, 1) := by decide +kernel
theorem dL_deletes_65 : decode cL_deletes 65 = .ok (.aload_n 1, 1) := by decide +kernel
theorem dL_deletes_66 : decode cL_deletes 66 = .ok (.invokestatic 55, 3) := by decide +kernel
theorem dL_deletes_69 : decode cL_deletes 69 = .ok (.aload_n 0, 1) := by decide +kernel
theorem dL_deletes_70 : decode cL_deletes 70 = .ok (.iconst 0, 1) := by decide +kernel
theorem dL_deletes_71 : decode cL_deletes 71 = .ok (.invokevirtual 14, 3) := by decide +kernel
theorem dL_deletes_74 : decode cL_deletes 74 = .ok (.istore_n 3, 1) := by decide +kernel
theorem dL_deletes_75 : decode cL_deletes 75 = .ok (.aload_n 0, 1) := by decide +kernel
theorem dL_deletes_76 : decode cL_deletes 76 = .ok (.iload_n 2, 1) := by decide +kernel
theorem dL_deletes_77 : decode cL_deletes 77 = .ok (.invokevirtual 72, 3) := by decide +kernel
theorem dL_deletes_80 : decode cL_deletes 80 = .ok (.istore 4, 2) := by decide +kernel
theorem dL_deletes_82 : decode cL_deletes 82 = .ok (.aload_n 0, 1) := by decide +kernel
theorem dL_deletes_83 : decode cL_deletes 83 = .ok (.aload_n 1, 1) := by decide +kernel
theorem dL_deletes_84 : decode cL_deletes 84 = .ok (.iload 4, 2) := by decide +kernel
theorem dL_deletes_86 : decode cL_deletes 86 = .ok (.invokestatic 59, 3) := by decide +kernel
theorem dL_deletes_89 : decode cL_deletes 89 = .ok (.ifCond .eq 33, 3) := by decide +kernel
theorem dL_deletes_92 : decode cL_deletes 92 = .ok (.iload 4, 2) := by decide +kernel
theorem dL_deletes_94 : decode cL_deletes 94 = .ok (.ifCond .ge 24, 3) := by decide +kernel
theorem dL_deletes_97 : decode cL_deletes 97 = .ok (.aload_n 0, 1) := by decide +kernel
theorem dL_deletes_98 : decode cL_deletes 98 = .ok (.iconst 0, 1) := by decide +kernel
theorem dL_deletes_99 : decode cL_deletes 99 = .ok (.invokevirtual 14, 3) := by decide +kernel
theorem dL_deletes_102 : decode cL_deletes 102 = .ok (.iload_n 3, 1) := by decide +kernel
theorem dL_deletes_103 : decode cL_deletes 103 = .ok (.if_icmp .ne 19, 3) := by decide +kernel
theorem dL_deletes_106 : decode cL_deletes 106 = .ok (.aload_n 0, 1) := by decide +kernel
theorem dL_deletes_107 : decode cL_deletes 107 = .ok (.iload_n 2, 1) := by decide +kernel
theorem dL_deletes_108 : decode cL_deletes 108 = .ok (.iconst 0, 1) := by decide +kernel
theorem dL_deletes_109 : decode cL_deletes 109 = .ok (.invokevirtual 23, 3) := by decide +kernel
theorem dL_deletes_112 : decode cL_deletes 112 = .ok (.sipush (-1001), 3) := by decide +kernel
theorem dL_deletes_115 : decode cL_deletes 115 = .ok (.if_icmp .eq 7, 3) := by decide +kernel
theorem dL_deletes_118 : decode cL_deletes 118 = .ok (.iconst 1, 1) := by decide +kernel
theorem dL_deletes_119 : decode cL_deletes 119 = .ok (.goto 4, 3) := by decide +kernel
theorem dL_deletes_122 : decode cL_deletes 122 = .ok (.iconst 0, 1) := by decide +kernel
theorem dL_deletes_123 : decode cL_deletes 123 = .ok (.ireturn, 1) := by decide +kernel
theorem dL_rules_0 : decode cL_rules 0 = .ok (.aload_n 0, 1) := by decide +kernel
theorem dL_rules_1 : decode cL_rules 1 = .ok (.iconst 1, 1) := by decide +kernel
theorem dL_rules_2 : decode cL_rules 2 = .ok (.invokevirtual 14, 3) := by decide +kernel
theorem dL_rules_5 : decode cL_rules 5 = .ok (.istore_n 2, 1) := by decide +kernel
theorem dL_rules_6 : decode cL_rules 6 = .ok (.iload_n 1, 1) := by decide +kernel
theorem dL_rules_7 : decode cL_rules 7 = .ok (.iconst 5, 1) := by decide +kernel
theorem dL_rules_8 : decode cL_rules 8 = .ok (.ishr, 1) := by decide +kernel
theorem dL_rules_9 : decode cL_rules 9 = .ok (.iconst 1, 1) := by decide +kernel
theorem dL_rules_10 : decode cL_rules 10 = .ok (.iand, 1) := by decide +kernel
theorem dL_rules_11 : decode cL_rules 11 = .ok (.istore_n 3, 1) := by decide +kernel
theorem dL_rules_12 : decode cL_rules 12 = .ok (.iload_n 3, 1) := by decide +kernel
theorem dL_rules_13 : decode cL_rules 13 = .ok (.ifCond .ne 17, 3) := by decide +kernel
theorem dL_rules_16 : decode cL_rules 16 = .ok (.iload_n 1, 1) := by decide +kernel
theorem dL_rules_17 : decode cL_rules 17 = .ok (.bipush 6, 2) := by decide +kernel
theorem dL_rules_19 : decode cL_rules 19 = .ok (.ishr, 1) := by decide +kernel
theorem dL_rules_20 : decode cL_rules 20 = .ok (.bipush 12, 2) := by decide +kernel
theorem dL_rules_22 : decode cL_rules 22 = .ok (.invokestatic 8, 3) := by decide +kernel
theorem dL_rules_25 : decode cL_rules 25 = .ok (.iconst 5, 1) := by decide +kernel
theorem dL_rules_26 : decode cL_rules 26 = .ok (.idiv, 1) := by decide +kernel
theorem dL_rules_27 : decode cL_rules 27 = .ok (.goto 29, 3) := by decide +kernel
theorem dL_rules_30 : decode cL_rules 30 = .ok (.iload_n 1, 1) := by decide +kernel
theorem dL_rules_31 : decode cL_rules 31 = .ok (.bipush 6, 2) := by decide +kernel
theorem dL_rules_33 : decode cL_rules 33 = .ok (.ishr, 1) := by decide +kernel
theorem dL_rules_34 : decode cL_rules 34 = .ok (.bipush 13, 2) := by decide +kernel
theorem dL_rules_36 : decode cL_rules 36 = .ok (.invokestatic 8, 3) := by decide +kernel
theorem dL_rules_39 : decode cL_rules 39 = .ok (.ifCond .ne 7, 3) := by decide +kernel
theorem dL_rules_42 : decode cL_rules 42 = .ok (.iconst 1, 1) := by decide +kernel
theorem dL_rules_43 : decode cL_rules 43 = .ok (.goto 13, 3) := by decide +kernel
theorem dL_rules_46 : decode cL_rules 46 = .ok (.iconst 3, 1) := by decide +kernel
theorem dL_rules_47 : decode cL_rules 47 = .ok (.iload_n 1, 1) := by decide +kernel
theorem dL_rules_48 : decode cL_rules 48 = .ok (.bipush 6, 2) := by decide +kernel
theorem dL_rules_50 : decode cL_rules 50 = .ok (.ishr, 1) := by decide +kernel
theorem dL_rules_51 : decode cL_rules 51 = .ok (.iconst 3, 1) := by decide +kernel
theorem dL_rules_52 : decode cL_rules 52 = .ok (.invokestatic 8, 3) := by decide +kernel
theorem dL_rules_55 : decode cL_rules 55 = .ok (.iadd, 1) := by decide +kernel
theorem dL_rules_56 : decode cL_rules 56 = .ok (.istore 4, 2) := by decide +kernel
theorem dL_rules_58 : decode cL_rules 58 = .ok (.iload_n 2, 1) := by decide +kernel
theorem dL_rules_59 : decode cL_rules 59 = .ok (.bipush 12, 2) := by decide +kernel
theorem dL_rules_61 : decode cL_rules 61 = .ok (.if_icmp .ne 43, 3) := by decide +kernel
theorem dL_rules_64 : decode cL_rules 64 = .ok (.aload_n 0, 1) := by decide +kernel
theorem dL_rules_65 : decode cL_rules 65 = .ok (.iconst 0, 1) := by decide +kernel
theorem dL_rules_66 : decode cL_rules 66 = .ok (.iconst 0, 1) := by decide +kernel
theorem dL_rules_67 : decode cL_rules 67 = .ok (.iconst 0, 1) := by decide +kernel
theorem dL_rules_68 : decode cL_rules 68 = .ok (.iconst 0, 1) := by decide +kernel
theorem dL_rules_69 : decode cL_rules 69 = .ok (.iconst 0, 1) := by decide +kernel
theorem dL_rules_70 : decode cL_rules 70 = .ok (.iconst 0, 1) := by decide +kernel
theorem dL_rules_71 : decode cL_rules 71 = .ok (.iconst 0, 1) := by decide +kernel
theorem dL_rules_72 : decode cL_rules 72 = .ok (.invokevirtual 78, 3) := by decide +kernel
theorem dL_rules_75 : decode cL_rules 75 = .ok (.sipush (-1003), 3) := by decide +kernel
theorem dL_rules_78 : decode cL_rules 78 = .ok (.if_icmp .ne 24, 3) := by decide +kernel
theorem dL_rules_81 : decode cL_rules 81 = .ok (.aload_n 0, 1) := by decide +kernel
theorem dL_rules_82 : decode cL_rules 82 = .ok (.iload_n 1, 1) := by decide +kernel
theorem dL_rules_83 : decode cL_rules 83 = .ok (.iconst 5, 1) := by decide +kernel
theorem dL_rules_84 : decode cL_rules 84 = .ok (.ishr, 1) := by decide +kernel
theorem dL_rules_85 : decode cL_rules 85 = .ok (.bipush 12, 2) := by decide +kernel
theorem dL_rules_87 : decode cL_rules 87 = .ok (.invokestatic 8, 3) := by decide +kernel
theorem dL_rules_90 : decode cL_rules 90 = .ok (.invokevirtual 82, 3) := by decide +kernel
theorem dL_rules_93 : decode cL_rules 93 = .ok (.bipush 11, 2) := by decide +kernel
theorem dL_rules_95 : decode cL_rules 95 = .ok (.if_icmp .ne 7, 3) := by decide +kernel
theorem dL_rules_98 : decode cL_rules 98 = .ok (.iconst 1, 1) := by decide +kernel
theorem dL_rules_99 : decode cL_rules 99 = .ok (.goto 4, 3) := by decide +kernel
theorem dL_rules_102 : decode cL_rules 102 = .ok (.iconst 0, 1) := by decide +kernel
theorem dL_rules_103 : decode cL_rules 103 = .ok (.ireturn, 1) := by decide +kernel
theorem dL_rules_104 : decode cL_rules 104 = .ok (.iload_n 1, 1) := by decide +kernel
theorem dL_rules_105 : decode cL_rules 105 = .ok (.bipush 16, 2) := by decide +kernel
theorem dL_rules_107 : decode cL_rules 107 = .ok (.ishr, 1) := by decide +kernel
theorem dL_rules_108 : decode cL_rules 108 = .ok (.bipush 9, 2) := by decide +kernel
theorem dL_rules_110 : decode cL_rules 110 = .ok (.invokestatic 8, 3) := by decide +kernel
theorem dL_rules_113 : decode cL_rules 113 = .ok (.iconst 2, 1) := by decide +kernel
theorem dL_rules_114 : decode cL_rules 114 = .ok (.isub, 1) := by decide +kernel
theorem dL_rules_115 : decode cL_rules 115 = .ok (.istore 5, 2) := by decide +kernel
theorem dL_rules_117 : decode cL_rules 117 = .ok (.aload_n 0, 1) := by decide +kernel
theorem dL_rules_118 : decode cL_rules 118 = .ok (.iload_n 1, 1) := by decide +kernel
theorem dL_rules_119 : decode cL_rules 119 = .ok (.bipush 10, 2) := by decide +kernel
theorem dL_rules_121 : decode cL_rules 121 = .ok (.ishr, 1) := by decide +kernel
theorem dL_rules_122 : decode cL_rules 122 = .ok (.iconst 3, 1) := by decide +kernel
theorem dL_rules_123 : decode cL_rules 123 = .ok (.invokestatic 8, 3) := by decide +kernel
theorem dL_rules_126 : decode cL_rules 126 = .ok (.iload_n 3, 1) := by decide +kernel
theorem dL_rules_127 : decode cL_rules 127 = .ok (.iload_n 1, 1) := by decide +kernel
theorem dL_rules_128 : decode cL_rules 128 = .ok (.bipush 12, 2) := by decide +kernel
theorem dL_rules_130 : decode cL_rules 130 = .ok (.ishr, 1) := by decide +kernel
theorem dL_rules_131 : decode cL_rules 131 = .ok (.iconst 5, 1) := by decide +kernel
theorem dL_rules_132 : decode cL_rules 132 = .ok (.invokestatic 8, 3) := by decide +kernel
theorem dL_rules_135 : decode cL_rules 135 = .ok (.iload 4, 2) := by decide +kernel
theorem dL_rules_137 : decode cL_rules 137 = .ok (.iload_n 1, 1) := by decide +kernel
theorem dL_rules_138 : decode cL_rules 138 = .ok (.bipush 14, 2) := by decide +kernel
theorem dL_rules_140 : decode cL_rules 140 = .ok (.ishr, 1) := by decide +kernel
theorem dL_rules_141 : decode cL_rules 141 = .ok (.iconst 3, 1) := by decide +kernel
theorem dL_rules_142 : decode cL_rules 142 = .ok (.invokestatic 8, 3) := by decide +kernel
theorem dL_rules_145 : decode cL_rules 145 = .ok (.iload_n 1, 1) := by decide +kernel
theorem dL_rules_146 : decode cL_rules 146 = .ok (.bipush 13, 2) := by decide +kernel
theorem dL_rules_148 : decode cL_rules 148 = .ok (.ishr, 1) := by decide +kernel
theorem dL_rules_149 : decode cL_rules 149 = .ok (.iconst 4, 1) := by decide +kernel
theorem dL_rules_150 : decode cL_rules 150 = .ok (.invokestatic 8, 3) := by decide +kernel
theorem dL_rules_153 : decode cL_rules 153 = .ok (.iload 5, 2) := by decide +kernel
theorem dL_rules_155 : decode cL_rules 155 = .ok (.invokevirtual 78, 3) := by decide +kernel
theorem dL_rules_158 : decode cL_rules 158 = .ok (.istore 6, 2) := by decide +kernel
theorem dL_rules_160 : decode cL_rules 160 = .ok (.iload 6, 2) := by decide +kernel
theorem dL_rules_162 : decode cL_rules 162 = .ok (.iload_n 2, 1) := by decide +kernel
theorem dL_rules_163 : decode cL_rules 163 = .ok (.if_icmp .ne 83, 3) := by decide +kernel
theorem dL_rules_166 : decode cL_rules 166 = .ok (.aload_n 0, 1) := by decide +kernel
theorem dL_rules_167 : decode cL_rules 167 = .ok (.iload_n 2, 1) := by decide +kernel
theorem dL_rules_168 : decode cL_rules 168 = .ok (.iconst 3, 1) := by decide +kernel
theorem dL_rules_169 : decode cL_rules 169 = .ok (.invokevirtual 26, 3) := by decide +kernel
theorem dL_rules_172 : decode cL_rules 172 = .ok (.iload 4, 2) := by decide +kernel
theorem dL_rules_174 : decode cL_rules 174 = .ok (.if_icmp .ne 72, 3) := by decide +kernel
theorem dL_rules_177 : decode cL_rules 177 = .ok (.aload_n 0, 1) := by decide +kernel
theorem dL_rules_178 : decode cL_rules 178 = .ok (.iload_n 2, 1) := by decide +kernel
theorem dL_rules_179 : decode cL_rules 179 = .ok (.bipush 6, 2) := by decide +kernel
theorem dL_rules_181 : decode cL_rules 181 = .ok (.invokevirtual 26, 3) := by decide +kernel
theorem dL_rules_184 : decode cL_rules 184 = .ok (.iload 5, 2) := by decide +kernel
theorem dL_rules_186 : decode cL_rules 186 = .ok (.if_icmp .ne 60, 3) := by decide +kernel
theorem dL_rules_189 : decode cL_rules 189 = .ok (.aload_n 0, 1) := by decide +kernel
theorem dL_rules_190 : decode cL_rules 190 = .ok (.iload_n 2, 1) := by decide +kernel
theorem dL_rules_191 : decode cL_rules 191 = .ok (.bipush 7, 2) := by decide +kernel
theorem dL_rules_193 : decode cL_rules 193 = .ok (.invokevirtual 26, 3) := by decide +kernel
theorem dL_rules_196 : decode cL_rules 196 = .ok (.iconst 3, 1) := by decide +kernel
theorem dL_rules_197 : decode cL_rules 197 = .ok (.if_icmp .ne 49, 3) := by decide +kernel
theorem dL_rules_200 : decode cL_rules 200 = .ok (.aload_n 0, 1) := by decide +kernel
theorem dL_rules_201 : decode cL_rules 201 = .ok (.iload_n 2, 1) := by decide +kernel
theorem dL_rules_202 : decode cL_rules 202 = .ok (.bipush 8, 2) := by decide +kernel
theorem dL_rules_204 : decode cL_rules 204 = .ok (.invokevirtual 26, 3) := by decide +kernel
theorem dL_rules_207 : decode cL_rules 207 = .ok (.iconst 4, 1) := by decide +kernel
theorem dL_rules_208 : decode cL_rules 208 = .ok (.if_icmp .ne 38, 3) := by decide +kernel
theorem dL_rules_211 : decode cL_rules 211 = .ok (.aload_n 0, 1) := by decide +kernel
theorem dL_rules_212 : decode cL_rules 212 = .ok (.iload_n 2, 1) := by decide +kernel
theorem dL_rules_213 : decode cL_rules 213 = .ok (.bipush 9, 2) := by decide +kernel
theorem dL_rules_215 : decode cL_rules 215 = .ok (.invokevirtual 26, 3) := by decide +kernel
theorem dL_rules_218 : decode cL_rules 218 = .ok (.ifCond .ne 28, 3) := by decide +kernel
theorem dL_rules_221 : decode cL_rules 221 = .ok (.aload_n 0, 1) := by decide +kernel
theorem dL_rules_222 : decode cL_rules 222 = .ok (.iload_n 2, 1) := by decide +kernel
theorem dL_rules_223 : decode cL_rules 223 = .ok (.bipush 10, 2) := by decide +kernel
theorem dL_rules_225 : decode cL_rules 225 = .ok (.invokevirtual 26, 3) := by decide +kernel
theorem dL_rules_228 : decode cL_rules 228 = .ok (.iconst 1, 1) := by decide +kernel
theorem dL_rules_229 : decode cL_rules 229 = .ok (.if_icmp .ne 17, 3) := by decide +kernel
theorem dL_rules_232 : decode cL_rules 232 = .ok (.aload_n 0, 1) := by decide +kernel
theorem dL_rules_233 : decode cL_rules 233 = .ok (.iload_n 2, 1) := by decide +kernel
theorem dL_rules_234 : decode cL_rules 234 = .ok (.bipush 11, 2) := by decide +kernel
theorem dL_rules_236 : decode cL_rules 236 = .ok (.invokevirtual 26, 3) := by decide +kernel
theorem dL_rules_239 : decode cL_rules 239 = .ok (.ifCond .ne 7, 3) := by decide +kernel
theorem dL_rules_242 : decode cL_rules 242 = .ok (.iconst 1, 1) := by decide +kernel
theorem dL_rules_243 : decode cL_rules 243 = .ok (.goto 4, 3) := by decide +kernel
theorem dL_rules_246 : decode cL_rules 246 = .ok (.iconst 0, 1) := by decide +kernel
theorem dL_rules_247 : decode cL_rules 247 = .ok (.istore 7, 2) := by decide +kernel
theorem dL_rules_249 : decode cL_rules 249 = .ok (.iload 7, 2) := by decide +kernel
theorem dL_rules_251 : decode cL_rules 251 = .ok (.ifCond .eq 53, 3) := by decide +kernel
theorem dL_rules_254 : decode cL_rules 254 = .ok (.iload_n 1, 1) := by decide +kernel
theorem dL_rules_255 : decode cL_rules 255 = .ok (.bipush 20, 2) := by decide +kernel
theorem dL_rules_257 : decode cL_rules 257 = .ok (.ishr, 1) := by decide +kernel
theorem dL_rules_258 : decode cL_rules 258 = .ok (.iconst 1, 1) := by decide +kernel
theorem dL_rules_259 : decode cL_rules 259 = .ok (.iand, 1) := by decide +kernel
theorem dL_rules_260 : decode cL_rules 260 = .ok (.ifCond .eq 40, 3) := by decide +kernel
theorem dL_rules_263 : decode cL_rules 263 = .ok (.aload_n 0, 1) := by decide +kernel
theorem dL_rules_264 : decode cL_rules 264 = .ok (.iload_n 2, 1) := by decide +kernel
theorem dL_rules_265 : decode cL_rules 265 = .ok (.iload_n 1, 1) := by decide +kernel
theorem dL_rules_266 : decode cL_rules 266 = .ok (.bipush 21, 2) := by decide +kernel
theorem dL_rules_268 : decode cL_rules 268 = .ok (.ishr, 1) := by decide +kernel
theorem dL_rules_269 : decode cL_rules 269 = .ok (.iconst 4, 1) := by decide +kernel
theorem dL_rules_270 : decode cL_rules 270 = .ok (.invokestatic 8, 3) := by decide +kernel
theorem dL_rules_273 : decode cL_rules 273 = .ok (.iload_n 1, 1) := by decide +kernel
theorem dL_rules_274 : decode cL_rules 274 = .ok (.bipush 17, 2) := by decide +kernel
theorem dL_rules_276 : decode cL_rules 276 = .ok (.ishr, 1) := by decide +kernel
theorem dL_rules_277 : decode cL_rules 277 = .ok (.bipush 6, 2) := by decide +kernel
theorem dL_rules_279 : decode cL_rules 279 = .ok (.invokestatic 8, 3) := by decide +kernel
theorem dL_rules_282 : decode cL_rules 282 = .ok (.iload_n 1, 1) := by decide +kernel
theorem dL_rules_283 : decode cL_rules 283 = .ok (.bipush 12, 2) := by decide +kernel
theorem dL_rules_285 : decode cL_rules 285 = .ok (.ishr, 1) := by decide +kernel
theorem dL_rules_286 : decode cL_rules 286 = .ok (.bipush 24, 2) := by decide +kernel
theorem dL_rules_288 : decode cL_rules 288 = .ok (.invokestatic 8, 3) := by decide +kernel
theorem dL_rules_291 : decode cL_rules 291 = .ok (.iconst 4, 1) := by decide +kernel
theorem dL_rules_292 : decode cL_rules 292 = .ok (.isub, 1) := by decide +kernel
theorem dL_rules_293 : decode cL_rules 293 = .ok (.invokevirtual 85, 3) := by decide +kernel
theorem dL_rules_296 : decode cL_rules 296 = .ok (.iload_n 2, 1) := by decide +kernel
theorem dL_rules_297 : decode cL_rules 297 = .ok (.if_icmp .ne 7, 3) := by decide +kernel
theorem dL_rules_300 : decode cL_rules 300 = .ok (.iconst 1, 1) := by decide +kernel
theorem dL_rules_301 : decode cL_rules 301 = .ok (.goto 4, 3) := by decide +kernel
theorem dL_rules_304 : decode cL_rules 304 = .ok (.iconst 0, 1) := by decide +kernel
theorem dL_rules_305 : decode cL_rules 305 = .ok (.ireturn, 1) := by decide +kernel
theorem dL_does_0 : decode cL_does 0 = .ok (.aload_n 0, 1) := by decide +kernel
theorem dL_does_1 : decode cL_does 1 = .ok (.iconst 0, 1) := by decide +kernel
theorem dL_does_2 : decode cL_does 2 = .ok (.invokevirtual 14, 3) := by decide +kernel
theorem dL_does_5 : decode cL_does 5 = .ok (.istore_n 3, 1) := by decide +kernel
theorem dL_does_6 : decode cL_does 6 = .ok (.iload_n 3, 1) := by decide +kernel
theorem dL_does_7 : decode cL_does 7 = .ok (.ifCond .le 27, 3) := by decide +kernel
theorem dL_does_10 : decode cL_does 10 = .ok (.iload_n 2, 1) := by decide +kernel
theorem dL_does_11 : decode cL_does 11 = .ok (.iconst 4, 1) := by decide +kernel
theorem dL_does_12 : decode cL_does 12 = .ok (.ishr, 1) := by decide +kernel
theorem dL_does_13 : decode cL_does 13 = .ok (.bipush 7, 2) := by decide +kernel
theorem dL_does_15 : decode cL_does 15 = .ok (.iand, 1) := by decide +kernel
theorem dL_does_16 : decode cL_does 16 = .ok (.ifCond .eq 18, 3) := by decide +kernel
theorem dL_does_19 : decode cL_does 19 = .ok (.aload_n 0, 1) := by decide +kernel
theorem dL_does_20 : decode cL_does 20 = .ok (.iload_n 2, 1) := by decide +kernel
theorem dL_does_21 : decode cL_does 21 = .ok (.bipush 7, 2) := by decide +kernel
theorem dL_does_23 : decode cL_does 23 = .ok (.ishr, 1) := by decide +kernel
theorem dL_does_24 : decode cL_does 24 = .ok (.iload_n 3, 1) := by decide +kernel
theorem dL_does_25 : decode cL_does 25 = .ok (.invokestatic 8, 3) := by decide +kernel
theorem dL_does_28 : decode cL_does 28 = .ok (.invokevirtual 20, 3) := by decide +kernel
theorem dL_does_31 : decode cL_does 31 = .ok (.goto 12, 3) := by decide +kernel
theorem dL_does_34 : decode cL_does 34 = .ok (.iload_n 2, 1) := by decide +kernel
theorem dL_does_35 : decode cL_does 35 = .ok (.bipush 7, 2) := by decide +kernel
theorem dL_does_37 : decode cL_does 37 = .ok (.ishr, 1) := by decide +kernel
theorem dL_does_38 : decode cL_does 38 = .ok (.bipush 100, 2) := by decide +kernel
theorem dL_does_40 : decode cL_does 40 = .ok (.invokestatic 8, 3) := by decide +kernel
theorem dL_does_43 : decode cL_does 43 = .ok (.istore 4, 2) := by decide +kernel
theorem dL_does_45 : decode cL_does 45 = .ok (.iload_n 2, 1) := by decide +kernel
theorem dL_does_46 : decode cL_does 46 = .ok (.bipush 16, 2) := by decide +kernel
theorem dL_does_48 : decode cL_does 48 = .ok (.invokestatic 8, 3) := by decide +kernel
theorem dL_does_51 : decode cL_does 51 = .ok (.tableswitch 276 0 9 #[53, 53, 53, 59, 150, 238, 246, 246, 246, 246], 53) := by decide +kernel
theorem dL_does_104 : decode cL_does 104 = .ok (.aload_n 0, 1) := by decide +kernel
theorem dL_does_105 : decode cL_does 105 = .ok (.iload_n 2, 1) := by decide +kernel
theorem dL_does_106 : decode cL_does 106 = .ok (.invokestatic 88, 3) := by decide +kernel
theorem dL_does_109 : decode cL_does 109 = .ok (.ireturn, 1) := by decide +kernel
theorem dL_does_110 : decode cL_does 110 = .ok (.iload_n 2, 1) := by decide +kernel
theorem dL_does_111 : decode cL_does 111 = .ok (.iconst 5, 1) := by decide +kernel
theorem dL_does_112 : decode cL_does 112 = .ok (.ishr, 1) := by decide +kernel
theorem dL_does_113 : decode cL_does 113 = .ok (.bipush 13, 2) := by decide +kernel
theorem dL_does_115 : decode cL_does 115 = .ok (.invokestatic 8, 3) := by decide +kernel
theorem dL_does_118 : decode cL_does 118 = .ok (.istore 5, 2) := by decide +kernel
theorem dL_does_120 : decode cL_does 120 = .ok (.iload_n 2, 1) := by decide +kernel
theorem dL_does_121 : decode cL_does 121 = .ok (.bipush 9, 2) := by decide +kernel
theorem dL_does_123 : decode cL_does 123 = .ok (.ishr, 1) := by decide +kernel
theorem dL_does_124 : decode cL_does 124 = .ok (.iconst 1, 1) := by decide +kernel
theorem dL_does_125 : decode cL_does 125 = .ok (.iand, 1) := by decide +kernel
theorem dL_does_126 : decode cL_does 126 = .ok (.iconst 1, 1) := by decide +kernel
theorem dL_does_127 : decode cL_does 127 = .ok (.if_icmp .ne 7, 3) := by decide +kernel
theorem dL_does_130 : decode cL_does 130 = .ok (.iconst 1, 1) := by decide +kernel
theorem dL_does_131 : decode cL_does 131 = .ok (.goto 4, 3) := by decide +kernel
theorem dL_does_134 : decode cL_does 134 = .ok (.iconst 0, 1) := by decide +kernel
theorem dL_does_135 : decode cL_does 135 = .ok (.istore 6, 2) := by decide +kernel
theorem dL_does_137 : decode cL_does 137 = .ok (.aload_n 0, 1) := by decide +kernel
theorem dL_does_138 : decode cL_does 138 = .ok (.iload 5, 2) := by decide +kernel
theorem dL_does_140 : decode cL_does 140 = .ok (.bipush 10, 2) := by decide +kernel
theorem dL_does_142 : decode cL_does 142 = .ok (.invokevirtual 26, 3) := by decide +kernel
theorem dL_does_145 : decode cL_does 145 = .ok (.istore 7, 2) := by decide +kernel
theorem dL_does_147 : decode cL_does 147 = .ok (.aload_n 0, 1) := by decide +kernel
theorem dL_does_148 : decode cL_does 148 = .ok (.iload 5, 2) := by decide +kernel
theorem dL_does_150 : decode cL_does 150 = .ok (.iload 6, 2) := by decide +kernel
theorem dL_does_152 : decode cL_does 152 = .ok (.invokevirtual 92, 3) := by decide +kernel
theorem dL_does_155 : decode cL_does 155 = .ok (.iload 7, 2) := by decide +kernel
theorem dL_does_157 : decode cL_does 157 = .ok (.ifCond .ge 9, 3) := by decide +kernel
theorem dL_does_160 : decode cL_does 160 = .ok (.sipush (-1001), 3) := by decide +kernel
theorem dL_does_163 : decode cL_does 163 = .ok (.goto 29, 3) := by decide +kernel
theorem dL_does_166 : decode cL_does 166 = .ok (.iload 7, 2) := by decide +kernel
theorem dL_does_168 : decode cL_does 168 = .ok (.iload 6, 2) := by decide +kernel
theorem dL_does_170 : decode cL_does 170 = .ok (.ifCond .eq 7, 3) := by decide +kernel
theorem dL_does_173 : decode cL_does 173 = .ok (.iconst 1, 1) := by decide +kernel
theorem dL_does_174 : decode cL_does 174 = .ok (.goto 4, 3) := by decide +kernel
theorem dL_does_177 : decode cL_does 177 = .ok (.iconst 0, 1) := by decide +kernel
theorem dL_does_178 : decode cL_does 178 = .ok (.if_icmp .ne 9, 3) := by decide +kernel
theorem dL_does_181 : decode cL_does 181 = .ok (.sipush (-1006), 3) := by decide +kernel
theorem dL_does_184 : decode cL_does 184 = .ok (.goto 8, 3) := by decide +kernel
theorem dL_does_187 : decode cL_does 187 = .ok (.aload_n 0, 1) := by decide +kernel
theorem dL_does_188 : decode cL_does 188 = .ok (.iconst 2, 1) := by decide +kernel
theorem dL_does_189 : decode cL_does 189 = .ok (.invokevirtual 14, 3) := by decide +kernel
theorem dL_does_192 : decode cL_does 192 = .ok (.if_icmp .ne 7, 3) := by decide +kernel
theorem dL_does_195 : decode cL_does 195 = .ok (.iconst 1, 1) := by decide +kernel
theorem dL_does_196 : decode cL_does 196 = .ok (.goto 4, 3) := by decide +kernel
theorem dL_does_199 : decode cL_does 199 = .ok (.iconst 0, 1) := by decide +kernel
theorem dL_does_200 : decode cL_does 200 = .ok (.ireturn, 1) := by decide +kernel
theorem dL_does_201 : decode cL_does 201 = .ok (.iload_n 2, 1) := by decide +kernel
theorem dL_does_202 : decode cL_does 202 = .ok (.iconst 5, 1) := by decide +kernel
theorem dL_does_203 : decode cL_does 203 = .ok (.ishr, 1) := by decide +kernel
theorem dL_does_204 : decode cL_does 204 = .ok (.iconst 1, 1) := by decide +kernel
theorem dL_does_205 : decode cL_does 205 = .ok (.iand, 1) := by decide +kernel
theorem dL_does_206 : decode cL_does 206 = .ok (.istore 8, 2) := by decide +kernel
theorem dL_does_208 : decode cL_does 208 = .ok (.aload_n 0, 1) := by decide +kernel
theorem dL_does_209 : decode cL_does 209 = .ok (.iconst 3, 1) := by decide +kernel
theorem dL_does_210 : decode cL_does 210 = .ok (.iload 8, 2) := by decide +kernel
theorem dL_does_212 : decode cL_does 212 = .ok (.iadd, 1) := by decide +kernel
theorem dL_does_213 : decode cL_does 213 = .ok (.invokevirtual 14, 3) := by decide +kernel
theorem dL_does_216 : decode cL_does 216 = .ok (.istore 9, 2) := by decide +kernel
theorem dL_does_218 : decode cL_does 218 = .ok (.iload 8, 2) := by decide +kernel
theorem dL_does_220 : decode cL_does 220 = .ok (.iconst 1, 1) := by decide +kernel
theorem dL_does_221 : decode cL_does 221 = .ok (.if_icmp .ne 12, 3) := by decide +kernel
theorem dL_does_224 : decode cL_does 224 = .ok (.iload_n 2, 1) := by decide +kernel
theorem dL_does_225 : decode cL_does 225 = .ok (.bipush 6, 2) := by decide +kernel
theorem dL_does_227 : decode cL_does 227 = .ok (.ishr, 1) := by decide +kernel
theorem dL_does_228 : decode cL_does 228 = .ok (.iconst 1, 1) := by decide +kernel
theorem dL_does_229 : decode cL_does 229 = .ok (.iand, 1) := by decide +kernel
theorem dL_does_230 : decode cL_does 230 = .ok (.goto 12, 3) := by decide +kernel
theorem dL_does_233 : decode cL_does 233 = .ok (.iconst 1, 1) := by decide +kernel
theorem dL_does_234 : decode cL_does 234 = .ok (.iload_n 2, 1) := by decide +kernel
theorem dL_does_235 : decode cL_does 235 = .ok (.bipush 6, 2) := by decide +kernel
theorem dL_does_237 : decode cL_does 237 = .ok (.ishr, 1) := by decide +kernel
theorem dL_does_238 : decode cL_does 238 = .ok (.bipush 7, 2) := by decide +kernel
theorem dL_does_240 : decode cL_does 240 = .ok (.iand, 1) := by decide +kernel
theorem dL_does_241 : decode cL_does 241 = .ok (.iadd, 1) := by decide +kernel
theorem dL_does_242 : decode cL_does 242 = .ok (.istore 10, 2) := by decide +kernel
theorem dL_does_244 : decode cL_does 244 = .ok (.aload_n 0, 1) := by decide +kernel
theorem dL_does_245 : decode cL_does 245 = .ok (.iload 8, 2) := by decide +kernel
theorem dL_does_247 : decode cL_does 247 = .ok (.iload 10, 2) := by decide +kernel
theorem dL_does_249 : decode cL_does 249 = .ok (.invokevirtual 96, 3) := by decide +kernel
theorem dL_does_252 : decode cL_does 252 = .ok (.iload 9, 2) := by decide +kernel
theorem dL_does_254 : decode cL_does 254 = .ok (.iload 10, 2) := by decide +kernel
theorem dL_does_256 : decode cL_does 256 = .ok (.if_icmp .ne 9, 3) := by decide +kernel
theorem dL_does_259 : decode cL_does 259 = .ok (.sipush (-1006), 3) := by decide +kernel
theorem dL_does_262 : decode cL_does 262 = .ok (.goto 5, 3) := by decide +kernel
theorem dL_does_265 : decode cL_does 265 = .ok (.iload 9, 2) := by decide +kernel
theorem dL_does_267 : decode cL_does 267 = .ok (.if_icmp .ne 20, 3) := by decide +kernel
theorem dL_does_270 : decode cL_does 270 = .ok (.aload_n 0, 1) := by decide +kernel
theorem dL_does_271 : decode cL_does 271 = .ok (.iconst 3, 1) := by decide +kernel
theorem dL_does_272 : decode cL_does 272 = .ok (.iload 8, 2) := by decide +kernel
theorem dL_does_274 : decode cL_does 274 = .ok (.iadd, 1) := by decide +kernel
theorem dL_does_275 : decode cL_does 275 = .ok (.invokevirtual 14, 3) := by decide +kernel
theorem dL_does_278 : decode cL_does 278 = .ok (.iload 10, 2) := by decide +kernel
theorem dL_does_280 : decode cL_does 280 = .ok (.if_icmp .ne 7, 3) := by decide +kernel
theorem dL_does_283 : decode cL_does 283 = .ok (.iconst 1, 1) := by decide +kernel
theorem dL_does_284 : decode cL_does 284 = .ok (.goto 4, 3) := by decide +kernel
theorem dL_does_287 : decode cL_does 287 = .ok (.iconst 0, 1) := by decide +kernel
theorem dL_does_288 : decode cL_does 288 = .ok (.ireturn, 1) := by decide +kernel
theorem dL_does_289 : decode cL_does 289 = .ok (.aload_n 0, 1) := by decide +kernel
theorem dL_does_290 : decode cL_does 290 = .ok (.aload_n 1, 1) := by decide +kernel
theorem dL_does_291 : decode cL_does 291 = .ok (.iload 4, 2) := by decide +kernel
theorem dL_does_293 : decode cL_does 293 = .ok (.invokestatic 99, 3) := by decide +kernel
theorem dL_does_296 : decode cL_does 296 = .ok (.ireturn, 1) := by decide +kernel
theorem dL_does_297 : decode cL_does 297 = .ok (.aload_n 0, 1) := by decide +kernel
theorem dL_does_298 : decode cL_does 298 = .ok (.aload_n 1, 1) := by decide +kernel
theorem dL_does_299 : decode cL_does 299 = .ok (.iload_n 2, 1) := by decide +kernel
theorem dL_does_300 : decode cL_does 300 = .ok (.iload_n 2, 1) := by decide +kernel
theorem dL_does_301 : decode cL_does 301 = .ok (.bipush 7, 2) := by decide +kernel
theorem dL_does_303 : decode cL_does 303 = .ok (.ishr, 1) := by decide +kernel
theorem dL_does_304 : decode cL_does 304 = .ok (.iload_n 2, 1) := by decide +kernel
theorem dL_does_305 : decode cL_does 305 = .ok (.bipush 6, 2) := by decide +kernel
theorem dL_does_307 : decode cL_does 307 = .ok (.ishr, 1) := by decide +kernel
theorem dL_does_308 : decode cL_does 308 = .ok (.iconst 1, 1) := by decide +kernel
theorem dL_does_309 : decode cL_does 309 = .ok (.iand, 1) := by decide +kernel
theorem dL_does_310 : decode cL_does 310 = .ok (.ifCond .ne 8, 3) := by decide +kernel
theorem dL_does_313 : decode cL_does 313 = .ok (.bipush 12, 2) := by decide +kernel
theorem dL_does_315 : decode cL_does 315 = .ok (.goto 5, 3) := by decide +kernel
theorem dL_does_318 : decode cL_does 318 = .ok (.bipush 100, 2) := by decide +kernel
theorem dL_does_320 : decode cL_does 320 = .ok (.invokestatic 8, 3) := by decide +kernel
theorem dL_does_323 : decode cL_does 323 = .ok (.invokestatic 102, 3) := by decide +kernel
theorem dL_does_326 : decode cL_does 326 = .ok (.ireturn, 1) := by decide +kernel
theorem dL_does_327 : decode cL_does 327 = .ok (.aload_n 0, 1) := by decide +kernel
theorem dL_does_328 : decode cL_does 328 = .ok (.aload_n 1, 1) := by decide +kernel
theorem dL_does_329 : decode cL_does 329 = .ok (.iload_n 2, 1) := by decide +kernel
theorem dL_does_330 : decode cL_does 330 = .ok (.iload 4, 2) := by decide +kernel
theorem dL_does_332 : decode cL_does 332 = .ok (.invokestatic 106, 3) := by decide +kernel
theorem dL_does_335 : decode cL_does 335 = .ok (.ireturn, 1) := by decide +kernel
theorem dL_law_0 : decode cL_law 0 = .ok (.new 15, 3) := by decide +kernel
theorem dL_law_3 : decode cL_law 3 = .ok (.dup, 1) := by decide +kernel
theorem dL_law_4 : decode cL_law 4 = .ok (.invokespecial 109, 3) := by decide +kernel
theorem dL_law_7 : decode cL_law 7 = .ok (.astore_n 1, 1) := by decide +kernel
theorem dL_law_8 : decode cL_law 8 = .ok (.bipush 9, 2) := by decide +kernel
theorem dL_law_10 : decode cL_law 10 = .ok (.newarray .int, 2) := by decide +kernel
theorem dL_law_12 : decode cL_law 12 = .ok (.astore_n 2, 1) := by decide +kernel
theorem dL_law_13 : decode cL_law 13 = .ok (.aload_n 1, 1) := by decide +kernel
theorem dL_law_14 : decode cL_law 14 = .ok (.iconst 3, 1) := by decide +kernel
theorem dL_law_15 : decode cL_law 15 = .ok (.invokevirtual 14, 3) := by decide +kernel
theorem dL_law_18 : decode cL_law 18 = .ok (.iconst 4, 1) := by decide +kernel
theorem dL_law_19 : decode cL_law 19 = .ok (.if_icmp .ne 41, 3) := by decide +kernel
theorem dL_law_22 : decode cL_law 22 = .ok (.aload_n 1, 1) := by decide +kernel
theorem dL_law_23 : decode cL_law 23 = .ok (.iconst 4, 1) := by decide +kernel
theorem dL_law_24 : decode cL_law 24 = .ok (.invokevirtual 14, 3) := by decide +kernel
theorem dL_law_27 : decode cL_law 27 = .ok (.ifCond .ne 33, 3) := by decide +kernel
theorem dL_law_30 : decode cL_law 30 = .ok (.aload_n 1, 1) := by decide +kernel
theorem dL_law_31 : decode cL_law 31 = .ok (.invokevirtual 110, 3) := by decide +kernel
theorem dL_law_34 : decode cL_law 34 = .ok (.sipush (-1006), 3) := by decide +kernel
theorem dL_law_37 : decode cL_law 37 = .ok (.if_icmp .ne 23, 3) := by decide +kernel
theorem dL_law_40 : decode cL_law 40 = .ok (.aload_n 1, 1) := by decide +kernel
theorem dL_law_41 : decode cL_law 41 = .ok (.invokevirtual 114, 3) := by decide +kernel
theorem dL_law_44 : decode cL_law 44 = .ok (.sipush (-1006), 3) := by decide +kernel
theorem dL_law_47 : decode cL_law 47 = .ok (.if_icmp .ne 13, 3) := by decide +kernel
theorem dL_law_50 : decode cL_law 50 = .ok (.aload_n 1, 1) := by decide +kernel
theorem dL_law_51 : decode cL_law 51 = .ok (.invokevirtual 117, 3) := by decide +kernel
theorem dL_law_54 : decode cL_law 54 = .ok (.sipush (-2000), 3) := by decide +kernel
theorem dL_law_57 : decode cL_law 57 = .ok (.if_icmp .eq 5, 3) := by decide +kernel
theorem dL_law_60 : decode cL_law 60 = .ok (.iconst 0, 1) := by decide +kernel
theorem dL_law_61 : decode cL_law 61 = .ok (.ireturn, 1) := by decide +kernel
theorem dL_law_62 : decode cL_law 62 = .ok (.iconst 0, 1) := by decide +kernel
theorem dL_law_63 : decode cL_law 63 = .ok (.istore_n 3, 1) := by decide +kernel
theorem dL_law_64 : decode cL_law 64 = .ok (.iload_n 3, 1) := by decide +kernel
theorem dL_law_65 : decode cL_law 65 = .ok (.bipush 70, 2) := by decide +kernel
theorem dL_law_67 : decode cL_law 67 = .ok (.if_icmp .ge 45, 3) := by decide +kernel
theorem dL_law_70 : decode cL_law 70 = .ok (.aload_n 1, 1) := by decide +kernel
theorem dL_law_71 : decode cL_law 71 = .ok (.aload_n 2, 1) := by decide +kernel
theorem dL_law_72 : decode cL_law 72 = .ok (.aload_n 0, 1) := by decide +kernel
theorem dL_law_73 : decode cL_law 73 = .ok (.iload_n 3, 1) := by decide +kernel
theorem dL_law_74 : decode cL_law 74 = .ok (.invokestatic 120, 3) := by decide +kernel
theorem dL_law_77 : decode cL_law 77 = .ok (.invokestatic 124, 3) := by decide +kernel
theorem dL_law_80 : decode cL_law 80 = .ok (.ifCond .eq 24, 3) := by decide +kernel
theorem dL_law_83 : decode cL_law 83 = .ok (.aload_n 1, 1) := by decide +kernel
theorem dL_law_84 : decode cL_law 84 = .ok (.invokestatic 127, 3) := by decide +kernel
theorem dL_law_87 : decode cL_law 87 = .ok (.ifCond .eq 17, 3) := by decide +kernel
theorem dL_law_90 : decode cL_law 90 = .ok (.iload_n 3, 1) := by decide +kernel
theorem dL_law_91 : decode cL_law 91 = .ok (.iconst 5, 1) := by decide +kernel
theorem dL_law_92 : decode cL_law 92 = .ok (.irem, 1) := by decide +kernel
theorem dL_law_93 : decode cL_law 93 = .ok (.iconst 4, 1) := by decide +kernel
theorem dL_law_94 : decode cL_law 94 = .ok (.if_icmp .ne 12, 3) := by decide +kernel
theorem dL_law_97 : decode cL_law 97 = .ok (.aload_n 1, 1) := by decide +kernel
theorem dL_law_98 : decode cL_law 98 = .ok (.invokestatic 131, 3) := by decide +kernel
theorem dL_law_101 : decode cL_law 101 = .ok (.ifCond .ne 5, 3) := by decide +kernel
theorem dL_law_104 : decode cL_law 104 = .ok (.iconst 0, 1) := by decide +kernel
theorem dL_law_105 : decode cL_law 105 = .ok (.ireturn, 1) := by decide +kernel
theorem dL_law_106 : decode cL_law 106 = .ok (.iinc 3 1, 3) := by decide +kernel
theorem dL_law_109 : decode cL_law 109 = .ok (.goto (-45), 3) := by decide +kernel
theorem dL_law_112 : decode cL_law 112 = .ok (.aload_n 1, 1) := by decide +kernel
theorem dL_law_113 : decode cL_law 113 = .ok (.bipush 100, 2) := by decide +kernel
theorem dL_law_115 : decode cL_law 115 = .ok (.iconst 0, 1) := by decide +kernel
theorem dL_law_116 : decode cL_law 116 = .ok (.iconst 0, 1) := by decide +kernel
theorem dL_law_117 : decode cL_law 117 = .ok (.iconst 0, 1) := by decide +kernel
theorem dL_law_118 : decode cL_law 118 = .ok (.invokevirtual 47, 3) := by decide +kernel
theorem dL_law_121 : decode cL_law 121 = .ok (.sipush (-1002), 3) := by decide +kernel
theorem dL_law_124 : decode cL_law 124 = .ok (.if_icmp .ne 131, 3) := by decide +kernel
theorem dL_law_127 : decode cL_law 127 = .ok (.aload_n 1, 1) := by decide +kernel
theorem dL_law_128 : decode cL_law 128 = .ok (.iconst 0, 1) := by decide +kernel
theorem dL_law_129 : decode cL_law 129 = .ok (.iconst 0, 1) := by decide +kernel
theorem dL_law_130 : decode cL_law 130 = .ok (.sipush 1000, 3) := by decide +kernel
theorem dL_law_133 : decode cL_law 133 = .ok (.iconst 0, 1) := by decide +kernel
theorem dL_law_134 : decode cL_law 134 = .ok (.invokevirtual 47, 3) := by decide +kernel
theorem dL_law_137 : decode cL_law 137 = .ok (.sipush (-1002), 3) := by decide +kernel
theorem dL_law_140 : decode cL_law 140 = .ok (.if_icmp .ne 115, 3) := by decide +kernel
theorem dL_law_143 : decode cL_law 143 = .ok (.aload_n 1, 1) := by decide +kernel
theorem dL_law_144 : decode cL_law 144 = .ok (.bipush 100, 2) := by decide +kernel
theorem dL_law_146 : decode cL_law 146 = .ok (.invokevirtual 72, 3) := by decide +kernel
theorem dL_law_149 : decode cL_law 149 = .ok (.sipush (-1001), 3) := by decide +kernel
theorem dL_law_152 : decode cL_law 152 = .ok (.if_icmp .ne 103, 3) := by decide +kernel
theorem dL_law_155 : decode cL_law 155 = .ok (.aload_n 1, 1) := by decide +kernel
theorem dL_law_156 : decode cL_law 156 = .ok (.iconst 2, 1) := by decide +kernel
theorem dL_law_157 : decode cL_law 157 = .ok (.iconst 0, 1) := by decide +kernel
theorem dL_law_158 : decode cL_law 158 = .ok (.invokevirtual 96, 3) := by decide +kernel
theorem dL_law_161 : decode cL_law 161 = .ok (.sipush (-1001), 3) := by decide +kernel
theorem dL_law_164 : decode cL_law 164 = .ok (.if_icmp .ne 91, 3) := by decide +kernel
theorem dL_law_167 : decode cL_law 167 = .ok (.aload_n 1, 1) := by decide +kernel
theorem dL_law_168 : decode cL_law 168 = .ok (.iconst 0, 1) := by decide +kernel
theorem dL_law_169 : decode cL_law 169 = .ok (.bipush 9, 2) := by decide +kernel
theorem dL_law_171 : decode cL_law 171 = .ok (.invokevirtual 96, 3) := by decide +kernel
theorem dL_law_174 : decode cL_law 174 = .ok (.sipush (-1002), 3) := by decide +kernel
theorem dL_law_177 : decode cL_law 177 = .ok (.if_icmp .ne 78, 3) := by decide +kernel
theorem dL_law_180 : decode cL_law 180 = .ok (.aload_n 1, 1) := by decide +kernel
theorem dL_law_181 : decode cL_law 181 = .ok (.iconst 0, 1) := by decide +kernel
theorem dL_law_182 : decode cL_law 182 = .ok (.iconst 0, 1) := by decide +kernel
theorem dL_law_183 : decode cL_law 183 = .ok (.invokevirtual 96, 3) := by decide +kernel
theorem dL_law_186 : decode cL_law 186 = .ok (.sipush (-1002), 3) := by decide +kernel
theorem dL_law_189 : decode cL_law 189 = .ok (.if_icmp .ne 66, 3) := by decide +kernel
theorem dL_law_192 : decode cL_law 192 = .ok (.aload_n 1, 1) := by decide +kernel
theorem dL_law_193 : decode cL_law 193 = .ok (.bipush 12, 2) := by decide +kernel
theorem dL_law_195 : decode cL_law 195 = .ok (.invokevirtual 14, 3) := by decide +kernel
theorem dL_law_198 : decode cL_law 198 = .ok (.sipush (-1002), 3) := by decide +kernel
theorem dL_law_201 : decode cL_law 201 = .ok (.if_icmp .ne 54, 3) := by decide +kernel
theorem dL_law_204 : decode cL_law 204 = .ok (.aload_n 1, 1) := by decide +kernel
theorem dL_law_205 : decode cL_law 205 = .ok (.iconst 3, 1) := by decide +kernel
theorem dL_law_206 : decode cL_law 206 = .ok (.iconst 0, 1) := by decide +kernel
theorem dL_law_207 : decode cL_law 207 = .ok (.iconst 0, 1) := by decide +kernel
theorem dL_law_208 : decode cL_law 208 = .ok (.invokevirtual 29, 3) := by decide +kernel
theorem dL_law_211 : decode cL_law 211 = .ok (.sipush (-1002), 3) := by decide +kernel
theorem dL_law_214 : decode cL_law 214 = .ok (.if_icmp .ne 41, 3) := by decide +kernel
theorem dL_law_217 : decode cL_law 217 = .ok (.aload_n 1, 1) := by decide +kernel
theorem dL_law_218 : decode cL_law 218 = .ok (.iconst 0, 1) := by decide +kernel
theorem dL_law_219 : decode cL_law 219 = .ok (.iconst 0, 1) := by decide +kernel
theorem dL_law_220 : decode cL_law 220 = .ok (.iconst 0, 1) := by decide +kernel
theorem dL_law_221 : decode cL_law 221 = .ok (.iconst 3, 1) := by decide +kernel
theorem dL_law_222 : decode cL_law 222 = .ok (.iconst 0, 1) := by decide +kernel
theorem dL_law_223 : decode cL_law 223 = .ok (.iconst 0, 1) := by decide +kernel
theorem dL_law_224 : decode cL_law 224 = .ok (.iconst 0, 1) := by decide +kernel
theorem dL_law_225 : decode cL_law 225 = .ok (.invokevirtual 78, 3) := by decide +kernel
theorem dL_law_228 : decode cL_law 228 = .ok (.sipush (-1002), 3) := by decide +kernel
theorem dL_law_231 : decode cL_law 231 = .ok (.if_icmp .ne 24, 3) := by decide +kernel
theorem dL_law_234 : decode cL_law 234 = .ok (.aload_n 1, 1) := by decide +kernel
theorem dL_law_235 : decode cL_law 235 = .ok (.iconst 0, 1) := by decide +kernel
theorem dL_law_236 : decode cL_law 236 = .ok (.iconst 1, 1) := by decide +kernel
theorem dL_law_237 : decode cL_law 237 = .ok (.iconst 0, 1) := by decide +kernel
theorem dL_law_238 : decode cL_law 238 = .ok (.iconst 2, 1) := by decide +kernel
theorem dL_law_239 : decode cL_law 239 = .ok (.iconst 0, 1) := by decide +kernel
theorem dL_law_240 : decode cL_law 240 = .ok (.iconst 0, 1) := by decide +kernel
theorem dL_law_241 : decode cL_law 241 = .ok (.iconst 0, 1) := by decide +kernel
theorem dL_law_242 : decode cL_law 242 = .ok (.invokevirtual 78, 3) := by decide +kernel
theorem dL_law_245 : decode cL_law 245 = .ok (.sipush (-1002), 3) := by decide +kernel
theorem dL_law_248 : decode cL_law 248 = .ok (.if_icmp .ne 7, 3) := by decide +kernel
theorem dL_law_251 : decode cL_law 251 = .ok (.iconst 1, 1) := by decide +kernel
theorem dL_law_252 : decode cL_law 252 = .ok (.goto 4, 3) := by decide +kernel
theorem dL_law_255 : decode cL_law 255 = .ok (.iconst 0, 1) := by decide +kernel
theorem dL_law_256 : decode cL_law 256 = .ok (.ireturn, 1) := by decide +kernel
