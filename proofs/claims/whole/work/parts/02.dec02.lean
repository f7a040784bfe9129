theorem dX11_isNothing_46 : decode cX11_isNothing 46 = .ok (.ifCond .ge 16, 3) := by decide +kernel
theorem dX11_isNothing_49 : decode cX11_isNothing 49 = .ok (.aload_n 0, 1) := by decide +kernel
theorem dX11_isNothing_50 : decode cX11_isNothing 50 = .ok (.getfield 7, 3) := by decide +kernel
theorem dX11_isNothing_53 : decode cX11_isNothing 53 = .ok (.iload_n 1, 1) := by decide +kernel
theorem dX11_isNothing_54 : decode cX11_isNothing 54 = .ok (.iconst 0, 1) := by decide +kernel
theorem dX11_isNothing_55 : decode cX11_isNothing 55 = .ok (.iadd, 1) := by decide +kernel
theorem dX11_isNothing_56 : decode cX11_isNothing 56 = .ok (.iaload, 1) := by decide +kernel
theorem dX11_isNothing_57 : decode cX11_isNothing 57 = .ok (.bipush 20, 2) := by decide +kernel
theorem dX11_isNothing_59 : decode cX11_isNothing 59 = .ok (.if_icmp .ne 7, 3) := by decide +kernel
theorem dX11_isNothing_62 : decode cX11_isNothing 62 = .ok (.iconst 1, 1) := by decide +kernel
theorem dX11_isNothing_63 : decode cX11_isNothing 63 = .ok (.goto 4, 3) := by decide +kernel
theorem dX11_isNothing_66 : decode cX11_isNothing 66 = .ok (.iconst 0, 1) := by decide +kernel
theorem dX11_isNothing_67 : decode cX11_isNothing 67 = .ok (.ireturn, 1) := by decide +kernel
theorem dX11_isNothing_68 : decode cX11_isNothing 68 = .ok (.iload 6, 2) := by decide +kernel
theorem dX11_isNothing_70 : decode cX11_isNothing 70 = .ok (.ifCond .lt 34, 3) := by decide +kernel
theorem dX11_isNothing_73 : decode cX11_isNothing 73 = .ok (.aload_n 0, 1) := by decide +kernel
theorem dX11_isNothing_74 : decode cX11_isNothing 74 = .ok (.getfield 22, 3) := by decide +kernel
theorem dX11_isNothing_77 : decode cX11_isNothing 77 = .ok (.bipush 8, 2) := by decide +kernel
theorem dX11_isNothing_79 : decode cX11_isNothing 79 = .ok (.iload_n 2, 1) := by decide +kernel
theorem dX11_isNothing_80 : decode cX11_isNothing 80 = .ok (.imul, 1) := by decide +kernel
theorem dX11_isNothing_81 : decode cX11_isNothing 81 = .ok (.iconst 0, 1) := by decide +kernel
theorem dX11_isNothing_82 : decode cX11_isNothing 82 = .ok (.iadd, 1) := by decide +kernel
theorem dX11_isNothing_83 : decode cX11_isNothing 83 = .ok (.iaload, 1) := by decide +kernel
theorem dX11_isNothing_84 : decode cX11_isNothing 84 = .ok (.iconst 1, 1) := by decide +kernel
theorem dX11_isNothing_85 : decode cX11_isNothing 85 = .ok (.if_icmp .ne 23, 3) := by decide +kernel
theorem dX11_isNothing_88 : decode cX11_isNothing 88 = .ok (.aload_n 0, 1) := by decide +kernel
theorem dX11_isNothing_89 : decode cX11_isNothing 89 = .ok (.getfield 7, 3) := by decide +kernel
theorem dX11_isNothing_92 : decode cX11_isNothing 92 = .ok (.iload 6, 2) := by decide +kernel
theorem dX11_isNothing_94 : decode cX11_isNothing 94 = .ok (.iconst 1, 1) := by decide +kernel
theorem dX11_isNothing_95 : decode cX11_isNothing 95 = .ok (.iadd, 1) := by decide +kernel
theorem dX11_isNothing_96 : decode cX11_isNothing 96 = .ok (.iload_n 3, 1) := by decide +kernel
theorem dX11_isNothing_97 : decode cX11_isNothing 97 = .ok (.iadd, 1) := by decide +kernel
theorem dX11_isNothing_98 : decode cX11_isNothing 98 = .ok (.iaload, 1) := by decide +kernel
theorem dX11_isNothing_99 : decode cX11_isNothing 99 = .ok (.iload 4, 2) := by decide +kernel
theorem dX11_isNothing_101 : decode cX11_isNothing 101 = .ok (.if_icmp .ne 7, 3) := by decide +kernel
theorem dX11_isNothing_104 : decode cX11_isNothing 104 = .ok (.iconst 1, 1) := by decide +kernel
theorem dX11_isNothing_105 : decode cX11_isNothing 105 = .ok (.goto 4, 3) := by decide +kernel
theorem dX11_isNothing_108 : decode cX11_isNothing 108 = .ok (.iconst 0, 1) := by decide +kernel
theorem dX11_isNothing_109 : decode cX11_isNothing 109 = .ok (.ireturn, 1) := by decide +kernel
theorem dX11_begins_0 : decode cX11_begins 0 = .ok (.aload_n 0, 1) := by decide +kernel
theorem dX11_begins_1 : decode cX11_begins 1 = .ok (.iload_n 1, 1) := by decide +kernel
theorem dX11_begins_2 : decode cX11_begins 2 = .ok (.iload_n 2, 1) := by decide +kernel
theorem dX11_begins_3 : decode cX11_begins 3 = .ok (.iload_n 3, 1) := by decide +kernel
theorem dX11_begins_4 : decode cX11_begins 4 = .ok (.iload 4, 2) := by decide +kernel
theorem dX11_begins_6 : decode cX11_begins 6 = .ok (.invokevirtual 61, 3) := by decide +kernel
theorem dX11_begins_9 : decode cX11_begins 9 = .ok (.ifCond .eq 5, 3) := by decide +kernel
theorem dX11_begins_12 : decode cX11_begins 12 = .ok (.iconst 0, 1) := by decide +kernel
theorem dX11_begins_13 : decode cX11_begins 13 = .ok (.ireturn, 1) := by decide +kernel
theorem dX11_begins_14 : decode cX11_begins 14 = .ok (.aload_n 0, 1) := by decide +kernel
theorem dX11_begins_15 : decode cX11_begins 15 = .ok (.getfield 64, 3) := by decide +kernel
theorem dX11_begins_18 : decode cX11_begins 18 = .ok (.bipush 100, 2) := by decide +kernel
theorem dX11_begins_20 : decode cX11_begins 20 = .ok (.if_icmp .ne 22, 3) := by decide +kernel
theorem dX11_begins_23 : decode cX11_begins 23 = .ok (.aload_n 0, 1) := by decide +kernel
theorem dX11_begins_24 : decode cX11_begins 24 = .ok (.iconst 3, 1) := by decide +kernel
theorem dX11_begins_25 : decode cX11_begins 25 = .ok (.aload_n 0, 1) := by decide +kernel
theorem dX11_begins_26 : decode cX11_begins 26 = .ok (.getfield 22, 3) := by decide +kernel
theorem dX11_begins_29 : decode cX11_begins 29 = .ok (.bipush 8, 2) := by decide +kernel
theorem dX11_begins_31 : decode cX11_begins 31 = .ok (.iload_n 2, 1) := by decide +kernel
theorem dX11_begins_32 : decode cX11_begins 32 = .ok (.imul, 1) := by decide +kernel
theorem dX11_begins_33 : decode cX11_begins 33 = .ok (.bipush 7, 2) := by decide +kernel
theorem dX11_begins_35 : decode cX11_begins 35 = .ok (.iadd, 1) := by decide +kernel
theorem dX11_begins_36 : decode cX11_begins 36 = .ok (.iaload, 1) := by decide +kernel
theorem dX11_begins_37 : decode cX11_begins 37 = .ok (.invokevirtual 67, 3) := by decide +kernel
theorem dX11_begins_40 : decode cX11_begins 40 = .ok (.iconst 0, 1) := by decide +kernel
theorem dX11_begins_41 : decode cX11_begins 41 = .ok (.ireturn, 1) := by decide +kernel
theorem dX11_begins_42 : decode cX11_begins 42 = .ok (.aload_n 0, 1) := by decide +kernel
theorem dX11_begins_43 : decode cX11_begins 43 = .ok (.dup, 1) := by decide +kernel
theorem dX11_begins_44 : decode cX11_begins 44 = .ok (.getfield 64, 3) := by decide +kernel
theorem dX11_begins_47 : decode cX11_begins 47 = .ok (.iconst 1, 1) := by decide +kernel
theorem dX11_begins_48 : decode cX11_begins 48 = .ok (.iadd, 1) := by decide +kernel
theorem dX11_begins_49 : decode cX11_begins 49 = .ok (.putfield 64, 3) := by decide +kernel
theorem dX11_begins_52 : decode cX11_begins 52 = .ok (.aload_n 0, 1) := by decide +kernel
theorem dX11_begins_53 : decode cX11_begins 53 = .ok (.iload_n 2, 1) := by decide +kernel
theorem dX11_begins_54 : decode cX11_begins 54 = .ok (.aload_n 0, 1) := by decide +kernel
theorem dX11_begins_55 : decode cX11_begins 55 = .ok (.getfield 70, 3) := by decide +kernel
theorem dX11_begins_58 : decode cX11_begins 58 = .ok (.if_icmp .le 7, 3) := by decide +kernel
theorem dX11_begins_61 : decode cX11_begins 61 = .ok (.iload_n 2, 1) := by decide +kernel
theorem dX11_begins_62 : decode cX11_begins 62 = .ok (.goto 7, 3) := by decide +kernel
theorem dX11_begins_65 : decode cX11_begins 65 = .ok (.aload_n 0, 1) := by decide +kernel
theorem dX11_begins_66 : decode cX11_begins 66 = .ok (.getfield 70, 3) := by decide +kernel
theorem dX11_begins_69 : decode cX11_begins 69 = .ok (.putfield 70, 3) := by decide +kernel
theorem dX11_begins_72 : decode cX11_begins 72 = .ok (.aload_n 0, 1) := by decide +kernel
theorem dX11_begins_73 : decode cX11_begins 73 = .ok (.getfield 22, 3) := by decide +kernel
theorem dX11_begins_76 : decode cX11_begins 76 = .ok (.bipush 8, 2) := by decide +kernel
theorem dX11_begins_78 : decode cX11_begins 78 = .ok (.iload_n 2, 1) := by decide +kernel
theorem dX11_begins_79 : decode cX11_begins 79 = .ok (.imul, 1) := by decide +kernel
theorem dX11_begins_80 : decode cX11_begins 80 = .ok (.iconst 0, 1) := by decide +kernel
theorem dX11_begins_81 : decode cX11_begins 81 = .ok (.iadd, 1) := by decide +kernel
theorem dX11_begins_82 : decode cX11_begins 82 = .ok (.iaload, 1) := by decide +kernel
theorem dX11_begins_83 : decode cX11_begins 83 = .ok (.istore 5, 2) := by decide +kernel
theorem dX11_begins_85 : decode cX11_begins 85 = .ok (.aload_n 0, 1) := by decide +kernel
theorem dX11_begins_86 : decode cX11_begins 86 = .ok (.iload_n 1, 1) := by decide +kernel
theorem dX11_begins_87 : decode cX11_begins 87 = .ok (.aload_n 0, 1) := by decide +kernel
theorem dX11_begins_88 : decode cX11_begins 88 = .ok (.getfield 22, 3) := by decide +kernel
theorem dX11_begins_91 : decode cX11_begins 91 = .ok (.bipush 8, 2) := by decide +kernel
theorem dX11_begins_93 : decode cX11_begins 93 = .ok (.iload_n 2, 1) := by decide +kernel
theorem dX11_begins_94 : decode cX11_begins 94 = .ok (.imul, 1) := by decide +kernel
theorem dX11_begins_95 : decode cX11_begins 95 = .ok (.iconst 1, 1) := by decide +kernel
theorem dX11_begins_96 : decode cX11_begins 96 = .ok (.iadd, 1) := by decide +kernel
theorem dX11_begins_97 : decode cX11_begins 97 = .ok (.iaload, 1) := by decide +kernel
theorem dX11_begins_98 : decode cX11_begins 98 = .ok (.invokevirtual 54, 3) := by decide +kernel
theorem dX11_begins_101 : decode cX11_begins 101 = .ok (.istore 6, 2) := by decide +kernel
theorem dX11_begins_103 : decode cX11_begins 103 = .ok (.iconst 0, 1) := by decide +kernel
theorem dX11_begins_104 : decode cX11_begins 104 = .ok (.istore 7, 2) := by decide +kernel
theorem dX11_begins_106 : decode cX11_begins 106 = .ok (.iload 7, 2) := by decide +kernel
theorem dX11_begins_108 : decode cX11_begins 108 = .ok (.iconst 3, 1) := by decide +kernel
theorem dX11_begins_109 : decode cX11_begins 109 = .ok (.if_icmp .ge 57, 3) := by decide +kernel
theorem dX11_begins_112 : decode cX11_begins 112 = .ok (.iload 5, 2) := by decide +kernel
theorem dX11_begins_114 : decode cX11_begins 114 = .ok (.ifCond .eq 52, 3) := by decide +kernel
theorem dX11_begins_117 : decode cX11_begins 117 = .ok (.aload_n 0, 1) := by decide +kernel
theorem dX11_begins_118 : decode cX11_begins 118 = .ok (.getfield 22, 3) := by decide +kernel
theorem dX11_begins_121 : decode cX11_begins 121 = .ok (.bipush 8, 2) := by decide +kernel
theorem dX11_begins_123 : decode cX11_begins 123 = .ok (.iload_n 2, 1) := by decide +kernel
theorem dX11_begins_124 : decode cX11_begins 124 = .ok (.imul, 1) := by decide +kernel
theorem dX11_begins_125 : decode cX11_begins 125 = .ok (.iconst 2, 1) := by decide +kernel
theorem dX11_begins_126 : decode cX11_begins 126 = .ok (.iadd, 1) := by decide +kernel
theorem dX11_begins_127 : decode cX11_begins 127 = .ok (.iload 7, 2) := by decide +kernel
theorem dX11_begins_129 : decode cX11_begins 129 = .ok (.iadd, 1) := by decide +kernel
theorem dX11_begins_130 : decode cX11_begins 130 = .ok (.iload 5, 2) := by decide +kernel
theorem dX11_begins_132 : decode cX11_begins 132 = .ok (.iconst 1, 1) := by decide +kernel
theorem dX11_begins_133 : decode cX11_begins 133 = .ok (.if_icmp .ne 14, 3) := by decide +kernel
theorem dX11_begins_136 : decode cX11_begins 136 = .ok (.iload 7, 2) := by decide +kernel
theorem dX11_begins_138 : decode cX11_begins 138 = .ok (.iload_n 3, 1) := by decide +kernel
theorem dX11_begins_139 : decode cX11_begins 139 = .ok (.if_icmp .ne 8, 3) := by decide +kernel
theorem dX11_begins_142 : decode cX11_begins 142 = .ok (.iload 4, 2) := by decide +kernel
theorem dX11_begins_144 : decode cX11_begins 144 = .ok (.goto 15, 3) := by decide +kernel
theorem dX11_begins_147 : decode cX11_begins 147 = .ok (.aload_n 0, 1) := by decide +kernel
theorem dX11_begins_148 : decode cX11_begins 148 = .ok (.getfield 7, 3) := by decide +kernel
theorem dX11_begins_151 : decode cX11_begins 151 = .ok (.iload 6, 2) := by decide +kernel
theorem dX11_begins_153 : decode cX11_begins 153 = .ok (.iconst 1, 1) := by decide +kernel
theorem dX11_begins_154 : decode cX11_begins 154 = .ok (.iadd, 1) := by decide +kernel
theorem dX11_begins_155 : decode cX11_begins 155 = .ok (.iload 7, 2) := by decide +kernel
theorem dX11_begins_157 : decode cX11_begins 157 = .ok (.iadd, 1) := by decide +kernel
theorem dX11_begins_158 : decode cX11_begins 158 = .ok (.iaload, 1) := by decide +kernel
theorem dX11_begins_159 : decode cX11_begins 159 = .ok (.iastore, 1) := by decide +kernel
theorem dX11_begins_160 : decode cX11_begins 160 = .ok (.iinc 7 1, 3) := by decide +kernel
theorem dX11_begins_163 : decode cX11_begins 163 = .ok (.goto (-57), 3) := by decide +kernel
theorem dX11_begins_166 : decode cX11_begins 166 = .ok (.aload_n 0, 1) := by decide +kernel
theorem dX11_begins_167 : decode cX11_begins 167 = .ok (.getfield 22, 3) := by decide +kernel
theorem dX11_begins_170 : decode cX11_begins 170 = .ok (.bipush 8, 2) := by decide +kernel
theorem dX11_begins_172 : decode cX11_begins 172 = .ok (.iload_n 2, 1) := by decide +kernel
theorem dX11_begins_173 : decode cX11_begins 173 = .ok (.imul, 1) := by decide +kernel
theorem dX11_begins_174 : decode cX11_begins 174 = .ok (.iconst 5, 1) := by decide +kernel
theorem dX11_begins_175 : decode cX11_begins 175 = .ok (.iadd, 1) := by decide +kernel
theorem dX11_begins_176 : decode cX11_begins 176 = .ok (.iconst 0, 1) := by decide +kernel
theorem dX11_begins_177 : decode cX11_begins 177 = .ok (.iastore, 1) := by decide +kernel
theorem dX11_begins_178 : decode cX11_begins 178 = .ok (.aload_n 0, 1) := by decide +kernel
theorem dX11_begins_179 : decode cX11_begins 179 = .ok (.getfield 22, 3) := by decide +kernel
theorem dX11_begins_182 : decode cX11_begins 182 = .ok (.bipush 8, 2) := by decide +kernel
theorem dX11_begins_184 : decode cX11_begins 184 = .ok (.iload_n 2, 1) := by decide +kernel
theorem dX11_begins_185 : decode cX11_begins 185 = .ok (.imul, 1) := by decide +kernel
theorem dX11_begins_186 : decode cX11_begins 186 = .ok (.bipush 6, 2) := by decide +kernel
theorem dX11_begins_188 : decode cX11_begins 188 = .ok (.iadd, 1) := by decide +kernel
theorem dX11_begins_189 : decode cX11_begins 189 = .ok (.iconst 0, 1) := by decide +kernel
theorem dX11_begins_190 : decode cX11_begins 190 = .ok (.iastore, 1) := by decide +kernel
theorem dX11_begins_191 : decode cX11_begins 191 = .ok (.iconst 1, 1) := by decide +kernel
theorem dX11_begins_192 : decode cX11_begins 192 = .ok (.ireturn, 1) := by decide +kernel
theorem dX11_carriesOut_0 : decode cX11_carriesOut 0 = .ok (.aload_n 0, 1) := by decide +kernel
theorem dX11_carriesOut_1 : decode cX11_carriesOut 1 = .ok (.getfield 22, 3) := by decide +kernel
theorem dX11_carriesOut_4 : decode cX11_carriesOut 4 = .ok (.bipush 8, 2) := by decide +kernel
theorem dX11_carriesOut_6 : decode cX11_carriesOut 6 = .ok (.iload_n 2, 1) := by decide +kernel
theorem dX11_carriesOut_7 : decode cX11_carriesOut 7 = .ok (.imul, 1) := by decide +kernel
theorem dX11_carriesOut_8 : decode cX11_carriesOut 8 = .ok (.iconst 0, 1) := by decide +kernel
theorem dX11_carriesOut_9 : decode cX11_carriesOut 9 = .ok (.iadd, 1) := by decide +kernel
theorem dX11_carriesOut_10 : decode cX11_carriesOut 10 = .ok (.iaload, 1) := by decide +kernel
theorem dX11_carriesOut_11 : decode cX11_carriesOut 11 = .ok (.istore_n 3, 1) := by decide +kernel
theorem dX11_carriesOut_12 : decode cX11_carriesOut 12 = .ok (.iload_n 3, 1) := by decide +kernel
theorem dX11_carriesOut_13 : decode cX11_carriesOut 13 = .ok (.iconst 2, 1) := by decide +kernel
theorem dX11_carriesOut_14 : decode cX11_carriesOut 14 = .ok (.if_icmp .ne 85, 3) := by decide +kernel
theorem dX11_carriesOut_17 : decode cX11_carriesOut 17 = .ok (.aload_n 0, 1) := by decide +kernel
theorem dX11_carriesOut_18 : decode cX11_carriesOut 18 = .ok (.iload_n 1, 1) := by decide +kernel
theorem dX11_carriesOut_19 : decode cX11_carriesOut 19 = .ok (.aload_n 0, 1) := by decide +kernel
theorem dX11_carriesOut_20 : decode cX11_carriesOut 20 = .ok (.getfield 22, 3) := by decide +kernel
theorem dX11_carriesOut_23 : decode cX11_carriesOut 23 = .ok (.bipush 8, 2) := by decide +kernel
theorem dX11_carriesOut_25 : decode cX11_carriesOut 25 = .ok (.iload_n 2, 1) := by decide +kernel
theorem dX11_carriesOut_26 : decode cX11_carriesOut 26 = .ok (.imul, 1) := by decide +kernel
theorem dX11_carriesOut_27 : decode cX11_carriesOut 27 = .ok (.iconst 1, 1) := by decide +kernel
theorem dX11_carriesOut_28 : decode cX11_carriesOut 28 = .ok (.iadd, 1) := by decide +kernel
theorem dX11_carriesOut_29 : decode cX11_carriesOut 29 = .ok (.iaload, 1) := by decide +kernel
theorem dX11_carriesOut_30 : decode cX11_carriesOut 30 = .ok (.invokevirtual 54, 3) := by decide +kernel
theorem dX11_carriesOut_33 : decode cX11_carriesOut 33 = .ok (.istore 4, 2) := by decide +kernel
theorem dX11_carriesOut_35 : decode cX11_carriesOut 35 = .ok (.aload_n 0, 1) := by decide +kernel
theorem dX11_carriesOut_36 : decode cX11_carriesOut 36 = .ok (.getfield 7, 3) := by decide +kernel
theorem dX11_carriesOut_39 : decode cX11_carriesOut 39 = .ok (.iload_n 1, 1) := by decide +kernel
theorem dX11_carriesOut_40 : decode cX11_carriesOut 40 = .ok (.iconst 0, 1) := by decide +kernel
theorem dX11_carriesOut_41 : decode cX11_carriesOut 41 = .ok (.iadd, 1) := by decide +kernel
theorem dX11_carriesOut_42 : decode cX11_carriesOut 42 = .ok (.dup2, 1) := by decide +kernel
theorem dX11_carriesOut_43 : decode cX11_carriesOut 43 = .ok (.iaload, 1) := by decide +kernel
theorem dX11_carriesOut_44 : decode cX11_carriesOut 44 = .ok (.iconst 1, 1) := by decide +kernel
theorem dX11_carriesOut_45 : decode cX11_carriesOut 45 = .ok (.isub, 1) := by decide +kernel
theorem dX11_carriesOut_46 : decode cX11_carriesOut 46 = .ok (.iastore, 1) := by decide +kernel
theorem dX11_carriesOut_47 : decode cX11_carriesOut 47 = .ok (.iload_n 1, 1) := by decide +kernel
theorem dX11_carriesOut_48 : decode cX11_carriesOut 48 = .ok (.iconst 1, 1) := by decide +kernel
theorem dX11_carriesOut_49 : decode cX11_carriesOut 49 = .ok (.iadd, 1) := by decide +kernel
theorem dX11_carriesOut_50 : decode cX11_carriesOut 50 = .ok (.iconst 4, 1) := by decide +kernel
theorem dX11_carriesOut_51 : decode cX11_carriesOut 51 = .ok (.aload_n 0, 1) := by decide +kernel
theorem dX11_carriesOut_52 : decode cX11_carriesOut 52 = .ok (.getfield 7, 3) := by decide +kernel
theorem dX11_carriesOut_55 : decode cX11_carriesOut 55 = .ok (.iload_n 1, 1) := by decide +kernel
theorem dX11_carriesOut_56 : decode cX11_carriesOut 56 = .ok (.iconst 0, 1) := by decide +kernel
theorem dX11_carriesOut_57 : decode cX11_carriesOut 57 = .ok (.iadd, 1) := by decide +kernel
theorem dX11_carriesOut_58 : decode cX11_carriesOut 58 = .ok (.iaload, 1) := by decide +kernel
theorem dX11_carriesOut_59 : decode cX11_carriesOut 59 = .ok (.imul, 1) := by decide +kernel
theorem dX11_carriesOut_60 : decode cX11_carriesOut 60 = .ok (.iadd, 1) := by decide +kernel
theorem dX11_carriesOut_61 : decode cX11_carriesOut 61 = .ok (.istore 5, 2) := by decide +kernel
theorem dX11_carriesOut_63 : decode cX11_carriesOut 63 = .ok (.iconst 0, 1) := by decide +kernel
theorem dX11_carriesOut_64 : decode cX11_carriesOut 64 = .ok (.istore 6, 2) := by decide +kernel
theorem dX11_carriesOut_66 : decode cX11_carriesOut 66 = .ok (.iload 6, 2) := by decide +kernel
theorem dX11_carriesOut_68 : decode cX11_carriesOut 68 = .ok (.iconst 4, 1) := by decide +kernel
theorem dX11_carriesOut_69 : decode cX11_carriesOut 69 = .ok (.if_icmp .ge 29, 3) := by decide +kernel
theorem dX11_carriesOut_72 : decode cX11_carriesOut 72 = .ok (.aload_n 0, 1) := by decide +kernel
theorem dX11_carriesOut_73 : decode cX11_carriesOut 73 = .ok (.getfield 7, 3) := by decide +kernel
theorem dX11_carriesOut_76 : decode cX11_carriesOut 76 = .ok (.iload 4, 2) := by decide +kernel
theorem dX11_carriesOut_78 : decode cX11_carriesOut 78 = .ok (.iload 6, 2) := by decide +kernel
theorem dX11_carriesOut_80 : decode cX11_carriesOut 80 = .ok (.iadd, 1) := by decide +kernel
theorem dX11_carriesOut_81 : decode cX11_carriesOut 81 = .ok (.aload_n 0, 1) := by decide +kernel
theorem dX11_carriesOut_82 : decode cX11_carriesOut 82 = .ok (.getfield 7, 3) := by decide +kernel
theorem dX11_carriesOut_85 : decode cX11_carriesOut 85 = .ok (.iload 5, 2) := by decide +kernel
theorem dX11_carriesOut_87 : decode cX11_carriesOut 87 = .ok (.iload 6, 2) := by decide +kernel
theorem dX11_carriesOut_89 : decode cX11_carriesOut 89 = .ok (.iadd, 1) := by decide +kernel
theorem dX11_carriesOut_90 : decode cX11_carriesOut 90 = .ok (.iaload, 1) := by decide +kernel
theorem dX11_carriesOut_91 : decode cX11_carriesOut 91 = .ok (.iastore, 1) := by decide +kernel
theorem dX11_carriesOut_92 : decode cX11_carriesOut 92 = .ok (.iinc 6 1, 3) := by decide +kernel
theorem dX11_carriesOut_95 : decode cX11_carriesOut 95 = .ok (.goto (-29), 3) := by decide +kernel
theorem dX11_carriesOut_98 : decode cX11_carriesOut 98 = .ok (.return_, 1) := by decide +kernel
theorem dX11_carriesOut_99 : decode cX11_carriesOut 99 = .ok (.iload_n 3, 1) := by decide +kernel
theorem dX11_carriesOut_100 : decode cX11_carriesOut 100 = .ok (.ifCond .ne 20, 3) := by decide +kernel
theorem dX11_carriesOut_103 : decode cX11_carriesOut 103 = .ok (.iload_n 1, 1) := by decide +kernel
theorem dX11_carriesOut_104 : decode cX11_carriesOut 104 = .ok (.iconst 1, 1) := by decide +kernel
theorem dX11_carriesOut_105 : decode cX11_carriesOut 105 = .ok (.iadd, 1) := by decide +kernel
theorem dX11_carriesOut_106 : decode cX11_carriesOut 106 = .ok (.iconst 4, 1) := by decide +kernel
theorem dX11_carriesOut_107 : decode cX11_carriesOut 107 = .ok (.aload_n 0, 1) := by decide +kernel
theorem dX11_carriesOut_108 : decode cX11_carriesOut 108 = .ok (.getfield 7, 3) := by decide +kernel
theorem dX11_carriesOut_111 : decode cX11_carriesOut 111 = .ok (.iload_n 1, 1) := by decide +kernel
theorem dX11_carriesOut_112 : decode cX11_carriesOut 112 = .ok (.iconst 0, 1) := by decide +kernel
theorem dX11_carriesOut_113 : decode cX11_carriesOut 113 = .ok (.iadd, 1) := by decide +kernel
theorem dX11_carriesOut_114 : decode cX11_carriesOut 114 = .ok (.iaload, 1) := by decide +kernel
theorem dX11_carriesOut_115 : decode cX11_carriesOut 115 = .ok (.imul, 1) := by decide +kernel
theorem dX11_carriesOut_116 : decode cX11_carriesOut 116 = .ok (.iadd, 1) := by decide +kernel
theorem dX11_carriesOut_117 : decode cX11_carriesOut 117 = .ok (.goto 19, 3) := by decide +kernel
theorem dX11_carriesOut_120 : decode cX11_carriesOut 120 = .ok (.aload_n 0, 1) := by decide +kernel
theorem dX11_carriesOut_121 : decode cX11_carriesOut 121 = .ok (.iload_n 1, 1) := by decide +kernel
theorem dX11_carriesOut_122 : decode cX11_carriesOut 122 = .ok (.aload_n 0, 1) := by decide +kernel
theorem dX11_carriesOut_123 : decode cX11_carriesOut 123 = .ok (.getfield 22, 3) := by decide +kernel
theorem dX11_carriesOut_126 : decode cX11_carriesOut 126 = .ok (.bipush 8, 2) := by decide +kernel
theorem dX11_carriesOut_128 : decode cX11_carriesOut 128 = .ok (.iload_n 2, 1) := by decide +kernel
theorem dX11_carriesOut_129 : decode cX11_carriesOut 129 = .ok (.imul, 1) := by decide +kernel
theorem dX11_carriesOut_130 : decode cX11_carriesOut 130 = .ok (.iconst 1, 1) := by decide +kernel
theorem dX11_carriesOut_131 : decode cX11_carriesOut 131 = .ok (.iadd, 1) := by decide +kernel
theorem dX11_carriesOut_132 : decode cX11_carriesOut 132 = .ok (.iaload, 1) := by decide +kernel
theorem dX11_carriesOut_133 : decode cX11_carriesOut 133 = .ok (.invokevirtual 54, 3) := by decide +kernel
theorem dX11_carriesOut_136 : decode cX11_carriesOut 136 = .ok (.istore 4, 2) := by decide +kernel
theorem dX11_carriesOut_138 : decode cX11_carriesOut 138 = .ok (.aload_n 0, 1) := by decide +kernel
theorem dX11_carriesOut_139 : decode cX11_carriesOut 139 = .ok (.getfield 7, 3) := by decide +kernel
theorem dX11_carriesOut_142 : decode cX11_carriesOut 142 = .ok (.iload_n 1, 1) := by decide +kernel
theorem dX11_carriesOut_143 : decode cX11_carriesOut 143 = .ok (.iconst 0, 1) := by decide +kernel
theorem dX11_carriesOut_144 : decode cX11_carriesOut 144 = .ok (.iadd, 1) := by decide +kernel
theorem dX11_carriesOut_145 : decode cX11_carriesOut 145 = .ok (.dup2, 1) := by decide +kernel
theorem dX11_carriesOut_146 : decode cX11_carriesOut 146 = .ok (.iaload, 1) := by decide +kernel
theorem dX11_carriesOut_147 : decode cX11_carriesOut 147 = .ok (.iload_n 3, 1) := by decide +kernel
theorem dX11_carriesOut_148 : decode cX11_carriesOut 148 = .ok (.ifCond .ne 7, 3) := by decide +kernel
theorem dX11_carriesOut_151 : decode cX11_carriesOut 151 = .ok (.iconst 1, 1) := by decide +kernel
theorem dX11_carriesOut_152 : decode cX11_carriesOut 152 = .ok (.goto 4, 3) := by decide +kernel
theorem dX11_carriesOut_155 : decode cX11_carriesOut 155 = .ok (.iconst 0, 1) := by decide +kernel
theorem dX11_carriesOut_156 : decode cX11_carriesOut 156 = .ok (.iadd, 1) := by decide +kernel
theorem dX11_carriesOut_157 : decode cX11_carriesOut 157 = .ok (.iastore, 1) := by decide +kernel
theorem dX11_carriesOut_158 : decode cX11_carriesOut 158 = .ok (.iconst 0, 1) := by decide +kernel
theorem dX11_carriesOut_159 : decode cX11_carriesOut 159 = .ok (.istore 5, 2) := by decide +kernel
theorem dX11_carriesOut_161 : decode cX11_carriesOut 161 = .ok (.iload 5, 2) := by decide +kernel
theorem dX11_carriesOut_163 : decode cX11_carriesOut 163 = .ok (.iconst 4, 1) := by decide +kernel
theorem dX11_carriesOut_164 : decode cX11_carriesOut 164 = .ok (.if_icmp .ge 33, 3) := by decide +kernel
theorem dX11_carriesOut_167 : decode cX11_carriesOut 167 = .ok (.aload_n 0, 1) := by decide +kernel
theorem dX11_carriesOut_168 : decode cX11_carriesOut 168 = .ok (.getfield 7, 3) := by decide +kernel
theorem dX11_carriesOut_171 : decode cX11_carriesOut 171 = .ok (.iload 4, 2) := by decide +kernel
theorem dX11_carriesOut_173 : decode cX11_carriesOut 173 = .ok (.iload 5, 2) := by decide +kernel
theorem dX11_carriesOut_175 : decode cX11_carriesOut 175 = .ok (.iadd, 1) := by decide +kernel
theorem dX11_carriesOut_176 : decode cX11_carriesOut 176 = .ok (.aload_n 0, 1) := by decide +kernel
theorem dX11_carriesOut_177 : decode cX11_carriesOut 177 = .ok (.getfield 22, 3) := by decide +kernel
theorem dX11_carriesOut_180 : decode cX11_carriesOut 180 = .ok (.bipush 8, 2) := by decide +kernel
theorem dX11_carriesOut_182 : decode cX11_carriesOut 182 = .ok (.iload_n 2, 1) := by decide +kernel
theorem dX11_carriesOut_183 : decode cX11_carriesOut 183 = .ok (.imul, 1) := by decide +kernel
theorem dX11_carriesOut_184 : decode cX11_carriesOut 184 = .ok (.iconst 1, 1) := by decide +kernel
theorem dX11_carriesOut_185 : decode cX11_carriesOut 185 = .ok (.iadd, 1) := by decide +kernel
theorem dX11_carriesOut_186 : decode cX11_carriesOut 186 = .ok (.iload 5, 2) := by decide +kernel
theorem dX11_carriesOut_188 : decode cX11_carriesOut 188 = .ok (.iadd, 1) := by decide +kernel
theorem dX11_carriesOut_189 : decode cX11_carriesOut 189 = .ok (.iaload, 1) := by decide +kernel
theorem dX11_carriesOut_190 : decode cX11_carriesOut 190 = .ok (.iastore, 1) := by decide +kernel
theorem dX11_carriesOut_191 : decode cX11_carriesOut 191 = .ok (.iinc 5 1, 3) := by decide +kernel
theorem dX11_carriesOut_194 : decode cX11_carriesOut 194 = .ok (.goto (-33), 3) := by decide +kernel
theorem dX11_carriesOut_197 : decode cX11_carriesOut 197 = .ok (.return_, 1) := by decide +kernel
theorem dX11_compares_0 : decode cX11_compares 0 = .ok (.iload_n 1, 1) := by decide +kernel
theorem dX11_compares_1 : decode cX11_compares 1 = .ok (.tableswitch 90 0 4 #[35, 46, 57, 68, 79], 35) := by decide +kernel
theorem dX11_compares_36 : decode cX11_compares 36 = .ok (.iload_n 0, 1) := by decide +kernel
theorem dX11_compares_37 : decode cX11_compares 37 = .ok (.iload_n 2, 1) := by decide +kernel
theorem dX11_compares_38 : decode cX11_compares 38 = .ok (.if_icmp .ge 7, 3) := by decide +kernel
theorem dX11_compares_41 : decode cX11_compares 41 = .ok (.iconst 1, 1) := by decide +kernel
theorem dX11_compares_42 : decode cX11_compares 42 = .ok (.goto 4, 3) := by decide +kernel
theorem dX11_compares_45 : decode cX11_compares 45 = .ok (.iconst 0, 1) := by decide +kernel
theorem dX11_compares_46 : decode cX11_compares 46 = .ok (.ireturn, 1) := by decide +kernel
theorem dX11_compares_47 : decode cX11_compares 47 = .ok (.iload_n 0, 1) := by decide +kernel
theorem dX11_compares_48 : decode cX11_compares 48 = .ok (.iload_n 2, 1) := by decide +kernel
theorem dX11_compares_49 : decode cX11_compares 49 = .ok (.if_icmp .gt 7, 3) := by decide +kernel
theorem dX11_compares_52 : decode cX11_compares 52 = .ok (.iconst 1, 1) := by decide +kernel
theorem dX11_compares_53 : decode cX11_compares 53 = .ok (.goto 4, 3) := by decide +kernel
theorem dX11_compares_56 : decode cX11_compares 56 = .ok (.iconst 0, 1) := by decide +kernel
theorem dX11_compares_57 : decode cX11_compares 57 = .ok (.ireturn, 1) := by decide +kernel
theorem dX11_compares_58 : decode cX11_compares 58 = .ok (.iload_n 0, 1) := by decide +kernel
theorem dX11_compares_59 : decode cX11_compares 59 = .ok (.iload_n 2, 1) := by decide +kernel
theorem dX11_compares_60 : decode cX11_compares 60 = .ok (.if_icmp .ne 7, 3) := by decide +kernel
theorem dX11_compares_63 : decode cX11_compares 63 = .ok (.iconst 1, 1) := by decide +kernel
theorem dX11_compares_64 : decode cX11_compares 64 = .ok (.goto 4, 3) := by decide +kernel
theorem dX11_compares_67 : decode cX11_compares 67 = .ok (.iconst 0, 1) := by decide +kernel
theorem dX11_compares_68 : decode cX11_compares 68 = .ok (.ireturn, 1) := by decide +kernel
theorem dX11_compares_69 : decode cX11_compares 69 = .ok (.iload_n 0, 1) := by decide +kernel
theorem dX11_compares_70 : decode cX11_compares 70 = .ok (.iload_n 2, 1) := by decide +kernel
theorem dX11_compares_71 : decode cX11_compares 71 = .ok (.if_icmp .eq 7, 3) := by decide +kernel
theorem dX11_compares_74 : decode cX11_compares 74 = .ok (.iconst 1, 1) := by decide +kernel
theorem dX11_compares_75 : decode cX11_compares 75 = .ok (.goto 4, 3) := by decide +kernel
theorem dX11_compares_78 : decode cX11_compares 78 = .ok (.iconst 0, 1) := by decide +kernel
theorem dX11_compares_79 : decode cX11_compares 79 = .ok (.ireturn, 1) := by decide +kernel
theorem dX11_compares_80 : decode cX11_compares 80 = .ok (.iload_n 0, 1) := by decide +kernel
theorem dX11_compares_81 : decode cX11_compares 81 = .ok (.iload_n 2, 1) := by decide +kernel
theorem dX11_compares_82 : decode cX11_compares 82 = .ok (.if_icmp .lt 7, 3) := by decide +kernel
theorem dX11_compares_85 : decode cX11_compares 85 = .ok (.iconst 1, 1) := by decide +kernel
theorem dX11_compares_86 : decode cX11_compares 86 = .ok (.goto 4, 3) := by decide +kernel
theorem dX11_compares_89 : decode cX11_compares 89 = .ok (.iconst 0, 1) := by decide +kernel
theorem dX11_compares_90 : decode cX11_compares 90 = .ok (.ireturn, 1) := by decide +kernel
theorem dX11_compares_91 : decode cX11_compares 91 = .ok (.iload_n 0, 1) := by decide +kernel
theorem dX11_compares_92 : decode cX11_compares 92 = .ok (.iload_n 2, 1) := by decide +kernel
theorem dX11_compares_93 : decode cX11_compares 93 = .ok (.if_icmp .le 7, 3) := by decide +kernel
theorem dX11_compares_96 : decode cX11_compares 96 = .ok (.iconst 1, 1) := by decide +kernel
theorem dX11_compares_97 : decode cX11_compares 97 = .ok (.goto 4, 3) := by decide +kernel
theorem dX11_compares_100 : decode cX11_compares 100 = .ok (.iconst 0, 1) := by decide +kernel
theorem dX11_compares_101 : decode cX11_compares 101 = .ok (.ireturn, 1) := by decide +kernel
theorem dX11_isFiring_0 : decode cX11_isFiring 0 = .ok (.iconst 0, 1) := by decide +kernel
theorem dX11_isFiring_1 : decode cX11_isFiring 1 = .ok (.istore_n 3, 1) := by decide +kernel
theorem dX11_isFiring_2 : decode cX11_isFiring 2 = .ok (.iconst 2, 1) := by decide +kernel
theorem dX11_isFiring_3 : decode cX11_isFiring 3 = .ok (.istore 4, 2) := by decide +kernel
theorem dX11_isFiring_5 : decode cX11_isFiring 5 = .ok (.iload 4, 2) := by decide +kernel
theorem dX11_isFiring_7 : decode cX11_isFiring 7 = .ok (.iload_n 2, 1) := by decide +kernel
theorem dX11_isFiring_8 : decode cX11_isFiring 8 = .ok (.if_icmp .gt 36, 3) := by decide +kernel
theorem dX11_isFiring_11 : decode cX11_isFiring 11 = .ok (.iload_n 3, 1) := by decide +kernel
theorem dX11_isFiring_12 : decode cX11_isFiring 12 = .ok (.ifCond .ne 20, 3) := by decide +kernel
theorem dX11_isFiring_15 : decode cX11_isFiring 15 = .ok (.aload_n 0, 1) := by decide +kernel
theorem dX11_isFiring_16 : decode cX11_isFiring 16 = .ok (.getfield 22, 3) := by decide +kernel
theorem dX11_isFiring_19 : decode cX11_isFiring 19 = .ok (.bipush 8, 2) := by decide +kernel
theorem dX11_isFiring_21 : decode cX11_isFiring 21 = .ok (.iload 4, 2) := by decide +kernel
theorem dX11_isFiring_23 : decode cX11_isFiring 23 = .ok (.imul, 1) := by decide +kernel
theorem dX11_isFiring_24 : decode cX11_isFiring 24 = .ok (.bipush 7, 2) := by decide +kernel
theorem dX11_isFiring_26 : decode cX11_isFiring 26 = .ok (.iadd, 1) := by decide +kernel
theorem dX11_isFiring_27 : decode cX11_isFiring 27 = .ok (.iaload, 1) := by decide +kernel
theorem dX11_isFiring_28 : decode cX11_isFiring 28 = .ok (.iload_n 1, 1) := by decide +kernel
theorem dX11_isFiring_29 : decode cX11_isFiring 29 = .ok (.if_icmp .ne 7, 3) := by decide +kernel
theorem dX11_isFiring_32 : decode cX11_isFiring 32 = .ok (.iconst 1, 1) := by decide +kernel
theorem dX11_isFiring_33 : decode cX11_isFiring 33 = .ok (.goto 4, 3) := by decide +kernel
theorem dX11_isFiring_36 : decode cX11_isFiring 36 = .ok (.iconst 0, 1) := by decide +kernel
theorem dX11_isFiring_37 : decode cX11_isFiring 37 = .ok (.istore_n 3, 1) := by decide +kernel
theorem dX11_isFiring_38 : decode cX11_isFiring 38 = .ok (.iinc 4 1, 3) := by decide +kernel
theorem dX11_isFiring_41 : decode cX11_isFiring 41 = .ok (.goto (-36), 3) := by decide +kernel
theorem dX11_isFiring_44 : decode cX11_isFiring 44 = .ok (.iload_n 3, 1) := by decide +kernel
theorem dX11_isFiring_45 : decode cX11_isFiring 45 = .ok (.ireturn, 1) := by decide +kernel
theorem dX11_fires_0 : decode cX11_fires 0 = .ok (.iload_n 1, 1) := by decide +kernel
theorem dX11_fires_1 : decode cX11_fires 1 = .ok (.iload_n 2, 1) := by decide +kernel
theorem dX11_fires_2 : decode cX11_fires 2 = .ok (.invokestatic 40, 3) := by decide +kernel
theorem dX11_fires_5 : decode cX11_fires 5 = .ok (.istore 4, 2) := by decide +kernel
theorem dX11_fires_7 : decode cX11_fires 7 = .ok (.aload_n 0, 1) := by decide +kernel
theorem dX11_fires_8 : decode cX11_fires 8 = .ok (.getfield 7, 3) := by decide +kernel
theorem dX11_fires_11 : decode cX11_fires 11 = .ok (.iload_n 1, 1) := by decide +kernel
theorem dX11_fires_12 : decode cX11_fires 12 = .ok (.sipush 227, 3) := by decide +kernel
theorem dX11_fires_15 : decode cX11_fires 15 = .ok (.iadd, 1) := by decide +kernel
theorem dX11_fires_16 : decode cX11_fires 16 = .ok (.iaload, 1) := by decide +kernel
theorem dX11_fires_17 : decode cX11_fires 17 = .ok (.iconst 1, 1) := by decide +kernel
theorem dX11_fires_18 : decode cX11_fires 18 = .ok (.if_icmp .ne 16, 3) := by decide +kernel
theorem dX11_fires_21 : decode cX11_fires 21 = .ok (.aload_n 0, 1) := by decide +kernel
theorem dX11_fires_22 : decode cX11_fires 22 = .ok (.iload_n 2, 1) := by decide +kernel
theorem dX11_fires_23 : decode cX11_fires 23 = .ok (.iload_n 3, 1) := by decide +kernel
theorem dX11_fires_24 : decode cX11_fires 24 = .ok (.invokevirtual 73, 3) := by decide +kernel
theorem dX11_fires_27 : decode cX11_fires 27 = .ok (.ifCond .eq 7, 3) := by decide +kernel
theorem dX11_fires_30 : decode cX11_fires 30 = .ok (.iconst 1, 1) := by decide +kernel
theorem dX11_fires_31 : decode cX11_fires 31 = .ok (.goto 4, 3) := by decide +kernel
theorem dX11_fires_34 : decode cX11_fires 34 = .ok (.iconst 0, 1) := by decide +kernel
theorem dX11_fires_35 : decode cX11_fires 35 = .ok (.istore 5, 2) := by decide +kernel
theorem dX11_fires_37 : decode cX11_fires 37 = .ok (.aload_n 0, 1) := by decide +kernel
theorem dX11_fires_38 : decode cX11_fires 38 = .ok (.iload_n 3, 1) := by decide +kernel
theorem dX11_fires_39 : decode cX11_fires 39 = .ok (.aload_n 0, 1) := by decide +kernel
theorem dX11_fires_40 : decode cX11_fires 40 = .ok (.getfield 7, 3) := by decide +kernel
theorem dX11_fires_43 : decode cX11_fires 43 = .ok (.iload 4, 2) := by decide +kernel
theorem dX11_fires_45 : decode cX11_fires 45 = .ok (.bipush 7, 2) := by decide +kernel
theorem dX11_fires_47 : decode cX11_fires 47 = .ok (.iadd, 1) := by decide +kernel
theorem dX11_fires_48 : decode cX11_fires 48 = .ok (.iaload, 1) := by decide +kernel
theorem dX11_fires_49 : decode cX11_fires 49 = .ok (.invokevirtual 77, 3) := by decide +kernel
theorem dX11_fires_52 : decode cX11_fires 52 = .ok (.istore 6, 2) := by decide +kernel
theorem dX11_fires_54 : decode cX11_fires 54 = .ok (.aload_n 0, 1) := by decide +kernel
theorem dX11_fires_55 : decode cX11_fires 55 = .ok (.getfield 7, 3) := by decide +kernel
theorem dX11_fires_58 : decode cX11_fires 58 = .ok (.iload 4, 2) := by decide +kernel
theorem dX11_fires_60 : decode cX11_fires 60 = .ok (.bipush 10, 2) := by decide +kernel
theorem dX11_fires_62 : decode cX11_fires 62 = .ok (.iadd, 1) := by decide +kernel
theorem dX11_fires_63 : decode cX11_fires 63 = .ok (.iaload, 1) := by decide +kernel
theorem dX11_fires_64 : decode cX11_fires 64 = .ok (.iconst 1, 1) := by decide +kernel
theorem dX11_fires_65 : decode cX11_fires 65 = .ok (.if_icmp .ne 40, 3) := by decide +kernel
theorem dX11_fires_68 : decode cX11_fires 68 = .ok (.iload 5, 2) := by decide +kernel
theorem dX11_fires_70 : decode cX11_fires 70 = .ok (.ifCond .ne 35, 3) := by decide +kernel
theorem dX11_fires_73 : decode cX11_fires 73 = .ok (.iload 6, 2) := by decide +kernel
theorem dX11_fires_75 : decode cX11_fires 75 = .ok (.aload_n 0, 1) := by decide +kernel
theorem dX11_fires_76 : decode cX11_fires 76 = .ok (.getfield 7, 3) := by decide +kernel
theorem dX11_fires_79 : decode cX11_fires 79 = .ok (.iload 4, 2) := by decide +kernel
theorem dX11_fires_81 : decode cX11_fires 81 = .ok (.bipush 8, 2) := by decide +kernel
theorem dX11_fires_83 : decode cX11_fires 83 = .ok (.iadd, 1) := by decide +kernel
theorem dX11_fires_84 : decode cX11_fires 84 = .ok (.iaload, 1) := by decide +kernel
theorem dX11_fires_85 : decode cX11_fires 85 = .ok (.aload_n 0, 1) := by decide +kernel
theorem dX11_fires_86 : decode cX11_fires 86 = .ok (.getfield 7, 3) := by decide +kernel
theorem dX11_fires_89 : decode cX11_fires 89 = .ok (.iload 4, 2) := by decide +kernel
theorem dX11_fires_91 : decode cX11_fires 91 = .ok (.bipush 9, 2) := by decide +kernel
theorem dX11_fires_93 : decode cX11_fires 93 = .ok (.iadd, 1) := by decide +kernel
theorem dX11_fires_94 : decode cX11_fires 94 = .ok (.iaload, 1) := by decide +kernel
theorem dX11_fires_95 : decode cX11_fires 95 = .ok (.invokestatic 80, 3) := by decide +kernel
theorem dX11_fires_98 : decode cX11_fires 98 = .ok (.ifCond .eq 7, 3) := by decide +kernel
theorem dX11_fires_101 : decode cX11_fires 101 = .ok (.iconst 1, 1) := by decide +kernel
theorem dX11_fires_102 : decode cX11_fires 102 = .ok (.goto 4, 3) := by decide +kernel
theorem dX11_fires_105 : decode cX11_fires 105 = .ok (.iconst 0, 1) := by decide +kernel
theorem dX11_fires_106 : decode cX11_fires 106 = .ok (.ireturn, 1) := by decide +kernel
theorem dX11_valueOf_0 : decode cX11_valueOf 0 = .ok (.iload_n 1, 1) := by decide +kernel
theorem dX11_valueOf_1 : decode cX11_valueOf 1 = .ok (.iload_n 2, 1) := by decide +kernel
theorem dX11_valueOf_2 : decode cX11_valueOf 2 = .ok (.invokestatic 40, 3) := by decide +kernel
theorem dX11_valueOf_5 : decode cX11_valueOf 5 = .ok (.istore 4, 2) := by decide +kernel
theorem dX11_valueOf_7 : decode cX11_valueOf 7 = .ok (.aload_n 0, 1) := by decide +kernel
theorem dX11_valueOf_8 : decode cX11_valueOf 8 = .ok (.iload_n 3, 1) := by decide +kernel
theorem dX11_valueOf_9 : decode cX11_valueOf 9 = .ok (.aload_n 0, 1) := by decide +kernel
theorem dX11_valueOf_10 : decode cX11_valueOf 10 = .ok (.getfield 7, 3) := by decide +kernel
theorem dX11_valueOf_13 : decode cX11_valueOf 13 = .ok (.iload 4, 2) := by decide +kernel
theorem dX11_valueOf_15 : decode cX11_valueOf 15 = .ok (.iconst 5, 1) := by decide +kernel
theorem dX11_valueOf_16 : decode cX11_valueOf 16 = .ok (.iadd, 1) := by decide +kernel
theorem dX11_valueOf_17 : decode cX11_valueOf 17 = .ok (.iaload, 1) := by decide +kernel
theorem dX11_valueOf_18 : decode cX11_valueOf 18 = .ok (.invokevirtual 77, 3) := by decide +kernel
theorem dX11_valueOf_21 : decode cX11_valueOf 21 = .ok (.aload_n 0, 1) := by decide +kernel
theorem dX11_valueOf_22 : decode cX11_valueOf 22 = .ok (.getfield 7, 3) := by decide +kernel
theorem dX11_valueOf_25 : decode cX11_valueOf 25 = .ok (.iload 4, 2) := by decide +kernel
theorem dX11_valueOf_27 : decode cX11_valueOf 27 = .ok (.bipush 6, 2) := by decide +kernel
theorem dX11_valueOf_29 : decode cX11_valueOf 29 = .ok (.iadd, 1) := by decide +kernel
theorem dX11_valueOf_30 : decode cX11_valueOf 30 = .ok (.iaload, 1) := by decide +kernel
theorem dX11_valueOf_31 : decode cX11_valueOf 31 = .ok (.iadd, 1) := by decide +kernel
theorem dX11_valueOf_32 : decode cX11_valueOf 32 = .ok (.istore 5, 2) := by decide +kernel
theorem dX11_valueOf_34 : decode cX11_valueOf 34 = .ok (.iload 5, 2) := by decide +kernel
theorem dX11_valueOf_36 : decode cX11_valueOf 36 = .ok (.sipush (-999), 3) := by decide +kernel
theorem dX11_valueOf_39 : decode cX11_valueOf 39 = .ok (.if_icmp .ge 9, 3) := by decide +kernel
theorem dX11_valueOf_42 : decode cX11_valueOf 42 = .ok (.sipush (-999), 3) := by decide +kernel
theorem dX11_valueOf_45 : decode cX11_valueOf 45 = .ok (.goto 19, 3) := by decide +kernel
theorem dX11_valueOf_48 : decode cX11_valueOf 48 = .ok (.iload 5, 2) := by decide +kernel
theorem dX11_valueOf_50 : decode cX11_valueOf 50 = .ok (.sipush 999, 3) := by decide +kernel
theorem dX11_valueOf_53 : decode cX11_valueOf 53 = .ok (.if_icmp .le 9, 3) := by decide +kernel
theorem dX11_valueOf_56 : decode cX11_valueOf 56 = .ok (.sipush 999, 3) := by decide +kernel
theorem dX11_valueOf_59 : decode cX11_valueOf 59 = .ok (.goto 5, 3) := by decide +kernel
theorem dX11_valueOf_62 : decode cX11_valueOf 62 = .ok (.iload 5, 2) := by decide +kernel
theorem dX11_valueOf_64 : decode cX11_valueOf 64 = .ok (.ireturn, 1) := by decide +kernel
theorem dX11_counts_0 : decode cX11_counts 0 = .ok (.aload_n 0, 1) := by decide +kernel
theorem dX11_counts_1 : decode cX11_counts 1 = .ok (.getfield 7, 3) := by decide +kernel
theorem dX11_counts_4 : decode cX11_counts 4 = .ok (.iload_n 1, 1) := by decide +kernel
theorem dX11_counts_5 : decode cX11_counts 5 = .ok (.sipush 232, 3) := by decide +kernel
theorem dX11_counts_8 : decode cX11_counts 8 = .ok (.iadd, 1) := by decide +kernel
theorem dX11_counts_9 : decode cX11_counts 9 = .ok (.iaload, 1) := by decide +kernel
theorem dX11_counts_10 : decode cX11_counts 10 = .ok (.istore 4, 2) := by decide +kernel
theorem dX11_counts_12 : decode cX11_counts 12 = .ok (.iload 4, 2) := by decide +kernel
theorem dX11_counts_14 : decode cX11_counts 14 = .ok (.bipush 60, 2) := by decide +kernel
theorem dX11_counts_16 : decode cX11_counts 16 = .ok (.if_icmp .ge 79, 3) := by decide +kernel
theorem dX11_counts_19 : decode cX11_counts 19 = .ok (.aload_n 0, 1) := by decide +kernel
theorem dX11_counts_20 : decode cX11_counts 20 = .ok (.getfield 7, 3) := by decide +kernel
theorem dX11_counts_23 : decode cX11_counts 23 = .ok (.iload_n 1, 1) := by decide +kernel
theorem dX11_counts_24 : decode cX11_counts 24 = .ok (.sipush 233, 3) := by decide +kernel
theorem dX11_counts_27 : decode cX11_counts 27 = .ok (.iadd, 1) := by decide +kernel
theorem dX11_counts_28 : decode cX11_counts 28 = .ok (.iconst 3, 1) := by decide +kernel
theorem dX11_counts_29 : decode cX11_counts 29 = .ok (.iload 4, 2) := by decide +kernel
theorem dX11_counts_31 : decode cX11_counts 31 = .ok (.imul, 1) := by decide +kernel
theorem dX11_counts_32 : decode cX11_counts 32 = .ok (.iadd, 1) := by decide +kernel
theorem dX11_counts_33 : decode cX11_counts 33 = .ok (.iload_n 2, 1) := by decide +kernel
theorem dX11_counts_34 : decode cX11_counts 34 = .ok (.iastore, 1) := by decide +kernel
theorem dX11_counts_35 : decode cX11_counts 35 = .ok (.aload_n 0, 1) := by decide +kernel
theorem dX11_counts_36 : decode cX11_counts 36 = .ok (.getfield 7, 3) := by decide +kernel
theorem dX11_counts_39 : decode cX11_counts 39 = .ok (.iload_n 1, 1) := by decide +kernel
theorem dX11_counts_40 : decode cX11_counts 40 = .ok (.sipush 233, 3) := by decide +kernel
theorem dX11_counts_43 : decode cX11_counts 43 = .ok (.iadd, 1) := by decide +kernel
theorem dX11_counts_44 : decode cX11_counts 44 = .ok (.iconst 3, 1) := by decide +kernel
theorem dX11_counts_45 : decode cX11_counts 45 = .ok (.iload 4, 2) := by decide +kernel
theorem dX11_counts_47 : decode cX11_counts 47 = .ok (.imul, 1) := by decide +kernel
theorem dX11_counts_48 : decode cX11_counts 48 = .ok (.iadd, 1) := by decide +kernel
theorem dX11_counts_49 : decode cX11_counts 49 = .ok (.iconst 1, 1) := by decide +kernel
theorem dX11_counts_50 : decode cX11_counts 50 = .ok (.iadd, 1) := by decide +kernel
theorem dX11_counts_51 : decode cX11_counts 51 = .ok (.iload_n 3, 1) := by decide +kernel
theorem dX11_counts_52 : decode cX11_counts 52 = .ok (.iastore, 1) := by decide +kernel
theorem dX11_counts_53 : decode cX11_counts 53 = .ok (.aload_n 0, 1) := by decide +kernel
theorem dX11_counts_54 : decode cX11_counts 54 = .ok (.getfield 7, 3) := by decide +kernel
theorem dX11_counts_57 : decode cX11_counts 57 = .ok (.iload_n 1, 1) := by decide +kernel
theorem dX11_counts_58 : decode cX11_counts 58 = .ok (.sipush 233, 3) := by decide +kernel
theorem dX11_counts_61 : decode cX11_counts 61 = .ok (.iadd, 1) := by decide +kernel
theorem dX11_counts_62 : decode cX11_counts 62 = .ok (.iconst 3, 1) := by decide +kernel
theorem dX11_counts_63 : decode cX11_counts 63 = .ok (.iload 4, 2) := by decide +kernel
theorem dX11_counts_65 : decode cX11_counts 65 = .ok (.imul, 1) := by decide +kernel
theorem dX11_counts_66 : decode cX11_counts 66 = .ok (.iadd, 1) := by decide +kernel
theorem dX11_counts_67 : decode cX11_counts 67 = .ok (.iconst 2, 1) := by decide +kernel
theorem dX11_counts_68 : decode cX11_counts 68 = .ok (.iadd, 1) := by decide +kernel
theorem dX11_counts_69 : decode cX11_counts 69 = .ok (.aload_n 0, 1) := by decide +kernel
theorem dX11_counts_70 : decode cX11_counts 70 = .ok (.getfield 22, 3) := by decide +kernel
theorem dX11_counts_73 : decode cX11_counts 73 = .ok (.bipush 8, 2) := by decide +kernel
theorem dX11_counts_75 : decode cX11_counts 75 = .ok (.iload_n 3, 1) := by decide +kernel
theorem dX11_counts_76 : decode cX11_counts 76 = .ok (.imul, 1) := by decide +kernel
theorem dX11_counts_77 : decode cX11_counts 77 = .ok (.iconst 1, 1) := by decide +kernel
theorem dX11_counts_78 : decode cX11_counts 78 = .ok (.iadd, 1) := by decide +kernel
theorem dX11_counts_79 : decode cX11_counts 79 = .ok (.iaload, 1) := by decide +kernel
theorem dX11_counts_80 : decode cX11_counts 80 = .ok (.iastore, 1) := by decide +kernel
theorem dX11_counts_81 : decode cX11_counts 81 = .ok (.aload_n 0, 1) := by decide +kernel
theorem dX11_counts_82 : decode cX11_counts 82 = .ok (.getfield 7, 3) := by decide +kernel
theorem dX11_counts_85 : decode cX11_counts 85 = .ok (.iload_n 1, 1) := by decide +kernel
theorem dX11_counts_86 : decode cX11_counts 86 = .ok (.sipush 232, 3) := by decide +kernel
theorem dX11_counts_89 : decode cX11_counts 89 = .ok (.iadd, 1) := by decide +kernel
theorem dX11_counts_90 : decode cX11_counts 90 = .ok (.dup2, 1) := by decide +kernel
theorem dX11_counts_91 : decode cX11_counts 91 = .ok (.iaload, 1) := by decide +kernel
theorem dX11_counts_92 : decode cX11_counts 92 = .ok (.iconst 1, 1) := by decide +kernel
theorem dX11_counts_93 : decode cX11_counts 93 = .ok (.iadd, 1) := by decide +kernel
theorem dX11_counts_94 : decode cX11_counts 94 = .ok (.iastore, 1) := by decide +kernel
theorem dX11_counts_95 : decode cX11_counts 95 = .ok (.aload_n 0, 1) := by decide +kernel
theorem dX11_counts_96 : decode cX11_counts 96 = .ok (.getfield 7, 3) := by decide +kernel
theorem dX11_counts_99 : decode cX11_counts 99 = .ok (.iload_n 1, 1) := by decide +kernel
theorem dX11_counts_100 : decode cX11_counts 100 = .ok (.iload_n 2, 1) := by decide +kernel
theorem dX11_counts_101 : decode cX11_counts 101 = .ok (.invokestatic 40, 3) := by decide +kernel
theorem dX11_counts_104 : decode cX11_counts 104 = .ok (.bipush 11, 2) := by decide +kernel
theorem dX11_counts_106 : decode cX11_counts 106 = .ok (.iadd, 1) := by decide +kernel
theorem dX11_counts_107 : decode cX11_counts 107 = .ok (.dup2, 1) := by decide +kernel
theorem dX11_counts_108 : decode cX11_counts 108 = .ok (.iaload, 1) := by decide +kernel
theorem dX11_counts_109 : decode cX11_counts 109 = .ok (.iconst 1, 1) := by decide +kernel
theorem dX11_counts_110 : decode cX11_counts 110 = .ok (.iadd, 1) := by decide +kernel
theorem dX11_counts_111 : decode cX11_counts 111 = .ok (.iastore, 1) := by decide +kernel
theorem dX11_counts_112 : decode cX11_counts 112 = .ok (.aload_n 0, 1) := by decide +kernel
theorem dX11_counts_113 : decode cX11_counts 113 = .ok (.dup, 1) := by decide +kernel
theorem dX11_counts_114 : decode cX11_counts 114 = .ok (.getfield 83, 3) := by decide +kernel
theorem dX11_counts_117 : decode cX11_counts 117 = .ok (.iconst 1, 1) := by decide +kernel
theorem dX11_counts_118 : decode cX11_counts 118 = .ok (.iadd, 1) := by decide +kernel
theorem dX11_counts_119 : decode cX11_counts 119 = .ok (.putfield 83, 3) := by decide +kernel
theorem dX11_counts_122 : decode cX11_counts 122 = .ok (.return_, 1) := by decide +kernel
theorem dX11_operates_0 : decode cX11_operates 0 = .ok (.iload_n 3, 1) := by decide +kernel
theorem dX11_operates_1 : decode cX11_operates 1 = .ok (.iconst 1, 1) := by decide +kernel
theorem dX11_operates_2 : decode cX11_operates 2 = .ok (.iadd, 1) := by decide +kernel
theorem dX11_operates_3 : decode cX11_operates 3 = .ok (.istore 5, 2) := by decide +kernel
theorem dX11_operates_5 : decode cX11_operates 5 = .ok (.aload_n 0, 1) := by decide +kernel
theorem dX11_operates_6 : decode cX11_operates 6 = .ok (.getfield 7, 3) := by decide +kernel
theorem dX11_operates_9 : decode cX11_operates 9 = .ok (.iload_n 1, 1) := by decide +kernel
theorem dX11_operates_10 : decode cX11_operates 10 = .ok (.iload_n 2, 1) := by decide +kernel
theorem dX11_operates_11 : decode cX11_operates 11 = .ok (.invokestatic 40, 3) := by decide +kernel
theorem dX11_operates_14 : decode cX11_operates 14 = .ok (.iconst 3, 1) := by decide +kernel
theorem dX11_operates_15 : decode cX11_operates 15 = .ok (.iadd, 1) := by decide +kernel
theorem dX11_operates_16 : decode cX11_operates 16 = .ok (.iaload, 1) := by decide +kernel
theorem dX11_operates_17 : decode cX11_operates 17 = .ok (.lookupswitch 125 #[(3, 27), (4, 84)], 27) := by decide +kernel
theorem dX11_operates_44 : decode cX11_operates 44 = .ok (.aload_n 0, 1) := by decide +kernel
theorem dX11_operates_45 : decode cX11_operates 45 = .ok (.iload 5, 2) := by decide +kernel
theorem dX11_operates_47 : decode cX11_operates 47 = .ok (.iconst 0, 1) := by decide +kernel
theorem dX11_operates_48 : decode cX11_operates 48 = .ok (.iload 4, 2) := by decide +kernel
theorem dX11_operates_50 : decode cX11_operates 50 = .ok (.iload_n 2, 1) := by decide +kernel
theorem dX11_operates_51 : decode cX11_operates 51 = .ok (.invokevirtual 86, 3) := by decide +kernel
theorem dX11_operates_54 : decode cX11_operates 54 = .ok (.iconst 0, 1) := by decide +kernel
theorem dX11_operates_55 : decode cX11_operates 55 = .ok (.istore 6, 2) := by decide +kernel
theorem dX11_operates_57 : decode cX11_operates 57 = .ok (.iload 6, 2) := by decide +kernel
theorem dX11_operates_59 : decode cX11_operates 59 = .ok (.iconst 3, 1) := by decide +kernel
theorem dX11_operates_60 : decode cX11_operates 60 = .ok (.if_icmp .ge 31, 3) := by decide +kernel
theorem dX11_operates_63 : decode cX11_operates 63 = .ok (.aload_n 0, 1) := by decide +kernel
theorem dX11_operates_64 : decode cX11_operates 64 = .ok (.getfield 22, 3) := by decide +kernel
theorem dX11_operates_67 : decode cX11_operates 67 = .ok (.bipush 8, 2) := by decide +kernel
theorem dX11_operates_69 : decode cX11_operates 69 = .ok (.iload 5, 2) := by decide +kernel
theorem dX11_operates_71 : decode cX11_operates 71 = .ok (.imul, 1) := by decide +kernel
theorem dX11_operates_72 : decode cX11_operates 72 = .ok (.iconst 2, 1) := by decide +kernel
theorem dX11_operates_73 : decode cX11_operates 73 = .ok (.iadd, 1) := by decide +kernel
theorem dX11_operates_74 : decode cX11_operates 74 = .ok (.iload 6, 2) := by decide +kernel
theorem dX11_operates_76 : decode cX11_operates 76 = .ok (.iadd, 1) := by decide +kernel
theorem dX11_operates_77 : decode cX11_operates 77 = .ok (.aload_n 0, 1) := by decide +kernel
theorem dX11_operates_78 : decode cX11_operates 78 = .ok (.iload_n 3, 1) := by decide +kernel
theorem dX11_operates_79 : decode cX11_operates 79 = .ok (.iload 6, 2) := by decide +kernel
theorem dX11_operates_81 : decode cX11_operates 81 = .ok (.invokevirtual 77, 3) := by decide +kernel
theorem dX11_operates_84 : decode cX11_operates 84 = .ok (.iastore, 1) := by decide +kernel
theorem dX11_operates_85 : decode cX11_operates 85 = .ok (.iinc 6 1, 3) := by decide +kernel
theorem dX11_operates_88 : decode cX11_operates 88 = .ok (.goto (-31), 3) := by decide +kernel
theorem dX11_operates_91 : decode cX11_operates 91 = .ok (.aload_n 0, 1) := by decide +kernel
theorem dX11_operates_92 : decode cX11_operates 92 = .ok (.iload_n 1, 1) := by decide +kernel
theorem dX11_operates_93 : decode cX11_operates 93 = .ok (.iload 5, 2) := by decide +kernel
theorem dX11_operates_95 : decode cX11_operates 95 = .ok (.iconst 0, 1) := by decide +kernel
theorem dX11_operates_96 : decode cX11_operates 96 = .ok (.iconst 0, 1) := by decide +kernel
theorem dX11_operates_97 : decode cX11_operates 97 = .ok (.invokevirtual 90, 3) := by decide +kernel
theorem dX11_operates_100 : decode cX11_operates 100 = .ok (.ireturn, 1) := by decide +kernel
theorem dX11_operates_101 : decode cX11_operates 101 = .ok (.aload_n 0, 1) := by decide +kernel
theorem dX11_operates_102 : decode cX11_operates 102 = .ok (.iload 5, 2) := by decide +kernel
theorem dX11_operates_104 : decode cX11_operates 104 = .ok (.iconst 1, 1) := by decide +kernel
theorem dX11_operates_105 : decode cX11_operates 105 = .ok (.aload_n 0, 1) := by decide +kernel
theorem dX11_operates_106 : decode cX11_operates 106 = .ok (.iload_n 3, 1) := by decide +kernel
theorem dX11_operates_107 : decode cX11_operates 107 = .ok (.iconst 3, 1) := by decide +kernel
theorem dX11_operates_108 : decode cX11_operates 108 = .ok (.invokevirtual 77, 3) := by decide +kernel
theorem dX11_operates_111 : decode cX11_operates 111 = .ok (.iconst 1, 1) := by decide +kernel
theorem dX11_operates_112 : decode cX11_operates 112 = .ok (.iadd, 1) := by decide +kernel
theorem dX11_operates_113 : decode cX11_operates 113 = .ok (.bipush 100, 2) := by decide +kernel
theorem dX11_operates_115 : decode cX11_operates 115 = .ok (.irem, 1) := by decide +kernel
theorem dX11_operates_116 : decode cX11_operates 116 = .ok (.iload_n 2, 1) := by decide +kernel
theorem dX11_operates_117 : decode cX11_operates 117 = .ok (.invokevirtual 86, 3) := by decide +kernel
theorem dX11_operates_120 : decode cX11_operates 120 = .ok (.aload_n 0, 1) := by decide +kernel
theorem dX11_operates_121 : decode cX11_operates 121 = .ok (.iload_n 1, 1) := by decide +kernel
theorem dX11_operates_122 : decode cX11_operates 122 = .ok (.iload 5, 2) := by decide +kernel
theorem dX11_operates_124 : decode cX11_operates 124 = .ok (.aload_n 0, 1) := by decide +kernel
theorem dX11_operates_125 : decode cX11_operates 125 = .ok (.getfield 7, 3) := by decide +kernel
theorem dX11_operates_128 : decode cX11_operates 128 = .ok (.iload_n 1, 1) := by decide +kernel
theorem dX11_operates_129 : decode cX11_operates 129 = .ok (.iload_n 2, 1) := by decide +kernel
theorem dX11_operates_130 : decode cX11_operates 130 = .ok (.invokestatic 40, 3) := by decide +kernel
theorem dX11_operates_133 : decode cX11_operates 133 = .ok (.iconst 4, 1) := by decide +kernel
theorem dX11_operates_134 : decode cX11_operates 134 = .ok (.iadd, 1) := by decide +kernel
theorem dX11_operates_135 : decode cX11_operates 135 = .ok (.iaload, 1) := by decide +kernel
theorem dX11_operates_136 : decode cX11_operates 136 = .ok (.iload 4, 2) := by decide +kernel
theorem dX11_operates_138 : decode cX11_operates 138 = .ok (.invokevirtual 90, 3) := by decide +kernel
theorem dX11_operates_141 : decode cX11_operates 141 = .ok (.ireturn, 1) := by decide +kernel
theorem dX11_operates_142 : decode cX11_operates 142 = .ok (.aload_n 0, 1) := by decide +kernel
theorem dX11_operates_143 : decode cX11_operates 143 = .ok (.iload 5, 2) := by decide +kernel
theorem dX11_operates_145 : decode cX11_operates 145 = .ok (.iconst 2, 1) := by decide +kernel
theorem dX11_operates_146 : decode cX11_operates 146 = .ok (.iload 4, 2) := by decide +kernel
theorem dX11_operates_148 : decode cX11_operates 148 = .ok (.iload_n 2, 1) := by decide +kernel
theorem dX11_operates_149 : decode cX11_operates 149 = .ok (.invokevirtual 86, 3) := by decide +kernel
theorem dX11_operates_152 : decode cX11_operates 152 = .ok (.aload_n 0, 1) := by decide +kernel
theorem dX11_operates_153 : decode cX11_operates 153 = .ok (.iload_n 1, 1) := by decide +kernel
theorem dX11_operates_154 : decode cX11_operates 154 = .ok (.iload 5, 2) := by decide +kernel
theorem dX11_operates_156 : decode cX11_operates 156 = .ok (.iconst 0, 1) := by decide +kernel
theorem dX11_operates_157 : decode cX11_operates 157 = .ok (.iconst 0, 1) := by decide +kernel
theorem dX11_operates_158 : decode cX11_operates 158 = .ok (.invokevirtual 90, 3) := by decide +kernel
theorem dX11_operates_161 : decode cX11_operates 161 = .ok (.ireturn, 1) := by decide +kernel
theorem dX11_acts_0 : decode cX11_acts 0 = .ok (.iload_n 1, 1) := by decide +kernel
theorem dX11_acts_1 : decode cX11_acts 1 = .ok (.iload_n 2, 1) := by decide +kernel
theorem dX11_acts_2 : decode cX11_acts 2 = .ok (.invokestatic 40, 3) := by decide +kernel
theorem dX11_acts_5 : decode cX11_acts 5 = .ok (.istore 4, 2) := by decide +kernel
theorem dX11_acts_7 : decode cX11_acts 7 = .ok (.aload_n 0, 1) := by decide +kernel
theorem dX11_acts_8 : decode cX11_acts 8 = .ok (.iload_n 1, 1) := by decide +kernel
theorem dX11_acts_9 : decode cX11_acts 9 = .ok (.iload_n 2, 1) := by decide +kernel
theorem dX11_acts_10 : decode cX11_acts 10 = .ok (.iload_n 3, 1) := by decide +kernel
theorem dX11_acts_11 : decode cX11_acts 11 = .ok (.invokevirtual 93, 3) := by decide +kernel
theorem dX11_acts_14 : decode cX11_acts 14 = .ok (.istore 5, 2) := by decide +kernel
theorem dX11_acts_16 : decode cX11_acts 16 = .ok (.aload_n 0, 1) := by decide +kernel
theorem dX11_acts_17 : decode cX11_acts 17 = .ok (.iload_n 1, 1) := by decide +kernel
theorem dX11_acts_18 : decode cX11_acts 18 = .ok (.iload_n 2, 1) := by decide +kernel
theorem dX11_acts_19 : decode cX11_acts 19 = .ok (.iload_n 3, 1) := by decide +kernel
theorem dX11_acts_20 : decode cX11_acts 20 = .ok (.invokevirtual 97, 3) := by decide +kernel
theorem dX11_acts_23 : decode cX11_acts 23 = .ok (.aload_n 0, 1) := by decide +kernel
theorem dX11_acts_24 : decode cX11_acts 24 = .ok (.getfield 7, 3) := by decide +kernel
theorem dX11_acts_27 : decode cX11_acts 27 = .ok (.iload 4, 2) := by decide +kernel
theorem dX11_acts_29 : decode cX11_acts 29 = .ok (.iconst 3, 1) := by decide +kernel
theorem dX11_acts_30 : decode cX11_acts 30 = .ok (.iadd, 1) := by decide +kernel
theorem dX11_acts_31 : decode cX11_acts 31 = .ok (.iaload, 1) := by decide +kernel
theorem dX11_acts_32 : decode cX11_acts 32 = .ok (.tableswitch 65 0 2 #[28, 53, 61], 28) := by decide +kernel
theorem dX11_acts_60 : decode cX11_acts 60 = .ok (.aload_n 0, 1) := by decide +kernel
theorem dX11_acts_61 : decode cX11_acts 61 = .ok (.getfield 22, 3) := by decide +kernel
theorem dX11_acts_64 : decode cX11_acts 64 = .ok (.bipush 8, 2) := by decide +kernel
theorem dX11_acts_66 : decode cX11_acts 66 = .ok (.iload_n 3, 1) := by decide +kernel
theorem dX11_acts_67 : decode cX11_acts 67 = .ok (.imul, 1) := by decide +kernel
theorem dX11_acts_68 : decode cX11_acts 68 = .ok (.iconst 2, 1) := by decide +kernel
theorem dX11_acts_69 : decode cX11_acts 69 = .ok (.iadd, 1) := by decide +kernel
theorem dX11_acts_70 : decode cX11_acts 70 = .ok (.aload_n 0, 1) := by decide +kernel
theorem dX11_acts_71 : decode cX11_acts 71 = .ok (.getfield 7, 3) := by decide +kernel
theorem dX11_acts_74 : decode cX11_acts 74 = .ok (.iload 4, 2) := by decide +kernel
theorem dX11_acts_76 : decode cX11_acts 76 = .ok (.iconst 4, 1) := by decide +kernel
theorem dX11_acts_77 : decode cX11_acts 77 = .ok (.iadd, 1) := by decide +kernel
theorem dX11_acts_78 : decode cX11_acts 78 = .ok (.iaload, 1) := by decide +kernel
theorem dX11_acts_79 : decode cX11_acts 79 = .ok (.iadd, 1) := by decide +kernel
theorem dX11_acts_80 : decode cX11_acts 80 = .ok (.iload 5, 2) := by decide +kernel
theorem dX11_acts_82 : decode cX11_acts 82 = .ok (.iastore, 1) := by decide +kernel
theorem dX11_acts_83 : decode cX11_acts 83 = .ok (.iload_n 3, 1) := by decide +kernel
theorem dX11_acts_84 : decode cX11_acts 84 = .ok (.ireturn, 1) := by decide +kernel
theorem dX11_acts_85 : decode cX11_acts 85 = .ok (.aload_n 0, 1) := by decide +kernel
theorem dX11_acts_86 : decode cX11_acts 86 = .ok (.iconst 1, 1) := by decide +kernel
theorem dX11_acts_87 : decode cX11_acts 87 = .ok (.iload_n 2, 1) := by decide +kernel
theorem dX11_acts_88 : decode cX11_acts 88 = .ok (.invokevirtual 67, 3) := by decide +kernel
theorem dX11_acts_91 : decode cX11_acts 91 = .ok (.iload_n 3, 1) := by decide +kernel
theorem dX11_acts_92 : decode cX11_acts 92 = .ok (.ireturn, 1) := by decide +kernel
theorem dX11_acts_93 : decode cX11_acts 93 = .ok (.iload_n 3, 1) := by decide +kernel
theorem dX11_acts_94 : decode cX11_acts 94 = .ok (.iconst 1, 1) := by decide +kernel
theorem dX11_acts_95 : decode cX11_acts 95 = .ok (.isub, 1) := by decide +kernel
theorem dX11_acts_96 : decode cX11_acts 96 = .ok (.ireturn, 1) := by decide +kernel
theorem dX11_acts_97 : decode cX11_acts 97 = .ok (.iload_n 3, 1) := by decide +kernel
theorem dX11_acts_98 : decode cX11_acts 98 = .ok (.aload_n 0, 1) := by decide +kernel
theorem dX11_acts_99 : decode cX11_acts 99 = .ok (.getfield 7, 3) := by decide +kernel
theorem dX11_acts_102 : decode cX11_acts 102 = .ok (.iload_n 1, 1) := by decide +kernel
theorem dX11_acts_103 : decode cX11_acts 103 = .ok (.sipush 226, 3) := by decide +kernel
theorem dX11_acts_106 : decode cX11_acts 106 = .ok (.iadd, 1) := by decide +kernel
theorem dX11_acts_107 : decode cX11_acts 107 = .ok (.iaload, 1) := by decide +kernel
theorem dX11_acts_108 : decode cX11_acts 108 = .ok (.if_icmp .ne 11, 3) := by decide +kernel
theorem dX11_acts_111 : decode cX11_acts 111 = .ok (.aload_n 0, 1) := by decide +kernel
theorem dX11_acts_112 : decode cX11_acts 112 = .ok (.iconst 2, 1) := by decide +kernel
theorem dX11_acts_113 : decode cX11_acts 113 = .ok (.iload_n 2, 1) := by decide +kernel
theorem dX11_acts_114 : decode cX11_acts 114 = .ok (.invokevirtual 67, 3) := by decide +kernel
theorem dX11_acts_117 : decode cX11_acts 117 = .ok (.iload_n 3, 1) := by decide +kernel
theorem dX11_acts_118 : decode cX11_acts 118 = .ok (.ireturn, 1) := by decide +kernel
theorem dX11_acts_119 : decode cX11_acts 119 = .ok (.aload_n 0, 1) := by decide +kernel
theorem dX11_acts_120 : decode cX11_acts 120 = .ok (.iload_n 1, 1) := by decide +kernel
theorem dX11_acts_121 : decode cX11_acts 121 = .ok (.iload_n 2, 1) := by decide +kernel
theorem dX11_acts_122 : decode cX11_acts 122 = .ok (.iload_n 3, 1) := by decide +kernel
theorem dX11_acts_123 : decode cX11_acts 123 = .ok (.iload 5, 2) := by decide +kernel
theorem dX11_acts_125 : decode cX11_acts 125 = .ok (.invokevirtual 101, 3) := by decide +kernel
theorem dX11_acts_128 : decode cX11_acts 128 = .ok (.ifCond .eq 9, 3) := by decide +kernel
theorem dX11_acts_131 : decode cX11_acts 131 = .ok (.iload_n 3, 1) := by decide +kernel
theorem dX11_acts_132 : decode cX11_acts 132 = .ok (.iconst 1, 1) := by decide +kernel
theorem dX11_acts_133 : decode cX11_acts 133 = .ok (.iadd, 1) := by decide +kernel
theorem dX11_acts_134 : decode cX11_acts 134 = .ok (.goto 4, 3) := by decide +kernel
theorem dX11_acts_137 : decode cX11_acts 137 = .ok (.iload_n 3, 1) := by decide +kernel
theorem dX11_acts_138 : decode cX11_acts 138 = .ok (.ireturn, 1) := by decide +kernel
theorem dX11_goes_0 : decode cX11_goes 0 = .ok (.aload_n 0, 1) := by decide +kernel
theorem dX11_goes_1 : decode cX11_goes 1 = .ok (.getfield 22, 3) := by decide +kernel
theorem dX11_goes_4 : decode cX11_goes 4 = .ok (.bipush 8, 2) := by decide +kernel
theorem dX11_goes_6 : decode cX11_goes 6 = .ok (.iload_n 2, 1) := by decide +kernel
theorem dX11_goes_7 : decode cX11_goes 7 = .ok (.imul, 1) := by decide +kernel
theorem dX11_goes_8 : decode cX11_goes 8 = .ok (.iconst 5, 1) := by decide +kernel
theorem dX11_goes_9 : decode cX11_goes 9 = .ok (.iadd, 1) := by decide +kernel
theorem dX11_goes_10 : decode cX11_goes 10 = .ok (.iaload, 1) := by decide +kernel
theorem dX11_goes_11 : decode cX11_goes 11 = .ok (.istore_n 3, 1) := by decide +kernel
theorem dX11_goes_12 : decode cX11_goes 12 = .ok (.aload_n 0, 1) := by decide +kernel
theorem dX11_goes_13 : decode cX11_goes 13 = .ok (.iload_n 1, 1) := by decide +kernel
theorem dX11_goes_14 : decode cX11_goes 14 = .ok (.aload_n 0, 1) := by decide +kernel
theorem dX11_goes_15 : decode cX11_goes 15 = .ok (.getfield 22, 3) := by decide +kernel
theorem dX11_goes_18 : decode cX11_goes 18 = .ok (.bipush 8, 2) := by decide +kernel
theorem dX11_goes_20 : decode cX11_goes 20 = .ok (.iload_n 2, 1) := by decide +kernel
theorem dX11_goes_21 : decode cX11_goes 21 = .ok (.imul, 1) := by decide +kernel
theorem dX11_goes_22 : decode cX11_goes 22 = .ok (.iconst 0, 1) := by decide +kernel
theorem dX11_goes_23 : decode cX11_goes 23 = .ok (.iadd, 1) := by decide +kernel
theorem dX11_goes_24 : decode cX11_goes 24 = .ok (.iaload, 1) := by decide +kernel
theorem dX11_goes_25 : decode cX11_goes 25 = .ok (.iload_n 3, 1) := by decide +kernel
theorem dX11_goes_26 : decode cX11_goes 26 = .ok (.aload_n 0, 1) := by decide +kernel
theorem dX11_goes_27 : decode cX11_goes 27 = .ok (.getfield 22, 3) := by decide +kernel
theorem dX11_goes_30 : decode cX11_goes 30 = .ok (.bipush 8, 2) := by decide +kernel
theorem dX11_goes_32 : decode cX11_goes 32 = .ok (.iload_n 2, 1) := by decide +kernel
theorem dX11_goes_33 : decode cX11_goes 33 = .ok (.imul, 1) := by decide +kernel
theorem dX11_goes_34 : decode cX11_goes 34 = .ok (.bipush 6, 2) := by decide +kernel
theorem dX11_goes_36 : decode cX11_goes 36 = .ok (.iadd, 1) := by decide +kernel
theorem dX11_goes_37 : decode cX11_goes 37 = .ok (.iaload, 1) := by decide +kernel
theorem dX11_goes_38 : decode cX11_goes 38 = .ok (.invokevirtual 104, 3) := by decide +kernel
theorem dX11_goes_41 : decode cX11_goes 41 = .ok (.istore 4, 2) := by decide +kernel
theorem dX11_goes_43 : decode cX11_goes 43 = .ok (.iload 4, 2) := by decide +kernel
theorem dX11_goes_45 : decode cX11_goes 45 = .ok (.sipush (-1006), 3) := by decide +kernel
theorem dX11_goes_48 : decode cX11_goes 48 = .ok (.if_icmp .ne 12, 3) := by decide +kernel
theorem dX11_goes_51 : decode cX11_goes 51 = .ok (.iload_n 3, 1) := by decide +kernel
theorem dX11_goes_52 : decode cX11_goes 52 = .ok (.iconst 1, 1) := by decide +kernel
theorem dX11_goes_53 : decode cX11_goes 53 = .ok (.if_icmp .ne 7, 3) := by decide +kernel
theorem dX11_goes_56 : decode cX11_goes 56 = .ok (.iload_n 2, 1) := by decide +kernel
theorem dX11_goes_57 : decode cX11_goes 57 = .ok (.iconst 1, 1) := by decide +kernel
theorem dX11_goes_58 : decode cX11_goes 58 = .ok (.isub, 1) := by decide +kernel
theorem dX11_goes_59 : decode cX11_goes 59 = .ok (.ireturn, 1) := by decide +kernel
theorem dX11_goes_60 : decode cX11_goes 60 = .ok (.iload 4, 2) := by decide +kernel
theorem dX11_goes_62 : decode cX11_goes 62 = .ok (.sipush (-1006), 3) := by decide +kernel
theorem dX11_goes_65 : decode cX11_goes 65 = .ok (.if_icmp .ne 36, 3) := by decide +kernel
theorem dX11_goes_68 : decode cX11_goes 68 = .ok (.aload_n 0, 1) := by decide +kernel
theorem dX11_goes_69 : decode cX11_goes 69 = .ok (.iload_n 1, 1) := by decide +kernel
theorem dX11_goes_70 : decode cX11_goes 70 = .ok (.iload_n 2, 1) := by decide +kernel
theorem dX11_goes_71 : decode cX11_goes 71 = .ok (.invokevirtual 108, 3) := by decide +kernel
theorem dX11_goes_74 : decode cX11_goes 74 = .ok (.aload_n 0, 1) := by decide +kernel
theorem dX11_goes_75 : decode cX11_goes 75 = .ok (.getfield 22, 3) := by decide +kernel
theorem dX11_goes_78 : decode cX11_goes 78 = .ok (.bipush 8, 2) := by decide +kernel
theorem dX11_goes_80 : decode cX11_goes 80 = .ok (.iload_n 2, 1) := by decide +kernel
theorem dX11_goes_81 : decode cX11_goes 81 = .ok (.imul, 1) := by decide +kernel
theorem dX11_goes_82 : decode cX11_goes 82 = .ok (.iconst 5, 1) := by decide +kernel
theorem dX11_goes_83 : decode cX11_goes 83 = .ok (.iadd, 1) := by decide +kernel
theorem dX11_goes_84 : decode cX11_goes 84 = .ok (.iconst 1, 1) := by decide +kernel
theorem dX11_goes_85 : decode cX11_goes 85 = .ok (.iastore, 1) := by decide +kernel
theorem dX11_goes_86 : decode cX11_goes 86 = .ok (.aload_n 0, 1) := by decide +kernel
theorem dX11_goes_87 : decode cX11_goes 87 = .ok (.getfield 22, 3) := by decide +kernel
theorem dX11_goes_90 : decode cX11_goes 90 = .ok (.bipush 8, 2) := by decide +kernel
theorem dX11_goes_92 : decode cX11_goes 92 = .ok (.iload_n 2, 1) := by decide +kernel
theorem dX11_goes_93 : decode cX11_goes 93 = .ok (.imul, 1) := by decide +kernel
theorem dX11_goes_94 : decode cX11_goes 94 = .ok (.bipush 6, 2) := by decide +kernel
theorem dX11_goes_96 : decode cX11_goes 96 = .ok (.iadd, 1) := by decide +kernel
theorem dX11_goes_97 : decode cX11_goes 97 = .ok (.iconst 0, 1) := by decide +kernel
theorem dX11_goes_98 : decode cX11_goes 98 = .ok (.iastore, 1) := by decide +kernel
theorem dX11_goes_99 : decode cX11_goes 99 = .ok (.iload_n 2, 1) := by decide +kernel
theorem dX11_goes_100 : decode cX11_goes 100 = .ok (.ireturn, 1) := by decide +kernel
theorem dX11_goes_101 : decode cX11_goes 101 = .ok (.aload_n 0, 1) := by decide +kernel
theorem dX11_goes_102 : decode cX11_goes 102 = .ok (.getfield 22, 3) := by decide +kernel
theorem dX11_goes_105 : decode cX11_goes 105 = .ok (.bipush 8, 2) := by decide +kernel
theorem dX11_goes_107 : decode cX11_goes 107 = .ok (.iload_n 2, 1) := by decide +kernel
theorem dX11_goes_108 : decode cX11_goes 108 = .ok (.imul, 1) := by decide +kernel
theorem dX11_goes_109 : decode cX11_goes 109 = .ok (.bipush 6, 2) := by decide +kernel
theorem dX11_goes_111 : decode cX11_goes 111 = .ok (.iadd, 1) := by decide +kernel
theorem dX11_goes_112 : decode cX11_goes 112 = .ok (.dup2, 1) := by decide +kernel
theorem dX11_goes_113 : decode cX11_goes 113 = .ok (.iaload, 1) := by decide +kernel
theorem dX11_goes_114 : decode cX11_goes 114 = .ok (.iconst 1, 1) := by decide +kernel
theorem dX11_goes_115 : decode cX11_goes 115 = .ok (.iadd, 1) := by decide +kernel
theorem dX11_goes_116 : decode cX11_goes 116 = .ok (.iastore, 1) := by decide +kernel
theorem dX11_goes_117 : decode cX11_goes 117 = .ok (.aload_n 0, 1) := by decide +kernel
theorem dX11_goes_118 : decode cX11_goes 118 = .ok (.iload_n 1, 1) := by decide +kernel
theorem dX11_goes_119 : decode cX11_goes 119 = .ok (.iload 4, 2) := by decide +kernel
theorem dX11_goes_121 : decode cX11_goes 121 = .ok (.iload_n 2, 1) := by decide +kernel
theorem dX11_goes_122 : decode cX11_goes 122 = .ok (.invokevirtual 111, 3) := by decide +kernel
theorem dX11_goes_125 : decode cX11_goes 125 = .ok (.ifCond .eq 14, 3) := by decide +kernel
theorem dX11_goes_128 : decode cX11_goes 128 = .ok (.aload_n 0, 1) := by decide +kernel
theorem dX11_goes_129 : decode cX11_goes 129 = .ok (.iload_n 1, 1) := by decide +kernel
theorem dX11_goes_130 : decode cX11_goes 130 = .ok (.iload 4, 2) := by decide +kernel
theorem dX11_goes_132 : decode cX11_goes 132 = .ok (.iload_n 2, 1) := by decide +kernel
theorem dX11_goes_133 : decode cX11_goes 133 = .ok (.invokevirtual 114, 3) := by decide +kernel
theorem dX11_goes_136 : decode cX11_goes 136 = .ok (.goto 4, 3) := by decide +kernel
theorem dX11_goes_139 : decode cX11_goes 139 = .ok (.iload_n 2, 1) := by decide +kernel
theorem dX11_goes_140 : decode cX11_goes 140 = .ok (.ireturn, 1) := by decide +kernel
theorem dX11_runs_0 : decode cX11_runs 0 = .ok (.aload_n 0, 1) := by decide +kernel
theorem dX11_runs_1 : decode cX11_runs 1 = .ok (.iconst 0, 1) := by decide +kernel
theorem dX11_runs_2 : decode cX11_runs 2 = .ok (.putfield 64, 3) := by decide +kernel
theorem dX11_runs_5 : decode cX11_runs 5 = .ok (.aload_n 0, 1) := by decide +kernel
theorem dX11_runs_6 : decode cX11_runs 6 = .ok (.iconst 0, 1) := by decide +kernel
theorem dX11_runs_7 : decode cX11_runs 7 = .ok (.putfield 83, 3) := by decide +kernel
theorem dX11_runs_10 : decode cX11_runs 10 = .ok (.aload_n 0, 1) := by decide +kernel
theorem dX11_runs_11 : decode cX11_runs 11 = .ok (.iconst 0, 1) := by decide +kernel
theorem dX11_runs_12 : decode cX11_runs 12 = .ok (.putfield 70, 3) := by decide +kernel
theorem dX11_runs_15 : decode cX11_runs 15 = .ok (.aload_n 0, 1) := by decide +kernel
theorem dX11_runs_16 : decode cX11_runs 16 = .ok (.iconst 0, 1) := by decide +kernel
theorem dX11_runs_17 : decode cX11_runs 17 = .ok (.putfield 48, 3) := by decide +kernel
theorem dX11_runs_20 : decode cX11_runs 20 = .ok (.aload_n 0, 1) := by decide +kernel
theorem dX11_runs_21 : decode cX11_runs 21 = .ok (.sipush (-1006), 3) := by decide +kernel
theorem dX11_runs_24 : decode cX11_runs 24 = .ok (.putfield 51, 3) := by decide +kernel
theorem dX11_runs_27 : decode cX11_runs 27 = .ok (.aload_n 0, 1) := by decide +kernel
theorem dX11_runs_28 : decode cX11_runs 28 = .ok (.getfield 7, 3) := by decide +kernel
theorem dX11_runs_31 : decode cX11_runs 31 = .ok (.iload_n 1, 1) := by decide +kernel
theorem dX11_runs_32 : decode cX11_runs 32 = .ok (.sipush 232, 3) := by decide +kernel
theorem dX11_runs_35 : decode cX11_runs 35 = .ok (.iadd, 1) := by decide +kernel
theorem dX11_runs_36 : decode cX11_runs 36 = .ok (.iconst 0, 1) := by decide +kernel
theorem dX11_runs_37 : decode cX11_runs 37 = .ok (.iastore, 1) := by decide +kernel
theorem dX11_runs_38 : decode cX11_runs 38 = .ok (.aload_n 0, 1) := by decide +kernel
theorem dX11_runs_39 : decode cX11_runs 39 = .ok (.iload_n 1, 1) := by decide +kernel
theorem dX11_runs_40 : decode cX11_runs 40 = .ok (.iconst 1, 1) := by decide +kernel
theorem dX11_runs_41 : decode cX11_runs 41 = .ok (.iload_n 2, 1) := by decide +kernel
theorem dX11_runs_42 : decode cX11_runs 42 = .ok (.iload_n 3, 1) := by decide +kernel
theorem dX11_runs_43 : decode cX11_runs 43 = .ok (.invokevirtual 90, 3) := by decide +kernel
theorem dX11_runs_46 : decode cX11_runs 46 = .ok (.ifCond .eq 7, 3) := by decide +kernel
theorem dX11_runs_49 : decode cX11_runs 49 = .ok (.iconst 1, 1) := by decide +kernel
theorem dX11_runs_50 : decode cX11_runs 50 = .ok (.goto 4, 3) := by decide +kernel
theorem dX11_runs_53 : decode cX11_runs 53 = .ok (.iconst 0, 1) := by decide +kernel
theorem dX11_runs_54 : decode cX11_runs 54 = .ok (.istore 4, 2) := by decide +kernel
theorem dX11_runs_56 : decode cX11_runs 56 = .ok (.iconst 0, 1) := by decide +kernel
theorem dX11_runs_57 : decode cX11_runs 57 = .ok (.istore 5, 2) := by decide +kernel
theorem dX11_runs_59 : decode cX11_runs 59 = .ok (.iload 5, 2) := by decide +kernel
theorem dX11_runs_61 : decode cX11_runs 61 = .ok (.sipush 10000, 3) := by decide +kernel
theorem dX11_runs_64 : decode cX11_runs 64 = .ok (.if_icmp .ge 30, 3) := by decide +kernel
theorem dX11_runs_67 : decode cX11_runs 67 = .ok (.iload 4, 2) := by decide +kernel
theorem dX11_runs_69 : decode cX11_runs 69 = .ok (.ifCond .le 25, 3) := by decide +kernel
theorem dX11_runs_72 : decode cX11_runs 72 = .ok (.aload_n 0, 1) := by decide +kernel
theorem dX11_runs_73 : decode cX11_runs 73 = .ok (.getfield 48, 3) := by decide +kernel
theorem dX11_runs_76 : decode cX11_runs 76 = .ok (.ifCond .ne 18, 3) := by decide +kernel
theorem dX11_runs_79 : decode cX11_runs 79 = .ok (.aload_n 0, 1) := by decide +kernel
theorem dX11_runs_80 : decode cX11_runs 80 = .ok (.iload_n 1, 1) := by decide +kernel
theorem dX11_runs_81 : decode cX11_runs 81 = .ok (.iload 4, 2) := by decide +kernel
theorem dX11_runs_83 : decode cX11_runs 83 = .ok (.invokevirtual 117, 3) := by decide +kernel
theorem dX11_runs_86 : decode cX11_runs 86 = .ok (.istore 4, 2) := by decide +kernel
theorem dX11_runs_88 : decode cX11_runs 88 = .ok (.iinc 5 1, 3) := by decide +kernel
theorem dX11_runs_91 : decode cX11_runs 91 = .ok (.goto (-32), 3) := by decide +kernel
theorem dX11_runs_94 : decode cX11_runs 94 = .ok (.aload_n 0, 1) := by decide +kernel
theorem dX11_runs_95 : decode cX11_runs 95 = .ok (.getfield 7, 3) := by decide +kernel
theorem dX11_runs_98 : decode cX11_runs 98 = .ok (.iload_n 1, 1) := by decide +kernel
theorem dX11_runs_99 : decode cX11_runs 99 = .ok (.sipush 228, 3) := by decide +kernel
theorem dX11_runs_102 : decode cX11_runs 102 = .ok (.iadd, 1) := by decide +kernel
theorem dX11_runs_103 : decode cX11_runs 103 = .ok (.dup2, 1) := by decide +kernel
theorem dX11_runs_104 : decode cX11_runs 104 = .ok (.iaload, 1) := by decide +kernel
theorem dX11_runs_105 : decode cX11_runs 105 = .ok (.iconst 1, 1) := by decide +kernel
theorem dX11_runs_106 : decode cX11_runs 106 = .ok (.iadd, 1) := by decide +kernel
theorem dX11_runs_107 : decode cX11_runs 107 = .ok (.iastore, 1) := by decide +kernel
theorem dX11_runs_108 : decode cX11_runs 108 = .ok (.aload_n 0, 1) := by decide +kernel
theorem dX11_runs_109 : decode cX11_runs 109 = .ok (.getfield 7, 3) := by decide +kernel
theorem dX11_runs_112 : decode cX11_runs 112 = .ok (.iload_n 1, 1) := by decide +kernel
theorem dX11_runs_113 : decode cX11_runs 113 = .ok (.sipush 229, 3) := by decide +kernel
theorem dX11_runs_116 : decode cX11_runs 116 = .ok (.iadd, 1) := by decide +kernel
theorem dX11_runs_117 : decode cX11_runs 117 = .ok (.dup2, 1) := by decide +kernel
theorem dX11_runs_118 : decode cX11_runs 118 = .ok (.iaload, 1) := by decide +kernel
theorem dX11_runs_119 : decode cX11_runs 119 = .ok (.aload_n 0, 1) := by decide +kernel
theorem dX11_runs_120 : decode cX11_runs 120 = .ok (.getfield 64, 3) := by decide +kernel
theorem dX11_runs_123 : decode cX11_runs 123 = .ok (.iadd, 1) := by decide +kernel
theorem dX11_runs_124 : decode cX11_runs 124 = .ok (.iastore, 1) := by decide +kernel
theorem dX11_runs_125 : decode cX11_runs 125 = .ok (.aload_n 0, 1) := by decide +kernel
theorem dX11_runs_126 : decode cX11_runs 126 = .ok (.getfield 7, 3) := by decide +kernel
theorem dX11_runs_129 : decode cX11_runs 129 = .ok (.iload_n 1, 1) := by decide +kernel
theorem dX11_runs_130 : decode cX11_runs 130 = .ok (.sipush 230, 3) := by decide +kernel
theorem dX11_runs_133 : decode cX11_runs 133 = .ok (.iadd, 1) := by decide +kernel
theorem dX11_runs_134 : decode cX11_runs 134 = .ok (.dup2, 1) := by decide +kernel
theorem dX11_runs_135 : decode cX11_runs 135 = .ok (.iaload, 1) := by decide +kernel
theorem dX11_runs_136 : decode cX11_runs 136 = .ok (.aload_n 0, 1) := by decide +kernel
theorem dX11_runs_137 : decode cX11_runs 137 = .ok (.getfield 83, 3) := by decide +kernel
theorem dX11_runs_140 : decode cX11_runs 140 = .ok (.iadd, 1) := by decide +kernel
theorem dX11_runs_141 : decode cX11_runs 141 = .ok (.iastore, 1) := by decide +kernel
theorem dX11_runs_142 : decode cX11_runs 142 = .ok (.aload_n 0, 1) := by decide +kernel
theorem dX11_runs_143 : decode cX11_runs 143 = .ok (.getfield 7, 3) := by decide +kernel
theorem dX11_runs_146 : decode cX11_runs 146 = .ok (.iload_n 1, 1) := by decide +kernel
theorem dX11_runs_147 : decode cX11_runs 147 = .ok (.sipush 231, 3) := by decide +kernel
theorem dX11_runs_150 : decode cX11_runs 150 = .ok (.iadd, 1) := by decide +kernel
theorem dX11_runs_151 : decode cX11_runs 151 = .ok (.aload_n 0, 1) := by decide +kernel
theorem dX11_runs_152 : decode cX11_runs 152 = .ok (.getfield 70, 3) := by decide +kernel
theorem dX11_runs_155 : decode cX11_runs 155 = .ok (.aload_n 0, 1) := by decide +kernel
theorem dX11_runs_156 : decode cX11_runs 156 = .ok (.getfield 7, 3) := by decide +kernel
theorem dX11_runs_159 : decode cX11_runs 159 = .ok (.iload_n 1, 1) := by decide +kernel
theorem dX11_runs_160 : decode cX11_runs 160 = .ok (.sipush 231, 3) := by decide +kernel
theorem dX11_runs_163 : decode cX11_runs 163 = .ok (.iadd, 1) := by decide +kernel
theorem dX11_runs_164 : decode cX11_runs 164 = .ok (.iaload, 1) := by decide +kernel
theorem dX11_runs_165 : decode cX11_runs 165 = .ok (.if_icmp .le 10, 3) := by decide +kernel
theorem dX11_runs_168 : decode cX11_runs 168 = .ok (.aload_n 0, 1) := by decide +kernel
theorem dX11_runs_169 : decode cX11_runs 169 = .ok (.getfield 70, 3) := by decide +kernel
theorem dX11_runs_172 : decode cX11_runs 172 = .ok (.goto 13, 3) := by decide +kernel
theorem dX11_runs_175 : decode cX11_runs 175 = .ok (.aload_n 0, 1) := by decide +kernel
theorem dX11_runs_176 : decode cX11_runs 176 = .ok (.getfield 7, 3) := by decide +kernel
theorem dX11_runs_179 : decode cX11_runs 179 = .ok (.iload_n 1, 1) := by decide +kernel
theorem dX11_runs_180 : decode cX11_runs 180 = .ok (.sipush 231, 3) := by decide +kernel
theorem dX11_runs_183 : decode cX11_runs 183 = .ok (.iadd, 1) := by decide +kernel
theorem dX11_runs_184 : decode cX11_runs 184 = .ok (.iaload, 1) := by decide +kernel
theorem dX11_runs_185 : decode cX11_runs 185 = .ok (.iastore, 1) := by decide +kernel
theorem dX11_runs_186 : decode cX11_runs 186 = .ok (.return_, 1) := by decide +kernel
theorem dX11_whyNotInsert_0 : decode cX11_whyNotInsert 0 = .ok (.aload_n 0, 1) := by decide +kernel
theorem dX11_whyNotInsert_1 : decode cX11_whyNotInsert 1 = .ok (.iload_n 1, 1) := by decide +kernel
theorem dX11_whyNotInsert_2 : decode cX11_whyNotInsert 2 = .ok (.iload_n 2, 1) := by decide +kernel
theorem dX11_whyNotInsert_3 : decode cX11_whyNotInsert 3 = .ok (.invokevirtual 54, 3) := by decide +kernel
theorem dX11_whyNotInsert_6 : decode cX11_whyNotInsert 6 = .ok (.ifCond .lt 9, 3) := by decide +kernel
theorem dX11_whyNotInsert_9 : decode cX11_whyNotInsert 9 = .ok (.sipush (-1004), 3) := by decide +kernel
theorem dX11_whyNotInsert_12 : decode cX11_whyNotInsert 12 = .ok (.goto 23, 3) := by decide +kernel
theorem dX11_whyNotInsert_15 : decode cX11_whyNotInsert 15 = .ok (.aload_n 0, 1) := by decide +kernel
theorem dX11_whyNotInsert_16 : decode cX11_whyNotInsert 16 = .ok (.getfield 7, 3) := by decide +kernel
theorem dX11_whyNotInsert_19 : decode cX11_whyNotInsert 19 = .ok (.iload_n 1, 1) := by decide +kernel
theorem dX11_whyNotInsert_20 : decode cX11_whyNotInsert 20 = .ok (.iconst 0, 1) := by decide +kernel
theorem dX11_whyNotInsert_21 : decode cX11_whyNotInsert 21 = .ok (.iadd, 1) := by decide +kernel
theorem dX11_whyNotInsert_22 : decode cX11_whyNotInsert 22 = .ok (.iaload, 1) := by decide +kernel
theorem dX11_whyNotInsert_23 : decode cX11_whyNotInsert 23 = .ok (.bipush 20, 2) := by decide +kernel
theorem dX11_whyNotInsert_25 : decode cX11_whyNotInsert 25 = .ok (.if_icmp .ne 9, 3) := by decide +kernel
theorem dX11_whyNotInsert_28 : decode cX11_whyNotInsert 28 = .ok (.sipush (-1003), 3) := by decide +kernel
theorem dX11_whyNotInsert_31 : decode cX11_whyNotInsert 31 = .ok (.goto 4, 3) := by decide +kernel
theorem dX11_whyNotInsert_34 : decode cX11_whyNotInsert 34 = .ok (.iconst 0, 1) := by decide +kernel
theorem dX11_whyNotInsert_35 : decode cX11_whyNotInsert 35 = .ok (.ireturn, 1) := by decide +kernel
theorem dX11_whyNotUpdate_0 : decode cX11_whyNotUpdate 0 = .ok (.aload_n 0, 1) := by decide +kernel
theorem dX11_whyNotUpdate_1 : decode cX11_whyNotUpdate 1 = .ok (.iload_n 1, 1) := by decide +kernel
theorem dX11_whyNotUpdate_2 : decode cX11_whyNotUpdate 2 = .ok (.iload_n 2, 1) := by decide +kernel
theorem dX11_whyNotUpdate_3 : decode cX11_whyNotUpdate 3 = .ok (.invokevirtual 54, 3) := by decide +kernel
theorem dX11_whyNotUpdate_6 : decode cX11_whyNotUpdate 6 = .ok (.istore 5, 2) := by decide +kernel
theorem dX11_whyNotUpdate_8 : decode cX11_whyNotUpdate 8 = .ok (.iload 5, 2) := by decide +kernel
theorem dX11_whyNotUpdate_10 : decode cX11_whyNotUpdate 10 = .ok (.ifCond .ge 9, 3) := by decide +kernel
theorem dX11_whyNotUpdate_13 : decode cX11_whyNotUpdate 13 = .ok (.sipush (-1001), 3) := by decide +kernel
theorem dX11_whyNotUpdate_16 : decode cX11_whyNotUpdate 16 = .ok (.goto 26, 3) := by decide +kernel
theorem dX11_whyNotUpdate_19 : decode cX11_whyNotUpdate 19 = .ok (.aload_n 0, 1) := by decide +kernel
theorem dX11_whyNotUpdate_20 : decode cX11_whyNotUpdate 20 = .ok (.getfield 7, 3) := by decide +kernel
theorem dX11_whyNotUpdate_23 : decode cX11_whyNotUpdate 23 = .ok (.iload 5, 2) := by decide +kernel
theorem dX11_whyNotUpdate_25 : decode cX11_whyNotUpdate 25 = .ok (.iconst 1, 1) := by decide +kernel
theorem dX11_whyNotUpdate_26 : decode cX11_whyNotUpdate 26 = .ok (.iadd, 1) := by decide +kernel
theorem dX11_whyNotUpdate_27 : decode cX11_whyNotUpdate 27 = .ok (.iload_n 3, 1) := by decide +kernel
theorem dX11_whyNotUpdate_28 : decode cX11_whyNotUpdate 28 = .ok (.iadd, 1) := by decide +kernel
theorem dX11_whyNotUpdate_29 : decode cX11_whyNotUpdate 29 = .ok (.iaload, 1) := by decide +kernel
theorem dX11_whyNotUpdate_30 : decode cX11_whyNotUpdate 30 = .ok (.iload 4, 2) := by decide +kernel
theorem dX11_whyNotUpdate_32 : decode cX11_whyNotUpdate 32 = .ok (.if_icmp .ne 9, 3) := by decide +kernel
theorem dX11_whyNotUpdate_35 : decode cX11_whyNotUpdate 35 = .ok (.sipush (-1006), 3) := by decide +kernel
theorem dX11_whyNotUpdate_38 : decode cX11_whyNotUpdate 38 = .ok (.goto 4, 3) := by decide +kernel
theorem dX11_whyNotUpdate_41 : decode cX11_whyNotUpdate 41 = .ok (.iconst 0, 1) := by decide +kernel
theorem dX11_whyNotUpdate_42 : decode cX11_whyNotUpdate 42 = .ok (.ireturn, 1) := by decide +kernel
theorem dX11_runsInsert_0 : decode cX11_runsInsert 0 = .ok (.aload_n 0, 1) := by decide +kernel
theorem dX11_runsInsert_1 : decode cX11_runsInsert 1 = .ok (.iconst 1, 1) := by decide +kernel
theorem dX11_runsInsert_2 : decode cX11_runsInsert 2 = .ok (.iconst 0, 1) := by decide +kernel
theorem dX11_runsInsert_3 : decode cX11_runsInsert 3 = .ok (.iload_n 2, 1) := by decide +kernel
theorem dX11_runsInsert_4 : decode cX11_runsInsert 4 = .ok (.sipush (-1006), 3) := by decide +kernel
theorem dX11_runsInsert_7 : decode cX11_runsInsert 7 = .ok (.invokevirtual 86, 3) := by decide +kernel
theorem dX11_runsInsert_10 : decode cX11_runsInsert 10 = .ok (.aload_n 0, 1) := by decide +kernel
theorem dX11_runsInsert_11 : decode cX11_runsInsert 11 = .ok (.getfield 22, 3) := by decide +kernel
theorem dX11_runsInsert_14 : decode cX11_runsInsert 14 = .ok (.bipush 10, 2) := by decide +kernel
theorem dX11_runsInsert_16 : decode cX11_runsInsert 16 = .ok (.iload_n 3, 1) := by decide +kernel
theorem dX11_runsInsert_17 : decode cX11_runsInsert 17 = .ok (.iastore, 1) := by decide +kernel
theorem dX11_runsInsert_18 : decode cX11_runsInsert 18 = .ok (.aload_n 0, 1) := by decide +kernel
theorem dX11_runsInsert_19 : decode cX11_runsInsert 19 = .ok (.getfield 22, 3) := by decide +kernel
theorem dX11_runsInsert_22 : decode cX11_runsInsert 22 = .ok (.bipush 11, 2) := by decide +kernel
theorem dX11_runsInsert_24 : decode cX11_runsInsert 24 = .ok (.iload 4, 2) := by decide +kernel
theorem dX11_runsInsert_26 : decode cX11_runsInsert 26 = .ok (.iastore, 1) := by decide +kernel
theorem dX11_runsInsert_27 : decode cX11_runsInsert 27 = .ok (.aload_n 0, 1) := by decide +kernel
theorem dX11_runsInsert_28 : decode cX11_runsInsert 28 = .ok (.getfield 22, 3) := by decide +kernel
theorem dX11_runsInsert_31 : decode cX11_runsInsert 31 = .ok (.bipush 12, 2) := by decide +kernel
theorem dX11_runsInsert_33 : decode cX11_runsInsert 33 = .ok (.iload 5, 2) := by decide +kernel
theorem dX11_runsInsert_35 : decode cX11_runsInsert 35 = .ok (.iastore, 1) := by decide +kernel
theorem dX11_runsInsert_36 : decode cX11_runsInsert 36 = .ok (.aload_n 0, 1) := by decide +kernel
theorem dX11_runsInsert_37 : decode cX11_runsInsert 37 = .ok (.iload_n 1, 1) := by decide +kernel
theorem dX11_runsInsert_38 : decode cX11_runsInsert 38 = .ok (.iconst 0, 1) := by decide +kernel
theorem dX11_runsInsert_39 : decode cX11_runsInsert 39 = .ok (.iconst 0, 1) := by decide +kernel
theorem dX11_runsInsert_40 : decode cX11_runsInsert 40 = .ok (.invokevirtual 120, 3) := by decide +kernel
theorem dX11_runsInsert_43 : decode cX11_runsInsert 43 = .ok (.return_, 1) := by decide +kernel
theorem dX11_runsUpdate_0 : decode cX11_runsUpdate 0 = .ok (.aload_n 0, 1) := by decide +kernel
theorem dX11_runsUpdate_1 : decode cX11_runsUpdate 1 = .ok (.iconst 1, 1) := by decide +kernel
theorem dX11_runsUpdate_2 : decode cX11_runsUpdate 2 = .ok (.iconst 1, 1) := by decide +kernel
theorem dX11_runsUpdate_3 : decode cX11_runsUpdate 3 = .ok (.iload_n 2, 1) := by decide +kernel
theorem dX11_runsUpdate_4 : decode cX11_runsUpdate 4 = .ok (.sipush (-1006), 3) := by decide +kernel
theorem dX11_runsUpdate_7 : decode cX11_runsUpdate 7 = .ok (.invokevirtual 86, 3) := by decide +kernel
theorem dX11_runsUpdate_10 : decode cX11_runsUpdate 10 = .ok (.aload_n 0, 1) := by decide +kernel
theorem dX11_runsUpdate_11 : decode cX11_runsUpdate 11 = .ok (.iload_n 1, 1) := by decide +kernel
theorem dX11_runsUpdate_12 : decode cX11_runsUpdate 12 = .ok (.iload_n 3, 1) := by decide +kernel
theorem dX11_runsUpdate_13 : decode cX11_runsUpdate 13 = .ok (.iload 4, 2) := by decide +kernel
theorem dX11_runsUpdate_15 : decode cX11_runsUpdate 15 = .ok (.invokevirtual 120, 3) := by decide +kernel
theorem dX11_runsUpdate_18 : decode cX11_runsUpdate 18 = .ok (.return_, 1) := by decide +kernel
theorem dX11_runsDelete_0 : decode cX11_runsDelete 0 = .ok (.aload_n 0, 1) := by decide +kernel
theorem dX11_runsDelete_1 : decode cX11_runsDelete 1 = .ok (.iconst 1, 1) := by decide +kernel
theorem dX11_runsDelete_2 : decode cX11_runsDelete 2 = .ok (.iconst 2, 1) := by decide +kernel
theorem dX11_runsDelete_3 : decode cX11_runsDelete 3 = .ok (.iload_n 2, 1) := by decide +kernel
theorem dX11_runsDelete_4 : decode cX11_runsDelete 4 = .ok (.sipush (-1006), 3) := by decide +kernel
theorem dX11_runsDelete_7 : decode cX11_runsDelete 7 = .ok (.invokevirtual 86, 3) := by decide +kernel
theorem dX11_runsDelete_10 : decode cX11_runsDelete 10 = .ok (.aload_n 0, 1) := by decide +kernel
theorem dX11_runsDelete_11 : decode cX11_runsDelete 11 = .ok (.iload_n 1, 1) := by decide +kernel
theorem dX11_runsDelete_12 : decode cX11_runsDelete 12 = .ok (.iconst 0, 1) := by decide +kernel
theorem dX11_runsDelete_13 : decode cX11_runsDelete 13 = .ok (.iconst 0, 1) := by decide +kernel
theorem dX11_runsDelete_14 : decode cX11_runsDelete 14 = .ok (.invokevirtual 120, 3) := by decide +kernel
theorem dX11_runsDelete_17 : decode cX11_runsDelete 17 = .ok (.return_, 1) := by decide +kernel
theorem dX11_ends_0 : decode cX11_ends 0 = .ok (.aload_n 0, 1) := by decide +kernel
theorem dX11_ends_1 : decode cX11_ends 1 = .ok (.getfield 48, 3) := by decide +kernel
theorem dX11_ends_4 : decode cX11_ends 4 = .ok (.ifCond .le 7, 3) := by decide +kernel
theorem dX11_ends_7 : decode cX11_ends 7 = .ok (.sipush (-1005), 3) := by decide +kernel
theorem dX11_ends_10 : decode cX11_ends 10 = .ok (.ireturn, 1) := by decide +kernel
theorem dX11_ends_11 : decode cX11_ends 11 = .ok (.aload_n 0, 1) := by decide +kernel
theorem dX11_ends_12 : decode cX11_ends 12 = .ok (.invokevirtual 123, 3) := by decide +kernel
theorem dX11_ends_15 : decode cX11_ends 15 = .ok (.aload_n 0, 1) := by decide +kernel
theorem dX11_ends_16 : decode cX11_ends 16 = .ok (.getfield 64, 3) := by decide +kernel
theorem dX11_ends_19 : decode cX11_ends 19 = .ok (.ireturn, 1) := by decide +kernel
theorem dX11_whyNotInsertHere_0 : decode cX11_whyNotInsertHere 0 = .ok (.iload_n 1, 1) := by decide +kernel
theorem dX11_whyNotInsertHere_1 : decode cX11_whyNotInsertHere 1 = .ok (.invokestatic 57, 3) := by decide +kernel
theorem dX11_whyNotInsertHere_4 : decode cX11_whyNotInsertHere 4 = .ok (.ifCond .eq 29, 3) := by decide +kernel
theorem dX11_whyNotInsertHere_7 : decode cX11_whyNotInsertHere 7 = .ok (.iload_n 2, 1) := by decide +kernel
theorem dX11_whyNotInsertHere_8 : decode cX11_whyNotInsertHere 8 = .ok (.invokestatic 126, 3) := by decide +kernel
theorem dX11_whyNotInsertHere_11 : decode cX11_whyNotInsertHere 11 = .ok (.ifCond .eq 22, 3) := by decide +kernel
theorem dX11_whyNotInsertHere_14 : decode cX11_whyNotInsertHere 14 = .ok (.iload_n 3, 1) := by decide +kernel
theorem dX11_whyNotInsertHere_15 : decode cX11_whyNotInsertHere 15 = .ok (.invokestatic 126, 3) := by decide +kernel
theorem dX11_whyNotInsertHere_18 : decode cX11_whyNotInsertHere 18 = .ok (.ifCond .eq 15, 3) := by decide +kernel
theorem dX11_whyNotInsertHere_21 : decode cX11_whyNotInsertHere 21 = .ok (.iload 4, 2) := by decide +kernel
theorem dX11_whyNotInsertHere_23 : decode cX11_whyNotInsertHere 23 = .ok (.invokestatic 126, 3) := by decide +kernel
theorem dX11_whyNotInsertHere_26 : decode cX11_whyNotInsertHere 26 = .ok (.ifCond .eq 7, 3) := by decide +kernel
theorem dX11_whyNotInsertHere_29 : decode cX11_whyNotInsertHere 29 = .ok (.iconst 1, 1) := by decide +kernel
theorem dX11_whyNotInsertHere_30 : decode cX11_whyNotInsertHere 30 = .ok (.goto 4, 3) := by decide +kernel
theorem dX11_whyNotInsertHere_33 : decode cX11_whyNotInsertHere 33 = .ok (.iconst 0, 1) := by decide +kernel
theorem dX11_whyNotInsertHere_34 : decode cX11_whyNotInsertHere 34 = .ok (.istore 5, 2) := by decide +kernel
theorem dX11_whyNotInsertHere_36 : decode cX11_whyNotInsertHere 36 = .ok (.iload 5, 2) := by decide +kernel
theorem dX11_whyNotInsertHere_38 : decode cX11_whyNotInsertHere 38 = .ok (.ifCond .eq 12, 3) := by decide +kernel
theorem dX11_whyNotInsertHere_41 : decode cX11_whyNotInsertHere 41 = .ok (.aload_n 0, 1) := by decide +kernel
theorem dX11_whyNotInsertHere_42 : decode cX11_whyNotInsertHere 42 = .ok (.iconst 0, 1) := by decide +kernel
theorem dX11_whyNotInsertHere_43 : decode cX11_whyNotInsertHere 43 = .ok (.iload_n 1, 1) := by decide +kernel
theorem dX11_whyNotInsertHere_44 : decode cX11_whyNotInsertHere 44 = .ok (.invokevirtual 129, 3) := by decide +kernel
theorem dX11_whyNotInsertHere_47 : decode cX11_whyNotInsertHere 47 = .ok (.goto 6, 3) := by decide +kernel
theorem dX11_whyNotInsertHere_50 : decode cX11_whyNotInsertHere 50 = .ok (.sipush (-1002), 3) := by decide +kernel
theorem dX11_whyNotInsertHere_53 : decode cX11_whyNotInsertHere 53 = .ok (.ireturn, 1) := by decide +kernel
theorem dX11_whyNotUpdateHere_0 : decode cX11_whyNotUpdateHere 0 = .ok (.aload_n 0, 1) := by decide +kernel
theorem dX11_whyNotUpdateHere_1 : decode cX11_whyNotUpdateHere 1 = .ok (.iconst 0, 1) := by decide +kernel
theorem dX11_whyNotUpdateHere_2 : decode cX11_whyNotUpdateHere 2 = .ok (.iload_n 1, 1) := by decide +kernel
theorem dX11_whyNotUpdateHere_3 : decode cX11_whyNotUpdateHere 3 = .ok (.invokevirtual 54, 3) := by decide +kernel
theorem dX11_whyNotUpdateHere_6 : decode cX11_whyNotUpdateHere 6 = .ok (.ifCond .ge 7, 3) := by decide +kernel
theorem dX11_whyNotUpdateHere_9 : decode cX11_whyNotUpdateHere 9 = .ok (.sipush (-1001), 3) := by decide +kernel
theorem dX11_whyNotUpdateHere_12 : decode cX11_whyNotUpdateHere 12 = .ok (.ireturn, 1) := by decide +kernel
theorem dX11_whyNotUpdateHere_13 : decode cX11_whyNotUpdateHere 13 = .ok (.iload_n 2, 1) := by decide +kernel
theorem dX11_whyNotUpdateHere_14 : decode cX11_whyNotUpdateHere 14 = .ok (.iconst 0, 1) := by decide +kernel
theorem dX11_whyNotUpdateHere_15 : decode cX11_whyNotUpdateHere 15 = .ok (.iconst 2, 1) := by decide +kernel
theorem dX11_whyNotUpdateHere_16 : decode cX11_whyNotUpdateHere 16 = .ok (.invokestatic 25, 3) := by decide +kernel
theorem dX11_whyNotUpdateHere_19 : decode cX11_whyNotUpdateHere 19 = .ok (.ifCond .eq 21, 3) := by decide +kernel
theorem dX11_whyNotUpdateHere_22 : decode cX11_whyNotUpdateHere 22 = .ok (.iload_n 3, 1) := by decide +kernel
theorem dX11_whyNotUpdateHere_23 : decode cX11_whyNotUpdateHere 23 = .ok (.invokestatic 126, 3) := by decide +kernel
theorem dX11_whyNotUpdateHere_26 : decode cX11_whyNotUpdateHere 26 = .ok (.ifCond .eq 14, 3) := by decide +kernel
theorem dX11_whyNotUpdateHere_29 : decode cX11_whyNotUpdateHere 29 = .ok (.aload_n 0, 1) := by decide +kernel
theorem dX11_whyNotUpdateHere_30 : decode cX11_whyNotUpdateHere 30 = .ok (.iconst 0, 1) := by decide +kernel
theorem dX11_whyNotUpdateHere_31 : decode cX11_whyNotUpdateHere 31 = .ok (.iload_n 1, 1) := by decide +kernel
theorem dX11_whyNotUpdateHere_32 : decode cX11_whyNotUpdateHere 32 = .ok (.iload_n 2, 1) := by decide +kernel
theorem dX11_whyNotUpdateHere_33 : decode cX11_whyNotUpdateHere 33 = .ok (.iload_n 3, 1) := by decide +kernel
theorem dX11_whyNotUpdateHere_34 : decode cX11_whyNotUpdateHere 34 = .ok (.invokevirtual 132, 3) := by decide +kernel
theorem dX11_whyNotUpdateHere_37 : decode cX11_whyNotUpdateHere 37 = .ok (.goto 6, 3) := by decide +kernel
theorem dX11_whyNotUpdateHere_40 : decode cX11_whyNotUpdateHere 40 = .ok (.sipush (-1002), 3) := by decide +kernel
theorem dX11_whyNotUpdateHere_43 : decode cX11_whyNotUpdateHere 43 = .ok (.ireturn, 1) := by decide +kernel
theorem dX11_insert_0 : decode cX11_insert 0 = .ok (.aload_n 0, 1) := by decide +kernel
theorem dX11_insert_1 : decode cX11_insert 1 = .ok (.iload_n 1, 1) := by decide +kernel
theorem dX11_insert_2 : decode cX11_insert 2 = .ok (.iload_n 2, 1) := by decide +kernel
theorem dX11_insert_3 : decode cX11_insert 3 = .ok (.iload_n 3, 1) := by decide +kernel
theorem dX11_insert_4 : decode cX11_insert 4 = .ok (.iload 4, 2) := by decide +kernel
theorem dX11_insert_6 : decode cX11_insert 6 = .ok (.invokevirtual 135, 3) := by decide +kernel
theorem dX11_insert_9 : decode cX11_insert 9 = .ok (.istore 5, 2) := by decide +kernel
theorem dX11_insert_11 : decode cX11_insert 11 = .ok (.iload 5, 2) := by decide +kernel
theorem dX11_insert_13 : decode cX11_insert 13 = .ok (.ifCond .eq 6, 3) := by decide +kernel
theorem dX11_insert_16 : decode cX11_insert 16 = .ok (.iload 5, 2) := by decide +kernel
theorem dX11_insert_18 : decode cX11_insert 18 = .ok (.ireturn, 1) := by decide +kernel
theorem dX11_insert_19 : decode cX11_insert 19 = .ok (.aload_n 0, 1) := by decide +kernel
theorem dX11_insert_20 : decode cX11_insert 20 = .ok (.iconst 0, 1) := by decide +kernel
theorem dX11_insert_21 : decode cX11_insert 21 = .ok (.sipush 413, 3) := by decide +kernel
theorem dX11_insert_24 : decode cX11_insert 24 = .ok (.invokevirtual 36, 3) := by decide +kernel
theorem dX11_insert_27 : decode cX11_insert 27 = .ok (.aload_n 0, 1) := by decide +kernel
theorem dX11_insert_28 : decode cX11_insert 28 = .ok (.sipush 413, 3) := by decide +kernel
theorem dX11_insert_31 : decode cX11_insert 31 = .ok (.iload_n 1, 1) := by decide +kernel
theorem dX11_insert_32 : decode cX11_insert 32 = .ok (.iload_n 2, 1) := by decide +kernel
theorem dX11_insert_33 : decode cX11_insert 33 = .ok (.iload_n 3, 1) := by decide +kernel
theorem dX11_insert_34 : decode cX11_insert 34 = .ok (.iload 4, 2) := by decide +kernel
theorem dX11_insert_36 : decode cX11_insert 36 = .ok (.invokevirtual 138, 3) := by decide +kernel
theorem dX11_insert_39 : decode cX11_insert 39 = .ok (.aload_n 0, 1) := by decide +kernel
theorem dX11_insert_40 : decode cX11_insert 40 = .ok (.invokevirtual 142, 3) := by decide +kernel
theorem dX11_insert_43 : decode cX11_insert 43 = .ok (.ireturn, 1) := by decide +kernel
theorem dX11_update_0 : decode cX11_update 0 = .ok (.aload_n 0, 1) := by decide +kernel
theorem dX11_update_1 : decode cX11_update 1 = .ok (.iload_n 1, 1) := by decide +kernel
theorem dX11_update_2 : decode cX11_update 2 = .ok (.iload_n 2, 1) := by decide +kernel
theorem dX11_update_3 : decode cX11_update 3 = .ok (.iload_n 3, 1) := by decide +kernel
theorem dX11_update_4 : decode cX11_update 4 = .ok (.invokevirtual 146, 3) := by decide +kernel
theorem dX11_update_7 : decode cX11_update 7 = .ok (.istore 4, 2) := by decide +kernel
theorem dX11_update_9 : decode cX11_update 9 = .ok (.iload 4, 2) := by decide +kernel
theorem dX11_update_11 : decode cX11_update 11 = .ok (.ifCond .eq 6, 3) := by decide +kernel
theorem dX11_update_14 : decode cX11_update 14 = .ok (.iload 4, 2) := by decide +kernel
theorem dX11_update_16 : decode cX11_update 16 = .ok (.ireturn, 1) := by decide +kernel
theorem dX11_update_17 : decode cX11_update 17 = .ok (.aload_n 0, 1) := by decide +kernel
theorem dX11_update_18 : decode cX11_update 18 = .ok (.iconst 0, 1) := by decide +kernel
theorem dX11_update_19 : decode cX11_update 19 = .ok (.sipush 413, 3) := by decide +kernel
theorem dX11_update_22 : decode cX11_update 22 = .ok (.invokevirtual 36, 3) := by decide +kernel
theorem dX11_update_25 : decode cX11_update 25 = .ok (.aload_n 0, 1) := by decide +kernel
theorem dX11_update_26 : decode cX11_update 26 = .ok (.sipush 413, 3) := by decide +kernel
theorem dX11_update_29 : decode cX11_update 29 = .ok (.iload_n 1, 1) := by decide +kernel
theorem dX11_update_30 : decode cX11_update 30 = .ok (.iload_n 2, 1) := by decide +kernel
theorem dX11_update_31 : decode cX11_update 31 = .ok (.iload_n 3, 1) := by decide +kernel
theorem dX11_update_32 : decode cX11_update 32 = .ok (.invokevirtual 149, 3) := by decide +kernel
theorem dX11_update_35 : decode cX11_update 35 = .ok (.aload_n 0, 1) := by decide +kernel
theorem dX11_update_36 : decode cX11_update 36 = .ok (.invokevirtual 142, 3) := by decide +kernel
theorem dX11_update_39 : decode cX11_update 39 = .ok (.ireturn, 1) := by decide +kernel
theorem dX11_delete_0 : decode cX11_delete 0 = .ok (.aload_n 0, 1) := by decide +kernel
theorem dX11_delete_1 : decode cX11_delete 1 = .ok (.iconst 0, 1) := by decide +kernel
theorem dX11_delete_2 : decode cX11_delete 2 = .ok (.iload_n 1, 1) := by decide +kernel
theorem dX11_delete_3 : decode cX11_delete 3 = .ok (.invokevirtual 54, 3) := by decide +kernel
theorem dX11_delete_6 : decode cX11_delete 6 = .ok (.ifCond .ge 7, 3) := by decide +kernel
theorem dX11_delete_9 : decode cX11_delete 9 = .ok (.sipush (-1001), 3) := by decide +kernel
theorem dX11_delete_12 : decode cX11_delete 12 = .ok (.ireturn, 1) := by decide +kernel
theorem dX11_delete_13 : decode cX11_delete 13 = .ok (.aload_n 0, 1) := by decide +kernel
theorem dX11_delete_14 : decode cX11_delete 14 = .ok (.iconst 0, 1) := by decide +kernel
theorem dX11_delete_15 : decode cX11_delete 15 = .ok (.sipush 413, 3) := by decide +kernel
theorem dX11_delete_18 : decode cX11_delete 18 = .ok (.invokevirtual 36, 3) := by decide +kernel
theorem dX11_delete_21 : decode cX11_delete 21 = .ok (.aload_n 0, 1) := by decide +kernel
theorem dX11_delete_22 : decode cX11_delete 22 = .ok (.sipush 413, 3) := by decide +kernel
theorem dX11_delete_25 : decode cX11_delete 25 = .ok (.iload_n 1, 1) := by decide +kernel
theorem dX11_delete_26 : decode cX11_delete 26 = .ok (.invokevirtual 152, 3) := by decide +kernel
theorem dX11_delete_29 : decode cX11_delete 29 = .ok (.aload_n 0, 1) := by decide +kernel
theorem dX11_delete_30 : decode cX11_delete 30 = .ok (.invokevirtual 142, 3) := by decide +kernel
theorem dX11_delete_33 : decode cX11_delete 33 = .ok (.ireturn, 1) := by decide +kernel
theorem dX11_addRule_0 : decode cX11_addRule 0 = .ok (.iload_n 2, 1) := by decide +kernel
theorem dX11_addRule_1 : decode cX11_addRule 1 = .ok (.ifCond .ne 13, 3) := by decide +kernel
theorem dX11_addRule_4 : decode cX11_addRule 4 = .ok (.iload 4, 2) := by decide +kernel
theorem dX11_addRule_6 : decode cX11_addRule 6 = .ok (.iconst 0, 1) := by decide +kernel
theorem dX11_addRule_7 : decode cX11_addRule 7 = .ok (.iconst 2, 1) := by decide +kernel
theorem dX11_addRule_8 : decode cX11_addRule 8 = .ok (.invokestatic 25, 3) := by decide +kernel
theorem dX11_addRule_11 : decode cX11_addRule 11 = .ok (.goto 24, 3) := by decide +kernel
theorem dX11_addRule_14 : decode cX11_addRule 14 = .ok (.iload 4, 2) := by decide +kernel
theorem dX11_addRule_16 : decode cX11_addRule 16 = .ok (.iconst 1, 1) := by decide +kernel
theorem dX11_addRule_17 : decode cX11_addRule 17 = .ok (.if_icmp .eq 13, 3) := by decide +kernel
theorem dX11_addRule_20 : decode cX11_addRule 20 = .ok (.iload 4, 2) := by decide +kernel
theorem dX11_addRule_22 : decode cX11_addRule 22 = .ok (.iconst 3, 1) := by decide +kernel
theorem dX11_addRule_23 : decode cX11_addRule 23 = .ok (.iconst 5, 1) := by decide +kernel
theorem dX11_addRule_24 : decode cX11_addRule 24 = .ok (.invokestatic 25, 3) := by decide +kernel
theorem dX11_addRule_27 : decode cX11_addRule 27 = .ok (.ifCond .eq 7, 3) := by decide +kernel
theorem dX11_addRule_30 : decode cX11_addRule 30 = .ok (.iconst 1, 1) := by decide +kernel
theorem dX11_addRule_31 : decode cX11_addRule 31 = .ok (.goto 4, 3) := by decide +kernel
theorem dX11_addRule_34 : decode cX11_addRule 34 = .ok (.iconst 0, 1) := by decide +kernel
theorem dX11_addRule_35 : decode cX11_addRule 35 = .ok (.istore 8, 2) := by decide +kernel
theorem dX11_addRule_37 : decode cX11_addRule 37 = .ok (.iload_n 1, 1) := by decide +kernel
theorem dX11_addRule_38 : decode cX11_addRule 38 = .ok (.iconst 0, 1) := by decide +kernel
theorem dX11_addRule_39 : decode cX11_addRule 39 = .ok (.iconst 2, 1) := by decide +kernel
theorem dX11_addRule_40 : decode cX11_addRule 40 = .ok (.invokestatic 25, 3) := by decide +kernel
theorem dX11_addRule_43 : decode cX11_addRule 43 = .ok (.ifCond .eq 31, 3) := by decide +kernel
theorem dX11_addRule_46 : decode cX11_addRule 46 = .ok (.iload_n 2, 1) := by decide +kernel
theorem dX11_addRule_47 : decode cX11_addRule 47 = .ok (.iconst 0, 1) := by decide +kernel
theorem dX11_addRule_48 : decode cX11_addRule 48 = .ok (.iconst 1, 1) := by decide +kernel
theorem dX11_addRule_49 : decode cX11_addRule 49 = .ok (.invokestatic 25, 3) := by decide +kernel
theorem dX11_addRule_52 : decode cX11_addRule 52 = .ok (.ifCond .eq 22, 3) := by decide +kernel
theorem dX11_addRule_55 : decode cX11_addRule 55 = .ok (.iload_n 3, 1) := by decide +kernel
theorem dX11_addRule_56 : decode cX11_addRule 56 = .ok (.iconst 0, 1) := by decide +kernel
theorem dX11_addRule_57 : decode cX11_addRule 57 = .ok (.bipush 99, 2) := by decide +kernel
theorem dX11_addRule_59 : decode cX11_addRule 59 = .ok (.invokestatic 25, 3) := by decide +kernel
theorem dX11_addRule_62 : decode cX11_addRule 62 = .ok (.ifCond .eq 12, 3) := by decide +kernel
theorem dX11_addRule_65 : decode cX11_addRule 65 = .ok (.iload 8, 2) := by decide +kernel
theorem dX11_addRule_67 : decode cX11_addRule 67 = .ok (.ifCond .eq 7, 3) := by decide +kernel
theorem dX11_addRule_70 : decode cX11_addRule 70 = .ok (.iconst 1, 1) := by decide +kernel
theorem dX11_addRule_71 : decode cX11_addRule 71 = .ok (.goto 4, 3) := by decide +kernel
theorem dX11_addRule_74 : decode cX11_addRule 74 = .ok (.iconst 0, 1) := by decide +kernel
theorem dX11_addRule_75 : decode cX11_addRule 75 = .ok (.istore 9, 2) := by decide +kernel
theorem dX11_addRule_77 : decode cX11_addRule 77 = .ok (.iload 9, 2) := by decide +kernel
theorem dX11_addRule_79 : decode cX11_addRule 79 = .ok (.ifCond .eq 31, 3) := by decide +kernel
theorem dX11_addRule_82 : decode cX11_addRule 82 = .ok (.iload 5, 2) := by decide +kernel
theorem dX11_addRule_84 : decode cX11_addRule 84 = .ok (.iconst 0, 1) := by decide +kernel
theorem dX11_addRule_85 : decode cX11_addRule 85 = .ok (.iconst 2, 1) := by decide +kernel
theorem dX11_addRule_86 : decode cX11_addRule 86 = .ok (.invokestatic 25, 3) := by decide +kernel
theorem dX11_addRule_89 : decode cX11_addRule 89 = .ok (.ifCond .eq 21, 3) := by decide +kernel
theorem dX11_addRule_92 : decode cX11_addRule 92 = .ok (.iload 6, 2) := by decide +kernel
theorem dX11_addRule_94 : decode cX11_addRule 94 = .ok (.iconst 0, 1) := by decide +kernel
theorem dX11_addRule_95 : decode cX11_addRule 95 = .ok (.iconst 3, 1) := by decide +kernel
theorem dX11_addRule_96 : decode cX11_addRule 96 = .ok (.invokestatic 25, 3) := by decide +kernel
theorem dX11_addRule_99 : decode cX11_addRule 99 = .ok (.ifCond .eq 11, 3) := by decide +kernel
theorem dX11_addRule_102 : decode cX11_addRule 102 = .ok (.iload 7, 2) := by decide +kernel
theorem dX11_addRule_104 : decode cX11_addRule 104 = .ok (.invokestatic 126, 3) := by decide +kernel
theorem dX11_addRule_107 : decode cX11_addRule 107 = .ok (.ifCond .ne 7, 3) := by decide +kernel
theorem dX11_addRule_110 : decode cX11_addRule 110 = .ok (.sipush (-1002), 3) := by decide +kernel
theorem dX11_addRule_113 : decode cX11_addRule 113 = .ok (.ireturn, 1) := by decide +kernel
theorem dX11_addRule_114 : decode cX11_addRule 114 = .ok (.aload_n 0, 1) := by decide +kernel
theorem dX11_addRule_115 : decode cX11_addRule 115 = .ok (.getfield 7, 3) := by decide +kernel
theorem dX11_addRule_118 : decode cX11_addRule 118 = .ok (.bipush 81, 2) := by decide +kernel
theorem dX11_addRule_120 : decode cX11_addRule 120 = .ok (.iaload, 1) := by decide +kernel
theorem dX11_addRule_121 : decode cX11_addRule 121 = .ok (.bipush 12, 2) := by decide +kernel
theorem dX11_addRule_123 : decode cX11_addRule 123 = .ok (.if_icmp .ne 7, 3) := by decide +kernel
theorem dX11_addRule_126 : decode cX11_addRule 126 = .ok (.sipush (-1003), 3) := by decide +kernel
theorem dX11_addRule_129 : decode cX11_addRule 129 = .ok (.ireturn, 1) := by decide +kernel
theorem dX11_addRule_130 : decode cX11_addRule 130 = .ok (.aload_n 0, 1) := by decide +kernel
theorem dX11_addRule_131 : decode cX11_addRule 131 = .ok (.invokevirtual 33, 3) := by decide +kernel
theorem dX11_addRule_134 : decode cX11_addRule 134 = .ok (.iconst 0, 1) := by decide +kernel
theorem dX11_addRule_135 : decode cX11_addRule 135 = .ok (.aload_n 0, 1) := by decide +kernel
theorem dX11_addRule_136 : decode cX11_addRule 136 = .ok (.getfield 7, 3) := by decide +kernel
theorem dX11_addRule_139 : decode cX11_addRule 139 = .ok (.bipush 81, 2) := by decide +kernel
theorem dX11_addRule_141 : decode cX11_addRule 141 = .ok (.iaload, 1) := by decide +kernel
theorem dX11_addRule_142 : decode cX11_addRule 142 = .ok (.invokestatic 40, 3) := by decide +kernel
theorem dX11_addRule_145 : decode cX11_addRule 145 = .ok (.istore 10, 2) := by decide +kernel
theorem dX11_addRule_147 : decode cX11_addRule 147 = .ok (.aload_n 0, 1) := by decide +kernel
theorem dX11_addRule_148 : decode cX11_addRule 148 = .ok (.getfield 7, 3) := by decide +kernel
theorem dX11_addRule_151 : decode cX11_addRule 151 = .ok (.iload 10, 2) := by decide +kernel
theorem dX11_addRule_153 : decode cX11_addRule 153 = .ok (.iconst 0, 1) := by decide +kernel
theorem dX11_addRule_154 : decode cX11_addRule 154 = .ok (.iadd, 1) := by decide +kernel
theorem dX11_addRule_155 : decode cX11_addRule 155 = .ok (.iload_n 1, 1) := by decide +kernel
theorem dX11_addRule_156 : decode cX11_addRule 156 = .ok (.iastore, 1) := by decide +kernel
theorem dX11_addRule_157 : decode cX11_addRule 157 = .ok (.aload_n 0, 1) := by decide +kernel
theorem dX11_addRule_158 : decode cX11_addRule 158 = .ok (.getfield 7, 3) := by decide +kernel
theorem dX11_addRule_161 : decode cX11_addRule 161 = .ok (.iload 10, 2) := by decide +kernel
theorem dX11_addRule_163 : decode cX11_addRule 163 = .ok (.iconst 1, 1) := by decide +kernel
theorem dX11_addRule_164 : decode cX11_addRule 164 = .ok (.iadd, 1) := by decide +kernel
theorem dX11_addRule_165 : decode cX11_addRule 165 = .ok (.iload_n 2, 1) := by decide +kernel
theorem dX11_addRule_166 : decode cX11_addRule 166 = .ok (.iastore, 1) := by decide +kernel
theorem dX11_addRule_167 : decode cX11_addRule 167 = .ok (.aload_n 0, 1) := by decide +kernel
theorem dX11_addRule_168 : decode cX11_addRule 168 = .ok (.getfield 7, 3) := by decide +kernel
theorem dX11_addRule_171 : decode cX11_addRule 171 = .ok (.iload 10, 2) := by decide +kernel
theorem dX11_addRule_173 : decode cX11_addRule 173 = .ok (.iconst 2, 1) := by decide +kernel
theorem dX11_addRule_174 : decode cX11_addRule 174 = .ok (.iadd, 1) := by decide +kernel
theorem dX11_addRule_175 : decode cX11_addRule 175 = .ok (.iload_n 3, 1) := by decide +kernel
theorem dX11_addRule_176 : decode cX11_addRule 176 = .ok (.iastore, 1) := by decide +kernel
theorem dX11_addRule_177 : decode cX11_addRule 177 = .ok (.aload_n 0, 1) := by decide +kernel
theorem dX11_addRule_178 : decode cX11_addRule 178 = .ok (.getfield 7, 3) := by decide +kernel
theorem dX11_addRule_181 : decode cX11_addRule 181 = .ok (.iload 10, 2) := by decide +kernel
theorem dX11_addRule_183 : decode cX11_addRule 183 = .ok (.iconst 3, 1) := by decide +kernel
theorem dX11_addRule_184 : decode cX11_addRule 184 = .ok (.iadd, 1) := by decide +kernel
theorem dX11_addRule_185 : decode cX11_addRule 185 = .ok (.iload 4, 2) := by decide +kernel
theorem dX11_addRule_187 : decode cX11_addRule 187 = .ok (.iastore, 1) := by decide +kernel
theorem dX11_addRule_188 : decode cX11_addRule 188 = .ok (.aload_n 0, 1) := by decide +kernel
theorem dX11_addRule_189 : decode cX11_addRule 189 = .ok (.getfield 7, 3) := by decide +kernel
theorem dX11_addRule_192 : decode cX11_addRule 192 = .ok (.iload 10, 2) := by decide +kernel
theorem dX11_addRule_194 : decode cX11_addRule 194 = .ok (.iconst 4, 1) := by decide +kernel
theorem dX11_addRule_195 : decode cX11_addRule 195 = .ok (.iadd, 1) := by decide +kernel
theorem dX11_addRule_196 : decode cX11_addRule 196 = .ok (.iload 5, 2) := by decide +kernel
theorem dX11_addRule_198 : decode cX11_addRule 198 = .ok (.iastore, 1) := by decide +kernel
theorem dX11_addRule_199 : decode cX11_addRule 199 = .ok (.aload_n 0, 1) := by decide +kernel
theorem dX11_addRule_200 : decode cX11_addRule 200 = .ok (.getfield 7, 3) := by decide +kernel
theorem dX11_addRule_203 : decode cX11_addRule 203 = .ok (.iload 10, 2) := by decide +kernel
theorem dX11_addRule_205 : decode cX11_addRule 205 = .ok (.iconst 5, 1) := by decide +kernel
theorem dX11_addRule_206 : decode cX11_addRule 206 = .ok (.iadd, 1) := by decide +kernel
theorem dX11_addRule_207 : decode cX11_addRule 207 = .ok (.iload 6, 2) := by decide +kernel
theorem dX11_addRule_209 : decode cX11_addRule 209 = .ok (.iastore, 1) := by decide +kernel
theorem dX11_addRule_210 : decode cX11_addRule 210 = .ok (.aload_n 0, 1) := by decide +kernel
theorem dX11_addRule_211 : decode cX11_addRule 211 = .ok (.getfield 7, 3) := by decide +kernel
theorem dX11_addRule_214 : decode cX11_addRule 214 = .ok (.iload 10, 2) := by decide +kernel
theorem dX11_addRule_216 : decode cX11_addRule 216 = .ok (.bipush 6, 2) := by decide +kernel
theorem dX11_addRule_218 : decode cX11_addRule 218 = .ok (.iadd, 1) := by decide +kernel
theorem dX11_addRule_219 : decode cX11_addRule 219 = .ok (.iload 7, 2) := by decide +kernel
theorem dX11_addRule_221 : decode cX11_addRule 221 = .ok (.iastore, 1) := by decide +kernel
theorem dX11_addRule_222 : decode cX11_addRule 222 = .ok (.aload_n 0, 1) := by decide +kernel
theorem dX11_addRule_223 : decode cX11_addRule 223 = .ok (.getfield 7, 3) := by decide +kernel
theorem dX11_addRule_226 : decode cX11_addRule 226 = .ok (.iload 10, 2) := by decide +kernel
theorem dX11_addRule_228 : decode cX11_addRule 228 = .ok (.bipush 7, 2) := by decide +kernel
theorem dX11_addRule_230 : decode cX11_addRule 230 = .ok (.iadd, 1) := by decide +kernel
theorem dX11_addRule_231 : decode cX11_addRule 231 = .ok (.iconst 3, 1) := by decide +kernel
theorem dX11_addRule_232 : decode cX11_addRule 232 = .ok (.iastore, 1) := by decide +kernel
theorem dX11_addRule_233 : decode cX11_addRule 233 = .ok (.aload_n 0, 1) := by decide +kernel
theorem dX11_addRule_234 : decode cX11_addRule 234 = .ok (.getfield 7, 3) := by decide +kernel
theorem dX11_addRule_237 : decode cX11_addRule 237 = .ok (.iload 10, 2) := by decide +kernel
theorem dX11_addRule_239 : decode cX11_addRule 239 = .ok (.bipush 8, 2) := by decide +kernel
theorem dX11_addRule_241 : decode cX11_addRule 241 = .ok (.iadd, 1) := by decide +kernel
theorem dX11_addRule_242 : decode cX11_addRule 242 = .ok (.iconst 4, 1) := by decide +kernel
theorem dX11_addRule_243 : decode cX11_addRule 243 = .ok (.iastore, 1) := by decide +kernel
theorem dX11_addRule_244 : decode cX11_addRule 244 = .ok (.aload_n 0, 1) := by decide +kernel
theorem dX11_addRule_245 : decode cX11_addRule 245 = .ok (.getfield 7, 3) := by decide +kernel
theorem dX11_addRule_248 : decode cX11_addRule 248 = .ok (.iload 10, 2) := by decide +kernel
theorem dX11_addRule_250 : decode cX11_addRule 250 = .ok (.bipush 9, 2) := by decide +kernel
theorem dX11_addRule_252 : decode cX11_addRule 252 = .ok (.iadd, 1) := by decide +kernel
theorem dX11_addRule_253 : decode cX11_addRule 253 = .ok (.iconst 0, 1) := by decide +kernel
theorem dX11_addRule_254 : decode cX11_addRule 254 = .ok (.iastore, 1) := by decide +kernel
theorem dX11_addRule_255 : decode cX11_addRule 255 = .ok (.aload_n 0, 1) := by decide +kernel
theorem dX11_addRule_256 : decode cX11_addRule 256 = .ok (.getfield 7, 3) := by decide +kernel
theorem dX11_addRule_259 : decode cX11_addRule 259 = .ok (.iload 10, 2) := by decide +kernel
theorem dX11_addRule_261 : decode cX11_addRule 261 = .ok (.bipush 10, 2) := by decide +kernel
theorem dX11_addRule_263 : decode cX11_addRule 263 = .ok (.iadd, 1) := by decide +kernel
theorem dX11_addRule_264 : decode cX11_addRule 264 = .ok (.iconst 1, 1) := by decide +kernel
theorem dX11_addRule_265 : decode cX11_addRule 265 = .ok (.iastore, 1) := by decide +kernel
theorem dX11_addRule_266 : decode cX11_addRule 266 = .ok (.aload_n 0, 1) := by decide +kernel
theorem dX11_addRule_267 : decode cX11_addRule 267 = .ok (.getfield 7, 3) := by decide +kernel
theorem dX11_addRule_270 : decode cX11_addRule 270 = .ok (.iload 10, 2) := by decide +kernel
theorem dX11_addRule_272 : decode cX11_addRule 272 = .ok (.bipush 11, 2) := by decide +kernel
theorem dX11_addRule_274 : decode cX11_addRule 274 = .ok (.iadd, 1) := by decide +kernel
theorem dX11_addRule_275 : decode cX11_addRule 275 = .ok (.iconst 0, 1) := by decide +kernel
theorem dX11_addRule_276 : decode cX11_addRule 276 = .ok (.iastore, 1) := by decide +kernel
theorem dX11_addRule_277 : decode cX11_addRule 277 = .ok (.aload_n 0, 1) := by decide +kernel
theorem dX11_addRule_278 : decode cX11_addRule 278 = .ok (.getfield 7, 3) := by decide +kernel
theorem dX11_addRule_281 : decode cX11_addRule 281 = .ok (.bipush 81, 2) := by decide +kernel
theorem dX11_addRule_283 : decode cX11_addRule 283 = .ok (.dup2, 1) := by decide +kernel
theorem dX11_addRule_284 : decode cX11_addRule 284 = .ok (.iaload, 1) := by decide +kernel
theorem dX11_addRule_285 : decode cX11_addRule 285 = .ok (.iconst 1, 1) := by decide +kernel
theorem dX11_addRule_286 : decode cX11_addRule 286 = .ok (.iadd, 1) := by decide +kernel
theorem dX11_addRule_287 : decode cX11_addRule 287 = .ok (.iastore, 1) := by decide +kernel
theorem dX11_addRule_288 : decode cX11_addRule 288 = .ok (.aload_n 0, 1) := by decide +kernel
theorem dX11_addRule_289 : decode cX11_addRule 289 = .ok (.getfield 7, 3) := by decide +kernel
theorem dX11_addRule_292 : decode cX11_addRule 292 = .ok (.bipush 81, 2) := by decide +kernel
theorem dX11_addRule_294 : decode cX11_addRule 294 = .ok (.iaload, 1) := by decide +kernel
theorem dX11_addRule_295 : decode cX11_addRule 295 = .ok (.iconst 1, 1) := by decide +kernel
theorem dX11_addRule_296 : decode cX11_addRule 296 = .ok (.isub, 1) := by decide +kernel
theorem dX11_addRule_297 : decode cX11_addRule 297 = .ok (.ireturn, 1) := by decide +kernel
theorem dX11_setCondition_0 : decode cX11_setCondition 0 = .ok (.aload_n 0, 1) := by decide +kernel
theorem dX11_setCondition_1 : decode cX11_setCondition 1 = .ok (.iload_n 1, 1) := by decide +kernel
theorem dX11_setCondition_2 : decode cX11_setCondition 2 = .ok (.invokevirtual 155, 3) := by decide +kernel
theorem dX11_setCondition_5 : decode cX11_setCondition 5 = .ok (.ifCond .ne 7, 3) := by decide +kernel
theorem dX11_setCondition_8 : decode cX11_setCondition 8 = .ok (.sipush (-1001), 3) := by decide +kernel
theorem dX11_setCondition_11 : decode cX11_setCondition 11 = .ok (.ireturn, 1) := by decide +kernel
theorem dX11_setCondition_12 : decode cX11_setCondition 12 = .ok (.iload_n 2, 1) := by decide +kernel
theorem dX11_setCondition_13 : decode cX11_setCondition 13 = .ok (.iconst 0, 1) := by decide +kernel
theorem dX11_setCondition_14 : decode cX11_setCondition 14 = .ok (.iconst 3, 1) := by decide +kernel
theorem dX11_setCondition_15 : decode cX11_setCondition 15 = .ok (.invokestatic 25, 3) := by decide +kernel
theorem dX11_setCondition_18 : decode cX11_setCondition 18 = .ok (.ifCond .eq 20, 3) := by decide +kernel
theorem dX11_setCondition_21 : decode cX11_setCondition 21 = .ok (.iload_n 3, 1) := by decide +kernel
theorem dX11_setCondition_22 : decode cX11_setCondition 22 = .ok (.iconst 0, 1) := by decide +kernel
theorem dX11_setCondition_23 : decode cX11_setCondition 23 = .ok (.iconst 5, 1) := by decide +kernel
theorem dX11_setCondition_24 : decode cX11_setCondition 24 = .ok (.invokestatic 25, 3) := by decide +kernel
theorem dX11_setCondition_27 : decode cX11_setCondition 27 = .ok (.ifCond .eq 11, 3) := by decide +kernel
theorem dX11_setCondition_30 : decode cX11_setCondition 30 = .ok (.iload 4, 2) := by decide +kernel
theorem dX11_setCondition_32 : decode cX11_setCondition 32 = .ok (.invokestatic 126, 3) := by decide +kernel
theorem dX11_setCondition_35 : decode cX11_setCondition 35 = .ok (.ifCond .ne 7, 3) := by decide +kernel
theorem dX11_setCondition_38 : decode cX11_setCondition 38 = .ok (.sipush (-1002), 3) := by decide +kernel
theorem dX11_setCondition_41 : decode cX11_setCondition 41 = .ok (.ireturn, 1) := by decide +kernel
theorem dX11_setCondition_42 : decode cX11_setCondition 42 = .ok (.aload_n 0, 1) := by decide +kernel
theorem dX11_setCondition_43 : decode cX11_setCondition 43 = .ok (.invokevirtual 33, 3) := by decide +kernel
theorem dX11_setCondition_46 : decode cX11_setCondition 46 = .ok (.aload_n 0, 1) := by decide +kernel
theorem dX11_setCondition_47 : decode cX11_setCondition 47 = .ok (.getfield 7, 3) := by decide +kernel
theorem dX11_setCondition_50 : decode cX11_setCondition 50 = .ok (.iconst 0, 1) := by decide +kernel
theorem dX11_setCondition_51 : decode cX11_setCondition 51 = .ok (.iload_n 1, 1) := by decide +kernel
theorem dX11_setCondition_52 : decode cX11_setCondition 52 = .ok (.invokestatic 40, 3) := by decide +kernel
theorem dX11_setCondition_55 : decode cX11_setCondition 55 = .ok (.bipush 7, 2) := by decide +kernel
theorem dX11_setCondition_57 : decode cX11_setCondition 57 = .ok (.iadd, 1) := by decide +kernel
theorem dX11_setCondition_58 : decode cX11_setCondition 58 = .ok (.iload_n 2, 1) := by decide +kernel
theorem dX11_setCondition_59 : decode cX11_setCondition 59 = .ok (.iastore, 1) := by decide +kernel
theorem dX11_setCondition_60 : decode cX11_setCondition 60 = .ok (.aload_n 0, 1) := by decide +kernel
theorem dX11_setCondition_61 : decode cX11_setCondition 61 = .ok (.getfield 7, 3) := by decide +kernel
theorem dX11_setCondition_64 : decode cX11_setCondition 64 = .ok (.iconst 0, 1) := by decide +kernel
theorem dX11_setCondition_65 : decode cX11_setCondition 65 = .ok (.iload_n 1, 1) := by decide +kernel
theorem dX11_setCondition_66 : decode cX11_setCondition 66 = .ok (.invokestatic 40, 3) := by decide +kernel
theorem dX11_setCondition_69 : decode cX11_setCondition 69 = .ok (.bipush 8, 2) := by decide +kernel
theorem dX11_setCondition_71 : decode cX11_setCondition 71 = .ok (.iadd, 1) := by decide +kernel
theorem dX11_setCondition_72 : decode cX11_setCondition 72 = .ok (.iload_n 3, 1) := by decide +kernel
theorem dX11_setCondition_73 : decode cX11_setCondition 73 = .ok (.iastore, 1) := by decide +kernel
theorem dX11_setCondition_74 : decode cX11_setCondition 74 = .ok (.aload_n 0, 1) := by decide +kernel
theorem dX11_setCondition_75 : decode cX11_setCondition 75 = .ok (.getfield 7, 3) := by decide +kernel
theorem dX11_setCondition_78 : decode cX11_setCondition 78 = .ok (.iconst 0, 1) := by decide +kernel
theorem dX11_setCondition_79 : decode cX11_setCondition 79 = .ok (.iload_n 1, 1) := by decide +kernel
theorem dX11_setCondition_80 : decode cX11_setCondition 80 = .ok (.invokestatic 40, 3) := by decide +kernel
theorem dX11_setCondition_83 : decode cX11_setCondition 83 = .ok (.bipush 9, 2) := by decide +kernel
theorem dX11_setCondition_85 : decode cX11_setCondition 85 = .ok (.iadd, 1) := by decide +kernel
theorem dX11_setCondition_86 : decode cX11_setCondition 86 = .ok (.iload 4, 2) := by decide +kernel
theorem dX11_setCondition_88 : decode cX11_setCondition 88 = .ok (.iastore, 1) := by decide +kernel
theorem dX11_setCondition_89 : decode cX11_setCondition 89 = .ok (.iload_n 1, 1) := by decide +kernel
theorem dX11_setCondition_90 : decode cX11_setCondition 90 = .ok (.ireturn, 1) := by decide +kernel
theorem dX11_rulesOn_0 : decode cX11_rulesOn 0 = .ok (.iconst 0, 1) := by decide +kernel
theorem dX11_rulesOn_1 : decode cX11_rulesOn 1 = .ok (.istore_n 1, 1) := by decide +kernel
theorem dX11_rulesOn_2 : decode cX11_rulesOn 2 = .ok (.iconst 0, 1) := by decide +kernel
theorem dX11_rulesOn_3 : decode cX11_rulesOn 3 = .ok (.istore_n 2, 1) := by decide +kernel
theorem dX11_rulesOn_4 : decode cX11_rulesOn 4 = .ok (.iload_n 2, 1) := by decide +kernel
theorem dX11_rulesOn_5 : decode cX11_rulesOn 5 = .ok (.aload_n 0, 1) := by decide +kernel
theorem dX11_rulesOn_6 : decode cX11_rulesOn 6 = .ok (.getfield 7, 3) := by decide +kernel
theorem dX11_rulesOn_9 : decode cX11_rulesOn 9 = .ok (.bipush 81, 2) := by decide +kernel
theorem dX11_rulesOn_11 : decode cX11_rulesOn 11 = .ok (.iaload, 1) := by decide +kernel
theorem dX11_rulesOn_12 : decode cX11_rulesOn 12 = .ok (.if_icmp .ge 25, 3) := by decide +kernel
theorem dX11_rulesOn_15 : decode cX11_rulesOn 15 = .ok (.iload_n 1, 1) := by decide +kernel
theorem dX11_rulesOn_16 : decode cX11_rulesOn 16 = .ok (.aload_n 0, 1) := by decide +kernel
theorem dX11_rulesOn_17 : decode cX11_rulesOn 17 = .ok (.getfield 7, 3) := by decide +kernel
theorem dX11_rulesOn_20 : decode cX11_rulesOn 20 = .ok (.iconst 0, 1) := by decide +kernel
theorem dX11_rulesOn_21 : decode cX11_rulesOn 21 = .ok (.iload_n 2, 1) := by decide +kernel
theorem dX11_rulesOn_22 : decode cX11_rulesOn 22 = .ok (.invokestatic 40, 3) := by decide +kernel
theorem dX11_rulesOn_25 : decode cX11_rulesOn 25 = .ok (.bipush 10, 2) := by decide +kernel
theorem dX11_rulesOn_27 : decode cX11_rulesOn 27 = .ok (.iadd, 1) := by decide +kernel
theorem dX11_rulesOn_28 : decode cX11_rulesOn 28 = .ok (.iaload, 1) := by decide +kernel
theorem dX11_rulesOn_29 : decode cX11_rulesOn 29 = .ok (.iadd, 1) := by decide +kernel
theorem dX11_rulesOn_30 : decode cX11_rulesOn 30 = .ok (.istore_n 1, 1) := by decide +kernel
theorem dX11_rulesOn_31 : decode cX11_rulesOn 31 = .ok (.iinc 2 1, 3) := by decide +kernel
theorem dX11_rulesOn_34 : decode cX11_rulesOn 34 = .ok (.goto (-30), 3) := by decide +kernel
theorem dX11_rulesOn_37 : decode cX11_rulesOn 37 = .ok (.iload_n 1, 1) := by decide +kernel
theorem dX11_rulesOn_38 : decode cX11_rulesOn 38 = .ok (.ireturn, 1) := by decide +kernel
theorem dX11_put_0 : decode cX11_put 0 = .ok (.aload_n 0, 1) := by decide +kernel
theorem dX11_put_1 : decode cX11_put 1 = .ok (.iload_n 1, 1) := by decide +kernel
theorem dX11_put_2 : decode cX11_put 2 = .ok (.invokevirtual 155, 3) := by decide +kernel
theorem dX11_put_5 : decode cX11_put 5 = .ok (.ifCond .ne 7, 3) := by decide +kernel
theorem dX11_put_8 : decode cX11_put 8 = .ok (.sipush (-1001), 3) := by decide +kernel
theorem dX11_put_11 : decode cX11_put 11 = .ok (.ireturn, 1) := by decide +kernel
theorem dX11_put_12 : decode cX11_put 12 = .ok (.iload_n 2, 1) := by decide +kernel
theorem dX11_put_13 : decode cX11_put 13 = .ok (.ifCond .eq 7, 3) := by decide +kernel
theorem dX11_put_16 : decode cX11_put 16 = .ok (.iconst 1, 1) := by decide +kernel
theorem dX11_put_17 : decode cX11_put 17 = .ok (.goto 4, 3) := by decide +kernel
theorem dX11_put_20 : decode cX11_put 20 = .ok (.iconst 0, 1) := by decide +kernel
theorem dX11_put_21 : decode cX11_put 21 = .ok (.istore_n 3, 1) := by decide +kernel
theorem dX11_put_22 : decode cX11_put 22 = .ok (.aload_n 0, 1) := by decide +kernel
theorem dX11_put_23 : decode cX11_put 23 = .ok (.getfield 7, 3) := by decide +kernel
theorem dX11_put_26 : decode cX11_put 26 = .ok (.iconst 0, 1) := by decide +kernel
theorem dX11_put_27 : decode cX11_put 27 = .ok (.iload_n 1, 1) := by decide +kernel
theorem dX11_put_28 : decode cX11_put 28 = .ok (.invokestatic 40, 3) := by decide +kernel
theorem dX11_put_31 : decode cX11_put 31 = .ok (.bipush 10, 2) := by decide +kernel
theorem dX11_put_33 : decode cX11_put 33 = .ok (.iadd, 1) := by decide +kernel
theorem dX11_put_34 : decode cX11_put 34 = .ok (.iaload, 1) := by decide +kernel
theorem dX11_put_35 : decode cX11_put 35 = .ok (.iload_n 3, 1) := by decide +kernel
theorem dX11_put_36 : decode cX11_put 36 = .ok (.if_icmp .ne 7, 3) := by decide +kernel
theorem dX11_put_39 : decode cX11_put 39 = .ok (.sipush (-1006), 3) := by decide +kernel
theorem dX11_put_42 : decode cX11_put 42 = .ok (.ireturn, 1) := by decide +kernel
theorem dX11_put_43 : decode cX11_put 43 = .ok (.aload_n 0, 1) := by decide +kernel
theorem dX11_put_44 : decode cX11_put 44 = .ok (.invokevirtual 33, 3) := by decide +kernel
theorem dX11_put_47 : decode cX11_put 47 = .ok (.aload_n 0, 1) := by decide +kernel
theorem dX11_put_48 : decode cX11_put 48 = .ok (.getfield 7, 3) := by decide +kernel
theorem dX11_put_51 : decode cX11_put 51 = .ok (.iconst 0, 1) := by decide +kernel
theorem dX11_put_52 : decode cX11_put 52 = .ok (.iload_n 1, 1) := by decide +kernel
theorem dX11_put_53 : decode cX11_put 53 = .ok (.invokestatic 40, 3) := by decide +kernel
theorem dX11_put_56 : decode cX11_put 56 = .ok (.bipush 10, 2) := by decide +kernel
theorem dX11_put_58 : decode cX11_put 58 = .ok (.iadd, 1) := by decide +kernel
theorem dX11_put_59 : decode cX11_put 59 = .ok (.iload_n 3, 1) := by decide +kernel
theorem dX11_put_60 : decode cX11_put 60 = .ok (.iastore, 1) := by decide +kernel
theorem dX11_put_61 : decode cX11_put 61 = .ok (.aload_n 0, 1) := by decide +kernel
theorem dX11_put_62 : decode cX11_put 62 = .ok (.invokevirtual 158, 3) := by decide +kernel
theorem dX11_put_65 : decode cX11_put 65 = .ok (.ireturn, 1) := by decide +kernel
theorem dX11_removeRule_0 : decode cX11_removeRule 0 = .ok (.aload_n 0, 1) := by decide +kernel
theorem dX11_removeRule_1 : decode cX11_removeRule 1 = .ok (.iload_n 1, 1) := by decide +kernel
theorem dX11_removeRule_2 : decode cX11_removeRule 2 = .ok (.invokevirtual 155, 3) := by decide +kernel
theorem dX11_removeRule_5 : decode cX11_removeRule 5 = .ok (.ifCond .ne 7, 3) := by decide +kernel
theorem dX11_removeRule_8 : decode cX11_removeRule 8 = .ok (.sipush (-1001), 3) := by decide +kernel
theorem dX11_removeRule_11 : decode cX11_removeRule 11 = .ok (.ireturn, 1) := by decide +kernel
theorem dX11_removeRule_12 : decode cX11_removeRule 12 = .ok (.aload_n 0, 1) := by decide +kernel
theorem dX11_removeRule_13 : decode cX11_removeRule 13 = .ok (.invokevirtual 33, 3) := by decide +kernel
theorem dX11_removeRule_16 : decode cX11_removeRule 16 = .ok (.aload_n 0, 1) := by decide +kernel
theorem dX11_removeRule_17 : decode cX11_removeRule 17 = .ok (.getfield 7, 3) := by decide +kernel
theorem dX11_removeRule_20 : decode cX11_removeRule 20 = .ok (.bipush 81, 2) := by decide +kernel
theorem dX11_removeRule_22 : decode cX11_removeRule 22 = .ok (.dup2, 1) := by decide +kernel
theorem dX11_removeRule_23 : decode cX11_removeRule 23 = .ok (.iaload, 1) := by decide +kernel
theorem dX11_removeRule_24 : decode cX11_removeRule 24 = .ok (.iconst 1, 1) := by decide +kernel
theorem dX11_removeRule_25 : decode cX11_removeRule 25 = .ok (.isub, 1) := by decide +kernel
theorem dX11_removeRule_26 : decode cX11_removeRule 26 = .ok (.iastore, 1) := by decide +kernel
theorem dX11_removeRule_27 : decode cX11_removeRule 27 = .ok (.iconst 0, 1) := by decide +kernel
theorem dX11_removeRule_28 : decode cX11_removeRule 28 = .ok (.iload_n 1, 1) := by decide +kernel
theorem dX11_removeRule_29 : decode cX11_removeRule 29 = .ok (.invokestatic 40, 3) := by decide +kernel
theorem dX11_removeRule_32 : decode cX11_removeRule 32 = .ok (.istore_n 2, 1) := by decide +kernel
theorem dX11_removeRule_33 : decode cX11_removeRule 33 = .ok (.iload_n 2, 1) := by decide +kernel
theorem dX11_removeRule_34 : decode cX11_removeRule 34 = .ok (.iconst 0, 1) := by decide +kernel
theorem dX11_removeRule_35 : decode cX11_removeRule 35 = .ok (.aload_n 0, 1) := by decide +kernel
theorem dX11_removeRule_36 : decode cX11_removeRule 36 = .ok (.getfield 7, 3) := by decide +kernel
theorem dX11_removeRule_39 : decode cX11_removeRule 39 = .ok (.bipush 81, 2) := by decide +kernel
theorem dX11_removeRule_41 : decode cX11_removeRule 41 = .ok (.iaload, 1) := by decide +kernel
theorem dX11_removeRule_42 : decode cX11_removeRule 42 = .ok (.invokestatic 40, 3) := by decide +kernel
theorem dX11_removeRule_45 : decode cX11_removeRule 45 = .ok (.if_icmp .ge 24, 3) := by decide +kernel
theorem dX11_removeRule_48 : decode cX11_removeRule 48 = .ok (.aload_n 0, 1) := by decide +kernel
theorem dX11_removeRule_49 : decode cX11_removeRule 49 = .ok (.getfield 7, 3) := by decide +kernel
theorem dX11_removeRule_52 : decode cX11_removeRule 52 = .ok (.iload_n 2, 1) := by decide +kernel
theorem dX11_removeRule_53 : decode cX11_removeRule 53 = .ok (.aload_n 0, 1) := by decide +kernel
theorem dX11_removeRule_54 : decode cX11_removeRule 54 = .ok (.getfield 7, 3) := by decide +kernel
theorem dX11_removeRule_57 : decode cX11_removeRule 57 = .ok (.iload_n 2, 1) := by decide +kernel
theorem dX11_removeRule_58 : decode cX11_removeRule 58 = .ok (.bipush 12, 2) := by decide +kernel
theorem dX11_removeRule_60 : decode cX11_removeRule 60 = .ok (.iadd, 1) := by decide +kernel
theorem dX11_removeRule_61 : decode cX11_removeRule 61 = .ok (.iaload, 1) := by decide +kernel
theorem dX11_removeRule_62 : decode cX11_removeRule 62 = .ok (.iastore, 1) := by decide +kernel
theorem dX11_removeRule_63 : decode cX11_removeRule 63 = .ok (.iinc 2 1, 3) := by decide +kernel
theorem dX11_removeRule_66 : decode cX11_removeRule 66 = .ok (.goto (-33), 3) := by decide +kernel
theorem dX11_removeRule_69 : decode cX11_removeRule 69 = .ok (.aload_n 0, 1) := by decide +kernel
theorem dX11_removeRule_70 : decode cX11_removeRule 70 = .ok (.getfield 7, 3) := by decide +kernel
theorem dX11_removeRule_73 : decode cX11_removeRule 73 = .ok (.bipush 81, 2) := by decide +kernel
theorem dX11_removeRule_75 : decode cX11_removeRule 75 = .ok (.iaload, 1) := by decide +kernel
theorem dX11_removeRule_76 : decode cX11_removeRule 76 = .ok (.ireturn, 1) := by decide +kernel
theorem dX11_set_0 : decode cX11_set 0 = .ok (.iload_n 1, 1) := by decide +kernel
theorem dX11_set_1 : decode cX11_set 1 = .ok (.iconst 0, 1) := by decide +kernel
theorem dX11_set_2 : decode cX11_set 2 = .ok (.iconst 1, 1) := by decide +kernel
theorem dX11_set_3 : decode cX11_set 3 = .ok (.invokestatic 25, 3) := by decide +kernel
theorem dX11_set_6 : decode cX11_set 6 = .ok (.ifCond .ne 7, 3) := by decide +kernel
theorem dX11_set_9 : decode cX11_set 9 = .ok (.sipush (-1001), 3) := by decide +kernel
theorem dX11_set_12 : decode cX11_set 12 = .ok (.ireturn, 1) := by decide +kernel
theorem dX11_set_13 : decode cX11_set 13 = .ok (.iload_n 2, 1) := by decide +kernel
theorem dX11_set_14 : decode cX11_set 14 = .ok (.iconst 1, 1) := by decide +kernel
theorem dX11_set_15 : decode cX11_set 15 = .ok (.iload_n 1, 1) := by decide +kernel
theorem dX11_set_16 : decode cX11_set 16 = .ok (.isub, 1) := by decide +kernel
theorem dX11_set_17 : decode cX11_set 17 = .ok (.iload_n 1, 1) := by decide +kernel
theorem dX11_set_18 : decode cX11_set 18 = .ok (.ifCond .ne 8, 3) := by decide +kernel
theorem dX11_set_21 : decode cX11_set 21 = .ok (.bipush 8, 2) := by decide +kernel
theorem dX11_set_23 : decode cX11_set 23 = .ok (.goto 4, 3) := by decide +kernel
theorem dX11_set_26 : decode cX11_set 26 = .ok (.iconst 1, 1) := by decide +kernel
theorem dX11_set_27 : decode cX11_set 27 = .ok (.invokestatic 25, 3) := by decide +kernel
theorem dX11_set_30 : decode cX11_set 30 = .ok (.ifCond .ne 7, 3) := by decide +kernel
theorem dX11_set_33 : decode cX11_set 33 = .ok (.sipush (-1002), 3) := by decide +kernel
theorem dX11_set_36 : decode cX11_set 36 = .ok (.ireturn, 1) := by decide +kernel
theorem dX11_set_37 : decode cX11_set 37 = .ok (.aload_n 0, 1) := by decide +kernel
theorem dX11_set_38 : decode cX11_set 38 = .ok (.getfield 7, 3) := by decide +kernel
theorem dX11_set_41 : decode cX11_set 41 = .ok (.sipush 226, 3) := by decide +kernel
theorem dX11_set_44 : decode cX11_set 44 = .ok (.iload_n 1, 1) := by decide +kernel
theorem dX11_set_45 : decode cX11_set 45 = .ok (.iadd, 1) := by decide +kernel
theorem dX11_set_46 : decode cX11_set 46 = .ok (.iaload, 1) := by decide +kernel
theorem dX11_set_47 : decode cX11_set 47 = .ok (.istore_n 3, 1) := by decide +kernel
theorem dX11_set_48 : decode cX11_set 48 = .ok (.iload_n 3, 1) := by decide +kernel
theorem dX11_set_49 : decode cX11_set 49 = .ok (.iload_n 2, 1) := by decide +kernel
theorem dX11_set_50 : decode cX11_set 50 = .ok (.if_icmp .ne 7, 3) := by decide +kernel
theorem dX11_set_53 : decode cX11_set 53 = .ok (.sipush (-1006), 3) := by decide +kernel
theorem dX11_set_56 : decode cX11_set 56 = .ok (.ireturn, 1) := by decide +kernel
theorem dX11_set_57 : decode cX11_set 57 = .ok (.aload_n 0, 1) := by decide +kernel
theorem dX11_set_58 : decode cX11_set 58 = .ok (.invokevirtual 33, 3) := by decide +kernel
theorem dX11_set_61 : decode cX11_set 61 = .ok (.aload_n 0, 1) := by decide +kernel
theorem dX11_set_62 : decode cX11_set 62 = .ok (.getfield 7, 3) := by decide +kernel
theorem dX11_set_65 : decode cX11_set 65 = .ok (.sipush 226, 3) := by decide +kernel
theorem dX11_set_68 : decode cX11_set 68 = .ok (.iload_n 1, 1) := by decide +kernel
theorem dX11_set_69 : decode cX11_set 69 = .ok (.iadd, 1) := by decide +kernel
theorem dX11_set_70 : decode cX11_set 70 = .ok (.iload_n 2, 1) := by decide +kernel
theorem dX11_set_71 : decode cX11_set 71 = .ok (.iastore, 1) := by decide +kernel
theorem dX11_set_72 : decode cX11_set 72 = .ok (.iload_n 3, 1) := by decide +kernel
theorem dX11_set_73 : decode cX11_set 73 = .ok (.ireturn, 1) := by decide +kernel
theorem dX11_type_0 : decode cX11_type 0 = .ok (.aload_n 0, 1) := by decide +kernel
theorem dX11_type_1 : decode cX11_type 1 = .ok (.getfield 161, 3) := by decide +kernel
theorem dX11_type_4 : decode cX11_type 4 = .ok (.bipush 80, 2) := by decide +kernel
theorem dX11_type_6 : decode cX11_type 6 = .ok (.if_icmp .ne 7, 3) := by decide +kernel
theorem dX11_type_9 : decode cX11_type 9 = .ok (.sipush (-1003), 3) := by decide +kernel
theorem dX11_type_12 : decode cX11_type 12 = .ok (.ireturn, 1) := by decide +kernel
theorem dX11_type_13 : decode cX11_type 13 = .ok (.aload_n 0, 1) := by decide +kernel
theorem dX11_type_14 : decode cX11_type 14 = .ok (.getfield 19, 3) := by decide +kernel
theorem dX11_type_17 : decode cX11_type 17 = .ok (.aload_n 0, 1) := by decide +kernel
theorem dX11_type_18 : decode cX11_type 18 = .ok (.getfield 161, 3) := by decide +kernel
theorem dX11_type_21 : decode cX11_type 21 = .ok (.iload_n 1, 1) := by decide +kernel
theorem dX11_type_22 : decode cX11_type 22 = .ok (.iastore, 1) := by decide +kernel
theorem dX11_type_23 : decode cX11_type 23 = .ok (.aload_n 0, 1) := by decide +kernel
theorem dX11_type_24 : decode cX11_type 24 = .ok (.dup, 1) := by decide +kernel
theorem dX11_type_25 : decode cX11_type 25 = .ok (.getfield 161, 3) := by decide +kernel
theorem dX11_type_28 : decode cX11_type 28 = .ok (.iconst 1, 1) := by decide +kernel
theorem dX11_type_29 : decode cX11_type 29 = .ok (.iadd, 1) := by decide +kernel
theorem dX11_type_30 : decode cX11_type 30 = .ok (.putfield 161, 3) := by decide +kernel
theorem dX11_type_33 : decode cX11_type 33 = .ok (.aload_n 0, 1) := by decide +kernel
theorem dX11_type_34 : decode cX11_type 34 = .ok (.getfield 161, 3) := by decide +kernel
theorem dX11_type_37 : decode cX11_type 37 = .ok (.ireturn, 1) := by decide +kernel
theorem dX11_clearText_0 : decode cX11_clearText 0 = .ok (.aload_n 0, 1) := by decide +kernel
theorem dX11_clearText_1 : decode cX11_clearText 1 = .ok (.getfield 161, 3) := by decide +kernel
theorem dX11_clearText_4 : decode cX11_clearText 4 = .ok (.istore_n 1, 1) := by decide +kernel
theorem dX11_clearText_5 : decode cX11_clearText 5 = .ok (.aload_n 0, 1) := by decide +kernel
theorem dX11_clearText_6 : decode cX11_clearText 6 = .ok (.iconst 0, 1) := by decide +kernel
theorem dX11_clearText_7 : decode cX11_clearText 7 = .ok (.putfield 161, 3) := by decide +kernel
theorem dX11_clearText_10 : decode cX11_clearText 10 = .ok (.iload_n 1, 1) := by decide +kernel
theorem dX11_clearText_11 : decode cX11_clearText 11 = .ok (.ireturn, 1) := by decide +kernel
theorem dX11_sign_0 : decode cX11_sign 0 = .ok (.iload_n 1, 1) := by decide +kernel
theorem dX11_sign_1 : decode cX11_sign 1 = .ok (.aload_n 0, 1) := by decide +kernel
theorem dX11_sign_2 : decode cX11_sign 2 = .ok (.getfield 161, 3) := by decide +kernel
theorem dX11_sign_5 : decode cX11_sign 5 = .ok (.if_icmp .ge 12, 3) := by decide +kernel
theorem dX11_sign_8 : decode cX11_sign 8 = .ok (.aload_n 0, 1) := by decide +kernel
theorem dX11_sign_9 : decode cX11_sign 9 = .ok (.getfield 19, 3) := by decide +kernel
theorem dX11_sign_12 : decode cX11_sign 12 = .ok (.iload_n 1, 1) := by decide +kernel
theorem dX11_sign_13 : decode cX11_sign 13 = .ok (.iaload, 1) := by decide +kernel
theorem dX11_sign_14 : decode cX11_sign 14 = .ok (.goto 4, 3) := by decide +kernel
theorem dX11_sign_17 : decode cX11_sign 17 = .ok (.iconst (-1), 1) := by decide +kernel
theorem dX11_sign_18 : decode cX11_sign 18 = .ok (.ireturn, 1) := by decide +kernel
theorem dX11_digit_0 : decode cX11_digit 0 = .ok (.aload_n 0, 1) := by decide +kernel
theorem dX11_digit_1 : decode cX11_digit 1 = .ok (.iload_n 1, 1) := by decide +kernel
theorem dX11_digit_2 : decode cX11_digit 2 = .ok (.invokevirtual 164, 3) := by decide +kernel
theorem dX11_digit_5 : decode cX11_digit 5 = .ok (.bipush 48, 2) := by decide +kernel
theorem dX11_digit_7 : decode cX11_digit 7 = .ok (.bipush 57, 2) := by decide +kernel
theorem dX11_digit_9 : decode cX11_digit 9 = .ok (.invokestatic 25, 3) := by decide +kernel
theorem dX11_digit_12 : decode cX11_digit 12 = .ok (.ifCond .eq 14, 3) := by decide +kernel
theorem dX11_digit_15 : decode cX11_digit 15 = .ok (.aload_n 0, 1) := by decide +kernel
theorem dX11_digit_16 : decode cX11_digit 16 = .ok (.iload_n 1, 1) := by decide +kernel
theorem dX11_digit_17 : decode cX11_digit 17 = .ok (.invokevirtual 164, 3) := by decide +kernel
theorem dX11_digit_20 : decode cX11_digit 20 = .ok (.bipush 48, 2) := by decide +kernel
theorem dX11_digit_22 : decode cX11_digit 22 = .ok (.isub, 1) := by decide +kernel
theorem dX11_digit_23 : decode cX11_digit 23 = .ok (.goto 4, 3) := by decide +kernel
theorem dX11_digit_26 : decode cX11_digit 26 = .ok (.iconst (-1), 1) := by decide +kernel
theorem dX11_digit_27 : decode cX11_digit 27 = .ok (.ireturn, 1) := by decide +kernel
theorem dX11_numberEnd_0 : decode cX11_numberEnd 0 = .ok (.aload_n 0, 1) := by decide +kernel
theorem dX11_numberEnd_1 : decode cX11_numberEnd 1 = .ok (.iload_n 1, 1) := by decide +kernel
theorem dX11_numberEnd_2 : decode cX11_numberEnd 2 = .ok (.invokevirtual 168, 3) := by decide +kernel
theorem dX11_numberEnd_5 : decode cX11_numberEnd 5 = .ok (.iconst 1, 1) := by decide +kernel
theorem dX11_numberEnd_6 : decode cX11_numberEnd 6 = .ok (.if_icmp .ge 21, 3) := by decide +kernel
theorem dX11_numberEnd_9 : decode cX11_numberEnd 9 = .ok (.aload_n 0, 1) := by decide +kernel
theorem dX11_numberEnd_10 : decode cX11_numberEnd 10 = .ok (.iload_n 1, 1) := by decide +kernel
theorem dX11_numberEnd_11 : decode cX11_numberEnd 11 = .ok (.invokevirtual 168, 3) := by decide +kernel
theorem dX11_numberEnd_14 : decode cX11_numberEnd 14 = .ok (.ifCond .ge 9, 3) := by decide +kernel
theorem dX11_numberEnd_17 : decode cX11_numberEnd 17 = .ok (.iconst (-1), 1) := by decide +kernel
theorem dX11_numberEnd_18 : decode cX11_numberEnd 18 = .ok (.iload_n 1, 1) := by decide +kernel
theorem dX11_numberEnd_19 : decode cX11_numberEnd 19 = .ok (.isub, 1) := by decide +kernel
theorem dX11_numberEnd_20 : decode cX11_numberEnd 20 = .ok (.goto 6, 3) := by decide +kernel
theorem dX11_numberEnd_23 : decode cX11_numberEnd 23 = .ok (.iload_n 1, 1) := by decide +kernel
theorem dX11_numberEnd_24 : decode cX11_numberEnd 24 = .ok (.iconst 1, 1) := by decide +kernel
theorem dX11_numberEnd_25 : decode cX11_numberEnd 25 = .ok (.iadd, 1) := by decide +kernel
theorem dX11_numberEnd_26 : decode cX11_numberEnd 26 = .ok (.ireturn, 1) := by decide +kernel
theorem dX11_numberEnd_27 : decode cX11_numberEnd 27 = .ok (.iload_n 1, 1) := by decide +kernel
theorem dX11_numberEnd_28 : decode cX11_numberEnd 28 = .ok (.iconst 1, 1) := by decide +kernel
theorem dX11_numberEnd_29 : decode cX11_numberEnd 29 = .ok (.iadd, 1) := by decide +kernel
theorem dX11_numberEnd_30 : decode cX11_numberEnd 30 = .ok (.istore_n 3, 1) := by decide +kernel
theorem dX11_numberEnd_31 : decode cX11_numberEnd 31 = .ok (.iload_n 3, 1) := by decide +kernel
theorem dX11_numberEnd_32 : decode cX11_numberEnd 32 = .ok (.iload_n 1, 1) := by decide +kernel
theorem dX11_numberEnd_33 : decode cX11_numberEnd 33 = .ok (.iload_n 2, 1) := by decide +kernel
theorem dX11_numberEnd_34 : decode cX11_numberEnd 34 = .ok (.iadd, 1) := by decide +kernel
theorem dX11_numberEnd_35 : decode cX11_numberEnd 35 = .ok (.if_icmp .ge 17, 3) := by decide +kernel
theorem dX11_numberEnd_38 : decode cX11_numberEnd 38 = .ok (.aload_n 0, 1) := by decide +kernel
theorem dX11_numberEnd_39 : decode cX11_numberEnd 39 = .ok (.iload_n 3, 1) := by decide +kernel
theorem dX11_numberEnd_40 : decode cX11_numberEnd 40 = .ok (.invokevirtual 168, 3) := by decide +kernel
theorem dX11_numberEnd_43 : decode cX11_numberEnd 43 = .ok (.ifCond .lt 9, 3) := by decide +kernel
theorem dX11_numberEnd_46 : decode cX11_numberEnd 46 = .ok (.iinc 3 1, 3) := by decide +kernel
theorem dX11_numberEnd_49 : decode cX11_numberEnd 49 = .ok (.goto (-18), 3) := by decide +kernel
theorem dX11_numberEnd_52 : decode cX11_numberEnd 52 = .ok (.iload_n 3, 1) := by decide +kernel
theorem dX11_numberEnd_53 : decode cX11_numberEnd 53 = .ok (.ireturn, 1) := by decide +kernel
theorem dX11_valueEnd_0 : decode cX11_valueEnd 0 = .ok (.aload_n 0, 1) := by decide +kernel
theorem dX11_valueEnd_1 : decode cX11_valueEnd 1 = .ok (.iload_n 1, 1) := by decide +kernel
theorem dX11_valueEnd_2 : decode cX11_valueEnd 2 = .ok (.invokevirtual 164, 3) := by decide +kernel
theorem dX11_valueEnd_5 : decode cX11_valueEnd 5 = .ok (.bipush 45, 2) := by decide +kernel
theorem dX11_valueEnd_7 : decode cX11_valueEnd 7 = .ok (.if_icmp .ne 14, 3) := by decide +kernel
theorem dX11_valueEnd_10 : decode cX11_valueEnd 10 = .ok (.aload_n 0, 1) := by decide +kernel
theorem dX11_valueEnd_11 : decode cX11_valueEnd 11 = .ok (.iload_n 1, 1) := by decide +kernel
theorem dX11_valueEnd_12 : decode cX11_valueEnd 12 = .ok (.iconst 1, 1) := by decide +kernel
theorem dX11_valueEnd_13 : decode cX11_valueEnd 13 = .ok (.iadd, 1) := by decide +kernel
theorem dX11_valueEnd_14 : decode cX11_valueEnd 14 = .ok (.iconst 3, 1) := by decide +kernel
theorem dX11_valueEnd_15 : decode cX11_valueEnd 15 = .ok (.invokevirtual 171, 3) := by decide +kernel
theorem dX11_valueEnd_18 : decode cX11_valueEnd 18 = .ok (.goto 9, 3) := by decide +kernel
theorem dX11_valueEnd_21 : decode cX11_valueEnd 21 = .ok (.aload_n 0, 1) := by decide +kernel
theorem dX11_valueEnd_22 : decode cX11_valueEnd 22 = .ok (.iload_n 1, 1) := by decide +kernel
theorem dX11_valueEnd_23 : decode cX11_valueEnd 23 = .ok (.iconst 3, 1) := by decide +kernel
theorem dX11_valueEnd_24 : decode cX11_valueEnd 24 = .ok (.invokevirtual 171, 3) := by decide +kernel
theorem dX11_valueEnd_27 : decode cX11_valueEnd 27 = .ok (.ireturn, 1) := by decide +kernel
