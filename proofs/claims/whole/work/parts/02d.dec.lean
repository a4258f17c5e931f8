theorem dX9_init_0 : decode cX9_init 0 = .ok (.aload_n 0, 1) := by decide +kernel
theorem dX9_init_1 : decode cX9_init 1 = .ok (.invokespecial 1, 3) := by decide +kernel
theorem dX9_init_4 : decode cX9_init 4 = .ok (.aload_n 0, 1) := by decide +kernel
theorem dX9_init_5 : decode cX9_init 5 = .ok (.bipush 6, 2) := by decide +kernel
theorem dX9_init_7 : decode cX9_init 7 = .ok (.newarray .int, 2) := by decide +kernel
theorem dX9_init_9 : decode cX9_init 9 = .ok (.putfield 7, 3) := by decide +kernel
theorem dX9_init_12 : decode cX9_init 12 = .ok (.aload_n 0, 1) := by decide +kernel
theorem dX9_init_13 : decode cX9_init 13 = .ok (.bipush 6, 2) := by decide +kernel
theorem dX9_init_15 : decode cX9_init 15 = .ok (.newarray .int, 2) := by decide +kernel
theorem dX9_init_17 : decode cX9_init 17 = .ok (.putfield 13, 3) := by decide +kernel
theorem dX9_init_20 : decode cX9_init 20 = .ok (.aload_n 0, 1) := by decide +kernel
theorem dX9_init_21 : decode cX9_init 21 = .ok (.bipush 6, 2) := by decide +kernel
theorem dX9_init_23 : decode cX9_init 23 = .ok (.newarray .int, 2) := by decide +kernel
theorem dX9_init_25 : decode cX9_init 25 = .ok (.putfield 16, 3) := by decide +kernel
theorem dX9_init_28 : decode cX9_init 28 = .ok (.aload_n 0, 1) := by decide +kernel
theorem dX9_init_29 : decode cX9_init 29 = .ok (.bipush 6, 2) := by decide +kernel
theorem dX9_init_31 : decode cX9_init 31 = .ok (.newarray .int, 2) := by decide +kernel
theorem dX9_init_33 : decode cX9_init 33 = .ok (.putfield 19, 3) := by decide +kernel
theorem dX9_init_36 : decode cX9_init 36 = .ok (.aload_n 0, 1) := by decide +kernel
theorem dX9_init_37 : decode cX9_init 37 = .ok (.bipush 32, 2) := by decide +kernel
theorem dX9_init_39 : decode cX9_init 39 = .ok (.newarray .int, 2) := by decide +kernel
theorem dX9_init_41 : decode cX9_init 41 = .ok (.putfield 22, 3) := by decide +kernel
theorem dX9_init_44 : decode cX9_init 44 = .ok (.aload_n 0, 1) := by decide +kernel
theorem dX9_init_45 : decode cX9_init 45 = .ok (.bipush 32, 2) := by decide +kernel
theorem dX9_init_47 : decode cX9_init 47 = .ok (.newarray .int, 2) := by decide +kernel
theorem dX9_init_49 : decode cX9_init 49 = .ok (.putfield 25, 3) := by decide +kernel
theorem dX9_init_52 : decode cX9_init 52 = .ok (.aload_n 0, 1) := by decide +kernel
theorem dX9_init_53 : decode cX9_init 53 = .ok (.bipush 32, 2) := by decide +kernel
theorem dX9_init_55 : decode cX9_init 55 = .ok (.newarray .int, 2) := by decide +kernel
theorem dX9_init_57 : decode cX9_init 57 = .ok (.putfield 28, 3) := by decide +kernel
theorem dX9_init_60 : decode cX9_init 60 = .ok (.aload_n 0, 1) := by decide +kernel
theorem dX9_init_61 : decode cX9_init 61 = .ok (.iconst 4, 1) := by decide +kernel
theorem dX9_init_62 : decode cX9_init 62 = .ok (.newarray .int, 2) := by decide +kernel
theorem dX9_init_64 : decode cX9_init 64 = .ok (.putfield 31, 3) := by decide +kernel
theorem dX9_init_67 : decode cX9_init 67 = .ok (.aload_n 0, 1) := by decide +kernel
theorem dX9_init_68 : decode cX9_init 68 = .ok (.bipush 6, 2) := by decide +kernel
theorem dX9_init_70 : decode cX9_init 70 = .ok (.newarray .int, 2) := by decide +kernel
theorem dX9_init_72 : decode cX9_init 72 = .ok (.putfield 34, 3) := by decide +kernel
theorem dX9_init_75 : decode cX9_init 75 = .ok (.aload_n 0, 1) := by decide +kernel
theorem dX9_init_76 : decode cX9_init 76 = .ok (.bipush 6, 2) := by decide +kernel
theorem dX9_init_78 : decode cX9_init 78 = .ok (.newarray .int, 2) := by decide +kernel
theorem dX9_init_80 : decode cX9_init 80 = .ok (.putfield 37, 3) := by decide +kernel
theorem dX9_init_83 : decode cX9_init 83 = .ok (.aload_n 0, 1) := by decide +kernel
theorem dX9_init_84 : decode cX9_init 84 = .ok (.bipush 6, 2) := by decide +kernel
theorem dX9_init_86 : decode cX9_init 86 = .ok (.newarray .int, 2) := by decide +kernel
theorem dX9_init_88 : decode cX9_init 88 = .ok (.putfield 40, 3) := by decide +kernel
theorem dX9_init_91 : decode cX9_init 91 = .ok (.aload_n 0, 1) := by decide +kernel
theorem dX9_init_92 : decode cX9_init 92 = .ok (.bipush 6, 2) := by decide +kernel
theorem dX9_init_94 : decode cX9_init 94 = .ok (.newarray .int, 2) := by decide +kernel
theorem dX9_init_96 : decode cX9_init 96 = .ok (.putfield 43, 3) := by decide +kernel
theorem dX9_init_99 : decode cX9_init 99 = .ok (.aload_n 0, 1) := by decide +kernel
theorem dX9_init_100 : decode cX9_init 100 = .ok (.bipush 6, 2) := by decide +kernel
theorem dX9_init_102 : decode cX9_init 102 = .ok (.newarray .int, 2) := by decide +kernel
theorem dX9_init_104 : decode cX9_init 104 = .ok (.putfield 46, 3) := by decide +kernel
theorem dX9_init_107 : decode cX9_init 107 = .ok (.aload_n 0, 1) := by decide +kernel
theorem dX9_init_108 : decode cX9_init 108 = .ok (.bipush 6, 2) := by decide +kernel
theorem dX9_init_110 : decode cX9_init 110 = .ok (.newarray .int, 2) := by decide +kernel
theorem dX9_init_112 : decode cX9_init 112 = .ok (.putfield 49, 3) := by decide +kernel
theorem dX9_init_115 : decode cX9_init 115 = .ok (.aload_n 0, 1) := by decide +kernel
theorem dX9_init_116 : decode cX9_init 116 = .ok (.bipush 6, 2) := by decide +kernel
theorem dX9_init_118 : decode cX9_init 118 = .ok (.newarray .int, 2) := by decide +kernel
theorem dX9_init_120 : decode cX9_init 120 = .ok (.putfield 52, 3) := by decide +kernel
theorem dX9_init_123 : decode cX9_init 123 = .ok (.aload_n 0, 1) := by decide +kernel
theorem dX9_init_124 : decode cX9_init 124 = .ok (.bipush 32, 2) := by decide +kernel
theorem dX9_init_126 : decode cX9_init 126 = .ok (.newarray .int, 2) := by decide +kernel
theorem dX9_init_128 : decode cX9_init 128 = .ok (.putfield 55, 3) := by decide +kernel
theorem dX9_init_131 : decode cX9_init 131 = .ok (.aload_n 0, 1) := by decide +kernel
theorem dX9_init_132 : decode cX9_init 132 = .ok (.bipush 32, 2) := by decide +kernel
theorem dX9_init_134 : decode cX9_init 134 = .ok (.newarray .int, 2) := by decide +kernel
theorem dX9_init_136 : decode cX9_init 136 = .ok (.putfield 58, 3) := by decide +kernel
theorem dX9_init_139 : decode cX9_init 139 = .ok (.aload_n 0, 1) := by decide +kernel
theorem dX9_init_140 : decode cX9_init 140 = .ok (.bipush 32, 2) := by decide +kernel
theorem dX9_init_142 : decode cX9_init 142 = .ok (.newarray .int, 2) := by decide +kernel
theorem dX9_init_144 : decode cX9_init 144 = .ok (.putfield 61, 3) := by decide +kernel
theorem dX9_init_147 : decode cX9_init 147 = .ok (.aload_n 0, 1) := by decide +kernel
theorem dX9_init_148 : decode cX9_init 148 = .ok (.iconst 4, 1) := by decide +kernel
theorem dX9_init_149 : decode cX9_init 149 = .ok (.newarray .int, 2) := by decide +kernel
theorem dX9_init_151 : decode cX9_init 151 = .ok (.putfield 64, 3) := by decide +kernel
theorem dX9_init_154 : decode cX9_init 154 = .ok (.aload_n 0, 1) := by decide +kernel
theorem dX9_init_155 : decode cX9_init 155 = .ok (.bipush 60, 2) := by decide +kernel
theorem dX9_init_157 : decode cX9_init 157 = .ok (.newarray .int, 2) := by decide +kernel
theorem dX9_init_159 : decode cX9_init 159 = .ok (.putfield 67, 3) := by decide +kernel
theorem dX9_init_162 : decode cX9_init 162 = .ok (.aload_n 0, 1) := by decide +kernel
theorem dX9_init_163 : decode cX9_init 163 = .ok (.bipush 6, 2) := by decide +kernel
theorem dX9_init_165 : decode cX9_init 165 = .ok (.newarray .int, 2) := by decide +kernel
theorem dX9_init_167 : decode cX9_init 167 = .ok (.putfield 70, 3) := by decide +kernel
theorem dX9_init_170 : decode cX9_init 170 = .ok (.aload_n 0, 1) := by decide +kernel
theorem dX9_init_171 : decode cX9_init 171 = .ok (.iconst 4, 1) := by decide +kernel
theorem dX9_init_172 : decode cX9_init 172 = .ok (.newarray .int, 2) := by decide +kernel
theorem dX9_init_174 : decode cX9_init 174 = .ok (.putfield 73, 3) := by decide +kernel
theorem dX9_init_177 : decode cX9_init 177 = .ok (.aload_n 0, 1) := by decide +kernel
theorem dX9_init_178 : decode cX9_init 178 = .ok (.iconst 4, 1) := by decide +kernel
theorem dX9_init_179 : decode cX9_init 179 = .ok (.newarray .int, 2) := by decide +kernel
theorem dX9_init_181 : decode cX9_init 181 = .ok (.putfield 76, 3) := by decide +kernel
theorem dX9_init_184 : decode cX9_init 184 = .ok (.aload_n 0, 1) := by decide +kernel
theorem dX9_init_185 : decode cX9_init 185 = .ok (.sipush 241, 3) := by decide +kernel
theorem dX9_init_188 : decode cX9_init 188 = .ok (.newarray .int, 2) := by decide +kernel
theorem dX9_init_190 : decode cX9_init 190 = .ok (.putfield 79, 3) := by decide +kernel
theorem dX9_init_193 : decode cX9_init 193 = .ok (.aload_n 0, 1) := by decide +kernel
theorem dX9_init_194 : decode cX9_init 194 = .ok (.sipush 360, 3) := by decide +kernel
theorem dX9_init_197 : decode cX9_init 197 = .ok (.newarray .int, 2) := by decide +kernel
theorem dX9_init_199 : decode cX9_init 199 = .ok (.putfield 82, 3) := by decide +kernel
theorem dX9_init_202 : decode cX9_init 202 = .ok (.aload_n 0, 1) := by decide +kernel
theorem dX9_init_203 : decode cX9_init 203 = .ok (.iconst 2, 1) := by decide +kernel
theorem dX9_init_204 : decode cX9_init 204 = .ok (.newarray .boolean, 2) := by decide +kernel
theorem dX9_init_206 : decode cX9_init 206 = .ok (.putfield 85, 3) := by decide +kernel
theorem dX9_init_209 : decode cX9_init 209 = .ok (.aload_n 0, 1) := by decide +kernel
theorem dX9_init_210 : decode cX9_init 210 = .ok (.iconst 1, 1) := by decide +kernel
theorem dX9_init_211 : decode cX9_init 211 = .ok (.putfield 89, 3) := by decide +kernel
theorem dX9_init_214 : decode cX9_init 214 = .ok (.iconst 0, 1) := by decide +kernel
theorem dX9_init_215 : decode cX9_init 215 = .ok (.istore_n 1, 1) := by decide +kernel
theorem dX9_init_216 : decode cX9_init 216 = .ok (.iload_n 1, 1) := by decide +kernel
theorem dX9_init_217 : decode cX9_init 217 = .ok (.bipush 6, 2) := by decide +kernel
theorem dX9_init_219 : decode cX9_init 219 = .ok (.if_icmp .ge 24, 3) := by decide +kernel
theorem dX9_init_222 : decode cX9_init 222 = .ok (.aload_n 0, 1) := by decide +kernel
theorem dX9_init_223 : decode cX9_init 223 = .ok (.getfield 7, 3) := by decide +kernel
theorem dX9_init_226 : decode cX9_init 226 = .ok (.iload_n 1, 1) := by decide +kernel
theorem dX9_init_227 : decode cX9_init 227 = .ok (.bipush 10, 2) := by decide +kernel
theorem dX9_init_229 : decode cX9_init 229 = .ok (.iastore, 1) := by decide +kernel
theorem dX9_init_230 : decode cX9_init 230 = .ok (.aload_n 0, 1) := by decide +kernel
theorem dX9_init_231 : decode cX9_init 231 = .ok (.getfield 13, 3) := by decide +kernel
theorem dX9_init_234 : decode cX9_init 234 = .ok (.iload_n 1, 1) := by decide +kernel
theorem dX9_init_235 : decode cX9_init 235 = .ok (.iconst 5, 1) := by decide +kernel
theorem dX9_init_236 : decode cX9_init 236 = .ok (.iastore, 1) := by decide +kernel
theorem dX9_init_237 : decode cX9_init 237 = .ok (.iinc 1 1, 3) := by decide +kernel
theorem dX9_init_240 : decode cX9_init 240 = .ok (.goto (-24), 3) := by decide +kernel
theorem dX9_init_243 : decode cX9_init 243 = .ok (.return_, 1) := by decide +kernel
theorem dX9_in_0 : decode cX9_in 0 = .ok (.lload_n 0, 1) := by decide +kernel
theorem dX9_in_1 : decode cX9_in 1 = .ok (.lload_n 2, 1) := by decide +kernel
theorem dX9_in_2 : decode cX9_in 2 = .ok (.lcmp, 1) := by decide +kernel
theorem dX9_in_3 : decode cX9_in 3 = .ok (.ifCond .lt 14, 3) := by decide +kernel
theorem dX9_in_6 : decode cX9_in 6 = .ok (.lload_n 0, 1) := by decide +kernel
theorem dX9_in_7 : decode cX9_in 7 = .ok (.lload 4, 2) := by decide +kernel
theorem dX9_in_9 : decode cX9_in 9 = .ok (.lcmp, 1) := by decide +kernel
theorem dX9_in_10 : decode cX9_in 10 = .ok (.ifCond .gt 7, 3) := by decide +kernel
theorem dX9_in_13 : decode cX9_in 13 = .ok (.iconst 1, 1) := by decide +kernel
theorem dX9_in_14 : decode cX9_in 14 = .ok (.goto 4, 3) := by decide +kernel
theorem dX9_in_17 : decode cX9_in 17 = .ok (.iconst 0, 1) := by decide +kernel
theorem dX9_in_18 : decode cX9_in 18 = .ok (.ireturn, 1) := by decide +kernel
theorem dX9_isMonk_0 : decode cX9_isMonk 0 = .ok (.iload_n 0, 1) := by decide +kernel
theorem dX9_isMonk_1 : decode cX9_isMonk 1 = .ok (.i2l, 1) := by decide +kernel
theorem dX9_isMonk_2 : decode cX9_isMonk 2 = .ok (.lconst 0, 1) := by decide +kernel
theorem dX9_isMonk_3 : decode cX9_isMonk 3 = .ok (.ldc2_w 93, 3) := by decide +kernel
theorem dX9_isMonk_6 : decode cX9_isMonk 6 = .ok (.invokestatic 95, 3) := by decide +kernel
theorem dX9_isMonk_9 : decode cX9_isMonk 9 = .ok (.ireturn, 1) := by decide +kernel
theorem dX9_isRope_0 : decode cX9_isRope 0 = .ok (.iload_n 0, 1) := by decide +kernel
theorem dX9_isRope_1 : decode cX9_isRope 1 = .ok (.i2l, 1) := by decide +kernel
theorem dX9_isRope_2 : decode cX9_isRope 2 = .ok (.lconst 0, 1) := by decide +kernel
theorem dX9_isRope_3 : decode cX9_isRope 3 = .ok (.ldc2_w 99, 3) := by decide +kernel
theorem dX9_isRope_6 : decode cX9_isRope 6 = .ok (.invokestatic 95, 3) := by decide +kernel
theorem dX9_isRope_9 : decode cX9_isRope 9 = .ok (.ireturn, 1) := by decide +kernel
theorem dX9_layNow_0 : decode cX9_layNow 0 = .ok (.iconst 0, 1) := by decide +kernel
theorem dX9_layNow_1 : decode cX9_layNow 1 = .ok (.istore_n 1, 1) := by decide +kernel
theorem dX9_layNow_2 : decode cX9_layNow 2 = .ok (.iload_n 1, 1) := by decide +kernel
theorem dX9_layNow_3 : decode cX9_layNow 3 = .ok (.bipush 6, 2) := by decide +kernel
theorem dX9_layNow_5 : decode cX9_layNow 5 = .ok (.if_icmp .ge 45, 3) := by decide +kernel
theorem dX9_layNow_8 : decode cX9_layNow 8 = .ok (.aload_n 0, 1) := by decide +kernel
theorem dX9_layNow_9 : decode cX9_layNow 9 = .ok (.getfield 46, 3) := by decide +kernel
theorem dX9_layNow_12 : decode cX9_layNow 12 = .ok (.iload_n 1, 1) := by decide +kernel
theorem dX9_layNow_13 : decode cX9_layNow 13 = .ok (.aload_n 0, 1) := by decide +kernel
theorem dX9_layNow_14 : decode cX9_layNow 14 = .ok (.getfield 7, 3) := by decide +kernel
theorem dX9_layNow_17 : decode cX9_layNow 17 = .ok (.iload_n 1, 1) := by decide +kernel
theorem dX9_layNow_18 : decode cX9_layNow 18 = .ok (.iaload, 1) := by decide +kernel
theorem dX9_layNow_19 : decode cX9_layNow 19 = .ok (.iastore, 1) := by decide +kernel
theorem dX9_layNow_20 : decode cX9_layNow 20 = .ok (.aload_n 0, 1) := by decide +kernel
theorem dX9_layNow_21 : decode cX9_layNow 21 = .ok (.getfield 49, 3) := by decide +kernel
theorem dX9_layNow_24 : decode cX9_layNow 24 = .ok (.iload_n 1, 1) := by decide +kernel
theorem dX9_layNow_25 : decode cX9_layNow 25 = .ok (.aload_n 0, 1) := by decide +kernel
theorem dX9_layNow_26 : decode cX9_layNow 26 = .ok (.getfield 16, 3) := by decide +kernel
theorem dX9_layNow_29 : decode cX9_layNow 29 = .ok (.iload_n 1, 1) := by decide +kernel
theorem dX9_layNow_30 : decode cX9_layNow 30 = .ok (.iaload, 1) := by decide +kernel
theorem dX9_layNow_31 : decode cX9_layNow 31 = .ok (.iastore, 1) := by decide +kernel
theorem dX9_layNow_32 : decode cX9_layNow 32 = .ok (.aload_n 0, 1) := by decide +kernel
theorem dX9_layNow_33 : decode cX9_layNow 33 = .ok (.getfield 52, 3) := by decide +kernel
theorem dX9_layNow_36 : decode cX9_layNow 36 = .ok (.iload_n 1, 1) := by decide +kernel
theorem dX9_layNow_37 : decode cX9_layNow 37 = .ok (.aload_n 0, 1) := by decide +kernel
theorem dX9_layNow_38 : decode cX9_layNow 38 = .ok (.getfield 19, 3) := by decide +kernel
theorem dX9_layNow_41 : decode cX9_layNow 41 = .ok (.iload_n 1, 1) := by decide +kernel
theorem dX9_layNow_42 : decode cX9_layNow 42 = .ok (.iaload, 1) := by decide +kernel
theorem dX9_layNow_43 : decode cX9_layNow 43 = .ok (.iastore, 1) := by decide +kernel
theorem dX9_layNow_44 : decode cX9_layNow 44 = .ok (.iinc 1 1, 3) := by decide +kernel
theorem dX9_layNow_47 : decode cX9_layNow 47 = .ok (.goto (-45), 3) := by decide +kernel
theorem dX9_layNow_50 : decode cX9_layNow 50 = .ok (.iconst 0, 1) := by decide +kernel
theorem dX9_layNow_51 : decode cX9_layNow 51 = .ok (.istore_n 1, 1) := by decide +kernel
theorem dX9_layNow_52 : decode cX9_layNow 52 = .ok (.iload_n 1, 1) := by decide +kernel
theorem dX9_layNow_53 : decode cX9_layNow 53 = .ok (.bipush 32, 2) := by decide +kernel
theorem dX9_layNow_55 : decode cX9_layNow 55 = .ok (.if_icmp .ge 45, 3) := by decide +kernel
theorem dX9_layNow_58 : decode cX9_layNow 58 = .ok (.aload_n 0, 1) := by decide +kernel
theorem dX9_layNow_59 : decode cX9_layNow 59 = .ok (.getfield 55, 3) := by decide +kernel
theorem dX9_layNow_62 : decode cX9_layNow 62 = .ok (.iload_n 1, 1) := by decide +kernel
theorem dX9_layNow_63 : decode cX9_layNow 63 = .ok (.aload_n 0, 1) := by decide +kernel
theorem dX9_layNow_64 : decode cX9_layNow 64 = .ok (.getfield 22, 3) := by decide +kernel
theorem dX9_layNow_67 : decode cX9_layNow 67 = .ok (.iload_n 1, 1) := by decide +kernel
theorem dX9_layNow_68 : decode cX9_layNow 68 = .ok (.iaload, 1) := by decide +kernel
theorem dX9_layNow_69 : decode cX9_layNow 69 = .ok (.iastore, 1) := by decide +kernel
theorem dX9_layNow_70 : decode cX9_layNow 70 = .ok (.aload_n 0, 1) := by decide +kernel
theorem dX9_layNow_71 : decode cX9_layNow 71 = .ok (.getfield 58, 3) := by decide +kernel
theorem dX9_layNow_74 : decode cX9_layNow 74 = .ok (.iload_n 1, 1) := by decide +kernel
theorem dX9_layNow_75 : decode cX9_layNow 75 = .ok (.aload_n 0, 1) := by decide +kernel
theorem dX9_layNow_76 : decode cX9_layNow 76 = .ok (.getfield 25, 3) := by decide +kernel
theorem dX9_layNow_79 : decode cX9_layNow 79 = .ok (.iload_n 1, 1) := by decide +kernel
theorem dX9_layNow_80 : decode cX9_layNow 80 = .ok (.iaload, 1) := by decide +kernel
theorem dX9_layNow_81 : decode cX9_layNow 81 = .ok (.iastore, 1) := by decide +kernel
theorem dX9_layNow_82 : decode cX9_layNow 82 = .ok (.aload_n 0, 1) := by decide +kernel
theorem dX9_layNow_83 : decode cX9_layNow 83 = .ok (.getfield 61, 3) := by decide +kernel
theorem dX9_layNow_86 : decode cX9_layNow 86 = .ok (.iload_n 1, 1) := by decide +kernel
theorem dX9_layNow_87 : decode cX9_layNow 87 = .ok (.aload_n 0, 1) := by decide +kernel
theorem dX9_layNow_88 : decode cX9_layNow 88 = .ok (.getfield 28, 3) := by decide +kernel
theorem dX9_layNow_91 : decode cX9_layNow 91 = .ok (.iload_n 1, 1) := by decide +kernel
theorem dX9_layNow_92 : decode cX9_layNow 92 = .ok (.iaload, 1) := by decide +kernel
theorem dX9_layNow_93 : decode cX9_layNow 93 = .ok (.iastore, 1) := by decide +kernel
theorem dX9_layNow_94 : decode cX9_layNow 94 = .ok (.iinc 1 1, 3) := by decide +kernel
theorem dX9_layNow_97 : decode cX9_layNow 97 = .ok (.goto (-45), 3) := by decide +kernel
theorem dX9_layNow_100 : decode cX9_layNow 100 = .ok (.iconst 0, 1) := by decide +kernel
theorem dX9_layNow_101 : decode cX9_layNow 101 = .ok (.istore_n 1, 1) := by decide +kernel
theorem dX9_layNow_102 : decode cX9_layNow 102 = .ok (.iload_n 1, 1) := by decide +kernel
theorem dX9_layNow_103 : decode cX9_layNow 103 = .ok (.iconst 4, 1) := by decide +kernel
theorem dX9_layNow_104 : decode cX9_layNow 104 = .ok (.if_icmp .ge 21, 3) := by decide +kernel
theorem dX9_layNow_107 : decode cX9_layNow 107 = .ok (.aload_n 0, 1) := by decide +kernel
theorem dX9_layNow_108 : decode cX9_layNow 108 = .ok (.getfield 64, 3) := by decide +kernel
theorem dX9_layNow_111 : decode cX9_layNow 111 = .ok (.iload_n 1, 1) := by decide +kernel
theorem dX9_layNow_112 : decode cX9_layNow 112 = .ok (.aload_n 0, 1) := by decide +kernel
theorem dX9_layNow_113 : decode cX9_layNow 113 = .ok (.getfield 31, 3) := by decide +kernel
theorem dX9_layNow_116 : decode cX9_layNow 116 = .ok (.iload_n 1, 1) := by decide +kernel
theorem dX9_layNow_117 : decode cX9_layNow 117 = .ok (.iaload, 1) := by decide +kernel
theorem dX9_layNow_118 : decode cX9_layNow 118 = .ok (.iastore, 1) := by decide +kernel
theorem dX9_layNow_119 : decode cX9_layNow 119 = .ok (.iinc 1 1, 3) := by decide +kernel
theorem dX9_layNow_122 : decode cX9_layNow 122 = .ok (.goto (-20), 3) := by decide +kernel
theorem dX9_layNow_125 : decode cX9_layNow 125 = .ok (.aload_n 0, 1) := by decide +kernel
theorem dX9_layNow_126 : decode cX9_layNow 126 = .ok (.aload_n 0, 1) := by decide +kernel
theorem dX9_layNow_127 : decode cX9_layNow 127 = .ok (.getfield 101, 3) := by decide +kernel
theorem dX9_layNow_130 : decode cX9_layNow 130 = .ok (.putfield 104, 3) := by decide +kernel
theorem dX9_layNow_133 : decode cX9_layNow 133 = .ok (.return_, 1) := by decide +kernel
theorem dX9_keepTried_0 : decode cX9_keepTried 0 = .ok (.iconst 0, 1) := by decide +kernel
theorem dX9_keepTried_1 : decode cX9_keepTried 1 = .ok (.istore_n 1, 1) := by decide +kernel
theorem dX9_keepTried_2 : decode cX9_keepTried 2 = .ok (.iload_n 1, 1) := by decide +kernel
theorem dX9_keepTried_3 : decode cX9_keepTried 3 = .ok (.bipush 6, 2) := by decide +kernel
theorem dX9_keepTried_5 : decode cX9_keepTried 5 = .ok (.if_icmp .ge 45, 3) := by decide +kernel
theorem dX9_keepTried_8 : decode cX9_keepTried 8 = .ok (.aload_n 0, 1) := by decide +kernel
theorem dX9_keepTried_9 : decode cX9_keepTried 9 = .ok (.getfield 7, 3) := by decide +kernel
theorem dX9_keepTried_12 : decode cX9_keepTried 12 = .ok (.iload_n 1, 1) := by decide +kernel
theorem dX9_keepTried_13 : decode cX9_keepTried 13 = .ok (.aload_n 0, 1) := by decide +kernel
theorem dX9_keepTried_14 : decode cX9_keepTried 14 = .ok (.getfield 46, 3) := by decide +kernel
theorem dX9_keepTried_17 : decode cX9_keepTried 17 = .ok (.iload_n 1, 1) := by decide +kernel
theorem dX9_keepTried_18 : decode cX9_keepTried 18 = .ok (.iaload, 1) := by decide +kernel
theorem dX9_keepTried_19 : decode cX9_keepTried 19 = .ok (.iastore, 1) := by decide +kernel
theorem dX9_keepTried_20 : decode cX9_keepTried 20 = .ok (.aload_n 0, 1) := by decide +kernel
theorem dX9_keepTried_21 : decode cX9_keepTried 21 = .ok (.getfield 16, 3) := by decide +kernel
theorem dX9_keepTried_24 : decode cX9_keepTried 24 = .ok (.iload_n 1, 1) := by decide +kernel
theorem dX9_keepTried_25 : decode cX9_keepTried 25 = .ok (.aload_n 0, 1) := by decide +kernel
theorem dX9_keepTried_26 : decode cX9_keepTried 26 = .ok (.getfield 49, 3) := by decide +kernel
theorem dX9_keepTried_29 : decode cX9_keepTried 29 = .ok (.iload_n 1, 1) := by decide +kernel
theorem dX9_keepTried_30 : decode cX9_keepTried 30 = .ok (.iaload, 1) := by decide +kernel
theorem dX9_keepTried_31 : decode cX9_keepTried 31 = .ok (.iastore, 1) := by decide +kernel
theorem dX9_keepTried_32 : decode cX9_keepTried 32 = .ok (.aload_n 0, 1) := by decide +kernel
theorem dX9_keepTried_33 : decode cX9_keepTried 33 = .ok (.getfield 19, 3) := by decide +kernel
theorem dX9_keepTried_36 : decode cX9_keepTried 36 = .ok (.iload_n 1, 1) := by decide +kernel
theorem dX9_keepTried_37 : decode cX9_keepTried 37 = .ok (.aload_n 0, 1) := by decide +kernel
theorem dX9_keepTried_38 : decode cX9_keepTried 38 = .ok (.getfield 52, 3) := by decide +kernel
theorem dX9_keepTried_41 : decode cX9_keepTried 41 = .ok (.iload_n 1, 1) := by decide +kernel
theorem dX9_keepTried_42 : decode cX9_keepTried 42 = .ok (.iaload, 1) := by decide +kernel
theorem dX9_keepTried_43 : decode cX9_keepTried 43 = .ok (.iastore, 1) := by decide +kernel
theorem dX9_keepTried_44 : decode cX9_keepTried 44 = .ok (.iinc 1 1, 3) := by decide +kernel
theorem dX9_keepTried_47 : decode cX9_keepTried 47 = .ok (.goto (-45), 3) := by decide +kernel
theorem dX9_keepTried_50 : decode cX9_keepTried 50 = .ok (.iconst 0, 1) := by decide +kernel
theorem dX9_keepTried_51 : decode cX9_keepTried 51 = .ok (.istore_n 1, 1) := by decide +kernel
theorem dX9_keepTried_52 : decode cX9_keepTried 52 = .ok (.iload_n 1, 1) := by decide +kernel
theorem dX9_keepTried_53 : decode cX9_keepTried 53 = .ok (.bipush 32, 2) := by decide +kernel
theorem dX9_keepTried_55 : decode cX9_keepTried 55 = .ok (.if_icmp .ge 45, 3) := by decide +kernel
theorem dX9_keepTried_58 : decode cX9_keepTried 58 = .ok (.aload_n 0, 1) := by decide +kernel
theorem dX9_keepTried_59 : decode cX9_keepTried 59 = .ok (.getfield 22, 3) := by decide +kernel
theorem dX9_keepTried_62 : decode cX9_keepTried 62 = .ok (.iload_n 1, 1) := by decide +kernel
theorem dX9_keepTried_63 : decode cX9_keepTried 63 = .ok (.aload_n 0, 1) := by decide +kernel
theorem dX9_keepTried_64 : decode cX9_keepTried 64 = .ok (.getfield 55, 3) := by decide +kernel
theorem dX9_keepTried_67 : decode cX9_keepTried 67 = .ok (.iload_n 1, 1) := by decide +kernel
theorem dX9_keepTried_68 : decode cX9_keepTried 68 = .ok (.iaload, 1) := by decide +kernel
theorem dX9_keepTried_69 : decode cX9_keepTried 69 = .ok (.iastore, 1) := by decide +kernel
theorem dX9_keepTried_70 : decode cX9_keepTried 70 = .ok (.aload_n 0, 1) := by decide +kernel
theorem dX9_keepTried_71 : decode cX9_keepTried 71 = .ok (.getfield 25, 3) := by decide +kernel
theorem dX9_keepTried_74 : decode cX9_keepTried 74 = .ok (.iload_n 1, 1) := by decide +kernel
theorem dX9_keepTried_75 : decode cX9_keepTried 75 = .ok (.aload_n 0, 1) := by decide +kernel
theorem dX9_keepTried_76 : decode cX9_keepTried 76 = .ok (.getfield 58, 3) := by decide +kernel
theorem dX9_keepTried_79 : decode cX9_keepTried 79 = .ok (.iload_n 1, 1) := by decide +kernel
theorem dX9_keepTried_80 : decode cX9_keepTried 80 = .ok (.iaload, 1) := by decide +kernel
theorem dX9_keepTried_81 : decode cX9_keepTried 81 = .ok (.iastore, 1) := by decide +kernel
theorem dX9_keepTried_82 : decode cX9_keepTried 82 = .ok (.aload_n 0, 1) := by decide +kernel
theorem dX9_keepTried_83 : decode cX9_keepTried 83 = .ok (.getfield 28, 3) := by decide +kernel
theorem dX9_keepTried_86 : decode cX9_keepTried 86 = .ok (.iload_n 1, 1) := by decide +kernel
theorem dX9_keepTried_87 : decode cX9_keepTried 87 = .ok (.aload_n 0, 1) := by decide +kernel
theorem dX9_keepTried_88 : decode cX9_keepTried 88 = .ok (.getfield 61, 3) := by decide +kernel
theorem dX9_keepTried_91 : decode cX9_keepTried 91 = .ok (.iload_n 1, 1) := by decide +kernel
theorem dX9_keepTried_92 : decode cX9_keepTried 92 = .ok (.iaload, 1) := by decide +kernel
theorem dX9_keepTried_93 : decode cX9_keepTried 93 = .ok (.iastore, 1) := by decide +kernel
theorem dX9_keepTried_94 : decode cX9_keepTried 94 = .ok (.iinc 1 1, 3) := by decide +kernel
theorem dX9_keepTried_97 : decode cX9_keepTried 97 = .ok (.goto (-45), 3) := by decide +kernel
theorem dX9_keepTried_100 : decode cX9_keepTried 100 = .ok (.iconst 0, 1) := by decide +kernel
theorem dX9_keepTried_101 : decode cX9_keepTried 101 = .ok (.istore_n 1, 1) := by decide +kernel
theorem dX9_keepTried_102 : decode cX9_keepTried 102 = .ok (.iload_n 1, 1) := by decide +kernel
theorem dX9_keepTried_103 : decode cX9_keepTried 103 = .ok (.iconst 4, 1) := by decide +kernel
theorem dX9_keepTried_104 : decode cX9_keepTried 104 = .ok (.if_icmp .ge 21, 3) := by decide +kernel
theorem dX9_keepTried_107 : decode cX9_keepTried 107 = .ok (.aload_n 0, 1) := by decide +kernel
theorem dX9_keepTried_108 : decode cX9_keepTried 108 = .ok (.getfield 31, 3) := by decide +kernel
theorem dX9_keepTried_111 : decode cX9_keepTried 111 = .ok (.iload_n 1, 1) := by decide +kernel
theorem dX9_keepTried_112 : decode cX9_keepTried 112 = .ok (.aload_n 0, 1) := by decide +kernel
theorem dX9_keepTried_113 : decode cX9_keepTried 113 = .ok (.getfield 64, 3) := by decide +kernel
theorem dX9_keepTried_116 : decode cX9_keepTried 116 = .ok (.iload_n 1, 1) := by decide +kernel
theorem dX9_keepTried_117 : decode cX9_keepTried 117 = .ok (.iaload, 1) := by decide +kernel
theorem dX9_keepTried_118 : decode cX9_keepTried 118 = .ok (.iastore, 1) := by decide +kernel
theorem dX9_keepTried_119 : decode cX9_keepTried 119 = .ok (.iinc 1 1, 3) := by decide +kernel
theorem dX9_keepTried_122 : decode cX9_keepTried 122 = .ok (.goto (-20), 3) := by decide +kernel
theorem dX9_keepTried_125 : decode cX9_keepTried 125 = .ok (.aload_n 0, 1) := by decide +kernel
theorem dX9_keepTried_126 : decode cX9_keepTried 126 = .ok (.aload_n 0, 1) := by decide +kernel
theorem dX9_keepTried_127 : decode cX9_keepTried 127 = .ok (.getfield 104, 3) := by decide +kernel
theorem dX9_keepTried_130 : decode cX9_keepTried 130 = .ok (.putfield 101, 3) := by decide +kernel
theorem dX9_keepTried_133 : decode cX9_keepTried 133 = .ok (.return_, 1) := by decide +kernel
theorem dX9_dropFirst_0 : decode cX9_dropFirst 0 = .ok (.aload_n 0, 1) := by decide +kernel
theorem dX9_dropFirst_1 : decode cX9_dropFirst 1 = .ok (.getfield 64, 3) := by decide +kernel
theorem dX9_dropFirst_4 : decode cX9_dropFirst 4 = .ok (.iload_n 1, 1) := by decide +kernel
theorem dX9_dropFirst_5 : decode cX9_dropFirst 5 = .ok (.dup2, 1) := by decide +kernel
theorem dX9_dropFirst_6 : decode cX9_dropFirst 6 = .ok (.iaload, 1) := by decide +kernel
theorem dX9_dropFirst_7 : decode cX9_dropFirst 7 = .ok (.iconst 1, 1) := by decide +kernel
theorem dX9_dropFirst_8 : decode cX9_dropFirst 8 = .ok (.isub, 1) := by decide +kernel
theorem dX9_dropFirst_9 : decode cX9_dropFirst 9 = .ok (.iastore, 1) := by decide +kernel
theorem dX9_dropFirst_10 : decode cX9_dropFirst 10 = .ok (.bipush 8, 2) := by decide +kernel
theorem dX9_dropFirst_12 : decode cX9_dropFirst 12 = .ok (.iload_n 1, 1) := by decide +kernel
theorem dX9_dropFirst_13 : decode cX9_dropFirst 13 = .ok (.imul, 1) := by decide +kernel
theorem dX9_dropFirst_14 : decode cX9_dropFirst 14 = .ok (.istore_n 2, 1) := by decide +kernel
theorem dX9_dropFirst_15 : decode cX9_dropFirst 15 = .ok (.iload_n 2, 1) := by decide +kernel
theorem dX9_dropFirst_16 : decode cX9_dropFirst 16 = .ok (.bipush 8, 2) := by decide +kernel
theorem dX9_dropFirst_18 : decode cX9_dropFirst 18 = .ok (.iload_n 1, 1) := by decide +kernel
theorem dX9_dropFirst_19 : decode cX9_dropFirst 19 = .ok (.imul, 1) := by decide +kernel
theorem dX9_dropFirst_20 : decode cX9_dropFirst 20 = .ok (.aload_n 0, 1) := by decide +kernel
theorem dX9_dropFirst_21 : decode cX9_dropFirst 21 = .ok (.getfield 64, 3) := by decide +kernel
theorem dX9_dropFirst_24 : decode cX9_dropFirst 24 = .ok (.iload_n 1, 1) := by decide +kernel
theorem dX9_dropFirst_25 : decode cX9_dropFirst 25 = .ok (.iaload, 1) := by decide +kernel
theorem dX9_dropFirst_26 : decode cX9_dropFirst 26 = .ok (.iadd, 1) := by decide +kernel
theorem dX9_dropFirst_27 : decode cX9_dropFirst 27 = .ok (.if_icmp .ge 51, 3) := by decide +kernel
theorem dX9_dropFirst_30 : decode cX9_dropFirst 30 = .ok (.aload_n 0, 1) := by decide +kernel
theorem dX9_dropFirst_31 : decode cX9_dropFirst 31 = .ok (.getfield 55, 3) := by decide +kernel
theorem dX9_dropFirst_34 : decode cX9_dropFirst 34 = .ok (.iload_n 2, 1) := by decide +kernel
theorem dX9_dropFirst_35 : decode cX9_dropFirst 35 = .ok (.aload_n 0, 1) := by decide +kernel
theorem dX9_dropFirst_36 : decode cX9_dropFirst 36 = .ok (.getfield 55, 3) := by decide +kernel
theorem dX9_dropFirst_39 : decode cX9_dropFirst 39 = .ok (.iload_n 2, 1) := by decide +kernel
theorem dX9_dropFirst_40 : decode cX9_dropFirst 40 = .ok (.iconst 1, 1) := by decide +kernel
theorem dX9_dropFirst_41 : decode cX9_dropFirst 41 = .ok (.iadd, 1) := by decide +kernel
theorem dX9_dropFirst_42 : decode cX9_dropFirst 42 = .ok (.iaload, 1) := by decide +kernel
theorem dX9_dropFirst_43 : decode cX9_dropFirst 43 = .ok (.iastore, 1) := by decide +kernel
theorem dX9_dropFirst_44 : decode cX9_dropFirst 44 = .ok (.aload_n 0, 1) := by decide +kernel
theorem dX9_dropFirst_45 : decode cX9_dropFirst 45 = .ok (.getfield 58, 3) := by decide +kernel
theorem dX9_dropFirst_48 : decode cX9_dropFirst 48 = .ok (.iload_n 2, 1) := by decide +kernel
theorem dX9_dropFirst_49 : decode cX9_dropFirst 49 = .ok (.aload_n 0, 1) := by decide +kernel
theorem dX9_dropFirst_50 : decode cX9_dropFirst 50 = .ok (.getfield 58, 3) := by decide +kernel
theorem dX9_dropFirst_53 : decode cX9_dropFirst 53 = .ok (.iload_n 2, 1) := by decide +kernel
theorem dX9_dropFirst_54 : decode cX9_dropFirst 54 = .ok (.iconst 1, 1) := by decide +kernel
theorem dX9_dropFirst_55 : decode cX9_dropFirst 55 = .ok (.iadd, 1) := by decide +kernel
theorem dX9_dropFirst_56 : decode cX9_dropFirst 56 = .ok (.iaload, 1) := by decide +kernel
theorem dX9_dropFirst_57 : decode cX9_dropFirst 57 = .ok (.iastore, 1) := by decide +kernel
theorem dX9_dropFirst_58 : decode cX9_dropFirst 58 = .ok (.aload_n 0, 1) := by decide +kernel
theorem dX9_dropFirst_59 : decode cX9_dropFirst 59 = .ok (.getfield 61, 3) := by decide +kernel
theorem dX9_dropFirst_62 : decode cX9_dropFirst 62 = .ok (.iload_n 2, 1) := by decide +kernel
theorem dX9_dropFirst_63 : decode cX9_dropFirst 63 = .ok (.aload_n 0, 1) := by decide +kernel
theorem dX9_dropFirst_64 : decode cX9_dropFirst 64 = .ok (.getfield 61, 3) := by decide +kernel
theorem dX9_dropFirst_67 : decode cX9_dropFirst 67 = .ok (.iload_n 2, 1) := by decide +kernel
theorem dX9_dropFirst_68 : decode cX9_dropFirst 68 = .ok (.iconst 1, 1) := by decide +kernel
theorem dX9_dropFirst_69 : decode cX9_dropFirst 69 = .ok (.iadd, 1) := by decide +kernel
theorem dX9_dropFirst_70 : decode cX9_dropFirst 70 = .ok (.iaload, 1) := by decide +kernel
theorem dX9_dropFirst_71 : decode cX9_dropFirst 71 = .ok (.iastore, 1) := by decide +kernel
theorem dX9_dropFirst_72 : decode cX9_dropFirst 72 = .ok (.iinc 2 1, 3) := by decide +kernel
theorem dX9_dropFirst_75 : decode cX9_dropFirst 75 = .ok (.goto (-60), 3) := by decide +kernel
theorem dX9_dropFirst_78 : decode cX9_dropFirst 78 = .ok (.return_, 1) := by decide +kernel
theorem dX9_lose_0 : decode cX9_lose 0 = .ok (.iconst 0, 1) := by decide +kernel
theorem dX9_lose_1 : decode cX9_lose 1 = .ok (.istore_n 2, 1) := by decide +kernel
theorem dX9_lose_2 : decode cX9_lose 2 = .ok (.iload_n 2, 1) := by decide +kernel
theorem dX9_lose_3 : decode cX9_lose 3 = .ok (.iconst 4, 1) := by decide +kernel
theorem dX9_lose_4 : decode cX9_lose 4 = .ok (.if_icmp .ge 106, 3) := by decide +kernel
theorem dX9_lose_7 : decode cX9_lose 7 = .ok (.iload_n 1, 1) := by decide +kernel
theorem dX9_lose_8 : decode cX9_lose 8 = .ok (.istore_n 3, 1) := by decide +kernel
theorem dX9_lose_9 : decode cX9_lose 9 = .ok (.iload_n 3, 1) := by decide +kernel
theorem dX9_lose_10 : decode cX9_lose 10 = .ok (.ifCond .le 94, 3) := by decide +kernel
theorem dX9_lose_13 : decode cX9_lose 13 = .ok (.aload_n 0, 1) := by decide +kernel
theorem dX9_lose_14 : decode cX9_lose 14 = .ok (.getfield 64, 3) := by decide +kernel
theorem dX9_lose_17 : decode cX9_lose 17 = .ok (.iload_n 2, 1) := by decide +kernel
theorem dX9_lose_18 : decode cX9_lose 18 = .ok (.iaload, 1) := by decide +kernel
theorem dX9_lose_19 : decode cX9_lose 19 = .ok (.ifCond .le 85, 3) := by decide +kernel
theorem dX9_lose_22 : decode cX9_lose 22 = .ok (.bipush 8, 2) := by decide +kernel
theorem dX9_lose_24 : decode cX9_lose 24 = .ok (.iload_n 2, 1) := by decide +kernel
theorem dX9_lose_25 : decode cX9_lose 25 = .ok (.imul, 1) := by decide +kernel
theorem dX9_lose_26 : decode cX9_lose 26 = .ok (.istore 4, 2) := by decide +kernel
theorem dX9_lose_28 : decode cX9_lose 28 = .ok (.aload_n 0, 1) := by decide +kernel
theorem dX9_lose_29 : decode cX9_lose 29 = .ok (.getfield 58, 3) := by decide +kernel
theorem dX9_lose_32 : decode cX9_lose 32 = .ok (.iload 4, 2) := by decide +kernel
theorem dX9_lose_34 : decode cX9_lose 34 = .ok (.iaload, 1) := by decide +kernel
theorem dX9_lose_35 : decode cX9_lose 35 = .ok (.iload_n 3, 1) := by decide +kernel
theorem dX9_lose_36 : decode cX9_lose 36 = .ok (.if_icmp .ge 13, 3) := by decide +kernel
theorem dX9_lose_39 : decode cX9_lose 39 = .ok (.aload_n 0, 1) := by decide +kernel
theorem dX9_lose_40 : decode cX9_lose 40 = .ok (.getfield 58, 3) := by decide +kernel
theorem dX9_lose_43 : decode cX9_lose 43 = .ok (.iload 4, 2) := by decide +kernel
theorem dX9_lose_45 : decode cX9_lose 45 = .ok (.iaload, 1) := by decide +kernel
theorem dX9_lose_46 : decode cX9_lose 46 = .ok (.goto 4, 3) := by decide +kernel
theorem dX9_lose_49 : decode cX9_lose 49 = .ok (.iload_n 3, 1) := by decide +kernel
theorem dX9_lose_50 : decode cX9_lose 50 = .ok (.istore 5, 2) := by decide +kernel
theorem dX9_lose_52 : decode cX9_lose 52 = .ok (.iload_n 3, 1) := by decide +kernel
theorem dX9_lose_53 : decode cX9_lose 53 = .ok (.iload 5, 2) := by decide +kernel
theorem dX9_lose_55 : decode cX9_lose 55 = .ok (.isub, 1) := by decide +kernel
theorem dX9_lose_56 : decode cX9_lose 56 = .ok (.istore_n 3, 1) := by decide +kernel
theorem dX9_lose_57 : decode cX9_lose 57 = .ok (.aload_n 0, 1) := by decide +kernel
theorem dX9_lose_58 : decode cX9_lose 58 = .ok (.getfield 52, 3) := by decide +kernel
theorem dX9_lose_61 : decode cX9_lose 61 = .ok (.aload_n 0, 1) := by decide +kernel
theorem dX9_lose_62 : decode cX9_lose 62 = .ok (.getfield 55, 3) := by decide +kernel
theorem dX9_lose_65 : decode cX9_lose 65 = .ok (.iload 4, 2) := by decide +kernel
theorem dX9_lose_67 : decode cX9_lose 67 = .ok (.iaload, 1) := by decide +kernel
theorem dX9_lose_68 : decode cX9_lose 68 = .ok (.dup2, 1) := by decide +kernel
theorem dX9_lose_69 : decode cX9_lose 69 = .ok (.iaload, 1) := by decide +kernel
theorem dX9_lose_70 : decode cX9_lose 70 = .ok (.iload 5, 2) := by decide +kernel
theorem dX9_lose_72 : decode cX9_lose 72 = .ok (.iadd, 1) := by decide +kernel
theorem dX9_lose_73 : decode cX9_lose 73 = .ok (.iastore, 1) := by decide +kernel
theorem dX9_lose_74 : decode cX9_lose 74 = .ok (.aload_n 0, 1) := by decide +kernel
theorem dX9_lose_75 : decode cX9_lose 75 = .ok (.getfield 58, 3) := by decide +kernel
theorem dX9_lose_78 : decode cX9_lose 78 = .ok (.iload 4, 2) := by decide +kernel
theorem dX9_lose_80 : decode cX9_lose 80 = .ok (.dup2, 1) := by decide +kernel
theorem dX9_lose_81 : decode cX9_lose 81 = .ok (.iaload, 1) := by decide +kernel
theorem dX9_lose_82 : decode cX9_lose 82 = .ok (.iload 5, 2) := by decide +kernel
theorem dX9_lose_84 : decode cX9_lose 84 = .ok (.isub, 1) := by decide +kernel
theorem dX9_lose_85 : decode cX9_lose 85 = .ok (.iastore, 1) := by decide +kernel
theorem dX9_lose_86 : decode cX9_lose 86 = .ok (.aload_n 0, 1) := by decide +kernel
theorem dX9_lose_87 : decode cX9_lose 87 = .ok (.getfield 58, 3) := by decide +kernel
theorem dX9_lose_90 : decode cX9_lose 90 = .ok (.iload 4, 2) := by decide +kernel
theorem dX9_lose_92 : decode cX9_lose 92 = .ok (.iaload, 1) := by decide +kernel
theorem dX9_lose_93 : decode cX9_lose 93 = .ok (.ifCond .ne 8, 3) := by decide +kernel
theorem dX9_lose_96 : decode cX9_lose 96 = .ok (.aload_n 0, 1) := by decide +kernel
theorem dX9_lose_97 : decode cX9_lose 97 = .ok (.iload_n 2, 1) := by decide +kernel
theorem dX9_lose_98 : decode cX9_lose 98 = .ok (.invokevirtual 107, 3) := by decide +kernel
theorem dX9_lose_101 : decode cX9_lose 101 = .ok (.goto (-92), 3) := by decide +kernel
theorem dX9_lose_104 : decode cX9_lose 104 = .ok (.iinc 2 1, 3) := by decide +kernel
theorem dX9_lose_107 : decode cX9_lose 107 = .ok (.goto (-105), 3) := by decide +kernel
theorem dX9_lose_110 : decode cX9_lose 110 = .ok (.return_, 1) := by decide +kernel
theorem dX9_goWeek_0 : decode cX9_goWeek 0 = .ok (.aload_n 0, 1) := by decide +kernel
theorem dX9_goWeek_1 : decode cX9_goWeek 1 = .ok (.aload_n 0, 1) := by decide +kernel
theorem dX9_goWeek_2 : decode cX9_goWeek 2 = .ok (.getfield 89, 3) := by decide +kernel
theorem dX9_goWeek_5 : decode cX9_goWeek 5 = .ok (.invokevirtual 111, 3) := by decide +kernel
theorem dX9_goWeek_8 : decode cX9_goWeek 8 = .ok (.aload_n 0, 1) := by decide +kernel
theorem dX9_goWeek_9 : decode cX9_goWeek 9 = .ok (.dup, 1) := by decide +kernel
theorem dX9_goWeek_10 : decode cX9_goWeek 10 = .ok (.getfield 104, 3) := by decide +kernel
theorem dX9_goWeek_13 : decode cX9_goWeek 13 = .ok (.iconst 1, 1) := by decide +kernel
theorem dX9_goWeek_14 : decode cX9_goWeek 14 = .ok (.iadd, 1) := by decide +kernel
theorem dX9_goWeek_15 : decode cX9_goWeek 15 = .ok (.putfield 104, 3) := by decide +kernel
theorem dX9_goWeek_18 : decode cX9_goWeek 18 = .ok (.return_, 1) := by decide +kernel
theorem dX9_weave_0 : decode cX9_weave 0 = .ok (.bipush 8, 2) := by decide +kernel
theorem dX9_weave_2 : decode cX9_weave 2 = .ok (.iload_n 2, 1) := by decide +kernel
theorem dX9_weave_3 : decode cX9_weave 3 = .ok (.imul, 1) := by decide +kernel
theorem dX9_weave_4 : decode cX9_weave 4 = .ok (.aload_n 0, 1) := by decide +kernel
theorem dX9_weave_5 : decode cX9_weave 5 = .ok (.getfield 64, 3) := by decide +kernel
theorem dX9_weave_8 : decode cX9_weave 8 = .ok (.iload_n 2, 1) := by decide +kernel
theorem dX9_weave_9 : decode cX9_weave 9 = .ok (.iaload, 1) := by decide +kernel
theorem dX9_weave_10 : decode cX9_weave 10 = .ok (.iadd, 1) := by decide +kernel
theorem dX9_weave_11 : decode cX9_weave 11 = .ok (.istore_n 3, 1) := by decide +kernel
theorem dX9_weave_12 : decode cX9_weave 12 = .ok (.aload_n 0, 1) := by decide +kernel
theorem dX9_weave_13 : decode cX9_weave 13 = .ok (.getfield 55, 3) := by decide +kernel
theorem dX9_weave_16 : decode cX9_weave 16 = .ok (.iload_n 3, 1) := by decide +kernel
theorem dX9_weave_17 : decode cX9_weave 17 = .ok (.iload_n 1, 1) := by decide +kernel
theorem dX9_weave_18 : decode cX9_weave 18 = .ok (.iastore, 1) := by decide +kernel
theorem dX9_weave_19 : decode cX9_weave 19 = .ok (.aload_n 0, 1) := by decide +kernel
theorem dX9_weave_20 : decode cX9_weave 20 = .ok (.getfield 58, 3) := by decide +kernel
theorem dX9_weave_23 : decode cX9_weave 23 = .ok (.iload_n 3, 1) := by decide +kernel
theorem dX9_weave_24 : decode cX9_weave 24 = .ok (.aload_n 0, 1) := by decide +kernel
theorem dX9_weave_25 : decode cX9_weave 25 = .ok (.getfield 49, 3) := by decide +kernel
theorem dX9_weave_28 : decode cX9_weave 28 = .ok (.iload_n 1, 1) := by decide +kernel
theorem dX9_weave_29 : decode cX9_weave 29 = .ok (.iaload, 1) := by decide +kernel
theorem dX9_weave_30 : decode cX9_weave 30 = .ok (.iastore, 1) := by decide +kernel
theorem dX9_weave_31 : decode cX9_weave 31 = .ok (.aload_n 0, 1) := by decide +kernel
theorem dX9_weave_32 : decode cX9_weave 32 = .ok (.getfield 61, 3) := by decide +kernel
theorem dX9_weave_35 : decode cX9_weave 35 = .ok (.iload_n 3, 1) := by decide +kernel
theorem dX9_weave_36 : decode cX9_weave 36 = .ok (.aload_n 0, 1) := by decide +kernel
theorem dX9_weave_37 : decode cX9_weave 37 = .ok (.getfield 104, 3) := by decide +kernel
theorem dX9_weave_40 : decode cX9_weave 40 = .ok (.iastore, 1) := by decide +kernel
theorem dX9_weave_41 : decode cX9_weave 41 = .ok (.aload_n 0, 1) := by decide +kernel
theorem dX9_weave_42 : decode cX9_weave 42 = .ok (.getfield 64, 3) := by decide +kernel
theorem dX9_weave_45 : decode cX9_weave 45 = .ok (.iload_n 2, 1) := by decide +kernel
theorem dX9_weave_46 : decode cX9_weave 46 = .ok (.dup2, 1) := by decide +kernel
theorem dX9_weave_47 : decode cX9_weave 47 = .ok (.iaload, 1) := by decide +kernel
theorem dX9_weave_48 : decode cX9_weave 48 = .ok (.iconst 1, 1) := by decide +kernel
theorem dX9_weave_49 : decode cX9_weave 49 = .ok (.iadd, 1) := by decide +kernel
theorem dX9_weave_50 : decode cX9_weave 50 = .ok (.iastore, 1) := by decide +kernel
theorem dX9_weave_51 : decode cX9_weave 51 = .ok (.aload_n 0, 1) := by decide +kernel
theorem dX9_weave_52 : decode cX9_weave 52 = .ok (.getfield 49, 3) := by decide +kernel
theorem dX9_weave_55 : decode cX9_weave 55 = .ok (.iload_n 1, 1) := by decide +kernel
theorem dX9_weave_56 : decode cX9_weave 56 = .ok (.iconst 0, 1) := by decide +kernel
theorem dX9_weave_57 : decode cX9_weave 57 = .ok (.iastore, 1) := by decide +kernel
theorem dX9_weave_58 : decode cX9_weave 58 = .ok (.return_, 1) := by decide +kernel
theorem dX9_powerOf_0 : decode cX9_powerOf 0 = .ok (.iconst 0, 1) := by decide +kernel
theorem dX9_powerOf_1 : decode cX9_powerOf 1 = .ok (.istore_n 2, 1) := by decide +kernel
theorem dX9_powerOf_2 : decode cX9_powerOf 2 = .ok (.bipush 8, 2) := by decide +kernel
theorem dX9_powerOf_4 : decode cX9_powerOf 4 = .ok (.iload_n 1, 1) := by decide +kernel
theorem dX9_powerOf_5 : decode cX9_powerOf 5 = .ok (.imul, 1) := by decide +kernel
theorem dX9_powerOf_6 : decode cX9_powerOf 6 = .ok (.istore_n 3, 1) := by decide +kernel
theorem dX9_powerOf_7 : decode cX9_powerOf 7 = .ok (.iload_n 3, 1) := by decide +kernel
theorem dX9_powerOf_8 : decode cX9_powerOf 8 = .ok (.bipush 8, 2) := by decide +kernel
theorem dX9_powerOf_10 : decode cX9_powerOf 10 = .ok (.iload_n 1, 1) := by decide +kernel
theorem dX9_powerOf_11 : decode cX9_powerOf 11 = .ok (.imul, 1) := by decide +kernel
theorem dX9_powerOf_12 : decode cX9_powerOf 12 = .ok (.aload_n 0, 1) := by decide +kernel
theorem dX9_powerOf_13 : decode cX9_powerOf 13 = .ok (.getfield 64, 3) := by decide +kernel
theorem dX9_powerOf_16 : decode cX9_powerOf 16 = .ok (.iload_n 1, 1) := by decide +kernel
theorem dX9_powerOf_17 : decode cX9_powerOf 17 = .ok (.iaload, 1) := by decide +kernel
theorem dX9_powerOf_18 : decode cX9_powerOf 18 = .ok (.iadd, 1) := by decide +kernel
theorem dX9_powerOf_19 : decode cX9_powerOf 19 = .ok (.if_icmp .ge 30, 3) := by decide +kernel
theorem dX9_powerOf_22 : decode cX9_powerOf 22 = .ok (.iload_n 2, 1) := by decide +kernel
theorem dX9_powerOf_23 : decode cX9_powerOf 23 = .ok (.aload_n 0, 1) := by decide +kernel
theorem dX9_powerOf_24 : decode cX9_powerOf 24 = .ok (.getfield 58, 3) := by decide +kernel
theorem dX9_powerOf_27 : decode cX9_powerOf 27 = .ok (.iload_n 3, 1) := by decide +kernel
theorem dX9_powerOf_28 : decode cX9_powerOf 28 = .ok (.iaload, 1) := by decide +kernel
theorem dX9_powerOf_29 : decode cX9_powerOf 29 = .ok (.aload_n 0, 1) := by decide +kernel
theorem dX9_powerOf_30 : decode cX9_powerOf 30 = .ok (.getfield 13, 3) := by decide +kernel
theorem dX9_powerOf_33 : decode cX9_powerOf 33 = .ok (.aload_n 0, 1) := by decide +kernel
theorem dX9_powerOf_34 : decode cX9_powerOf 34 = .ok (.getfield 55, 3) := by decide +kernel
theorem dX9_powerOf_37 : decode cX9_powerOf 37 = .ok (.iload_n 3, 1) := by decide +kernel
theorem dX9_powerOf_38 : decode cX9_powerOf 38 = .ok (.iaload, 1) := by decide +kernel
theorem dX9_powerOf_39 : decode cX9_powerOf 39 = .ok (.iaload, 1) := by decide +kernel
theorem dX9_powerOf_40 : decode cX9_powerOf 40 = .ok (.imul, 1) := by decide +kernel
theorem dX9_powerOf_41 : decode cX9_powerOf 41 = .ok (.iadd, 1) := by decide +kernel
theorem dX9_powerOf_42 : decode cX9_powerOf 42 = .ok (.istore_n 2, 1) := by decide +kernel
theorem dX9_powerOf_43 : decode cX9_powerOf 43 = .ok (.iinc 3 1, 3) := by decide +kernel
theorem dX9_powerOf_46 : decode cX9_powerOf 46 = .ok (.goto (-39), 3) := by decide +kernel
theorem dX9_powerOf_49 : decode cX9_powerOf 49 = .ok (.iload_n 2, 1) := by decide +kernel
theorem dX9_powerOf_50 : decode cX9_powerOf 50 = .ok (.ireturn, 1) := by decide +kernel
theorem dX9_borne_0 : decode cX9_borne 0 = .ok (.iconst 0, 1) := by decide +kernel
theorem dX9_borne_1 : decode cX9_borne 1 = .ok (.istore_n 1, 1) := by decide +kernel
theorem dX9_borne_2 : decode cX9_borne 2 = .ok (.iconst 0, 1) := by decide +kernel
theorem dX9_borne_3 : decode cX9_borne 3 = .ok (.istore_n 2, 1) := by decide +kernel
theorem dX9_borne_4 : decode cX9_borne 4 = .ok (.iload_n 2, 1) := by decide +kernel
theorem dX9_borne_5 : decode cX9_borne 5 = .ok (.iconst 4, 1) := by decide +kernel
theorem dX9_borne_6 : decode cX9_borne 6 = .ok (.if_icmp .ge 70, 3) := by decide +kernel
theorem dX9_borne_9 : decode cX9_borne 9 = .ok (.aload_n 0, 1) := by decide +kernel
theorem dX9_borne_10 : decode cX9_borne 10 = .ok (.iload_n 2, 1) := by decide +kernel
theorem dX9_borne_11 : decode cX9_borne 11 = .ok (.invokevirtual 114, 3) := by decide +kernel
theorem dX9_borne_14 : decode cX9_borne 14 = .ok (.istore_n 3, 1) := by decide +kernel
theorem dX9_borne_15 : decode cX9_borne 15 = .ok (.iconst 0, 1) := by decide +kernel
theorem dX9_borne_16 : decode cX9_borne 16 = .ok (.istore 4, 2) := by decide +kernel
theorem dX9_borne_18 : decode cX9_borne 18 = .ok (.iconst 0, 1) := by decide +kernel
theorem dX9_borne_19 : decode cX9_borne 19 = .ok (.istore 5, 2) := by decide +kernel
theorem dX9_borne_21 : decode cX9_borne 21 = .ok (.iload 5, 2) := by decide +kernel
theorem dX9_borne_23 : decode cX9_borne 23 = .ok (.iconst 4, 1) := by decide +kernel
theorem dX9_borne_24 : decode cX9_borne 24 = .ok (.if_icmp .ge 29, 3) := by decide +kernel
theorem dX9_borne_27 : decode cX9_borne 27 = .ok (.iload 4, 2) := by decide +kernel
theorem dX9_borne_29 : decode cX9_borne 29 = .ok (.aload_n 0, 1) := by decide +kernel
theorem dX9_borne_30 : decode cX9_borne 30 = .ok (.iload 5, 2) := by decide +kernel
theorem dX9_borne_32 : decode cX9_borne 32 = .ok (.invokevirtual 114, 3) := by decide +kernel
theorem dX9_borne_35 : decode cX9_borne 35 = .ok (.iload_n 3, 1) := by decide +kernel
theorem dX9_borne_36 : decode cX9_borne 36 = .ok (.if_icmp .lt 7, 3) := by decide +kernel
theorem dX9_borne_39 : decode cX9_borne 39 = .ok (.iconst 1, 1) := by decide +kernel
theorem dX9_borne_40 : decode cX9_borne 40 = .ok (.goto 4, 3) := by decide +kernel
theorem dX9_borne_43 : decode cX9_borne 43 = .ok (.iconst 0, 1) := by decide +kernel
theorem dX9_borne_44 : decode cX9_borne 44 = .ok (.iadd, 1) := by decide +kernel
theorem dX9_borne_45 : decode cX9_borne 45 = .ok (.istore 4, 2) := by decide +kernel
theorem dX9_borne_47 : decode cX9_borne 47 = .ok (.iinc 5 1, 3) := by decide +kernel
theorem dX9_borne_50 : decode cX9_borne 50 = .ok (.goto (-29), 3) := by decide +kernel
theorem dX9_borne_53 : decode cX9_borne 53 = .ok (.iload_n 3, 1) := by decide +kernel
theorem dX9_borne_54 : decode cX9_borne 54 = .ok (.iload 4, 2) := by decide +kernel
theorem dX9_borne_56 : decode cX9_borne 56 = .ok (.imul, 1) := by decide +kernel
theorem dX9_borne_57 : decode cX9_borne 57 = .ok (.iload_n 1, 1) := by decide +kernel
theorem dX9_borne_58 : decode cX9_borne 58 = .ok (.if_icmp .le 10, 3) := by decide +kernel
theorem dX9_borne_61 : decode cX9_borne 61 = .ok (.iload_n 3, 1) := by decide +kernel
theorem dX9_borne_62 : decode cX9_borne 62 = .ok (.iload 4, 2) := by decide +kernel
theorem dX9_borne_64 : decode cX9_borne 64 = .ok (.imul, 1) := by decide +kernel
theorem dX9_borne_65 : decode cX9_borne 65 = .ok (.goto 4, 3) := by decide +kernel
theorem dX9_borne_68 : decode cX9_borne 68 = .ok (.iload_n 1, 1) := by decide +kernel
theorem dX9_borne_69 : decode cX9_borne 69 = .ok (.istore_n 1, 1) := by decide +kernel
theorem dX9_borne_70 : decode cX9_borne 70 = .ok (.iinc 2 1, 3) := by decide +kernel
theorem dX9_borne_73 : decode cX9_borne 73 = .ok (.goto (-69), 3) := by decide +kernel
theorem dX9_borne_76 : decode cX9_borne 76 = .ok (.iload_n 1, 1) := by decide +kernel
theorem dX9_borne_77 : decode cX9_borne 77 = .ok (.ireturn, 1) := by decide +kernel
theorem dX9_monk_0 : decode cX9_monk 0 = .ok (.iload_n 1, 1) := by decide +kernel
theorem dX9_monk_1 : decode cX9_monk 1 = .ok (.invokestatic 118, 3) := by decide +kernel
theorem dX9_monk_4 : decode cX9_monk 4 = .ok (.ifCond .ne 5, 3) := by decide +kernel
theorem dX9_monk_7 : decode cX9_monk 7 = .ok (.iconst (-1), 1) := by decide +kernel
theorem dX9_monk_8 : decode cX9_monk 8 = .ok (.ireturn, 1) := by decide +kernel
theorem dX9_monk_9 : decode cX9_monk 9 = .ok (.iload_n 2, 1) := by decide +kernel
theorem dX9_monk_10 : decode cX9_monk 10 = .ok (.i2l, 1) := by decide +kernel
theorem dX9_monk_11 : decode cX9_monk 11 = .ok (.lconst 0, 1) := by decide +kernel
theorem dX9_monk_12 : decode cX9_monk 12 = .ok (.lconst 1, 1) := by decide +kernel
theorem dX9_monk_13 : decode cX9_monk 13 = .ok (.invokestatic 95, 3) := by decide +kernel
theorem dX9_monk_16 : decode cX9_monk 16 = .ok (.ifCond .eq 25, 3) := by decide +kernel
theorem dX9_monk_19 : decode cX9_monk 19 = .ok (.iload_n 3, 1) := by decide +kernel
theorem dX9_monk_20 : decode cX9_monk 20 = .ok (.i2l, 1) := by decide +kernel
theorem dX9_monk_21 : decode cX9_monk 21 = .ok (.lconst 0, 1) := by decide +kernel
theorem dX9_monk_22 : decode cX9_monk 22 = .ok (.iload_n 2, 1) := by decide +kernel
theorem dX9_monk_23 : decode cX9_monk 23 = .ok (.ifCond .ne 9, 3) := by decide +kernel
theorem dX9_monk_26 : decode cX9_monk 26 = .ok (.ldc2_w 122, 3) := by decide +kernel
theorem dX9_monk_29 : decode cX9_monk 29 = .ok (.goto 6, 3) := by decide +kernel
theorem dX9_monk_32 : decode cX9_monk 32 = .ok (.ldc2_w 124, 3) := by decide +kernel
theorem dX9_monk_35 : decode cX9_monk 35 = .ok (.invokestatic 95, 3) := by decide +kernel
theorem dX9_monk_38 : decode cX9_monk 38 = .ok (.ifCond .ne 6, 3) := by decide +kernel
theorem dX9_monk_41 : decode cX9_monk 41 = .ok (.bipush (-2), 2) := by decide +kernel
theorem dX9_monk_43 : decode cX9_monk 43 = .ok (.ireturn, 1) := by decide +kernel
theorem dX9_monk_44 : decode cX9_monk 44 = .ok (.iload_n 2, 1) := by decide +kernel
theorem dX9_monk_45 : decode cX9_monk 45 = .ok (.ifCond .ne 12, 3) := by decide +kernel
theorem dX9_monk_48 : decode cX9_monk 48 = .ok (.aload_n 0, 1) := by decide +kernel
theorem dX9_monk_49 : decode cX9_monk 49 = .ok (.getfield 7, 3) := by decide +kernel
theorem dX9_monk_52 : decode cX9_monk 52 = .ok (.iload_n 1, 1) := by decide +kernel
theorem dX9_monk_53 : decode cX9_monk 53 = .ok (.iaload, 1) := by decide +kernel
theorem dX9_monk_54 : decode cX9_monk 54 = .ok (.goto 9, 3) := by decide +kernel
theorem dX9_monk_57 : decode cX9_monk 57 = .ok (.aload_n 0, 1) := by decide +kernel
theorem dX9_monk_58 : decode cX9_monk 58 = .ok (.getfield 13, 3) := by decide +kernel
theorem dX9_monk_61 : decode cX9_monk 61 = .ok (.iload_n 1, 1) := by decide +kernel
theorem dX9_monk_62 : decode cX9_monk 62 = .ok (.iaload, 1) := by decide +kernel
theorem dX9_monk_63 : decode cX9_monk 63 = .ok (.istore 4, 2) := by decide +kernel
theorem dX9_monk_65 : decode cX9_monk 65 = .ok (.aload_n 0, 1) := by decide +kernel
theorem dX9_monk_66 : decode cX9_monk 66 = .ok (.getfield 7, 3) := by decide +kernel
theorem dX9_monk_69 : decode cX9_monk 69 = .ok (.iload_n 1, 1) := by decide +kernel
theorem dX9_monk_70 : decode cX9_monk 70 = .ok (.iload_n 2, 1) := by decide +kernel
theorem dX9_monk_71 : decode cX9_monk 71 = .ok (.ifCond .ne 7, 3) := by decide +kernel
theorem dX9_monk_74 : decode cX9_monk 74 = .ok (.iload_n 3, 1) := by decide +kernel
theorem dX9_monk_75 : decode cX9_monk 75 = .ok (.goto 9, 3) := by decide +kernel
theorem dX9_monk_78 : decode cX9_monk 78 = .ok (.aload_n 0, 1) := by decide +kernel
theorem dX9_monk_79 : decode cX9_monk 79 = .ok (.getfield 7, 3) := by decide +kernel
theorem dX9_monk_82 : decode cX9_monk 82 = .ok (.iload_n 1, 1) := by decide +kernel
theorem dX9_monk_83 : decode cX9_monk 83 = .ok (.iaload, 1) := by decide +kernel
theorem dX9_monk_84 : decode cX9_monk 84 = .ok (.iastore, 1) := by decide +kernel
theorem dX9_monk_85 : decode cX9_monk 85 = .ok (.aload_n 0, 1) := by decide +kernel
theorem dX9_monk_86 : decode cX9_monk 86 = .ok (.getfield 13, 3) := by decide +kernel
theorem dX9_monk_89 : decode cX9_monk 89 = .ok (.iload_n 1, 1) := by decide +kernel
theorem dX9_monk_90 : decode cX9_monk 90 = .ok (.iload_n 2, 1) := by decide +kernel
theorem dX9_monk_91 : decode cX9_monk 91 = .ok (.iconst 1, 1) := by decide +kernel
theorem dX9_monk_92 : decode cX9_monk 92 = .ok (.if_icmp .ne 7, 3) := by decide +kernel
theorem dX9_monk_95 : decode cX9_monk 95 = .ok (.iload_n 3, 1) := by decide +kernel
theorem dX9_monk_96 : decode cX9_monk 96 = .ok (.goto 9, 3) := by decide +kernel
theorem dX9_monk_99 : decode cX9_monk 99 = .ok (.aload_n 0, 1) := by decide +kernel
theorem dX9_monk_100 : decode cX9_monk 100 = .ok (.getfield 13, 3) := by decide +kernel
theorem dX9_monk_103 : decode cX9_monk 103 = .ok (.iload_n 1, 1) := by decide +kernel
theorem dX9_monk_104 : decode cX9_monk 104 = .ok (.iaload, 1) := by decide +kernel
theorem dX9_monk_105 : decode cX9_monk 105 = .ok (.iastore, 1) := by decide +kernel
theorem dX9_monk_106 : decode cX9_monk 106 = .ok (.iload 4, 2) := by decide +kernel
theorem dX9_monk_108 : decode cX9_monk 108 = .ok (.ireturn, 1) := by decide +kernel
theorem dX9_wear_0 : decode cX9_wear 0 = .ok (.iload_n 1, 1) := by decide +kernel
theorem dX9_wear_1 : decode cX9_wear 1 = .ok (.i2l, 1) := by decide +kernel
theorem dX9_wear_2 : decode cX9_wear 2 = .ok (.lconst 0, 1) := by decide +kernel
theorem dX9_wear_3 : decode cX9_wear 3 = .ok (.ldc2_w 124, 3) := by decide +kernel
theorem dX9_wear_6 : decode cX9_wear 6 = .ok (.invokestatic 95, 3) := by decide +kernel
theorem dX9_wear_9 : decode cX9_wear 9 = .ok (.ifCond .ne 6, 3) := by decide +kernel
theorem dX9_wear_12 : decode cX9_wear 12 = .ok (.bipush (-2), 2) := by decide +kernel
theorem dX9_wear_14 : decode cX9_wear 14 = .ok (.ireturn, 1) := by decide +kernel
theorem dX9_wear_15 : decode cX9_wear 15 = .ok (.aload_n 0, 1) := by decide +kernel
theorem dX9_wear_16 : decode cX9_wear 16 = .ok (.getfield 89, 3) := by decide +kernel
theorem dX9_wear_19 : decode cX9_wear 19 = .ok (.istore_n 2, 1) := by decide +kernel
theorem dX9_wear_20 : decode cX9_wear 20 = .ok (.aload_n 0, 1) := by decide +kernel
theorem dX9_wear_21 : decode cX9_wear 21 = .ok (.iload_n 1, 1) := by decide +kernel
theorem dX9_wear_22 : decode cX9_wear 22 = .ok (.putfield 89, 3) := by decide +kernel
theorem dX9_wear_25 : decode cX9_wear 25 = .ok (.iload_n 2, 1) := by decide +kernel
theorem dX9_wear_26 : decode cX9_wear 26 = .ok (.ireturn, 1) := by decide +kernel
theorem dX9_say_0 : decode cX9_say 0 = .ok (.iload_n 1, 1) := by decide +kernel
theorem dX9_say_1 : decode cX9_say 1 = .ok (.i2l, 1) := by decide +kernel
theorem dX9_say_2 : decode cX9_say 2 = .ok (.ldc2_w 126, 3) := by decide +kernel
theorem dX9_say_5 : decode cX9_say 5 = .ok (.ldc2_w 128, 3) := by decide +kernel
theorem dX9_say_8 : decode cX9_say 8 = .ok (.invokestatic 95, 3) := by decide +kernel
theorem dX9_say_11 : decode cX9_say 11 = .ok (.ifCond .ne 6, 3) := by decide +kernel
theorem dX9_say_14 : decode cX9_say 14 = .ok (.bipush (-2), 2) := by decide +kernel
theorem dX9_say_16 : decode cX9_say 16 = .ok (.ireturn, 1) := by decide +kernel
theorem dX9_say_17 : decode cX9_say 17 = .ok (.aload_n 0, 1) := by decide +kernel
theorem dX9_say_18 : decode cX9_say 18 = .ok (.getfield 130, 3) := by decide +kernel
theorem dX9_say_21 : decode cX9_say 21 = .ok (.bipush 60, 2) := by decide +kernel
theorem dX9_say_23 : decode cX9_say 23 = .ok (.if_icmp .ne 6, 3) := by decide +kernel
theorem dX9_say_26 : decode cX9_say 26 = .ok (.bipush (-4), 2) := by decide +kernel
theorem dX9_say_28 : decode cX9_say 28 = .ok (.ireturn, 1) := by decide +kernel
theorem dX9_say_29 : decode cX9_say 29 = .ok (.aload_n 0, 1) := by decide +kernel
theorem dX9_say_30 : decode cX9_say 30 = .ok (.getfield 67, 3) := by decide +kernel
theorem dX9_say_33 : decode cX9_say 33 = .ok (.aload_n 0, 1) := by decide +kernel
theorem dX9_say_34 : decode cX9_say 34 = .ok (.getfield 130, 3) := by decide +kernel
theorem dX9_say_37 : decode cX9_say 37 = .ok (.iload_n 1, 1) := by decide +kernel
theorem dX9_say_38 : decode cX9_say 38 = .ok (.iastore, 1) := by decide +kernel
theorem dX9_say_39 : decode cX9_say 39 = .ok (.aload_n 0, 1) := by decide +kernel
theorem dX9_say_40 : decode cX9_say 40 = .ok (.dup, 1) := by decide +kernel
theorem dX9_say_41 : decode cX9_say 41 = .ok (.getfield 130, 3) := by decide +kernel
theorem dX9_say_44 : decode cX9_say 44 = .ok (.iconst 1, 1) := by decide +kernel
theorem dX9_say_45 : decode cX9_say 45 = .ok (.iadd, 1) := by decide +kernel
theorem dX9_say_46 : decode cX9_say 46 = .ok (.putfield 130, 3) := by decide +kernel
theorem dX9_say_49 : decode cX9_say 49 = .ok (.aload_n 0, 1) := by decide +kernel
theorem dX9_say_50 : decode cX9_say 50 = .ok (.getfield 130, 3) := by decide +kernel
theorem dX9_say_53 : decode cX9_say 53 = .ok (.ireturn, 1) := by decide +kernel
theorem dX9_wipe_0 : decode cX9_wipe 0 = .ok (.aload_n 0, 1) := by decide +kernel
theorem dX9_wipe_1 : decode cX9_wipe 1 = .ok (.getfield 130, 3) := by decide +kernel
theorem dX9_wipe_4 : decode cX9_wipe 4 = .ok (.istore_n 1, 1) := by decide +kernel
theorem dX9_wipe_5 : decode cX9_wipe 5 = .ok (.aload_n 0, 1) := by decide +kernel
theorem dX9_wipe_6 : decode cX9_wipe 6 = .ok (.iconst 0, 1) := by decide +kernel
theorem dX9_wipe_7 : decode cX9_wipe 7 = .ok (.putfield 130, 3) := by decide +kernel
theorem dX9_wipe_10 : decode cX9_wipe 10 = .ok (.iload_n 1, 1) := by decide +kernel
theorem dX9_wipe_11 : decode cX9_wipe 11 = .ok (.ireturn, 1) := by decide +kernel
theorem dX9_fault_0 : decode cX9_fault 0 = .ok (.iconst 0, 1) := by decide +kernel
theorem dX9_fault_1 : decode cX9_fault 1 = .ok (.istore_n 1, 1) := by decide +kernel
theorem dX9_fault_2 : decode cX9_fault 2 = .ok (.iconst 0, 1) := by decide +kernel
theorem dX9_fault_3 : decode cX9_fault 3 = .ok (.istore_n 2, 1) := by decide +kernel
theorem dX9_fault_4 : decode cX9_fault 4 = .ok (.iload_n 2, 1) := by decide +kernel
theorem dX9_fault_5 : decode cX9_fault 5 = .ok (.aload_n 0, 1) := by decide +kernel
theorem dX9_fault_6 : decode cX9_fault 6 = .ok (.getfield 130, 3) := by decide +kernel
theorem dX9_fault_9 : decode cX9_fault 9 = .ok (.if_icmp .ge 116, 3) := by decide +kernel
theorem dX9_fault_12 : decode cX9_fault 12 = .ok (.aload_n 0, 1) := by decide +kernel
theorem dX9_fault_13 : decode cX9_fault 13 = .ok (.getfield 67, 3) := by decide +kernel
theorem dX9_fault_16 : decode cX9_fault 16 = .ok (.iload_n 2, 1) := by decide +kernel
theorem dX9_fault_17 : decode cX9_fault 17 = .ok (.iaload, 1) := by decide +kernel
theorem dX9_fault_18 : decode cX9_fault 18 = .ok (.istore_n 3, 1) := by decide +kernel
theorem dX9_fault_19 : decode cX9_fault 19 = .ok (.iload_n 1, 1) := by decide +kernel
theorem dX9_fault_20 : decode cX9_fault 20 = .ok (.ifCond .ne 22, 3) := by decide +kernel
theorem dX9_fault_23 : decode cX9_fault 23 = .ok (.iload_n 3, 1) := by decide +kernel
theorem dX9_fault_24 : decode cX9_fault 24 = .ok (.i2l, 1) := by decide +kernel
theorem dX9_fault_25 : decode cX9_fault 25 = .ok (.ldc2_w 133, 3) := by decide +kernel
theorem dX9_fault_28 : decode cX9_fault 28 = .ok (.ldc2_w 135, 3) := by decide +kernel
theorem dX9_fault_31 : decode cX9_fault 31 = .ok (.invokestatic 95, 3) := by decide +kernel
theorem dX9_fault_34 : decode cX9_fault 34 = .ok (.ifCond .eq 8, 3) := by decide +kernel
theorem dX9_fault_37 : decode cX9_fault 37 = .ok (.iconst 1, 1) := by decide +kernel
theorem dX9_fault_38 : decode cX9_fault 38 = .ok (.istore_n 1, 1) := by decide +kernel
theorem dX9_fault_39 : decode cX9_fault 39 = .ok (.goto 80, 3) := by decide +kernel
theorem dX9_fault_42 : decode cX9_fault 42 = .ok (.iload_n 1, 1) := by decide +kernel
theorem dX9_fault_43 : decode cX9_fault 43 = .ok (.iconst 1, 1) := by decide +kernel
theorem dX9_fault_44 : decode cX9_fault 44 = .ok (.if_icmp .ne 20, 3) := by decide +kernel
theorem dX9_fault_47 : decode cX9_fault 47 = .ok (.iload_n 3, 1) := by decide +kernel
theorem dX9_fault_48 : decode cX9_fault 48 = .ok (.bipush 43, 2) := by decide +kernel
theorem dX9_fault_50 : decode cX9_fault 50 = .ok (.if_icmp .eq 9, 3) := by decide +kernel
theorem dX9_fault_53 : decode cX9_fault 53 = .ok (.iload_n 3, 1) := by decide +kernel
theorem dX9_fault_54 : decode cX9_fault 54 = .ok (.bipush 45, 2) := by decide +kernel
theorem dX9_fault_56 : decode cX9_fault 56 = .ok (.if_icmp .ne 8, 3) := by decide +kernel
theorem dX9_fault_59 : decode cX9_fault 59 = .ok (.iconst 2, 1) := by decide +kernel
theorem dX9_fault_60 : decode cX9_fault 60 = .ok (.istore_n 1, 1) := by decide +kernel
theorem dX9_fault_61 : decode cX9_fault 61 = .ok (.goto 58, 3) := by decide +kernel
theorem dX9_fault_64 : decode cX9_fault 64 = .ok (.iload_n 1, 1) := by decide +kernel
theorem dX9_fault_65 : decode cX9_fault 65 = .ok (.iconst 1, 1) := by decide +kernel
theorem dX9_fault_66 : decode cX9_fault 66 = .ok (.if_icmp .ne 17, 3) := by decide +kernel
theorem dX9_fault_69 : decode cX9_fault 69 = .ok (.iload_n 3, 1) := by decide +kernel
theorem dX9_fault_70 : decode cX9_fault 70 = .ok (.i2l, 1) := by decide +kernel
theorem dX9_fault_71 : decode cX9_fault 71 = .ok (.ldc2_w 137, 3) := by decide +kernel
theorem dX9_fault_74 : decode cX9_fault 74 = .ok (.ldc2_w 139, 3) := by decide +kernel
theorem dX9_fault_77 : decode cX9_fault 77 = .ok (.invokestatic 95, 3) := by decide +kernel
theorem dX9_fault_80 : decode cX9_fault 80 = .ok (.ifCond .ne 22, 3) := by decide +kernel
theorem dX9_fault_83 : decode cX9_fault 83 = .ok (.iload_n 1, 1) := by decide +kernel
theorem dX9_fault_84 : decode cX9_fault 84 = .ok (.iconst 2, 1) := by decide +kernel
theorem dX9_fault_85 : decode cX9_fault 85 = .ok (.if_icmp .ne 22, 3) := by decide +kernel
theorem dX9_fault_88 : decode cX9_fault 88 = .ok (.iload_n 3, 1) := by decide +kernel
theorem dX9_fault_89 : decode cX9_fault 89 = .ok (.i2l, 1) := by decide +kernel
theorem dX9_fault_90 : decode cX9_fault 90 = .ok (.ldc2_w 141, 3) := by decide +kernel
theorem dX9_fault_93 : decode cX9_fault 93 = .ok (.ldc2_w 143, 3) := by decide +kernel
theorem dX9_fault_96 : decode cX9_fault 96 = .ok (.invokestatic 95, 3) := by decide +kernel
theorem dX9_fault_99 : decode cX9_fault 99 = .ok (.ifCond .eq 8, 3) := by decide +kernel
theorem dX9_fault_102 : decode cX9_fault 102 = .ok (.iconst 0, 1) := by decide +kernel
theorem dX9_fault_103 : decode cX9_fault 103 = .ok (.istore_n 1, 1) := by decide +kernel
theorem dX9_fault_104 : decode cX9_fault 104 = .ok (.goto 15, 3) := by decide +kernel
theorem dX9_fault_107 : decode cX9_fault 107 = .ok (.iload_n 1, 1) := by decide +kernel
theorem dX9_fault_108 : decode cX9_fault 108 = .ok (.ifCond .ne 9, 3) := by decide +kernel
theorem dX9_fault_111 : decode cX9_fault 111 = .ok (.iload_n 3, 1) := by decide +kernel
theorem dX9_fault_112 : decode cX9_fault 112 = .ok (.bipush 46, 2) := by decide +kernel
theorem dX9_fault_114 : decode cX9_fault 114 = .ok (.if_icmp .eq 5, 3) := by decide +kernel
theorem dX9_fault_117 : decode cX9_fault 117 = .ok (.iload_n 2, 1) := by decide +kernel
theorem dX9_fault_118 : decode cX9_fault 118 = .ok (.ireturn, 1) := by decide +kernel
theorem dX9_fault_119 : decode cX9_fault 119 = .ok (.iinc 2 1, 3) := by decide +kernel
theorem dX9_fault_122 : decode cX9_fault 122 = .ok (.goto (-118), 3) := by decide +kernel
theorem dX9_fault_125 : decode cX9_fault 125 = .ok (.iload_n 1, 1) := by decide +kernel
theorem dX9_fault_126 : decode cX9_fault 126 = .ok (.ifCond .ne 8, 3) := by decide +kernel
theorem dX9_fault_129 : decode cX9_fault 129 = .ok (.bipush (-6), 2) := by decide +kernel
theorem dX9_fault_131 : decode cX9_fault 131 = .ok (.goto 7, 3) := by decide +kernel
theorem dX9_fault_134 : decode cX9_fault 134 = .ok (.aload_n 0, 1) := by decide +kernel
theorem dX9_fault_135 : decode cX9_fault 135 = .ok (.getfield 130, 3) := by decide +kernel
theorem dX9_fault_138 : decode cX9_fault 138 = .ok (.ireturn, 1) := by decide +kernel
theorem dX9_whyNoMore_0 : decode cX9_whyNoMore 0 = .ok (.aload_n 0, 1) := by decide +kernel
theorem dX9_whyNoMore_1 : decode cX9_whyNoMore 1 = .ok (.getfield 46, 3) := by decide +kernel
theorem dX9_whyNoMore_4 : decode cX9_whyNoMore 4 = .ok (.iload_n 1, 1) := by decide +kernel
theorem dX9_whyNoMore_5 : decode cX9_whyNoMore 5 = .ok (.iaload, 1) := by decide +kernel
theorem dX9_whyNoMore_6 : decode cX9_whyNoMore 6 = .ok (.iload_n 2, 1) := by decide +kernel
theorem dX9_whyNoMore_7 : decode cX9_whyNoMore 7 = .ok (.if_icmp .ge 7, 3) := by decide +kernel
theorem dX9_whyNoMore_10 : decode cX9_whyNoMore 10 = .ok (.iconst 2, 1) := by decide +kernel
theorem dX9_whyNoMore_11 : decode cX9_whyNoMore 11 = .ok (.goto 22, 3) := by decide +kernel
theorem dX9_whyNoMore_14 : decode cX9_whyNoMore 14 = .ok (.aload_n 0, 1) := by decide +kernel
theorem dX9_whyNoMore_15 : decode cX9_whyNoMore 15 = .ok (.getfield 49, 3) := by decide +kernel
theorem dX9_whyNoMore_18 : decode cX9_whyNoMore 18 = .ok (.iload_n 1, 1) := by decide +kernel
theorem dX9_whyNoMore_19 : decode cX9_whyNoMore 19 = .ok (.iaload, 1) := by decide +kernel
theorem dX9_whyNoMore_20 : decode cX9_whyNoMore 20 = .ok (.iload_n 2, 1) := by decide +kernel
theorem dX9_whyNoMore_21 : decode cX9_whyNoMore 21 = .ok (.iadd, 1) := by decide +kernel
theorem dX9_whyNoMore_22 : decode cX9_whyNoMore 22 = .ok (.bipush 99, 2) := by decide +kernel
theorem dX9_whyNoMore_24 : decode cX9_whyNoMore 24 = .ok (.if_icmp .le 7, 3) := by decide +kernel
theorem dX9_whyNoMore_27 : decode cX9_whyNoMore 27 = .ok (.iconst 5, 1) := by decide +kernel
theorem dX9_whyNoMore_28 : decode cX9_whyNoMore 28 = .ok (.goto 5, 3) := by decide +kernel
theorem dX9_whyNoMore_31 : decode cX9_whyNoMore 31 = .ok (.bipush (-6), 2) := by decide +kernel
theorem dX9_whyNoMore_33 : decode cX9_whyNoMore 33 = .ok (.ireturn, 1) := by decide +kernel
theorem dX9_whyNoLock_0 : decode cX9_whyNoLock 0 = .ok (.aload_n 0, 1) := by decide +kernel
theorem dX9_whyNoLock_1 : decode cX9_whyNoLock 1 = .ok (.getfield 49, 3) := by decide +kernel
theorem dX9_whyNoLock_4 : decode cX9_whyNoLock 4 = .ok (.iload_n 1, 1) := by decide +kernel
theorem dX9_whyNoLock_5 : decode cX9_whyNoLock 5 = .ok (.iaload, 1) := by decide +kernel
theorem dX9_whyNoLock_6 : decode cX9_whyNoLock 6 = .ok (.ifCond .ne 7, 3) := by decide +kernel
theorem dX9_whyNoLock_9 : decode cX9_whyNoLock 9 = .ok (.iconst 3, 1) := by decide +kernel
theorem dX9_whyNoLock_10 : decode cX9_whyNoLock 10 = .ok (.goto 20, 3) := by decide +kernel
theorem dX9_whyNoLock_13 : decode cX9_whyNoLock 13 = .ok (.aload_n 0, 1) := by decide +kernel
theorem dX9_whyNoLock_14 : decode cX9_whyNoLock 14 = .ok (.getfield 64, 3) := by decide +kernel
theorem dX9_whyNoLock_17 : decode cX9_whyNoLock 17 = .ok (.iload_n 2, 1) := by decide +kernel
theorem dX9_whyNoLock_18 : decode cX9_whyNoLock 18 = .ok (.iaload, 1) := by decide +kernel
theorem dX9_whyNoLock_19 : decode cX9_whyNoLock 19 = .ok (.bipush 8, 2) := by decide +kernel
theorem dX9_whyNoLock_21 : decode cX9_whyNoLock 21 = .ok (.if_icmp .ne 7, 3) := by decide +kernel
theorem dX9_whyNoLock_24 : decode cX9_whyNoLock 24 = .ok (.iconst 4, 1) := by decide +kernel
theorem dX9_whyNoLock_25 : decode cX9_whyNoLock 25 = .ok (.goto 5, 3) := by decide +kernel
theorem dX9_whyNoLock_28 : decode cX9_whyNoLock 28 = .ok (.bipush (-6), 2) := by decide +kernel
theorem dX9_whyNoLock_30 : decode cX9_whyNoLock 30 = .ok (.ireturn, 1) := by decide +kernel
theorem dX9_does_0 : decode cX9_does 0 = .ok (.aload_n 0, 1) := by decide +kernel
theorem dX9_does_1 : decode cX9_does 1 = .ok (.getfield 67, 3) := by decide +kernel
theorem dX9_does_4 : decode cX9_does 4 = .ok (.iload_n 1, 1) := by decide +kernel
theorem dX9_does_5 : decode cX9_does 5 = .ok (.iaload, 1) := by decide +kernel
theorem dX9_does_6 : decode cX9_does 6 = .ok (.bipush 46, 2) := by decide +kernel
theorem dX9_does_8 : decode cX9_does 8 = .ok (.if_icmp .ne 10, 3) := by decide +kernel
theorem dX9_does_11 : decode cX9_does 11 = .ok (.aload_n 0, 1) := by decide +kernel
theorem dX9_does_12 : decode cX9_does 12 = .ok (.invokevirtual 145, 3) := by decide +kernel
theorem dX9_does_15 : decode cX9_does 15 = .ok (.bipush (-6), 2) := by decide +kernel
theorem dX9_does_17 : decode cX9_does 17 = .ok (.ireturn, 1) := by decide +kernel
theorem dX9_does_18 : decode cX9_does 18 = .ok (.aload_n 0, 1) := by decide +kernel
theorem dX9_does_19 : decode cX9_does 19 = .ok (.getfield 67, 3) := by decide +kernel
theorem dX9_does_22 : decode cX9_does 22 = .ok (.iload_n 1, 1) := by decide +kernel
theorem dX9_does_23 : decode cX9_does 23 = .ok (.iaload, 1) := by decide +kernel
theorem dX9_does_24 : decode cX9_does 24 = .ok (.bipush 65, 2) := by decide +kernel
theorem dX9_does_26 : decode cX9_does 26 = .ok (.isub, 1) := by decide +kernel
theorem dX9_does_27 : decode cX9_does 27 = .ok (.istore_n 2, 1) := by decide +kernel
theorem dX9_does_28 : decode cX9_does 28 = .ok (.aload_n 0, 1) := by decide +kernel
theorem dX9_does_29 : decode cX9_does 29 = .ok (.getfield 67, 3) := by decide +kernel
theorem dX9_does_32 : decode cX9_does 32 = .ok (.iload_n 1, 1) := by decide +kernel
theorem dX9_does_33 : decode cX9_does 33 = .ok (.iconst 1, 1) := by decide +kernel
theorem dX9_does_34 : decode cX9_does 34 = .ok (.iadd, 1) := by decide +kernel
theorem dX9_does_35 : decode cX9_does 35 = .ok (.iaload, 1) := by decide +kernel
theorem dX9_does_36 : decode cX9_does 36 = .ok (.bipush 43, 2) := by decide +kernel
theorem dX9_does_38 : decode cX9_does 38 = .ok (.if_icmp .ne 40, 3) := by decide +kernel
theorem dX9_does_41 : decode cX9_does 41 = .ok (.aload_n 0, 1) := by decide +kernel
theorem dX9_does_42 : decode cX9_does 42 = .ok (.getfield 46, 3) := by decide +kernel
theorem dX9_does_45 : decode cX9_does 45 = .ok (.iload_n 2, 1) := by decide +kernel
theorem dX9_does_46 : decode cX9_does 46 = .ok (.iaload, 1) := by decide +kernel
theorem dX9_does_47 : decode cX9_does 47 = .ok (.aload_n 0, 1) := by decide +kernel
theorem dX9_does_48 : decode cX9_does 48 = .ok (.getfield 67, 3) := by decide +kernel
theorem dX9_does_51 : decode cX9_does 51 = .ok (.iload_n 1, 1) := by decide +kernel
theorem dX9_does_52 : decode cX9_does 52 = .ok (.iconst 2, 1) := by decide +kernel
theorem dX9_does_53 : decode cX9_does 53 = .ok (.iadd, 1) := by decide +kernel
theorem dX9_does_54 : decode cX9_does 54 = .ok (.iaload, 1) := by decide +kernel
theorem dX9_does_55 : decode cX9_does 55 = .ok (.iadd, 1) := by decide +kernel
theorem dX9_does_56 : decode cX9_does 56 = .ok (.bipush 48, 2) := by decide +kernel
theorem dX9_does_58 : decode cX9_does 58 = .ok (.isub, 1) := by decide +kernel
theorem dX9_does_59 : decode cX9_does 59 = .ok (.istore_n 3, 1) := by decide +kernel
theorem dX9_does_60 : decode cX9_does 60 = .ok (.iload_n 3, 1) := by decide +kernel
theorem dX9_does_61 : decode cX9_does 61 = .ok (.bipush 40, 2) := by decide +kernel
theorem dX9_does_63 : decode cX9_does 63 = .ok (.if_icmp .le 5, 3) := by decide +kernel
theorem dX9_does_66 : decode cX9_does 66 = .ok (.iconst 1, 1) := by decide +kernel
theorem dX9_does_67 : decode cX9_does 67 = .ok (.ireturn, 1) := by decide +kernel
theorem dX9_does_68 : decode cX9_does 68 = .ok (.aload_n 0, 1) := by decide +kernel
theorem dX9_does_69 : decode cX9_does 69 = .ok (.getfield 46, 3) := by decide +kernel
theorem dX9_does_72 : decode cX9_does 72 = .ok (.iload_n 2, 1) := by decide +kernel
theorem dX9_does_73 : decode cX9_does 73 = .ok (.iload_n 3, 1) := by decide +kernel
theorem dX9_does_74 : decode cX9_does 74 = .ok (.iastore, 1) := by decide +kernel
theorem dX9_does_75 : decode cX9_does 75 = .ok (.bipush (-6), 2) := by decide +kernel
theorem dX9_does_77 : decode cX9_does 77 = .ok (.ireturn, 1) := by decide +kernel
theorem dX9_does_78 : decode cX9_does 78 = .ok (.aload_n 0, 1) := by decide +kernel
theorem dX9_does_79 : decode cX9_does 79 = .ok (.getfield 67, 3) := by decide +kernel
theorem dX9_does_82 : decode cX9_does 82 = .ok (.iload_n 1, 1) := by decide +kernel
theorem dX9_does_83 : decode cX9_does 83 = .ok (.iconst 1, 1) := by decide +kernel
theorem dX9_does_84 : decode cX9_does 84 = .ok (.iadd, 1) := by decide +kernel
theorem dX9_does_85 : decode cX9_does 85 = .ok (.iaload, 1) := by decide +kernel
theorem dX9_does_86 : decode cX9_does 86 = .ok (.bipush 45, 2) := by decide +kernel
theorem dX9_does_88 : decode cX9_does 88 = .ok (.if_icmp .ne 53, 3) := by decide +kernel
theorem dX9_does_91 : decode cX9_does 91 = .ok (.aload_n 0, 1) := by decide +kernel
theorem dX9_does_92 : decode cX9_does 92 = .ok (.getfield 67, 3) := by decide +kernel
theorem dX9_does_95 : decode cX9_does 95 = .ok (.iload_n 1, 1) := by decide +kernel
theorem dX9_does_96 : decode cX9_does 96 = .ok (.iconst 2, 1) := by decide +kernel
theorem dX9_does_97 : decode cX9_does 97 = .ok (.iadd, 1) := by decide +kernel
theorem dX9_does_98 : decode cX9_does 98 = .ok (.iaload, 1) := by decide +kernel
theorem dX9_does_99 : decode cX9_does 99 = .ok (.bipush 48, 2) := by decide +kernel
theorem dX9_does_101 : decode cX9_does 101 = .ok (.isub, 1) := by decide +kernel
theorem dX9_does_102 : decode cX9_does 102 = .ok (.istore_n 3, 1) := by decide +kernel
theorem dX9_does_103 : decode cX9_does 103 = .ok (.aload_n 0, 1) := by decide +kernel
theorem dX9_does_104 : decode cX9_does 104 = .ok (.iload_n 2, 1) := by decide +kernel
theorem dX9_does_105 : decode cX9_does 105 = .ok (.iload_n 3, 1) := by decide +kernel
theorem dX9_does_106 : decode cX9_does 106 = .ok (.invokevirtual 148, 3) := by decide +kernel
theorem dX9_does_109 : decode cX9_does 109 = .ok (.istore 4, 2) := by decide +kernel
theorem dX9_does_111 : decode cX9_does 111 = .ok (.iload 4, 2) := by decide +kernel
theorem dX9_does_113 : decode cX9_does 113 = .ok (.bipush (-6), 2) := by decide +kernel
theorem dX9_does_115 : decode cX9_does 115 = .ok (.if_icmp .ne 23, 3) := by decide +kernel
theorem dX9_does_118 : decode cX9_does 118 = .ok (.aload_n 0, 1) := by decide +kernel
theorem dX9_does_119 : decode cX9_does 119 = .ok (.getfield 46, 3) := by decide +kernel
theorem dX9_does_122 : decode cX9_does 122 = .ok (.iload_n 2, 1) := by decide +kernel
theorem dX9_does_123 : decode cX9_does 123 = .ok (.dup2, 1) := by decide +kernel
theorem dX9_does_124 : decode cX9_does 124 = .ok (.iaload, 1) := by decide +kernel
theorem dX9_does_125 : decode cX9_does 125 = .ok (.iload_n 3, 1) := by decide +kernel
theorem dX9_does_126 : decode cX9_does 126 = .ok (.isub, 1) := by decide +kernel
theorem dX9_does_127 : decode cX9_does 127 = .ok (.iastore, 1) := by decide +kernel
theorem dX9_does_128 : decode cX9_does 128 = .ok (.aload_n 0, 1) := by decide +kernel
theorem dX9_does_129 : decode cX9_does 129 = .ok (.getfield 49, 3) := by decide +kernel
theorem dX9_does_132 : decode cX9_does 132 = .ok (.iload_n 2, 1) := by decide +kernel
theorem dX9_does_133 : decode cX9_does 133 = .ok (.dup2, 1) := by decide +kernel
theorem dX9_does_134 : decode cX9_does 134 = .ok (.iaload, 1) := by decide +kernel
theorem dX9_does_135 : decode cX9_does 135 = .ok (.iload_n 3, 1) := by decide +kernel
theorem dX9_does_136 : decode cX9_does 136 = .ok (.iadd, 1) := by decide +kernel
theorem dX9_does_137 : decode cX9_does 137 = .ok (.iastore, 1) := by decide +kernel
theorem dX9_does_138 : decode cX9_does 138 = .ok (.iload 4, 2) := by decide +kernel
theorem dX9_does_140 : decode cX9_does 140 = .ok (.ireturn, 1) := by decide +kernel
theorem dX9_does_141 : decode cX9_does 141 = .ok (.aload_n 0, 1) := by decide +kernel
theorem dX9_does_142 : decode cX9_does 142 = .ok (.getfield 67, 3) := by decide +kernel
theorem dX9_does_145 : decode cX9_does 145 = .ok (.iload_n 1, 1) := by decide +kernel
theorem dX9_does_146 : decode cX9_does 146 = .ok (.iconst 1, 1) := by decide +kernel
theorem dX9_does_147 : decode cX9_does 147 = .ok (.iadd, 1) := by decide +kernel
theorem dX9_does_148 : decode cX9_does 148 = .ok (.iaload, 1) := by decide +kernel
theorem dX9_does_149 : decode cX9_does 149 = .ok (.bipush 48, 2) := by decide +kernel
theorem dX9_does_151 : decode cX9_does 151 = .ok (.isub, 1) := by decide +kernel
theorem dX9_does_152 : decode cX9_does 152 = .ok (.istore_n 3, 1) := by decide +kernel
theorem dX9_does_153 : decode cX9_does 153 = .ok (.aload_n 0, 1) := by decide +kernel
theorem dX9_does_154 : decode cX9_does 154 = .ok (.iload_n 2, 1) := by decide +kernel
theorem dX9_does_155 : decode cX9_does 155 = .ok (.iload_n 3, 1) := by decide +kernel
theorem dX9_does_156 : decode cX9_does 156 = .ok (.invokevirtual 152, 3) := by decide +kernel
theorem dX9_does_159 : decode cX9_does 159 = .ok (.istore 4, 2) := by decide +kernel
theorem dX9_does_161 : decode cX9_does 161 = .ok (.iload 4, 2) := by decide +kernel
theorem dX9_does_163 : decode cX9_does 163 = .ok (.bipush (-6), 2) := by decide +kernel
theorem dX9_does_165 : decode cX9_does 165 = .ok (.if_icmp .ne 9, 3) := by decide +kernel
theorem dX9_does_168 : decode cX9_does 168 = .ok (.aload_n 0, 1) := by decide +kernel
theorem dX9_does_169 : decode cX9_does 169 = .ok (.iload_n 2, 1) := by decide +kernel
theorem dX9_does_170 : decode cX9_does 170 = .ok (.iload_n 3, 1) := by decide +kernel
theorem dX9_does_171 : decode cX9_does 171 = .ok (.invokevirtual 155, 3) := by decide +kernel
theorem dX9_does_174 : decode cX9_does 174 = .ok (.iload 4, 2) := by decide +kernel
theorem dX9_does_176 : decode cX9_does 176 = .ok (.ireturn, 1) := by decide +kernel
theorem dX9_goText_0 : decode cX9_goText 0 = .ok (.aload_n 0, 1) := by decide +kernel
theorem dX9_goText_1 : decode cX9_goText 1 = .ok (.invokevirtual 159, 3) := by decide +kernel
theorem dX9_goText_4 : decode cX9_goText 4 = .ok (.aload_n 0, 1) := by decide +kernel
theorem dX9_goText_5 : decode cX9_goText 5 = .ok (.iconst 0, 1) := by decide +kernel
theorem dX9_goText_6 : decode cX9_goText 6 = .ok (.putfield 162, 3) := by decide +kernel
theorem dX9_goText_9 : decode cX9_goText 9 = .ok (.aload_n 0, 1) := by decide +kernel
theorem dX9_goText_10 : decode cX9_goText 10 = .ok (.bipush (-6), 2) := by decide +kernel
theorem dX9_goText_12 : decode cX9_goText 12 = .ok (.putfield 165, 3) := by decide +kernel
theorem dX9_goText_15 : decode cX9_goText 15 = .ok (.iconst 0, 1) := by decide +kernel
theorem dX9_goText_16 : decode cX9_goText 16 = .ok (.istore_n 1, 1) := by decide +kernel
theorem dX9_goText_17 : decode cX9_goText 17 = .ok (.iload_n 1, 1) := by decide +kernel
theorem dX9_goText_18 : decode cX9_goText 18 = .ok (.aload_n 0, 1) := by decide +kernel
theorem dX9_goText_19 : decode cX9_goText 19 = .ok (.getfield 130, 3) := by decide +kernel
theorem dX9_goText_22 : decode cX9_goText 22 = .ok (.if_icmp .ge 78, 3) := by decide +kernel
theorem dX9_goText_25 : decode cX9_goText 25 = .ok (.aload_n 0, 1) := by decide +kernel
theorem dX9_goText_26 : decode cX9_goText 26 = .ok (.aload_n 0, 1) := by decide +kernel
theorem dX9_goText_27 : decode cX9_goText 27 = .ok (.iload_n 1, 1) := by decide +kernel
theorem dX9_goText_28 : decode cX9_goText 28 = .ok (.invokevirtual 168, 3) := by decide +kernel
theorem dX9_goText_31 : decode cX9_goText 31 = .ok (.putfield 165, 3) := by decide +kernel
theorem dX9_goText_34 : decode cX9_goText 34 = .ok (.aload_n 0, 1) := by decide +kernel
theorem dX9_goText_35 : decode cX9_goText 35 = .ok (.getfield 165, 3) := by decide +kernel
theorem dX9_goText_38 : decode cX9_goText 38 = .ok (.ifCond .lt 5, 3) := by decide +kernel
theorem dX9_goText_41 : decode cX9_goText 41 = .ok (.iconst 0, 1) := by decide +kernel
theorem dX9_goText_42 : decode cX9_goText 42 = .ok (.ireturn, 1) := by decide +kernel
theorem dX9_goText_43 : decode cX9_goText 43 = .ok (.aload_n 0, 1) := by decide +kernel
theorem dX9_goText_44 : decode cX9_goText 44 = .ok (.dup, 1) := by decide +kernel
theorem dX9_goText_45 : decode cX9_goText 45 = .ok (.getfield 162, 3) := by decide +kernel
theorem dX9_goText_48 : decode cX9_goText 48 = .ok (.iconst 1, 1) := by decide +kernel
theorem dX9_goText_49 : decode cX9_goText 49 = .ok (.iadd, 1) := by decide +kernel
theorem dX9_goText_50 : decode cX9_goText 50 = .ok (.putfield 162, 3) := by decide +kernel
theorem dX9_goText_53 : decode cX9_goText 53 = .ok (.iload_n 1, 1) := by decide +kernel
theorem dX9_goText_54 : decode cX9_goText 54 = .ok (.aload_n 0, 1) := by decide +kernel
theorem dX9_goText_55 : decode cX9_goText 55 = .ok (.getfield 67, 3) := by decide +kernel
theorem dX9_goText_58 : decode cX9_goText 58 = .ok (.iload_n 1, 1) := by decide +kernel
theorem dX9_goText_59 : decode cX9_goText 59 = .ok (.iaload, 1) := by decide +kernel
theorem dX9_goText_60 : decode cX9_goText 60 = .ok (.bipush 46, 2) := by decide +kernel
theorem dX9_goText_62 : decode cX9_goText 62 = .ok (.if_icmp .ne 7, 3) := by decide +kernel
theorem dX9_goText_65 : decode cX9_goText 65 = .ok (.iconst 1, 1) := by decide +kernel
theorem dX9_goText_66 : decode cX9_goText 66 = .ok (.goto 29, 3) := by decide +kernel
theorem dX9_goText_69 : decode cX9_goText 69 = .ok (.aload_n 0, 1) := by decide +kernel
theorem dX9_goText_70 : decode cX9_goText 70 = .ok (.getfield 67, 3) := by decide +kernel
theorem dX9_goText_73 : decode cX9_goText 73 = .ok (.iload_n 1, 1) := by decide +kernel
theorem dX9_goText_74 : decode cX9_goText 74 = .ok (.iconst 1, 1) := by decide +kernel
theorem dX9_goText_75 : decode cX9_goText 75 = .ok (.iadd, 1) := by decide +kernel
theorem dX9_goText_76 : decode cX9_goText 76 = .ok (.iaload, 1) := by decide +kernel
theorem dX9_goText_77 : decode cX9_goText 77 = .ok (.i2l, 1) := by decide +kernel
theorem dX9_goText_78 : decode cX9_goText 78 = .ok (.ldc2_w 137, 3) := by decide +kernel
theorem dX9_goText_81 : decode cX9_goText 81 = .ok (.ldc2_w 139, 3) := by decide +kernel
theorem dX9_goText_84 : decode cX9_goText 84 = .ok (.invokestatic 95, 3) := by decide +kernel
theorem dX9_goText_87 : decode cX9_goText 87 = .ok (.ifCond .eq 7, 3) := by decide +kernel
theorem dX9_goText_90 : decode cX9_goText 90 = .ok (.iconst 2, 1) := by decide +kernel
theorem dX9_goText_91 : decode cX9_goText 91 = .ok (.goto 4, 3) := by decide +kernel
theorem dX9_goText_94 : decode cX9_goText 94 = .ok (.iconst 3, 1) := by decide +kernel
theorem dX9_goText_95 : decode cX9_goText 95 = .ok (.iadd, 1) := by decide +kernel
theorem dX9_goText_96 : decode cX9_goText 96 = .ok (.istore_n 1, 1) := by decide +kernel
theorem dX9_goText_97 : decode cX9_goText 97 = .ok (.goto (-80), 3) := by decide +kernel
theorem dX9_goText_100 : decode cX9_goText 100 = .ok (.iconst 1, 1) := by decide +kernel
theorem dX9_goText_101 : decode cX9_goText 101 = .ok (.ireturn, 1) := by decide +kernel
theorem dX9_judge_0 : decode cX9_judge 0 = .ok (.iload_n 1, 1) := by decide +kernel
theorem dX9_judge_1 : decode cX9_judge 1 = .ok (.i2l, 1) := by decide +kernel
theorem dX9_judge_2 : decode cX9_judge 2 = .ok (.lconst 0, 1) := by decide +kernel
theorem dX9_judge_3 : decode cX9_judge 3 = .ok (.lconst 1, 1) := by decide +kernel
theorem dX9_judge_4 : decode cX9_judge 4 = .ok (.invokestatic 95, 3) := by decide +kernel
theorem dX9_judge_7 : decode cX9_judge 7 = .ok (.ifCond .ne 6, 3) := by decide +kernel
theorem dX9_judge_10 : decode cX9_judge 10 = .ok (.bipush (-2), 2) := by decide +kernel
theorem dX9_judge_12 : decode cX9_judge 12 = .ok (.ireturn, 1) := by decide +kernel
theorem dX9_judge_13 : decode cX9_judge 13 = .ok (.aload_n 0, 1) := by decide +kernel
theorem dX9_judge_14 : decode cX9_judge 14 = .ok (.invokevirtual 171, 3) := by decide +kernel
theorem dX9_judge_17 : decode cX9_judge 17 = .ok (.ifCond .lt 6, 3) := by decide +kernel
theorem dX9_judge_20 : decode cX9_judge 20 = .ok (.bipush (-5), 2) := by decide +kernel
theorem dX9_judge_22 : decode cX9_judge 22 = .ok (.ireturn, 1) := by decide +kernel
theorem dX9_judge_23 : decode cX9_judge 23 = .ok (.aload_n 0, 1) := by decide +kernel
theorem dX9_judge_24 : decode cX9_judge 24 = .ok (.invokevirtual 175, 3) := by decide +kernel
theorem dX9_judge_27 : decode cX9_judge 27 = .ok (.istore_n 2, 1) := by decide +kernel
theorem dX9_judge_28 : decode cX9_judge 28 = .ok (.iload_n 2, 1) := by decide +kernel
theorem dX9_judge_29 : decode cX9_judge 29 = .ok (.ifCond .eq 8, 3) := by decide +kernel
theorem dX9_judge_32 : decode cX9_judge 32 = .ok (.bipush (-6), 2) := by decide +kernel
theorem dX9_judge_34 : decode cX9_judge 34 = .ok (.goto 18, 3) := by decide +kernel
theorem dX9_judge_37 : decode cX9_judge 37 = .ok (.iload_n 1, 1) := by decide +kernel
theorem dX9_judge_38 : decode cX9_judge 38 = .ok (.ifCond .ne 10, 3) := by decide +kernel
theorem dX9_judge_41 : decode cX9_judge 41 = .ok (.aload_n 0, 1) := by decide +kernel
theorem dX9_judge_42 : decode cX9_judge 42 = .ok (.getfield 162, 3) := by decide +kernel
theorem dX9_judge_45 : decode cX9_judge 45 = .ok (.goto 7, 3) := by decide +kernel
theorem dX9_judge_48 : decode cX9_judge 48 = .ok (.aload_n 0, 1) := by decide +kernel
theorem dX9_judge_49 : decode cX9_judge 49 = .ok (.getfield 165, 3) := by decide +kernel
theorem dX9_judge_52 : decode cX9_judge 52 = .ok (.ireturn, 1) := by decide +kernel
theorem dX9_done_0 : decode cX9_done 0 = .ok (.aload_n 0, 1) := by decide +kernel
theorem dX9_done_1 : decode cX9_done 1 = .ok (.invokevirtual 171, 3) := by decide +kernel
theorem dX9_done_4 : decode cX9_done 4 = .ok (.ifCond .ge 10, 3) := by decide +kernel
theorem dX9_done_7 : decode cX9_done 7 = .ok (.aload_n 0, 1) := by decide +kernel
theorem dX9_done_8 : decode cX9_done 8 = .ok (.invokevirtual 175, 3) := by decide +kernel
theorem dX9_done_11 : decode cX9_done 11 = .ok (.ifCond .ne 6, 3) := by decide +kernel
theorem dX9_done_14 : decode cX9_done 14 = .ok (.bipush (-5), 2) := by decide +kernel
theorem dX9_done_16 : decode cX9_done 16 = .ok (.ireturn, 1) := by decide +kernel
theorem dX9_done_17 : decode cX9_done 17 = .ok (.aload_n 0, 1) := by decide +kernel
theorem dX9_done_18 : decode cX9_done 18 = .ok (.invokevirtual 179, 3) := by decide +kernel
theorem dX9_done_21 : decode cX9_done 21 = .ok (.aload_n 0, 1) := by decide +kernel
theorem dX9_done_22 : decode cX9_done 22 = .ok (.iconst 0, 1) := by decide +kernel
theorem dX9_done_23 : decode cX9_done 23 = .ok (.putfield 130, 3) := by decide +kernel
theorem dX9_done_26 : decode cX9_done 26 = .ok (.aload_n 0, 1) := by decide +kernel
theorem dX9_done_27 : decode cX9_done 27 = .ok (.getfield 162, 3) := by decide +kernel
theorem dX9_done_30 : decode cX9_done 30 = .ok (.ireturn, 1) := by decide +kernel
theorem dX9_lock_0 : decode cX9_lock 0 = .ok (.iload_n 1, 1) := by decide +kernel
theorem dX9_lock_1 : decode cX9_lock 1 = .ok (.invokestatic 182, 3) := by decide +kernel
theorem dX9_lock_4 : decode cX9_lock 4 = .ok (.ifCond .eq 21, 3) := by decide +kernel
theorem dX9_lock_7 : decode cX9_lock 7 = .ok (.iload_n 2, 1) := by decide +kernel
theorem dX9_lock_8 : decode cX9_lock 8 = .ok (.i2l, 1) := by decide +kernel
theorem dX9_lock_9 : decode cX9_lock 9 = .ok (.lconst 0, 1) := by decide +kernel
theorem dX9_lock_10 : decode cX9_lock 10 = .ok (.aload_n 0, 1) := by decide +kernel
theorem dX9_lock_11 : decode cX9_lock 11 = .ok (.getfield 31, 3) := by decide +kernel
theorem dX9_lock_14 : decode cX9_lock 14 = .ok (.iload_n 1, 1) := by decide +kernel
theorem dX9_lock_15 : decode cX9_lock 15 = .ok (.iaload, 1) := by decide +kernel
theorem dX9_lock_16 : decode cX9_lock 16 = .ok (.iconst 1, 1) := by decide +kernel
theorem dX9_lock_17 : decode cX9_lock 17 = .ok (.isub, 1) := by decide +kernel
theorem dX9_lock_18 : decode cX9_lock 18 = .ok (.i2l, 1) := by decide +kernel
theorem dX9_lock_19 : decode cX9_lock 19 = .ok (.invokestatic 95, 3) := by decide +kernel
theorem dX9_lock_22 : decode cX9_lock 22 = .ok (.ifCond .ne 5, 3) := by decide +kernel
theorem dX9_lock_25 : decode cX9_lock 25 = .ok (.iconst (-1), 1) := by decide +kernel
theorem dX9_lock_26 : decode cX9_lock 26 = .ok (.ireturn, 1) := by decide +kernel
theorem dX9_lock_27 : decode cX9_lock 27 = .ok (.bipush 8, 2) := by decide +kernel
theorem dX9_lock_29 : decode cX9_lock 29 = .ok (.iload_n 1, 1) := by decide +kernel
theorem dX9_lock_30 : decode cX9_lock 30 = .ok (.imul, 1) := by decide +kernel
theorem dX9_lock_31 : decode cX9_lock 31 = .ok (.iload_n 2, 1) := by decide +kernel
theorem dX9_lock_32 : decode cX9_lock 32 = .ok (.iadd, 1) := by decide +kernel
theorem dX9_lock_33 : decode cX9_lock 33 = .ok (.istore 4, 2) := by decide +kernel
theorem dX9_lock_35 : decode cX9_lock 35 = .ok (.iload_n 3, 1) := by decide +kernel
theorem dX9_lock_36 : decode cX9_lock 36 = .ok (.ifCond .ne 13, 3) := by decide +kernel
theorem dX9_lock_39 : decode cX9_lock 39 = .ok (.aload_n 0, 1) := by decide +kernel
theorem dX9_lock_40 : decode cX9_lock 40 = .ok (.getfield 22, 3) := by decide +kernel
theorem dX9_lock_43 : decode cX9_lock 43 = .ok (.iload 4, 2) := by decide +kernel
theorem dX9_lock_45 : decode cX9_lock 45 = .ok (.iaload, 1) := by decide +kernel
theorem dX9_lock_46 : decode cX9_lock 46 = .ok (.goto 40, 3) := by decide +kernel
theorem dX9_lock_49 : decode cX9_lock 49 = .ok (.iload_n 3, 1) := by decide +kernel
theorem dX9_lock_50 : decode cX9_lock 50 = .ok (.iconst 1, 1) := by decide +kernel
theorem dX9_lock_51 : decode cX9_lock 51 = .ok (.if_icmp .ne 13, 3) := by decide +kernel
theorem dX9_lock_54 : decode cX9_lock 54 = .ok (.aload_n 0, 1) := by decide +kernel
theorem dX9_lock_55 : decode cX9_lock 55 = .ok (.getfield 25, 3) := by decide +kernel
theorem dX9_lock_58 : decode cX9_lock 58 = .ok (.iload 4, 2) := by decide +kernel
theorem dX9_lock_60 : decode cX9_lock 60 = .ok (.iaload, 1) := by decide +kernel
theorem dX9_lock_61 : decode cX9_lock 61 = .ok (.goto 25, 3) := by decide +kernel
theorem dX9_lock_64 : decode cX9_lock 64 = .ok (.iload_n 3, 1) := by decide +kernel
theorem dX9_lock_65 : decode cX9_lock 65 = .ok (.iconst 2, 1) := by decide +kernel
theorem dX9_lock_66 : decode cX9_lock 66 = .ok (.if_icmp .ne 18, 3) := by decide +kernel
theorem dX9_lock_69 : decode cX9_lock 69 = .ok (.aload_n 0, 1) := by decide +kernel
theorem dX9_lock_70 : decode cX9_lock 70 = .ok (.getfield 101, 3) := by decide +kernel
theorem dX9_lock_73 : decode cX9_lock 73 = .ok (.aload_n 0, 1) := by decide +kernel
theorem dX9_lock_74 : decode cX9_lock 74 = .ok (.getfield 28, 3) := by decide +kernel
theorem dX9_lock_77 : decode cX9_lock 77 = .ok (.iload 4, 2) := by decide +kernel
theorem dX9_lock_79 : decode cX9_lock 79 = .ok (.iaload, 1) := by decide +kernel
theorem dX9_lock_80 : decode cX9_lock 80 = .ok (.isub, 1) := by decide +kernel
theorem dX9_lock_81 : decode cX9_lock 81 = .ok (.goto 5, 3) := by decide +kernel
theorem dX9_lock_84 : decode cX9_lock 84 = .ok (.bipush (-2), 2) := by decide +kernel
theorem dX9_lock_86 : decode cX9_lock 86 = .ok (.ireturn, 1) := by decide +kernel
theorem dX9_power_0 : decode cX9_power 0 = .ok (.aload_n 0, 1) := by decide +kernel
theorem dX9_power_1 : decode cX9_power 1 = .ok (.invokevirtual 159, 3) := by decide +kernel
theorem dX9_power_4 : decode cX9_power 4 = .ok (.iload_n 1, 1) := by decide +kernel
theorem dX9_power_5 : decode cX9_power 5 = .ok (.invokestatic 182, 3) := by decide +kernel
theorem dX9_power_8 : decode cX9_power 8 = .ok (.ifCond .eq 11, 3) := by decide +kernel
theorem dX9_power_11 : decode cX9_power 11 = .ok (.aload_n 0, 1) := by decide +kernel
theorem dX9_power_12 : decode cX9_power 12 = .ok (.iload_n 1, 1) := by decide +kernel
theorem dX9_power_13 : decode cX9_power 13 = .ok (.invokevirtual 114, 3) := by decide +kernel
theorem dX9_power_16 : decode cX9_power 16 = .ok (.goto 4, 3) := by decide +kernel
theorem dX9_power_19 : decode cX9_power 19 = .ok (.iconst (-1), 1) := by decide +kernel
theorem dX9_power_20 : decode cX9_power 20 = .ok (.ireturn, 1) := by decide +kernel
theorem dX9_bears_0 : decode cX9_bears 0 = .ok (.aload_n 0, 1) := by decide +kernel
theorem dX9_bears_1 : decode cX9_bears 1 = .ok (.invokevirtual 159, 3) := by decide +kernel
theorem dX9_bears_4 : decode cX9_bears 4 = .ok (.aload_n 0, 1) := by decide +kernel
theorem dX9_bears_5 : decode cX9_bears 5 = .ok (.invokevirtual 185, 3) := by decide +kernel
theorem dX9_bears_8 : decode cX9_bears 8 = .ok (.ireturn, 1) := by decide +kernel
theorem dX9_ones_0 : decode cX9_ones 0 = .ok (.iconst 0, 1) := by decide +kernel
theorem dX9_ones_1 : decode cX9_ones 1 = .ok (.istore_n 1, 1) := by decide +kernel
theorem dX9_ones_2 : decode cX9_ones 2 = .ok (.iload_n 0, 1) := by decide +kernel
theorem dX9_ones_3 : decode cX9_ones 3 = .ok (.istore_n 2, 1) := by decide +kernel
theorem dX9_ones_4 : decode cX9_ones 4 = .ok (.iload_n 2, 1) := by decide +kernel
theorem dX9_ones_5 : decode cX9_ones 5 = .ok (.ifCond .eq 15, 3) := by decide +kernel
theorem dX9_ones_8 : decode cX9_ones 8 = .ok (.iinc 1 1, 3) := by decide +kernel
theorem dX9_ones_11 : decode cX9_ones 11 = .ok (.iload_n 2, 1) := by decide +kernel
theorem dX9_ones_12 : decode cX9_ones 12 = .ok (.iload_n 2, 1) := by decide +kernel
theorem dX9_ones_13 : decode cX9_ones 13 = .ok (.iconst 1, 1) := by decide +kernel
theorem dX9_ones_14 : decode cX9_ones 14 = .ok (.isub, 1) := by decide +kernel
theorem dX9_ones_15 : decode cX9_ones 15 = .ok (.iand, 1) := by decide +kernel
theorem dX9_ones_16 : decode cX9_ones 16 = .ok (.istore_n 2, 1) := by decide +kernel
theorem dX9_ones_17 : decode cX9_ones 17 = .ok (.goto (-13), 3) := by decide +kernel
theorem dX9_ones_20 : decode cX9_ones 20 = .ok (.iload_n 1, 1) := by decide +kernel
theorem dX9_ones_21 : decode cX9_ones 21 = .ok (.ireturn, 1) := by decide +kernel
theorem dX9_broken_0 : decode cX9_broken 0 = .ok (.iload_n 1, 1) := by decide +kernel
theorem dX9_broken_1 : decode cX9_broken 1 = .ok (.i2l, 1) := by decide +kernel
theorem dX9_broken_2 : decode cX9_broken 2 = .ok (.lconst 0, 1) := by decide +kernel
theorem dX9_broken_3 : decode cX9_broken 3 = .ok (.ldc2_w 188, 3) := by decide +kernel
theorem dX9_broken_6 : decode cX9_broken 6 = .ok (.invokestatic 95, 3) := by decide +kernel
theorem dX9_broken_9 : decode cX9_broken 9 = .ok (.ifCond .ne 6, 3) := by decide +kernel
theorem dX9_broken_12 : decode cX9_broken 12 = .ok (.bipush (-2), 2) := by decide +kernel
theorem dX9_broken_14 : decode cX9_broken 14 = .ok (.ireturn, 1) := by decide +kernel
theorem dX9_broken_15 : decode cX9_broken 15 = .ok (.aload_n 0, 1) := by decide +kernel
theorem dX9_broken_16 : decode cX9_broken 16 = .ok (.invokevirtual 159, 3) := by decide +kernel
theorem dX9_broken_19 : decode cX9_broken 19 = .ok (.iconst 0, 1) := by decide +kernel
theorem dX9_broken_20 : decode cX9_broken 20 = .ok (.istore_n 2, 1) := by decide +kernel
theorem dX9_broken_21 : decode cX9_broken 21 = .ok (.iconst 0, 1) := by decide +kernel
theorem dX9_broken_22 : decode cX9_broken 22 = .ok (.istore_n 3, 1) := by decide +kernel
theorem dX9_broken_23 : decode cX9_broken 23 = .ok (.iload_n 3, 1) := by decide +kernel
theorem dX9_broken_24 : decode cX9_broken 24 = .ok (.iconst 4, 1) := by decide +kernel
theorem dX9_broken_25 : decode cX9_broken 25 = .ok (.if_icmp .ge 27, 3) := by decide +kernel
theorem dX9_broken_28 : decode cX9_broken 28 = .ok (.iload_n 2, 1) := by decide +kernel
theorem dX9_broken_29 : decode cX9_broken 29 = .ok (.aload_n 0, 1) := by decide +kernel
theorem dX9_broken_30 : decode cX9_broken 30 = .ok (.iload_n 3, 1) := by decide +kernel
theorem dX9_broken_31 : decode cX9_broken 31 = .ok (.invokevirtual 114, 3) := by decide +kernel
theorem dX9_broken_34 : decode cX9_broken 34 = .ok (.ifCond .le 9, 3) := by decide +kernel
theorem dX9_broken_37 : decode cX9_broken 37 = .ok (.iconst 1, 1) := by decide +kernel
theorem dX9_broken_38 : decode cX9_broken 38 = .ok (.iload_n 3, 1) := by decide +kernel
theorem dX9_broken_39 : decode cX9_broken 39 = .ok (.ishl, 1) := by decide +kernel
theorem dX9_broken_40 : decode cX9_broken 40 = .ok (.goto 4, 3) := by decide +kernel
theorem dX9_broken_43 : decode cX9_broken 43 = .ok (.iconst 0, 1) := by decide +kernel
theorem dX9_broken_44 : decode cX9_broken 44 = .ok (.ior, 1) := by decide +kernel
theorem dX9_broken_45 : decode cX9_broken 45 = .ok (.istore_n 2, 1) := by decide +kernel
theorem dX9_broken_46 : decode cX9_broken 46 = .ok (.iinc 3 1, 3) := by decide +kernel
theorem dX9_broken_49 : decode cX9_broken 49 = .ok (.goto (-26), 3) := by decide +kernel
theorem dX9_broken_52 : decode cX9_broken 52 = .ok (.iconst 0, 1) := by decide +kernel
theorem dX9_broken_53 : decode cX9_broken 53 = .ok (.istore_n 3, 1) := by decide +kernel
theorem dX9_broken_54 : decode cX9_broken 54 = .ok (.iconst 1, 1) := by decide +kernel
theorem dX9_broken_55 : decode cX9_broken 55 = .ok (.istore 4, 2) := by decide +kernel
theorem dX9_broken_57 : decode cX9_broken 57 = .ok (.iload 4, 2) := by decide +kernel
theorem dX9_broken_59 : decode cX9_broken 59 = .ok (.ifCond .eq 86, 3) := by decide +kernel
theorem dX9_broken_62 : decode cX9_broken 62 = .ok (.iconst 0, 1) := by decide +kernel
theorem dX9_broken_63 : decode cX9_broken 63 = .ok (.istore 5, 2) := by decide +kernel
theorem dX9_broken_65 : decode cX9_broken 65 = .ok (.iconst 0, 1) := by decide +kernel
theorem dX9_broken_66 : decode cX9_broken 66 = .ok (.istore 6, 2) := by decide +kernel
theorem dX9_broken_68 : decode cX9_broken 68 = .ok (.iload 6, 2) := by decide +kernel
theorem dX9_broken_70 : decode cX9_broken 70 = .ok (.iconst 4, 1) := by decide +kernel
theorem dX9_broken_71 : decode cX9_broken 71 = .ok (.if_icmp .ge 47, 3) := by decide +kernel
theorem dX9_broken_74 : decode cX9_broken 74 = .ok (.iload 5, 2) := by decide +kernel
theorem dX9_broken_76 : decode cX9_broken 76 = .ok (.iload_n 2, 1) := by decide +kernel
theorem dX9_broken_77 : decode cX9_broken 77 = .ok (.iload 6, 2) := by decide +kernel
theorem dX9_broken_79 : decode cX9_broken 79 = .ok (.ishr, 1) := by decide +kernel
theorem dX9_broken_80 : decode cX9_broken 80 = .ok (.iconst 1, 1) := by decide +kernel
theorem dX9_broken_81 : decode cX9_broken 81 = .ok (.iand, 1) := by decide +kernel
theorem dX9_broken_82 : decode cX9_broken 82 = .ok (.iconst 1, 1) := by decide +kernel
theorem dX9_broken_83 : decode cX9_broken 83 = .ok (.if_icmp .ne 25, 3) := by decide +kernel
theorem dX9_broken_86 : decode cX9_broken 86 = .ok (.aload_n 0, 1) := by decide +kernel
theorem dX9_broken_87 : decode cX9_broken 87 = .ok (.iload 6, 2) := by decide +kernel
theorem dX9_broken_89 : decode cX9_broken 89 = .ok (.invokevirtual 114, 3) := by decide +kernel
theorem dX9_broken_92 : decode cX9_broken 92 = .ok (.iload_n 2, 1) := by decide +kernel
theorem dX9_broken_93 : decode cX9_broken 93 = .ok (.invokestatic 190, 3) := by decide +kernel
theorem dX9_broken_96 : decode cX9_broken 96 = .ok (.imul, 1) := by decide +kernel
theorem dX9_broken_97 : decode cX9_broken 97 = .ok (.iload_n 1, 1) := by decide +kernel
theorem dX9_broken_98 : decode cX9_broken 98 = .ok (.if_icmp .ge 10, 3) := by decide +kernel
theorem dX9_broken_101 : decode cX9_broken 101 = .ok (.iconst 1, 1) := by decide +kernel
theorem dX9_broken_102 : decode cX9_broken 102 = .ok (.iload 6, 2) := by decide +kernel
theorem dX9_broken_104 : decode cX9_broken 104 = .ok (.ishl, 1) := by decide +kernel
theorem dX9_broken_105 : decode cX9_broken 105 = .ok (.goto 4, 3) := by decide +kernel
theorem dX9_broken_108 : decode cX9_broken 108 = .ok (.iconst 0, 1) := by decide +kernel
theorem dX9_broken_109 : decode cX9_broken 109 = .ok (.ior, 1) := by decide +kernel
theorem dX9_broken_110 : decode cX9_broken 110 = .ok (.istore 5, 2) := by decide +kernel
theorem dX9_broken_112 : decode cX9_broken 112 = .ok (.iinc 6 1, 3) := by decide +kernel
theorem dX9_broken_115 : decode cX9_broken 115 = .ok (.goto (-47), 3) := by decide +kernel
theorem dX9_broken_118 : decode cX9_broken 118 = .ok (.iload_n 2, 1) := by decide +kernel
theorem dX9_broken_119 : decode cX9_broken 119 = .ok (.iload 5, 2) := by decide +kernel
theorem dX9_broken_121 : decode cX9_broken 121 = .ok (.iconst (-1), 1) := by decide +kernel
theorem dX9_broken_122 : decode cX9_broken 122 = .ok (.ixor, 1) := by decide +kernel
theorem dX9_broken_123 : decode cX9_broken 123 = .ok (.iand, 1) := by decide +kernel
theorem dX9_broken_124 : decode cX9_broken 124 = .ok (.istore_n 2, 1) := by decide +kernel
theorem dX9_broken_125 : decode cX9_broken 125 = .ok (.iload_n 3, 1) := by decide +kernel
theorem dX9_broken_126 : decode cX9_broken 126 = .ok (.iload 5, 2) := by decide +kernel
theorem dX9_broken_128 : decode cX9_broken 128 = .ok (.ior, 1) := by decide +kernel
theorem dX9_broken_129 : decode cX9_broken 129 = .ok (.istore_n 3, 1) := by decide +kernel
theorem dX9_broken_130 : decode cX9_broken 130 = .ok (.iload 5, 2) := by decide +kernel
theorem dX9_broken_132 : decode cX9_broken 132 = .ok (.ifCond .eq 7, 3) := by decide +kernel
theorem dX9_broken_135 : decode cX9_broken 135 = .ok (.iconst 1, 1) := by decide +kernel
theorem dX9_broken_136 : decode cX9_broken 136 = .ok (.goto 4, 3) := by decide +kernel
theorem dX9_broken_139 : decode cX9_broken 139 = .ok (.iconst 0, 1) := by decide +kernel
theorem dX9_broken_140 : decode cX9_broken 140 = .ok (.istore 4, 2) := by decide +kernel
theorem dX9_broken_142 : decode cX9_broken 142 = .ok (.goto (-85), 3) := by decide +kernel
theorem dX9_broken_145 : decode cX9_broken 145 = .ok (.iload_n 3, 1) := by decide +kernel
theorem dX9_broken_146 : decode cX9_broken 146 = .ok (.ireturn, 1) := by decide +kernel
theorem dX9_share_0 : decode cX9_share 0 = .ok (.iload_n 1, 1) := by decide +kernel
theorem dX9_share_1 : decode cX9_share 1 = .ok (.invokestatic 118, 3) := by decide +kernel
theorem dX9_share_4 : decode cX9_share 4 = .ok (.ifCond .ne 7, 3) := by decide +kernel
theorem dX9_share_7 : decode cX9_share 7 = .ok (.ldc2_w 193, 3) := by decide +kernel
theorem dX9_share_10 : decode cX9_share 10 = .ok (.lreturn, 1) := by decide +kernel
theorem dX9_share_11 : decode cX9_share 11 = .ok (.iload_n 2, 1) := by decide +kernel
theorem dX9_share_12 : decode cX9_share 12 = .ok (.i2l, 1) := by decide +kernel
theorem dX9_share_13 : decode cX9_share 13 = .ok (.lconst 0, 1) := by decide +kernel
theorem dX9_share_14 : decode cX9_share 14 = .ok (.lconst 1, 1) := by decide +kernel
theorem dX9_share_15 : decode cX9_share 15 = .ok (.invokestatic 95, 3) := by decide +kernel
theorem dX9_share_18 : decode cX9_share 18 = .ok (.ifCond .ne 7, 3) := by decide +kernel
theorem dX9_share_21 : decode cX9_share 21 = .ok (.ldc2_w 195, 3) := by decide +kernel
theorem dX9_share_24 : decode cX9_share 24 = .ok (.lreturn, 1) := by decide +kernel
theorem dX9_share_25 : decode cX9_share 25 = .ok (.aload_n 0, 1) := by decide +kernel
theorem dX9_share_26 : decode cX9_share 26 = .ok (.invokevirtual 159, 3) := by decide +kernel
theorem dX9_share_29 : decode cX9_share 29 = .ok (.lconst 0, 1) := by decide +kernel
theorem dX9_share_30 : decode cX9_share 30 = .ok (.lstore_n 3, 1) := by decide +kernel
theorem dX9_share_31 : decode cX9_share 31 = .ok (.lconst 0, 1) := by decide +kernel
theorem dX9_share_32 : decode cX9_share 32 = .ok (.lstore 5, 2) := by decide +kernel
theorem dX9_share_34 : decode cX9_share 34 = .ok (.iconst 0, 1) := by decide +kernel
theorem dX9_share_35 : decode cX9_share 35 = .ok (.istore 7, 2) := by decide +kernel
theorem dX9_share_37 : decode cX9_share 37 = .ok (.iload 7, 2) := by decide +kernel
theorem dX9_share_39 : decode cX9_share 39 = .ok (.iconst 4, 1) := by decide +kernel
theorem dX9_share_40 : decode cX9_share 40 = .ok (.if_icmp .ge 39, 3) := by decide +kernel
theorem dX9_share_43 : decode cX9_share 43 = .ok (.lload_n 3, 1) := by decide +kernel
theorem dX9_share_44 : decode cX9_share 44 = .ok (.aload_n 0, 1) := by decide +kernel
theorem dX9_share_45 : decode cX9_share 45 = .ok (.iload 7, 2) := by decide +kernel
theorem dX9_share_47 : decode cX9_share 47 = .ok (.invokevirtual 114, 3) := by decide +kernel
theorem dX9_share_50 : decode cX9_share 50 = .ok (.i2l, 1) := by decide +kernel
theorem dX9_share_51 : decode cX9_share 51 = .ok (.ladd, 1) := by decide +kernel
theorem dX9_share_52 : decode cX9_share 52 = .ok (.lstore_n 3, 1) := by decide +kernel
theorem dX9_share_53 : decode cX9_share 53 = .ok (.lload 5, 2) := by decide +kernel
theorem dX9_share_55 : decode cX9_share 55 = .ok (.aload_n 0, 1) := by decide +kernel
theorem dX9_share_56 : decode cX9_share 56 = .ok (.getfield 13, 3) := by decide +kernel
theorem dX9_share_59 : decode cX9_share 59 = .ok (.iload_n 1, 1) := by decide +kernel
theorem dX9_share_60 : decode cX9_share 60 = .ok (.iaload, 1) := by decide +kernel
theorem dX9_share_61 : decode cX9_share 61 = .ok (.aload_n 0, 1) := by decide +kernel
theorem dX9_share_62 : decode cX9_share 62 = .ok (.iload_n 1, 1) := by decide +kernel
theorem dX9_share_63 : decode cX9_share 63 = .ok (.iload 7, 2) := by decide +kernel
theorem dX9_share_65 : decode cX9_share 65 = .ok (.invokevirtual 197, 3) := by decide +kernel
theorem dX9_share_68 : decode cX9_share 68 = .ok (.imul, 1) := by decide +kernel
theorem dX9_share_69 : decode cX9_share 69 = .ok (.i2l, 1) := by decide +kernel
theorem dX9_share_70 : decode cX9_share 70 = .ok (.ladd, 1) := by decide +kernel
theorem dX9_share_71 : decode cX9_share 71 = .ok (.lstore 5, 2) := by decide +kernel
theorem dX9_share_73 : decode cX9_share 73 = .ok (.iinc 7 1, 3) := by decide +kernel
theorem dX9_share_76 : decode cX9_share 76 = .ok (.goto (-39), 3) := by decide +kernel
theorem dX9_share_79 : decode cX9_share 79 = .ok (.lload_n 3, 1) := by decide +kernel
theorem dX9_share_80 : decode cX9_share 80 = .ok (.lconst 0, 1) := by decide +kernel
theorem dX9_share_81 : decode cX9_share 81 = .ok (.lcmp, 1) := by decide +kernel
theorem dX9_share_82 : decode cX9_share 82 = .ok (.ifCond .ne 7, 3) := by decide +kernel
theorem dX9_share_85 : decode cX9_share 85 = .ok (.ldc2_w 200, 3) := by decide +kernel
theorem dX9_share_88 : decode cX9_share 88 = .ok (.lreturn, 1) := by decide +kernel
theorem dX9_share_89 : decode cX9_share 89 = .ok (.lload_n 3, 1) := by decide +kernel
theorem dX9_share_90 : decode cX9_share 90 = .ok (.lstore 7, 2) := by decide +kernel
theorem dX9_share_92 : decode cX9_share 92 = .ok (.lload 5, 2) := by decide +kernel
theorem dX9_share_94 : decode cX9_share 94 = .ok (.lstore 9, 2) := by decide +kernel
theorem dX9_share_96 : decode cX9_share 96 = .ok (.lload 9, 2) := by decide +kernel
theorem dX9_share_98 : decode cX9_share 98 = .ok (.lconst 0, 1) := by decide +kernel
theorem dX9_share_99 : decode cX9_share 99 = .ok (.lcmp, 1) := by decide +kernel
theorem dX9_share_100 : decode cX9_share 100 = .ok (.ifCond .eq 21, 3) := by decide +kernel
theorem dX9_share_103 : decode cX9_share 103 = .ok (.lload 7, 2) := by decide +kernel
theorem dX9_share_105 : decode cX9_share 105 = .ok (.lload 9, 2) := by decide +kernel
theorem dX9_share_107 : decode cX9_share 107 = .ok (.lrem, 1) := by decide +kernel
theorem dX9_share_108 : decode cX9_share 108 = .ok (.lstore 11, 2) := by decide +kernel
theorem dX9_share_110 : decode cX9_share 110 = .ok (.lload 9, 2) := by decide +kernel
theorem dX9_share_112 : decode cX9_share 112 = .ok (.lstore 7, 2) := by decide +kernel
theorem dX9_share_114 : decode cX9_share 114 = .ok (.lload 11, 2) := by decide +kernel
theorem dX9_share_116 : decode cX9_share 116 = .ok (.lstore 9, 2) := by decide +kernel
theorem dX9_share_118 : decode cX9_share 118 = .ok (.goto (-22), 3) := by decide +kernel
theorem dX9_share_121 : decode cX9_share 121 = .ok (.iload_n 2, 1) := by decide +kernel
theorem dX9_share_122 : decode cX9_share 122 = .ok (.ifCond .ne 11, 3) := by decide +kernel
theorem dX9_share_125 : decode cX9_share 125 = .ok (.lload 5, 2) := by decide +kernel
theorem dX9_share_127 : decode cX9_share 127 = .ok (.lload 7, 2) := by decide +kernel
theorem dX9_share_129 : decode cX9_share 129 = .ok (.ldiv, 1) := by decide +kernel
theorem dX9_share_130 : decode cX9_share 130 = .ok (.goto 7, 3) := by decide +kernel
theorem dX9_share_133 : decode cX9_share 133 = .ok (.lload_n 3, 1) := by decide +kernel
theorem dX9_share_134 : decode cX9_share 134 = .ok (.lload 7, 2) := by decide +kernel
theorem dX9_share_136 : decode cX9_share 136 = .ok (.ldiv, 1) := by decide +kernel
theorem dX9_share_137 : decode cX9_share 137 = .ok (.lreturn, 1) := by decide +kernel
theorem dX9_inchesOf_0 : decode cX9_inchesOf 0 = .ok (.iconst 0, 1) := by decide +kernel
theorem dX9_inchesOf_1 : decode cX9_inchesOf 1 = .ok (.istore_n 3, 1) := by decide +kernel
theorem dX9_inchesOf_2 : decode cX9_inchesOf 2 = .ok (.bipush 8, 2) := by decide +kernel
theorem dX9_inchesOf_4 : decode cX9_inchesOf 4 = .ok (.iload_n 2, 1) := by decide +kernel
theorem dX9_inchesOf_5 : decode cX9_inchesOf 5 = .ok (.imul, 1) := by decide +kernel
theorem dX9_inchesOf_6 : decode cX9_inchesOf 6 = .ok (.istore 4, 2) := by decide +kernel
theorem dX9_inchesOf_8 : decode cX9_inchesOf 8 = .ok (.iload 4, 2) := by decide +kernel
theorem dX9_inchesOf_10 : decode cX9_inchesOf 10 = .ok (.bipush 8, 2) := by decide +kernel
theorem dX9_inchesOf_12 : decode cX9_inchesOf 12 = .ok (.iload_n 2, 1) := by decide +kernel
theorem dX9_inchesOf_13 : decode cX9_inchesOf 13 = .ok (.imul, 1) := by decide +kernel
theorem dX9_inchesOf_14 : decode cX9_inchesOf 14 = .ok (.aload_n 0, 1) := by decide +kernel
theorem dX9_inchesOf_15 : decode cX9_inchesOf 15 = .ok (.getfield 64, 3) := by decide +kernel
theorem dX9_inchesOf_18 : decode cX9_inchesOf 18 = .ok (.iload_n 2, 1) := by decide +kernel
theorem dX9_inchesOf_19 : decode cX9_inchesOf 19 = .ok (.iaload, 1) := by decide +kernel
theorem dX9_inchesOf_20 : decode cX9_inchesOf 20 = .ok (.iadd, 1) := by decide +kernel
theorem dX9_inchesOf_21 : decode cX9_inchesOf 21 = .ok (.if_icmp .ge 34, 3) := by decide +kernel
theorem dX9_inchesOf_24 : decode cX9_inchesOf 24 = .ok (.iload_n 3, 1) := by decide +kernel
theorem dX9_inchesOf_25 : decode cX9_inchesOf 25 = .ok (.aload_n 0, 1) := by decide +kernel
theorem dX9_inchesOf_26 : decode cX9_inchesOf 26 = .ok (.getfield 55, 3) := by decide +kernel
theorem dX9_inchesOf_29 : decode cX9_inchesOf 29 = .ok (.iload 4, 2) := by decide +kernel
theorem dX9_inchesOf_31 : decode cX9_inchesOf 31 = .ok (.iaload, 1) := by decide +kernel
theorem dX9_inchesOf_32 : decode cX9_inchesOf 32 = .ok (.iload_n 1, 1) := by decide +kernel
theorem dX9_inchesOf_33 : decode cX9_inchesOf 33 = .ok (.if_icmp .ne 13, 3) := by decide +kernel
theorem dX9_inchesOf_36 : decode cX9_inchesOf 36 = .ok (.aload_n 0, 1) := by decide +kernel
theorem dX9_inchesOf_37 : decode cX9_inchesOf 37 = .ok (.getfield 58, 3) := by decide +kernel
theorem dX9_inchesOf_40 : decode cX9_inchesOf 40 = .ok (.iload 4, 2) := by decide +kernel
theorem dX9_inchesOf_42 : decode cX9_inchesOf 42 = .ok (.iaload, 1) := by decide +kernel
theorem dX9_inchesOf_43 : decode cX9_inchesOf 43 = .ok (.goto 4, 3) := by decide +kernel
theorem dX9_inchesOf_46 : decode cX9_inchesOf 46 = .ok (.iconst 0, 1) := by decide +kernel
theorem dX9_inchesOf_47 : decode cX9_inchesOf 47 = .ok (.iadd, 1) := by decide +kernel
theorem dX9_inchesOf_48 : decode cX9_inchesOf 48 = .ok (.istore_n 3, 1) := by decide +kernel
theorem dX9_inchesOf_49 : decode cX9_inchesOf 49 = .ok (.iinc 4 1, 3) := by decide +kernel
theorem dX9_inchesOf_52 : decode cX9_inchesOf 52 = .ok (.goto (-44), 3) := by decide +kernel
theorem dX9_inchesOf_55 : decode cX9_inchesOf 55 = .ok (.iload_n 3, 1) := by decide +kernel
theorem dX9_inchesOf_56 : decode cX9_inchesOf 56 = .ok (.ireturn, 1) := by decide +kernel
theorem dX9_led_0 : decode cX9_led 0 = .ok (.iload_n 1, 1) := by decide +kernel
theorem dX9_led_1 : decode cX9_led 1 = .ok (.invokestatic 118, 3) := by decide +kernel
theorem dX9_led_4 : decode cX9_led 4 = .ok (.ifCond .ne 5, 3) := by decide +kernel
theorem dX9_led_7 : decode cX9_led 7 = .ok (.iconst (-1), 1) := by decide +kernel
theorem dX9_led_8 : decode cX9_led 8 = .ok (.ireturn, 1) := by decide +kernel
theorem dX9_led_9 : decode cX9_led 9 = .ok (.iload_n 2, 1) := by decide +kernel
theorem dX9_led_10 : decode cX9_led 10 = .ok (.i2l, 1) := by decide +kernel
theorem dX9_led_11 : decode cX9_led 11 = .ok (.lconst 0, 1) := by decide +kernel
theorem dX9_led_12 : decode cX9_led 12 = .ok (.lconst 1, 1) := by decide +kernel
theorem dX9_led_13 : decode cX9_led 13 = .ok (.invokestatic 95, 3) := by decide +kernel
theorem dX9_led_16 : decode cX9_led 16 = .ok (.ifCond .ne 6, 3) := by decide +kernel
theorem dX9_led_19 : decode cX9_led 19 = .ok (.bipush (-2), 2) := by decide +kernel
theorem dX9_led_21 : decode cX9_led 21 = .ok (.ireturn, 1) := by decide +kernel
theorem dX9_led_22 : decode cX9_led 22 = .ok (.aload_n 0, 1) := by decide +kernel
theorem dX9_led_23 : decode cX9_led 23 = .ok (.invokevirtual 159, 3) := by decide +kernel
theorem dX9_led_26 : decode cX9_led 26 = .ok (.iconst 0, 1) := by decide +kernel
theorem dX9_led_27 : decode cX9_led 27 = .ok (.istore_n 3, 1) := by decide +kernel
theorem dX9_led_28 : decode cX9_led 28 = .ok (.iconst 0, 1) := by decide +kernel
theorem dX9_led_29 : decode cX9_led 29 = .ok (.istore 4, 2) := by decide +kernel
theorem dX9_led_31 : decode cX9_led 31 = .ok (.iload 4, 2) := by decide +kernel
theorem dX9_led_33 : decode cX9_led 33 = .ok (.iconst 4, 1) := by decide +kernel
theorem dX9_led_34 : decode cX9_led 34 = .ok (.if_icmp .ge 19, 3) := by decide +kernel
theorem dX9_led_37 : decode cX9_led 37 = .ok (.iload_n 3, 1) := by decide +kernel
theorem dX9_led_38 : decode cX9_led 38 = .ok (.aload_n 0, 1) := by decide +kernel
theorem dX9_led_39 : decode cX9_led 39 = .ok (.iload_n 1, 1) := by decide +kernel
theorem dX9_led_40 : decode cX9_led 40 = .ok (.iload 4, 2) := by decide +kernel
theorem dX9_led_42 : decode cX9_led 42 = .ok (.invokevirtual 197, 3) := by decide +kernel
theorem dX9_led_45 : decode cX9_led 45 = .ok (.iadd, 1) := by decide +kernel
theorem dX9_led_46 : decode cX9_led 46 = .ok (.istore_n 3, 1) := by decide +kernel
theorem dX9_led_47 : decode cX9_led 47 = .ok (.iinc 4 1, 3) := by decide +kernel
theorem dX9_led_50 : decode cX9_led 50 = .ok (.goto (-19), 3) := by decide +kernel
theorem dX9_led_53 : decode cX9_led 53 = .ok (.iload_n 2, 1) := by decide +kernel
theorem dX9_led_54 : decode cX9_led 54 = .ok (.ifCond .ne 7, 3) := by decide +kernel
theorem dX9_led_57 : decode cX9_led 57 = .ok (.iload_n 3, 1) := by decide +kernel
theorem dX9_led_58 : decode cX9_led 58 = .ok (.goto 9, 3) := by decide +kernel
theorem dX9_led_61 : decode cX9_led 61 = .ok (.aload_n 0, 1) := by decide +kernel
theorem dX9_led_62 : decode cX9_led 62 = .ok (.getfield 19, 3) := by decide +kernel
theorem dX9_led_65 : decode cX9_led 65 = .ok (.iload_n 1, 1) := by decide +kernel
theorem dX9_led_66 : decode cX9_led 66 = .ok (.iaload, 1) := by decide +kernel
theorem dX9_led_67 : decode cX9_led 67 = .ok (.ireturn, 1) := by decide +kernel
theorem dX9_load_0 : decode cX9_load 0 = .ok (.iload_n 1, 1) := by decide +kernel
theorem dX9_load_1 : decode cX9_load 1 = .ok (.i2l, 1) := by decide +kernel
theorem dX9_load_2 : decode cX9_load 2 = .ok (.lconst 0, 1) := by decide +kernel
theorem dX9_load_3 : decode cX9_load 3 = .ok (.ldc2_w 202, 3) := by decide +kernel
theorem dX9_load_6 : decode cX9_load 6 = .ok (.invokestatic 95, 3) := by decide +kernel
theorem dX9_load_9 : decode cX9_load 9 = .ok (.ifCond .eq 15, 3) := by decide +kernel
theorem dX9_load_12 : decode cX9_load 12 = .ok (.iload_n 2, 1) := by decide +kernel
theorem dX9_load_13 : decode cX9_load 13 = .ok (.i2l, 1) := by decide +kernel
theorem dX9_load_14 : decode cX9_load 14 = .ok (.lconst 0, 1) := by decide +kernel
theorem dX9_load_15 : decode cX9_load 15 = .ok (.ldc2_w 204, 3) := by decide +kernel
theorem dX9_load_18 : decode cX9_load 18 = .ok (.invokestatic 95, 3) := by decide +kernel
theorem dX9_load_21 : decode cX9_load 21 = .ok (.ifCond .ne 6, 3) := by decide +kernel
theorem dX9_load_24 : decode cX9_load 24 = .ok (.bipush (-2), 2) := by decide +kernel
theorem dX9_load_26 : decode cX9_load 26 = .ok (.ireturn, 1) := by decide +kernel
theorem dX9_load_27 : decode cX9_load 27 = .ok (.aload_n 0, 1) := by decide +kernel
theorem dX9_load_28 : decode cX9_load 28 = .ok (.getfield 206, 3) := by decide +kernel
theorem dX9_load_31 : decode cX9_load 31 = .ok (.bipush 6, 2) := by decide +kernel
theorem dX9_load_33 : decode cX9_load 33 = .ok (.if_icmp .ne 6, 3) := by decide +kernel
theorem dX9_load_36 : decode cX9_load 36 = .ok (.bipush (-4), 2) := by decide +kernel
theorem dX9_load_38 : decode cX9_load 38 = .ok (.ireturn, 1) := by decide +kernel
theorem dX9_load_39 : decode cX9_load 39 = .ok (.aload_n 0, 1) := by decide +kernel
theorem dX9_load_40 : decode cX9_load 40 = .ok (.getfield 34, 3) := by decide +kernel
theorem dX9_load_43 : decode cX9_load 43 = .ok (.aload_n 0, 1) := by decide +kernel
theorem dX9_load_44 : decode cX9_load 44 = .ok (.getfield 206, 3) := by decide +kernel
theorem dX9_load_47 : decode cX9_load 47 = .ok (.iload_n 1, 1) := by decide +kernel
theorem dX9_load_48 : decode cX9_load 48 = .ok (.iastore, 1) := by decide +kernel
theorem dX9_load_49 : decode cX9_load 49 = .ok (.aload_n 0, 1) := by decide +kernel
theorem dX9_load_50 : decode cX9_load 50 = .ok (.getfield 37, 3) := by decide +kernel
theorem dX9_load_53 : decode cX9_load 53 = .ok (.aload_n 0, 1) := by decide +kernel
theorem dX9_load_54 : decode cX9_load 54 = .ok (.getfield 206, 3) := by decide +kernel
theorem dX9_load_57 : decode cX9_load 57 = .ok (.iload_n 2, 1) := by decide +kernel
theorem dX9_load_58 : decode cX9_load 58 = .ok (.iastore, 1) := by decide +kernel
theorem dX9_load_59 : decode cX9_load 59 = .ok (.aload_n 0, 1) := by decide +kernel
theorem dX9_load_60 : decode cX9_load 60 = .ok (.dup, 1) := by decide +kernel
theorem dX9_load_61 : decode cX9_load 61 = .ok (.getfield 206, 3) := by decide +kernel
theorem dX9_load_64 : decode cX9_load 64 = .ok (.iconst 1, 1) := by decide +kernel
theorem dX9_load_65 : decode cX9_load 65 = .ok (.iadd, 1) := by decide +kernel
theorem dX9_load_66 : decode cX9_load 66 = .ok (.putfield 206, 3) := by decide +kernel
theorem dX9_load_69 : decode cX9_load 69 = .ok (.aload_n 0, 1) := by decide +kernel
theorem dX9_load_70 : decode cX9_load 70 = .ok (.getfield 206, 3) := by decide +kernel
theorem dX9_load_73 : decode cX9_load 73 = .ok (.ireturn, 1) := by decide +kernel
theorem dX9_drop_0 : decode cX9_drop 0 = .ok (.aload_n 0, 1) := by decide +kernel
theorem dX9_drop_1 : decode cX9_drop 1 = .ok (.getfield 206, 3) := by decide +kernel
theorem dX9_drop_4 : decode cX9_drop 4 = .ok (.istore_n 1, 1) := by decide +kernel
theorem dX9_drop_5 : decode cX9_drop 5 = .ok (.aload_n 0, 1) := by decide +kernel
theorem dX9_drop_6 : decode cX9_drop 6 = .ok (.iconst 0, 1) := by decide +kernel
theorem dX9_drop_7 : decode cX9_drop 7 = .ok (.putfield 206, 3) := by decide +kernel
theorem dX9_drop_10 : decode cX9_drop 10 = .ok (.iload_n 1, 1) := by decide +kernel
theorem dX9_drop_11 : decode cX9_drop 11 = .ok (.ireturn, 1) := by decide +kernel
theorem dX9_layOrder_0 : decode cX9_layOrder 0 = .ok (.iload_n 1, 1) := by decide +kernel
theorem dX9_layOrder_1 : decode cX9_layOrder 1 = .ok (.istore_n 2, 1) := by decide +kernel
theorem dX9_layOrder_2 : decode cX9_layOrder 2 = .ok (.iconst 0, 1) := by decide +kernel
theorem dX9_layOrder_3 : decode cX9_layOrder 3 = .ok (.istore_n 3, 1) := by decide +kernel
theorem dX9_layOrder_4 : decode cX9_layOrder 4 = .ok (.aload_n 0, 1) := by decide +kernel
theorem dX9_layOrder_5 : decode cX9_layOrder 5 = .ok (.getfield 206, 3) := by decide +kernel
theorem dX9_layOrder_8 : decode cX9_layOrder 8 = .ok (.iconst 1, 1) := by decide +kernel
theorem dX9_layOrder_9 : decode cX9_layOrder 9 = .ok (.isub, 1) := by decide +kernel
theorem dX9_layOrder_10 : decode cX9_layOrder 10 = .ok (.istore 4, 2) := by decide +kernel
theorem dX9_layOrder_12 : decode cX9_layOrder 12 = .ok (.iload 4, 2) := by decide +kernel
theorem dX9_layOrder_14 : decode cX9_layOrder 14 = .ok (.ifCond .lt 41, 3) := by decide +kernel
theorem dX9_layOrder_17 : decode cX9_layOrder 17 = .ok (.aload_n 0, 1) := by decide +kernel
theorem dX9_layOrder_18 : decode cX9_layOrder 18 = .ok (.getfield 70, 3) := by decide +kernel
theorem dX9_layOrder_21 : decode cX9_layOrder 21 = .ok (.iload 4, 2) := by decide +kernel
theorem dX9_layOrder_23 : decode cX9_layOrder 23 = .ok (.iload_n 2, 1) := by decide +kernel
theorem dX9_layOrder_24 : decode cX9_layOrder 24 = .ok (.aload_n 0, 1) := by decide +kernel
theorem dX9_layOrder_25 : decode cX9_layOrder 25 = .ok (.getfield 206, 3) := by decide +kernel
theorem dX9_layOrder_28 : decode cX9_layOrder 28 = .ok (.irem, 1) := by decide +kernel
theorem dX9_layOrder_29 : decode cX9_layOrder 29 = .ok (.iastore, 1) := by decide +kernel
theorem dX9_layOrder_30 : decode cX9_layOrder 30 = .ok (.iload_n 3, 1) := by decide +kernel
theorem dX9_layOrder_31 : decode cX9_layOrder 31 = .ok (.iconst 1, 1) := by decide +kernel
theorem dX9_layOrder_32 : decode cX9_layOrder 32 = .ok (.aload_n 0, 1) := by decide +kernel
theorem dX9_layOrder_33 : decode cX9_layOrder 33 = .ok (.getfield 70, 3) := by decide +kernel
theorem dX9_layOrder_36 : decode cX9_layOrder 36 = .ok (.iload 4, 2) := by decide +kernel
theorem dX9_layOrder_38 : decode cX9_layOrder 38 = .ok (.iaload, 1) := by decide +kernel
theorem dX9_layOrder_39 : decode cX9_layOrder 39 = .ok (.ishl, 1) := by decide +kernel
theorem dX9_layOrder_40 : decode cX9_layOrder 40 = .ok (.ior, 1) := by decide +kernel
theorem dX9_layOrder_41 : decode cX9_layOrder 41 = .ok (.istore_n 3, 1) := by decide +kernel
theorem dX9_layOrder_42 : decode cX9_layOrder 42 = .ok (.iload_n 2, 1) := by decide +kernel
theorem dX9_layOrder_43 : decode cX9_layOrder 43 = .ok (.aload_n 0, 1) := by decide +kernel
theorem dX9_layOrder_44 : decode cX9_layOrder 44 = .ok (.getfield 206, 3) := by decide +kernel
theorem dX9_layOrder_47 : decode cX9_layOrder 47 = .ok (.idiv, 1) := by decide +kernel
theorem dX9_layOrder_48 : decode cX9_layOrder 48 = .ok (.istore_n 2, 1) := by decide +kernel
theorem dX9_layOrder_49 : decode cX9_layOrder 49 = .ok (.iinc 4 (-1), 3) := by decide +kernel
theorem dX9_layOrder_52 : decode cX9_layOrder 52 = .ok (.goto (-40), 3) := by decide +kernel
theorem dX9_layOrder_55 : decode cX9_layOrder 55 = .ok (.iload_n 3, 1) := by decide +kernel
theorem dX9_layOrder_56 : decode cX9_layOrder 56 = .ok (.iconst 1, 1) := by decide +kernel
theorem dX9_layOrder_57 : decode cX9_layOrder 57 = .ok (.aload_n 0, 1) := by decide +kernel
theorem dX9_layOrder_58 : decode cX9_layOrder 58 = .ok (.getfield 206, 3) := by decide +kernel
theorem dX9_layOrder_61 : decode cX9_layOrder 61 = .ok (.ishl, 1) := by decide +kernel
theorem dX9_layOrder_62 : decode cX9_layOrder 62 = .ok (.iconst 1, 1) := by decide +kernel
theorem dX9_layOrder_63 : decode cX9_layOrder 63 = .ok (.isub, 1) := by decide +kernel
theorem dX9_layOrder_64 : decode cX9_layOrder 64 = .ok (.if_icmp .ne 7, 3) := by decide +kernel
theorem dX9_layOrder_67 : decode cX9_layOrder 67 = .ok (.iconst 1, 1) := by decide +kernel
theorem dX9_layOrder_68 : decode cX9_layOrder 68 = .ok (.goto 4, 3) := by decide +kernel
theorem dX9_layOrder_71 : decode cX9_layOrder 71 = .ok (.iconst 0, 1) := by decide +kernel
theorem dX9_layOrder_72 : decode cX9_layOrder 72 = .ok (.ireturn, 1) := by decide +kernel
theorem dX9_worthOfOrder_0 : decode cX9_worthOfOrder 0 = .ok (.aload_n 0, 1) := by decide +kernel
theorem dX9_worthOfOrder_1 : decode cX9_worthOfOrder 1 = .ok (.invokevirtual 159, 3) := by decide +kernel
theorem dX9_worthOfOrder_4 : decode cX9_worthOfOrder 4 = .ok (.iconst 0, 1) := by decide +kernel
theorem dX9_worthOfOrder_5 : decode cX9_worthOfOrder 5 = .ok (.istore_n 1, 1) := by decide +kernel
theorem dX9_worthOfOrder_6 : decode cX9_worthOfOrder 6 = .ok (.iconst 0, 1) := by decide +kernel
theorem dX9_worthOfOrder_7 : decode cX9_worthOfOrder 7 = .ok (.istore_n 2, 1) := by decide +kernel
theorem dX9_worthOfOrder_8 : decode cX9_worthOfOrder 8 = .ok (.iload_n 2, 1) := by decide +kernel
theorem dX9_worthOfOrder_9 : decode cX9_worthOfOrder 9 = .ok (.aload_n 0, 1) := by decide +kernel
theorem dX9_worthOfOrder_10 : decode cX9_worthOfOrder 10 = .ok (.getfield 206, 3) := by decide +kernel
theorem dX9_worthOfOrder_13 : decode cX9_worthOfOrder 13 = .ok (.if_icmp .ge 46, 3) := by decide +kernel
theorem dX9_worthOfOrder_16 : decode cX9_worthOfOrder 16 = .ok (.aload_n 0, 1) := by decide +kernel
theorem dX9_worthOfOrder_17 : decode cX9_worthOfOrder 17 = .ok (.getfield 34, 3) := by decide +kernel
theorem dX9_worthOfOrder_20 : decode cX9_worthOfOrder 20 = .ok (.aload_n 0, 1) := by decide +kernel
theorem dX9_worthOfOrder_21 : decode cX9_worthOfOrder 21 = .ok (.getfield 70, 3) := by decide +kernel
theorem dX9_worthOfOrder_24 : decode cX9_worthOfOrder 24 = .ok (.iload_n 2, 1) := by decide +kernel
theorem dX9_worthOfOrder_25 : decode cX9_worthOfOrder 25 = .ok (.iaload, 1) := by decide +kernel
theorem dX9_worthOfOrder_26 : decode cX9_worthOfOrder 26 = .ok (.iaload, 1) := by decide +kernel
theorem dX9_worthOfOrder_27 : decode cX9_worthOfOrder 27 = .ok (.aload_n 0, 1) := by decide +kernel
theorem dX9_worthOfOrder_28 : decode cX9_worthOfOrder 28 = .ok (.invokevirtual 185, 3) := by decide +kernel
theorem dX9_worthOfOrder_31 : decode cX9_worthOfOrder 31 = .ok (.if_icmp .gt 22, 3) := by decide +kernel
theorem dX9_worthOfOrder_34 : decode cX9_worthOfOrder 34 = .ok (.iload_n 1, 1) := by decide +kernel
theorem dX9_worthOfOrder_35 : decode cX9_worthOfOrder 35 = .ok (.aload_n 0, 1) := by decide +kernel
theorem dX9_worthOfOrder_36 : decode cX9_worthOfOrder 36 = .ok (.getfield 37, 3) := by decide +kernel
theorem dX9_worthOfOrder_39 : decode cX9_worthOfOrder 39 = .ok (.aload_n 0, 1) := by decide +kernel
theorem dX9_worthOfOrder_40 : decode cX9_worthOfOrder 40 = .ok (.getfield 70, 3) := by decide +kernel
theorem dX9_worthOfOrder_43 : decode cX9_worthOfOrder 43 = .ok (.iload_n 2, 1) := by decide +kernel
theorem dX9_worthOfOrder_44 : decode cX9_worthOfOrder 44 = .ok (.iaload, 1) := by decide +kernel
theorem dX9_worthOfOrder_45 : decode cX9_worthOfOrder 45 = .ok (.iaload, 1) := by decide +kernel
theorem dX9_worthOfOrder_46 : decode cX9_worthOfOrder 46 = .ok (.iadd, 1) := by decide +kernel
theorem dX9_worthOfOrder_47 : decode cX9_worthOfOrder 47 = .ok (.istore_n 1, 1) := by decide +kernel
theorem dX9_worthOfOrder_48 : decode cX9_worthOfOrder 48 = .ok (.aload_n 0, 1) := by decide +kernel
theorem dX9_worthOfOrder_49 : decode cX9_worthOfOrder 49 = .ok (.iconst 1, 1) := by decide +kernel
theorem dX9_worthOfOrder_50 : decode cX9_worthOfOrder 50 = .ok (.invokevirtual 111, 3) := by decide +kernel
theorem dX9_worthOfOrder_53 : decode cX9_worthOfOrder 53 = .ok (.iinc 2 1, 3) := by decide +kernel
theorem dX9_worthOfOrder_56 : decode cX9_worthOfOrder 56 = .ok (.goto (-48), 3) := by decide +kernel
theorem dX9_worthOfOrder_59 : decode cX9_worthOfOrder 59 = .ok (.iload_n 1, 1) := by decide +kernel
theorem dX9_worthOfOrder_60 : decode cX9_worthOfOrder 60 = .ok (.ireturn, 1) := by decide +kernel
theorem dX9_best_0 : decode cX9_best 0 = .ok (.iconst 1, 1) := by decide +kernel
theorem dX9_best_1 : decode cX9_best 1 = .ok (.istore_n 2, 1) := by decide +kernel
theorem dX9_best_2 : decode cX9_best 2 = .ok (.iconst 0, 1) := by decide +kernel
theorem dX9_best_3 : decode cX9_best 3 = .ok (.istore_n 3, 1) := by decide +kernel
theorem dX9_best_4 : decode cX9_best 4 = .ok (.iload_n 3, 1) := by decide +kernel
theorem dX9_best_5 : decode cX9_best 5 = .ok (.aload_n 0, 1) := by decide +kernel
theorem dX9_best_6 : decode cX9_best 6 = .ok (.getfield 206, 3) := by decide +kernel
theorem dX9_best_9 : decode cX9_best 9 = .ok (.if_icmp .ge 16, 3) := by decide +kernel
theorem dX9_best_12 : decode cX9_best 12 = .ok (.iload_n 2, 1) := by decide +kernel
theorem dX9_best_13 : decode cX9_best 13 = .ok (.aload_n 0, 1) := by decide +kernel
theorem dX9_best_14 : decode cX9_best 14 = .ok (.getfield 206, 3) := by decide +kernel
theorem dX9_best_17 : decode cX9_best 17 = .ok (.imul, 1) := by decide +kernel
theorem dX9_best_18 : decode cX9_best 18 = .ok (.istore_n 2, 1) := by decide +kernel
theorem dX9_best_19 : decode cX9_best 19 = .ok (.iinc 3 1, 3) := by decide +kernel
theorem dX9_best_22 : decode cX9_best 22 = .ok (.goto (-18), 3) := by decide +kernel
theorem dX9_best_25 : decode cX9_best 25 = .ok (.bipush (-6), 2) := by decide +kernel
theorem dX9_best_27 : decode cX9_best 27 = .ok (.istore_n 3, 1) := by decide +kernel
theorem dX9_best_28 : decode cX9_best 28 = .ok (.iconst 0, 1) := by decide +kernel
theorem dX9_best_29 : decode cX9_best 29 = .ok (.istore 4, 2) := by decide +kernel
theorem dX9_best_31 : decode cX9_best 31 = .ok (.iconst 0, 1) := by decide +kernel
theorem dX9_best_32 : decode cX9_best 32 = .ok (.istore 5, 2) := by decide +kernel
theorem dX9_best_34 : decode cX9_best 34 = .ok (.iload 5, 2) := by decide +kernel
theorem dX9_best_36 : decode cX9_best 36 = .ok (.iload_n 2, 1) := by decide +kernel
theorem dX9_best_37 : decode cX9_best 37 = .ok (.if_icmp .ge 37, 3) := by decide +kernel
theorem dX9_best_40 : decode cX9_best 40 = .ok (.aload_n 0, 1) := by decide +kernel
theorem dX9_best_41 : decode cX9_best 41 = .ok (.iload 5, 2) := by decide +kernel
theorem dX9_best_43 : decode cX9_best 43 = .ok (.invokevirtual 209, 3) := by decide +kernel
theorem dX9_best_46 : decode cX9_best 46 = .ok (.ifCond .eq 22, 3) := by decide +kernel
theorem dX9_best_49 : decode cX9_best 49 = .ok (.aload_n 0, 1) := by decide +kernel
theorem dX9_best_50 : decode cX9_best 50 = .ok (.invokevirtual 212, 3) := by decide +kernel
theorem dX9_best_53 : decode cX9_best 53 = .ok (.istore 6, 2) := by decide +kernel
theorem dX9_best_55 : decode cX9_best 55 = .ok (.iload 6, 2) := by decide +kernel
theorem dX9_best_57 : decode cX9_best 57 = .ok (.iload_n 3, 1) := by decide +kernel
theorem dX9_best_58 : decode cX9_best 58 = .ok (.if_icmp .le 10, 3) := by decide +kernel
theorem dX9_best_61 : decode cX9_best 61 = .ok (.iload 6, 2) := by decide +kernel
theorem dX9_best_63 : decode cX9_best 63 = .ok (.istore_n 3, 1) := by decide +kernel
theorem dX9_best_64 : decode cX9_best 64 = .ok (.iload 5, 2) := by decide +kernel
theorem dX9_best_66 : decode cX9_best 66 = .ok (.istore 4, 2) := by decide +kernel
theorem dX9_best_68 : decode cX9_best 68 = .ok (.iinc 5 1, 3) := by decide +kernel
theorem dX9_best_71 : decode cX9_best 71 = .ok (.goto (-37), 3) := by decide +kernel
theorem dX9_best_74 : decode cX9_best 74 = .ok (.iload_n 1, 1) := by decide +kernel
theorem dX9_best_75 : decode cX9_best 75 = .ok (.iconst (-1), 1) := by decide +kernel
theorem dX9_best_76 : decode cX9_best 76 = .ok (.if_icmp .ne 5, 3) := by decide +kernel
theorem dX9_best_79 : decode cX9_best 79 = .ok (.iload_n 3, 1) := by decide +kernel
theorem dX9_best_80 : decode cX9_best 80 = .ok (.ireturn, 1) := by decide +kernel
theorem dX9_best_81 : decode cX9_best 81 = .ok (.aload_n 0, 1) := by decide +kernel
theorem dX9_best_82 : decode cX9_best 82 = .ok (.iload 4, 2) := by decide +kernel
theorem dX9_best_84 : decode cX9_best 84 = .ok (.invokevirtual 209, 3) := by decide +kernel
theorem dX9_best_87 : decode cX9_best 87 = .ok (.pop, 1) := by decide +kernel
theorem dX9_best_88 : decode cX9_best 88 = .ok (.iload_n 1, 1) := by decide +kernel
theorem dX9_best_89 : decode cX9_best 89 = .ok (.i2l, 1) := by decide +kernel
theorem dX9_best_90 : decode cX9_best 90 = .ok (.lconst 0, 1) := by decide +kernel
theorem dX9_best_91 : decode cX9_best 91 = .ok (.aload_n 0, 1) := by decide +kernel
theorem dX9_best_92 : decode cX9_best 92 = .ok (.getfield 206, 3) := by decide +kernel
theorem dX9_best_95 : decode cX9_best 95 = .ok (.iconst 1, 1) := by decide +kernel
theorem dX9_best_96 : decode cX9_best 96 = .ok (.isub, 1) := by decide +kernel
theorem dX9_best_97 : decode cX9_best 97 = .ok (.i2l, 1) := by decide +kernel
theorem dX9_best_98 : decode cX9_best 98 = .ok (.invokestatic 95, 3) := by decide +kernel
theorem dX9_best_101 : decode cX9_best 101 = .ok (.ifCond .eq 12, 3) := by decide +kernel
theorem dX9_best_104 : decode cX9_best 104 = .ok (.aload_n 0, 1) := by decide +kernel
theorem dX9_best_105 : decode cX9_best 105 = .ok (.getfield 70, 3) := by decide +kernel
theorem dX9_best_108 : decode cX9_best 108 = .ok (.iload_n 1, 1) := by decide +kernel
theorem dX9_best_109 : decode cX9_best 109 = .ok (.iaload, 1) := by decide +kernel
theorem dX9_best_110 : decode cX9_best 110 = .ok (.goto 5, 3) := by decide +kernel
theorem dX9_best_113 : decode cX9_best 113 = .ok (.bipush (-6), 2) := by decide +kernel
theorem dX9_best_115 : decode cX9_best 115 = .ok (.ireturn, 1) := by decide +kernel
theorem dX9_badWeek_0 : decode cX9_badWeek 0 = .ok (.aload_n 0, 1) := by decide +kernel
theorem dX9_badWeek_1 : decode cX9_badWeek 1 = .ok (.invokevirtual 159, 3) := by decide +kernel
theorem dX9_badWeek_4 : decode cX9_badWeek 4 = .ok (.aload_n 0, 1) := by decide +kernel
theorem dX9_badWeek_5 : decode cX9_badWeek 5 = .ok (.iconst 0, 1) := by decide +kernel
theorem dX9_badWeek_6 : decode cX9_badWeek 6 = .ok (.putfield 215, 3) := by decide +kernel
theorem dX9_badWeek_9 : decode cX9_badWeek 9 = .ok (.iconst 1, 1) := by decide +kernel
theorem dX9_badWeek_10 : decode cX9_badWeek 10 = .ok (.istore 4, 2) := by decide +kernel
theorem dX9_badWeek_12 : decode cX9_badWeek 12 = .ok (.iconst 1, 1) := by decide +kernel
theorem dX9_badWeek_13 : decode cX9_badWeek 13 = .ok (.istore 5, 2) := by decide +kernel
theorem dX9_badWeek_15 : decode cX9_badWeek 15 = .ok (.iload 5, 2) := by decide +kernel
theorem dX9_badWeek_17 : decode cX9_badWeek 17 = .ok (.iload_n 2, 1) := by decide +kernel
theorem dX9_badWeek_18 : decode cX9_badWeek 18 = .ok (.if_icmp .ge 16, 3) := by decide +kernel
theorem dX9_badWeek_21 : decode cX9_badWeek 21 = .ok (.iload 4, 2) := by decide +kernel
theorem dX9_badWeek_23 : decode cX9_badWeek 23 = .ok (.bipush 25, 2) := by decide +kernel
theorem dX9_badWeek_25 : decode cX9_badWeek 25 = .ok (.imul, 1) := by decide +kernel
theorem dX9_badWeek_26 : decode cX9_badWeek 26 = .ok (.istore 4, 2) := by decide +kernel
theorem dX9_badWeek_28 : decode cX9_badWeek 28 = .ok (.iinc 5 1, 3) := by decide +kernel
theorem dX9_badWeek_31 : decode cX9_badWeek 31 = .ok (.goto (-16), 3) := by decide +kernel
theorem dX9_badWeek_34 : decode cX9_badWeek 34 = .ok (.iload_n 1, 1) := by decide +kernel
theorem dX9_badWeek_35 : decode cX9_badWeek 35 = .ok (.istore 5, 2) := by decide +kernel
theorem dX9_badWeek_37 : decode cX9_badWeek 37 = .ok (.iconst 0, 1) := by decide +kernel
theorem dX9_badWeek_38 : decode cX9_badWeek 38 = .ok (.istore 6, 2) := by decide +kernel
theorem dX9_badWeek_40 : decode cX9_badWeek 40 = .ok (.iload 6, 2) := by decide +kernel
theorem dX9_badWeek_42 : decode cX9_badWeek 42 = .ok (.iload_n 2, 1) := by decide +kernel
theorem dX9_badWeek_43 : decode cX9_badWeek 43 = .ok (.if_icmp .ge 134, 3) := by decide +kernel
theorem dX9_badWeek_46 : decode cX9_badWeek 46 = .ok (.aload_n 0, 1) := by decide +kernel
theorem dX9_badWeek_47 : decode cX9_badWeek 47 = .ok (.getfield 73, 3) := by decide +kernel
theorem dX9_badWeek_50 : decode cX9_badWeek 50 = .ok (.iload 6, 2) := by decide +kernel
theorem dX9_badWeek_52 : decode cX9_badWeek 52 = .ok (.iload 5, 2) := by decide +kernel
theorem dX9_badWeek_54 : decode cX9_badWeek 54 = .ok (.iload 4, 2) := by decide +kernel
theorem dX9_badWeek_56 : decode cX9_badWeek 56 = .ok (.idiv, 1) := by decide +kernel
theorem dX9_badWeek_57 : decode cX9_badWeek 57 = .ok (.iastore, 1) := by decide +kernel
theorem dX9_badWeek_58 : decode cX9_badWeek 58 = .ok (.iload 5, 2) := by decide +kernel
theorem dX9_badWeek_60 : decode cX9_badWeek 60 = .ok (.iload 4, 2) := by decide +kernel
theorem dX9_badWeek_62 : decode cX9_badWeek 62 = .ok (.irem, 1) := by decide +kernel
theorem dX9_badWeek_63 : decode cX9_badWeek 63 = .ok (.istore 5, 2) := by decide +kernel
theorem dX9_badWeek_65 : decode cX9_badWeek 65 = .ok (.iload 4, 2) := by decide +kernel
theorem dX9_badWeek_67 : decode cX9_badWeek 67 = .ok (.bipush 25, 2) := by decide +kernel
theorem dX9_badWeek_69 : decode cX9_badWeek 69 = .ok (.idiv, 1) := by decide +kernel
theorem dX9_badWeek_70 : decode cX9_badWeek 70 = .ok (.istore 4, 2) := by decide +kernel
theorem dX9_badWeek_72 : decode cX9_badWeek 72 = .ok (.aload_n 0, 1) := by decide +kernel
theorem dX9_badWeek_73 : decode cX9_badWeek 73 = .ok (.getfield 73, 3) := by decide +kernel
theorem dX9_badWeek_76 : decode cX9_badWeek 76 = .ok (.iload 6, 2) := by decide +kernel
theorem dX9_badWeek_78 : decode cX9_badWeek 78 = .ok (.iaload, 1) := by decide +kernel
theorem dX9_badWeek_79 : decode cX9_badWeek 79 = .ok (.iconst 1, 1) := by decide +kernel
theorem dX9_badWeek_80 : decode cX9_badWeek 80 = .ok (.isub, 1) := by decide +kernel
theorem dX9_badWeek_81 : decode cX9_badWeek 81 = .ok (.iconst 4, 1) := by decide +kernel
theorem dX9_badWeek_82 : decode cX9_badWeek 82 = .ok (.idiv, 1) := by decide +kernel
theorem dX9_badWeek_83 : decode cX9_badWeek 83 = .ok (.istore 7, 2) := by decide +kernel
theorem dX9_badWeek_85 : decode cX9_badWeek 85 = .ok (.aload_n 0, 1) := by decide +kernel
theorem dX9_badWeek_86 : decode cX9_badWeek 86 = .ok (.getfield 73, 3) := by decide +kernel
theorem dX9_badWeek_89 : decode cX9_badWeek 89 = .ok (.iload 6, 2) := by decide +kernel
theorem dX9_badWeek_91 : decode cX9_badWeek 91 = .ok (.iaload, 1) := by decide +kernel
theorem dX9_badWeek_92 : decode cX9_badWeek 92 = .ok (.iconst 3, 1) := by decide +kernel
theorem dX9_badWeek_93 : decode cX9_badWeek 93 = .ok (.iadd, 1) := by decide +kernel
theorem dX9_badWeek_94 : decode cX9_badWeek 94 = .ok (.iconst 4, 1) := by decide +kernel
theorem dX9_badWeek_95 : decode cX9_badWeek 95 = .ok (.irem, 1) := by decide +kernel
theorem dX9_badWeek_96 : decode cX9_badWeek 96 = .ok (.istore 8, 2) := by decide +kernel
theorem dX9_badWeek_98 : decode cX9_badWeek 98 = .ok (.aload_n 0, 1) := by decide +kernel
theorem dX9_badWeek_99 : decode cX9_badWeek 99 = .ok (.getfield 73, 3) := by decide +kernel
theorem dX9_badWeek_102 : decode cX9_badWeek 102 = .ok (.iload 6, 2) := by decide +kernel
theorem dX9_badWeek_104 : decode cX9_badWeek 104 = .ok (.iaload, 1) := by decide +kernel
theorem dX9_badWeek_105 : decode cX9_badWeek 105 = .ok (.ifCond .le 17, 3) := by decide +kernel
theorem dX9_badWeek_108 : decode cX9_badWeek 108 = .ok (.aload_n 0, 1) := by decide +kernel
theorem dX9_badWeek_109 : decode cX9_badWeek 109 = .ok (.iload 7, 2) := by decide +kernel
theorem dX9_badWeek_111 : decode cX9_badWeek 111 = .ok (.iload 8, 2) := by decide +kernel
theorem dX9_badWeek_113 : decode cX9_badWeek 113 = .ok (.invokevirtual 152, 3) := by decide +kernel
theorem dX9_badWeek_116 : decode cX9_badWeek 116 = .ok (.ifCond .lt 6, 3) := by decide +kernel
theorem dX9_badWeek_119 : decode cX9_badWeek 119 = .ok (.iload 6, 2) := by decide +kernel
theorem dX9_badWeek_121 : decode cX9_badWeek 121 = .ok (.ireturn, 1) := by decide +kernel
theorem dX9_badWeek_122 : decode cX9_badWeek 122 = .ok (.aload_n 0, 1) := by decide +kernel
theorem dX9_badWeek_123 : decode cX9_badWeek 123 = .ok (.getfield 73, 3) := by decide +kernel
theorem dX9_badWeek_126 : decode cX9_badWeek 126 = .ok (.iload 6, 2) := by decide +kernel
theorem dX9_badWeek_128 : decode cX9_badWeek 128 = .ok (.iaload, 1) := by decide +kernel
theorem dX9_badWeek_129 : decode cX9_badWeek 129 = .ok (.ifCond .le 27, 3) := by decide +kernel
theorem dX9_badWeek_132 : decode cX9_badWeek 132 = .ok (.aload_n 0, 1) := by decide +kernel
theorem dX9_badWeek_133 : decode cX9_badWeek 133 = .ok (.dup, 1) := by decide +kernel
theorem dX9_badWeek_134 : decode cX9_badWeek 134 = .ok (.getfield 215, 3) := by decide +kernel
theorem dX9_badWeek_137 : decode cX9_badWeek 137 = .ok (.aload_n 0, 1) := by decide +kernel
theorem dX9_badWeek_138 : decode cX9_badWeek 138 = .ok (.getfield 49, 3) := by decide +kernel
theorem dX9_badWeek_141 : decode cX9_badWeek 141 = .ok (.iload 7, 2) := by decide +kernel
theorem dX9_badWeek_143 : decode cX9_badWeek 143 = .ok (.iaload, 1) := by decide +kernel
theorem dX9_badWeek_144 : decode cX9_badWeek 144 = .ok (.iadd, 1) := by decide +kernel
theorem dX9_badWeek_145 : decode cX9_badWeek 145 = .ok (.putfield 215, 3) := by decide +kernel
theorem dX9_badWeek_148 : decode cX9_badWeek 148 = .ok (.aload_n 0, 1) := by decide +kernel
theorem dX9_badWeek_149 : decode cX9_badWeek 149 = .ok (.iload 7, 2) := by decide +kernel
theorem dX9_badWeek_151 : decode cX9_badWeek 151 = .ok (.iload 8, 2) := by decide +kernel
theorem dX9_badWeek_153 : decode cX9_badWeek 153 = .ok (.invokevirtual 155, 3) := by decide +kernel
theorem dX9_badWeek_156 : decode cX9_badWeek 156 = .ok (.aload_n 0, 1) := by decide +kernel
theorem dX9_badWeek_157 : decode cX9_badWeek 157 = .ok (.invokevirtual 145, 3) := by decide +kernel
theorem dX9_badWeek_160 : decode cX9_badWeek 160 = .ok (.aload_n 0, 1) := by decide +kernel
theorem dX9_badWeek_161 : decode cX9_badWeek 161 = .ok (.invokevirtual 185, 3) := by decide +kernel
theorem dX9_badWeek_164 : decode cX9_badWeek 164 = .ok (.iload_n 3, 1) := by decide +kernel
theorem dX9_badWeek_165 : decode cX9_badWeek 165 = .ok (.if_icmp .ge 6, 3) := by decide +kernel
theorem dX9_badWeek_168 : decode cX9_badWeek 168 = .ok (.iload 6, 2) := by decide +kernel
theorem dX9_badWeek_170 : decode cX9_badWeek 170 = .ok (.ireturn, 1) := by decide +kernel
theorem dX9_badWeek_171 : decode cX9_badWeek 171 = .ok (.iinc 6 1, 3) := by decide +kernel
theorem dX9_badWeek_174 : decode cX9_badWeek 174 = .ok (.goto (-134), 3) := by decide +kernel
theorem dX9_badWeek_177 : decode cX9_badWeek 177 = .ok (.bipush (-6), 2) := by decide +kernel
theorem dX9_badWeek_179 : decode cX9_badWeek 179 = .ok (.ireturn, 1) := by decide +kernel
theorem dX9_renewed_0 : decode cX9_renewed 0 = .ok (.iload_n 1, 1) := by decide +kernel
theorem dX9_renewed_1 : decode cX9_renewed 1 = .ok (.i2l, 1) := by decide +kernel
theorem dX9_renewed_2 : decode cX9_renewed 2 = .ok (.lconst 0, 1) := by decide +kernel
theorem dX9_renewed_3 : decode cX9_renewed 3 = .ok (.ldc2_w 218, 3) := by decide +kernel
theorem dX9_renewed_6 : decode cX9_renewed 6 = .ok (.invokestatic 95, 3) := by decide +kernel
theorem dX9_renewed_9 : decode cX9_renewed 9 = .ok (.ifCond .eq 30, 3) := by decide +kernel
theorem dX9_renewed_12 : decode cX9_renewed 12 = .ok (.iload_n 2, 1) := by decide +kernel
theorem dX9_renewed_13 : decode cX9_renewed 13 = .ok (.i2l, 1) := by decide +kernel
theorem dX9_renewed_14 : decode cX9_renewed 14 = .ok (.lconst 0, 1) := by decide +kernel
theorem dX9_renewed_15 : decode cX9_renewed 15 = .ok (.ldc2_w 202, 3) := by decide +kernel
theorem dX9_renewed_18 : decode cX9_renewed 18 = .ok (.invokestatic 95, 3) := by decide +kernel
theorem dX9_renewed_21 : decode cX9_renewed 21 = .ok (.ifCond .eq 18, 3) := by decide +kernel
theorem dX9_renewed_24 : decode cX9_renewed 24 = .ok (.iload_n 3, 1) := by decide +kernel
theorem dX9_renewed_25 : decode cX9_renewed 25 = .ok (.i2l, 1) := by decide +kernel
theorem dX9_renewed_26 : decode cX9_renewed 26 = .ok (.ldc2_w 220, 3) := by decide +kernel
theorem dX9_renewed_29 : decode cX9_renewed 29 = .ok (.iload_n 1, 1) := by decide +kernel
theorem dX9_renewed_30 : decode cX9_renewed 30 = .ok (.iconst 1, 1) := by decide +kernel
theorem dX9_renewed_31 : decode cX9_renewed 31 = .ok (.isub, 1) := by decide +kernel
theorem dX9_renewed_32 : decode cX9_renewed 32 = .ok (.i2l, 1) := by decide +kernel
theorem dX9_renewed_33 : decode cX9_renewed 33 = .ok (.invokestatic 95, 3) := by decide +kernel
theorem dX9_renewed_36 : decode cX9_renewed 36 = .ok (.ifCond .ne 6, 3) := by decide +kernel
theorem dX9_renewed_39 : decode cX9_renewed 39 = .ok (.bipush (-2), 2) := by decide +kernel
theorem dX9_renewed_41 : decode cX9_renewed 41 = .ok (.ireturn, 1) := by decide +kernel
theorem dX9_renewed_42 : decode cX9_renewed 42 = .ok (.iconst 1, 1) := by decide +kernel
theorem dX9_renewed_43 : decode cX9_renewed 43 = .ok (.istore 4, 2) := by decide +kernel
theorem dX9_renewed_45 : decode cX9_renewed 45 = .ok (.iconst 0, 1) := by decide +kernel
theorem dX9_renewed_46 : decode cX9_renewed 46 = .ok (.istore 5, 2) := by decide +kernel
theorem dX9_renewed_48 : decode cX9_renewed 48 = .ok (.iload 5, 2) := by decide +kernel
theorem dX9_renewed_50 : decode cX9_renewed 50 = .ok (.iload_n 1, 1) := by decide +kernel
theorem dX9_renewed_51 : decode cX9_renewed 51 = .ok (.if_icmp .ge 16, 3) := by decide +kernel
theorem dX9_renewed_54 : decode cX9_renewed 54 = .ok (.iload 4, 2) := by decide +kernel
theorem dX9_renewed_56 : decode cX9_renewed 56 = .ok (.bipush 25, 2) := by decide +kernel
theorem dX9_renewed_58 : decode cX9_renewed 58 = .ok (.imul, 1) := by decide +kernel
theorem dX9_renewed_59 : decode cX9_renewed 59 = .ok (.istore 4, 2) := by decide +kernel
theorem dX9_renewed_61 : decode cX9_renewed 61 = .ok (.iinc 5 1, 3) := by decide +kernel
theorem dX9_renewed_64 : decode cX9_renewed 64 = .ok (.goto (-16), 3) := by decide +kernel
theorem dX9_renewed_67 : decode cX9_renewed 67 = .ok (.bipush (-6), 2) := by decide +kernel
theorem dX9_renewed_69 : decode cX9_renewed 69 = .ok (.istore 5, 2) := by decide +kernel
theorem dX9_renewed_71 : decode cX9_renewed 71 = .ok (.iconst 0, 1) := by decide +kernel
theorem dX9_renewed_72 : decode cX9_renewed 72 = .ok (.istore 6, 2) := by decide +kernel
theorem dX9_renewed_74 : decode cX9_renewed 74 = .ok (.iload 6, 2) := by decide +kernel
theorem dX9_renewed_76 : decode cX9_renewed 76 = .ok (.iload 4, 2) := by decide +kernel
theorem dX9_renewed_78 : decode cX9_renewed 78 = .ok (.if_icmp .ge 114, 3) := by decide +kernel
theorem dX9_renewed_81 : decode cX9_renewed 81 = .ok (.aload_n 0, 1) := by decide +kernel
theorem dX9_renewed_82 : decode cX9_renewed 82 = .ok (.iload 6, 2) := by decide +kernel
theorem dX9_renewed_84 : decode cX9_renewed 84 = .ok (.iload_n 1, 1) := by decide +kernel
theorem dX9_renewed_85 : decode cX9_renewed 85 = .ok (.iload_n 2, 1) := by decide +kernel
theorem dX9_renewed_86 : decode cX9_renewed 86 = .ok (.invokevirtual 222, 3) := by decide +kernel
theorem dX9_renewed_89 : decode cX9_renewed 89 = .ok (.istore 7, 2) := by decide +kernel
theorem dX9_renewed_91 : decode cX9_renewed 91 = .ok (.iload 7, 2) := by decide +kernel
theorem dX9_renewed_93 : decode cX9_renewed 93 = .ok (.ifCond .ge 52, 3) := by decide +kernel
theorem dX9_renewed_96 : decode cX9_renewed 96 = .ok (.iload 5, 2) := by decide +kernel
theorem dX9_renewed_98 : decode cX9_renewed 98 = .ok (.ifCond .lt 12, 3) := by decide +kernel
theorem dX9_renewed_101 : decode cX9_renewed 101 = .ok (.aload_n 0, 1) := by decide +kernel
theorem dX9_renewed_102 : decode cX9_renewed 102 = .ok (.getfield 215, 3) := by decide +kernel
theorem dX9_renewed_105 : decode cX9_renewed 105 = .ok (.iload 5, 2) := by decide +kernel
theorem dX9_renewed_107 : decode cX9_renewed 107 = .ok (.if_icmp .ge 38, 3) := by decide +kernel
theorem dX9_renewed_110 : decode cX9_renewed 110 = .ok (.aload_n 0, 1) := by decide +kernel
theorem dX9_renewed_111 : decode cX9_renewed 111 = .ok (.getfield 215, 3) := by decide +kernel
theorem dX9_renewed_114 : decode cX9_renewed 114 = .ok (.istore 5, 2) := by decide +kernel
theorem dX9_renewed_116 : decode cX9_renewed 116 = .ok (.iconst 0, 1) := by decide +kernel
theorem dX9_renewed_117 : decode cX9_renewed 117 = .ok (.istore 8, 2) := by decide +kernel
theorem dX9_renewed_119 : decode cX9_renewed 119 = .ok (.iload 8, 2) := by decide +kernel
theorem dX9_renewed_121 : decode cX9_renewed 121 = .ok (.iload_n 1, 1) := by decide +kernel
theorem dX9_renewed_122 : decode cX9_renewed 122 = .ok (.if_icmp .ge 23, 3) := by decide +kernel
theorem dX9_renewed_125 : decode cX9_renewed 125 = .ok (.aload_n 0, 1) := by decide +kernel
theorem dX9_renewed_126 : decode cX9_renewed 126 = .ok (.getfield 76, 3) := by decide +kernel
theorem dX9_renewed_129 : decode cX9_renewed 129 = .ok (.iload 8, 2) := by decide +kernel
theorem dX9_renewed_131 : decode cX9_renewed 131 = .ok (.aload_n 0, 1) := by decide +kernel
theorem dX9_renewed_132 : decode cX9_renewed 132 = .ok (.getfield 73, 3) := by decide +kernel
theorem dX9_renewed_135 : decode cX9_renewed 135 = .ok (.iload 8, 2) := by decide +kernel
theorem dX9_renewed_137 : decode cX9_renewed 137 = .ok (.iaload, 1) := by decide +kernel
theorem dX9_renewed_138 : decode cX9_renewed 138 = .ok (.iastore, 1) := by decide +kernel
theorem dX9_renewed_139 : decode cX9_renewed 139 = .ok (.iinc 8 1, 3) := by decide +kernel
theorem dX9_renewed_142 : decode cX9_renewed 142 = .ok (.goto (-23), 3) := by decide +kernel
theorem dX9_renewed_145 : decode cX9_renewed 145 = .ok (.iconst 1, 1) := by decide +kernel
theorem dX9_renewed_146 : decode cX9_renewed 146 = .ok (.istore 8, 2) := by decide +kernel
theorem dX9_renewed_148 : decode cX9_renewed 148 = .ok (.iload 7, 2) := by decide +kernel
theorem dX9_renewed_150 : decode cX9_renewed 150 = .ok (.ifCond .ge 7, 3) := by decide +kernel
theorem dX9_renewed_153 : decode cX9_renewed 153 = .ok (.iload_n 1, 1) := by decide +kernel
theorem dX9_renewed_154 : decode cX9_renewed 154 = .ok (.goto 7, 3) := by decide +kernel
theorem dX9_renewed_157 : decode cX9_renewed 157 = .ok (.iload 7, 2) := by decide +kernel
theorem dX9_renewed_159 : decode cX9_renewed 159 = .ok (.iconst 1, 1) := by decide +kernel
theorem dX9_renewed_160 : decode cX9_renewed 160 = .ok (.iadd, 1) := by decide +kernel
theorem dX9_renewed_161 : decode cX9_renewed 161 = .ok (.istore 9, 2) := by decide +kernel
theorem dX9_renewed_163 : decode cX9_renewed 163 = .ok (.iload 9, 2) := by decide +kernel
theorem dX9_renewed_165 : decode cX9_renewed 165 = .ok (.iload_n 1, 1) := by decide +kernel
theorem dX9_renewed_166 : decode cX9_renewed 166 = .ok (.if_icmp .ge 16, 3) := by decide +kernel
theorem dX9_renewed_169 : decode cX9_renewed 169 = .ok (.iload 8, 2) := by decide +kernel
theorem dX9_renewed_171 : decode cX9_renewed 171 = .ok (.bipush 25, 2) := by decide +kernel
theorem dX9_renewed_173 : decode cX9_renewed 173 = .ok (.imul, 1) := by decide +kernel
theorem dX9_renewed_174 : decode cX9_renewed 174 = .ok (.istore 8, 2) := by decide +kernel
theorem dX9_renewed_176 : decode cX9_renewed 176 = .ok (.iinc 9 1, 3) := by decide +kernel
theorem dX9_renewed_179 : decode cX9_renewed 179 = .ok (.goto (-16), 3) := by decide +kernel
theorem dX9_renewed_182 : decode cX9_renewed 182 = .ok (.iload 6, 2) := by decide +kernel
theorem dX9_renewed_184 : decode cX9_renewed 184 = .ok (.iload 8, 2) := by decide +kernel
theorem dX9_renewed_186 : decode cX9_renewed 186 = .ok (.iadd, 1) := by decide +kernel
theorem dX9_renewed_187 : decode cX9_renewed 187 = .ok (.istore 6, 2) := by decide +kernel
theorem dX9_renewed_189 : decode cX9_renewed 189 = .ok (.goto (-115), 3) := by decide +kernel
theorem dX9_renewed_192 : decode cX9_renewed 192 = .ok (.iload 5, 2) := by decide +kernel
theorem dX9_renewed_194 : decode cX9_renewed 194 = .ok (.ifCond .lt 8, 3) := by decide +kernel
theorem dX9_renewed_197 : decode cX9_renewed 197 = .ok (.iload_n 3, 1) := by decide +kernel
theorem dX9_renewed_198 : decode cX9_renewed 198 = .ok (.iconst (-1), 1) := by decide +kernel
theorem dX9_renewed_199 : decode cX9_renewed 199 = .ok (.if_icmp .ne 6, 3) := by decide +kernel
theorem dX9_renewed_202 : decode cX9_renewed 202 = .ok (.iload 5, 2) := by decide +kernel
theorem dX9_renewed_204 : decode cX9_renewed 204 = .ok (.ireturn, 1) := by decide +kernel
theorem dX9_renewed_205 : decode cX9_renewed 205 = .ok (.aload_n 0, 1) := by decide +kernel
theorem dX9_renewed_206 : decode cX9_renewed 206 = .ok (.getfield 76, 3) := by decide +kernel
theorem dX9_renewed_209 : decode cX9_renewed 209 = .ok (.iload_n 3, 1) := by decide +kernel
theorem dX9_renewed_210 : decode cX9_renewed 210 = .ok (.iaload, 1) := by decide +kernel
theorem dX9_renewed_211 : decode cX9_renewed 211 = .ok (.istore 7, 2) := by decide +kernel
theorem dX9_renewed_213 : decode cX9_renewed 213 = .ok (.iload 7, 2) := by decide +kernel
theorem dX9_renewed_215 : decode cX9_renewed 215 = .ok (.ifCond .ne 8, 3) := by decide +kernel
theorem dX9_renewed_218 : decode cX9_renewed 218 = .ok (.bipush (-6), 2) := by decide +kernel
theorem dX9_renewed_220 : decode cX9_renewed 220 = .ok (.goto 19, 3) := by decide +kernel
theorem dX9_renewed_223 : decode cX9_renewed 223 = .ok (.bipush 10, 2) := by decide +kernel
theorem dX9_renewed_225 : decode cX9_renewed 225 = .ok (.iload 7, 2) := by decide +kernel
theorem dX9_renewed_227 : decode cX9_renewed 227 = .ok (.iconst 1, 1) := by decide +kernel
theorem dX9_renewed_228 : decode cX9_renewed 228 = .ok (.isub, 1) := by decide +kernel
theorem dX9_renewed_229 : decode cX9_renewed 229 = .ok (.iconst 4, 1) := by decide +kernel
theorem dX9_renewed_230 : decode cX9_renewed 230 = .ok (.idiv, 1) := by decide +kernel
theorem dX9_renewed_231 : decode cX9_renewed 231 = .ok (.imul, 1) := by decide +kernel
theorem dX9_renewed_232 : decode cX9_renewed 232 = .ok (.iload 7, 2) := by decide +kernel
theorem dX9_renewed_234 : decode cX9_renewed 234 = .ok (.iconst 1, 1) := by decide +kernel
theorem dX9_renewed_235 : decode cX9_renewed 235 = .ok (.isub, 1) := by decide +kernel
theorem dX9_renewed_236 : decode cX9_renewed 236 = .ok (.iconst 4, 1) := by decide +kernel
theorem dX9_renewed_237 : decode cX9_renewed 237 = .ok (.irem, 1) := by decide +kernel
theorem dX9_renewed_238 : decode cX9_renewed 238 = .ok (.iadd, 1) := by decide +kernel
theorem dX9_renewed_239 : decode cX9_renewed 239 = .ok (.ireturn, 1) := by decide +kernel
theorem dX9_sinAll_0 : decode cX9_sinAll 0 = .ok (.iconst 0, 1) := by decide +kernel
theorem dX9_sinAll_1 : decode cX9_sinAll 1 = .ok (.istore 4, 2) := by decide +kernel
theorem dX9_sinAll_3 : decode cX9_sinAll 3 = .ok (.iload 4, 2) := by decide +kernel
theorem dX9_sinAll_5 : decode cX9_sinAll 5 = .ok (.bipush 6, 2) := by decide +kernel
theorem dX9_sinAll_7 : decode cX9_sinAll 7 = .ok (.if_icmp .ge 94, 3) := by decide +kernel
theorem dX9_sinAll_10 : decode cX9_sinAll 10 = .ok (.iload_n 1, 1) := by decide +kernel
theorem dX9_sinAll_11 : decode cX9_sinAll 11 = .ok (.iload 4, 2) := by decide +kernel
theorem dX9_sinAll_13 : decode cX9_sinAll 13 = .ok (.ishr, 1) := by decide +kernel
theorem dX9_sinAll_14 : decode cX9_sinAll 14 = .ok (.iconst 1, 1) := by decide +kernel
theorem dX9_sinAll_15 : decode cX9_sinAll 15 = .ok (.iand, 1) := by decide +kernel
theorem dX9_sinAll_16 : decode cX9_sinAll 16 = .ok (.iconst 1, 1) := by decide +kernel
theorem dX9_sinAll_17 : decode cX9_sinAll 17 = .ok (.if_icmp .ne 78, 3) := by decide +kernel
theorem dX9_sinAll_20 : decode cX9_sinAll 20 = .ok (.aload_n 0, 1) := by decide +kernel
theorem dX9_sinAll_21 : decode cX9_sinAll 21 = .ok (.getfield 46, 3) := by decide +kernel
theorem dX9_sinAll_24 : decode cX9_sinAll 24 = .ok (.iload 4, 2) := by decide +kernel
theorem dX9_sinAll_26 : decode cX9_sinAll 26 = .ok (.iaload, 1) := by decide +kernel
theorem dX9_sinAll_27 : decode cX9_sinAll 27 = .ok (.iload_n 2, 1) := by decide +kernel
theorem dX9_sinAll_28 : decode cX9_sinAll 28 = .ok (.iadd, 1) := by decide +kernel
theorem dX9_sinAll_29 : decode cX9_sinAll 29 = .ok (.bipush 40, 2) := by decide +kernel
theorem dX9_sinAll_31 : decode cX9_sinAll 31 = .ok (.if_icmp .le 8, 3) := by decide +kernel
theorem dX9_sinAll_34 : decode cX9_sinAll 34 = .ok (.bipush 40, 2) := by decide +kernel
theorem dX9_sinAll_36 : decode cX9_sinAll 36 = .ok (.goto 12, 3) := by decide +kernel
theorem dX9_sinAll_39 : decode cX9_sinAll 39 = .ok (.aload_n 0, 1) := by decide +kernel
theorem dX9_sinAll_40 : decode cX9_sinAll 40 = .ok (.getfield 46, 3) := by decide +kernel
theorem dX9_sinAll_43 : decode cX9_sinAll 43 = .ok (.iload 4, 2) := by decide +kernel
theorem dX9_sinAll_45 : decode cX9_sinAll 45 = .ok (.iaload, 1) := by decide +kernel
theorem dX9_sinAll_46 : decode cX9_sinAll 46 = .ok (.iload_n 2, 1) := by decide +kernel
theorem dX9_sinAll_47 : decode cX9_sinAll 47 = .ok (.iadd, 1) := by decide +kernel
theorem dX9_sinAll_48 : decode cX9_sinAll 48 = .ok (.istore 5, 2) := by decide +kernel
theorem dX9_sinAll_50 : decode cX9_sinAll 50 = .ok (.aload_n 0, 1) := by decide +kernel
theorem dX9_sinAll_51 : decode cX9_sinAll 51 = .ok (.getfield 49, 3) := by decide +kernel
theorem dX9_sinAll_54 : decode cX9_sinAll 54 = .ok (.iload 4, 2) := by decide +kernel
theorem dX9_sinAll_56 : decode cX9_sinAll 56 = .ok (.aload_n 0, 1) := by decide +kernel
theorem dX9_sinAll_57 : decode cX9_sinAll 57 = .ok (.getfield 49, 3) := by decide +kernel
theorem dX9_sinAll_60 : decode cX9_sinAll 60 = .ok (.iload 4, 2) := by decide +kernel
theorem dX9_sinAll_62 : decode cX9_sinAll 62 = .ok (.iaload, 1) := by decide +kernel
theorem dX9_sinAll_63 : decode cX9_sinAll 63 = .ok (.iload 5, 2) := by decide +kernel
theorem dX9_sinAll_65 : decode cX9_sinAll 65 = .ok (.iadd, 1) := by decide +kernel
theorem dX9_sinAll_66 : decode cX9_sinAll 66 = .ok (.bipush 99, 2) := by decide +kernel
theorem dX9_sinAll_68 : decode cX9_sinAll 68 = .ok (.if_icmp .le 8, 3) := by decide +kernel
theorem dX9_sinAll_71 : decode cX9_sinAll 71 = .ok (.bipush 99, 2) := by decide +kernel
theorem dX9_sinAll_73 : decode cX9_sinAll 73 = .ok (.goto 13, 3) := by decide +kernel
theorem dX9_sinAll_76 : decode cX9_sinAll 76 = .ok (.aload_n 0, 1) := by decide +kernel
theorem dX9_sinAll_77 : decode cX9_sinAll 77 = .ok (.getfield 49, 3) := by decide +kernel
theorem dX9_sinAll_80 : decode cX9_sinAll 80 = .ok (.iload 4, 2) := by decide +kernel
theorem dX9_sinAll_82 : decode cX9_sinAll 82 = .ok (.iaload, 1) := by decide +kernel
theorem dX9_sinAll_83 : decode cX9_sinAll 83 = .ok (.iload 5, 2) := by decide +kernel
theorem dX9_sinAll_85 : decode cX9_sinAll 85 = .ok (.iadd, 1) := by decide +kernel
theorem dX9_sinAll_86 : decode cX9_sinAll 86 = .ok (.iastore, 1) := by decide +kernel
theorem dX9_sinAll_87 : decode cX9_sinAll 87 = .ok (.aload_n 0, 1) := by decide +kernel
theorem dX9_sinAll_88 : decode cX9_sinAll 88 = .ok (.getfield 46, 3) := by decide +kernel
theorem dX9_sinAll_91 : decode cX9_sinAll 91 = .ok (.iload 4, 2) := by decide +kernel
theorem dX9_sinAll_93 : decode cX9_sinAll 93 = .ok (.iconst 0, 1) := by decide +kernel
theorem dX9_sinAll_94 : decode cX9_sinAll 94 = .ok (.iastore, 1) := by decide +kernel
theorem dX9_sinAll_95 : decode cX9_sinAll 95 = .ok (.iinc 4 1, 3) := by decide +kernel
theorem dX9_sinAll_98 : decode cX9_sinAll 98 = .ok (.goto (-95), 3) := by decide +kernel
theorem dX9_sinAll_101 : decode cX9_sinAll 101 = .ok (.iconst 0, 1) := by decide +kernel
theorem dX9_sinAll_102 : decode cX9_sinAll 102 = .ok (.istore 4, 2) := by decide +kernel
theorem dX9_sinAll_104 : decode cX9_sinAll 104 = .ok (.iload 4, 2) := by decide +kernel
theorem dX9_sinAll_106 : decode cX9_sinAll 106 = .ok (.bipush 6, 2) := by decide +kernel
theorem dX9_sinAll_108 : decode cX9_sinAll 108 = .ok (.if_icmp .ge 38, 3) := by decide +kernel
theorem dX9_sinAll_111 : decode cX9_sinAll 111 = .ok (.iload_n 1, 1) := by decide +kernel
theorem dX9_sinAll_112 : decode cX9_sinAll 112 = .ok (.iload 4, 2) := by decide +kernel
theorem dX9_sinAll_114 : decode cX9_sinAll 114 = .ok (.ishr, 1) := by decide +kernel
theorem dX9_sinAll_115 : decode cX9_sinAll 115 = .ok (.iconst 1, 1) := by decide +kernel
theorem dX9_sinAll_116 : decode cX9_sinAll 116 = .ok (.iand, 1) := by decide +kernel
theorem dX9_sinAll_117 : decode cX9_sinAll 117 = .ok (.iconst 1, 1) := by decide +kernel
theorem dX9_sinAll_118 : decode cX9_sinAll 118 = .ok (.if_icmp .ne 22, 3) := by decide +kernel
theorem dX9_sinAll_121 : decode cX9_sinAll 121 = .ok (.aload_n 0, 1) := by decide +kernel
theorem dX9_sinAll_122 : decode cX9_sinAll 122 = .ok (.iload 4, 2) := by decide +kernel
theorem dX9_sinAll_124 : decode cX9_sinAll 124 = .ok (.iload_n 3, 1) := by decide +kernel
theorem dX9_sinAll_125 : decode cX9_sinAll 125 = .ok (.invokevirtual 152, 3) := by decide +kernel
theorem dX9_sinAll_128 : decode cX9_sinAll 128 = .ok (.bipush (-6), 2) := by decide +kernel
theorem dX9_sinAll_130 : decode cX9_sinAll 130 = .ok (.if_icmp .ne 10, 3) := by decide +kernel
theorem dX9_sinAll_133 : decode cX9_sinAll 133 = .ok (.aload_n 0, 1) := by decide +kernel
theorem dX9_sinAll_134 : decode cX9_sinAll 134 = .ok (.iload 4, 2) := by decide +kernel
theorem dX9_sinAll_136 : decode cX9_sinAll 136 = .ok (.iload_n 3, 1) := by decide +kernel
theorem dX9_sinAll_137 : decode cX9_sinAll 137 = .ok (.invokevirtual 155, 3) := by decide +kernel
theorem dX9_sinAll_140 : decode cX9_sinAll 140 = .ok (.iinc 4 1, 3) := by decide +kernel
theorem dX9_sinAll_143 : decode cX9_sinAll 143 = .ok (.goto (-39), 3) := by decide +kernel
theorem dX9_sinAll_146 : decode cX9_sinAll 146 = .ok (.return_, 1) := by decide +kernel
theorem dX9_soon_0 : decode cX9_soon 0 = .ok (.iload_n 3, 1) := by decide +kernel
theorem dX9_soon_1 : decode cX9_soon 1 = .ok (.invokestatic 182, 3) := by decide +kernel
theorem dX9_soon_4 : decode cX9_soon 4 = .ok (.ifCond .ne 5, 3) := by decide +kernel
theorem dX9_soon_7 : decode cX9_soon 7 = .ok (.iconst (-1), 1) := by decide +kernel
theorem dX9_soon_8 : decode cX9_soon 8 = .ok (.ireturn, 1) := by decide +kernel
theorem dX9_soon_9 : decode cX9_soon 9 = .ok (.iload_n 1, 1) := by decide +kernel
theorem dX9_soon_10 : decode cX9_soon 10 = .ok (.i2l, 1) := by decide +kernel
theorem dX9_soon_11 : decode cX9_soon 11 = .ok (.lconst 1, 1) := by decide +kernel
theorem dX9_soon_12 : decode cX9_soon 12 = .ok (.ldc2_w 226, 3) := by decide +kernel
theorem dX9_soon_15 : decode cX9_soon 15 = .ok (.invokestatic 95, 3) := by decide +kernel
theorem dX9_soon_18 : decode cX9_soon 18 = .ok (.ifCond .eq 28, 3) := by decide +kernel
theorem dX9_soon_21 : decode cX9_soon 21 = .ok (.iload_n 2, 1) := by decide +kernel
theorem dX9_soon_22 : decode cX9_soon 22 = .ok (.i2l, 1) := by decide +kernel
theorem dX9_soon_23 : decode cX9_soon 23 = .ok (.lconst 1, 1) := by decide +kernel
theorem dX9_soon_24 : decode cX9_soon 24 = .ok (.ldc2_w 124, 3) := by decide +kernel
theorem dX9_soon_27 : decode cX9_soon 27 = .ok (.invokestatic 95, 3) := by decide +kernel
theorem dX9_soon_30 : decode cX9_soon 30 = .ok (.ifCond .eq 16, 3) := by decide +kernel
theorem dX9_soon_33 : decode cX9_soon 33 = .ok (.iload 4, 2) := by decide +kernel
theorem dX9_soon_35 : decode cX9_soon 35 = .ok (.i2l, 1) := by decide +kernel
theorem dX9_soon_36 : decode cX9_soon 36 = .ok (.lconst 0, 1) := by decide +kernel
theorem dX9_soon_37 : decode cX9_soon 37 = .ok (.ldc2_w 202, 3) := by decide +kernel
theorem dX9_soon_40 : decode cX9_soon 40 = .ok (.invokestatic 95, 3) := by decide +kernel
theorem dX9_soon_43 : decode cX9_soon 43 = .ok (.ifCond .ne 6, 3) := by decide +kernel
theorem dX9_soon_46 : decode cX9_soon 46 = .ok (.bipush (-2), 2) := by decide +kernel
theorem dX9_soon_48 : decode cX9_soon 48 = .ok (.ireturn, 1) := by decide +kernel
theorem dX9_soon_49 : decode cX9_soon 49 = .ok (.aload_n 0, 1) := by decide +kernel
theorem dX9_soon_50 : decode cX9_soon 50 = .ok (.invokevirtual 159, 3) := by decide +kernel
theorem dX9_soon_53 : decode cX9_soon 53 = .ok (.iconst 0, 1) := by decide +kernel
theorem dX9_soon_54 : decode cX9_soon 54 = .ok (.istore 5, 2) := by decide +kernel
theorem dX9_soon_56 : decode cX9_soon 56 = .ok (.iload 5, 2) := by decide +kernel
theorem dX9_soon_58 : decode cX9_soon 58 = .ok (.bipush 30, 2) := by decide +kernel
theorem dX9_soon_60 : decode cX9_soon 60 = .ok (.if_icmp .gt 32, 3) := by decide +kernel
theorem dX9_soon_63 : decode cX9_soon 63 = .ok (.aload_n 0, 1) := by decide +kernel
theorem dX9_soon_64 : decode cX9_soon 64 = .ok (.invokevirtual 185, 3) := by decide +kernel
theorem dX9_soon_67 : decode cX9_soon 67 = .ok (.iload 4, 2) := by decide +kernel
theorem dX9_soon_69 : decode cX9_soon 69 = .ok (.if_icmp .lt 6, 3) := by decide +kernel
theorem dX9_soon_72 : decode cX9_soon 72 = .ok (.iload 5, 2) := by decide +kernel
theorem dX9_soon_74 : decode cX9_soon 74 = .ok (.ireturn, 1) := by decide +kernel
theorem dX9_soon_75 : decode cX9_soon 75 = .ok (.aload_n 0, 1) := by decide +kernel
theorem dX9_soon_76 : decode cX9_soon 76 = .ok (.iload_n 1, 1) := by decide +kernel
theorem dX9_soon_77 : decode cX9_soon 77 = .ok (.iload_n 2, 1) := by decide +kernel
theorem dX9_soon_78 : decode cX9_soon 78 = .ok (.iload_n 3, 1) := by decide +kernel
theorem dX9_soon_79 : decode cX9_soon 79 = .ok (.invokevirtual 228, 3) := by decide +kernel
theorem dX9_soon_82 : decode cX9_soon 82 = .ok (.aload_n 0, 1) := by decide +kernel
theorem dX9_soon_83 : decode cX9_soon 83 = .ok (.invokevirtual 145, 3) := by decide +kernel
theorem dX9_soon_86 : decode cX9_soon 86 = .ok (.iinc 5 1, 3) := by decide +kernel
theorem dX9_soon_89 : decode cX9_soon 89 = .ok (.goto (-33), 3) := by decide +kernel
theorem dX9_soon_92 : decode cX9_soon 92 = .ok (.bipush (-6), 2) := by decide +kernel
theorem dX9_soon_94 : decode cX9_soon 94 = .ok (.ireturn, 1) := by decide +kernel
theorem dX9_weighed_0 : decode cX9_weighed 0 = .ok (.iload_n 1, 1) := by decide +kernel
theorem dX9_weighed_1 : decode cX9_weighed 1 = .ok (.i2l, 1) := by decide +kernel
theorem dX9_weighed_2 : decode cX9_weighed 2 = .ok (.lconst 1, 1) := by decide +kernel
theorem dX9_weighed_3 : decode cX9_weighed 3 = .ok (.ldc2_w 226, 3) := by decide +kernel
theorem dX9_weighed_6 : decode cX9_weighed 6 = .ok (.invokestatic 95, 3) := by decide +kernel
theorem dX9_weighed_9 : decode cX9_weighed 9 = .ok (.ifCond .eq 15, 3) := by decide +kernel
theorem dX9_weighed_12 : decode cX9_weighed 12 = .ok (.iload_n 2, 1) := by decide +kernel
theorem dX9_weighed_13 : decode cX9_weighed 13 = .ok (.i2l, 1) := by decide +kernel
theorem dX9_weighed_14 : decode cX9_weighed 14 = .ok (.lconst 0, 1) := by decide +kernel
theorem dX9_weighed_15 : decode cX9_weighed 15 = .ok (.ldc2_w 232, 3) := by decide +kernel
theorem dX9_weighed_18 : decode cX9_weighed 18 = .ok (.invokestatic 95, 3) := by decide +kernel
theorem dX9_weighed_21 : decode cX9_weighed 21 = .ok (.ifCond .ne 6, 3) := by decide +kernel
theorem dX9_weighed_24 : decode cX9_weighed 24 = .ok (.bipush (-2), 2) := by decide +kernel
theorem dX9_weighed_26 : decode cX9_weighed 26 = .ok (.ireturn, 1) := by decide +kernel
theorem dX9_weighed_27 : decode cX9_weighed 27 = .ok (.aload_n 0, 1) := by decide +kernel
theorem dX9_weighed_28 : decode cX9_weighed 28 = .ok (.getfield 234, 3) := by decide +kernel
theorem dX9_weighed_31 : decode cX9_weighed 31 = .ok (.bipush 6, 2) := by decide +kernel
theorem dX9_weighed_33 : decode cX9_weighed 33 = .ok (.if_icmp .ne 6, 3) := by decide +kernel
theorem dX9_weighed_36 : decode cX9_weighed 36 = .ok (.bipush (-4), 2) := by decide +kernel
theorem dX9_weighed_38 : decode cX9_weighed 38 = .ok (.ireturn, 1) := by decide +kernel
theorem dX9_weighed_39 : decode cX9_weighed 39 = .ok (.aload_n 0, 1) := by decide +kernel
theorem dX9_weighed_40 : decode cX9_weighed 40 = .ok (.getfield 40, 3) := by decide +kernel
theorem dX9_weighed_43 : decode cX9_weighed 43 = .ok (.aload_n 0, 1) := by decide +kernel
theorem dX9_weighed_44 : decode cX9_weighed 44 = .ok (.getfield 234, 3) := by decide +kernel
theorem dX9_weighed_47 : decode cX9_weighed 47 = .ok (.iload_n 1, 1) := by decide +kernel
theorem dX9_weighed_48 : decode cX9_weighed 48 = .ok (.iastore, 1) := by decide +kernel
theorem dX9_weighed_49 : decode cX9_weighed 49 = .ok (.aload_n 0, 1) := by decide +kernel
theorem dX9_weighed_50 : decode cX9_weighed 50 = .ok (.getfield 43, 3) := by decide +kernel
theorem dX9_weighed_53 : decode cX9_weighed 53 = .ok (.aload_n 0, 1) := by decide +kernel
theorem dX9_weighed_54 : decode cX9_weighed 54 = .ok (.getfield 234, 3) := by decide +kernel
theorem dX9_weighed_57 : decode cX9_weighed 57 = .ok (.iload_n 2, 1) := by decide +kernel
theorem dX9_weighed_58 : decode cX9_weighed 58 = .ok (.iastore, 1) := by decide +kernel
theorem dX9_weighed_59 : decode cX9_weighed 59 = .ok (.aload_n 0, 1) := by decide +kernel
theorem dX9_weighed_60 : decode cX9_weighed 60 = .ok (.dup, 1) := by decide +kernel
theorem dX9_weighed_61 : decode cX9_weighed 61 = .ok (.getfield 234, 3) := by decide +kernel
theorem dX9_weighed_64 : decode cX9_weighed 64 = .ok (.iconst 1, 1) := by decide +kernel
theorem dX9_weighed_65 : decode cX9_weighed 65 = .ok (.iadd, 1) := by decide +kernel
theorem dX9_weighed_66 : decode cX9_weighed 66 = .ok (.putfield 234, 3) := by decide +kernel
theorem dX9_weighed_69 : decode cX9_weighed 69 = .ok (.aload_n 0, 1) := by decide +kernel
theorem dX9_weighed_70 : decode cX9_weighed 70 = .ok (.getfield 234, 3) := by decide +kernel
theorem dX9_weighed_73 : decode cX9_weighed 73 = .ok (.ireturn, 1) := by decide +kernel
theorem dX9_forget_0 : decode cX9_forget 0 = .ok (.aload_n 0, 1) := by decide +kernel
theorem dX9_forget_1 : decode cX9_forget 1 = .ok (.getfield 234, 3) := by decide +kernel
theorem dX9_forget_4 : decode cX9_forget 4 = .ok (.istore_n 1, 1) := by decide +kernel
theorem dX9_forget_5 : decode cX9_forget 5 = .ok (.aload_n 0, 1) := by decide +kernel
theorem dX9_forget_6 : decode cX9_forget 6 = .ok (.iconst 0, 1) := by decide +kernel
theorem dX9_forget_7 : decode cX9_forget 7 = .ok (.putfield 234, 3) := by decide +kernel
theorem dX9_forget_10 : decode cX9_forget 10 = .ok (.iload_n 1, 1) := by decide +kernel
theorem dX9_forget_11 : decode cX9_forget 11 = .ok (.ireturn, 1) := by decide +kernel
theorem dX9_weightOf_0 : decode cX9_weightOf 0 = .ok (.iconst 0, 1) := by decide +kernel
theorem dX9_weightOf_1 : decode cX9_weightOf 1 = .ok (.istore_n 3, 1) := by decide +kernel
theorem dX9_weightOf_2 : decode cX9_weightOf 2 = .ok (.iconst 0, 1) := by decide +kernel
theorem dX9_weightOf_3 : decode cX9_weightOf 3 = .ok (.istore 4, 2) := by decide +kernel
theorem dX9_weightOf_5 : decode cX9_weightOf 5 = .ok (.iload 4, 2) := by decide +kernel
theorem dX9_weightOf_7 : decode cX9_weightOf 7 = .ok (.bipush 6, 2) := by decide +kernel
theorem dX9_weightOf_9 : decode cX9_weightOf 9 = .ok (.if_icmp .ge 37, 3) := by decide +kernel
theorem dX9_weightOf_12 : decode cX9_weightOf 12 = .ok (.iload_n 3, 1) := by decide +kernel
theorem dX9_weightOf_13 : decode cX9_weightOf 13 = .ok (.iload_n 1, 1) := by decide +kernel
theorem dX9_weightOf_14 : decode cX9_weightOf 14 = .ok (.iload_n 2, 1) := by decide +kernel
theorem dX9_weightOf_15 : decode cX9_weightOf 15 = .ok (.iconst (-1), 1) := by decide +kernel
theorem dX9_weightOf_16 : decode cX9_weightOf 16 = .ok (.ixor, 1) := by decide +kernel
theorem dX9_weightOf_17 : decode cX9_weightOf 17 = .ok (.iand, 1) := by decide +kernel
theorem dX9_weightOf_18 : decode cX9_weightOf 18 = .ok (.iload 4, 2) := by decide +kernel
theorem dX9_weightOf_20 : decode cX9_weightOf 20 = .ok (.ishr, 1) := by decide +kernel
theorem dX9_weightOf_21 : decode cX9_weightOf 21 = .ok (.iconst 1, 1) := by decide +kernel
theorem dX9_weightOf_22 : decode cX9_weightOf 22 = .ok (.iand, 1) := by decide +kernel
theorem dX9_weightOf_23 : decode cX9_weightOf 23 = .ok (.iconst 1, 1) := by decide +kernel
theorem dX9_weightOf_24 : decode cX9_weightOf 24 = .ok (.if_icmp .ne 13, 3) := by decide +kernel
theorem dX9_weightOf_27 : decode cX9_weightOf 27 = .ok (.aload_n 0, 1) := by decide +kernel
theorem dX9_weightOf_28 : decode cX9_weightOf 28 = .ok (.getfield 7, 3) := by decide +kernel
theorem dX9_weightOf_31 : decode cX9_weightOf 31 = .ok (.iload 4, 2) := by decide +kernel
theorem dX9_weightOf_33 : decode cX9_weightOf 33 = .ok (.iaload, 1) := by decide +kernel
theorem dX9_weightOf_34 : decode cX9_weightOf 34 = .ok (.goto 4, 3) := by decide +kernel
theorem dX9_weightOf_37 : decode cX9_weightOf 37 = .ok (.iconst 0, 1) := by decide +kernel
theorem dX9_weightOf_38 : decode cX9_weightOf 38 = .ok (.iadd, 1) := by decide +kernel
theorem dX9_weightOf_39 : decode cX9_weightOf 39 = .ok (.istore_n 3, 1) := by decide +kernel
theorem dX9_weightOf_40 : decode cX9_weightOf 40 = .ok (.iinc 4 1, 3) := by decide +kernel
theorem dX9_weightOf_43 : decode cX9_weightOf 43 = .ok (.goto (-38), 3) := by decide +kernel
theorem dX9_weightOf_46 : decode cX9_weightOf 46 = .ok (.iload_n 3, 1) := by decide +kernel
theorem dX9_weightOf_47 : decode cX9_weightOf 47 = .ok (.ireturn, 1) := by decide +kernel
theorem dX9_fits_0 : decode cX9_fits 0 = .ok (.iconst 1, 1) := by decide +kernel
theorem dX9_fits_1 : decode cX9_fits 1 = .ok (.istore_n 2, 1) := by decide +kernel
theorem dX9_fits_2 : decode cX9_fits 2 = .ok (.iconst 0, 1) := by decide +kernel
theorem dX9_fits_3 : decode cX9_fits 3 = .ok (.istore_n 3, 1) := by decide +kernel
theorem dX9_fits_4 : decode cX9_fits 4 = .ok (.iload_n 3, 1) := by decide +kernel
theorem dX9_fits_5 : decode cX9_fits 5 = .ok (.aload_n 0, 1) := by decide +kernel
theorem dX9_fits_6 : decode cX9_fits 6 = .ok (.getfield 234, 3) := by decide +kernel
theorem dX9_fits_9 : decode cX9_fits 9 = .ok (.if_icmp .ge 39, 3) := by decide +kernel
theorem dX9_fits_12 : decode cX9_fits 12 = .ok (.iload_n 2, 1) := by decide +kernel
theorem dX9_fits_13 : decode cX9_fits 13 = .ok (.ifCond .eq 27, 3) := by decide +kernel
theorem dX9_fits_16 : decode cX9_fits 16 = .ok (.aload_n 0, 1) := by decide +kernel
theorem dX9_fits_17 : decode cX9_fits 17 = .ok (.aload_n 0, 1) := by decide +kernel
theorem dX9_fits_18 : decode cX9_fits 18 = .ok (.getfield 40, 3) := by decide +kernel
theorem dX9_fits_21 : decode cX9_fits 21 = .ok (.iload_n 3, 1) := by decide +kernel
theorem dX9_fits_22 : decode cX9_fits 22 = .ok (.iaload, 1) := by decide +kernel
theorem dX9_fits_23 : decode cX9_fits 23 = .ok (.iload_n 1, 1) := by decide +kernel
theorem dX9_fits_24 : decode cX9_fits 24 = .ok (.invokevirtual 237, 3) := by decide +kernel
theorem dX9_fits_27 : decode cX9_fits 27 = .ok (.aload_n 0, 1) := by decide +kernel
theorem dX9_fits_28 : decode cX9_fits 28 = .ok (.getfield 43, 3) := by decide +kernel
theorem dX9_fits_31 : decode cX9_fits 31 = .ok (.iload_n 3, 1) := by decide +kernel
theorem dX9_fits_32 : decode cX9_fits 32 = .ok (.iaload, 1) := by decide +kernel
theorem dX9_fits_33 : decode cX9_fits 33 = .ok (.if_icmp .ne 7, 3) := by decide +kernel
theorem dX9_fits_36 : decode cX9_fits 36 = .ok (.iconst 1, 1) := by decide +kernel
theorem dX9_fits_37 : decode cX9_fits 37 = .ok (.goto 4, 3) := by decide +kernel
theorem dX9_fits_40 : decode cX9_fits 40 = .ok (.iconst 0, 1) := by decide +kernel
theorem dX9_fits_41 : decode cX9_fits 41 = .ok (.istore_n 2, 1) := by decide +kernel
theorem dX9_fits_42 : decode cX9_fits 42 = .ok (.iinc 3 1, 3) := by decide +kernel
theorem dX9_fits_45 : decode cX9_fits 45 = .ok (.goto (-41), 3) := by decide +kernel
theorem dX9_fits_48 : decode cX9_fits 48 = .ok (.iload_n 2, 1) := by decide +kernel
theorem dX9_fits_49 : decode cX9_fits 49 = .ok (.ireturn, 1) := by decide +kernel
theorem dX9_canBe_0 : decode cX9_canBe 0 = .ok (.iconst 0, 1) := by decide +kernel
theorem dX9_canBe_1 : decode cX9_canBe 1 = .ok (.istore_n 2, 1) := by decide +kernel
theorem dX9_canBe_2 : decode cX9_canBe 2 = .ok (.iconst 0, 1) := by decide +kernel
theorem dX9_canBe_3 : decode cX9_canBe 3 = .ok (.istore_n 3, 1) := by decide +kernel
theorem dX9_canBe_4 : decode cX9_canBe 4 = .ok (.iload_n 3, 1) := by decide +kernel
theorem dX9_canBe_5 : decode cX9_canBe 5 = .ok (.bipush 64, 2) := by decide +kernel
theorem dX9_canBe_7 : decode cX9_canBe 7 = .ok (.if_icmp .ge 27, 3) := by decide +kernel
theorem dX9_canBe_10 : decode cX9_canBe 10 = .ok (.aload_n 0, 1) := by decide +kernel
theorem dX9_canBe_11 : decode cX9_canBe 11 = .ok (.iload_n 3, 1) := by decide +kernel
theorem dX9_canBe_12 : decode cX9_canBe 12 = .ok (.invokevirtual 240, 3) := by decide +kernel
theorem dX9_canBe_15 : decode cX9_canBe 15 = .ok (.ifCond .eq 13, 3) := by decide +kernel
theorem dX9_canBe_18 : decode cX9_canBe 18 = .ok (.iload_n 2, 1) := by decide +kernel
theorem dX9_canBe_19 : decode cX9_canBe 19 = .ok (.iload_n 1, 1) := by decide +kernel
theorem dX9_canBe_20 : decode cX9_canBe 20 = .ok (.if_icmp .ne 5, 3) := by decide +kernel
theorem dX9_canBe_23 : decode cX9_canBe 23 = .ok (.iload_n 3, 1) := by decide +kernel
theorem dX9_canBe_24 : decode cX9_canBe 24 = .ok (.ireturn, 1) := by decide +kernel
theorem dX9_canBe_25 : decode cX9_canBe 25 = .ok (.iinc 2 1, 3) := by decide +kernel
theorem dX9_canBe_28 : decode cX9_canBe 28 = .ok (.iinc 3 1, 3) := by decide +kernel
theorem dX9_canBe_31 : decode cX9_canBe 31 = .ok (.goto (-27), 3) := by decide +kernel
theorem dX9_canBe_34 : decode cX9_canBe 34 = .ok (.iload_n 1, 1) := by decide +kernel
theorem dX9_canBe_35 : decode cX9_canBe 35 = .ok (.iconst (-1), 1) := by decide +kernel
theorem dX9_canBe_36 : decode cX9_canBe 36 = .ok (.if_icmp .ne 7, 3) := by decide +kernel
theorem dX9_canBe_39 : decode cX9_canBe 39 = .ok (.iload_n 2, 1) := by decide +kernel
theorem dX9_canBe_40 : decode cX9_canBe 40 = .ok (.goto 5, 3) := by decide +kernel
theorem dX9_canBe_43 : decode cX9_canBe 43 = .ok (.bipush (-6), 2) := by decide +kernel
theorem dX9_canBe_45 : decode cX9_canBe 45 = .ok (.ireturn, 1) := by decide +kernel
theorem dX9_alikeBy_0 : decode cX9_alikeBy 0 = .ok (.iconst 0, 1) := by decide +kernel
theorem dX9_alikeBy_1 : decode cX9_alikeBy 1 = .ok (.istore_n 2, 1) := by decide +kernel
theorem dX9_alikeBy_2 : decode cX9_alikeBy 2 = .ok (.iload_n 2, 1) := by decide +kernel
theorem dX9_alikeBy_3 : decode cX9_alikeBy 3 = .ok (.sipush 241, 3) := by decide +kernel
theorem dX9_alikeBy_6 : decode cX9_alikeBy 6 = .ok (.if_icmp .ge 16, 3) := by decide +kernel
theorem dX9_alikeBy_9 : decode cX9_alikeBy 9 = .ok (.aload_n 0, 1) := by decide +kernel
theorem dX9_alikeBy_10 : decode cX9_alikeBy 10 = .ok (.getfield 79, 3) := by decide +kernel
theorem dX9_alikeBy_13 : decode cX9_alikeBy 13 = .ok (.iload_n 2, 1) := by decide +kernel
theorem dX9_alikeBy_14 : decode cX9_alikeBy 14 = .ok (.iconst 0, 1) := by decide +kernel
theorem dX9_alikeBy_15 : decode cX9_alikeBy 15 = .ok (.iastore, 1) := by decide +kernel
theorem dX9_alikeBy_16 : decode cX9_alikeBy 16 = .ok (.iinc 2 1, 3) := by decide +kernel
theorem dX9_alikeBy_19 : decode cX9_alikeBy 19 = .ok (.goto (-17), 3) := by decide +kernel
theorem dX9_alikeBy_22 : decode cX9_alikeBy 22 = .ok (.iconst 0, 1) := by decide +kernel
theorem dX9_alikeBy_23 : decode cX9_alikeBy 23 = .ok (.istore_n 2, 1) := by decide +kernel
theorem dX9_alikeBy_24 : decode cX9_alikeBy 24 = .ok (.iconst 0, 1) := by decide +kernel
theorem dX9_alikeBy_25 : decode cX9_alikeBy 25 = .ok (.istore_n 3, 1) := by decide +kernel
theorem dX9_alikeBy_26 : decode cX9_alikeBy 26 = .ok (.iload_n 3, 1) := by decide +kernel
theorem dX9_alikeBy_27 : decode cX9_alikeBy 27 = .ok (.bipush 64, 2) := by decide +kernel
theorem dX9_alikeBy_29 : decode cX9_alikeBy 29 = .ok (.if_icmp .ge 59, 3) := by decide +kernel
theorem dX9_alikeBy_32 : decode cX9_alikeBy 32 = .ok (.aload_n 0, 1) := by decide +kernel
theorem dX9_alikeBy_33 : decode cX9_alikeBy 33 = .ok (.iload_n 3, 1) := by decide +kernel
theorem dX9_alikeBy_34 : decode cX9_alikeBy 34 = .ok (.invokevirtual 240, 3) := by decide +kernel
theorem dX9_alikeBy_37 : decode cX9_alikeBy 37 = .ok (.ifCond .eq 45, 3) := by decide +kernel
theorem dX9_alikeBy_40 : decode cX9_alikeBy 40 = .ok (.aload_n 0, 1) := by decide +kernel
theorem dX9_alikeBy_41 : decode cX9_alikeBy 41 = .ok (.iload_n 1, 1) := by decide +kernel
theorem dX9_alikeBy_42 : decode cX9_alikeBy 42 = .ok (.iload_n 3, 1) := by decide +kernel
theorem dX9_alikeBy_43 : decode cX9_alikeBy 43 = .ok (.invokevirtual 237, 3) := by decide +kernel
theorem dX9_alikeBy_46 : decode cX9_alikeBy 46 = .ok (.istore 4, 2) := by decide +kernel
theorem dX9_alikeBy_48 : decode cX9_alikeBy 48 = .ok (.aload_n 0, 1) := by decide +kernel
theorem dX9_alikeBy_49 : decode cX9_alikeBy 49 = .ok (.getfield 79, 3) := by decide +kernel
theorem dX9_alikeBy_52 : decode cX9_alikeBy 52 = .ok (.iload 4, 2) := by decide +kernel
theorem dX9_alikeBy_54 : decode cX9_alikeBy 54 = .ok (.dup2, 1) := by decide +kernel
theorem dX9_alikeBy_55 : decode cX9_alikeBy 55 = .ok (.iaload, 1) := by decide +kernel
theorem dX9_alikeBy_56 : decode cX9_alikeBy 56 = .ok (.iconst 1, 1) := by decide +kernel
theorem dX9_alikeBy_57 : decode cX9_alikeBy 57 = .ok (.iadd, 1) := by decide +kernel
theorem dX9_alikeBy_58 : decode cX9_alikeBy 58 = .ok (.iastore, 1) := by decide +kernel
theorem dX9_alikeBy_59 : decode cX9_alikeBy 59 = .ok (.aload_n 0, 1) := by decide +kernel
theorem dX9_alikeBy_60 : decode cX9_alikeBy 60 = .ok (.getfield 79, 3) := by decide +kernel
theorem dX9_alikeBy_63 : decode cX9_alikeBy 63 = .ok (.iload 4, 2) := by decide +kernel
theorem dX9_alikeBy_65 : decode cX9_alikeBy 65 = .ok (.iaload, 1) := by decide +kernel
theorem dX9_alikeBy_66 : decode cX9_alikeBy 66 = .ok (.iload_n 2, 1) := by decide +kernel
theorem dX9_alikeBy_67 : decode cX9_alikeBy 67 = .ok (.if_icmp .le 13, 3) := by decide +kernel
theorem dX9_alikeBy_70 : decode cX9_alikeBy 70 = .ok (.aload_n 0, 1) := by decide +kernel
theorem dX9_alikeBy_71 : decode cX9_alikeBy 71 = .ok (.getfield 79, 3) := by decide +kernel
theorem dX9_alikeBy_74 : decode cX9_alikeBy 74 = .ok (.iload 4, 2) := by decide +kernel
theorem dX9_alikeBy_76 : decode cX9_alikeBy 76 = .ok (.iaload, 1) := by decide +kernel
theorem dX9_alikeBy_77 : decode cX9_alikeBy 77 = .ok (.goto 4, 3) := by decide +kernel
theorem dX9_alikeBy_80 : decode cX9_alikeBy 80 = .ok (.iload_n 2, 1) := by decide +kernel
theorem dX9_alikeBy_81 : decode cX9_alikeBy 81 = .ok (.istore_n 2, 1) := by decide +kernel
theorem dX9_alikeBy_82 : decode cX9_alikeBy 82 = .ok (.iinc 3 1, 3) := by decide +kernel
theorem dX9_alikeBy_85 : decode cX9_alikeBy 85 = .ok (.goto (-59), 3) := by decide +kernel
theorem dX9_alikeBy_88 : decode cX9_alikeBy 88 = .ok (.iload_n 2, 1) := by decide +kernel
theorem dX9_alikeBy_89 : decode cX9_alikeBy 89 = .ok (.ireturn, 1) := by decide +kernel
theorem dX9_ask_0 : decode cX9_ask 0 = .ok (.bipush (-6), 2) := by decide +kernel
theorem dX9_ask_2 : decode cX9_ask 2 = .ok (.istore_n 1, 1) := by decide +kernel
theorem dX9_ask_3 : decode cX9_ask 3 = .ok (.iconst 0, 1) := by decide +kernel
theorem dX9_ask_4 : decode cX9_ask 4 = .ok (.istore_n 2, 1) := by decide +kernel
theorem dX9_ask_5 : decode cX9_ask 5 = .ok (.iconst 1, 1) := by decide +kernel
theorem dX9_ask_6 : decode cX9_ask 6 = .ok (.istore_n 3, 1) := by decide +kernel
theorem dX9_ask_7 : decode cX9_ask 7 = .ok (.iload_n 3, 1) := by decide +kernel
theorem dX9_ask_8 : decode cX9_ask 8 = .ok (.bipush 64, 2) := by decide +kernel
theorem dX9_ask_10 : decode cX9_ask 10 = .ok (.if_icmp .ge 31, 3) := by decide +kernel
theorem dX9_ask_13 : decode cX9_ask 13 = .ok (.aload_n 0, 1) := by decide +kernel
theorem dX9_ask_14 : decode cX9_ask 14 = .ok (.iload_n 3, 1) := by decide +kernel
theorem dX9_ask_15 : decode cX9_ask 15 = .ok (.invokevirtual 243, 3) := by decide +kernel
theorem dX9_ask_18 : decode cX9_ask 18 = .ok (.istore 4, 2) := by decide +kernel
theorem dX9_ask_20 : decode cX9_ask 20 = .ok (.iload_n 1, 1) := by decide +kernel
theorem dX9_ask_21 : decode cX9_ask 21 = .ok (.ifCond .lt 9, 3) := by decide +kernel
theorem dX9_ask_24 : decode cX9_ask 24 = .ok (.iload 4, 2) := by decide +kernel
theorem dX9_ask_26 : decode cX9_ask 26 = .ok (.iload_n 2, 1) := by decide +kernel
theorem dX9_ask_27 : decode cX9_ask 27 = .ok (.if_icmp .ge 8, 3) := by decide +kernel
theorem dX9_ask_30 : decode cX9_ask 30 = .ok (.iload_n 3, 1) := by decide +kernel
theorem dX9_ask_31 : decode cX9_ask 31 = .ok (.istore_n 1, 1) := by decide +kernel
theorem dX9_ask_32 : decode cX9_ask 32 = .ok (.iload 4, 2) := by decide +kernel
theorem dX9_ask_34 : decode cX9_ask 34 = .ok (.istore_n 2, 1) := by decide +kernel
theorem dX9_ask_35 : decode cX9_ask 35 = .ok (.iinc 3 1, 3) := by decide +kernel
theorem dX9_ask_38 : decode cX9_ask 38 = .ok (.goto (-31), 3) := by decide +kernel
theorem dX9_ask_41 : decode cX9_ask 41 = .ok (.iload_n 1, 1) := by decide +kernel
theorem dX9_ask_42 : decode cX9_ask 42 = .ok (.ireturn, 1) := by decide +kernel
theorem dX9_sure_0 : decode cX9_sure 0 = .ok (.iload_n 1, 1) := by decide +kernel
theorem dX9_sure_1 : decode cX9_sure 1 = .ok (.i2l, 1) := by decide +kernel
theorem dX9_sure_2 : decode cX9_sure 2 = .ok (.lconst 0, 1) := by decide +kernel
theorem dX9_sure_3 : decode cX9_sure 3 = .ok (.ldc2_w 246, 3) := by decide +kernel
theorem dX9_sure_6 : decode cX9_sure 6 = .ok (.invokestatic 95, 3) := by decide +kernel
theorem dX9_sure_9 : decode cX9_sure 9 = .ok (.ifCond .ne 6, 3) := by decide +kernel
theorem dX9_sure_12 : decode cX9_sure 12 = .ok (.bipush (-2), 2) := by decide +kernel
theorem dX9_sure_14 : decode cX9_sure 14 = .ok (.ireturn, 1) := by decide +kernel
theorem dX9_sure_15 : decode cX9_sure 15 = .ok (.iconst 0, 1) := by decide +kernel
theorem dX9_sure_16 : decode cX9_sure 16 = .ok (.istore_n 2, 1) := by decide +kernel
theorem dX9_sure_17 : decode cX9_sure 17 = .ok (.bipush 63, 2) := by decide +kernel
theorem dX9_sure_19 : decode cX9_sure 19 = .ok (.istore_n 3, 1) := by decide +kernel
theorem dX9_sure_20 : decode cX9_sure 20 = .ok (.iconst 0, 1) := by decide +kernel
theorem dX9_sure_21 : decode cX9_sure 21 = .ok (.istore 4, 2) := by decide +kernel
theorem dX9_sure_23 : decode cX9_sure 23 = .ok (.iconst 0, 1) := by decide +kernel
theorem dX9_sure_24 : decode cX9_sure 24 = .ok (.istore 5, 2) := by decide +kernel
theorem dX9_sure_26 : decode cX9_sure 26 = .ok (.iload 5, 2) := by decide +kernel
theorem dX9_sure_28 : decode cX9_sure 28 = .ok (.bipush 64, 2) := by decide +kernel
theorem dX9_sure_30 : decode cX9_sure 30 = .ok (.if_icmp .ge 33, 3) := by decide +kernel
theorem dX9_sure_33 : decode cX9_sure 33 = .ok (.aload_n 0, 1) := by decide +kernel
theorem dX9_sure_34 : decode cX9_sure 34 = .ok (.iload 5, 2) := by decide +kernel
theorem dX9_sure_36 : decode cX9_sure 36 = .ok (.invokevirtual 240, 3) := by decide +kernel
theorem dX9_sure_39 : decode cX9_sure 39 = .ok (.ifCond .eq 18, 3) := by decide +kernel
theorem dX9_sure_42 : decode cX9_sure 42 = .ok (.iinc 2 1, 3) := by decide +kernel
theorem dX9_sure_45 : decode cX9_sure 45 = .ok (.iload_n 3, 1) := by decide +kernel
theorem dX9_sure_46 : decode cX9_sure 46 = .ok (.iload 5, 2) := by decide +kernel
theorem dX9_sure_48 : decode cX9_sure 48 = .ok (.iand, 1) := by decide +kernel
theorem dX9_sure_49 : decode cX9_sure 49 = .ok (.istore_n 3, 1) := by decide +kernel
theorem dX9_sure_50 : decode cX9_sure 50 = .ok (.iload 4, 2) := by decide +kernel
theorem dX9_sure_52 : decode cX9_sure 52 = .ok (.iload 5, 2) := by decide +kernel
theorem dX9_sure_54 : decode cX9_sure 54 = .ok (.ior, 1) := by decide +kernel
theorem dX9_sure_55 : decode cX9_sure 55 = .ok (.istore 4, 2) := by decide +kernel
theorem dX9_sure_57 : decode cX9_sure 57 = .ok (.iinc 5 1, 3) := by decide +kernel
theorem dX9_sure_60 : decode cX9_sure 60 = .ok (.goto (-34), 3) := by decide +kernel
theorem dX9_sure_63 : decode cX9_sure 63 = .ok (.iload_n 2, 1) := by decide +kernel
theorem dX9_sure_64 : decode cX9_sure 64 = .ok (.ifCond .ne 8, 3) := by decide +kernel
theorem dX9_sure_67 : decode cX9_sure 67 = .ok (.bipush (-5), 2) := by decide +kernel
theorem dX9_sure_69 : decode cX9_sure 69 = .ok (.goto 30, 3) := by decide +kernel
theorem dX9_sure_72 : decode cX9_sure 72 = .ok (.iload_n 1, 1) := by decide +kernel
theorem dX9_sure_73 : decode cX9_sure 73 = .ok (.ifCond .ne 7, 3) := by decide +kernel
theorem dX9_sure_76 : decode cX9_sure 76 = .ok (.iload_n 3, 1) := by decide +kernel
theorem dX9_sure_77 : decode cX9_sure 77 = .ok (.goto 22, 3) := by decide +kernel
theorem dX9_sure_80 : decode cX9_sure 80 = .ok (.iload_n 1, 1) := by decide +kernel
theorem dX9_sure_81 : decode cX9_sure 81 = .ok (.iconst 1, 1) := by decide +kernel
theorem dX9_sure_82 : decode cX9_sure 82 = .ok (.if_icmp .ne 13, 3) := by decide +kernel
theorem dX9_sure_85 : decode cX9_sure 85 = .ok (.bipush 63, 2) := by decide +kernel
theorem dX9_sure_87 : decode cX9_sure 87 = .ok (.iload 4, 2) := by decide +kernel
theorem dX9_sure_89 : decode cX9_sure 89 = .ok (.iconst (-1), 1) := by decide +kernel
theorem dX9_sure_90 : decode cX9_sure 90 = .ok (.ixor, 1) := by decide +kernel
theorem dX9_sure_91 : decode cX9_sure 91 = .ok (.iand, 1) := by decide +kernel
theorem dX9_sure_92 : decode cX9_sure 92 = .ok (.goto 7, 3) := by decide +kernel
theorem dX9_sure_95 : decode cX9_sure 95 = .ok (.aload_n 0, 1) := by decide +kernel
theorem dX9_sure_96 : decode cX9_sure 96 = .ok (.invokevirtual 248, 3) := by decide +kernel
theorem dX9_sure_99 : decode cX9_sure 99 = .ok (.ireturn, 1) := by decide +kernel
theorem dX9_doesBy_0 : decode cX9_doesBy 0 = .ok (.iload_n 2, 1) := by decide +kernel
theorem dX9_doesBy_1 : decode cX9_doesBy 1 = .ok (.iconst 3, 1) := by decide +kernel
theorem dX9_doesBy_2 : decode cX9_doesBy 2 = .ok (.irem, 1) := by decide +kernel
theorem dX9_doesBy_3 : decode cX9_doesBy 3 = .ok (.ifCond .ne 31, 3) := by decide +kernel
theorem dX9_doesBy_6 : decode cX9_doesBy 6 = .ok (.aload_n 0, 1) := by decide +kernel
theorem dX9_doesBy_7 : decode cX9_doesBy 7 = .ok (.getfield 46, 3) := by decide +kernel
theorem dX9_doesBy_10 : decode cX9_doesBy 10 = .ok (.iload_n 1, 1) := by decide +kernel
theorem dX9_doesBy_11 : decode cX9_doesBy 11 = .ok (.dup2, 1) := by decide +kernel
theorem dX9_doesBy_12 : decode cX9_doesBy 12 = .ok (.iaload, 1) := by decide +kernel
theorem dX9_doesBy_13 : decode cX9_doesBy 13 = .ok (.aload_n 0, 1) := by decide +kernel
theorem dX9_doesBy_14 : decode cX9_doesBy 14 = .ok (.getfield 46, 3) := by decide +kernel
theorem dX9_doesBy_17 : decode cX9_doesBy 17 = .ok (.iload_n 1, 1) := by decide +kernel
theorem dX9_doesBy_18 : decode cX9_doesBy 18 = .ok (.iaload, 1) := by decide +kernel
theorem dX9_doesBy_19 : decode cX9_doesBy 19 = .ok (.bipush 40, 2) := by decide +kernel
theorem dX9_doesBy_21 : decode cX9_doesBy 21 = .ok (.if_icmp .ge 7, 3) := by decide +kernel
theorem dX9_doesBy_24 : decode cX9_doesBy 24 = .ok (.iconst 1, 1) := by decide +kernel
theorem dX9_doesBy_25 : decode cX9_doesBy 25 = .ok (.goto 4, 3) := by decide +kernel
theorem dX9_doesBy_28 : decode cX9_doesBy 28 = .ok (.iconst 0, 1) := by decide +kernel
theorem dX9_doesBy_29 : decode cX9_doesBy 29 = .ok (.iadd, 1) := by decide +kernel
theorem dX9_doesBy_30 : decode cX9_doesBy 30 = .ok (.iastore, 1) := by decide +kernel
theorem dX9_doesBy_31 : decode cX9_doesBy 31 = .ok (.goto 65, 3) := by decide +kernel
theorem dX9_doesBy_34 : decode cX9_doesBy 34 = .ok (.iload_n 2, 1) := by decide +kernel
theorem dX9_doesBy_35 : decode cX9_doesBy 35 = .ok (.iconst 3, 1) := by decide +kernel
theorem dX9_doesBy_36 : decode cX9_doesBy 36 = .ok (.irem, 1) := by decide +kernel
theorem dX9_doesBy_37 : decode cX9_doesBy 37 = .ok (.iconst 1, 1) := by decide +kernel
theorem dX9_doesBy_38 : decode cX9_doesBy 38 = .ok (.if_icmp .ne 37, 3) := by decide +kernel
theorem dX9_doesBy_41 : decode cX9_doesBy 41 = .ok (.aload_n 0, 1) := by decide +kernel
theorem dX9_doesBy_42 : decode cX9_doesBy 42 = .ok (.iload_n 1, 1) := by decide +kernel
theorem dX9_doesBy_43 : decode cX9_doesBy 43 = .ok (.iconst 1, 1) := by decide +kernel
theorem dX9_doesBy_44 : decode cX9_doesBy 44 = .ok (.invokevirtual 148, 3) := by decide +kernel
theorem dX9_doesBy_47 : decode cX9_doesBy 47 = .ok (.bipush (-6), 2) := by decide +kernel
theorem dX9_doesBy_49 : decode cX9_doesBy 49 = .ok (.if_icmp .ne 47, 3) := by decide +kernel
theorem dX9_doesBy_52 : decode cX9_doesBy 52 = .ok (.aload_n 0, 1) := by decide +kernel
theorem dX9_doesBy_53 : decode cX9_doesBy 53 = .ok (.getfield 46, 3) := by decide +kernel
theorem dX9_doesBy_56 : decode cX9_doesBy 56 = .ok (.iload_n 1, 1) := by decide +kernel
theorem dX9_doesBy_57 : decode cX9_doesBy 57 = .ok (.dup2, 1) := by decide +kernel
theorem dX9_doesBy_58 : decode cX9_doesBy 58 = .ok (.iaload, 1) := by decide +kernel
theorem dX9_doesBy_59 : decode cX9_doesBy 59 = .ok (.iconst 1, 1) := by decide +kernel
theorem dX9_doesBy_60 : decode cX9_doesBy 60 = .ok (.isub, 1) := by decide +kernel
theorem dX9_doesBy_61 : decode cX9_doesBy 61 = .ok (.iastore, 1) := by decide +kernel
theorem dX9_doesBy_62 : decode cX9_doesBy 62 = .ok (.aload_n 0, 1) := by decide +kernel
theorem dX9_doesBy_63 : decode cX9_doesBy 63 = .ok (.getfield 49, 3) := by decide +kernel
theorem dX9_doesBy_66 : decode cX9_doesBy 66 = .ok (.iload_n 1, 1) := by decide +kernel
theorem dX9_doesBy_67 : decode cX9_doesBy 67 = .ok (.dup2, 1) := by decide +kernel
theorem dX9_doesBy_68 : decode cX9_doesBy 68 = .ok (.iaload, 1) := by decide +kernel
theorem dX9_doesBy_69 : decode cX9_doesBy 69 = .ok (.iconst 1, 1) := by decide +kernel
theorem dX9_doesBy_70 : decode cX9_doesBy 70 = .ok (.iadd, 1) := by decide +kernel
theorem dX9_doesBy_71 : decode cX9_doesBy 71 = .ok (.iastore, 1) := by decide +kernel
theorem dX9_doesBy_72 : decode cX9_doesBy 72 = .ok (.goto 24, 3) := by decide +kernel
theorem dX9_doesBy_75 : decode cX9_doesBy 75 = .ok (.aload_n 0, 1) := by decide +kernel
theorem dX9_doesBy_76 : decode cX9_doesBy 76 = .ok (.iload_n 1, 1) := by decide +kernel
theorem dX9_doesBy_77 : decode cX9_doesBy 77 = .ok (.iload_n 2, 1) := by decide +kernel
theorem dX9_doesBy_78 : decode cX9_doesBy 78 = .ok (.iconst 4, 1) := by decide +kernel
theorem dX9_doesBy_79 : decode cX9_doesBy 79 = .ok (.irem, 1) := by decide +kernel
theorem dX9_doesBy_80 : decode cX9_doesBy 80 = .ok (.invokevirtual 152, 3) := by decide +kernel
theorem dX9_doesBy_83 : decode cX9_doesBy 83 = .ok (.bipush (-6), 2) := by decide +kernel
theorem dX9_doesBy_85 : decode cX9_doesBy 85 = .ok (.if_icmp .ne 11, 3) := by decide +kernel
theorem dX9_doesBy_88 : decode cX9_doesBy 88 = .ok (.aload_n 0, 1) := by decide +kernel
theorem dX9_doesBy_89 : decode cX9_doesBy 89 = .ok (.iload_n 1, 1) := by decide +kernel
theorem dX9_doesBy_90 : decode cX9_doesBy 90 = .ok (.iload_n 2, 1) := by decide +kernel
theorem dX9_doesBy_91 : decode cX9_doesBy 91 = .ok (.iconst 4, 1) := by decide +kernel
theorem dX9_doesBy_92 : decode cX9_doesBy 92 = .ok (.irem, 1) := by decide +kernel
theorem dX9_doesBy_93 : decode cX9_doesBy 93 = .ok (.invokevirtual 155, 3) := by decide +kernel
theorem dX9_doesBy_96 : decode cX9_doesBy 96 = .ok (.return_, 1) := by decide +kernel
theorem dX9_year_0 : decode cX9_year 0 = .ok (.iload_n 1, 1) := by decide +kernel
theorem dX9_year_1 : decode cX9_year 1 = .ok (.i2l, 1) := by decide +kernel
theorem dX9_year_2 : decode cX9_year 2 = .ok (.lconst 0, 1) := by decide +kernel
theorem dX9_year_3 : decode cX9_year 3 = .ok (.ldc2_w 202, 3) := by decide +kernel
theorem dX9_year_6 : decode cX9_year 6 = .ok (.invokestatic 95, 3) := by decide +kernel
theorem dX9_year_9 : decode cX9_year 9 = .ok (.ifCond .eq 25, 3) := by decide +kernel
theorem dX9_year_12 : decode cX9_year 12 = .ok (.iload_n 2, 1) := by decide +kernel
theorem dX9_year_13 : decode cX9_year 13 = .ok (.i2l, 1) := by decide +kernel
theorem dX9_year_14 : decode cX9_year 14 = .ok (.lconst 1, 1) := by decide +kernel
theorem dX9_year_15 : decode cX9_year 15 = .ok (.ldc2_w 251, 3) := by decide +kernel
theorem dX9_year_18 : decode cX9_year 18 = .ok (.invokestatic 95, 3) := by decide +kernel
theorem dX9_year_21 : decode cX9_year 21 = .ok (.ifCond .eq 13, 3) := by decide +kernel
theorem dX9_year_24 : decode cX9_year 24 = .ok (.iload_n 3, 1) := by decide +kernel
theorem dX9_year_25 : decode cX9_year 25 = .ok (.i2l, 1) := by decide +kernel
theorem dX9_year_26 : decode cX9_year 26 = .ok (.lconst 0, 1) := by decide +kernel
theorem dX9_year_27 : decode cX9_year 27 = .ok (.lconst 1, 1) := by decide +kernel
theorem dX9_year_28 : decode cX9_year 28 = .ok (.invokestatic 95, 3) := by decide +kernel
theorem dX9_year_31 : decode cX9_year 31 = .ok (.ifCond .ne 6, 3) := by decide +kernel
theorem dX9_year_34 : decode cX9_year 34 = .ok (.bipush (-2), 2) := by decide +kernel
theorem dX9_year_36 : decode cX9_year 36 = .ok (.ireturn, 1) := by decide +kernel
theorem dX9_year_37 : decode cX9_year 37 = .ok (.aload_n 0, 1) := by decide +kernel
theorem dX9_year_38 : decode cX9_year 38 = .ok (.invokevirtual 159, 3) := by decide +kernel
theorem dX9_year_41 : decode cX9_year 41 = .ok (.iload_n 1, 1) := by decide +kernel
theorem dX9_year_42 : decode cX9_year 42 = .ok (.istore 4, 2) := by decide +kernel
theorem dX9_year_44 : decode cX9_year 44 = .ok (.bipush (-6), 2) := by decide +kernel
theorem dX9_year_46 : decode cX9_year 46 = .ok (.istore 5, 2) := by decide +kernel
theorem dX9_year_48 : decode cX9_year 48 = .ok (.iconst 0, 1) := by decide +kernel
theorem dX9_year_49 : decode cX9_year 49 = .ok (.istore 6, 2) := by decide +kernel
theorem dX9_year_51 : decode cX9_year 51 = .ok (.iload 6, 2) := by decide +kernel
theorem dX9_year_53 : decode cX9_year 53 = .ok (.iload_n 2, 1) := by decide +kernel
theorem dX9_year_54 : decode cX9_year 54 = .ok (.if_icmp .ge 82, 3) := by decide +kernel
theorem dX9_year_57 : decode cX9_year 57 = .ok (.iconst 0, 1) := by decide +kernel
theorem dX9_year_58 : decode cX9_year 58 = .ok (.istore 7, 2) := by decide +kernel
theorem dX9_year_60 : decode cX9_year 60 = .ok (.iload 7, 2) := by decide +kernel
theorem dX9_year_62 : decode cX9_year 62 = .ok (.bipush 6, 2) := by decide +kernel
theorem dX9_year_64 : decode cX9_year 64 = .ok (.if_icmp .ge 35, 3) := by decide +kernel
theorem dX9_year_67 : decode cX9_year 67 = .ok (.ldc2_w 253, 3) := by decide +kernel
theorem dX9_year_70 : decode cX9_year 70 = .ok (.iload 4, 2) := by decide +kernel
theorem dX9_year_72 : decode cX9_year 72 = .ok (.i2l, 1) := by decide +kernel
theorem dX9_year_73 : decode cX9_year 73 = .ok (.lmul, 1) := by decide +kernel
theorem dX9_year_74 : decode cX9_year 74 = .ok (.ldc2_w 255, 3) := by decide +kernel
theorem dX9_year_77 : decode cX9_year 77 = .ok (.ladd, 1) := by decide +kernel
theorem dX9_year_78 : decode cX9_year 78 = .ok (.ldc2_w 257, 3) := by decide +kernel
theorem dX9_year_81 : decode cX9_year 81 = .ok (.lrem, 1) := by decide +kernel
theorem dX9_year_82 : decode cX9_year 82 = .ok (.l2i, 1) := by decide +kernel
theorem dX9_year_83 : decode cX9_year 83 = .ok (.istore 4, 2) := by decide +kernel
theorem dX9_year_85 : decode cX9_year 85 = .ok (.aload_n 0, 1) := by decide +kernel
theorem dX9_year_86 : decode cX9_year 86 = .ok (.iload 7, 2) := by decide +kernel
theorem dX9_year_88 : decode cX9_year 88 = .ok (.iload 4, 2) := by decide +kernel
theorem dX9_year_90 : decode cX9_year 90 = .ok (.invokevirtual 259, 3) := by decide +kernel
theorem dX9_year_93 : decode cX9_year 93 = .ok (.iinc 7 1, 3) := by decide +kernel
theorem dX9_year_96 : decode cX9_year 96 = .ok (.goto (-36), 3) := by decide +kernel
theorem dX9_year_99 : decode cX9_year 99 = .ok (.aload_n 0, 1) := by decide +kernel
theorem dX9_year_100 : decode cX9_year 100 = .ok (.invokevirtual 145, 3) := by decide +kernel
theorem dX9_year_103 : decode cX9_year 103 = .ok (.aload_n 0, 1) := by decide +kernel
theorem dX9_year_104 : decode cX9_year 104 = .ok (.invokevirtual 185, 3) := by decide +kernel
theorem dX9_year_107 : decode cX9_year 107 = .ok (.istore 7, 2) := by decide +kernel
theorem dX9_year_109 : decode cX9_year 109 = .ok (.iload 5, 2) := by decide +kernel
theorem dX9_year_111 : decode cX9_year 111 = .ok (.ifCond .lt 10, 3) := by decide +kernel
theorem dX9_year_114 : decode cX9_year 114 = .ok (.iload 7, 2) := by decide +kernel
theorem dX9_year_116 : decode cX9_year 116 = .ok (.iload 5, 2) := by decide +kernel
theorem dX9_year_118 : decode cX9_year 118 = .ok (.if_icmp .ge 8, 3) := by decide +kernel
theorem dX9_year_121 : decode cX9_year 121 = .ok (.iload 7, 2) := by decide +kernel
theorem dX9_year_123 : decode cX9_year 123 = .ok (.goto 5, 3) := by decide +kernel
theorem dX9_year_126 : decode cX9_year 126 = .ok (.iload 5, 2) := by decide +kernel
theorem dX9_year_128 : decode cX9_year 128 = .ok (.istore 5, 2) := by decide +kernel
theorem dX9_year_130 : decode cX9_year 130 = .ok (.iinc 6 1, 3) := by decide +kernel
theorem dX9_year_133 : decode cX9_year 133 = .ok (.goto (-82), 3) := by decide +kernel
theorem dX9_year_136 : decode cX9_year 136 = .ok (.iload_n 3, 1) := by decide +kernel
theorem dX9_year_137 : decode cX9_year 137 = .ok (.ifCond .ne 10, 3) := by decide +kernel
theorem dX9_year_140 : decode cX9_year 140 = .ok (.aload_n 0, 1) := by decide +kernel
theorem dX9_year_141 : decode cX9_year 141 = .ok (.invokevirtual 185, 3) := by decide +kernel
theorem dX9_year_144 : decode cX9_year 144 = .ok (.goto 5, 3) := by decide +kernel
theorem dX9_year_147 : decode cX9_year 147 = .ok (.iload 5, 2) := by decide +kernel
theorem dX9_year_149 : decode cX9_year 149 = .ok (.ireturn, 1) := by decide +kernel
theorem dX9_pass_0 : decode cX9_pass 0 = .ok (.aload_n 0, 1) := by decide +kernel
theorem dX9_pass_1 : decode cX9_pass 1 = .ok (.getfield 262, 3) := by decide +kernel
theorem dX9_pass_4 : decode cX9_pass 4 = .ok (.ifCond .eq 7, 3) := by decide +kernel
theorem dX9_pass_7 : decode cX9_pass 7 = .ok (.iload_n 1, 1) := by decide +kernel
theorem dX9_pass_8 : decode cX9_pass 8 = .ok (.goto 12, 3) := by decide +kernel
theorem dX9_pass_11 : decode cX9_pass 11 = .ok (.aload_n 0, 1) := by decide +kernel
theorem dX9_pass_12 : decode cX9_pass 12 = .ok (.getfield 82, 3) := by decide +kernel
theorem dX9_pass_15 : decode cX9_pass 15 = .ok (.aload_n 0, 1) := by decide +kernel
theorem dX9_pass_16 : decode cX9_pass 16 = .ok (.getfield 266, 3) := by decide +kernel
theorem dX9_pass_19 : decode cX9_pass 19 = .ok (.iaload, 1) := by decide +kernel
theorem dX9_pass_20 : decode cX9_pass 20 = .ok (.istore_n 2, 1) := by decide +kernel
theorem dX9_pass_21 : decode cX9_pass 21 = .ok (.aload_n 0, 1) := by decide +kernel
theorem dX9_pass_22 : decode cX9_pass 22 = .ok (.getfield 82, 3) := by decide +kernel
theorem dX9_pass_25 : decode cX9_pass 25 = .ok (.aload_n 0, 1) := by decide +kernel
theorem dX9_pass_26 : decode cX9_pass 26 = .ok (.getfield 266, 3) := by decide +kernel
theorem dX9_pass_29 : decode cX9_pass 29 = .ok (.iload_n 2, 1) := by decide +kernel
theorem dX9_pass_30 : decode cX9_pass 30 = .ok (.iastore, 1) := by decide +kernel
theorem dX9_pass_31 : decode cX9_pass 31 = .ok (.aload_n 0, 1) := by decide +kernel
theorem dX9_pass_32 : decode cX9_pass 32 = .ok (.dup, 1) := by decide +kernel
theorem dX9_pass_33 : decode cX9_pass 33 = .ok (.getfield 266, 3) := by decide +kernel
theorem dX9_pass_36 : decode cX9_pass 36 = .ok (.iconst 1, 1) := by decide +kernel
theorem dX9_pass_37 : decode cX9_pass 37 = .ok (.iadd, 1) := by decide +kernel
theorem dX9_pass_38 : decode cX9_pass 38 = .ok (.putfield 266, 3) := by decide +kernel
theorem dX9_pass_41 : decode cX9_pass 41 = .ok (.iload_n 2, 1) := by decide +kernel
theorem dX9_pass_42 : decode cX9_pass 42 = .ok (.ireturn, 1) := by decide +kernel
theorem dX9_passAll_0 : decode cX9_passAll 0 = .ok (.aload_n 0, 1) := by decide +kernel
theorem dX9_passAll_1 : decode cX9_passAll 1 = .ok (.aload_n 0, 1) := by decide +kernel
theorem dX9_passAll_2 : decode cX9_passAll 2 = .ok (.aload_n 0, 1) := by decide +kernel
theorem dX9_passAll_3 : decode cX9_passAll 3 = .ok (.getfield 89, 3) := by decide +kernel
theorem dX9_passAll_6 : decode cX9_passAll 6 = .ok (.invokevirtual 269, 3) := by decide +kernel
theorem dX9_passAll_9 : decode cX9_passAll 9 = .ok (.putfield 89, 3) := by decide +kernel
theorem dX9_passAll_12 : decode cX9_passAll 12 = .ok (.aload_n 0, 1) := by decide +kernel
theorem dX9_passAll_13 : decode cX9_passAll 13 = .ok (.aload_n 0, 1) := by decide +kernel
theorem dX9_passAll_14 : decode cX9_passAll 14 = .ok (.aload_n 0, 1) := by decide +kernel
theorem dX9_passAll_15 : decode cX9_passAll 15 = .ok (.getfield 101, 3) := by decide +kernel
theorem dX9_passAll_18 : decode cX9_passAll 18 = .ok (.invokevirtual 269, 3) := by decide +kernel
theorem dX9_passAll_21 : decode cX9_passAll 21 = .ok (.putfield 101, 3) := by decide +kernel
theorem dX9_passAll_24 : decode cX9_passAll 24 = .ok (.aload_n 0, 1) := by decide +kernel
theorem dX9_passAll_25 : decode cX9_passAll 25 = .ok (.aload_n 0, 1) := by decide +kernel
theorem dX9_passAll_26 : decode cX9_passAll 26 = .ok (.aload_n 0, 1) := by decide +kernel
theorem dX9_passAll_27 : decode cX9_passAll 27 = .ok (.getfield 206, 3) := by decide +kernel
theorem dX9_passAll_30 : decode cX9_passAll 30 = .ok (.invokevirtual 269, 3) := by decide +kernel
theorem dX9_passAll_33 : decode cX9_passAll 33 = .ok (.putfield 206, 3) := by decide +kernel
theorem dX9_passAll_36 : decode cX9_passAll 36 = .ok (.aload_n 0, 1) := by decide +kernel
theorem dX9_passAll_37 : decode cX9_passAll 37 = .ok (.aload_n 0, 1) := by decide +kernel
theorem dX9_passAll_38 : decode cX9_passAll 38 = .ok (.aload_n 0, 1) := by decide +kernel
theorem dX9_passAll_39 : decode cX9_passAll 39 = .ok (.getfield 234, 3) := by decide +kernel
theorem dX9_passAll_42 : decode cX9_passAll 42 = .ok (.invokevirtual 269, 3) := by decide +kernel
theorem dX9_passAll_45 : decode cX9_passAll 45 = .ok (.putfield 234, 3) := by decide +kernel
theorem dX9_passAll_48 : decode cX9_passAll 48 = .ok (.iconst 0, 1) := by decide +kernel
theorem dX9_passAll_49 : decode cX9_passAll 49 = .ok (.istore_n 1, 1) := by decide +kernel
theorem dX9_passAll_50 : decode cX9_passAll 50 = .ok (.iload_n 1, 1) := by decide +kernel
theorem dX9_passAll_51 : decode cX9_passAll 51 = .ok (.bipush 6, 2) := by decide +kernel
theorem dX9_passAll_53 : decode cX9_passAll 53 = .ok (.if_icmp .ge 137, 3) := by decide +kernel
theorem dX9_passAll_56 : decode cX9_passAll 56 = .ok (.aload_n 0, 1) := by decide +kernel
theorem dX9_passAll_57 : decode cX9_passAll 57 = .ok (.getfield 7, 3) := by decide +kernel
theorem dX9_passAll_60 : decode cX9_passAll 60 = .ok (.iload_n 1, 1) := by decide +kernel
theorem dX9_passAll_61 : decode cX9_passAll 61 = .ok (.aload_n 0, 1) := by decide +kernel
theorem dX9_passAll_62 : decode cX9_passAll 62 = .ok (.aload_n 0, 1) := by decide +kernel
theorem dX9_passAll_63 : decode cX9_passAll 63 = .ok (.getfield 7, 3) := by decide +kernel
theorem dX9_passAll_66 : decode cX9_passAll 66 = .ok (.iload_n 1, 1) := by decide +kernel
theorem dX9_passAll_67 : decode cX9_passAll 67 = .ok (.iaload, 1) := by decide +kernel
theorem dX9_passAll_68 : decode cX9_passAll 68 = .ok (.invokevirtual 269, 3) := by decide +kernel
theorem dX9_passAll_71 : decode cX9_passAll 71 = .ok (.iastore, 1) := by decide +kernel
theorem dX9_passAll_72 : decode cX9_passAll 72 = .ok (.aload_n 0, 1) := by decide +kernel
theorem dX9_passAll_73 : decode cX9_passAll 73 = .ok (.getfield 13, 3) := by decide +kernel
theorem dX9_passAll_76 : decode cX9_passAll 76 = .ok (.iload_n 1, 1) := by decide +kernel
theorem dX9_passAll_77 : decode cX9_passAll 77 = .ok (.aload_n 0, 1) := by decide +kernel
theorem dX9_passAll_78 : decode cX9_passAll 78 = .ok (.aload_n 0, 1) := by decide +kernel
theorem dX9_passAll_79 : decode cX9_passAll 79 = .ok (.getfield 13, 3) := by decide +kernel
theorem dX9_passAll_82 : decode cX9_passAll 82 = .ok (.iload_n 1, 1) := by decide +kernel
theorem dX9_passAll_83 : decode cX9_passAll 83 = .ok (.iaload, 1) := by decide +kernel
theorem dX9_passAll_84 : decode cX9_passAll 84 = .ok (.invokevirtual 269, 3) := by decide +kernel
theorem dX9_passAll_87 : decode cX9_passAll 87 = .ok (.iastore, 1) := by decide +kernel
theorem dX9_passAll_88 : decode cX9_passAll 88 = .ok (.aload_n 0, 1) := by decide +kernel
theorem dX9_passAll_89 : decode cX9_passAll 89 = .ok (.getfield 16, 3) := by decide +kernel
theorem dX9_passAll_92 : decode cX9_passAll 92 = .ok (.iload_n 1, 1) := by decide +kernel
theorem dX9_passAll_93 : decode cX9_passAll 93 = .ok (.aload_n 0, 1) := by decide +kernel
theorem dX9_passAll_94 : decode cX9_passAll 94 = .ok (.aload_n 0, 1) := by decide +kernel
theorem dX9_passAll_95 : decode cX9_passAll 95 = .ok (.getfield 16, 3) := by decide +kernel
theorem dX9_passAll_98 : decode cX9_passAll 98 = .ok (.iload_n 1, 1) := by decide +kernel
theorem dX9_passAll_99 : decode cX9_passAll 99 = .ok (.iaload, 1) := by decide +kernel
theorem dX9_passAll_100 : decode cX9_passAll 100 = .ok (.invokevirtual 269, 3) := by decide +kernel
theorem dX9_passAll_103 : decode cX9_passAll 103 = .ok (.iastore, 1) := by decide +kernel
theorem dX9_passAll_104 : decode cX9_passAll 104 = .ok (.aload_n 0, 1) := by decide +kernel
theorem dX9_passAll_105 : decode cX9_passAll 105 = .ok (.getfield 19, 3) := by decide +kernel
theorem dX9_passAll_108 : decode cX9_passAll 108 = .ok (.iload_n 1, 1) := by decide +kernel
theorem dX9_passAll_109 : decode cX9_passAll 109 = .ok (.aload_n 0, 1) := by decide +kernel
theorem dX9_passAll_110 : decode cX9_passAll 110 = .ok (.aload_n 0, 1) := by decide +kernel
theorem dX9_passAll_111 : decode cX9_passAll 111 = .ok (.getfield 19, 3) := by decide +kernel
theorem dX9_passAll_114 : decode cX9_passAll 114 = .ok (.iload_n 1, 1) := by decide +kernel
theorem dX9_passAll_115 : decode cX9_passAll 115 = .ok (.iaload, 1) := by decide +kernel
theorem dX9_passAll_116 : decode cX9_passAll 116 = .ok (.invokevirtual 269, 3) := by decide +kernel
theorem dX9_passAll_119 : decode cX9_passAll 119 = .ok (.iastore, 1) := by decide +kernel
theorem dX9_passAll_120 : decode cX9_passAll 120 = .ok (.aload_n 0, 1) := by decide +kernel
theorem dX9_passAll_121 : decode cX9_passAll 121 = .ok (.getfield 34, 3) := by decide +kernel
theorem dX9_passAll_124 : decode cX9_passAll 124 = .ok (.iload_n 1, 1) := by decide +kernel
theorem dX9_passAll_125 : decode cX9_passAll 125 = .ok (.aload_n 0, 1) := by decide +kernel
theorem dX9_passAll_126 : decode cX9_passAll 126 = .ok (.aload_n 0, 1) := by decide +kernel
theorem dX9_passAll_127 : decode cX9_passAll 127 = .ok (.getfield 34, 3) := by decide +kernel
theorem dX9_passAll_130 : decode cX9_passAll 130 = .ok (.iload_n 1, 1) := by decide +kernel
theorem dX9_passAll_131 : decode cX9_passAll 131 = .ok (.iaload, 1) := by decide +kernel
theorem dX9_passAll_132 : decode cX9_passAll 132 = .ok (.invokevirtual 269, 3) := by decide +kernel
theorem dX9_passAll_135 : decode cX9_passAll 135 = .ok (.iastore, 1) := by decide +kernel
theorem dX9_passAll_136 : decode cX9_passAll 136 = .ok (.aload_n 0, 1) := by decide +kernel
theorem dX9_passAll_137 : decode cX9_passAll 137 = .ok (.getfield 37, 3) := by decide +kernel
theorem dX9_passAll_140 : decode cX9_passAll 140 = .ok (.iload_n 1, 1) := by decide +kernel
theorem dX9_passAll_141 : decode cX9_passAll 141 = .ok (.aload_n 0, 1) := by decide +kernel
theorem dX9_passAll_142 : decode cX9_passAll 142 = .ok (.aload_n 0, 1) := by decide +kernel
theorem dX9_passAll_143 : decode cX9_passAll 143 = .ok (.getfield 37, 3) := by decide +kernel
theorem dX9_passAll_146 : decode cX9_passAll 146 = .ok (.iload_n 1, 1) := by decide +kernel
theorem dX9_passAll_147 : decode cX9_passAll 147 = .ok (.iaload, 1) := by decide +kernel
theorem dX9_passAll_148 : decode cX9_passAll 148 = .ok (.invokevirtual 269, 3) := by decide +kernel
theorem dX9_passAll_151 : decode cX9_passAll 151 = .ok (.iastore, 1) := by decide +kernel
theorem dX9_passAll_152 : decode cX9_passAll 152 = .ok (.aload_n 0, 1) := by decide +kernel
theorem dX9_passAll_153 : decode cX9_passAll 153 = .ok (.getfield 40, 3) := by decide +kernel
theorem dX9_passAll_156 : decode cX9_passAll 156 = .ok (.iload_n 1, 1) := by decide +kernel
theorem dX9_passAll_157 : decode cX9_passAll 157 = .ok (.aload_n 0, 1) := by decide +kernel
theorem dX9_passAll_158 : decode cX9_passAll 158 = .ok (.aload_n 0, 1) := by decide +kernel
theorem dX9_passAll_159 : decode cX9_passAll 159 = .ok (.getfield 40, 3) := by decide +kernel
theorem dX9_passAll_162 : decode cX9_passAll 162 = .ok (.iload_n 1, 1) := by decide +kernel
theorem dX9_passAll_163 : decode cX9_passAll 163 = .ok (.iaload, 1) := by decide +kernel
theorem dX9_passAll_164 : decode cX9_passAll 164 = .ok (.invokevirtual 269, 3) := by decide +kernel
theorem dX9_passAll_167 : decode cX9_passAll 167 = .ok (.iastore, 1) := by decide +kernel
theorem dX9_passAll_168 : decode cX9_passAll 168 = .ok (.aload_n 0, 1) := by decide +kernel
theorem dX9_passAll_169 : decode cX9_passAll 169 = .ok (.getfield 43, 3) := by decide +kernel
theorem dX9_passAll_172 : decode cX9_passAll 172 = .ok (.iload_n 1, 1) := by decide +kernel
theorem dX9_passAll_173 : decode cX9_passAll 173 = .ok (.aload_n 0, 1) := by decide +kernel
theorem dX9_passAll_174 : decode cX9_passAll 174 = .ok (.aload_n 0, 1) := by decide +kernel
theorem dX9_passAll_175 : decode cX9_passAll 175 = .ok (.getfield 43, 3) := by decide +kernel
theorem dX9_passAll_178 : decode cX9_passAll 178 = .ok (.iload_n 1, 1) := by decide +kernel
theorem dX9_passAll_179 : decode cX9_passAll 179 = .ok (.iaload, 1) := by decide +kernel
theorem dX9_passAll_180 : decode cX9_passAll 180 = .ok (.invokevirtual 269, 3) := by decide +kernel
theorem dX9_passAll_183 : decode cX9_passAll 183 = .ok (.iastore, 1) := by decide +kernel
theorem dX9_passAll_184 : decode cX9_passAll 184 = .ok (.iinc 1 1, 3) := by decide +kernel
theorem dX9_passAll_187 : decode cX9_passAll 187 = .ok (.goto (-137), 3) := by decide +kernel
theorem dX9_passAll_190 : decode cX9_passAll 190 = .ok (.iconst 0, 1) := by decide +kernel
theorem dX9_passAll_191 : decode cX9_passAll 191 = .ok (.istore_n 1, 1) := by decide +kernel
theorem dX9_passAll_192 : decode cX9_passAll 192 = .ok (.iload_n 1, 1) := by decide +kernel
theorem dX9_passAll_193 : decode cX9_passAll 193 = .ok (.bipush 32, 2) := by decide +kernel
theorem dX9_passAll_195 : decode cX9_passAll 195 = .ok (.if_icmp .ge 57, 3) := by decide +kernel
theorem dX9_passAll_198 : decode cX9_passAll 198 = .ok (.aload_n 0, 1) := by decide +kernel
theorem dX9_passAll_199 : decode cX9_passAll 199 = .ok (.getfield 22, 3) := by decide +kernel
theorem dX9_passAll_202 : decode cX9_passAll 202 = .ok (.iload_n 1, 1) := by decide +kernel
theorem dX9_passAll_203 : decode cX9_passAll 203 = .ok (.aload_n 0, 1) := by decide +kernel
theorem dX9_passAll_204 : decode cX9_passAll 204 = .ok (.aload_n 0, 1) := by decide +kernel
theorem dX9_passAll_205 : decode cX9_passAll 205 = .ok (.getfield 22, 3) := by decide +kernel
theorem dX9_passAll_208 : decode cX9_passAll 208 = .ok (.iload_n 1, 1) := by decide +kernel
theorem dX9_passAll_209 : decode cX9_passAll 209 = .ok (.iaload, 1) := by decide +kernel
theorem dX9_passAll_210 : decode cX9_passAll 210 = .ok (.invokevirtual 269, 3) := by decide +kernel
theorem dX9_passAll_213 : decode cX9_passAll 213 = .ok (.iastore, 1) := by decide +kernel
theorem dX9_passAll_214 : decode cX9_passAll 214 = .ok (.aload_n 0, 1) := by decide +kernel
theorem dX9_passAll_215 : decode cX9_passAll 215 = .ok (.getfield 25, 3) := by decide +kernel
theorem dX9_passAll_218 : decode cX9_passAll 218 = .ok (.iload_n 1, 1) := by decide +kernel
theorem dX9_passAll_219 : decode cX9_passAll 219 = .ok (.aload_n 0, 1) := by decide +kernel
theorem dX9_passAll_220 : decode cX9_passAll 220 = .ok (.aload_n 0, 1) := by decide +kernel
theorem dX9_passAll_221 : decode cX9_passAll 221 = .ok (.getfield 25, 3) := by decide +kernel
theorem dX9_passAll_224 : decode cX9_passAll 224 = .ok (.iload_n 1, 1) := by decide +kernel
theorem dX9_passAll_225 : decode cX9_passAll 225 = .ok (.iaload, 1) := by decide +kernel
theorem dX9_passAll_226 : decode cX9_passAll 226 = .ok (.invokevirtual 269, 3) := by decide +kernel
theorem dX9_passAll_229 : decode cX9_passAll 229 = .ok (.iastore, 1) := by decide +kernel
theorem dX9_passAll_230 : decode cX9_passAll 230 = .ok (.aload_n 0, 1) := by decide +kernel
theorem dX9_passAll_231 : decode cX9_passAll 231 = .ok (.getfield 28, 3) := by decide +kernel
theorem dX9_passAll_234 : decode cX9_passAll 234 = .ok (.iload_n 1, 1) := by decide +kernel
theorem dX9_passAll_235 : decode cX9_passAll 235 = .ok (.aload_n 0, 1) := by decide +kernel
theorem dX9_passAll_236 : decode cX9_passAll 236 = .ok (.aload_n 0, 1) := by decide +kernel
theorem dX9_passAll_237 : decode cX9_passAll 237 = .ok (.getfield 28, 3) := by decide +kernel
theorem dX9_passAll_240 : decode cX9_passAll 240 = .ok (.iload_n 1, 1) := by decide +kernel
theorem dX9_passAll_241 : decode cX9_passAll 241 = .ok (.iaload, 1) := by decide +kernel
theorem dX9_passAll_242 : decode cX9_passAll 242 = .ok (.invokevirtual 269, 3) := by decide +kernel
theorem dX9_passAll_245 : decode cX9_passAll 245 = .ok (.iastore, 1) := by decide +kernel
theorem dX9_passAll_246 : decode cX9_passAll 246 = .ok (.iinc 1 1, 3) := by decide +kernel
theorem dX9_passAll_249 : decode cX9_passAll 249 = .ok (.goto (-57), 3) := by decide +kernel
theorem dX9_passAll_252 : decode cX9_passAll 252 = .ok (.iconst 0, 1) := by decide +kernel
theorem dX9_passAll_253 : decode cX9_passAll 253 = .ok (.istore_n 1, 1) := by decide +kernel
theorem dX9_passAll_254 : decode cX9_passAll 254 = .ok (.iload_n 1, 1) := by decide +kernel
theorem dX9_passAll_255 : decode cX9_passAll 255 = .ok (.iconst 4, 1) := by decide +kernel
theorem dX9_passAll_256 : decode cX9_passAll 256 = .ok (.if_icmp .ge 25, 3) := by decide +kernel
theorem dX9_passAll_259 : decode cX9_passAll 259 = .ok (.aload_n 0, 1) := by decide +kernel
theorem dX9_passAll_260 : decode cX9_passAll 260 = .ok (.getfield 31, 3) := by decide +kernel
theorem dX9_passAll_263 : decode cX9_passAll 263 = .ok (.iload_n 1, 1) := by decide +kernel
theorem dX9_passAll_264 : decode cX9_passAll 264 = .ok (.aload_n 0, 1) := by decide +kernel
theorem dX9_passAll_265 : decode cX9_passAll 265 = .ok (.aload_n 0, 1) := by decide +kernel
theorem dX9_passAll_266 : decode cX9_passAll 266 = .ok (.getfield 31, 3) := by decide +kernel
theorem dX9_passAll_269 : decode cX9_passAll 269 = .ok (.iload_n 1, 1) := by decide +kernel
theorem dX9_passAll_270 : decode cX9_passAll 270 = .ok (.iaload, 1) := by decide +kernel
theorem dX9_passAll_271 : decode cX9_passAll 271 = .ok (.invokevirtual 269, 3) := by decide +kernel
theorem dX9_passAll_274 : decode cX9_passAll 274 = .ok (.iastore, 1) := by decide +kernel
theorem dX9_passAll_275 : decode cX9_passAll 275 = .ok (.iinc 1 1, 3) := by decide +kernel
theorem dX9_passAll_278 : decode cX9_passAll 278 = .ok (.goto (-24), 3) := by decide +kernel
theorem dX9_passAll_281 : decode cX9_passAll 281 = .ok (.return_, 1) := by decide +kernel
theorem dX9_image_0 : decode cX9_image 0 = .ok (.iload_n 1, 1) := by decide +kernel
theorem dX9_image_1 : decode cX9_image 1 = .ok (.i2l, 1) := by decide +kernel
theorem dX9_image_2 : decode cX9_image 2 = .ok (.lconst 0, 1) := by decide +kernel
theorem dX9_image_3 : decode cX9_image 3 = .ok (.lconst 1, 1) := by decide +kernel
theorem dX9_image_4 : decode cX9_image 4 = .ok (.invokestatic 95, 3) := by decide +kernel
theorem dX9_image_7 : decode cX9_image 7 = .ok (.ifCond .ne 6, 3) := by decide +kernel
theorem dX9_image_10 : decode cX9_image 10 = .ok (.bipush (-2), 2) := by decide +kernel
theorem dX9_image_12 : decode cX9_image 12 = .ok (.ireturn, 1) := by decide +kernel
theorem dX9_image_13 : decode cX9_image 13 = .ok (.aload_n 0, 1) := by decide +kernel
theorem dX9_image_14 : decode cX9_image 14 = .ok (.sipush 180, 3) := by decide +kernel
theorem dX9_image_17 : decode cX9_image 17 = .ok (.iload_n 1, 1) := by decide +kernel
theorem dX9_image_18 : decode cX9_image 18 = .ok (.imul, 1) := by decide +kernel
theorem dX9_image_19 : decode cX9_image 19 = .ok (.putfield 266, 3) := by decide +kernel
theorem dX9_image_22 : decode cX9_image 22 = .ok (.aload_n 0, 1) := by decide +kernel
theorem dX9_image_23 : decode cX9_image 23 = .ok (.iconst 1, 1) := by decide +kernel
theorem dX9_image_24 : decode cX9_image 24 = .ok (.putfield 262, 3) := by decide +kernel
theorem dX9_image_27 : decode cX9_image 27 = .ok (.aload_n 0, 1) := by decide +kernel
theorem dX9_image_28 : decode cX9_image 28 = .ok (.invokevirtual 272, 3) := by decide +kernel
theorem dX9_image_31 : decode cX9_image 31 = .ok (.aload_n 0, 1) := by decide +kernel
theorem dX9_image_32 : decode cX9_image 32 = .ok (.getfield 85, 3) := by decide +kernel
theorem dX9_image_35 : decode cX9_image 35 = .ok (.iload_n 1, 1) := by decide +kernel
theorem dX9_image_36 : decode cX9_image 36 = .ok (.iconst 1, 1) := by decide +kernel
theorem dX9_image_37 : decode cX9_image 37 = .ok (.bastore, 1) := by decide +kernel
theorem dX9_image_38 : decode cX9_image 38 = .ok (.iconst 1, 1) := by decide +kernel
theorem dX9_image_39 : decode cX9_image 39 = .ok (.ireturn, 1) := by decide +kernel
theorem dX9_restore_0 : decode cX9_restore 0 = .ok (.iload_n 1, 1) := by decide +kernel
theorem dX9_restore_1 : decode cX9_restore 1 = .ok (.i2l, 1) := by decide +kernel
theorem dX9_restore_2 : decode cX9_restore 2 = .ok (.lconst 0, 1) := by decide +kernel
theorem dX9_restore_3 : decode cX9_restore 3 = .ok (.lconst 1, 1) := by decide +kernel
theorem dX9_restore_4 : decode cX9_restore 4 = .ok (.invokestatic 95, 3) := by decide +kernel
theorem dX9_restore_7 : decode cX9_restore 7 = .ok (.ifCond .ne 6, 3) := by decide +kernel
theorem dX9_restore_10 : decode cX9_restore 10 = .ok (.bipush (-2), 2) := by decide +kernel
theorem dX9_restore_12 : decode cX9_restore 12 = .ok (.ireturn, 1) := by decide +kernel
theorem dX9_restore_13 : decode cX9_restore 13 = .ok (.aload_n 0, 1) := by decide +kernel
theorem dX9_restore_14 : decode cX9_restore 14 = .ok (.getfield 85, 3) := by decide +kernel
theorem dX9_restore_17 : decode cX9_restore 17 = .ok (.iload_n 1, 1) := by decide +kernel
theorem dX9_restore_18 : decode cX9_restore 18 = .ok (.baload, 1) := by decide +kernel
theorem dX9_restore_19 : decode cX9_restore 19 = .ok (.ifCond .ne 6, 3) := by decide +kernel
theorem dX9_restore_22 : decode cX9_restore 22 = .ok (.bipush (-3), 2) := by decide +kernel
theorem dX9_restore_24 : decode cX9_restore 24 = .ok (.ireturn, 1) := by decide +kernel
theorem dX9_restore_25 : decode cX9_restore 25 = .ok (.aload_n 0, 1) := by decide +kernel
theorem dX9_restore_26 : decode cX9_restore 26 = .ok (.sipush 180, 3) := by decide +kernel
theorem dX9_restore_29 : decode cX9_restore 29 = .ok (.iload_n 1, 1) := by decide +kernel
theorem dX9_restore_30 : decode cX9_restore 30 = .ok (.imul, 1) := by decide +kernel
theorem dX9_restore_31 : decode cX9_restore 31 = .ok (.putfield 266, 3) := by decide +kernel
theorem dX9_restore_34 : decode cX9_restore 34 = .ok (.aload_n 0, 1) := by decide +kernel
theorem dX9_restore_35 : decode cX9_restore 35 = .ok (.iconst 0, 1) := by decide +kernel
theorem dX9_restore_36 : decode cX9_restore 36 = .ok (.putfield 262, 3) := by decide +kernel
theorem dX9_restore_39 : decode cX9_restore 39 = .ok (.aload_n 0, 1) := by decide +kernel
theorem dX9_restore_40 : decode cX9_restore 40 = .ok (.invokevirtual 272, 3) := by decide +kernel
theorem dX9_restore_43 : decode cX9_restore 43 = .ok (.iconst 1, 1) := by decide +kernel
theorem dX9_restore_44 : decode cX9_restore 44 = .ok (.ireturn, 1) := by decide +kernel
theorem dX9_told_0 : decode cX9_told 0 = .ok (.iload_n 1, 1) := by decide +kernel
theorem dX9_told_1 : decode cX9_told 1 = .ok (.bipush 10, 2) := by decide +kernel
theorem dX9_told_3 : decode cX9_told 3 = .ok (.irem, 1) := by decide +kernel
theorem dX9_told_4 : decode cX9_told 4 = .ok (.istore_n 2, 1) := by decide +kernel
theorem dX9_told_5 : decode cX9_told 5 = .ok (.iload_n 1, 1) := by decide +kernel
theorem dX9_told_6 : decode cX9_told 6 = .ok (.i2l, 1) := by decide +kernel
theorem dX9_told_7 : decode cX9_told 7 = .ok (.ldc2_w 275, 3) := by decide +kernel
theorem dX9_told_10 : decode cX9_told 10 = .ok (.ldc2_w 277, 3) := by decide +kernel
theorem dX9_told_13 : decode cX9_told 13 = .ok (.invokestatic 95, 3) := by decide +kernel
theorem dX9_told_16 : decode cX9_told 16 = .ok (.ifCond .eq 52, 3) := by decide +kernel
theorem dX9_told_19 : decode cX9_told 19 = .ok (.iload_n 2, 1) := by decide +kernel
theorem dX9_told_20 : decode cX9_told 20 = .ok (.invokestatic 118, 3) := by decide +kernel
theorem dX9_told_23 : decode cX9_told 23 = .ok (.ifCond .ne 8, 3) := by decide +kernel
theorem dX9_told_26 : decode cX9_told 26 = .ok (.bipush (-2), 2) := by decide +kernel
theorem dX9_told_28 : decode cX9_told 28 = .ok (.goto 39, 3) := by decide +kernel
theorem dX9_told_31 : decode cX9_told 31 = .ok (.iload_n 1, 1) := by decide +kernel
theorem dX9_told_32 : decode cX9_told 32 = .ok (.bipush 20, 2) := by decide +kernel
theorem dX9_told_34 : decode cX9_told 34 = .ok (.if_icmp .ge 12, 3) := by decide +kernel
theorem dX9_told_37 : decode cX9_told 37 = .ok (.aload_n 0, 1) := by decide +kernel
theorem dX9_told_38 : decode cX9_told 38 = .ok (.getfield 7, 3) := by decide +kernel
theorem dX9_told_41 : decode cX9_told 41 = .ok (.iload_n 2, 1) := by decide +kernel
theorem dX9_told_42 : decode cX9_told 42 = .ok (.iaload, 1) := by decide +kernel
theorem dX9_told_43 : decode cX9_told 43 = .ok (.goto 24, 3) := by decide +kernel
theorem dX9_told_46 : decode cX9_told 46 = .ok (.iload_n 1, 1) := by decide +kernel
theorem dX9_told_47 : decode cX9_told 47 = .ok (.bipush 30, 2) := by decide +kernel
theorem dX9_told_49 : decode cX9_told 49 = .ok (.if_icmp .ge 12, 3) := by decide +kernel
theorem dX9_told_52 : decode cX9_told 52 = .ok (.aload_n 0, 1) := by decide +kernel
theorem dX9_told_53 : decode cX9_told 53 = .ok (.getfield 13, 3) := by decide +kernel
theorem dX9_told_56 : decode cX9_told 56 = .ok (.iload_n 2, 1) := by decide +kernel
theorem dX9_told_57 : decode cX9_told 57 = .ok (.iaload, 1) := by decide +kernel
theorem dX9_told_58 : decode cX9_told 58 = .ok (.goto 9, 3) := by decide +kernel
theorem dX9_told_61 : decode cX9_told 61 = .ok (.aload_n 0, 1) := by decide +kernel
theorem dX9_told_62 : decode cX9_told 62 = .ok (.getfield 16, 3) := by decide +kernel
theorem dX9_told_65 : decode cX9_told 65 = .ok (.iload_n 2, 1) := by decide +kernel
theorem dX9_told_66 : decode cX9_told 66 = .ok (.iaload, 1) := by decide +kernel
theorem dX9_told_67 : decode cX9_told 67 = .ok (.ireturn, 1) := by decide +kernel
theorem dX9_told_68 : decode cX9_told 68 = .ok (.iload_n 1, 1) := by decide +kernel
theorem dX9_told_69 : decode cX9_told 69 = .ok (.i2l, 1) := by decide +kernel
theorem dX9_told_70 : decode cX9_told 70 = .ok (.ldc2_w 122, 3) := by decide +kernel
theorem dX9_told_73 : decode cX9_told 73 = .ok (.ldc2_w 279, 3) := by decide +kernel
theorem dX9_told_76 : decode cX9_told 76 = .ok (.invokestatic 95, 3) := by decide +kernel
theorem dX9_told_79 : decode cX9_told 79 = .ok (.ifCond .eq 10, 3) := by decide +kernel
theorem dX9_told_82 : decode cX9_told 82 = .ok (.aload_n 0, 1) := by decide +kernel
theorem dX9_told_83 : decode cX9_told 83 = .ok (.getfield 31, 3) := by decide +kernel
theorem dX9_told_86 : decode cX9_told 86 = .ok (.iload_n 2, 1) := by decide +kernel
theorem dX9_told_87 : decode cX9_told 87 = .ok (.iaload, 1) := by decide +kernel
theorem dX9_told_88 : decode cX9_told 88 = .ok (.ireturn, 1) := by decide +kernel
theorem dX9_told_89 : decode cX9_told 89 = .ok (.iload_n 1, 1) := by decide +kernel
theorem dX9_told_90 : decode cX9_told 90 = .ok (.ifCond .ne 10, 3) := by decide +kernel
theorem dX9_told_93 : decode cX9_told 93 = .ok (.aload_n 0, 1) := by decide +kernel
theorem dX9_told_94 : decode cX9_told 94 = .ok (.getfield 130, 3) := by decide +kernel
theorem dX9_told_97 : decode cX9_told 97 = .ok (.goto 53, 3) := by decide +kernel
theorem dX9_told_100 : decode cX9_told 100 = .ok (.iload_n 1, 1) := by decide +kernel
theorem dX9_told_101 : decode cX9_told 101 = .ok (.iconst 1, 1) := by decide +kernel
theorem dX9_told_102 : decode cX9_told 102 = .ok (.if_icmp .ne 10, 3) := by decide +kernel
theorem dX9_told_105 : decode cX9_told 105 = .ok (.aload_n 0, 1) := by decide +kernel
theorem dX9_told_106 : decode cX9_told 106 = .ok (.getfield 89, 3) := by decide +kernel
theorem dX9_told_109 : decode cX9_told 109 = .ok (.goto 41, 3) := by decide +kernel
theorem dX9_told_112 : decode cX9_told 112 = .ok (.iload_n 1, 1) := by decide +kernel
theorem dX9_told_113 : decode cX9_told 113 = .ok (.iconst 2, 1) := by decide +kernel
theorem dX9_told_114 : decode cX9_told 114 = .ok (.if_icmp .ne 10, 3) := by decide +kernel
theorem dX9_told_117 : decode cX9_told 117 = .ok (.aload_n 0, 1) := by decide +kernel
theorem dX9_told_118 : decode cX9_told 118 = .ok (.getfield 101, 3) := by decide +kernel
theorem dX9_told_121 : decode cX9_told 121 = .ok (.goto 29, 3) := by decide +kernel
theorem dX9_told_124 : decode cX9_told 124 = .ok (.iload_n 1, 1) := by decide +kernel
theorem dX9_told_125 : decode cX9_told 125 = .ok (.iconst 3, 1) := by decide +kernel
theorem dX9_told_126 : decode cX9_told 126 = .ok (.if_icmp .ne 10, 3) := by decide +kernel
theorem dX9_told_129 : decode cX9_told 129 = .ok (.aload_n 0, 1) := by decide +kernel
theorem dX9_told_130 : decode cX9_told 130 = .ok (.getfield 206, 3) := by decide +kernel
theorem dX9_told_133 : decode cX9_told 133 = .ok (.goto 17, 3) := by decide +kernel
theorem dX9_told_136 : decode cX9_told 136 = .ok (.iload_n 1, 1) := by decide +kernel
theorem dX9_told_137 : decode cX9_told 137 = .ok (.iconst 4, 1) := by decide +kernel
theorem dX9_told_138 : decode cX9_told 138 = .ok (.if_icmp .ne 10, 3) := by decide +kernel
theorem dX9_told_141 : decode cX9_told 141 = .ok (.aload_n 0, 1) := by decide +kernel
theorem dX9_told_142 : decode cX9_told 142 = .ok (.getfield 234, 3) := by decide +kernel
theorem dX9_told_145 : decode cX9_told 145 = .ok (.goto 5, 3) := by decide +kernel
theorem dX9_told_148 : decode cX9_told 148 = .ok (.bipush (-2), 2) := by decide +kernel
theorem dX9_told_150 : decode cX9_told 150 = .ok (.ireturn, 1) := by decide +kernel
