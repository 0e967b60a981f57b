theorem dX9_init_0 : decode cX9_init 0 = .ok (.aload_n 0, 1) := by decide +kernel
theorem dX9_init_1 : decode cX9_init 1 = .ok (.invokespecial 1, 3) := by decide +kernel
theorem dX9_init_4 : decode cX9_init 4 = .ok (.aload_n 0, 1) := by decide +kernel
theorem dX9_init_5 : decode cX9_init 5 = .ok (.sipush 600, 3) := by decide +kernel
theorem dX9_init_8 : decode cX9_init 8 = .ok (.newarray .int, 2) := by decide +kernel
theorem dX9_init_10 : decode cX9_init 10 = .ok (.putfield 7, 3) := by decide +kernel
theorem dX9_init_13 : decode cX9_init 13 = .ok (.aload_n 0, 1) := by decide +kernel
theorem dX9_init_14 : decode cX9_init 14 = .ok (.bipush 64, 2) := by decide +kernel
theorem dX9_init_16 : decode cX9_init 16 = .ok (.newarray .int, 2) := by decide +kernel
theorem dX9_init_18 : decode cX9_init 18 = .ok (.putfield 13, 3) := by decide +kernel
theorem dX9_init_21 : decode cX9_init 21 = .ok (.aload_n 0, 1) := by decide +kernel
theorem dX9_init_22 : decode cX9_init 22 = .ok (.bipush 8, 2) := by decide +kernel
theorem dX9_init_24 : decode cX9_init 24 = .ok (.newarray .int, 2) := by decide +kernel
theorem dX9_init_26 : decode cX9_init 26 = .ok (.putfield 16, 3) := by decide +kernel
theorem dX9_init_29 : decode cX9_init 29 = .ok (.aload_n 0, 1) := by decide +kernel
theorem dX9_init_30 : decode cX9_init 30 = .ok (.iconst 4, 1) := by decide +kernel
theorem dX9_init_31 : decode cX9_init 31 = .ok (.newarray .long, 2) := by decide +kernel
theorem dX9_init_33 : decode cX9_init 33 = .ok (.putfield 19, 3) := by decide +kernel
theorem dX9_init_36 : decode cX9_init 36 = .ok (.aload_n 0, 1) := by decide +kernel
theorem dX9_init_37 : decode cX9_init 37 = .ok (.iconst 4, 1) := by decide +kernel
theorem dX9_init_38 : decode cX9_init 38 = .ok (.newarray .float, 2) := by decide +kernel
theorem dX9_init_40 : decode cX9_init 40 = .ok (.putfield 23, 3) := by decide +kernel
theorem dX9_init_43 : decode cX9_init 43 = .ok (.aload_n 0, 1) := by decide +kernel
theorem dX9_init_44 : decode cX9_init 44 = .ok (.iconst 4, 1) := by decide +kernel
theorem dX9_init_45 : decode cX9_init 45 = .ok (.newarray .double, 2) := by decide +kernel
theorem dX9_init_47 : decode cX9_init 47 = .ok (.putfield 27, 3) := by decide +kernel
theorem dX9_init_50 : decode cX9_init 50 = .ok (.aload_n 0, 1) := by decide +kernel
theorem dX9_init_51 : decode cX9_init 51 = .ok (.bipush 8, 2) := by decide +kernel
theorem dX9_init_53 : decode cX9_init 53 = .ok (.newarray .int, 2) := by decide +kernel
theorem dX9_init_55 : decode cX9_init 55 = .ok (.putfield 31, 3) := by decide +kernel
theorem dX9_init_58 : decode cX9_init 58 = .ok (.aload_n 0, 1) := by decide +kernel
theorem dX9_init_59 : decode cX9_init 59 = .ok (.bipush 60, 2) := by decide +kernel
theorem dX9_init_61 : decode cX9_init 61 = .ok (.newarray .int, 2) := by decide +kernel
theorem dX9_init_63 : decode cX9_init 63 = .ok (.putfield 34, 3) := by decide +kernel
theorem dX9_init_66 : decode cX9_init 66 = .ok (.aload_n 0, 1) := by decide +kernel
theorem dX9_init_67 : decode cX9_init 67 = .ok (.bipush 60, 2) := by decide +kernel
theorem dX9_init_69 : decode cX9_init 69 = .ok (.newarray .int, 2) := by decide +kernel
theorem dX9_init_71 : decode cX9_init 71 = .ok (.putfield 37, 3) := by decide +kernel
theorem dX9_init_74 : decode cX9_init 74 = .ok (.aload_n 0, 1) := by decide +kernel
theorem dX9_init_75 : decode cX9_init 75 = .ok (.sipush 720, 3) := by decide +kernel
theorem dX9_init_78 : decode cX9_init 78 = .ok (.newarray .long, 2) := by decide +kernel
theorem dX9_init_80 : decode cX9_init 80 = .ok (.putfield 40, 3) := by decide +kernel
theorem dX9_init_83 : decode cX9_init 83 = .ok (.aload_n 0, 1) := by decide +kernel
theorem dX9_init_84 : decode cX9_init 84 = .ok (.sipush 720, 3) := by decide +kernel
theorem dX9_init_87 : decode cX9_init 87 = .ok (.newarray .double, 2) := by decide +kernel
theorem dX9_init_89 : decode cX9_init 89 = .ok (.putfield 43, 3) := by decide +kernel
theorem dX9_init_92 : decode cX9_init 92 = .ok (.aload_n 0, 1) := by decide +kernel
theorem dX9_init_93 : decode cX9_init 93 = .ok (.sipush 720, 3) := by decide +kernel
theorem dX9_init_96 : decode cX9_init 96 = .ok (.newarray .int, 2) := by decide +kernel
theorem dX9_init_98 : decode cX9_init 98 = .ok (.putfield 46, 3) := by decide +kernel
theorem dX9_init_101 : decode cX9_init 101 = .ok (.aload_n 0, 1) := by decide +kernel
theorem dX9_init_102 : decode cX9_init 102 = .ok (.bipush 60, 2) := by decide +kernel
theorem dX9_init_104 : decode cX9_init 104 = .ok (.newarray .int, 2) := by decide +kernel
theorem dX9_init_106 : decode cX9_init 106 = .ok (.putfield 49, 3) := by decide +kernel
theorem dX9_init_109 : decode cX9_init 109 = .ok (.aload_n 0, 1) := by decide +kernel
theorem dX9_init_110 : decode cX9_init 110 = .ok (.bipush 60, 2) := by decide +kernel
theorem dX9_init_112 : decode cX9_init 112 = .ok (.newarray .long, 2) := by decide +kernel
theorem dX9_init_114 : decode cX9_init 114 = .ok (.putfield 52, 3) := by decide +kernel
theorem dX9_init_117 : decode cX9_init 117 = .ok (.aload_n 0, 1) := by decide +kernel
theorem dX9_init_118 : decode cX9_init 118 = .ok (.bipush 60, 2) := by decide +kernel
theorem dX9_init_120 : decode cX9_init 120 = .ok (.newarray .int, 2) := by decide +kernel
theorem dX9_init_122 : decode cX9_init 122 = .ok (.putfield 55, 3) := by decide +kernel
theorem dX9_init_125 : decode cX9_init 125 = .ok (.aload_n 0, 1) := by decide +kernel
theorem dX9_init_126 : decode cX9_init 126 = .ok (.bipush 12, 2) := by decide +kernel
theorem dX9_init_128 : decode cX9_init 128 = .ok (.newarray .int, 2) := by decide +kernel
theorem dX9_init_130 : decode cX9_init 130 = .ok (.putfield 58, 3) := by decide +kernel
theorem dX9_init_133 : decode cX9_init 133 = .ok (.aload_n 0, 1) := by decide +kernel
theorem dX9_init_134 : decode cX9_init 134 = .ok (.sipush 200, 3) := by decide +kernel
theorem dX9_init_137 : decode cX9_init 137 = .ok (.newarray .int, 2) := by decide +kernel
theorem dX9_init_139 : decode cX9_init 139 = .ok (.putfield 61, 3) := by decide +kernel
theorem dX9_init_142 : decode cX9_init 142 = .ok (.aload_n 0, 1) := by decide +kernel
theorem dX9_init_143 : decode cX9_init 143 = .ok (.iconst (-1), 1) := by decide +kernel
theorem dX9_init_144 : decode cX9_init 144 = .ok (.putfield 64, 3) := by decide +kernel
theorem dX9_init_147 : decode cX9_init 147 = .ok (.return_, 1) := by decide +kernel
theorem dX9_isIn_0 : decode cX9_isIn 0 = .ok (.iload_n 0, 1) := by decide +kernel
theorem dX9_isIn_1 : decode cX9_isIn 1 = .ok (.iload_n 1, 1) := by decide +kernel
theorem dX9_isIn_2 : decode cX9_isIn 2 = .ok (.if_icmp .lt 12, 3) := by decide +kernel
theorem dX9_isIn_5 : decode cX9_isIn 5 = .ok (.iload_n 0, 1) := by decide +kernel
theorem dX9_isIn_6 : decode cX9_isIn 6 = .ok (.iload_n 2, 1) := by decide +kernel
theorem dX9_isIn_7 : decode cX9_isIn 7 = .ok (.if_icmp .gt 7, 3) := by decide +kernel
theorem dX9_isIn_10 : decode cX9_isIn 10 = .ok (.iconst 1, 1) := by decide +kernel
theorem dX9_isIn_11 : decode cX9_isIn 11 = .ok (.goto 4, 3) := by decide +kernel
theorem dX9_isIn_14 : decode cX9_isIn 14 = .ok (.iconst 0, 1) := by decide +kernel
theorem dX9_isIn_15 : decode cX9_isIn 15 = .ok (.ireturn, 1) := by decide +kernel
theorem dX9_names_0 : decode cX9_names 0 = .ok (.iconst 0, 1) := by decide +kernel
theorem dX9_names_1 : decode cX9_names 1 = .ok (.istore_n 2, 1) := by decide +kernel
theorem dX9_names_2 : decode cX9_names 2 = .ok (.iconst 0, 1) := by decide +kernel
theorem dX9_names_3 : decode cX9_names 3 = .ok (.istore_n 3, 1) := by decide +kernel
theorem dX9_names_4 : decode cX9_names 4 = .ok (.iconst 0, 1) := by decide +kernel
theorem dX9_names_5 : decode cX9_names 5 = .ok (.istore 4, 2) := by decide +kernel
theorem dX9_names_7 : decode cX9_names 7 = .ok (.iload_n 0, 1) := by decide +kernel
theorem dX9_names_8 : decode cX9_names 8 = .ok (.iconst 1, 1) := by decide +kernel
theorem dX9_names_9 : decode cX9_names 9 = .ok (.if_icmp .eq 15, 3) := by decide +kernel
theorem dX9_names_12 : decode cX9_names 12 = .ok (.iload_n 0, 1) := by decide +kernel
theorem dX9_names_13 : decode cX9_names 13 = .ok (.bipush 72, 2) := by decide +kernel
theorem dX9_names_15 : decode cX9_names 15 = .ok (.if_icmp .eq 9, 3) := by decide +kernel
theorem dX9_names_18 : decode cX9_names 18 = .ok (.iload_n 0, 1) := by decide +kernel
theorem dX9_names_19 : decode cX9_names 19 = .ok (.bipush 73, 2) := by decide +kernel
theorem dX9_names_21 : decode cX9_names 21 = .ok (.if_icmp .ne 8, 3) := by decide +kernel
theorem dX9_names_24 : decode cX9_names 24 = .ok (.iconst 1, 1) := by decide +kernel
theorem dX9_names_25 : decode cX9_names 25 = .ok (.istore_n 2, 1) := by decide +kernel
theorem dX9_names_26 : decode cX9_names 26 = .ok (.goto 579, 3) := by decide +kernel
theorem dX9_names_29 : decode cX9_names 29 = .ok (.iload_n 0, 1) := by decide +kernel
theorem dX9_names_30 : decode cX9_names 30 = .ok (.iconst 2, 1) := by decide +kernel
theorem dX9_names_31 : decode cX9_names 31 = .ok (.if_icmp .ne 8, 3) := by decide +kernel
theorem dX9_names_34 : decode cX9_names 34 = .ok (.iconst 2, 1) := by decide +kernel
theorem dX9_names_35 : decode cX9_names 35 = .ok (.istore_n 2, 1) := by decide +kernel
theorem dX9_names_36 : decode cX9_names 36 = .ok (.goto 569, 3) := by decide +kernel
theorem dX9_names_39 : decode cX9_names 39 = .ok (.iload_n 0, 1) := by decide +kernel
theorem dX9_names_40 : decode cX9_names 40 = .ok (.iconst 3, 1) := by decide +kernel
theorem dX9_names_41 : decode cX9_names 41 = .ok (.if_icmp .ne 10, 3) := by decide +kernel
theorem dX9_names_44 : decode cX9_names 44 = .ok (.iconst 1, 1) := by decide +kernel
theorem dX9_names_45 : decode cX9_names 45 = .ok (.istore_n 2, 1) := by decide +kernel
theorem dX9_names_46 : decode cX9_names 46 = .ok (.iconst 1, 1) := by decide +kernel
theorem dX9_names_47 : decode cX9_names 47 = .ok (.istore_n 3, 1) := by decide +kernel
theorem dX9_names_48 : decode cX9_names 48 = .ok (.goto 557, 3) := by decide +kernel
theorem dX9_names_51 : decode cX9_names 51 = .ok (.iload_n 0, 1) := by decide +kernel
theorem dX9_names_52 : decode cX9_names 52 = .ok (.iconst 4, 1) := by decide +kernel
theorem dX9_names_53 : decode cX9_names 53 = .ok (.bipush 8, 2) := by decide +kernel
theorem dX9_names_55 : decode cX9_names 55 = .ok (.invokestatic 68, 3) := by decide +kernel
theorem dX9_names_58 : decode cX9_names 58 = .ok (.ifCond .ne 9, 3) := by decide +kernel
theorem dX9_names_61 : decode cX9_names 61 = .ok (.iload_n 0, 1) := by decide +kernel
theorem dX9_names_62 : decode cX9_names 62 = .ok (.bipush 25, 2) := by decide +kernel
theorem dX9_names_64 : decode cX9_names 64 = .ok (.if_icmp .ne 13, 3) := by decide +kernel
theorem dX9_names_67 : decode cX9_names 67 = .ok (.iconst 1, 1) := by decide +kernel
theorem dX9_names_68 : decode cX9_names 68 = .ok (.istore_n 2, 1) := by decide +kernel
theorem dX9_names_69 : decode cX9_names 69 = .ok (.iconst 1, 1) := by decide +kernel
theorem dX9_names_70 : decode cX9_names 70 = .ok (.istore_n 3, 1) := by decide +kernel
theorem dX9_names_71 : decode cX9_names 71 = .ok (.iconst 1, 1) := by decide +kernel
theorem dX9_names_72 : decode cX9_names 72 = .ok (.istore 4, 2) := by decide +kernel
theorem dX9_names_74 : decode cX9_names 74 = .ok (.goto 531, 3) := by decide +kernel
theorem dX9_names_77 : decode cX9_names 77 = .ok (.iload_n 0, 1) := by decide +kernel
theorem dX9_names_78 : decode cX9_names 78 = .ok (.bipush 9, 2) := by decide +kernel
theorem dX9_names_80 : decode cX9_names 80 = .ok (.bipush 12, 2) := by decide +kernel
theorem dX9_names_82 : decode cX9_names 82 = .ok (.invokestatic 68, 3) := by decide +kernel
theorem dX9_names_85 : decode cX9_names 85 = .ok (.ifCond .eq 13, 3) := by decide +kernel
theorem dX9_names_88 : decode cX9_names 88 = .ok (.iconst 2, 1) := by decide +kernel
theorem dX9_names_89 : decode cX9_names 89 = .ok (.istore_n 2, 1) := by decide +kernel
theorem dX9_names_90 : decode cX9_names 90 = .ok (.iconst 2, 1) := by decide +kernel
theorem dX9_names_91 : decode cX9_names 91 = .ok (.istore_n 3, 1) := by decide +kernel
theorem dX9_names_92 : decode cX9_names 92 = .ok (.iconst 2, 1) := by decide +kernel
theorem dX9_names_93 : decode cX9_names 93 = .ok (.istore 4, 2) := by decide +kernel
theorem dX9_names_95 : decode cX9_names 95 = .ok (.goto 510, 3) := by decide +kernel
theorem dX9_names_98 : decode cX9_names 98 = .ok (.iload_n 0, 1) := by decide +kernel
theorem dX9_names_99 : decode cX9_names 99 = .ok (.bipush 13, 2) := by decide +kernel
theorem dX9_names_101 : decode cX9_names 101 = .ok (.bipush 24, 2) := by decide +kernel
theorem dX9_names_103 : decode cX9_names 103 = .ok (.invokestatic 68, 3) := by decide +kernel
theorem dX9_names_106 : decode cX9_names 106 = .ok (.ifCond .ne 9, 3) := by decide +kernel
theorem dX9_names_109 : decode cX9_names 109 = .ok (.iload_n 0, 1) := by decide +kernel
theorem dX9_names_110 : decode cX9_names 110 = .ok (.bipush 26, 2) := by decide +kernel
theorem dX9_names_112 : decode cX9_names 112 = .ok (.if_icmp .ne 158, 3) := by decide +kernel
theorem dX9_names_115 : decode cX9_names 115 = .ok (.iload_n 0, 1) := by decide +kernel
theorem dX9_names_116 : decode cX9_names 116 = .ok (.bipush 13, 2) := by decide +kernel
theorem dX9_names_118 : decode cX9_names 118 = .ok (.if_icmp .eq 9, 3) := by decide +kernel
theorem dX9_names_121 : decode cX9_names 121 = .ok (.iload_n 0, 1) := by decide +kernel
theorem dX9_names_122 : decode cX9_names 122 = .ok (.bipush 17, 2) := by decide +kernel
theorem dX9_names_124 : decode cX9_names 124 = .ok (.if_icmp .ne 7, 3) := by decide +kernel
theorem dX9_names_127 : decode cX9_names 127 = .ok (.iconst 2, 1) := by decide +kernel
theorem dX9_names_128 : decode cX9_names 128 = .ok (.goto 54, 3) := by decide +kernel
theorem dX9_names_131 : decode cX9_names 131 = .ok (.iload_n 0, 1) := by decide +kernel
theorem dX9_names_132 : decode cX9_names 132 = .ok (.bipush 14, 2) := by decide +kernel
theorem dX9_names_134 : decode cX9_names 134 = .ok (.if_icmp .eq 15, 3) := by decide +kernel
theorem dX9_names_137 : decode cX9_names 137 = .ok (.iload_n 0, 1) := by decide +kernel
theorem dX9_names_138 : decode cX9_names 138 = .ok (.bipush 18, 2) := by decide +kernel
theorem dX9_names_140 : decode cX9_names 140 = .ok (.if_icmp .eq 9, 3) := by decide +kernel
theorem dX9_names_143 : decode cX9_names 143 = .ok (.iload_n 0, 1) := by decide +kernel
theorem dX9_names_144 : decode cX9_names 144 = .ok (.bipush 26, 2) := by decide +kernel
theorem dX9_names_146 : decode cX9_names 146 = .ok (.if_icmp .ne 7, 3) := by decide +kernel
theorem dX9_names_149 : decode cX9_names 149 = .ok (.iconst 1, 1) := by decide +kernel
theorem dX9_names_150 : decode cX9_names 150 = .ok (.goto 32, 3) := by decide +kernel
theorem dX9_names_153 : decode cX9_names 153 = .ok (.iload_n 0, 1) := by decide +kernel
theorem dX9_names_154 : decode cX9_names 154 = .ok (.bipush 15, 2) := by decide +kernel
theorem dX9_names_156 : decode cX9_names 156 = .ok (.if_icmp .eq 21, 3) := by decide +kernel
theorem dX9_names_159 : decode cX9_names 159 = .ok (.iload_n 0, 1) := by decide +kernel
theorem dX9_names_160 : decode cX9_names 160 = .ok (.bipush 20, 2) := by decide +kernel
theorem dX9_names_162 : decode cX9_names 162 = .ok (.if_icmp .eq 15, 3) := by decide +kernel
theorem dX9_names_165 : decode cX9_names 165 = .ok (.iload_n 0, 1) := by decide +kernel
theorem dX9_names_166 : decode cX9_names 166 = .ok (.bipush 21, 2) := by decide +kernel
theorem dX9_names_168 : decode cX9_names 168 = .ok (.if_icmp .eq 9, 3) := by decide +kernel
theorem dX9_names_171 : decode cX9_names 171 = .ok (.iload_n 0, 1) := by decide +kernel
theorem dX9_names_172 : decode cX9_names 172 = .ok (.bipush 23, 2) := by decide +kernel
theorem dX9_names_174 : decode cX9_names 174 = .ok (.if_icmp .ne 7, 3) := by decide +kernel
theorem dX9_names_177 : decode cX9_names 177 = .ok (.iconst 3, 1) := by decide +kernel
theorem dX9_names_178 : decode cX9_names 178 = .ok (.goto 4, 3) := by decide +kernel
theorem dX9_names_181 : decode cX9_names 181 = .ok (.iconst 4, 1) := by decide +kernel
theorem dX9_names_182 : decode cX9_names 182 = .ok (.istore_n 2, 1) := by decide +kernel
theorem dX9_names_183 : decode cX9_names 183 = .ok (.iload_n 0, 1) := by decide +kernel
theorem dX9_names_184 : decode cX9_names 184 = .ok (.bipush 13, 2) := by decide +kernel
theorem dX9_names_186 : decode cX9_names 186 = .ok (.if_icmp .ne 7, 3) := by decide +kernel
theorem dX9_names_189 : decode cX9_names 189 = .ok (.iconst 1, 1) := by decide +kernel
theorem dX9_names_190 : decode cX9_names 190 = .ok (.goto 47, 3) := by decide +kernel
theorem dX9_names_193 : decode cX9_names 193 = .ok (.iload_n 0, 1) := by decide +kernel
theorem dX9_names_194 : decode cX9_names 194 = .ok (.bipush 14, 2) := by decide +kernel
theorem dX9_names_196 : decode cX9_names 196 = .ok (.bipush 16, 2) := by decide +kernel
theorem dX9_names_198 : decode cX9_names 198 = .ok (.invokestatic 68, 3) := by decide +kernel
theorem dX9_names_201 : decode cX9_names 201 = .ok (.ifCond .eq 7, 3) := by decide +kernel
theorem dX9_names_204 : decode cX9_names 204 = .ok (.iconst 2, 1) := by decide +kernel
theorem dX9_names_205 : decode cX9_names 205 = .ok (.goto 32, 3) := by decide +kernel
theorem dX9_names_208 : decode cX9_names 208 = .ok (.iload_n 0, 1) := by decide +kernel
theorem dX9_names_209 : decode cX9_names 209 = .ok (.bipush 17, 2) := by decide +kernel
theorem dX9_names_211 : decode cX9_names 211 = .ok (.if_icmp .eq 21, 3) := by decide +kernel
theorem dX9_names_214 : decode cX9_names 214 = .ok (.iload_n 0, 1) := by decide +kernel
theorem dX9_names_215 : decode cX9_names 215 = .ok (.bipush 19, 2) := by decide +kernel
theorem dX9_names_217 : decode cX9_names 217 = .ok (.if_icmp .eq 15, 3) := by decide +kernel
theorem dX9_names_220 : decode cX9_names 220 = .ok (.iload_n 0, 1) := by decide +kernel
theorem dX9_names_221 : decode cX9_names 221 = .ok (.bipush 21, 2) := by decide +kernel
theorem dX9_names_223 : decode cX9_names 223 = .ok (.if_icmp .eq 9, 3) := by decide +kernel
theorem dX9_names_226 : decode cX9_names 226 = .ok (.iload_n 0, 1) := by decide +kernel
theorem dX9_names_227 : decode cX9_names 227 = .ok (.bipush 23, 2) := by decide +kernel
theorem dX9_names_229 : decode cX9_names 229 = .ok (.if_icmp .ne 7, 3) := by decide +kernel
theorem dX9_names_232 : decode cX9_names 232 = .ok (.iconst 3, 1) := by decide +kernel
theorem dX9_names_233 : decode cX9_names 233 = .ok (.goto 4, 3) := by decide +kernel
theorem dX9_names_236 : decode cX9_names 236 = .ok (.iconst 4, 1) := by decide +kernel
theorem dX9_names_237 : decode cX9_names 237 = .ok (.istore_n 3, 1) := by decide +kernel
theorem dX9_names_238 : decode cX9_names 238 = .ok (.iload_n 0, 1) := by decide +kernel
theorem dX9_names_239 : decode cX9_names 239 = .ok (.bipush 23, 2) := by decide +kernel
theorem dX9_names_241 : decode cX9_names 241 = .ok (.if_icmp .ne 7, 3) := by decide +kernel
theorem dX9_names_244 : decode cX9_names 244 = .ok (.iconst 3, 1) := by decide +kernel
theorem dX9_names_245 : decode cX9_names 245 = .ok (.goto 20, 3) := by decide +kernel
theorem dX9_names_248 : decode cX9_names 248 = .ok (.iload_n 0, 1) := by decide +kernel
theorem dX9_names_249 : decode cX9_names 249 = .ok (.bipush 24, 2) := by decide +kernel
theorem dX9_names_251 : decode cX9_names 251 = .ok (.if_icmp .eq 9, 3) := by decide +kernel
theorem dX9_names_254 : decode cX9_names 254 = .ok (.iload_n 0, 1) := by decide +kernel
theorem dX9_names_255 : decode cX9_names 255 = .ok (.bipush 26, 2) := by decide +kernel
theorem dX9_names_257 : decode cX9_names 257 = .ok (.if_icmp .ne 7, 3) := by decide +kernel
theorem dX9_names_260 : decode cX9_names 260 = .ok (.iconst 4, 1) := by decide +kernel
theorem dX9_names_261 : decode cX9_names 261 = .ok (.goto 4, 3) := by decide +kernel
theorem dX9_names_264 : decode cX9_names 264 = .ok (.iconst 0, 1) := by decide +kernel
theorem dX9_names_265 : decode cX9_names 265 = .ok (.istore 4, 2) := by decide +kernel
theorem dX9_names_267 : decode cX9_names 267 = .ok (.goto 338, 3) := by decide +kernel
theorem dX9_names_270 : decode cX9_names 270 = .ok (.iload_n 0, 1) := by decide +kernel
theorem dX9_names_271 : decode cX9_names 271 = .ok (.bipush 27, 2) := by decide +kernel
theorem dX9_names_273 : decode cX9_names 273 = .ok (.if_icmp .eq 9, 3) := by decide +kernel
theorem dX9_names_276 : decode cX9_names 276 = .ok (.iload_n 0, 1) := by decide +kernel
theorem dX9_names_277 : decode cX9_names 277 = .ok (.bipush 29, 2) := by decide +kernel
theorem dX9_names_279 : decode cX9_names 279 = .ok (.if_icmp .ne 9, 3) := by decide +kernel
theorem dX9_names_282 : decode cX9_names 282 = .ok (.bipush 6, 2) := by decide +kernel
theorem dX9_names_284 : decode cX9_names 284 = .ok (.istore_n 2, 1) := by decide +kernel
theorem dX9_names_285 : decode cX9_names 285 = .ok (.goto 320, 3) := by decide +kernel
theorem dX9_names_288 : decode cX9_names 288 = .ok (.iload_n 0, 1) := by decide +kernel
theorem dX9_names_289 : decode cX9_names 289 = .ok (.bipush 28, 2) := by decide +kernel
theorem dX9_names_291 : decode cX9_names 291 = .ok (.if_icmp .ne 11, 3) := by decide +kernel
theorem dX9_names_294 : decode cX9_names 294 = .ok (.iconst 1, 1) := by decide +kernel
theorem dX9_names_295 : decode cX9_names 295 = .ok (.istore_n 2, 1) := by decide +kernel
theorem dX9_names_296 : decode cX9_names 296 = .ok (.bipush 6, 2) := by decide +kernel
theorem dX9_names_298 : decode cX9_names 298 = .ok (.istore_n 3, 1) := by decide +kernel
theorem dX9_names_299 : decode cX9_names 299 = .ok (.goto 306, 3) := by decide +kernel
theorem dX9_names_302 : decode cX9_names 302 = .ok (.iload_n 0, 1) := by decide +kernel
theorem dX9_names_303 : decode cX9_names 303 = .ok (.bipush 31, 2) := by decide +kernel
theorem dX9_names_305 : decode cX9_names 305 = .ok (.bipush 38, 2) := by decide +kernel
theorem dX9_names_307 : decode cX9_names 307 = .ok (.invokestatic 68, 3) := by decide +kernel
theorem dX9_names_310 : decode cX9_names 310 = .ok (.ifCond .eq 101, 3) := by decide +kernel
theorem dX9_names_313 : decode cX9_names 313 = .ok (.iload_n 0, 1) := by decide +kernel
theorem dX9_names_314 : decode cX9_names 314 = .ok (.bipush 36, 2) := by decide +kernel
theorem dX9_names_316 : decode cX9_names 316 = .ok (.if_icmp .lt 7, 3) := by decide +kernel
theorem dX9_names_319 : decode cX9_names 319 = .ok (.iconst 1, 1) := by decide +kernel
theorem dX9_names_320 : decode cX9_names 320 = .ok (.goto 4, 3) := by decide +kernel
theorem dX9_names_323 : decode cX9_names 323 = .ok (.iconst 5, 1) := by decide +kernel
theorem dX9_names_324 : decode cX9_names 324 = .ok (.istore_n 2, 1) := by decide +kernel
theorem dX9_names_325 : decode cX9_names 325 = .ok (.iload_n 0, 1) := by decide +kernel
theorem dX9_names_326 : decode cX9_names 326 = .ok (.bipush 31, 2) := by decide +kernel
theorem dX9_names_328 : decode cX9_names 328 = .ok (.if_icmp .ne 8, 3) := by decide +kernel
theorem dX9_names_331 : decode cX9_names 331 = .ok (.bipush 7, 2) := by decide +kernel
theorem dX9_names_333 : decode cX9_names 333 = .ok (.goto 35, 3) := by decide +kernel
theorem dX9_names_336 : decode cX9_names 336 = .ok (.iload_n 0, 1) := by decide +kernel
theorem dX9_names_337 : decode cX9_names 337 = .ok (.bipush 32, 2) := by decide +kernel
theorem dX9_names_339 : decode cX9_names 339 = .ok (.if_icmp .ne 7, 3) := by decide +kernel
theorem dX9_names_342 : decode cX9_names 342 = .ok (.iconst 1, 1) := by decide +kernel
theorem dX9_names_343 : decode cX9_names 343 = .ok (.goto 25, 3) := by decide +kernel
theorem dX9_names_346 : decode cX9_names 346 = .ok (.iload_n 0, 1) := by decide +kernel
theorem dX9_names_347 : decode cX9_names 347 = .ok (.bipush 33, 2) := by decide +kernel
theorem dX9_names_349 : decode cX9_names 349 = .ok (.if_icmp .ne 8, 3) := by decide +kernel
theorem dX9_names_352 : decode cX9_names 352 = .ok (.bipush 8, 2) := by decide +kernel
theorem dX9_names_354 : decode cX9_names 354 = .ok (.goto 14, 3) := by decide +kernel
theorem dX9_names_357 : decode cX9_names 357 = .ok (.iload_n 0, 1) := by decide +kernel
theorem dX9_names_358 : decode cX9_names 358 = .ok (.bipush 35, 2) := by decide +kernel
theorem dX9_names_360 : decode cX9_names 360 = .ok (.if_icmp .ne 7, 3) := by decide +kernel
theorem dX9_names_363 : decode cX9_names 363 = .ok (.iconst 0, 1) := by decide +kernel
theorem dX9_names_364 : decode cX9_names 364 = .ok (.goto 4, 3) := by decide +kernel
theorem dX9_names_367 : decode cX9_names 367 = .ok (.iconst 5, 1) := by decide +kernel
theorem dX9_names_368 : decode cX9_names 368 = .ok (.istore_n 3, 1) := by decide +kernel
theorem dX9_names_369 : decode cX9_names 369 = .ok (.iload_n 0, 1) := by decide +kernel
theorem dX9_names_370 : decode cX9_names 370 = .ok (.bipush 31, 2) := by decide +kernel
theorem dX9_names_372 : decode cX9_names 372 = .ok (.bipush 33, 2) := by decide +kernel
theorem dX9_names_374 : decode cX9_names 374 = .ok (.invokestatic 68, 3) := by decide +kernel
theorem dX9_names_377 : decode cX9_names 377 = .ok (.ifCond .eq 7, 3) := by decide +kernel
theorem dX9_names_380 : decode cX9_names 380 = .ok (.iconst 1, 1) := by decide +kernel
theorem dX9_names_381 : decode cX9_names 381 = .ok (.goto 25, 3) := by decide +kernel
theorem dX9_names_384 : decode cX9_names 384 = .ok (.iload_n 0, 1) := by decide +kernel
theorem dX9_names_385 : decode cX9_names 385 = .ok (.bipush 36, 2) := by decide +kernel
theorem dX9_names_387 : decode cX9_names 387 = .ok (.if_icmp .ne 7, 3) := by decide +kernel
theorem dX9_names_390 : decode cX9_names 390 = .ok (.iconst 5, 1) := by decide +kernel
theorem dX9_names_391 : decode cX9_names 391 = .ok (.goto 15, 3) := by decide +kernel
theorem dX9_names_394 : decode cX9_names 394 = .ok (.iload_n 0, 1) := by decide +kernel
theorem dX9_names_395 : decode cX9_names 395 = .ok (.bipush 37, 2) := by decide +kernel
theorem dX9_names_397 : decode cX9_names 397 = .ok (.if_icmp .ne 8, 3) := by decide +kernel
theorem dX9_names_400 : decode cX9_names 400 = .ok (.bipush 9, 2) := by decide +kernel
theorem dX9_names_402 : decode cX9_names 402 = .ok (.goto 4, 3) := by decide +kernel
theorem dX9_names_405 : decode cX9_names 405 = .ok (.iconst 0, 1) := by decide +kernel
theorem dX9_names_406 : decode cX9_names 406 = .ok (.istore 4, 2) := by decide +kernel
theorem dX9_names_408 : decode cX9_names 408 = .ok (.goto 197, 3) := by decide +kernel
theorem dX9_names_411 : decode cX9_names 411 = .ok (.iload_n 0, 1) := by decide +kernel
theorem dX9_names_412 : decode cX9_names 412 = .ok (.bipush 39, 2) := by decide +kernel
theorem dX9_names_414 : decode cX9_names 414 = .ok (.bipush 58, 2) := by decide +kernel
theorem dX9_names_416 : decode cX9_names 416 = .ok (.invokestatic 68, 3) := by decide +kernel
theorem dX9_names_419 : decode cX9_names 419 = .ok (.ifCond .eq 64, 3) := by decide +kernel
theorem dX9_names_422 : decode cX9_names 422 = .ok (.iload_n 0, 1) := by decide +kernel
theorem dX9_names_423 : decode cX9_names 423 = .ok (.bipush 39, 2) := by decide +kernel
theorem dX9_names_425 : decode cX9_names 425 = .ok (.isub, 1) := by decide +kernel
theorem dX9_names_426 : decode cX9_names 426 = .ok (.bipush 10, 2) := by decide +kernel
theorem dX9_names_428 : decode cX9_names 428 = .ok (.irem, 1) := by decide +kernel
theorem dX9_names_429 : decode cX9_names 429 = .ok (.istore 5, 2) := by decide +kernel
theorem dX9_names_431 : decode cX9_names 431 = .ok (.iload 5, 2) := by decide +kernel
theorem dX9_names_433 : decode cX9_names 433 = .ok (.iconst 5, 1) := by decide +kernel
theorem dX9_names_434 : decode cX9_names 434 = .ok (.if_icmp .ge 7, 3) := by decide +kernel
theorem dX9_names_437 : decode cX9_names 437 = .ok (.iconst 1, 1) := by decide +kernel
theorem dX9_names_438 : decode cX9_names 438 = .ok (.goto 36, 3) := by decide +kernel
theorem dX9_names_441 : decode cX9_names 441 = .ok (.iload 5, 2) := by decide +kernel
theorem dX9_names_443 : decode cX9_names 443 = .ok (.iconst 5, 1) := by decide +kernel
theorem dX9_names_444 : decode cX9_names 444 = .ok (.if_icmp .ne 7, 3) := by decide +kernel
theorem dX9_names_447 : decode cX9_names 447 = .ok (.iconst 2, 1) := by decide +kernel
theorem dX9_names_448 : decode cX9_names 448 = .ok (.goto 26, 3) := by decide +kernel
theorem dX9_names_451 : decode cX9_names 451 = .ok (.iload 5, 2) := by decide +kernel
theorem dX9_names_453 : decode cX9_names 453 = .ok (.bipush 6, 2) := by decide +kernel
theorem dX9_names_455 : decode cX9_names 455 = .ok (.if_icmp .ne 7, 3) := by decide +kernel
theorem dX9_names_458 : decode cX9_names 458 = .ok (.iconst 3, 1) := by decide +kernel
theorem dX9_names_459 : decode cX9_names 459 = .ok (.goto 15, 3) := by decide +kernel
theorem dX9_names_462 : decode cX9_names 462 = .ok (.iload 5, 2) := by decide +kernel
theorem dX9_names_464 : decode cX9_names 464 = .ok (.bipush 7, 2) := by decide +kernel
theorem dX9_names_466 : decode cX9_names 466 = .ok (.if_icmp .ne 7, 3) := by decide +kernel
theorem dX9_names_469 : decode cX9_names 469 = .ok (.iconst 4, 1) := by decide +kernel
theorem dX9_names_470 : decode cX9_names 470 = .ok (.goto 4, 3) := by decide +kernel
theorem dX9_names_473 : decode cX9_names 473 = .ok (.iconst 5, 1) := by decide +kernel
theorem dX9_names_474 : decode cX9_names 474 = .ok (.istore_n 2, 1) := by decide +kernel
theorem dX9_names_475 : decode cX9_names 475 = .ok (.iconst 5, 1) := by decide +kernel
theorem dX9_names_476 : decode cX9_names 476 = .ok (.istore_n 3, 1) := by decide +kernel
theorem dX9_names_477 : decode cX9_names 477 = .ok (.iconst 1, 1) := by decide +kernel
theorem dX9_names_478 : decode cX9_names 478 = .ok (.istore 4, 2) := by decide +kernel
theorem dX9_names_480 : decode cX9_names 480 = .ok (.goto 125, 3) := by decide +kernel
theorem dX9_names_483 : decode cX9_names 483 = .ok (.iload_n 0, 1) := by decide +kernel
theorem dX9_names_484 : decode cX9_names 484 = .ok (.bipush 59, 2) := by decide +kernel
theorem dX9_names_486 : decode cX9_names 486 = .ok (.bipush 66, 2) := by decide +kernel
theorem dX9_names_488 : decode cX9_names 488 = .ok (.invokestatic 68, 3) := by decide +kernel
theorem dX9_names_491 : decode cX9_names 491 = .ok (.ifCond .eq 55, 3) := by decide +kernel
theorem dX9_names_494 : decode cX9_names 494 = .ok (.iload_n 0, 1) := by decide +kernel
theorem dX9_names_495 : decode cX9_names 495 = .ok (.bipush 61, 2) := by decide +kernel
theorem dX9_names_497 : decode cX9_names 497 = .ok (.if_icmp .eq 9, 3) := by decide +kernel
theorem dX9_names_500 : decode cX9_names 500 = .ok (.iload_n 0, 1) := by decide +kernel
theorem dX9_names_501 : decode cX9_names 501 = .ok (.bipush 62, 2) := by decide +kernel
theorem dX9_names_503 : decode cX9_names 503 = .ok (.if_icmp .ne 7, 3) := by decide +kernel
theorem dX9_names_506 : decode cX9_names 506 = .ok (.iconst 2, 1) := by decide +kernel
theorem dX9_names_507 : decode cX9_names 507 = .ok (.goto 20, 3) := by decide +kernel
theorem dX9_names_510 : decode cX9_names 510 = .ok (.iload_n 0, 1) := by decide +kernel
theorem dX9_names_511 : decode cX9_names 511 = .ok (.bipush 63, 2) := by decide +kernel
theorem dX9_names_513 : decode cX9_names 513 = .ok (.if_icmp .eq 9, 3) := by decide +kernel
theorem dX9_names_516 : decode cX9_names 516 = .ok (.iload_n 0, 1) := by decide +kernel
theorem dX9_names_517 : decode cX9_names 517 = .ok (.bipush 64, 2) := by decide +kernel
theorem dX9_names_519 : decode cX9_names 519 = .ok (.if_icmp .ne 7, 3) := by decide +kernel
theorem dX9_names_522 : decode cX9_names 522 = .ok (.iconst 5, 1) := by decide +kernel
theorem dX9_names_523 : decode cX9_names 523 = .ok (.goto 4, 3) := by decide +kernel
theorem dX9_names_526 : decode cX9_names 526 = .ok (.iconst 1, 1) := by decide +kernel
theorem dX9_names_527 : decode cX9_names 527 = .ok (.istore_n 2, 1) := by decide +kernel
theorem dX9_names_528 : decode cX9_names 528 = .ok (.iconst 5, 1) := by decide +kernel
theorem dX9_names_529 : decode cX9_names 529 = .ok (.istore_n 3, 1) := by decide +kernel
theorem dX9_names_530 : decode cX9_names 530 = .ok (.iload_n 0, 1) := by decide +kernel
theorem dX9_names_531 : decode cX9_names 531 = .ok (.bipush 65, 2) := by decide +kernel
theorem dX9_names_533 : decode cX9_names 533 = .ok (.if_icmp .lt 7, 3) := by decide +kernel
theorem dX9_names_536 : decode cX9_names 536 = .ok (.iconst 1, 1) := by decide +kernel
theorem dX9_names_537 : decode cX9_names 537 = .ok (.goto 4, 3) := by decide +kernel
theorem dX9_names_540 : decode cX9_names 540 = .ok (.iconst 0, 1) := by decide +kernel
theorem dX9_names_541 : decode cX9_names 541 = .ok (.istore 4, 2) := by decide +kernel
theorem dX9_names_543 : decode cX9_names 543 = .ok (.goto 62, 3) := by decide +kernel
theorem dX9_names_546 : decode cX9_names 546 = .ok (.iload_n 0, 1) := by decide +kernel
theorem dX9_names_547 : decode cX9_names 547 = .ok (.bipush 67, 2) := by decide +kernel
theorem dX9_names_549 : decode cX9_names 549 = .ok (.if_icmp .ne 13, 3) := by decide +kernel
theorem dX9_names_552 : decode cX9_names 552 = .ok (.iconst 5, 1) := by decide +kernel
theorem dX9_names_553 : decode cX9_names 553 = .ok (.istore_n 2, 1) := by decide +kernel
theorem dX9_names_554 : decode cX9_names 554 = .ok (.iconst 1, 1) := by decide +kernel
theorem dX9_names_555 : decode cX9_names 555 = .ok (.istore_n 3, 1) := by decide +kernel
theorem dX9_names_556 : decode cX9_names 556 = .ok (.iconst 5, 1) := by decide +kernel
theorem dX9_names_557 : decode cX9_names 557 = .ok (.istore 4, 2) := by decide +kernel
theorem dX9_names_559 : decode cX9_names 559 = .ok (.goto 46, 3) := by decide +kernel
theorem dX9_names_562 : decode cX9_names 562 = .ok (.iload_n 0, 1) := by decide +kernel
theorem dX9_names_563 : decode cX9_names 563 = .ok (.bipush 68, 2) := by decide +kernel
theorem dX9_names_565 : decode cX9_names 565 = .ok (.if_icmp .eq 9, 3) := by decide +kernel
theorem dX9_names_568 : decode cX9_names 568 = .ok (.iload_n 0, 1) := by decide +kernel
theorem dX9_names_569 : decode cX9_names 569 = .ok (.bipush 69, 2) := by decide +kernel
theorem dX9_names_571 : decode cX9_names 571 = .ok (.if_icmp .ne 8, 3) := by decide +kernel
theorem dX9_names_574 : decode cX9_names 574 = .ok (.iconst 5, 1) := by decide +kernel
theorem dX9_names_575 : decode cX9_names 575 = .ok (.istore_n 2, 1) := by decide +kernel
theorem dX9_names_576 : decode cX9_names 576 = .ok (.goto 29, 3) := by decide +kernel
theorem dX9_names_579 : decode cX9_names 579 = .ok (.iload_n 0, 1) := by decide +kernel
theorem dX9_names_580 : decode cX9_names 580 = .ok (.bipush 70, 2) := by decide +kernel
theorem dX9_names_582 : decode cX9_names 582 = .ok (.if_icmp .eq 9, 3) := by decide +kernel
theorem dX9_names_585 : decode cX9_names 585 = .ok (.iload_n 0, 1) := by decide +kernel
theorem dX9_names_586 : decode cX9_names 586 = .ok (.bipush 71, 2) := by decide +kernel
theorem dX9_names_588 : decode cX9_names 588 = .ok (.if_icmp .ne 17, 3) := by decide +kernel
theorem dX9_names_591 : decode cX9_names 591 = .ok (.iload_n 0, 1) := by decide +kernel
theorem dX9_names_592 : decode cX9_names 592 = .ok (.bipush 70, 2) := by decide +kernel
theorem dX9_names_594 : decode cX9_names 594 = .ok (.if_icmp .ne 7, 3) := by decide +kernel
theorem dX9_names_597 : decode cX9_names 597 = .ok (.iconst 1, 1) := by decide +kernel
theorem dX9_names_598 : decode cX9_names 598 = .ok (.goto 4, 3) := by decide +kernel
theorem dX9_names_601 : decode cX9_names 601 = .ok (.iconst 5, 1) := by decide +kernel
theorem dX9_names_602 : decode cX9_names 602 = .ok (.istore_n 2, 1) := by decide +kernel
theorem dX9_names_603 : decode cX9_names 603 = .ok (.iconst 5, 1) := by decide +kernel
theorem dX9_names_604 : decode cX9_names 604 = .ok (.istore_n 3, 1) := by decide +kernel
theorem dX9_names_605 : decode cX9_names 605 = .ok (.iload_n 1, 1) := by decide +kernel
theorem dX9_names_606 : decode cX9_names 606 = .ok (.ifCond .ne 7, 3) := by decide +kernel
theorem dX9_names_609 : decode cX9_names 609 = .ok (.iload_n 2, 1) := by decide +kernel
theorem dX9_names_610 : decode cX9_names 610 = .ok (.goto 14, 3) := by decide +kernel
theorem dX9_names_613 : decode cX9_names 613 = .ok (.iload_n 1, 1) := by decide +kernel
theorem dX9_names_614 : decode cX9_names 614 = .ok (.iconst 1, 1) := by decide +kernel
theorem dX9_names_615 : decode cX9_names 615 = .ok (.if_icmp .ne 7, 3) := by decide +kernel
theorem dX9_names_618 : decode cX9_names 618 = .ok (.iload_n 3, 1) := by decide +kernel
theorem dX9_names_619 : decode cX9_names 619 = .ok (.goto 5, 3) := by decide +kernel
theorem dX9_names_622 : decode cX9_names 622 = .ok (.iload 4, 2) := by decide +kernel
theorem dX9_names_624 : decode cX9_names 624 = .ok (.ireturn, 1) := by decide +kernel
theorem dX9_isTold_0 : decode cX9_isTold 0 = .ok (.iload_n 0, 1) := by decide +kernel
theorem dX9_isTold_1 : decode cX9_isTold 1 = .ok (.tableswitch 100 1 9 #[51, 59, 59, 59, 51, 66, 75, 83, 92], 51) := by decide +kernel
theorem dX9_isTold_52 : decode cX9_isTold 52 = .ok (.iload_n 1, 1) := by decide +kernel
theorem dX9_isTold_53 : decode cX9_isTold 53 = .ok (.iconst 0, 1) := by decide +kernel
theorem dX9_isTold_54 : decode cX9_isTold 54 = .ok (.bipush 7, 2) := by decide +kernel
theorem dX9_isTold_56 : decode cX9_isTold 56 = .ok (.invokestatic 68, 3) := by decide +kernel
theorem dX9_isTold_59 : decode cX9_isTold 59 = .ok (.ireturn, 1) := by decide +kernel
theorem dX9_isTold_60 : decode cX9_isTold 60 = .ok (.iload_n 1, 1) := by decide +kernel
theorem dX9_isTold_61 : decode cX9_isTold 61 = .ok (.iconst 0, 1) := by decide +kernel
theorem dX9_isTold_62 : decode cX9_isTold 62 = .ok (.iconst 3, 1) := by decide +kernel
theorem dX9_isTold_63 : decode cX9_isTold 63 = .ok (.invokestatic 68, 3) := by decide +kernel
theorem dX9_isTold_66 : decode cX9_isTold 66 = .ok (.ireturn, 1) := by decide +kernel
theorem dX9_isTold_67 : decode cX9_isTold 67 = .ok (.iload_n 1, 1) := by decide +kernel
theorem dX9_isTold_68 : decode cX9_isTold 68 = .ok (.iconst 0, 1) := by decide +kernel
theorem dX9_isTold_69 : decode cX9_isTold 69 = .ok (.sipush 199, 3) := by decide +kernel
theorem dX9_isTold_72 : decode cX9_isTold 72 = .ok (.invokestatic 68, 3) := by decide +kernel
theorem dX9_isTold_75 : decode cX9_isTold 75 = .ok (.ireturn, 1) := by decide +kernel
theorem dX9_isTold_76 : decode cX9_isTold 76 = .ok (.iload_n 1, 1) := by decide +kernel
theorem dX9_isTold_77 : decode cX9_isTold 77 = .ok (.iconst 0, 1) := by decide +kernel
theorem dX9_isTold_78 : decode cX9_isTold 78 = .ok (.bipush 9, 2) := by decide +kernel
theorem dX9_isTold_80 : decode cX9_isTold 80 = .ok (.invokestatic 68, 3) := by decide +kernel
theorem dX9_isTold_83 : decode cX9_isTold 83 = .ok (.ireturn, 1) := by decide +kernel
theorem dX9_isTold_84 : decode cX9_isTold 84 = .ok (.iload_n 1, 1) := by decide +kernel
theorem dX9_isTold_85 : decode cX9_isTold 85 = .ok (.bipush 11, 2) := by decide +kernel
theorem dX9_isTold_87 : decode cX9_isTold 87 = .ok (.bipush 14, 2) := by decide +kernel
theorem dX9_isTold_89 : decode cX9_isTold 89 = .ok (.invokestatic 68, 3) := by decide +kernel
theorem dX9_isTold_92 : decode cX9_isTold 92 = .ok (.ireturn, 1) := by decide +kernel
theorem dX9_isTold_93 : decode cX9_isTold 93 = .ok (.iload_n 1, 1) := by decide +kernel
theorem dX9_isTold_94 : decode cX9_isTold 94 = .ok (.iconst 0, 1) := by decide +kernel
theorem dX9_isTold_95 : decode cX9_isTold 95 = .ok (.bipush 16, 2) := by decide +kernel
theorem dX9_isTold_97 : decode cX9_isTold 97 = .ok (.invokestatic 68, 3) := by decide +kernel
theorem dX9_isTold_100 : decode cX9_isTold 100 = .ok (.ireturn, 1) := by decide +kernel
theorem dX9_isTold_101 : decode cX9_isTold 101 = .ok (.iconst 1, 1) := by decide +kernel
theorem dX9_isTold_102 : decode cX9_isTold 102 = .ok (.ireturn, 1) := by decide +kernel
theorem dX9_put_0 : decode cX9_put 0 = .ok (.iload_n 1, 1) := by decide +kernel
theorem dX9_put_1 : decode cX9_put 1 = .ok (.iconst 0, 1) := by decide +kernel
theorem dX9_put_2 : decode cX9_put 2 = .ok (.bipush 73, 2) := by decide +kernel
theorem dX9_put_4 : decode cX9_put 4 = .ok (.invokestatic 68, 3) := by decide +kernel
theorem dX9_put_7 : decode cX9_put 7 = .ok (.ifCond .eq 40, 3) := by decide +kernel
theorem dX9_put_10 : decode cX9_put 10 = .ok (.iload_n 1, 1) := by decide +kernel
theorem dX9_put_11 : decode cX9_put 11 = .ok (.iconst 0, 1) := by decide +kernel
theorem dX9_put_12 : decode cX9_put 12 = .ok (.invokestatic 72, 3) := by decide +kernel
theorem dX9_put_15 : decode cX9_put 15 = .ok (.iload_n 2, 1) := by decide +kernel
theorem dX9_put_16 : decode cX9_put 16 = .ok (.invokestatic 76, 3) := by decide +kernel
theorem dX9_put_19 : decode cX9_put 19 = .ok (.ifCond .eq 28, 3) := by decide +kernel
theorem dX9_put_22 : decode cX9_put 22 = .ok (.iload_n 1, 1) := by decide +kernel
theorem dX9_put_23 : decode cX9_put 23 = .ok (.iconst 1, 1) := by decide +kernel
theorem dX9_put_24 : decode cX9_put 24 = .ok (.invokestatic 72, 3) := by decide +kernel
theorem dX9_put_27 : decode cX9_put 27 = .ok (.iload_n 3, 1) := by decide +kernel
theorem dX9_put_28 : decode cX9_put 28 = .ok (.invokestatic 76, 3) := by decide +kernel
theorem dX9_put_31 : decode cX9_put 31 = .ok (.ifCond .eq 16, 3) := by decide +kernel
theorem dX9_put_34 : decode cX9_put 34 = .ok (.iload_n 1, 1) := by decide +kernel
theorem dX9_put_35 : decode cX9_put 35 = .ok (.iconst 2, 1) := by decide +kernel
theorem dX9_put_36 : decode cX9_put 36 = .ok (.invokestatic 72, 3) := by decide +kernel
theorem dX9_put_39 : decode cX9_put 39 = .ok (.iload 4, 2) := by decide +kernel
theorem dX9_put_41 : decode cX9_put 41 = .ok (.invokestatic 76, 3) := by decide +kernel
theorem dX9_put_44 : decode cX9_put 44 = .ok (.ifCond .ne 5, 3) := by decide +kernel
theorem dX9_put_47 : decode cX9_put 47 = .ok (.iconst (-1), 1) := by decide +kernel
theorem dX9_put_48 : decode cX9_put 48 = .ok (.ireturn, 1) := by decide +kernel
theorem dX9_put_49 : decode cX9_put 49 = .ok (.aload_n 0, 1) := by decide +kernel
theorem dX9_put_50 : decode cX9_put 50 = .ok (.getfield 80, 3) := by decide +kernel
theorem dX9_put_53 : decode cX9_put 53 = .ok (.sipush 150, 3) := by decide +kernel
theorem dX9_put_56 : decode cX9_put 56 = .ok (.if_icmp .ne 6, 3) := by decide +kernel
theorem dX9_put_59 : decode cX9_put 59 = .ok (.bipush (-2), 2) := by decide +kernel
theorem dX9_put_61 : decode cX9_put 61 = .ok (.ireturn, 1) := by decide +kernel
theorem dX9_put_62 : decode cX9_put 62 = .ok (.aload_n 0, 1) := by decide +kernel
theorem dX9_put_63 : decode cX9_put 63 = .ok (.getfield 7, 3) := by decide +kernel
theorem dX9_put_66 : decode cX9_put 66 = .ok (.iconst 4, 1) := by decide +kernel
theorem dX9_put_67 : decode cX9_put 67 = .ok (.aload_n 0, 1) := by decide +kernel
theorem dX9_put_68 : decode cX9_put 68 = .ok (.getfield 80, 3) := by decide +kernel
theorem dX9_put_71 : decode cX9_put 71 = .ok (.imul, 1) := by decide +kernel
theorem dX9_put_72 : decode cX9_put 72 = .ok (.iload_n 1, 1) := by decide +kernel
theorem dX9_put_73 : decode cX9_put 73 = .ok (.iastore, 1) := by decide +kernel
theorem dX9_put_74 : decode cX9_put 74 = .ok (.aload_n 0, 1) := by decide +kernel
theorem dX9_put_75 : decode cX9_put 75 = .ok (.getfield 7, 3) := by decide +kernel
theorem dX9_put_78 : decode cX9_put 78 = .ok (.iconst 4, 1) := by decide +kernel
theorem dX9_put_79 : decode cX9_put 79 = .ok (.aload_n 0, 1) := by decide +kernel
theorem dX9_put_80 : decode cX9_put 80 = .ok (.getfield 80, 3) := by decide +kernel
theorem dX9_put_83 : decode cX9_put 83 = .ok (.imul, 1) := by decide +kernel
theorem dX9_put_84 : decode cX9_put 84 = .ok (.iconst 1, 1) := by decide +kernel
theorem dX9_put_85 : decode cX9_put 85 = .ok (.iadd, 1) := by decide +kernel
theorem dX9_put_86 : decode cX9_put 86 = .ok (.iload_n 2, 1) := by decide +kernel
theorem dX9_put_87 : decode cX9_put 87 = .ok (.iastore, 1) := by decide +kernel
theorem dX9_put_88 : decode cX9_put 88 = .ok (.aload_n 0, 1) := by decide +kernel
theorem dX9_put_89 : decode cX9_put 89 = .ok (.getfield 7, 3) := by decide +kernel
theorem dX9_put_92 : decode cX9_put 92 = .ok (.iconst 4, 1) := by decide +kernel
theorem dX9_put_93 : decode cX9_put 93 = .ok (.aload_n 0, 1) := by decide +kernel
theorem dX9_put_94 : decode cX9_put 94 = .ok (.getfield 80, 3) := by decide +kernel
theorem dX9_put_97 : decode cX9_put 97 = .ok (.imul, 1) := by decide +kernel
theorem dX9_put_98 : decode cX9_put 98 = .ok (.iconst 2, 1) := by decide +kernel
theorem dX9_put_99 : decode cX9_put 99 = .ok (.iadd, 1) := by decide +kernel
theorem dX9_put_100 : decode cX9_put 100 = .ok (.iload_n 3, 1) := by decide +kernel
theorem dX9_put_101 : decode cX9_put 101 = .ok (.iastore, 1) := by decide +kernel
theorem dX9_put_102 : decode cX9_put 102 = .ok (.aload_n 0, 1) := by decide +kernel
theorem dX9_put_103 : decode cX9_put 103 = .ok (.getfield 7, 3) := by decide +kernel
theorem dX9_put_106 : decode cX9_put 106 = .ok (.iconst 4, 1) := by decide +kernel
theorem dX9_put_107 : decode cX9_put 107 = .ok (.aload_n 0, 1) := by decide +kernel
theorem dX9_put_108 : decode cX9_put 108 = .ok (.getfield 80, 3) := by decide +kernel
theorem dX9_put_111 : decode cX9_put 111 = .ok (.imul, 1) := by decide +kernel
theorem dX9_put_112 : decode cX9_put 112 = .ok (.iconst 3, 1) := by decide +kernel
theorem dX9_put_113 : decode cX9_put 113 = .ok (.iadd, 1) := by decide +kernel
theorem dX9_put_114 : decode cX9_put 114 = .ok (.iload 4, 2) := by decide +kernel
theorem dX9_put_116 : decode cX9_put 116 = .ok (.iastore, 1) := by decide +kernel
theorem dX9_put_117 : decode cX9_put 117 = .ok (.aload_n 0, 1) := by decide +kernel
theorem dX9_put_118 : decode cX9_put 118 = .ok (.dup, 1) := by decide +kernel
theorem dX9_put_119 : decode cX9_put 119 = .ok (.getfield 80, 3) := by decide +kernel
theorem dX9_put_122 : decode cX9_put 122 = .ok (.iconst 1, 1) := by decide +kernel
theorem dX9_put_123 : decode cX9_put 123 = .ok (.iadd, 1) := by decide +kernel
theorem dX9_put_124 : decode cX9_put 124 = .ok (.putfield 80, 3) := by decide +kernel
theorem dX9_put_127 : decode cX9_put 127 = .ok (.aload_n 0, 1) := by decide +kernel
theorem dX9_put_128 : decode cX9_put 128 = .ok (.iconst 0, 1) := by decide +kernel
theorem dX9_put_129 : decode cX9_put 129 = .ok (.putfield 83, 3) := by decide +kernel
theorem dX9_put_132 : decode cX9_put 132 = .ok (.aload_n 0, 1) := by decide +kernel
theorem dX9_put_133 : decode cX9_put 133 = .ok (.getfield 80, 3) := by decide +kernel
theorem dX9_put_136 : decode cX9_put 136 = .ok (.ireturn, 1) := by decide +kernel
theorem dX9_handler_0 : decode cX9_handler 0 = .ok (.bipush 6, 2) := by decide +kernel
theorem dX9_handler_2 : decode cX9_handler 2 = .ok (.iload_n 1, 1) := by decide +kernel
theorem dX9_handler_3 : decode cX9_handler 3 = .ok (.invokestatic 76, 3) := by decide +kernel
theorem dX9_handler_6 : decode cX9_handler 6 = .ok (.ifCond .eq 22, 3) := by decide +kernel
theorem dX9_handler_9 : decode cX9_handler 9 = .ok (.bipush 6, 2) := by decide +kernel
theorem dX9_handler_11 : decode cX9_handler 11 = .ok (.iload_n 2, 1) := by decide +kernel
theorem dX9_handler_12 : decode cX9_handler 12 = .ok (.invokestatic 76, 3) := by decide +kernel
theorem dX9_handler_15 : decode cX9_handler 15 = .ok (.ifCond .eq 13, 3) := by decide +kernel
theorem dX9_handler_18 : decode cX9_handler 18 = .ok (.bipush 6, 2) := by decide +kernel
theorem dX9_handler_20 : decode cX9_handler 20 = .ok (.iload 4, 2) := by decide +kernel
theorem dX9_handler_22 : decode cX9_handler 22 = .ok (.invokestatic 76, 3) := by decide +kernel
theorem dX9_handler_25 : decode cX9_handler 25 = .ok (.ifCond .ne 5, 3) := by decide +kernel
theorem dX9_handler_28 : decode cX9_handler 28 = .ok (.iconst (-1), 1) := by decide +kernel
theorem dX9_handler_29 : decode cX9_handler 29 = .ok (.ireturn, 1) := by decide +kernel
theorem dX9_handler_30 : decode cX9_handler 30 = .ok (.aload_n 0, 1) := by decide +kernel
theorem dX9_handler_31 : decode cX9_handler 31 = .ok (.getfield 86, 3) := by decide +kernel
theorem dX9_handler_34 : decode cX9_handler 34 = .ok (.bipush 16, 2) := by decide +kernel
theorem dX9_handler_36 : decode cX9_handler 36 = .ok (.if_icmp .ne 6, 3) := by decide +kernel
theorem dX9_handler_39 : decode cX9_handler 39 = .ok (.bipush (-2), 2) := by decide +kernel
theorem dX9_handler_41 : decode cX9_handler 41 = .ok (.ireturn, 1) := by decide +kernel
theorem dX9_handler_42 : decode cX9_handler 42 = .ok (.aload_n 0, 1) := by decide +kernel
theorem dX9_handler_43 : decode cX9_handler 43 = .ok (.getfield 13, 3) := by decide +kernel
theorem dX9_handler_46 : decode cX9_handler 46 = .ok (.iconst 4, 1) := by decide +kernel
theorem dX9_handler_47 : decode cX9_handler 47 = .ok (.aload_n 0, 1) := by decide +kernel
theorem dX9_handler_48 : decode cX9_handler 48 = .ok (.getfield 86, 3) := by decide +kernel
theorem dX9_handler_51 : decode cX9_handler 51 = .ok (.imul, 1) := by decide +kernel
theorem dX9_handler_52 : decode cX9_handler 52 = .ok (.iload_n 1, 1) := by decide +kernel
theorem dX9_handler_53 : decode cX9_handler 53 = .ok (.iastore, 1) := by decide +kernel
theorem dX9_handler_54 : decode cX9_handler 54 = .ok (.aload_n 0, 1) := by decide +kernel
theorem dX9_handler_55 : decode cX9_handler 55 = .ok (.getfield 13, 3) := by decide +kernel
theorem dX9_handler_58 : decode cX9_handler 58 = .ok (.iconst 4, 1) := by decide +kernel
theorem dX9_handler_59 : decode cX9_handler 59 = .ok (.aload_n 0, 1) := by decide +kernel
theorem dX9_handler_60 : decode cX9_handler 60 = .ok (.getfield 86, 3) := by decide +kernel
theorem dX9_handler_63 : decode cX9_handler 63 = .ok (.imul, 1) := by decide +kernel
theorem dX9_handler_64 : decode cX9_handler 64 = .ok (.iconst 1, 1) := by decide +kernel
theorem dX9_handler_65 : decode cX9_handler 65 = .ok (.iadd, 1) := by decide +kernel
theorem dX9_handler_66 : decode cX9_handler 66 = .ok (.iload_n 2, 1) := by decide +kernel
theorem dX9_handler_67 : decode cX9_handler 67 = .ok (.iastore, 1) := by decide +kernel
theorem dX9_handler_68 : decode cX9_handler 68 = .ok (.aload_n 0, 1) := by decide +kernel
theorem dX9_handler_69 : decode cX9_handler 69 = .ok (.getfield 13, 3) := by decide +kernel
theorem dX9_handler_72 : decode cX9_handler 72 = .ok (.iconst 4, 1) := by decide +kernel
theorem dX9_handler_73 : decode cX9_handler 73 = .ok (.aload_n 0, 1) := by decide +kernel
theorem dX9_handler_74 : decode cX9_handler 74 = .ok (.getfield 86, 3) := by decide +kernel
theorem dX9_handler_77 : decode cX9_handler 77 = .ok (.imul, 1) := by decide +kernel
theorem dX9_handler_78 : decode cX9_handler 78 = .ok (.iconst 2, 1) := by decide +kernel
theorem dX9_handler_79 : decode cX9_handler 79 = .ok (.iadd, 1) := by decide +kernel
theorem dX9_handler_80 : decode cX9_handler 80 = .ok (.iload_n 3, 1) := by decide +kernel
theorem dX9_handler_81 : decode cX9_handler 81 = .ok (.iastore, 1) := by decide +kernel
theorem dX9_handler_82 : decode cX9_handler 82 = .ok (.aload_n 0, 1) := by decide +kernel
theorem dX9_handler_83 : decode cX9_handler 83 = .ok (.getfield 13, 3) := by decide +kernel
theorem dX9_handler_86 : decode cX9_handler 86 = .ok (.iconst 4, 1) := by decide +kernel
theorem dX9_handler_87 : decode cX9_handler 87 = .ok (.aload_n 0, 1) := by decide +kernel
theorem dX9_handler_88 : decode cX9_handler 88 = .ok (.getfield 86, 3) := by decide +kernel
theorem dX9_handler_91 : decode cX9_handler 91 = .ok (.imul, 1) := by decide +kernel
theorem dX9_handler_92 : decode cX9_handler 92 = .ok (.iconst 3, 1) := by decide +kernel
theorem dX9_handler_93 : decode cX9_handler 93 = .ok (.iadd, 1) := by decide +kernel
theorem dX9_handler_94 : decode cX9_handler 94 = .ok (.iload 4, 2) := by decide +kernel
theorem dX9_handler_96 : decode cX9_handler 96 = .ok (.iastore, 1) := by decide +kernel
theorem dX9_handler_97 : decode cX9_handler 97 = .ok (.aload_n 0, 1) := by decide +kernel
theorem dX9_handler_98 : decode cX9_handler 98 = .ok (.dup, 1) := by decide +kernel
theorem dX9_handler_99 : decode cX9_handler 99 = .ok (.getfield 86, 3) := by decide +kernel
theorem dX9_handler_102 : decode cX9_handler 102 = .ok (.iconst 1, 1) := by decide +kernel
theorem dX9_handler_103 : decode cX9_handler 103 = .ok (.iadd, 1) := by decide +kernel
theorem dX9_handler_104 : decode cX9_handler 104 = .ok (.putfield 86, 3) := by decide +kernel
theorem dX9_handler_107 : decode cX9_handler 107 = .ok (.aload_n 0, 1) := by decide +kernel
theorem dX9_handler_108 : decode cX9_handler 108 = .ok (.iconst 0, 1) := by decide +kernel
theorem dX9_handler_109 : decode cX9_handler 109 = .ok (.putfield 83, 3) := by decide +kernel
theorem dX9_handler_112 : decode cX9_handler 112 = .ok (.aload_n 0, 1) := by decide +kernel
theorem dX9_handler_113 : decode cX9_handler 113 = .ok (.getfield 86, 3) := by decide +kernel
theorem dX9_handler_116 : decode cX9_handler 116 = .ok (.ireturn, 1) := by decide +kernel
theorem dX9_clear_0 : decode cX9_clear 0 = .ok (.aload_n 0, 1) := by decide +kernel
theorem dX9_clear_1 : decode cX9_clear 1 = .ok (.getfield 80, 3) := by decide +kernel
theorem dX9_clear_4 : decode cX9_clear 4 = .ok (.istore_n 1, 1) := by decide +kernel
theorem dX9_clear_5 : decode cX9_clear 5 = .ok (.aload_n 0, 1) := by decide +kernel
theorem dX9_clear_6 : decode cX9_clear 6 = .ok (.iconst 0, 1) := by decide +kernel
theorem dX9_clear_7 : decode cX9_clear 7 = .ok (.putfield 80, 3) := by decide +kernel
theorem dX9_clear_10 : decode cX9_clear 10 = .ok (.aload_n 0, 1) := by decide +kernel
theorem dX9_clear_11 : decode cX9_clear 11 = .ok (.iconst 0, 1) := by decide +kernel
theorem dX9_clear_12 : decode cX9_clear 12 = .ok (.putfield 86, 3) := by decide +kernel
theorem dX9_clear_15 : decode cX9_clear 15 = .ok (.aload_n 0, 1) := by decide +kernel
theorem dX9_clear_16 : decode cX9_clear 16 = .ok (.iconst 0, 1) := by decide +kernel
theorem dX9_clear_17 : decode cX9_clear 17 = .ok (.putfield 83, 3) := by decide +kernel
theorem dX9_clear_20 : decode cX9_clear 20 = .ok (.iload_n 1, 1) := by decide +kernel
theorem dX9_clear_21 : decode cX9_clear 21 = .ok (.ireturn, 1) := by decide +kernel
theorem dX9_start_0 : decode cX9_start 0 = .ok (.iconst 0, 1) := by decide +kernel
theorem dX9_start_1 : decode cX9_start 1 = .ok (.istore_n 1, 1) := by decide +kernel
theorem dX9_start_2 : decode cX9_start 2 = .ok (.iload_n 1, 1) := by decide +kernel
theorem dX9_start_3 : decode cX9_start 3 = .ok (.bipush 8, 2) := by decide +kernel
theorem dX9_start_5 : decode cX9_start 5 = .ok (.if_icmp .ge 23, 3) := by decide +kernel
theorem dX9_start_8 : decode cX9_start 8 = .ok (.aload_n 0, 1) := by decide +kernel
theorem dX9_start_9 : decode cX9_start 9 = .ok (.getfield 16, 3) := by decide +kernel
theorem dX9_start_12 : decode cX9_start 12 = .ok (.iload_n 1, 1) := by decide +kernel
theorem dX9_start_13 : decode cX9_start 13 = .ok (.iconst 0, 1) := by decide +kernel
theorem dX9_start_14 : decode cX9_start 14 = .ok (.iastore, 1) := by decide +kernel
theorem dX9_start_15 : decode cX9_start 15 = .ok (.aload_n 0, 1) := by decide +kernel
theorem dX9_start_16 : decode cX9_start 16 = .ok (.getfield 31, 3) := by decide +kernel
theorem dX9_start_19 : decode cX9_start 19 = .ok (.iload_n 1, 1) := by decide +kernel
theorem dX9_start_20 : decode cX9_start 20 = .ok (.iconst 0, 1) := by decide +kernel
theorem dX9_start_21 : decode cX9_start 21 = .ok (.iastore, 1) := by decide +kernel
theorem dX9_start_22 : decode cX9_start 22 = .ok (.iinc 1 1, 3) := by decide +kernel
theorem dX9_start_25 : decode cX9_start 25 = .ok (.goto (-23), 3) := by decide +kernel
theorem dX9_start_28 : decode cX9_start 28 = .ok (.iconst 0, 1) := by decide +kernel
theorem dX9_start_29 : decode cX9_start 29 = .ok (.istore_n 1, 1) := by decide +kernel
theorem dX9_start_30 : decode cX9_start 30 = .ok (.iload_n 1, 1) := by decide +kernel
theorem dX9_start_31 : decode cX9_start 31 = .ok (.iconst 4, 1) := by decide +kernel
theorem dX9_start_32 : decode cX9_start 32 = .ok (.if_icmp .ge 30, 3) := by decide +kernel
theorem dX9_start_35 : decode cX9_start 35 = .ok (.aload_n 0, 1) := by decide +kernel
theorem dX9_start_36 : decode cX9_start 36 = .ok (.getfield 19, 3) := by decide +kernel
theorem dX9_start_39 : decode cX9_start 39 = .ok (.iload_n 1, 1) := by decide +kernel
theorem dX9_start_40 : decode cX9_start 40 = .ok (.lconst 0, 1) := by decide +kernel
theorem dX9_start_41 : decode cX9_start 41 = .ok (.lastore, 1) := by decide +kernel
theorem dX9_start_42 : decode cX9_start 42 = .ok (.aload_n 0, 1) := by decide +kernel
theorem dX9_start_43 : decode cX9_start 43 = .ok (.getfield 23, 3) := by decide +kernel
theorem dX9_start_46 : decode cX9_start 46 = .ok (.iload_n 1, 1) := by decide +kernel
theorem dX9_start_47 : decode cX9_start 47 = .ok (.fconst 0, 1) := by decide +kernel
theorem dX9_start_48 : decode cX9_start 48 = .ok (.fastore, 1) := by decide +kernel
theorem dX9_start_49 : decode cX9_start 49 = .ok (.aload_n 0, 1) := by decide +kernel
theorem dX9_start_50 : decode cX9_start 50 = .ok (.getfield 27, 3) := by decide +kernel
theorem dX9_start_53 : decode cX9_start 53 = .ok (.iload_n 1, 1) := by decide +kernel
theorem dX9_start_54 : decode cX9_start 54 = .ok (.dconst 0, 1) := by decide +kernel
theorem dX9_start_55 : decode cX9_start 55 = .ok (.dastore, 1) := by decide +kernel
theorem dX9_start_56 : decode cX9_start 56 = .ok (.iinc 1 1, 3) := by decide +kernel
theorem dX9_start_59 : decode cX9_start 59 = .ok (.goto (-29), 3) := by decide +kernel
theorem dX9_start_62 : decode cX9_start 62 = .ok (.aload_n 0, 1) := by decide +kernel
theorem dX9_start_63 : decode cX9_start 63 = .ok (.iconst 0, 1) := by decide +kernel
theorem dX9_start_64 : decode cX9_start 64 = .ok (.putfield 89, 3) := by decide +kernel
theorem dX9_start_67 : decode cX9_start 67 = .ok (.aload_n 0, 1) := by decide +kernel
theorem dX9_start_68 : decode cX9_start 68 = .ok (.iconst 0, 1) := by decide +kernel
theorem dX9_start_69 : decode cX9_start 69 = .ok (.putfield 92, 3) := by decide +kernel
theorem dX9_start_72 : decode cX9_start 72 = .ok (.aload_n 0, 1) := by decide +kernel
theorem dX9_start_73 : decode cX9_start 73 = .ok (.iconst 0, 1) := by decide +kernel
theorem dX9_start_74 : decode cX9_start 74 = .ok (.putfield 95, 3) := by decide +kernel
theorem dX9_start_77 : decode cX9_start 77 = .ok (.aload_n 0, 1) := by decide +kernel
theorem dX9_start_78 : decode cX9_start 78 = .ok (.iconst 0, 1) := by decide +kernel
theorem dX9_start_79 : decode cX9_start 79 = .ok (.putfield 98, 3) := by decide +kernel
theorem dX9_start_82 : decode cX9_start 82 = .ok (.aload_n 0, 1) := by decide +kernel
theorem dX9_start_83 : decode cX9_start 83 = .ok (.iconst 0, 1) := by decide +kernel
theorem dX9_start_84 : decode cX9_start 84 = .ok (.putfield 101, 3) := by decide +kernel
theorem dX9_start_87 : decode cX9_start 87 = .ok (.aload_n 0, 1) := by decide +kernel
theorem dX9_start_88 : decode cX9_start 88 = .ok (.iconst 0, 1) := by decide +kernel
theorem dX9_start_89 : decode cX9_start 89 = .ok (.putfield 104, 3) := by decide +kernel
theorem dX9_start_92 : decode cX9_start 92 = .ok (.aload_n 0, 1) := by decide +kernel
theorem dX9_start_93 : decode cX9_start 93 = .ok (.iconst 0, 1) := by decide +kernel
theorem dX9_start_94 : decode cX9_start 94 = .ok (.putfield 107, 3) := by decide +kernel
theorem dX9_start_97 : decode cX9_start 97 = .ok (.aload_n 0, 1) := by decide +kernel
theorem dX9_start_98 : decode cX9_start 98 = .ok (.iconst (-1), 1) := by decide +kernel
theorem dX9_start_99 : decode cX9_start 99 = .ok (.putfield 64, 3) := by decide +kernel
theorem dX9_start_102 : decode cX9_start 102 = .ok (.aload_n 0, 1) := by decide +kernel
theorem dX9_start_103 : decode cX9_start 103 = .ok (.iconst 0, 1) := by decide +kernel
theorem dX9_start_104 : decode cX9_start 104 = .ok (.putfield 110, 3) := by decide +kernel
theorem dX9_start_107 : decode cX9_start 107 = .ok (.aload_n 0, 1) := by decide +kernel
theorem dX9_start_108 : decode cX9_start 108 = .ok (.iconst 0, 1) := by decide +kernel
theorem dX9_start_109 : decode cX9_start 109 = .ok (.putfield 113, 3) := by decide +kernel
theorem dX9_start_112 : decode cX9_start 112 = .ok (.aload_n 0, 1) := by decide +kernel
theorem dX9_start_113 : decode cX9_start 113 = .ok (.aload_n 0, 1) := by decide +kernel
theorem dX9_start_114 : decode cX9_start 114 = .ok (.getfield 80, 3) := by decide +kernel
theorem dX9_start_117 : decode cX9_start 117 = .ok (.ifCond .le 7, 3) := by decide +kernel
theorem dX9_start_120 : decode cX9_start 120 = .ok (.iconst 1, 1) := by decide +kernel
theorem dX9_start_121 : decode cX9_start 121 = .ok (.goto 4, 3) := by decide +kernel
theorem dX9_start_124 : decode cX9_start 124 = .ok (.iconst 2, 1) := by decide +kernel
theorem dX9_start_125 : decode cX9_start 125 = .ok (.putfield 83, 3) := by decide +kernel
theorem dX9_start_128 : decode cX9_start 128 = .ok (.aload_n 0, 1) := by decide +kernel
theorem dX9_start_129 : decode cX9_start 129 = .ok (.getfield 80, 3) := by decide +kernel
theorem dX9_start_132 : decode cX9_start 132 = .ok (.ifCond .le 7, 3) := by decide +kernel
theorem dX9_start_135 : decode cX9_start 135 = .ok (.iconst 1, 1) := by decide +kernel
theorem dX9_start_136 : decode cX9_start 136 = .ok (.goto 4, 3) := by decide +kernel
theorem dX9_start_139 : decode cX9_start 139 = .ok (.iconst 0, 1) := by decide +kernel
theorem dX9_start_140 : decode cX9_start 140 = .ok (.ireturn, 1) := by decide +kernel
theorem dX9_isRow_0 : decode cX9_isRow 0 = .ok (.iload_n 0, 1) := by decide +kernel
theorem dX9_isRow_1 : decode cX9_isRow 1 = .ok (.bipush 10, 2) := by decide +kernel
theorem dX9_isRow_3 : decode cX9_isRow 3 = .ok (.if_icmp .gt 7, 3) := by decide +kernel
theorem dX9_isRow_6 : decode cX9_isRow 6 = .ok (.iconst 1, 1) := by decide +kernel
theorem dX9_isRow_7 : decode cX9_isRow 7 = .ok (.goto 4, 3) := by decide +kernel
theorem dX9_isRow_10 : decode cX9_isRow 10 = .ok (.iconst 0, 1) := by decide +kernel
theorem dX9_isRow_11 : decode cX9_isRow 11 = .ok (.ireturn, 1) := by decide +kernel
theorem dX9_isKnot_0 : decode cX9_isKnot 0 = .ok (.iload_n 0, 1) := by decide +kernel
theorem dX9_isKnot_1 : decode cX9_isKnot 1 = .ok (.bipush 11, 2) := by decide +kernel
theorem dX9_isKnot_3 : decode cX9_isKnot 3 = .ok (.if_icmp .eq 15, 3) := by decide +kernel
theorem dX9_isKnot_6 : decode cX9_isKnot 6 = .ok (.iload_n 0, 1) := by decide +kernel
theorem dX9_isKnot_7 : decode cX9_isKnot 7 = .ok (.bipush 12, 2) := by decide +kernel
theorem dX9_isKnot_9 : decode cX9_isKnot 9 = .ok (.if_icmp .eq 9, 3) := by decide +kernel
theorem dX9_isKnot_12 : decode cX9_isKnot 12 = .ok (.iload_n 0, 1) := by decide +kernel
theorem dX9_isKnot_13 : decode cX9_isKnot 13 = .ok (.bipush 13, 2) := by decide +kernel
theorem dX9_isKnot_15 : decode cX9_isKnot 15 = .ok (.if_icmp .ne 7, 3) := by decide +kernel
theorem dX9_isKnot_18 : decode cX9_isKnot 18 = .ok (.iconst 1, 1) := by decide +kernel
theorem dX9_isKnot_19 : decode cX9_isKnot 19 = .ok (.goto 4, 3) := by decide +kernel
theorem dX9_isKnot_22 : decode cX9_isKnot 22 = .ok (.iconst 0, 1) := by decide +kernel
theorem dX9_isKnot_23 : decode cX9_isKnot 23 = .ok (.ireturn, 1) := by decide +kernel
theorem dX9_isOf_0 : decode cX9_isOf 0 = .ok (.iload_n 0, 1) := by decide +kernel
theorem dX9_isOf_1 : decode cX9_isOf 1 = .ok (.iload_n 1, 1) := by decide +kernel
theorem dX9_isOf_2 : decode cX9_isOf 2 = .ok (.if_icmp .ne 5, 3) := by decide +kernel
theorem dX9_isOf_5 : decode cX9_isOf 5 = .ok (.iconst 1, 1) := by decide +kernel
theorem dX9_isOf_6 : decode cX9_isOf 6 = .ok (.ireturn, 1) := by decide +kernel
theorem dX9_isOf_7 : decode cX9_isOf 7 = .ok (.iload_n 1, 1) := by decide +kernel
theorem dX9_isOf_8 : decode cX9_isOf 8 = .ok (.tableswitch 113 8 16 #[52, 113, 113, 64, 82, 113, 113, 113, 94], 52) := by decide +kernel
theorem dX9_isOf_60 : decode cX9_isOf 60 = .ok (.iload_n 0, 1) := by decide +kernel
theorem dX9_isOf_61 : decode cX9_isOf 61 = .ok (.bipush 9, 2) := by decide +kernel
theorem dX9_isOf_63 : decode cX9_isOf 63 = .ok (.if_icmp .ne 7, 3) := by decide +kernel
theorem dX9_isOf_66 : decode cX9_isOf 66 = .ok (.iconst 1, 1) := by decide +kernel
theorem dX9_isOf_67 : decode cX9_isOf 67 = .ok (.goto 4, 3) := by decide +kernel
theorem dX9_isOf_70 : decode cX9_isOf 70 = .ok (.iconst 0, 1) := by decide +kernel
theorem dX9_isOf_71 : decode cX9_isOf 71 = .ok (.ireturn, 1) := by decide +kernel
theorem dX9_isOf_72 : decode cX9_isOf 72 = .ok (.iload_n 0, 1) := by decide +kernel
theorem dX9_isOf_73 : decode cX9_isOf 73 = .ok (.bipush 12, 2) := by decide +kernel
theorem dX9_isOf_75 : decode cX9_isOf 75 = .ok (.if_icmp .eq 9, 3) := by decide +kernel
theorem dX9_isOf_78 : decode cX9_isOf 78 = .ok (.iload_n 0, 1) := by decide +kernel
theorem dX9_isOf_79 : decode cX9_isOf 79 = .ok (.bipush 13, 2) := by decide +kernel
theorem dX9_isOf_81 : decode cX9_isOf 81 = .ok (.if_icmp .ne 7, 3) := by decide +kernel
theorem dX9_isOf_84 : decode cX9_isOf 84 = .ok (.iconst 1, 1) := by decide +kernel
theorem dX9_isOf_85 : decode cX9_isOf 85 = .ok (.goto 4, 3) := by decide +kernel
theorem dX9_isOf_88 : decode cX9_isOf 88 = .ok (.iconst 0, 1) := by decide +kernel
theorem dX9_isOf_89 : decode cX9_isOf 89 = .ok (.ireturn, 1) := by decide +kernel
theorem dX9_isOf_90 : decode cX9_isOf 90 = .ok (.iload_n 0, 1) := by decide +kernel
theorem dX9_isOf_91 : decode cX9_isOf 91 = .ok (.bipush 13, 2) := by decide +kernel
theorem dX9_isOf_93 : decode cX9_isOf 93 = .ok (.if_icmp .ne 7, 3) := by decide +kernel
theorem dX9_isOf_96 : decode cX9_isOf 96 = .ok (.iconst 1, 1) := by decide +kernel
theorem dX9_isOf_97 : decode cX9_isOf 97 = .ok (.goto 4, 3) := by decide +kernel
theorem dX9_isOf_100 : decode cX9_isOf 100 = .ok (.iconst 0, 1) := by decide +kernel
theorem dX9_isOf_101 : decode cX9_isOf 101 = .ok (.ireturn, 1) := by decide +kernel
theorem dX9_isOf_102 : decode cX9_isOf 102 = .ok (.iload_n 0, 1) := by decide +kernel
theorem dX9_isOf_103 : decode cX9_isOf 103 = .ok (.invokestatic 116, 3) := by decide +kernel
theorem dX9_isOf_106 : decode cX9_isOf 106 = .ok (.ifCond .ne 9, 3) := by decide +kernel
theorem dX9_isOf_109 : decode cX9_isOf 109 = .ok (.iload_n 0, 1) := by decide +kernel
theorem dX9_isOf_110 : decode cX9_isOf 110 = .ok (.bipush 14, 2) := by decide +kernel
theorem dX9_isOf_112 : decode cX9_isOf 112 = .ok (.if_icmp .ne 7, 3) := by decide +kernel
theorem dX9_isOf_115 : decode cX9_isOf 115 = .ok (.iconst 1, 1) := by decide +kernel
theorem dX9_isOf_116 : decode cX9_isOf 116 = .ok (.goto 4, 3) := by decide +kernel
theorem dX9_isOf_119 : decode cX9_isOf 119 = .ok (.iconst 0, 1) := by decide +kernel
theorem dX9_isOf_120 : decode cX9_isOf 120 = .ok (.ireturn, 1) := by decide +kernel
theorem dX9_isOf_121 : decode cX9_isOf 121 = .ok (.iconst 0, 1) := by decide +kernel
theorem dX9_isOf_122 : decode cX9_isOf 122 = .ok (.ireturn, 1) := by decide +kernel
theorem dX9_isWrong_0 : decode cX9_isWrong 0 = .ok (.iload_n 1, 1) := by decide +kernel
theorem dX9_isWrong_1 : decode cX9_isWrong 1 = .ok (.ifCond .eq 22, 3) := by decide +kernel
theorem dX9_isWrong_4 : decode cX9_isWrong 4 = .ok (.aload_n 0, 1) := by decide +kernel
theorem dX9_isWrong_5 : decode cX9_isWrong 5 = .ok (.getfield 34, 3) := by decide +kernel
theorem dX9_isWrong_8 : decode cX9_isWrong 8 = .ok (.iload_n 1, 1) := by decide +kernel
theorem dX9_isWrong_9 : decode cX9_isWrong 9 = .ok (.iconst 1, 1) := by decide +kernel
theorem dX9_isWrong_10 : decode cX9_isWrong 10 = .ok (.isub, 1) := by decide +kernel
theorem dX9_isWrong_11 : decode cX9_isWrong 11 = .ok (.iaload, 1) := by decide +kernel
theorem dX9_isWrong_12 : decode cX9_isWrong 12 = .ok (.iload_n 2, 1) := by decide +kernel
theorem dX9_isWrong_13 : decode cX9_isWrong 13 = .ok (.invokestatic 120, 3) := by decide +kernel
theorem dX9_isWrong_16 : decode cX9_isWrong 16 = .ok (.ifCond .ne 7, 3) := by decide +kernel
theorem dX9_isWrong_19 : decode cX9_isWrong 19 = .ok (.iconst 1, 1) := by decide +kernel
theorem dX9_isWrong_20 : decode cX9_isWrong 20 = .ok (.goto 4, 3) := by decide +kernel
theorem dX9_isWrong_23 : decode cX9_isWrong 23 = .ok (.iconst 0, 1) := by decide +kernel
theorem dX9_isWrong_24 : decode cX9_isWrong 24 = .ok (.ireturn, 1) := by decide +kernel
theorem dX9_whyNot_0 : decode cX9_whyNot 0 = .ok (.iload_n 1, 1) := by decide +kernel
theorem dX9_whyNot_1 : decode cX9_whyNot 1 = .ok (.bipush 7, 2) := by decide +kernel
theorem dX9_whyNot_3 : decode cX9_whyNot 3 = .ok (.if_icmp .eq 9, 3) := by decide +kernel
theorem dX9_whyNot_6 : decode cX9_whyNot 6 = .ok (.iload_n 1, 1) := by decide +kernel
theorem dX9_whyNot_7 : decode cX9_whyNot 7 = .ok (.bipush 8, 2) := by decide +kernel
theorem dX9_whyNot_9 : decode cX9_whyNot 9 = .ok (.if_icmp .ne 22, 3) := by decide +kernel
theorem dX9_whyNot_12 : decode cX9_whyNot 12 = .ok (.aload_n 0, 1) := by decide +kernel
theorem dX9_whyNot_13 : decode cX9_whyNot 13 = .ok (.getfield 16, 3) := by decide +kernel
theorem dX9_whyNot_16 : decode cX9_whyNot 16 = .ok (.aload_n 0, 1) := by decide +kernel
theorem dX9_whyNot_17 : decode cX9_whyNot 17 = .ok (.getfield 123, 3) := by decide +kernel
theorem dX9_whyNot_20 : decode cX9_whyNot 20 = .ok (.iaload, 1) := by decide +kernel
theorem dX9_whyNot_21 : decode cX9_whyNot 21 = .ok (.ifCond .ne 8, 3) := by decide +kernel
theorem dX9_whyNot_24 : decode cX9_whyNot 24 = .ok (.bipush 6, 2) := by decide +kernel
theorem dX9_whyNot_26 : decode cX9_whyNot 26 = .ok (.goto 4, 3) := by decide +kernel
theorem dX9_whyNot_29 : decode cX9_whyNot 29 = .ok (.iconst 0, 1) := by decide +kernel
theorem dX9_whyNot_30 : decode cX9_whyNot 30 = .ok (.ireturn, 1) := by decide +kernel
theorem dX9_whyNot_31 : decode cX9_whyNot 31 = .ok (.iload_n 1, 1) := by decide +kernel
theorem dX9_whyNot_32 : decode cX9_whyNot 32 = .ok (.bipush 11, 2) := by decide +kernel
theorem dX9_whyNot_34 : decode cX9_whyNot 34 = .ok (.if_icmp .eq 9, 3) := by decide +kernel
theorem dX9_whyNot_37 : decode cX9_whyNot 37 = .ok (.iload_n 1, 1) := by decide +kernel
theorem dX9_whyNot_38 : decode cX9_whyNot 38 = .ok (.bipush 12, 2) := by decide +kernel
theorem dX9_whyNot_40 : decode cX9_whyNot 40 = .ok (.if_icmp .ne 24, 3) := by decide +kernel
theorem dX9_whyNot_43 : decode cX9_whyNot 43 = .ok (.aload_n 0, 1) := by decide +kernel
theorem dX9_whyNot_44 : decode cX9_whyNot 44 = .ok (.getfield 19, 3) := by decide +kernel
theorem dX9_whyNot_47 : decode cX9_whyNot 47 = .ok (.aload_n 0, 1) := by decide +kernel
theorem dX9_whyNot_48 : decode cX9_whyNot 48 = .ok (.getfield 123, 3) := by decide +kernel
theorem dX9_whyNot_51 : decode cX9_whyNot 51 = .ok (.laload, 1) := by decide +kernel
theorem dX9_whyNot_52 : decode cX9_whyNot 52 = .ok (.lconst 0, 1) := by decide +kernel
theorem dX9_whyNot_53 : decode cX9_whyNot 53 = .ok (.lcmp, 1) := by decide +kernel
theorem dX9_whyNot_54 : decode cX9_whyNot 54 = .ok (.ifCond .ne 8, 3) := by decide +kernel
theorem dX9_whyNot_57 : decode cX9_whyNot 57 = .ok (.bipush 6, 2) := by decide +kernel
theorem dX9_whyNot_59 : decode cX9_whyNot 59 = .ok (.goto 4, 3) := by decide +kernel
theorem dX9_whyNot_62 : decode cX9_whyNot 62 = .ok (.iconst 0, 1) := by decide +kernel
theorem dX9_whyNot_63 : decode cX9_whyNot 63 = .ok (.ireturn, 1) := by decide +kernel
theorem dX9_whyNot_64 : decode cX9_whyNot 64 = .ok (.iload_n 1, 1) := by decide +kernel
theorem dX9_whyNot_65 : decode cX9_whyNot 65 = .ok (.bipush 23, 2) := by decide +kernel
theorem dX9_whyNot_67 : decode cX9_whyNot 67 = .ok (.if_icmp .ne 24, 3) := by decide +kernel
theorem dX9_whyNot_70 : decode cX9_whyNot 70 = .ok (.aload_n 0, 1) := by decide +kernel
theorem dX9_whyNot_71 : decode cX9_whyNot 71 = .ok (.getfield 23, 3) := by decide +kernel
theorem dX9_whyNot_74 : decode cX9_whyNot 74 = .ok (.aload_n 0, 1) := by decide +kernel
theorem dX9_whyNot_75 : decode cX9_whyNot 75 = .ok (.getfield 123, 3) := by decide +kernel
theorem dX9_whyNot_78 : decode cX9_whyNot 78 = .ok (.faload, 1) := by decide +kernel
theorem dX9_whyNot_79 : decode cX9_whyNot 79 = .ok (.fconst 0, 1) := by decide +kernel
theorem dX9_whyNot_80 : decode cX9_whyNot 80 = .ok (.fcmp .l, 1) := by decide +kernel
theorem dX9_whyNot_81 : decode cX9_whyNot 81 = .ok (.ifCond .ne 8, 3) := by decide +kernel
theorem dX9_whyNot_84 : decode cX9_whyNot 84 = .ok (.bipush 6, 2) := by decide +kernel
theorem dX9_whyNot_86 : decode cX9_whyNot 86 = .ok (.goto 4, 3) := by decide +kernel
theorem dX9_whyNot_89 : decode cX9_whyNot 89 = .ok (.iconst 0, 1) := by decide +kernel
theorem dX9_whyNot_90 : decode cX9_whyNot 90 = .ok (.ireturn, 1) := by decide +kernel
theorem dX9_whyNot_91 : decode cX9_whyNot 91 = .ok (.iload_n 1, 1) := by decide +kernel
theorem dX9_whyNot_92 : decode cX9_whyNot 92 = .ok (.bipush 24, 2) := by decide +kernel
theorem dX9_whyNot_94 : decode cX9_whyNot 94 = .ok (.if_icmp .ne 24, 3) := by decide +kernel
theorem dX9_whyNot_97 : decode cX9_whyNot 97 = .ok (.aload_n 0, 1) := by decide +kernel
theorem dX9_whyNot_98 : decode cX9_whyNot 98 = .ok (.getfield 27, 3) := by decide +kernel
theorem dX9_whyNot_101 : decode cX9_whyNot 101 = .ok (.aload_n 0, 1) := by decide +kernel
theorem dX9_whyNot_102 : decode cX9_whyNot 102 = .ok (.getfield 123, 3) := by decide +kernel
theorem dX9_whyNot_105 : decode cX9_whyNot 105 = .ok (.daload, 1) := by decide +kernel
theorem dX9_whyNot_106 : decode cX9_whyNot 106 = .ok (.dconst 0, 1) := by decide +kernel
theorem dX9_whyNot_107 : decode cX9_whyNot 107 = .ok (.dcmp .l, 1) := by decide +kernel
theorem dX9_whyNot_108 : decode cX9_whyNot 108 = .ok (.ifCond .ne 8, 3) := by decide +kernel
theorem dX9_whyNot_111 : decode cX9_whyNot 111 = .ok (.bipush 6, 2) := by decide +kernel
theorem dX9_whyNot_113 : decode cX9_whyNot 113 = .ok (.goto 4, 3) := by decide +kernel
theorem dX9_whyNot_116 : decode cX9_whyNot 116 = .ok (.iconst 0, 1) := by decide +kernel
theorem dX9_whyNot_117 : decode cX9_whyNot 117 = .ok (.ireturn, 1) := by decide +kernel
theorem dX9_whyNot_118 : decode cX9_whyNot 118 = .ok (.iload_n 1, 1) := by decide +kernel
theorem dX9_whyNot_119 : decode cX9_whyNot 119 = .ok (.bipush 29, 2) := by decide +kernel
theorem dX9_whyNot_121 : decode cX9_whyNot 121 = .ok (.if_icmp .ne 19, 3) := by decide +kernel
theorem dX9_whyNot_124 : decode cX9_whyNot 124 = .ok (.aload_n 0, 1) := by decide +kernel
theorem dX9_whyNot_125 : decode cX9_whyNot 125 = .ok (.getfield 98, 3) := by decide +kernel
theorem dX9_whyNot_128 : decode cX9_whyNot 128 = .ok (.bipush 12, 2) := by decide +kernel
theorem dX9_whyNot_130 : decode cX9_whyNot 130 = .ok (.if_icmp .ne 8, 3) := by decide +kernel
theorem dX9_whyNot_133 : decode cX9_whyNot 133 = .ok (.bipush 7, 2) := by decide +kernel
theorem dX9_whyNot_135 : decode cX9_whyNot 135 = .ok (.goto 4, 3) := by decide +kernel
theorem dX9_whyNot_138 : decode cX9_whyNot 138 = .ok (.iconst 0, 1) := by decide +kernel
theorem dX9_whyNot_139 : decode cX9_whyNot 139 = .ok (.ireturn, 1) := by decide +kernel
theorem dX9_whyNot_140 : decode cX9_whyNot 140 = .ok (.iload_n 1, 1) := by decide +kernel
theorem dX9_whyNot_141 : decode cX9_whyNot 141 = .ok (.bipush 31, 2) := by decide +kernel
theorem dX9_whyNot_143 : decode cX9_whyNot 143 = .ok (.if_icmp .ne 54, 3) := by decide +kernel
theorem dX9_whyNot_146 : decode cX9_whyNot 146 = .ok (.aload_n 0, 1) := by decide +kernel
theorem dX9_whyNot_147 : decode cX9_whyNot 147 = .ok (.getfield 16, 3) := by decide +kernel
theorem dX9_whyNot_150 : decode cX9_whyNot 150 = .ok (.aload_n 0, 1) := by decide +kernel
theorem dX9_whyNot_151 : decode cX9_whyNot 151 = .ok (.getfield 123, 3) := by decide +kernel
theorem dX9_whyNot_154 : decode cX9_whyNot 154 = .ok (.iaload, 1) := by decide +kernel
theorem dX9_whyNot_155 : decode cX9_whyNot 155 = .ok (.bipush 12, 2) := by decide +kernel
theorem dX9_whyNot_157 : decode cX9_whyNot 157 = .ok (.if_icmp .le 8, 3) := by decide +kernel
theorem dX9_whyNot_160 : decode cX9_whyNot 160 = .ok (.bipush 7, 2) := by decide +kernel
theorem dX9_whyNot_162 : decode cX9_whyNot 162 = .ok (.goto 34, 3) := by decide +kernel
theorem dX9_whyNot_165 : decode cX9_whyNot 165 = .ok (.aload_n 0, 1) := by decide +kernel
theorem dX9_whyNot_166 : decode cX9_whyNot 166 = .ok (.getfield 16, 3) := by decide +kernel
theorem dX9_whyNot_169 : decode cX9_whyNot 169 = .ok (.aload_n 0, 1) := by decide +kernel
theorem dX9_whyNot_170 : decode cX9_whyNot 170 = .ok (.getfield 123, 3) := by decide +kernel
theorem dX9_whyNot_173 : decode cX9_whyNot 173 = .ok (.iaload, 1) := by decide +kernel
theorem dX9_whyNot_174 : decode cX9_whyNot 174 = .ok (.ifCond .ge 7, 3) := by decide +kernel
theorem dX9_whyNot_177 : decode cX9_whyNot 177 = .ok (.iconst 3, 1) := by decide +kernel
theorem dX9_whyNot_178 : decode cX9_whyNot 178 = .ok (.goto 18, 3) := by decide +kernel
theorem dX9_whyNot_181 : decode cX9_whyNot 181 = .ok (.aload_n 0, 1) := by decide +kernel
theorem dX9_whyNot_182 : decode cX9_whyNot 182 = .ok (.getfield 89, 3) := by decide +kernel
theorem dX9_whyNot_185 : decode cX9_whyNot 185 = .ok (.bipush 60, 2) := by decide +kernel
theorem dX9_whyNot_187 : decode cX9_whyNot 187 = .ok (.if_icmp .ne 8, 3) := by decide +kernel
theorem dX9_whyNot_190 : decode cX9_whyNot 190 = .ok (.bipush 7, 2) := by decide +kernel
theorem dX9_whyNot_192 : decode cX9_whyNot 192 = .ok (.goto 4, 3) := by decide +kernel
theorem dX9_whyNot_195 : decode cX9_whyNot 195 = .ok (.iconst 0, 1) := by decide +kernel
theorem dX9_whyNot_196 : decode cX9_whyNot 196 = .ok (.ireturn, 1) := by decide +kernel
theorem dX9_whyNot_197 : decode cX9_whyNot 197 = .ok (.iload_n 1, 1) := by decide +kernel
theorem dX9_whyNot_198 : decode cX9_whyNot 198 = .ok (.bipush 32, 2) := by decide +kernel
theorem dX9_whyNot_200 : decode cX9_whyNot 200 = .ok (.if_icmp .ne 72, 3) := by decide +kernel
theorem dX9_whyNot_203 : decode cX9_whyNot 203 = .ok (.aload_n 0, 1) := by decide +kernel
theorem dX9_whyNot_204 : decode cX9_whyNot 204 = .ok (.getfield 16, 3) := by decide +kernel
theorem dX9_whyNot_207 : decode cX9_whyNot 207 = .ok (.aload_n 0, 1) := by decide +kernel
theorem dX9_whyNot_208 : decode cX9_whyNot 208 = .ok (.getfield 126, 3) := by decide +kernel
theorem dX9_whyNot_211 : decode cX9_whyNot 211 = .ok (.iaload, 1) := by decide +kernel
theorem dX9_whyNot_212 : decode cX9_whyNot 212 = .ok (.istore_n 2, 1) := by decide +kernel
theorem dX9_whyNot_213 : decode cX9_whyNot 213 = .ok (.aload_n 0, 1) := by decide +kernel
theorem dX9_whyNot_214 : decode cX9_whyNot 214 = .ok (.getfield 16, 3) := by decide +kernel
theorem dX9_whyNot_217 : decode cX9_whyNot 217 = .ok (.aload_n 0, 1) := by decide +kernel
theorem dX9_whyNot_218 : decode cX9_whyNot 218 = .ok (.getfield 123, 3) := by decide +kernel
theorem dX9_whyNot_221 : decode cX9_whyNot 221 = .ok (.iaload, 1) := by decide +kernel
theorem dX9_whyNot_222 : decode cX9_whyNot 222 = .ok (.istore_n 3, 1) := by decide +kernel
theorem dX9_whyNot_223 : decode cX9_whyNot 223 = .ok (.iload_n 2, 1) := by decide +kernel
theorem dX9_whyNot_224 : decode cX9_whyNot 224 = .ok (.bipush 6, 2) := by decide +kernel
theorem dX9_whyNot_226 : decode cX9_whyNot 226 = .ok (.if_icmp .gt 9, 3) := by decide +kernel
theorem dX9_whyNot_229 : decode cX9_whyNot 229 = .ok (.iload_n 3, 1) := by decide +kernel
theorem dX9_whyNot_230 : decode cX9_whyNot 230 = .ok (.bipush 6, 2) := by decide +kernel
theorem dX9_whyNot_232 : decode cX9_whyNot 232 = .ok (.if_icmp .le 8, 3) := by decide +kernel
theorem dX9_whyNot_235 : decode cX9_whyNot 235 = .ok (.bipush 7, 2) := by decide +kernel
theorem dX9_whyNot_237 : decode cX9_whyNot 237 = .ok (.goto 34, 3) := by decide +kernel
theorem dX9_whyNot_240 : decode cX9_whyNot 240 = .ok (.iload_n 2, 1) := by decide +kernel
theorem dX9_whyNot_241 : decode cX9_whyNot 241 = .ok (.ifCond .lt 7, 3) := by decide +kernel
theorem dX9_whyNot_244 : decode cX9_whyNot 244 = .ok (.iload_n 3, 1) := by decide +kernel
theorem dX9_whyNot_245 : decode cX9_whyNot 245 = .ok (.ifCond .ge 7, 3) := by decide +kernel
theorem dX9_whyNot_248 : decode cX9_whyNot 248 = .ok (.iconst 3, 1) := by decide +kernel
theorem dX9_whyNot_249 : decode cX9_whyNot 249 = .ok (.goto 22, 3) := by decide +kernel
theorem dX9_whyNot_252 : decode cX9_whyNot 252 = .ok (.aload_n 0, 1) := by decide +kernel
theorem dX9_whyNot_253 : decode cX9_whyNot 253 = .ok (.getfield 89, 3) := by decide +kernel
theorem dX9_whyNot_256 : decode cX9_whyNot 256 = .ok (.iconst 1, 1) := by decide +kernel
theorem dX9_whyNot_257 : decode cX9_whyNot 257 = .ok (.iadd, 1) := by decide +kernel
theorem dX9_whyNot_258 : decode cX9_whyNot 258 = .ok (.iload_n 2, 1) := by decide +kernel
theorem dX9_whyNot_259 : decode cX9_whyNot 259 = .ok (.iadd, 1) := by decide +kernel
theorem dX9_whyNot_260 : decode cX9_whyNot 260 = .ok (.bipush 60, 2) := by decide +kernel
theorem dX9_whyNot_262 : decode cX9_whyNot 262 = .ok (.if_icmp .le 8, 3) := by decide +kernel
theorem dX9_whyNot_265 : decode cX9_whyNot 265 = .ok (.bipush 7, 2) := by decide +kernel
theorem dX9_whyNot_267 : decode cX9_whyNot 267 = .ok (.goto 4, 3) := by decide +kernel
theorem dX9_whyNot_270 : decode cX9_whyNot 270 = .ok (.iconst 0, 1) := by decide +kernel
theorem dX9_whyNot_271 : decode cX9_whyNot 271 = .ok (.ireturn, 1) := by decide +kernel
theorem dX9_whyNot_272 : decode cX9_whyNot 272 = .ok (.iload_n 1, 1) := by decide +kernel
theorem dX9_whyNot_273 : decode cX9_whyNot 273 = .ok (.bipush 33, 2) := by decide +kernel
theorem dX9_whyNot_275 : decode cX9_whyNot 275 = .ok (.if_icmp .ne 19, 3) := by decide +kernel
theorem dX9_whyNot_278 : decode cX9_whyNot 278 = .ok (.aload_n 0, 1) := by decide +kernel
theorem dX9_whyNot_279 : decode cX9_whyNot 279 = .ok (.getfield 89, 3) := by decide +kernel
theorem dX9_whyNot_282 : decode cX9_whyNot 282 = .ok (.bipush 60, 2) := by decide +kernel
theorem dX9_whyNot_284 : decode cX9_whyNot 284 = .ok (.if_icmp .ne 8, 3) := by decide +kernel
theorem dX9_whyNot_287 : decode cX9_whyNot 287 = .ok (.bipush 7, 2) := by decide +kernel
theorem dX9_whyNot_289 : decode cX9_whyNot 289 = .ok (.goto 4, 3) := by decide +kernel
theorem dX9_whyNot_292 : decode cX9_whyNot 292 = .ok (.iconst 0, 1) := by decide +kernel
theorem dX9_whyNot_293 : decode cX9_whyNot 293 = .ok (.ireturn, 1) := by decide +kernel
theorem dX9_whyNot_294 : decode cX9_whyNot 294 = .ok (.iload_n 1, 1) := by decide +kernel
theorem dX9_whyNot_295 : decode cX9_whyNot 295 = .ok (.bipush 38, 2) := by decide +kernel
theorem dX9_whyNot_297 : decode cX9_whyNot 297 = .ok (.if_icmp .lt 9, 3) := by decide +kernel
theorem dX9_whyNot_300 : decode cX9_whyNot 300 = .ok (.aload_n 0, 1) := by decide +kernel
theorem dX9_whyNot_301 : decode cX9_whyNot 301 = .ok (.iload_n 1, 1) := by decide +kernel
theorem dX9_whyNot_302 : decode cX9_whyNot 302 = .ok (.invokevirtual 129, 3) := by decide +kernel
theorem dX9_whyNot_305 : decode cX9_whyNot 305 = .ok (.ireturn, 1) := by decide +kernel
theorem dX9_whyNot_306 : decode cX9_whyNot 306 = .ok (.iconst 0, 1) := by decide +kernel
theorem dX9_whyNot_307 : decode cX9_whyNot 307 = .ok (.ireturn, 1) := by decide +kernel
theorem dX9_whyNotThing_0 : decode cX9_whyNotThing 0 = .ok (.iload_n 1, 1) := by decide +kernel
theorem dX9_whyNotThing_1 : decode cX9_whyNotThing 1 = .ok (.bipush 38, 2) := by decide +kernel
theorem dX9_whyNotThing_3 : decode cX9_whyNotThing 3 = .ok (.if_icmp .ne 47, 3) := by decide +kernel
theorem dX9_whyNotThing_6 : decode cX9_whyNotThing 6 = .ok (.aload_n 0, 1) := by decide +kernel
theorem dX9_whyNotThing_7 : decode cX9_whyNotThing 7 = .ok (.getfield 31, 3) := by decide +kernel
theorem dX9_whyNotThing_10 : decode cX9_whyNotThing 10 = .ok (.aload_n 0, 1) := by decide +kernel
theorem dX9_whyNotThing_11 : decode cX9_whyNotThing 11 = .ok (.getfield 126, 3) := by decide +kernel
theorem dX9_whyNotThing_14 : decode cX9_whyNotThing 14 = .ok (.iaload, 1) := by decide +kernel
theorem dX9_whyNotThing_15 : decode cX9_whyNotThing 15 = .ok (.ifCond .ne 7, 3) := by decide +kernel
theorem dX9_whyNotThing_18 : decode cX9_whyNotThing 18 = .ok (.iconst 1, 1) := by decide +kernel
theorem dX9_whyNotThing_19 : decode cX9_whyNotThing 19 = .ok (.goto 30, 3) := by decide +kernel
theorem dX9_whyNotThing_22 : decode cX9_whyNotThing 22 = .ok (.aload_n 0, 1) := by decide +kernel
theorem dX9_whyNotThing_23 : decode cX9_whyNotThing 23 = .ok (.getfield 34, 3) := by decide +kernel
theorem dX9_whyNotThing_26 : decode cX9_whyNotThing 26 = .ok (.aload_n 0, 1) := by decide +kernel
theorem dX9_whyNotThing_27 : decode cX9_whyNotThing 27 = .ok (.getfield 31, 3) := by decide +kernel
theorem dX9_whyNotThing_30 : decode cX9_whyNotThing 30 = .ok (.aload_n 0, 1) := by decide +kernel
theorem dX9_whyNotThing_31 : decode cX9_whyNotThing 31 = .ok (.getfield 126, 3) := by decide +kernel
theorem dX9_whyNotThing_34 : decode cX9_whyNotThing 34 = .ok (.iaload, 1) := by decide +kernel
theorem dX9_whyNotThing_35 : decode cX9_whyNotThing 35 = .ok (.iconst 1, 1) := by decide +kernel
theorem dX9_whyNotThing_36 : decode cX9_whyNotThing 36 = .ok (.isub, 1) := by decide +kernel
theorem dX9_whyNotThing_37 : decode cX9_whyNotThing 37 = .ok (.iaload, 1) := by decide +kernel
theorem dX9_whyNotThing_38 : decode cX9_whyNotThing 38 = .ok (.invokestatic 133, 3) := by decide +kernel
theorem dX9_whyNotThing_41 : decode cX9_whyNotThing 41 = .ok (.ifCond .eq 7, 3) := by decide +kernel
theorem dX9_whyNotThing_44 : decode cX9_whyNotThing 44 = .ok (.iconst 0, 1) := by decide +kernel
theorem dX9_whyNotThing_45 : decode cX9_whyNotThing 45 = .ok (.goto 4, 3) := by decide +kernel
theorem dX9_whyNotThing_48 : decode cX9_whyNotThing 48 = .ok (.iconst 4, 1) := by decide +kernel
theorem dX9_whyNotThing_49 : decode cX9_whyNotThing 49 = .ok (.ireturn, 1) := by decide +kernel
theorem dX9_whyNotThing_50 : decode cX9_whyNotThing 50 = .ok (.iload_n 1, 1) := by decide +kernel
theorem dX9_whyNotThing_51 : decode cX9_whyNotThing 51 = .ok (.bipush 58, 2) := by decide +kernel
theorem dX9_whyNotThing_53 : decode cX9_whyNotThing 53 = .ok (.if_icmp .gt 9, 3) := by decide +kernel
theorem dX9_whyNotThing_56 : decode cX9_whyNotThing 56 = .ok (.aload_n 0, 1) := by decide +kernel
theorem dX9_whyNotThing_57 : decode cX9_whyNotThing 57 = .ok (.iload_n 1, 1) := by decide +kernel
theorem dX9_whyNotThing_58 : decode cX9_whyNotThing 58 = .ok (.invokevirtual 136, 3) := by decide +kernel
theorem dX9_whyNotThing_61 : decode cX9_whyNotThing 61 = .ok (.ireturn, 1) := by decide +kernel
theorem dX9_whyNotThing_62 : decode cX9_whyNotThing 62 = .ok (.iload_n 1, 1) := by decide +kernel
theorem dX9_whyNotThing_63 : decode cX9_whyNotThing 63 = .ok (.bipush 66, 2) := by decide +kernel
theorem dX9_whyNotThing_65 : decode cX9_whyNotThing 65 = .ok (.if_icmp .gt 76, 3) := by decide +kernel
theorem dX9_whyNotThing_68 : decode cX9_whyNotThing 68 = .ok (.aload_n 0, 1) := by decide +kernel
theorem dX9_whyNotThing_69 : decode cX9_whyNotThing 69 = .ok (.aload_n 0, 1) := by decide +kernel
theorem dX9_whyNotThing_70 : decode cX9_whyNotThing 70 = .ok (.getfield 31, 3) := by decide +kernel
theorem dX9_whyNotThing_73 : decode cX9_whyNotThing 73 = .ok (.aload_n 0, 1) := by decide +kernel
theorem dX9_whyNotThing_74 : decode cX9_whyNotThing 74 = .ok (.getfield 126, 3) := by decide +kernel
theorem dX9_whyNotThing_77 : decode cX9_whyNotThing 77 = .ok (.iaload, 1) := by decide +kernel
theorem dX9_whyNotThing_78 : decode cX9_whyNotThing 78 = .ok (.iload_n 1, 1) := by decide +kernel
theorem dX9_whyNotThing_79 : decode cX9_whyNotThing 79 = .ok (.bipush 66, 2) := by decide +kernel
theorem dX9_whyNotThing_81 : decode cX9_whyNotThing 81 = .ok (.if_icmp .ne 8, 3) := by decide +kernel
theorem dX9_whyNotThing_84 : decode cX9_whyNotThing 84 = .ok (.bipush 16, 2) := by decide +kernel
theorem dX9_whyNotThing_86 : decode cX9_whyNotThing 86 = .ok (.goto 5, 3) := by decide +kernel
theorem dX9_whyNotThing_89 : decode cX9_whyNotThing 89 = .ok (.bipush 11, 2) := by decide +kernel
theorem dX9_whyNotThing_91 : decode cX9_whyNotThing 91 = .ok (.invokevirtual 139, 3) := by decide +kernel
theorem dX9_whyNotThing_94 : decode cX9_whyNotThing 94 = .ok (.ifCond .ne 27, 3) := by decide +kernel
theorem dX9_whyNotThing_97 : decode cX9_whyNotThing 97 = .ok (.iload_n 1, 1) := by decide +kernel
theorem dX9_whyNotThing_98 : decode cX9_whyNotThing 98 = .ok (.bipush 64, 2) := by decide +kernel
theorem dX9_whyNotThing_100 : decode cX9_whyNotThing 100 = .ok (.if_icmp .ne 23, 3) := by decide +kernel
theorem dX9_whyNotThing_103 : decode cX9_whyNotThing 103 = .ok (.aload_n 0, 1) := by decide +kernel
theorem dX9_whyNotThing_104 : decode cX9_whyNotThing 104 = .ok (.aload_n 0, 1) := by decide +kernel
theorem dX9_whyNotThing_105 : decode cX9_whyNotThing 105 = .ok (.getfield 31, 3) := by decide +kernel
theorem dX9_whyNotThing_108 : decode cX9_whyNotThing 108 = .ok (.aload_n 0, 1) := by decide +kernel
theorem dX9_whyNotThing_109 : decode cX9_whyNotThing 109 = .ok (.getfield 142, 3) := by decide +kernel
theorem dX9_whyNotThing_112 : decode cX9_whyNotThing 112 = .ok (.iaload, 1) := by decide +kernel
theorem dX9_whyNotThing_113 : decode cX9_whyNotThing 113 = .ok (.bipush 11, 2) := by decide +kernel
theorem dX9_whyNotThing_115 : decode cX9_whyNotThing 115 = .ok (.invokevirtual 139, 3) := by decide +kernel
theorem dX9_whyNotThing_118 : decode cX9_whyNotThing 118 = .ok (.ifCond .eq 5, 3) := by decide +kernel
theorem dX9_whyNotThing_121 : decode cX9_whyNotThing 121 = .ok (.iconst 4, 1) := by decide +kernel
theorem dX9_whyNotThing_122 : decode cX9_whyNotThing 122 = .ok (.ireturn, 1) := by decide +kernel
theorem dX9_whyNotThing_123 : decode cX9_whyNotThing 123 = .ok (.aload_n 0, 1) := by decide +kernel
theorem dX9_whyNotThing_124 : decode cX9_whyNotThing 124 = .ok (.getfield 31, 3) := by decide +kernel
theorem dX9_whyNotThing_127 : decode cX9_whyNotThing 127 = .ok (.aload_n 0, 1) := by decide +kernel
theorem dX9_whyNotThing_128 : decode cX9_whyNotThing 128 = .ok (.getfield 126, 3) := by decide +kernel
theorem dX9_whyNotThing_131 : decode cX9_whyNotThing 131 = .ok (.iaload, 1) := by decide +kernel
theorem dX9_whyNotThing_132 : decode cX9_whyNotThing 132 = .ok (.ifCond .ne 7, 3) := by decide +kernel
theorem dX9_whyNotThing_135 : decode cX9_whyNotThing 135 = .ok (.iconst 1, 1) := by decide +kernel
theorem dX9_whyNotThing_136 : decode cX9_whyNotThing 136 = .ok (.goto 4, 3) := by decide +kernel
theorem dX9_whyNotThing_139 : decode cX9_whyNotThing 139 = .ok (.iconst 0, 1) := by decide +kernel
theorem dX9_whyNotThing_140 : decode cX9_whyNotThing 140 = .ok (.ireturn, 1) := by decide +kernel
theorem dX9_whyNotThing_141 : decode cX9_whyNotThing 141 = .ok (.iload_n 1, 1) := by decide +kernel
theorem dX9_whyNotThing_142 : decode cX9_whyNotThing 142 = .ok (.bipush 67, 2) := by decide +kernel
theorem dX9_whyNotThing_144 : decode cX9_whyNotThing 144 = .ok (.if_icmp .ne 41, 3) := by decide +kernel
theorem dX9_whyNotThing_147 : decode cX9_whyNotThing 147 = .ok (.aload_n 0, 1) := by decide +kernel
theorem dX9_whyNotThing_148 : decode cX9_whyNotThing 148 = .ok (.aload_n 0, 1) := by decide +kernel
theorem dX9_whyNotThing_149 : decode cX9_whyNotThing 149 = .ok (.getfield 31, 3) := by decide +kernel
theorem dX9_whyNotThing_152 : decode cX9_whyNotThing 152 = .ok (.aload_n 0, 1) := by decide +kernel
theorem dX9_whyNotThing_153 : decode cX9_whyNotThing 153 = .ok (.getfield 123, 3) := by decide +kernel
theorem dX9_whyNotThing_156 : decode cX9_whyNotThing 156 = .ok (.iaload, 1) := by decide +kernel
theorem dX9_whyNotThing_157 : decode cX9_whyNotThing 157 = .ok (.bipush 15, 2) := by decide +kernel
theorem dX9_whyNotThing_159 : decode cX9_whyNotThing 159 = .ok (.invokevirtual 139, 3) := by decide +kernel
theorem dX9_whyNotThing_162 : decode cX9_whyNotThing 162 = .ok (.ifCond .eq 7, 3) := by decide +kernel
theorem dX9_whyNotThing_165 : decode cX9_whyNotThing 165 = .ok (.iconst 4, 1) := by decide +kernel
theorem dX9_whyNotThing_166 : decode cX9_whyNotThing 166 = .ok (.goto 18, 3) := by decide +kernel
theorem dX9_whyNotThing_169 : decode cX9_whyNotThing 169 = .ok (.aload_n 0, 1) := by decide +kernel
theorem dX9_whyNotThing_170 : decode cX9_whyNotThing 170 = .ok (.getfield 89, 3) := by decide +kernel
theorem dX9_whyNotThing_173 : decode cX9_whyNotThing 173 = .ok (.bipush 60, 2) := by decide +kernel
theorem dX9_whyNotThing_175 : decode cX9_whyNotThing 175 = .ok (.if_icmp .ne 8, 3) := by decide +kernel
theorem dX9_whyNotThing_178 : decode cX9_whyNotThing 178 = .ok (.bipush 7, 2) := by decide +kernel
theorem dX9_whyNotThing_180 : decode cX9_whyNotThing 180 = .ok (.goto 4, 3) := by decide +kernel
theorem dX9_whyNotThing_183 : decode cX9_whyNotThing 183 = .ok (.iconst 0, 1) := by decide +kernel
theorem dX9_whyNotThing_184 : decode cX9_whyNotThing 184 = .ok (.ireturn, 1) := by decide +kernel
theorem dX9_whyNotThing_185 : decode cX9_whyNotThing 185 = .ok (.iload_n 1, 1) := by decide +kernel
theorem dX9_whyNotThing_186 : decode cX9_whyNotThing 186 = .ok (.bipush 68, 2) := by decide +kernel
theorem dX9_whyNotThing_188 : decode cX9_whyNotThing 188 = .ok (.if_icmp .ne 58, 3) := by decide +kernel
theorem dX9_whyNotThing_191 : decode cX9_whyNotThing 191 = .ok (.aload_n 0, 1) := by decide +kernel
theorem dX9_whyNotThing_192 : decode cX9_whyNotThing 192 = .ok (.getfield 31, 3) := by decide +kernel
theorem dX9_whyNotThing_195 : decode cX9_whyNotThing 195 = .ok (.aload_n 0, 1) := by decide +kernel
theorem dX9_whyNotThing_196 : decode cX9_whyNotThing 196 = .ok (.getfield 142, 3) := by decide +kernel
theorem dX9_whyNotThing_199 : decode cX9_whyNotThing 199 = .ok (.iaload, 1) := by decide +kernel
theorem dX9_whyNotThing_200 : decode cX9_whyNotThing 200 = .ok (.ifCond .ne 7, 3) := by decide +kernel
theorem dX9_whyNotThing_203 : decode cX9_whyNotThing 203 = .ok (.iconst 1, 1) := by decide +kernel
theorem dX9_whyNotThing_204 : decode cX9_whyNotThing 204 = .ok (.goto 41, 3) := by decide +kernel
theorem dX9_whyNotThing_207 : decode cX9_whyNotThing 207 = .ok (.aload_n 0, 1) := by decide +kernel
theorem dX9_whyNotThing_208 : decode cX9_whyNotThing 208 = .ok (.aload_n 0, 1) := by decide +kernel
theorem dX9_whyNotThing_209 : decode cX9_whyNotThing 209 = .ok (.getfield 31, 3) := by decide +kernel
theorem dX9_whyNotThing_212 : decode cX9_whyNotThing 212 = .ok (.aload_n 0, 1) := by decide +kernel
theorem dX9_whyNotThing_213 : decode cX9_whyNotThing 213 = .ok (.getfield 142, 3) := by decide +kernel
theorem dX9_whyNotThing_216 : decode cX9_whyNotThing 216 = .ok (.iaload, 1) := by decide +kernel
theorem dX9_whyNotThing_217 : decode cX9_whyNotThing 217 = .ok (.bipush 15, 2) := by decide +kernel
theorem dX9_whyNotThing_219 : decode cX9_whyNotThing 219 = .ok (.invokevirtual 139, 3) := by decide +kernel
theorem dX9_whyNotThing_222 : decode cX9_whyNotThing 222 = .ok (.ifCond .eq 7, 3) := by decide +kernel
theorem dX9_whyNotThing_225 : decode cX9_whyNotThing 225 = .ok (.iconst 4, 1) := by decide +kernel
theorem dX9_whyNotThing_226 : decode cX9_whyNotThing 226 = .ok (.goto 19, 3) := by decide +kernel
theorem dX9_whyNotThing_229 : decode cX9_whyNotThing 229 = .ok (.aload_n 0, 1) := by decide +kernel
theorem dX9_whyNotThing_230 : decode cX9_whyNotThing 230 = .ok (.getfield 49, 3) := by decide +kernel
theorem dX9_whyNotThing_233 : decode cX9_whyNotThing 233 = .ok (.aload_n 0, 1) := by decide +kernel
theorem dX9_whyNotThing_234 : decode cX9_whyNotThing 234 = .ok (.getfield 31, 3) := by decide +kernel
theorem dX9_whyNotThing_237 : decode cX9_whyNotThing 237 = .ok (.aload_n 0, 1) := by decide +kernel
theorem dX9_whyNotThing_238 : decode cX9_whyNotThing 238 = .ok (.getfield 142, 3) := by decide +kernel
theorem dX9_whyNotThing_241 : decode cX9_whyNotThing 241 = .ok (.iaload, 1) := by decide +kernel
theorem dX9_whyNotThing_242 : decode cX9_whyNotThing 242 = .ok (.iconst 1, 1) := by decide +kernel
theorem dX9_whyNotThing_243 : decode cX9_whyNotThing 243 = .ok (.isub, 1) := by decide +kernel
theorem dX9_whyNotThing_244 : decode cX9_whyNotThing 244 = .ok (.iaload, 1) := by decide +kernel
theorem dX9_whyNotThing_245 : decode cX9_whyNotThing 245 = .ok (.ireturn, 1) := by decide +kernel
theorem dX9_whyNotThing_246 : decode cX9_whyNotThing 246 = .ok (.iload_n 1, 1) := by decide +kernel
theorem dX9_whyNotThing_247 : decode cX9_whyNotThing 247 = .ok (.bipush 70, 2) := by decide +kernel
theorem dX9_whyNotThing_249 : decode cX9_whyNotThing 249 = .ok (.if_icmp .eq 9, 3) := by decide +kernel
theorem dX9_whyNotThing_252 : decode cX9_whyNotThing 252 = .ok (.iload_n 1, 1) := by decide +kernel
theorem dX9_whyNotThing_253 : decode cX9_whyNotThing 253 = .ok (.bipush 71, 2) := by decide +kernel
theorem dX9_whyNotThing_255 : decode cX9_whyNotThing 255 = .ok (.if_icmp .ne 43, 3) := by decide +kernel
theorem dX9_whyNotThing_258 : decode cX9_whyNotThing 258 = .ok (.aload_n 0, 1) := by decide +kernel
theorem dX9_whyNotThing_259 : decode cX9_whyNotThing 259 = .ok (.getfield 31, 3) := by decide +kernel
theorem dX9_whyNotThing_262 : decode cX9_whyNotThing 262 = .ok (.aload_n 0, 1) := by decide +kernel
theorem dX9_whyNotThing_263 : decode cX9_whyNotThing 263 = .ok (.getfield 126, 3) := by decide +kernel
theorem dX9_whyNotThing_266 : decode cX9_whyNotThing 266 = .ok (.iaload, 1) := by decide +kernel
theorem dX9_whyNotThing_267 : decode cX9_whyNotThing 267 = .ok (.ifCond .ne 7, 3) := by decide +kernel
theorem dX9_whyNotThing_270 : decode cX9_whyNotThing 270 = .ok (.iconst 1, 1) := by decide +kernel
theorem dX9_whyNotThing_271 : decode cX9_whyNotThing 271 = .ok (.goto 26, 3) := by decide +kernel
theorem dX9_whyNotThing_274 : decode cX9_whyNotThing 274 = .ok (.aload_n 0, 1) := by decide +kernel
theorem dX9_whyNotThing_275 : decode cX9_whyNotThing 275 = .ok (.aload_n 0, 1) := by decide +kernel
theorem dX9_whyNotThing_276 : decode cX9_whyNotThing 276 = .ok (.getfield 31, 3) := by decide +kernel
theorem dX9_whyNotThing_279 : decode cX9_whyNotThing 279 = .ok (.aload_n 0, 1) := by decide +kernel
theorem dX9_whyNotThing_280 : decode cX9_whyNotThing 280 = .ok (.getfield 126, 3) := by decide +kernel
theorem dX9_whyNotThing_283 : decode cX9_whyNotThing 283 = .ok (.iaload, 1) := by decide +kernel
theorem dX9_whyNotThing_284 : decode cX9_whyNotThing 284 = .ok (.bipush 15, 2) := by decide +kernel
theorem dX9_whyNotThing_286 : decode cX9_whyNotThing 286 = .ok (.invokevirtual 139, 3) := by decide +kernel
theorem dX9_whyNotThing_289 : decode cX9_whyNotThing 289 = .ok (.ifCond .eq 7, 3) := by decide +kernel
theorem dX9_whyNotThing_292 : decode cX9_whyNotThing 292 = .ok (.iconst 4, 1) := by decide +kernel
theorem dX9_whyNotThing_293 : decode cX9_whyNotThing 293 = .ok (.goto 4, 3) := by decide +kernel
theorem dX9_whyNotThing_296 : decode cX9_whyNotThing 296 = .ok (.iconst 0, 1) := by decide +kernel
theorem dX9_whyNotThing_297 : decode cX9_whyNotThing 297 = .ok (.ireturn, 1) := by decide +kernel
theorem dX9_whyNotThing_298 : decode cX9_whyNotThing 298 = .ok (.iconst 0, 1) := by decide +kernel
theorem dX9_whyNotThing_299 : decode cX9_whyNotThing 299 = .ok (.ireturn, 1) := by decide +kernel
theorem dX9_whyNotPlace_0 : decode cX9_whyNotPlace 0 = .ok (.iload_n 1, 1) := by decide +kernel
theorem dX9_whyNotPlace_1 : decode cX9_whyNotPlace 1 = .ok (.bipush 39, 2) := by decide +kernel
theorem dX9_whyNotPlace_3 : decode cX9_whyNotPlace 3 = .ok (.isub, 1) := by decide +kernel
theorem dX9_whyNotPlace_4 : decode cX9_whyNotPlace 4 = .ok (.bipush 10, 2) := by decide +kernel
theorem dX9_whyNotPlace_6 : decode cX9_whyNotPlace 6 = .ok (.irem, 1) := by decide +kernel
theorem dX9_whyNotPlace_7 : decode cX9_whyNotPlace 7 = .ok (.istore_n 2, 1) := by decide +kernel
theorem dX9_whyNotPlace_8 : decode cX9_whyNotPlace 8 = .ok (.iload_n 1, 1) := by decide +kernel
theorem dX9_whyNotPlace_9 : decode cX9_whyNotPlace 9 = .ok (.bipush 49, 2) := by decide +kernel
theorem dX9_whyNotPlace_11 : decode cX9_whyNotPlace 11 = .ok (.if_icmp .lt 7, 3) := by decide +kernel
theorem dX9_whyNotPlace_14 : decode cX9_whyNotPlace 14 = .ok (.iconst 1, 1) := by decide +kernel
theorem dX9_whyNotPlace_15 : decode cX9_whyNotPlace 15 = .ok (.goto 4, 3) := by decide +kernel
theorem dX9_whyNotPlace_18 : decode cX9_whyNotPlace 18 = .ok (.iconst 0, 1) := by decide +kernel
theorem dX9_whyNotPlace_19 : decode cX9_whyNotPlace 19 = .ok (.istore_n 3, 1) := by decide +kernel
theorem dX9_whyNotPlace_20 : decode cX9_whyNotPlace 20 = .ok (.iload_n 2, 1) := by decide +kernel
theorem dX9_whyNotPlace_21 : decode cX9_whyNotPlace 21 = .ok (.bipush 9, 2) := by decide +kernel
theorem dX9_whyNotPlace_23 : decode cX9_whyNotPlace 23 = .ok (.if_icmp .ge 7, 3) := by decide +kernel
theorem dX9_whyNotPlace_26 : decode cX9_whyNotPlace 26 = .ok (.iload_n 2, 1) := by decide +kernel
theorem dX9_whyNotPlace_27 : decode cX9_whyNotPlace 27 = .ok (.goto 5, 3) := by decide +kernel
theorem dX9_whyNotPlace_30 : decode cX9_whyNotPlace 30 = .ok (.bipush 10, 2) := by decide +kernel
theorem dX9_whyNotPlace_32 : decode cX9_whyNotPlace 32 = .ok (.istore 4, 2) := by decide +kernel
theorem dX9_whyNotPlace_34 : decode cX9_whyNotPlace 34 = .ok (.aload_n 0, 1) := by decide +kernel
theorem dX9_whyNotPlace_35 : decode cX9_whyNotPlace 35 = .ok (.aload_n 0, 1) := by decide +kernel
theorem dX9_whyNotPlace_36 : decode cX9_whyNotPlace 36 = .ok (.getfield 31, 3) := by decide +kernel
theorem dX9_whyNotPlace_39 : decode cX9_whyNotPlace 39 = .ok (.aload_n 0, 1) := by decide +kernel
theorem dX9_whyNotPlace_40 : decode cX9_whyNotPlace 40 = .ok (.getfield 126, 3) := by decide +kernel
theorem dX9_whyNotPlace_43 : decode cX9_whyNotPlace 43 = .ok (.iaload, 1) := by decide +kernel
theorem dX9_whyNotPlace_44 : decode cX9_whyNotPlace 44 = .ok (.iload 4, 2) := by decide +kernel
theorem dX9_whyNotPlace_46 : decode cX9_whyNotPlace 46 = .ok (.invokevirtual 139, 3) := by decide +kernel
theorem dX9_whyNotPlace_49 : decode cX9_whyNotPlace 49 = .ok (.ifCond .ne 58, 3) := by decide +kernel
theorem dX9_whyNotPlace_52 : decode cX9_whyNotPlace 52 = .ok (.iload_n 3, 1) := by decide +kernel
theorem dX9_whyNotPlace_53 : decode cX9_whyNotPlace 53 = .ok (.ifCond .eq 27, 3) := by decide +kernel
theorem dX9_whyNotPlace_56 : decode cX9_whyNotPlace 56 = .ok (.iload_n 2, 1) := by decide +kernel
theorem dX9_whyNotPlace_57 : decode cX9_whyNotPlace 57 = .ok (.bipush 8, 2) := by decide +kernel
theorem dX9_whyNotPlace_59 : decode cX9_whyNotPlace 59 = .ok (.if_icmp .ne 21, 3) := by decide +kernel
theorem dX9_whyNotPlace_62 : decode cX9_whyNotPlace 62 = .ok (.aload_n 0, 1) := by decide +kernel
theorem dX9_whyNotPlace_63 : decode cX9_whyNotPlace 63 = .ok (.aload_n 0, 1) := by decide +kernel
theorem dX9_whyNotPlace_64 : decode cX9_whyNotPlace 64 = .ok (.getfield 31, 3) := by decide +kernel
theorem dX9_whyNotPlace_67 : decode cX9_whyNotPlace 67 = .ok (.aload_n 0, 1) := by decide +kernel
theorem dX9_whyNotPlace_68 : decode cX9_whyNotPlace 68 = .ok (.getfield 142, 3) := by decide +kernel
theorem dX9_whyNotPlace_71 : decode cX9_whyNotPlace 71 = .ok (.iaload, 1) := by decide +kernel
theorem dX9_whyNotPlace_72 : decode cX9_whyNotPlace 72 = .ok (.bipush 11, 2) := by decide +kernel
theorem dX9_whyNotPlace_74 : decode cX9_whyNotPlace 74 = .ok (.invokevirtual 139, 3) := by decide +kernel
theorem dX9_whyNotPlace_77 : decode cX9_whyNotPlace 77 = .ok (.ifCond .ne 30, 3) := by decide +kernel
theorem dX9_whyNotPlace_80 : decode cX9_whyNotPlace 80 = .ok (.iload_n 3, 1) := by decide +kernel
theorem dX9_whyNotPlace_81 : decode cX9_whyNotPlace 81 = .ok (.ifCond .eq 28, 3) := by decide +kernel
theorem dX9_whyNotPlace_84 : decode cX9_whyNotPlace 84 = .ok (.iload_n 2, 1) := by decide +kernel
theorem dX9_whyNotPlace_85 : decode cX9_whyNotPlace 85 = .ok (.bipush 9, 2) := by decide +kernel
theorem dX9_whyNotPlace_87 : decode cX9_whyNotPlace 87 = .ok (.if_icmp .ne 22, 3) := by decide +kernel
theorem dX9_whyNotPlace_90 : decode cX9_whyNotPlace 90 = .ok (.aload_n 0, 1) := by decide +kernel
theorem dX9_whyNotPlace_91 : decode cX9_whyNotPlace 91 = .ok (.aload_n 0, 1) := by decide +kernel
theorem dX9_whyNotPlace_92 : decode cX9_whyNotPlace 92 = .ok (.getfield 31, 3) := by decide +kernel
theorem dX9_whyNotPlace_95 : decode cX9_whyNotPlace 95 = .ok (.aload_n 0, 1) := by decide +kernel
theorem dX9_whyNotPlace_96 : decode cX9_whyNotPlace 96 = .ok (.getfield 142, 3) := by decide +kernel
theorem dX9_whyNotPlace_99 : decode cX9_whyNotPlace 99 = .ok (.iaload, 1) := by decide +kernel
theorem dX9_whyNotPlace_100 : decode cX9_whyNotPlace 100 = .ok (.iconst 4, 1) := by decide +kernel
theorem dX9_whyNotPlace_101 : decode cX9_whyNotPlace 101 = .ok (.invokevirtual 139, 3) := by decide +kernel
theorem dX9_whyNotPlace_104 : decode cX9_whyNotPlace 104 = .ok (.ifCond .eq 5, 3) := by decide +kernel
theorem dX9_whyNotPlace_107 : decode cX9_whyNotPlace 107 = .ok (.iconst 4, 1) := by decide +kernel
theorem dX9_whyNotPlace_108 : decode cX9_whyNotPlace 108 = .ok (.ireturn, 1) := by decide +kernel
theorem dX9_whyNotPlace_109 : decode cX9_whyNotPlace 109 = .ok (.aload_n 0, 1) := by decide +kernel
theorem dX9_whyNotPlace_110 : decode cX9_whyNotPlace 110 = .ok (.getfield 31, 3) := by decide +kernel
theorem dX9_whyNotPlace_113 : decode cX9_whyNotPlace 113 = .ok (.aload_n 0, 1) := by decide +kernel
theorem dX9_whyNotPlace_114 : decode cX9_whyNotPlace 114 = .ok (.getfield 126, 3) := by decide +kernel
theorem dX9_whyNotPlace_117 : decode cX9_whyNotPlace 117 = .ok (.iaload, 1) := by decide +kernel
theorem dX9_whyNotPlace_118 : decode cX9_whyNotPlace 118 = .ok (.ifCond .ne 5, 3) := by decide +kernel
theorem dX9_whyNotPlace_121 : decode cX9_whyNotPlace 121 = .ok (.iconst 1, 1) := by decide +kernel
theorem dX9_whyNotPlace_122 : decode cX9_whyNotPlace 122 = .ok (.ireturn, 1) := by decide +kernel
theorem dX9_whyNotPlace_123 : decode cX9_whyNotPlace 123 = .ok (.aload_n 0, 1) := by decide +kernel
theorem dX9_whyNotPlace_124 : decode cX9_whyNotPlace 124 = .ok (.getfield 31, 3) := by decide +kernel
theorem dX9_whyNotPlace_127 : decode cX9_whyNotPlace 127 = .ok (.aload_n 0, 1) := by decide +kernel
theorem dX9_whyNotPlace_128 : decode cX9_whyNotPlace 128 = .ok (.getfield 126, 3) := by decide +kernel
theorem dX9_whyNotPlace_131 : decode cX9_whyNotPlace 131 = .ok (.iaload, 1) := by decide +kernel
theorem dX9_whyNotPlace_132 : decode cX9_whyNotPlace 132 = .ok (.iconst 1, 1) := by decide +kernel
theorem dX9_whyNotPlace_133 : decode cX9_whyNotPlace 133 = .ok (.isub, 1) := by decide +kernel
theorem dX9_whyNotPlace_134 : decode cX9_whyNotPlace 134 = .ok (.istore 5, 2) := by decide +kernel
theorem dX9_whyNotPlace_136 : decode cX9_whyNotPlace 136 = .ok (.aload_n 0, 1) := by decide +kernel
theorem dX9_whyNotPlace_137 : decode cX9_whyNotPlace 137 = .ok (.getfield 16, 3) := by decide +kernel
theorem dX9_whyNotPlace_140 : decode cX9_whyNotPlace 140 = .ok (.aload_n 0, 1) := by decide +kernel
theorem dX9_whyNotPlace_141 : decode cX9_whyNotPlace 141 = .ok (.getfield 123, 3) := by decide +kernel
theorem dX9_whyNotPlace_144 : decode cX9_whyNotPlace 144 = .ok (.iaload, 1) := by decide +kernel
theorem dX9_whyNotPlace_145 : decode cX9_whyNotPlace 145 = .ok (.iconst 0, 1) := by decide +kernel
theorem dX9_whyNotPlace_146 : decode cX9_whyNotPlace 146 = .ok (.aload_n 0, 1) := by decide +kernel
theorem dX9_whyNotPlace_147 : decode cX9_whyNotPlace 147 = .ok (.getfield 37, 3) := by decide +kernel
theorem dX9_whyNotPlace_150 : decode cX9_whyNotPlace 150 = .ok (.iload 5, 2) := by decide +kernel
theorem dX9_whyNotPlace_152 : decode cX9_whyNotPlace 152 = .ok (.iaload, 1) := by decide +kernel
theorem dX9_whyNotPlace_153 : decode cX9_whyNotPlace 153 = .ok (.iconst 1, 1) := by decide +kernel
theorem dX9_whyNotPlace_154 : decode cX9_whyNotPlace 154 = .ok (.isub, 1) := by decide +kernel
theorem dX9_whyNotPlace_155 : decode cX9_whyNotPlace 155 = .ok (.invokestatic 68, 3) := by decide +kernel
theorem dX9_whyNotPlace_158 : decode cX9_whyNotPlace 158 = .ok (.ifCond .ne 5, 3) := by decide +kernel
theorem dX9_whyNotPlace_161 : decode cX9_whyNotPlace 161 = .ok (.iconst 2, 1) := by decide +kernel
theorem dX9_whyNotPlace_162 : decode cX9_whyNotPlace 162 = .ok (.ireturn, 1) := by decide +kernel
theorem dX9_whyNotPlace_163 : decode cX9_whyNotPlace 163 = .ok (.iload_n 3, 1) := by decide +kernel
theorem dX9_whyNotPlace_164 : decode cX9_whyNotPlace 164 = .ok (.ifCond .eq 46, 3) := by decide +kernel
theorem dX9_whyNotPlace_167 : decode cX9_whyNotPlace 167 = .ok (.iload_n 2, 1) := by decide +kernel
theorem dX9_whyNotPlace_168 : decode cX9_whyNotPlace 168 = .ok (.bipush 8, 2) := by decide +kernel
theorem dX9_whyNotPlace_170 : decode cX9_whyNotPlace 170 = .ok (.if_icmp .ne 40, 3) := by decide +kernel
theorem dX9_whyNotPlace_173 : decode cX9_whyNotPlace 173 = .ok (.aload_n 0, 1) := by decide +kernel
theorem dX9_whyNotPlace_174 : decode cX9_whyNotPlace 174 = .ok (.getfield 31, 3) := by decide +kernel
theorem dX9_whyNotPlace_177 : decode cX9_whyNotPlace 177 = .ok (.aload_n 0, 1) := by decide +kernel
theorem dX9_whyNotPlace_178 : decode cX9_whyNotPlace 178 = .ok (.getfield 142, 3) := by decide +kernel
theorem dX9_whyNotPlace_181 : decode cX9_whyNotPlace 181 = .ok (.iaload, 1) := by decide +kernel
theorem dX9_whyNotPlace_182 : decode cX9_whyNotPlace 182 = .ok (.ifCond .eq 28, 3) := by decide +kernel
theorem dX9_whyNotPlace_185 : decode cX9_whyNotPlace 185 = .ok (.aload_n 0, 1) := by decide +kernel
theorem dX9_whyNotPlace_186 : decode cX9_whyNotPlace 186 = .ok (.getfield 34, 3) := by decide +kernel
theorem dX9_whyNotPlace_189 : decode cX9_whyNotPlace 189 = .ok (.aload_n 0, 1) := by decide +kernel
theorem dX9_whyNotPlace_190 : decode cX9_whyNotPlace 190 = .ok (.getfield 31, 3) := by decide +kernel
theorem dX9_whyNotPlace_193 : decode cX9_whyNotPlace 193 = .ok (.aload_n 0, 1) := by decide +kernel
theorem dX9_whyNotPlace_194 : decode cX9_whyNotPlace 194 = .ok (.getfield 142, 3) := by decide +kernel
theorem dX9_whyNotPlace_197 : decode cX9_whyNotPlace 197 = .ok (.iaload, 1) := by decide +kernel
theorem dX9_whyNotPlace_198 : decode cX9_whyNotPlace 198 = .ok (.iconst 1, 1) := by decide +kernel
theorem dX9_whyNotPlace_199 : decode cX9_whyNotPlace 199 = .ok (.isub, 1) := by decide +kernel
theorem dX9_whyNotPlace_200 : decode cX9_whyNotPlace 200 = .ok (.iaload, 1) := by decide +kernel
theorem dX9_whyNotPlace_201 : decode cX9_whyNotPlace 201 = .ok (.bipush 11, 2) := by decide +kernel
theorem dX9_whyNotPlace_203 : decode cX9_whyNotPlace 203 = .ok (.if_icmp .ne 7, 3) := by decide +kernel
theorem dX9_whyNotPlace_206 : decode cX9_whyNotPlace 206 = .ok (.iconst 1, 1) := by decide +kernel
theorem dX9_whyNotPlace_207 : decode cX9_whyNotPlace 207 = .ok (.goto 4, 3) := by decide +kernel
theorem dX9_whyNotPlace_210 : decode cX9_whyNotPlace 210 = .ok (.iconst 0, 1) := by decide +kernel
theorem dX9_whyNotPlace_211 : decode cX9_whyNotPlace 211 = .ok (.istore 6, 2) := by decide +kernel
theorem dX9_whyNotPlace_213 : decode cX9_whyNotPlace 213 = .ok (.iload 6, 2) := by decide +kernel
theorem dX9_whyNotPlace_215 : decode cX9_whyNotPlace 215 = .ok (.ifCond .eq 19, 3) := by decide +kernel
theorem dX9_whyNotPlace_218 : decode cX9_whyNotPlace 218 = .ok (.aload_n 0, 1) := by decide +kernel
theorem dX9_whyNotPlace_219 : decode cX9_whyNotPlace 219 = .ok (.getfield 34, 3) := by decide +kernel
theorem dX9_whyNotPlace_222 : decode cX9_whyNotPlace 222 = .ok (.iload 5, 2) := by decide +kernel
theorem dX9_whyNotPlace_224 : decode cX9_whyNotPlace 224 = .ok (.iaload, 1) := by decide +kernel
theorem dX9_whyNotPlace_225 : decode cX9_whyNotPlace 225 = .ok (.bipush 9, 2) := by decide +kernel
theorem dX9_whyNotPlace_227 : decode cX9_whyNotPlace 227 = .ok (.if_icmp .ne 7, 3) := by decide +kernel
theorem dX9_whyNotPlace_230 : decode cX9_whyNotPlace 230 = .ok (.iconst 5, 1) := by decide +kernel
theorem dX9_whyNotPlace_231 : decode cX9_whyNotPlace 231 = .ok (.goto 4, 3) := by decide +kernel
theorem dX9_whyNotPlace_234 : decode cX9_whyNotPlace 234 = .ok (.iconst 0, 1) := by decide +kernel
theorem dX9_whyNotPlace_235 : decode cX9_whyNotPlace 235 = .ok (.ireturn, 1) := by decide +kernel
theorem dX9_does_0 : decode cX9_does 0 = .ok (.iload_n 1, 1) := by decide +kernel
theorem dX9_does_1 : decode cX9_does 1 = .ok (.bipush 14, 2) := by decide +kernel
theorem dX9_does_3 : decode cX9_does 3 = .ok (.if_icmp .le 9, 3) := by decide +kernel
theorem dX9_does_6 : decode cX9_does 6 = .ok (.iload_n 1, 1) := by decide +kernel
theorem dX9_does_7 : decode cX9_does 7 = .ok (.bipush 25, 2) := by decide +kernel
theorem dX9_does_9 : decode cX9_does 9 = .ok (.if_icmp .ne 11, 3) := by decide +kernel
theorem dX9_does_12 : decode cX9_does 12 = .ok (.aload_n 0, 1) := by decide +kernel
theorem dX9_does_13 : decode cX9_does 13 = .ok (.iload_n 1, 1) := by decide +kernel
theorem dX9_does_14 : decode cX9_does 14 = .ok (.invokevirtual 145, 3) := by decide +kernel
theorem dX9_does_17 : decode cX9_does 17 = .ok (.goto 98, 3) := by decide +kernel
theorem dX9_does_20 : decode cX9_does 20 = .ok (.iload_n 1, 1) := by decide +kernel
theorem dX9_does_21 : decode cX9_does 21 = .ok (.bipush 26, 2) := by decide +kernel
theorem dX9_does_23 : decode cX9_does 23 = .ok (.if_icmp .gt 11, 3) := by decide +kernel
theorem dX9_does_26 : decode cX9_does 26 = .ok (.aload_n 0, 1) := by decide +kernel
theorem dX9_does_27 : decode cX9_does 27 = .ok (.iload_n 1, 1) := by decide +kernel
theorem dX9_does_28 : decode cX9_does 28 = .ok (.invokevirtual 149, 3) := by decide +kernel
theorem dX9_does_31 : decode cX9_does 31 = .ok (.goto 84, 3) := by decide +kernel
theorem dX9_does_34 : decode cX9_does 34 = .ok (.iload_n 1, 1) := by decide +kernel
theorem dX9_does_35 : decode cX9_does 35 = .ok (.bipush 30, 2) := by decide +kernel
theorem dX9_does_37 : decode cX9_does 37 = .ok (.if_icmp .gt 11, 3) := by decide +kernel
theorem dX9_does_40 : decode cX9_does 40 = .ok (.aload_n 0, 1) := by decide +kernel
theorem dX9_does_41 : decode cX9_does 41 = .ok (.iload_n 1, 1) := by decide +kernel
theorem dX9_does_42 : decode cX9_does 42 = .ok (.invokevirtual 152, 3) := by decide +kernel
theorem dX9_does_45 : decode cX9_does 45 = .ok (.goto 70, 3) := by decide +kernel
theorem dX9_does_48 : decode cX9_does 48 = .ok (.iload_n 1, 1) := by decide +kernel
theorem dX9_does_49 : decode cX9_does 49 = .ok (.bipush 38, 2) := by decide +kernel
theorem dX9_does_51 : decode cX9_does 51 = .ok (.if_icmp .gt 11, 3) := by decide +kernel
theorem dX9_does_54 : decode cX9_does 54 = .ok (.aload_n 0, 1) := by decide +kernel
theorem dX9_does_55 : decode cX9_does 55 = .ok (.iload_n 1, 1) := by decide +kernel
theorem dX9_does_56 : decode cX9_does 56 = .ok (.invokevirtual 155, 3) := by decide +kernel
theorem dX9_does_59 : decode cX9_does 59 = .ok (.goto 56, 3) := by decide +kernel
theorem dX9_does_62 : decode cX9_does 62 = .ok (.iload_n 1, 1) := by decide +kernel
theorem dX9_does_63 : decode cX9_does 63 = .ok (.bipush 48, 2) := by decide +kernel
theorem dX9_does_65 : decode cX9_does 65 = .ok (.if_icmp .gt 14, 3) := by decide +kernel
theorem dX9_does_68 : decode cX9_does 68 = .ok (.aload_n 0, 1) := by decide +kernel
theorem dX9_does_69 : decode cX9_does 69 = .ok (.iload_n 1, 1) := by decide +kernel
theorem dX9_does_70 : decode cX9_does 70 = .ok (.bipush 39, 2) := by decide +kernel
theorem dX9_does_72 : decode cX9_does 72 = .ok (.isub, 1) := by decide +kernel
theorem dX9_does_73 : decode cX9_does 73 = .ok (.invokevirtual 158, 3) := by decide +kernel
theorem dX9_does_76 : decode cX9_does 76 = .ok (.goto 39, 3) := by decide +kernel
theorem dX9_does_79 : decode cX9_does 79 = .ok (.iload_n 1, 1) := by decide +kernel
theorem dX9_does_80 : decode cX9_does 80 = .ok (.bipush 58, 2) := by decide +kernel
theorem dX9_does_82 : decode cX9_does 82 = .ok (.if_icmp .gt 14, 3) := by decide +kernel
theorem dX9_does_85 : decode cX9_does 85 = .ok (.aload_n 0, 1) := by decide +kernel
theorem dX9_does_86 : decode cX9_does 86 = .ok (.iload_n 1, 1) := by decide +kernel
theorem dX9_does_87 : decode cX9_does 87 = .ok (.bipush 49, 2) := by decide +kernel
theorem dX9_does_89 : decode cX9_does 89 = .ok (.isub, 1) := by decide +kernel
theorem dX9_does_90 : decode cX9_does 90 = .ok (.invokevirtual 161, 3) := by decide +kernel
theorem dX9_does_93 : decode cX9_does 93 = .ok (.goto 22, 3) := by decide +kernel
theorem dX9_does_96 : decode cX9_does 96 = .ok (.iload_n 1, 1) := by decide +kernel
theorem dX9_does_97 : decode cX9_does 97 = .ok (.bipush 66, 2) := by decide +kernel
theorem dX9_does_99 : decode cX9_does 99 = .ok (.if_icmp .gt 11, 3) := by decide +kernel
theorem dX9_does_102 : decode cX9_does 102 = .ok (.aload_n 0, 1) := by decide +kernel
theorem dX9_does_103 : decode cX9_does 103 = .ok (.iload_n 1, 1) := by decide +kernel
theorem dX9_does_104 : decode cX9_does 104 = .ok (.invokevirtual 164, 3) := by decide +kernel
theorem dX9_does_107 : decode cX9_does 107 = .ok (.goto 8, 3) := by decide +kernel
theorem dX9_does_110 : decode cX9_does 110 = .ok (.aload_n 0, 1) := by decide +kernel
theorem dX9_does_111 : decode cX9_does 111 = .ok (.iload_n 1, 1) := by decide +kernel
theorem dX9_does_112 : decode cX9_does 112 = .ok (.invokevirtual 167, 3) := by decide +kernel
theorem dX9_does_115 : decode cX9_does 115 = .ok (.return_, 1) := by decide +kernel
theorem dX9_doesWhole_0 : decode cX9_doesWhole 0 = .ok (.iload_n 1, 1) := by decide +kernel
theorem dX9_doesWhole_1 : decode cX9_doesWhole 1 = .ok (.tableswitch 473 0 14 #[75, 83, 99, 129, 150, 181, 212, 243, 274, 305, 336, 367, 398, 429, 451], 75) := by decide +kernel
theorem dX9_doesWhole_76 : decode cX9_doesWhole 76 = .ok (.aload_n 0, 1) := by decide +kernel
theorem dX9_doesWhole_77 : decode cX9_doesWhole 77 = .ok (.iconst 2, 1) := by decide +kernel
theorem dX9_doesWhole_78 : decode cX9_doesWhole 78 = .ok (.putfield 83, 3) := by decide +kernel
theorem dX9_doesWhole_81 : decode cX9_doesWhole 81 = .ok (.goto 428, 3) := by decide +kernel
theorem dX9_doesWhole_84 : decode cX9_doesWhole 84 = .ok (.aload_n 0, 1) := by decide +kernel
theorem dX9_doesWhole_85 : decode cX9_doesWhole 85 = .ok (.getfield 16, 3) := by decide +kernel
theorem dX9_doesWhole_88 : decode cX9_doesWhole 88 = .ok (.aload_n 0, 1) := by decide +kernel
theorem dX9_doesWhole_89 : decode cX9_doesWhole 89 = .ok (.getfield 142, 3) := by decide +kernel
theorem dX9_doesWhole_92 : decode cX9_doesWhole 92 = .ok (.aload_n 0, 1) := by decide +kernel
theorem dX9_doesWhole_93 : decode cX9_doesWhole 93 = .ok (.getfield 126, 3) := by decide +kernel
theorem dX9_doesWhole_96 : decode cX9_doesWhole 96 = .ok (.iastore, 1) := by decide +kernel
theorem dX9_doesWhole_97 : decode cX9_doesWhole 97 = .ok (.goto 412, 3) := by decide +kernel
theorem dX9_doesWhole_100 : decode cX9_doesWhole 100 = .ok (.aload_n 0, 1) := by decide +kernel
theorem dX9_doesWhole_101 : decode cX9_doesWhole 101 = .ok (.getfield 19, 3) := by decide +kernel
theorem dX9_doesWhole_104 : decode cX9_doesWhole 104 = .ok (.aload_n 0, 1) := by decide +kernel
theorem dX9_doesWhole_105 : decode cX9_doesWhole 105 = .ok (.getfield 142, 3) := by decide +kernel
theorem dX9_doesWhole_108 : decode cX9_doesWhole 108 = .ok (.aload_n 0, 1) := by decide +kernel
theorem dX9_doesWhole_109 : decode cX9_doesWhole 109 = .ok (.getfield 126, 3) := by decide +kernel
theorem dX9_doesWhole_112 : decode cX9_doesWhole 112 = .ok (.i2l, 1) := by decide +kernel
theorem dX9_doesWhole_113 : decode cX9_doesWhole 113 = .ok (.bipush 32, 2) := by decide +kernel
theorem dX9_doesWhole_115 : decode cX9_doesWhole 115 = .ok (.lshl, 1) := by decide +kernel
theorem dX9_doesWhole_116 : decode cX9_doesWhole 116 = .ok (.aload_n 0, 1) := by decide +kernel
theorem dX9_doesWhole_117 : decode cX9_doesWhole 117 = .ok (.getfield 123, 3) := by decide +kernel
theorem dX9_doesWhole_120 : decode cX9_doesWhole 120 = .ok (.i2l, 1) := by decide +kernel
theorem dX9_doesWhole_121 : decode cX9_doesWhole 121 = .ok (.ldc2_w 170, 3) := by decide +kernel
theorem dX9_doesWhole_124 : decode cX9_doesWhole 124 = .ok (.land, 1) := by decide +kernel
theorem dX9_doesWhole_125 : decode cX9_doesWhole 125 = .ok (.lor, 1) := by decide +kernel
theorem dX9_doesWhole_126 : decode cX9_doesWhole 126 = .ok (.lastore, 1) := by decide +kernel
theorem dX9_doesWhole_127 : decode cX9_doesWhole 127 = .ok (.goto 382, 3) := by decide +kernel
theorem dX9_doesWhole_130 : decode cX9_doesWhole 130 = .ok (.aload_n 0, 1) := by decide +kernel
theorem dX9_doesWhole_131 : decode cX9_doesWhole 131 = .ok (.getfield 16, 3) := by decide +kernel
theorem dX9_doesWhole_134 : decode cX9_doesWhole 134 = .ok (.aload_n 0, 1) := by decide +kernel
theorem dX9_doesWhole_135 : decode cX9_doesWhole 135 = .ok (.getfield 142, 3) := by decide +kernel
theorem dX9_doesWhole_138 : decode cX9_doesWhole 138 = .ok (.aload_n 0, 1) := by decide +kernel
theorem dX9_doesWhole_139 : decode cX9_doesWhole 139 = .ok (.getfield 16, 3) := by decide +kernel
theorem dX9_doesWhole_142 : decode cX9_doesWhole 142 = .ok (.aload_n 0, 1) := by decide +kernel
theorem dX9_doesWhole_143 : decode cX9_doesWhole 143 = .ok (.getfield 126, 3) := by decide +kernel
theorem dX9_doesWhole_146 : decode cX9_doesWhole 146 = .ok (.iaload, 1) := by decide +kernel
theorem dX9_doesWhole_147 : decode cX9_doesWhole 147 = .ok (.iastore, 1) := by decide +kernel
theorem dX9_doesWhole_148 : decode cX9_doesWhole 148 = .ok (.goto 361, 3) := by decide +kernel
theorem dX9_doesWhole_151 : decode cX9_doesWhole 151 = .ok (.aload_n 0, 1) := by decide +kernel
theorem dX9_doesWhole_152 : decode cX9_doesWhole 152 = .ok (.getfield 16, 3) := by decide +kernel
theorem dX9_doesWhole_155 : decode cX9_doesWhole 155 = .ok (.aload_n 0, 1) := by decide +kernel
theorem dX9_doesWhole_156 : decode cX9_doesWhole 156 = .ok (.getfield 142, 3) := by decide +kernel
theorem dX9_doesWhole_159 : decode cX9_doesWhole 159 = .ok (.aload_n 0, 1) := by decide +kernel
theorem dX9_doesWhole_160 : decode cX9_doesWhole 160 = .ok (.getfield 16, 3) := by decide +kernel
theorem dX9_doesWhole_163 : decode cX9_doesWhole 163 = .ok (.aload_n 0, 1) := by decide +kernel
theorem dX9_doesWhole_164 : decode cX9_doesWhole 164 = .ok (.getfield 126, 3) := by decide +kernel
theorem dX9_doesWhole_167 : decode cX9_doesWhole 167 = .ok (.iaload, 1) := by decide +kernel
theorem dX9_doesWhole_168 : decode cX9_doesWhole 168 = .ok (.aload_n 0, 1) := by decide +kernel
theorem dX9_doesWhole_169 : decode cX9_doesWhole 169 = .ok (.getfield 16, 3) := by decide +kernel
theorem dX9_doesWhole_172 : decode cX9_doesWhole 172 = .ok (.aload_n 0, 1) := by decide +kernel
theorem dX9_doesWhole_173 : decode cX9_doesWhole 173 = .ok (.getfield 123, 3) := by decide +kernel
theorem dX9_doesWhole_176 : decode cX9_doesWhole 176 = .ok (.iaload, 1) := by decide +kernel
theorem dX9_doesWhole_177 : decode cX9_doesWhole 177 = .ok (.iadd, 1) := by decide +kernel
theorem dX9_doesWhole_178 : decode cX9_doesWhole 178 = .ok (.iastore, 1) := by decide +kernel
theorem dX9_doesWhole_179 : decode cX9_doesWhole 179 = .ok (.goto 330, 3) := by decide +kernel
theorem dX9_doesWhole_182 : decode cX9_doesWhole 182 = .ok (.aload_n 0, 1) := by decide +kernel
theorem dX9_doesWhole_183 : decode cX9_doesWhole 183 = .ok (.getfield 16, 3) := by decide +kernel
theorem dX9_doesWhole_186 : decode cX9_doesWhole 186 = .ok (.aload_n 0, 1) := by decide +kernel
theorem dX9_doesWhole_187 : decode cX9_doesWhole 187 = .ok (.getfield 142, 3) := by decide +kernel
theorem dX9_doesWhole_190 : decode cX9_doesWhole 190 = .ok (.aload_n 0, 1) := by decide +kernel
theorem dX9_doesWhole_191 : decode cX9_doesWhole 191 = .ok (.getfield 16, 3) := by decide +kernel
theorem dX9_doesWhole_194 : decode cX9_doesWhole 194 = .ok (.aload_n 0, 1) := by decide +kernel
theorem dX9_doesWhole_195 : decode cX9_doesWhole 195 = .ok (.getfield 126, 3) := by decide +kernel
theorem dX9_doesWhole_198 : decode cX9_doesWhole 198 = .ok (.iaload, 1) := by decide +kernel
theorem dX9_doesWhole_199 : decode cX9_doesWhole 199 = .ok (.aload_n 0, 1) := by decide +kernel
theorem dX9_doesWhole_200 : decode cX9_doesWhole 200 = .ok (.getfield 16, 3) := by decide +kernel
theorem dX9_doesWhole_203 : decode cX9_doesWhole 203 = .ok (.aload_n 0, 1) := by decide +kernel
theorem dX9_doesWhole_204 : decode cX9_doesWhole 204 = .ok (.getfield 123, 3) := by decide +kernel
theorem dX9_doesWhole_207 : decode cX9_doesWhole 207 = .ok (.iaload, 1) := by decide +kernel
theorem dX9_doesWhole_208 : decode cX9_doesWhole 208 = .ok (.isub, 1) := by decide +kernel
theorem dX9_doesWhole_209 : decode cX9_doesWhole 209 = .ok (.iastore, 1) := by decide +kernel
theorem dX9_doesWhole_210 : decode cX9_doesWhole 210 = .ok (.goto 299, 3) := by decide +kernel
theorem dX9_doesWhole_213 : decode cX9_doesWhole 213 = .ok (.aload_n 0, 1) := by decide +kernel
theorem dX9_doesWhole_214 : decode cX9_doesWhole 214 = .ok (.getfield 16, 3) := by decide +kernel
theorem dX9_doesWhole_217 : decode cX9_doesWhole 217 = .ok (.aload_n 0, 1) := by decide +kernel
theorem dX9_doesWhole_218 : decode cX9_doesWhole 218 = .ok (.getfield 142, 3) := by decide +kernel
theorem dX9_doesWhole_221 : decode cX9_doesWhole 221 = .ok (.aload_n 0, 1) := by decide +kernel
theorem dX9_doesWhole_222 : decode cX9_doesWhole 222 = .ok (.getfield 16, 3) := by decide +kernel
theorem dX9_doesWhole_225 : decode cX9_doesWhole 225 = .ok (.aload_n 0, 1) := by decide +kernel
theorem dX9_doesWhole_226 : decode cX9_doesWhole 226 = .ok (.getfield 126, 3) := by decide +kernel
theorem dX9_doesWhole_229 : decode cX9_doesWhole 229 = .ok (.iaload, 1) := by decide +kernel
theorem dX9_doesWhole_230 : decode cX9_doesWhole 230 = .ok (.aload_n 0, 1) := by decide +kernel
theorem dX9_doesWhole_231 : decode cX9_doesWhole 231 = .ok (.getfield 16, 3) := by decide +kernel
theorem dX9_doesWhole_234 : decode cX9_doesWhole 234 = .ok (.aload_n 0, 1) := by decide +kernel
theorem dX9_doesWhole_235 : decode cX9_doesWhole 235 = .ok (.getfield 123, 3) := by decide +kernel
theorem dX9_doesWhole_238 : decode cX9_doesWhole 238 = .ok (.iaload, 1) := by decide +kernel
theorem dX9_doesWhole_239 : decode cX9_doesWhole 239 = .ok (.imul, 1) := by decide +kernel
theorem dX9_doesWhole_240 : decode cX9_doesWhole 240 = .ok (.iastore, 1) := by decide +kernel
theorem dX9_doesWhole_241 : decode cX9_doesWhole 241 = .ok (.goto 268, 3) := by decide +kernel
theorem dX9_doesWhole_244 : decode cX9_doesWhole 244 = .ok (.aload_n 0, 1) := by decide +kernel
theorem dX9_doesWhole_245 : decode cX9_doesWhole 245 = .ok (.getfield 16, 3) := by decide +kernel
theorem dX9_doesWhole_248 : decode cX9_doesWhole 248 = .ok (.aload_n 0, 1) := by decide +kernel
theorem dX9_doesWhole_249 : decode cX9_doesWhole 249 = .ok (.getfield 142, 3) := by decide +kernel
theorem dX9_doesWhole_252 : decode cX9_doesWhole 252 = .ok (.aload_n 0, 1) := by decide +kernel
theorem dX9_doesWhole_253 : decode cX9_doesWhole 253 = .ok (.getfield 16, 3) := by decide +kernel
theorem dX9_doesWhole_256 : decode cX9_doesWhole 256 = .ok (.aload_n 0, 1) := by decide +kernel
theorem dX9_doesWhole_257 : decode cX9_doesWhole 257 = .ok (.getfield 126, 3) := by decide +kernel
theorem dX9_doesWhole_260 : decode cX9_doesWhole 260 = .ok (.iaload, 1) := by decide +kernel
theorem dX9_doesWhole_261 : decode cX9_doesWhole 261 = .ok (.aload_n 0, 1) := by decide +kernel
theorem dX9_doesWhole_262 : decode cX9_doesWhole 262 = .ok (.getfield 16, 3) := by decide +kernel
theorem dX9_doesWhole_265 : decode cX9_doesWhole 265 = .ok (.aload_n 0, 1) := by decide +kernel
theorem dX9_doesWhole_266 : decode cX9_doesWhole 266 = .ok (.getfield 123, 3) := by decide +kernel
theorem dX9_doesWhole_269 : decode cX9_doesWhole 269 = .ok (.iaload, 1) := by decide +kernel
theorem dX9_doesWhole_270 : decode cX9_doesWhole 270 = .ok (.idiv, 1) := by decide +kernel
theorem dX9_doesWhole_271 : decode cX9_doesWhole 271 = .ok (.iastore, 1) := by decide +kernel
theorem dX9_doesWhole_272 : decode cX9_doesWhole 272 = .ok (.goto 237, 3) := by decide +kernel
theorem dX9_doesWhole_275 : decode cX9_doesWhole 275 = .ok (.aload_n 0, 1) := by decide +kernel
theorem dX9_doesWhole_276 : decode cX9_doesWhole 276 = .ok (.getfield 16, 3) := by decide +kernel
theorem dX9_doesWhole_279 : decode cX9_doesWhole 279 = .ok (.aload_n 0, 1) := by decide +kernel
theorem dX9_doesWhole_280 : decode cX9_doesWhole 280 = .ok (.getfield 142, 3) := by decide +kernel
theorem dX9_doesWhole_283 : decode cX9_doesWhole 283 = .ok (.aload_n 0, 1) := by decide +kernel
theorem dX9_doesWhole_284 : decode cX9_doesWhole 284 = .ok (.getfield 16, 3) := by decide +kernel
theorem dX9_doesWhole_287 : decode cX9_doesWhole 287 = .ok (.aload_n 0, 1) := by decide +kernel
theorem dX9_doesWhole_288 : decode cX9_doesWhole 288 = .ok (.getfield 126, 3) := by decide +kernel
theorem dX9_doesWhole_291 : decode cX9_doesWhole 291 = .ok (.iaload, 1) := by decide +kernel
theorem dX9_doesWhole_292 : decode cX9_doesWhole 292 = .ok (.aload_n 0, 1) := by decide +kernel
theorem dX9_doesWhole_293 : decode cX9_doesWhole 293 = .ok (.getfield 16, 3) := by decide +kernel
theorem dX9_doesWhole_296 : decode cX9_doesWhole 296 = .ok (.aload_n 0, 1) := by decide +kernel
theorem dX9_doesWhole_297 : decode cX9_doesWhole 297 = .ok (.getfield 123, 3) := by decide +kernel
theorem dX9_doesWhole_300 : decode cX9_doesWhole 300 = .ok (.iaload, 1) := by decide +kernel
theorem dX9_doesWhole_301 : decode cX9_doesWhole 301 = .ok (.irem, 1) := by decide +kernel
theorem dX9_doesWhole_302 : decode cX9_doesWhole 302 = .ok (.iastore, 1) := by decide +kernel
theorem dX9_doesWhole_303 : decode cX9_doesWhole 303 = .ok (.goto 206, 3) := by decide +kernel
theorem dX9_doesWhole_306 : decode cX9_doesWhole 306 = .ok (.aload_n 0, 1) := by decide +kernel
theorem dX9_doesWhole_307 : decode cX9_doesWhole 307 = .ok (.getfield 19, 3) := by decide +kernel
theorem dX9_doesWhole_310 : decode cX9_doesWhole 310 = .ok (.aload_n 0, 1) := by decide +kernel
theorem dX9_doesWhole_311 : decode cX9_doesWhole 311 = .ok (.getfield 142, 3) := by decide +kernel
theorem dX9_doesWhole_314 : decode cX9_doesWhole 314 = .ok (.aload_n 0, 1) := by decide +kernel
theorem dX9_doesWhole_315 : decode cX9_doesWhole 315 = .ok (.getfield 19, 3) := by decide +kernel
theorem dX9_doesWhole_318 : decode cX9_doesWhole 318 = .ok (.aload_n 0, 1) := by decide +kernel
theorem dX9_doesWhole_319 : decode cX9_doesWhole 319 = .ok (.getfield 126, 3) := by decide +kernel
theorem dX9_doesWhole_322 : decode cX9_doesWhole 322 = .ok (.laload, 1) := by decide +kernel
theorem dX9_doesWhole_323 : decode cX9_doesWhole 323 = .ok (.aload_n 0, 1) := by decide +kernel
theorem dX9_doesWhole_324 : decode cX9_doesWhole 324 = .ok (.getfield 19, 3) := by decide +kernel
theorem dX9_doesWhole_327 : decode cX9_doesWhole 327 = .ok (.aload_n 0, 1) := by decide +kernel
theorem dX9_doesWhole_328 : decode cX9_doesWhole 328 = .ok (.getfield 123, 3) := by decide +kernel
theorem dX9_doesWhole_331 : decode cX9_doesWhole 331 = .ok (.laload, 1) := by decide +kernel
theorem dX9_doesWhole_332 : decode cX9_doesWhole 332 = .ok (.ladd, 1) := by decide +kernel
theorem dX9_doesWhole_333 : decode cX9_doesWhole 333 = .ok (.lastore, 1) := by decide +kernel
theorem dX9_doesWhole_334 : decode cX9_doesWhole 334 = .ok (.goto 175, 3) := by decide +kernel
theorem dX9_doesWhole_337 : decode cX9_doesWhole 337 = .ok (.aload_n 0, 1) := by decide +kernel
theorem dX9_doesWhole_338 : decode cX9_doesWhole 338 = .ok (.getfield 19, 3) := by decide +kernel
theorem dX9_doesWhole_341 : decode cX9_doesWhole 341 = .ok (.aload_n 0, 1) := by decide +kernel
theorem dX9_doesWhole_342 : decode cX9_doesWhole 342 = .ok (.getfield 142, 3) := by decide +kernel
theorem dX9_doesWhole_345 : decode cX9_doesWhole 345 = .ok (.aload_n 0, 1) := by decide +kernel
theorem dX9_doesWhole_346 : decode cX9_doesWhole 346 = .ok (.getfield 19, 3) := by decide +kernel
theorem dX9_doesWhole_349 : decode cX9_doesWhole 349 = .ok (.aload_n 0, 1) := by decide +kernel
theorem dX9_doesWhole_350 : decode cX9_doesWhole 350 = .ok (.getfield 126, 3) := by decide +kernel
theorem dX9_doesWhole_353 : decode cX9_doesWhole 353 = .ok (.laload, 1) := by decide +kernel
theorem dX9_doesWhole_354 : decode cX9_doesWhole 354 = .ok (.aload_n 0, 1) := by decide +kernel
theorem dX9_doesWhole_355 : decode cX9_doesWhole 355 = .ok (.getfield 19, 3) := by decide +kernel
theorem dX9_doesWhole_358 : decode cX9_doesWhole 358 = .ok (.aload_n 0, 1) := by decide +kernel
theorem dX9_doesWhole_359 : decode cX9_doesWhole 359 = .ok (.getfield 123, 3) := by decide +kernel
theorem dX9_doesWhole_362 : decode cX9_doesWhole 362 = .ok (.laload, 1) := by decide +kernel
theorem dX9_doesWhole_363 : decode cX9_doesWhole 363 = .ok (.lmul, 1) := by decide +kernel
theorem dX9_doesWhole_364 : decode cX9_doesWhole 364 = .ok (.lastore, 1) := by decide +kernel
theorem dX9_doesWhole_365 : decode cX9_doesWhole 365 = .ok (.goto 144, 3) := by decide +kernel
theorem dX9_doesWhole_368 : decode cX9_doesWhole 368 = .ok (.aload_n 0, 1) := by decide +kernel
theorem dX9_doesWhole_369 : decode cX9_doesWhole 369 = .ok (.getfield 19, 3) := by decide +kernel
theorem dX9_doesWhole_372 : decode cX9_doesWhole 372 = .ok (.aload_n 0, 1) := by decide +kernel
theorem dX9_doesWhole_373 : decode cX9_doesWhole 373 = .ok (.getfield 142, 3) := by decide +kernel
theorem dX9_doesWhole_376 : decode cX9_doesWhole 376 = .ok (.aload_n 0, 1) := by decide +kernel
theorem dX9_doesWhole_377 : decode cX9_doesWhole 377 = .ok (.getfield 19, 3) := by decide +kernel
theorem dX9_doesWhole_380 : decode cX9_doesWhole 380 = .ok (.aload_n 0, 1) := by decide +kernel
theorem dX9_doesWhole_381 : decode cX9_doesWhole 381 = .ok (.getfield 126, 3) := by decide +kernel
theorem dX9_doesWhole_384 : decode cX9_doesWhole 384 = .ok (.laload, 1) := by decide +kernel
theorem dX9_doesWhole_385 : decode cX9_doesWhole 385 = .ok (.aload_n 0, 1) := by decide +kernel
theorem dX9_doesWhole_386 : decode cX9_doesWhole 386 = .ok (.getfield 19, 3) := by decide +kernel
theorem dX9_doesWhole_389 : decode cX9_doesWhole 389 = .ok (.aload_n 0, 1) := by decide +kernel
theorem dX9_doesWhole_390 : decode cX9_doesWhole 390 = .ok (.getfield 123, 3) := by decide +kernel
theorem dX9_doesWhole_393 : decode cX9_doesWhole 393 = .ok (.laload, 1) := by decide +kernel
theorem dX9_doesWhole_394 : decode cX9_doesWhole 394 = .ok (.ldiv, 1) := by decide +kernel
theorem dX9_doesWhole_395 : decode cX9_doesWhole 395 = .ok (.lastore, 1) := by decide +kernel
theorem dX9_doesWhole_396 : decode cX9_doesWhole 396 = .ok (.goto 113, 3) := by decide +kernel
theorem dX9_doesWhole_399 : decode cX9_doesWhole 399 = .ok (.aload_n 0, 1) := by decide +kernel
theorem dX9_doesWhole_400 : decode cX9_doesWhole 400 = .ok (.getfield 19, 3) := by decide +kernel
theorem dX9_doesWhole_403 : decode cX9_doesWhole 403 = .ok (.aload_n 0, 1) := by decide +kernel
theorem dX9_doesWhole_404 : decode cX9_doesWhole 404 = .ok (.getfield 142, 3) := by decide +kernel
theorem dX9_doesWhole_407 : decode cX9_doesWhole 407 = .ok (.aload_n 0, 1) := by decide +kernel
theorem dX9_doesWhole_408 : decode cX9_doesWhole 408 = .ok (.getfield 19, 3) := by decide +kernel
theorem dX9_doesWhole_411 : decode cX9_doesWhole 411 = .ok (.aload_n 0, 1) := by decide +kernel
theorem dX9_doesWhole_412 : decode cX9_doesWhole 412 = .ok (.getfield 126, 3) := by decide +kernel
theorem dX9_doesWhole_415 : decode cX9_doesWhole 415 = .ok (.laload, 1) := by decide +kernel
theorem dX9_doesWhole_416 : decode cX9_doesWhole 416 = .ok (.aload_n 0, 1) := by decide +kernel
theorem dX9_doesWhole_417 : decode cX9_doesWhole 417 = .ok (.getfield 19, 3) := by decide +kernel
theorem dX9_doesWhole_420 : decode cX9_doesWhole 420 = .ok (.aload_n 0, 1) := by decide +kernel
theorem dX9_doesWhole_421 : decode cX9_doesWhole 421 = .ok (.getfield 123, 3) := by decide +kernel
theorem dX9_doesWhole_424 : decode cX9_doesWhole 424 = .ok (.laload, 1) := by decide +kernel
theorem dX9_doesWhole_425 : decode cX9_doesWhole 425 = .ok (.lrem, 1) := by decide +kernel
theorem dX9_doesWhole_426 : decode cX9_doesWhole 426 = .ok (.lastore, 1) := by decide +kernel
theorem dX9_doesWhole_427 : decode cX9_doesWhole 427 = .ok (.goto 82, 3) := by decide +kernel
theorem dX9_doesWhole_430 : decode cX9_doesWhole 430 = .ok (.aload_n 0, 1) := by decide +kernel
theorem dX9_doesWhole_431 : decode cX9_doesWhole 431 = .ok (.getfield 19, 3) := by decide +kernel
theorem dX9_doesWhole_434 : decode cX9_doesWhole 434 = .ok (.aload_n 0, 1) := by decide +kernel
theorem dX9_doesWhole_435 : decode cX9_doesWhole 435 = .ok (.getfield 142, 3) := by decide +kernel
theorem dX9_doesWhole_438 : decode cX9_doesWhole 438 = .ok (.aload_n 0, 1) := by decide +kernel
theorem dX9_doesWhole_439 : decode cX9_doesWhole 439 = .ok (.getfield 16, 3) := by decide +kernel
theorem dX9_doesWhole_442 : decode cX9_doesWhole 442 = .ok (.aload_n 0, 1) := by decide +kernel
theorem dX9_doesWhole_443 : decode cX9_doesWhole 443 = .ok (.getfield 126, 3) := by decide +kernel
theorem dX9_doesWhole_446 : decode cX9_doesWhole 446 = .ok (.iaload, 1) := by decide +kernel
theorem dX9_doesWhole_447 : decode cX9_doesWhole 447 = .ok (.i2l, 1) := by decide +kernel
theorem dX9_doesWhole_448 : decode cX9_doesWhole 448 = .ok (.lastore, 1) := by decide +kernel
theorem dX9_doesWhole_449 : decode cX9_doesWhole 449 = .ok (.goto 60, 3) := by decide +kernel
theorem dX9_doesWhole_452 : decode cX9_doesWhole 452 = .ok (.aload_n 0, 1) := by decide +kernel
theorem dX9_doesWhole_453 : decode cX9_doesWhole 453 = .ok (.getfield 16, 3) := by decide +kernel
theorem dX9_doesWhole_456 : decode cX9_doesWhole 456 = .ok (.aload_n 0, 1) := by decide +kernel
theorem dX9_doesWhole_457 : decode cX9_doesWhole 457 = .ok (.getfield 142, 3) := by decide +kernel
theorem dX9_doesWhole_460 : decode cX9_doesWhole 460 = .ok (.aload_n 0, 1) := by decide +kernel
theorem dX9_doesWhole_461 : decode cX9_doesWhole 461 = .ok (.getfield 19, 3) := by decide +kernel
theorem dX9_doesWhole_464 : decode cX9_doesWhole 464 = .ok (.aload_n 0, 1) := by decide +kernel
theorem dX9_doesWhole_465 : decode cX9_doesWhole 465 = .ok (.getfield 126, 3) := by decide +kernel
theorem dX9_doesWhole_468 : decode cX9_doesWhole 468 = .ok (.laload, 1) := by decide +kernel
theorem dX9_doesWhole_469 : decode cX9_doesWhole 469 = .ok (.l2i, 1) := by decide +kernel
theorem dX9_doesWhole_470 : decode cX9_doesWhole 470 = .ok (.iastore, 1) := by decide +kernel
theorem dX9_doesWhole_471 : decode cX9_doesWhole 471 = .ok (.goto 38, 3) := by decide +kernel
theorem dX9_doesWhole_474 : decode cX9_doesWhole 474 = .ok (.aload_n 0, 1) := by decide +kernel
theorem dX9_doesWhole_475 : decode cX9_doesWhole 475 = .ok (.getfield 16, 3) := by decide +kernel
theorem dX9_doesWhole_478 : decode cX9_doesWhole 478 = .ok (.aload_n 0, 1) := by decide +kernel
theorem dX9_doesWhole_479 : decode cX9_doesWhole 479 = .ok (.getfield 142, 3) := by decide +kernel
theorem dX9_doesWhole_482 : decode cX9_doesWhole 482 = .ok (.aload_n 0, 1) := by decide +kernel
theorem dX9_doesWhole_483 : decode cX9_doesWhole 483 = .ok (.getfield 16, 3) := by decide +kernel
theorem dX9_doesWhole_486 : decode cX9_doesWhole 486 = .ok (.aload_n 0, 1) := by decide +kernel
theorem dX9_doesWhole_487 : decode cX9_doesWhole 487 = .ok (.getfield 126, 3) := by decide +kernel
theorem dX9_doesWhole_490 : decode cX9_doesWhole 490 = .ok (.iaload, 1) := by decide +kernel
theorem dX9_doesWhole_491 : decode cX9_doesWhole 491 = .ok (.aload_n 0, 1) := by decide +kernel
theorem dX9_doesWhole_492 : decode cX9_doesWhole 492 = .ok (.getfield 16, 3) := by decide +kernel
theorem dX9_doesWhole_495 : decode cX9_doesWhole 495 = .ok (.aload_n 0, 1) := by decide +kernel
theorem dX9_doesWhole_496 : decode cX9_doesWhole 496 = .ok (.getfield 123, 3) := by decide +kernel
theorem dX9_doesWhole_499 : decode cX9_doesWhole 499 = .ok (.iaload, 1) := by decide +kernel
theorem dX9_doesWhole_500 : decode cX9_doesWhole 500 = .ok (.if_icmp .ge 7, 3) := by decide +kernel
theorem dX9_doesWhole_503 : decode cX9_doesWhole 503 = .ok (.iconst 1, 1) := by decide +kernel
theorem dX9_doesWhole_504 : decode cX9_doesWhole 504 = .ok (.goto 4, 3) := by decide +kernel
theorem dX9_doesWhole_507 : decode cX9_doesWhole 507 = .ok (.iconst 0, 1) := by decide +kernel
theorem dX9_doesWhole_508 : decode cX9_doesWhole 508 = .ok (.iastore, 1) := by decide +kernel
theorem dX9_doesWhole_509 : decode cX9_doesWhole 509 = .ok (.return_, 1) := by decide +kernel
theorem dX9_doesPoint_0 : decode cX9_doesPoint 0 = .ok (.iload_n 1, 1) := by decide +kernel
theorem dX9_doesPoint_1 : decode cX9_doesPoint 1 = .ok (.tableswitch 297 15 24 #[55, 77, 99, 121, 143, 165, 187, 210, 235, 266], 55) := by decide +kernel
theorem dX9_doesPoint_56 : decode cX9_doesPoint 56 = .ok (.aload_n 0, 1) := by decide +kernel
theorem dX9_doesPoint_57 : decode cX9_doesPoint 57 = .ok (.getfield 23, 3) := by decide +kernel
theorem dX9_doesPoint_60 : decode cX9_doesPoint 60 = .ok (.aload_n 0, 1) := by decide +kernel
theorem dX9_doesPoint_61 : decode cX9_doesPoint 61 = .ok (.getfield 142, 3) := by decide +kernel
theorem dX9_doesPoint_64 : decode cX9_doesPoint 64 = .ok (.aload_n 0, 1) := by decide +kernel
theorem dX9_doesPoint_65 : decode cX9_doesPoint 65 = .ok (.getfield 19, 3) := by decide +kernel
theorem dX9_doesPoint_68 : decode cX9_doesPoint 68 = .ok (.aload_n 0, 1) := by decide +kernel
theorem dX9_doesPoint_69 : decode cX9_doesPoint 69 = .ok (.getfield 126, 3) := by decide +kernel
theorem dX9_doesPoint_72 : decode cX9_doesPoint 72 = .ok (.laload, 1) := by decide +kernel
theorem dX9_doesPoint_73 : decode cX9_doesPoint 73 = .ok (.l2f, 1) := by decide +kernel
theorem dX9_doesPoint_74 : decode cX9_doesPoint 74 = .ok (.fastore, 1) := by decide +kernel
theorem dX9_doesPoint_75 : decode cX9_doesPoint 75 = .ok (.goto 259, 3) := by decide +kernel
theorem dX9_doesPoint_78 : decode cX9_doesPoint 78 = .ok (.aload_n 0, 1) := by decide +kernel
theorem dX9_doesPoint_79 : decode cX9_doesPoint 79 = .ok (.getfield 27, 3) := by decide +kernel
theorem dX9_doesPoint_82 : decode cX9_doesPoint 82 = .ok (.aload_n 0, 1) := by decide +kernel
theorem dX9_doesPoint_83 : decode cX9_doesPoint 83 = .ok (.getfield 142, 3) := by decide +kernel
theorem dX9_doesPoint_86 : decode cX9_doesPoint 86 = .ok (.aload_n 0, 1) := by decide +kernel
theorem dX9_doesPoint_87 : decode cX9_doesPoint 87 = .ok (.getfield 19, 3) := by decide +kernel
theorem dX9_doesPoint_90 : decode cX9_doesPoint 90 = .ok (.aload_n 0, 1) := by decide +kernel
theorem dX9_doesPoint_91 : decode cX9_doesPoint 91 = .ok (.getfield 126, 3) := by decide +kernel
theorem dX9_doesPoint_94 : decode cX9_doesPoint 94 = .ok (.laload, 1) := by decide +kernel
theorem dX9_doesPoint_95 : decode cX9_doesPoint 95 = .ok (.l2d, 1) := by decide +kernel
theorem dX9_doesPoint_96 : decode cX9_doesPoint 96 = .ok (.dastore, 1) := by decide +kernel
theorem dX9_doesPoint_97 : decode cX9_doesPoint 97 = .ok (.goto 237, 3) := by decide +kernel
theorem dX9_doesPoint_100 : decode cX9_doesPoint 100 = .ok (.aload_n 0, 1) := by decide +kernel
theorem dX9_doesPoint_101 : decode cX9_doesPoint 101 = .ok (.getfield 19, 3) := by decide +kernel
theorem dX9_doesPoint_104 : decode cX9_doesPoint 104 = .ok (.aload_n 0, 1) := by decide +kernel
theorem dX9_doesPoint_105 : decode cX9_doesPoint 105 = .ok (.getfield 142, 3) := by decide +kernel
theorem dX9_doesPoint_108 : decode cX9_doesPoint 108 = .ok (.aload_n 0, 1) := by decide +kernel
theorem dX9_doesPoint_109 : decode cX9_doesPoint 109 = .ok (.getfield 23, 3) := by decide +kernel
theorem dX9_doesPoint_112 : decode cX9_doesPoint 112 = .ok (.aload_n 0, 1) := by decide +kernel
theorem dX9_doesPoint_113 : decode cX9_doesPoint 113 = .ok (.getfield 126, 3) := by decide +kernel
theorem dX9_doesPoint_116 : decode cX9_doesPoint 116 = .ok (.faload, 1) := by decide +kernel
theorem dX9_doesPoint_117 : decode cX9_doesPoint 117 = .ok (.f2l, 1) := by decide +kernel
theorem dX9_doesPoint_118 : decode cX9_doesPoint 118 = .ok (.lastore, 1) := by decide +kernel
theorem dX9_doesPoint_119 : decode cX9_doesPoint 119 = .ok (.goto 215, 3) := by decide +kernel
theorem dX9_doesPoint_122 : decode cX9_doesPoint 122 = .ok (.aload_n 0, 1) := by decide +kernel
theorem dX9_doesPoint_123 : decode cX9_doesPoint 123 = .ok (.getfield 16, 3) := by decide +kernel
theorem dX9_doesPoint_126 : decode cX9_doesPoint 126 = .ok (.aload_n 0, 1) := by decide +kernel
theorem dX9_doesPoint_127 : decode cX9_doesPoint 127 = .ok (.getfield 142, 3) := by decide +kernel
theorem dX9_doesPoint_130 : decode cX9_doesPoint 130 = .ok (.aload_n 0, 1) := by decide +kernel
theorem dX9_doesPoint_131 : decode cX9_doesPoint 131 = .ok (.getfield 27, 3) := by decide +kernel
theorem dX9_doesPoint_134 : decode cX9_doesPoint 134 = .ok (.aload_n 0, 1) := by decide +kernel
theorem dX9_doesPoint_135 : decode cX9_doesPoint 135 = .ok (.getfield 126, 3) := by decide +kernel
theorem dX9_doesPoint_138 : decode cX9_doesPoint 138 = .ok (.daload, 1) := by decide +kernel
theorem dX9_doesPoint_139 : decode cX9_doesPoint 139 = .ok (.d2i, 1) := by decide +kernel
theorem dX9_doesPoint_140 : decode cX9_doesPoint 140 = .ok (.iastore, 1) := by decide +kernel
theorem dX9_doesPoint_141 : decode cX9_doesPoint 141 = .ok (.goto 193, 3) := by decide +kernel
theorem dX9_doesPoint_144 : decode cX9_doesPoint 144 = .ok (.aload_n 0, 1) := by decide +kernel
theorem dX9_doesPoint_145 : decode cX9_doesPoint 145 = .ok (.getfield 27, 3) := by decide +kernel
theorem dX9_doesPoint_148 : decode cX9_doesPoint 148 = .ok (.aload_n 0, 1) := by decide +kernel
theorem dX9_doesPoint_149 : decode cX9_doesPoint 149 = .ok (.getfield 142, 3) := by decide +kernel
theorem dX9_doesPoint_152 : decode cX9_doesPoint 152 = .ok (.aload_n 0, 1) := by decide +kernel
theorem dX9_doesPoint_153 : decode cX9_doesPoint 153 = .ok (.getfield 23, 3) := by decide +kernel
theorem dX9_doesPoint_156 : decode cX9_doesPoint 156 = .ok (.aload_n 0, 1) := by decide +kernel
theorem dX9_doesPoint_157 : decode cX9_doesPoint 157 = .ok (.getfield 126, 3) := by decide +kernel
theorem dX9_doesPoint_160 : decode cX9_doesPoint 160 = .ok (.faload, 1) := by decide +kernel
theorem dX9_doesPoint_161 : decode cX9_doesPoint 161 = .ok (.f2d, 1) := by decide +kernel
theorem dX9_doesPoint_162 : decode cX9_doesPoint 162 = .ok (.dastore, 1) := by decide +kernel
theorem dX9_doesPoint_163 : decode cX9_doesPoint 163 = .ok (.goto 171, 3) := by decide +kernel
theorem dX9_doesPoint_166 : decode cX9_doesPoint 166 = .ok (.aload_n 0, 1) := by decide +kernel
theorem dX9_doesPoint_167 : decode cX9_doesPoint 167 = .ok (.getfield 23, 3) := by decide +kernel
theorem dX9_doesPoint_170 : decode cX9_doesPoint 170 = .ok (.aload_n 0, 1) := by decide +kernel
theorem dX9_doesPoint_171 : decode cX9_doesPoint 171 = .ok (.getfield 142, 3) := by decide +kernel
theorem dX9_doesPoint_174 : decode cX9_doesPoint 174 = .ok (.aload_n 0, 1) := by decide +kernel
theorem dX9_doesPoint_175 : decode cX9_doesPoint 175 = .ok (.getfield 27, 3) := by decide +kernel
theorem dX9_doesPoint_178 : decode cX9_doesPoint 178 = .ok (.aload_n 0, 1) := by decide +kernel
theorem dX9_doesPoint_179 : decode cX9_doesPoint 179 = .ok (.getfield 126, 3) := by decide +kernel
theorem dX9_doesPoint_182 : decode cX9_doesPoint 182 = .ok (.daload, 1) := by decide +kernel
theorem dX9_doesPoint_183 : decode cX9_doesPoint 183 = .ok (.d2f, 1) := by decide +kernel
theorem dX9_doesPoint_184 : decode cX9_doesPoint 184 = .ok (.fastore, 1) := by decide +kernel
theorem dX9_doesPoint_185 : decode cX9_doesPoint 185 = .ok (.goto 149, 3) := by decide +kernel
theorem dX9_doesPoint_188 : decode cX9_doesPoint 188 = .ok (.aload_n 0, 1) := by decide +kernel
theorem dX9_doesPoint_189 : decode cX9_doesPoint 189 = .ok (.getfield 23, 3) := by decide +kernel
theorem dX9_doesPoint_192 : decode cX9_doesPoint 192 = .ok (.aload_n 0, 1) := by decide +kernel
theorem dX9_doesPoint_193 : decode cX9_doesPoint 193 = .ok (.getfield 142, 3) := by decide +kernel
theorem dX9_doesPoint_196 : decode cX9_doesPoint 196 = .ok (.aload_n 0, 1) := by decide +kernel
theorem dX9_doesPoint_197 : decode cX9_doesPoint 197 = .ok (.getfield 23, 3) := by decide +kernel
theorem dX9_doesPoint_200 : decode cX9_doesPoint 200 = .ok (.aload_n 0, 1) := by decide +kernel
theorem dX9_doesPoint_201 : decode cX9_doesPoint 201 = .ok (.getfield 126, 3) := by decide +kernel
theorem dX9_doesPoint_204 : decode cX9_doesPoint 204 = .ok (.faload, 1) := by decide +kernel
theorem dX9_doesPoint_205 : decode cX9_doesPoint 205 = .ok (.fconst 2, 1) := by decide +kernel
theorem dX9_doesPoint_206 : decode cX9_doesPoint 206 = .ok (.fdiv, 1) := by decide +kernel
theorem dX9_doesPoint_207 : decode cX9_doesPoint 207 = .ok (.fastore, 1) := by decide +kernel
theorem dX9_doesPoint_208 : decode cX9_doesPoint 208 = .ok (.goto 126, 3) := by decide +kernel
theorem dX9_doesPoint_211 : decode cX9_doesPoint 211 = .ok (.aload_n 0, 1) := by decide +kernel
theorem dX9_doesPoint_212 : decode cX9_doesPoint 212 = .ok (.getfield 27, 3) := by decide +kernel
theorem dX9_doesPoint_215 : decode cX9_doesPoint 215 = .ok (.aload_n 0, 1) := by decide +kernel
theorem dX9_doesPoint_216 : decode cX9_doesPoint 216 = .ok (.getfield 142, 3) := by decide +kernel
theorem dX9_doesPoint_219 : decode cX9_doesPoint 219 = .ok (.aload_n 0, 1) := by decide +kernel
theorem dX9_doesPoint_220 : decode cX9_doesPoint 220 = .ok (.getfield 27, 3) := by decide +kernel
theorem dX9_doesPoint_223 : decode cX9_doesPoint 223 = .ok (.aload_n 0, 1) := by decide +kernel
theorem dX9_doesPoint_224 : decode cX9_doesPoint 224 = .ok (.getfield 126, 3) := by decide +kernel
theorem dX9_doesPoint_227 : decode cX9_doesPoint 227 = .ok (.daload, 1) := by decide +kernel
theorem dX9_doesPoint_228 : decode cX9_doesPoint 228 = .ok (.ldc2_w 172, 3) := by decide +kernel
theorem dX9_doesPoint_231 : decode cX9_doesPoint 231 = .ok (.ddiv, 1) := by decide +kernel
theorem dX9_doesPoint_232 : decode cX9_doesPoint 232 = .ok (.dastore, 1) := by decide +kernel
theorem dX9_doesPoint_233 : decode cX9_doesPoint 233 = .ok (.goto 101, 3) := by decide +kernel
theorem dX9_doesPoint_236 : decode cX9_doesPoint 236 = .ok (.aload_n 0, 1) := by decide +kernel
theorem dX9_doesPoint_237 : decode cX9_doesPoint 237 = .ok (.getfield 23, 3) := by decide +kernel
theorem dX9_doesPoint_240 : decode cX9_doesPoint 240 = .ok (.aload_n 0, 1) := by decide +kernel
theorem dX9_doesPoint_241 : decode cX9_doesPoint 241 = .ok (.getfield 142, 3) := by decide +kernel
theorem dX9_doesPoint_244 : decode cX9_doesPoint 244 = .ok (.aload_n 0, 1) := by decide +kernel
theorem dX9_doesPoint_245 : decode cX9_doesPoint 245 = .ok (.getfield 23, 3) := by decide +kernel
theorem dX9_doesPoint_248 : decode cX9_doesPoint 248 = .ok (.aload_n 0, 1) := by decide +kernel
theorem dX9_doesPoint_249 : decode cX9_doesPoint 249 = .ok (.getfield 126, 3) := by decide +kernel
theorem dX9_doesPoint_252 : decode cX9_doesPoint 252 = .ok (.faload, 1) := by decide +kernel
theorem dX9_doesPoint_253 : decode cX9_doesPoint 253 = .ok (.aload_n 0, 1) := by decide +kernel
theorem dX9_doesPoint_254 : decode cX9_doesPoint 254 = .ok (.getfield 23, 3) := by decide +kernel
theorem dX9_doesPoint_257 : decode cX9_doesPoint 257 = .ok (.aload_n 0, 1) := by decide +kernel
theorem dX9_doesPoint_258 : decode cX9_doesPoint 258 = .ok (.getfield 123, 3) := by decide +kernel
theorem dX9_doesPoint_261 : decode cX9_doesPoint 261 = .ok (.faload, 1) := by decide +kernel
theorem dX9_doesPoint_262 : decode cX9_doesPoint 262 = .ok (.frem, 1) := by decide +kernel
theorem dX9_doesPoint_263 : decode cX9_doesPoint 263 = .ok (.fastore, 1) := by decide +kernel
theorem dX9_doesPoint_264 : decode cX9_doesPoint 264 = .ok (.goto 70, 3) := by decide +kernel
theorem dX9_doesPoint_267 : decode cX9_doesPoint 267 = .ok (.aload_n 0, 1) := by decide +kernel
theorem dX9_doesPoint_268 : decode cX9_doesPoint 268 = .ok (.getfield 27, 3) := by decide +kernel
theorem dX9_doesPoint_271 : decode cX9_doesPoint 271 = .ok (.aload_n 0, 1) := by decide +kernel
theorem dX9_doesPoint_272 : decode cX9_doesPoint 272 = .ok (.getfield 142, 3) := by decide +kernel
theorem dX9_doesPoint_275 : decode cX9_doesPoint 275 = .ok (.aload_n 0, 1) := by decide +kernel
theorem dX9_doesPoint_276 : decode cX9_doesPoint 276 = .ok (.getfield 27, 3) := by decide +kernel
theorem dX9_doesPoint_279 : decode cX9_doesPoint 279 = .ok (.aload_n 0, 1) := by decide +kernel
theorem dX9_doesPoint_280 : decode cX9_doesPoint 280 = .ok (.getfield 126, 3) := by decide +kernel
theorem dX9_doesPoint_283 : decode cX9_doesPoint 283 = .ok (.daload, 1) := by decide +kernel
theorem dX9_doesPoint_284 : decode cX9_doesPoint 284 = .ok (.aload_n 0, 1) := by decide +kernel
theorem dX9_doesPoint_285 : decode cX9_doesPoint 285 = .ok (.getfield 27, 3) := by decide +kernel
theorem dX9_doesPoint_288 : decode cX9_doesPoint 288 = .ok (.aload_n 0, 1) := by decide +kernel
theorem dX9_doesPoint_289 : decode cX9_doesPoint 289 = .ok (.getfield 123, 3) := by decide +kernel
theorem dX9_doesPoint_292 : decode cX9_doesPoint 292 = .ok (.daload, 1) := by decide +kernel
theorem dX9_doesPoint_293 : decode cX9_doesPoint 293 = .ok (.drem, 1) := by decide +kernel
theorem dX9_doesPoint_294 : decode cX9_doesPoint 294 = .ok (.dastore, 1) := by decide +kernel
theorem dX9_doesPoint_295 : decode cX9_doesPoint 295 = .ok (.goto 39, 3) := by decide +kernel
theorem dX9_doesPoint_298 : decode cX9_doesPoint 298 = .ok (.aload_n 0, 1) := by decide +kernel
theorem dX9_doesPoint_299 : decode cX9_doesPoint 299 = .ok (.getfield 16, 3) := by decide +kernel
theorem dX9_doesPoint_302 : decode cX9_doesPoint 302 = .ok (.aload_n 0, 1) := by decide +kernel
theorem dX9_doesPoint_303 : decode cX9_doesPoint 303 = .ok (.getfield 142, 3) := by decide +kernel
theorem dX9_doesPoint_306 : decode cX9_doesPoint 306 = .ok (.aload_n 0, 1) := by decide +kernel
theorem dX9_doesPoint_307 : decode cX9_doesPoint 307 = .ok (.getfield 27, 3) := by decide +kernel
theorem dX9_doesPoint_310 : decode cX9_doesPoint 310 = .ok (.aload_n 0, 1) := by decide +kernel
theorem dX9_doesPoint_311 : decode cX9_doesPoint 311 = .ok (.getfield 126, 3) := by decide +kernel
theorem dX9_doesPoint_314 : decode cX9_doesPoint 314 = .ok (.daload, 1) := by decide +kernel
theorem dX9_doesPoint_315 : decode cX9_doesPoint 315 = .ok (.aload_n 0, 1) := by decide +kernel
theorem dX9_doesPoint_316 : decode cX9_doesPoint 316 = .ok (.getfield 27, 3) := by decide +kernel
theorem dX9_doesPoint_319 : decode cX9_doesPoint 319 = .ok (.aload_n 0, 1) := by decide +kernel
theorem dX9_doesPoint_320 : decode cX9_doesPoint 320 = .ok (.getfield 123, 3) := by decide +kernel
theorem dX9_doesPoint_323 : decode cX9_doesPoint 323 = .ok (.daload, 1) := by decide +kernel
theorem dX9_doesPoint_324 : decode cX9_doesPoint 324 = .ok (.dcmp .g, 1) := by decide +kernel
theorem dX9_doesPoint_325 : decode cX9_doesPoint 325 = .ok (.ifCond .ge 7, 3) := by decide +kernel
theorem dX9_doesPoint_328 : decode cX9_doesPoint 328 = .ok (.iconst 1, 1) := by decide +kernel
theorem dX9_doesPoint_329 : decode cX9_doesPoint 329 = .ok (.goto 4, 3) := by decide +kernel
theorem dX9_doesPoint_332 : decode cX9_doesPoint 332 = .ok (.iconst 0, 1) := by decide +kernel
theorem dX9_doesPoint_333 : decode cX9_doesPoint 333 = .ok (.iastore, 1) := by decide +kernel
theorem dX9_doesPoint_334 : decode cX9_doesPoint 334 = .ok (.return_, 1) := by decide +kernel
theorem dX9_doesWay_0 : decode cX9_doesWay 0 = .ok (.iload_n 1, 1) := by decide +kernel
theorem dX9_doesWay_1 : decode cX9_doesWay 1 = .ok (.bipush 27, 2) := by decide +kernel
theorem dX9_doesWay_3 : decode cX9_doesWay 3 = .ok (.if_icmp .ne 14, 3) := by decide +kernel
theorem dX9_doesWay_6 : decode cX9_doesWay 6 = .ok (.aload_n 0, 1) := by decide +kernel
theorem dX9_doesWay_7 : decode cX9_doesWay 7 = .ok (.aload_n 0, 1) := by decide +kernel
theorem dX9_doesWay_8 : decode cX9_doesWay 8 = .ok (.getfield 142, 3) := by decide +kernel
theorem dX9_doesWay_11 : decode cX9_doesWay 11 = .ok (.putfield 174, 3) := by decide +kernel
theorem dX9_doesWay_14 : decode cX9_doesWay 14 = .ok (.goto 119, 3) := by decide +kernel
theorem dX9_doesWay_17 : decode cX9_doesWay 17 = .ok (.iload_n 1, 1) := by decide +kernel
theorem dX9_doesWay_18 : decode cX9_doesWay 18 = .ok (.bipush 28, 2) := by decide +kernel
theorem dX9_doesWay_20 : decode cX9_doesWay 20 = .ok (.if_icmp .ne 33, 3) := by decide +kernel
theorem dX9_doesWay_23 : decode cX9_doesWay 23 = .ok (.aload_n 0, 1) := by decide +kernel
theorem dX9_doesWay_24 : decode cX9_doesWay 24 = .ok (.aload_n 0, 1) := by decide +kernel
theorem dX9_doesWay_25 : decode cX9_doesWay 25 = .ok (.getfield 16, 3) := by decide +kernel
theorem dX9_doesWay_28 : decode cX9_doesWay 28 = .ok (.aload_n 0, 1) := by decide +kernel
theorem dX9_doesWay_29 : decode cX9_doesWay 29 = .ok (.getfield 142, 3) := by decide +kernel
theorem dX9_doesWay_32 : decode cX9_doesWay 32 = .ok (.iaload, 1) := by decide +kernel
theorem dX9_doesWay_33 : decode cX9_doesWay 33 = .ok (.ifCond .ne 10, 3) := by decide +kernel
theorem dX9_doesWay_36 : decode cX9_doesWay 36 = .ok (.aload_n 0, 1) := by decide +kernel
theorem dX9_doesWay_37 : decode cX9_doesWay 37 = .ok (.getfield 126, 3) := by decide +kernel
theorem dX9_doesWay_40 : decode cX9_doesWay 40 = .ok (.goto 7, 3) := by decide +kernel
theorem dX9_doesWay_43 : decode cX9_doesWay 43 = .ok (.aload_n 0, 1) := by decide +kernel
theorem dX9_doesWay_44 : decode cX9_doesWay 44 = .ok (.getfield 174, 3) := by decide +kernel
theorem dX9_doesWay_47 : decode cX9_doesWay 47 = .ok (.putfield 174, 3) := by decide +kernel
theorem dX9_doesWay_50 : decode cX9_doesWay 50 = .ok (.goto 83, 3) := by decide +kernel
theorem dX9_doesWay_53 : decode cX9_doesWay 53 = .ok (.iload_n 1, 1) := by decide +kernel
theorem dX9_doesWay_54 : decode cX9_doesWay 54 = .ok (.bipush 29, 2) := by decide +kernel
theorem dX9_doesWay_56 : decode cX9_doesWay 56 = .ok (.if_icmp .ne 37, 3) := by decide +kernel
theorem dX9_doesWay_59 : decode cX9_doesWay 59 = .ok (.aload_n 0, 1) := by decide +kernel
theorem dX9_doesWay_60 : decode cX9_doesWay 60 = .ok (.getfield 58, 3) := by decide +kernel
theorem dX9_doesWay_63 : decode cX9_doesWay 63 = .ok (.aload_n 0, 1) := by decide +kernel
theorem dX9_doesWay_64 : decode cX9_doesWay 64 = .ok (.getfield 98, 3) := by decide +kernel
theorem dX9_doesWay_67 : decode cX9_doesWay 67 = .ok (.aload_n 0, 1) := by decide +kernel
theorem dX9_doesWay_68 : decode cX9_doesWay 68 = .ok (.getfield 92, 3) := by decide +kernel
theorem dX9_doesWay_71 : decode cX9_doesWay 71 = .ok (.iastore, 1) := by decide +kernel
theorem dX9_doesWay_72 : decode cX9_doesWay 72 = .ok (.aload_n 0, 1) := by decide +kernel
theorem dX9_doesWay_73 : decode cX9_doesWay 73 = .ok (.dup, 1) := by decide +kernel
theorem dX9_doesWay_74 : decode cX9_doesWay 74 = .ok (.getfield 98, 3) := by decide +kernel
theorem dX9_doesWay_77 : decode cX9_doesWay 77 = .ok (.iconst 1, 1) := by decide +kernel
theorem dX9_doesWay_78 : decode cX9_doesWay 78 = .ok (.iadd, 1) := by decide +kernel
theorem dX9_doesWay_79 : decode cX9_doesWay 79 = .ok (.putfield 98, 3) := by decide +kernel
theorem dX9_doesWay_82 : decode cX9_doesWay 82 = .ok (.aload_n 0, 1) := by decide +kernel
theorem dX9_doesWay_83 : decode cX9_doesWay 83 = .ok (.aload_n 0, 1) := by decide +kernel
theorem dX9_doesWay_84 : decode cX9_doesWay 84 = .ok (.getfield 142, 3) := by decide +kernel
theorem dX9_doesWay_87 : decode cX9_doesWay 87 = .ok (.putfield 174, 3) := by decide +kernel
theorem dX9_doesWay_90 : decode cX9_doesWay 90 = .ok (.goto 43, 3) := by decide +kernel
theorem dX9_doesWay_93 : decode cX9_doesWay 93 = .ok (.aload_n 0, 1) := by decide +kernel
theorem dX9_doesWay_94 : decode cX9_doesWay 94 = .ok (.getfield 98, 3) := by decide +kernel
theorem dX9_doesWay_97 : decode cX9_doesWay 97 = .ok (.ifCond .ne 11, 3) := by decide +kernel
theorem dX9_doesWay_100 : decode cX9_doesWay 100 = .ok (.aload_n 0, 1) := by decide +kernel
theorem dX9_doesWay_101 : decode cX9_doesWay 101 = .ok (.iconst 2, 1) := by decide +kernel
theorem dX9_doesWay_102 : decode cX9_doesWay 102 = .ok (.putfield 83, 3) := by decide +kernel
theorem dX9_doesWay_105 : decode cX9_doesWay 105 = .ok (.goto 28, 3) := by decide +kernel
theorem dX9_doesWay_108 : decode cX9_doesWay 108 = .ok (.aload_n 0, 1) := by decide +kernel
theorem dX9_doesWay_109 : decode cX9_doesWay 109 = .ok (.dup, 1) := by decide +kernel
theorem dX9_doesWay_110 : decode cX9_doesWay 110 = .ok (.getfield 98, 3) := by decide +kernel
theorem dX9_doesWay_113 : decode cX9_doesWay 113 = .ok (.iconst 1, 1) := by decide +kernel
theorem dX9_doesWay_114 : decode cX9_doesWay 114 = .ok (.isub, 1) := by decide +kernel
theorem dX9_doesWay_115 : decode cX9_doesWay 115 = .ok (.putfield 98, 3) := by decide +kernel
theorem dX9_doesWay_118 : decode cX9_doesWay 118 = .ok (.aload_n 0, 1) := by decide +kernel
theorem dX9_doesWay_119 : decode cX9_doesWay 119 = .ok (.aload_n 0, 1) := by decide +kernel
theorem dX9_doesWay_120 : decode cX9_doesWay 120 = .ok (.getfield 58, 3) := by decide +kernel
theorem dX9_doesWay_123 : decode cX9_doesWay 123 = .ok (.aload_n 0, 1) := by decide +kernel
theorem dX9_doesWay_124 : decode cX9_doesWay 124 = .ok (.getfield 98, 3) := by decide +kernel
theorem dX9_doesWay_127 : decode cX9_doesWay 127 = .ok (.iaload, 1) := by decide +kernel
theorem dX9_doesWay_128 : decode cX9_doesWay 128 = .ok (.iconst 1, 1) := by decide +kernel
theorem dX9_doesWay_129 : decode cX9_doesWay 129 = .ok (.iadd, 1) := by decide +kernel
theorem dX9_doesWay_130 : decode cX9_doesWay 130 = .ok (.putfield 174, 3) := by decide +kernel
theorem dX9_doesWay_133 : decode cX9_doesWay 133 = .ok (.return_, 1) := by decide +kernel
theorem dX9_make_0 : decode cX9_make 0 = .ok (.aload_n 0, 1) := by decide +kernel
theorem dX9_make_1 : decode cX9_make 1 = .ok (.getfield 34, 3) := by decide +kernel
theorem dX9_make_4 : decode cX9_make 4 = .ok (.aload_n 0, 1) := by decide +kernel
theorem dX9_make_5 : decode cX9_make 5 = .ok (.getfield 89, 3) := by decide +kernel
theorem dX9_make_8 : decode cX9_make 8 = .ok (.iload_n 1, 1) := by decide +kernel
theorem dX9_make_9 : decode cX9_make 9 = .ok (.iastore, 1) := by decide +kernel
theorem dX9_make_10 : decode cX9_make 10 = .ok (.aload_n 0, 1) := by decide +kernel
theorem dX9_make_11 : decode cX9_make 11 = .ok (.getfield 37, 3) := by decide +kernel
theorem dX9_make_14 : decode cX9_make 14 = .ok (.aload_n 0, 1) := by decide +kernel
theorem dX9_make_15 : decode cX9_make 15 = .ok (.getfield 89, 3) := by decide +kernel
theorem dX9_make_18 : decode cX9_make 18 = .ok (.iload_n 2, 1) := by decide +kernel
theorem dX9_make_19 : decode cX9_make 19 = .ok (.iastore, 1) := by decide +kernel
theorem dX9_make_20 : decode cX9_make 20 = .ok (.iconst 0, 1) := by decide +kernel
theorem dX9_make_21 : decode cX9_make 21 = .ok (.istore_n 3, 1) := by decide +kernel
theorem dX9_make_22 : decode cX9_make 22 = .ok (.iload_n 3, 1) := by decide +kernel
theorem dX9_make_23 : decode cX9_make 23 = .ok (.bipush 12, 2) := by decide +kernel
theorem dX9_make_25 : decode cX9_make 25 = .ok (.if_icmp .ge 54, 3) := by decide +kernel
theorem dX9_make_28 : decode cX9_make 28 = .ok (.aload_n 0, 1) := by decide +kernel
theorem dX9_make_29 : decode cX9_make 29 = .ok (.getfield 40, 3) := by decide +kernel
theorem dX9_make_32 : decode cX9_make 32 = .ok (.bipush 12, 2) := by decide +kernel
theorem dX9_make_34 : decode cX9_make 34 = .ok (.aload_n 0, 1) := by decide +kernel
theorem dX9_make_35 : decode cX9_make 35 = .ok (.getfield 89, 3) := by decide +kernel
theorem dX9_make_38 : decode cX9_make 38 = .ok (.imul, 1) := by decide +kernel
theorem dX9_make_39 : decode cX9_make 39 = .ok (.iload_n 3, 1) := by decide +kernel
theorem dX9_make_40 : decode cX9_make 40 = .ok (.iadd, 1) := by decide +kernel
theorem dX9_make_41 : decode cX9_make 41 = .ok (.lconst 0, 1) := by decide +kernel
theorem dX9_make_42 : decode cX9_make 42 = .ok (.lastore, 1) := by decide +kernel
theorem dX9_make_43 : decode cX9_make 43 = .ok (.aload_n 0, 1) := by decide +kernel
theorem dX9_make_44 : decode cX9_make 44 = .ok (.getfield 43, 3) := by decide +kernel
theorem dX9_make_47 : decode cX9_make 47 = .ok (.bipush 12, 2) := by decide +kernel
theorem dX9_make_49 : decode cX9_make 49 = .ok (.aload_n 0, 1) := by decide +kernel
theorem dX9_make_50 : decode cX9_make 50 = .ok (.getfield 89, 3) := by decide +kernel
theorem dX9_make_53 : decode cX9_make 53 = .ok (.imul, 1) := by decide +kernel
theorem dX9_make_54 : decode cX9_make 54 = .ok (.iload_n 3, 1) := by decide +kernel
theorem dX9_make_55 : decode cX9_make 55 = .ok (.iadd, 1) := by decide +kernel
theorem dX9_make_56 : decode cX9_make 56 = .ok (.dconst 0, 1) := by decide +kernel
theorem dX9_make_57 : decode cX9_make 57 = .ok (.dastore, 1) := by decide +kernel
theorem dX9_make_58 : decode cX9_make 58 = .ok (.aload_n 0, 1) := by decide +kernel
theorem dX9_make_59 : decode cX9_make 59 = .ok (.getfield 46, 3) := by decide +kernel
theorem dX9_make_62 : decode cX9_make 62 = .ok (.bipush 12, 2) := by decide +kernel
theorem dX9_make_64 : decode cX9_make 64 = .ok (.aload_n 0, 1) := by decide +kernel
theorem dX9_make_65 : decode cX9_make 65 = .ok (.getfield 89, 3) := by decide +kernel
theorem dX9_make_68 : decode cX9_make 68 = .ok (.imul, 1) := by decide +kernel
theorem dX9_make_69 : decode cX9_make 69 = .ok (.iload_n 3, 1) := by decide +kernel
theorem dX9_make_70 : decode cX9_make 70 = .ok (.iadd, 1) := by decide +kernel
theorem dX9_make_71 : decode cX9_make 71 = .ok (.iconst 0, 1) := by decide +kernel
theorem dX9_make_72 : decode cX9_make 72 = .ok (.iastore, 1) := by decide +kernel
theorem dX9_make_73 : decode cX9_make 73 = .ok (.iinc 3 1, 3) := by decide +kernel
theorem dX9_make_76 : decode cX9_make 76 = .ok (.goto (-54), 3) := by decide +kernel
theorem dX9_make_79 : decode cX9_make 79 = .ok (.aload_n 0, 1) := by decide +kernel
theorem dX9_make_80 : decode cX9_make 80 = .ok (.getfield 49, 3) := by decide +kernel
theorem dX9_make_83 : decode cX9_make 83 = .ok (.aload_n 0, 1) := by decide +kernel
theorem dX9_make_84 : decode cX9_make 84 = .ok (.getfield 89, 3) := by decide +kernel
theorem dX9_make_87 : decode cX9_make 87 = .ok (.iconst 0, 1) := by decide +kernel
theorem dX9_make_88 : decode cX9_make 88 = .ok (.iastore, 1) := by decide +kernel
theorem dX9_make_89 : decode cX9_make 89 = .ok (.aload_n 0, 1) := by decide +kernel
theorem dX9_make_90 : decode cX9_make 90 = .ok (.getfield 52, 3) := by decide +kernel
theorem dX9_make_93 : decode cX9_make 93 = .ok (.aload_n 0, 1) := by decide +kernel
theorem dX9_make_94 : decode cX9_make 94 = .ok (.getfield 89, 3) := by decide +kernel
theorem dX9_make_97 : decode cX9_make 97 = .ok (.lconst 0, 1) := by decide +kernel
theorem dX9_make_98 : decode cX9_make 98 = .ok (.lastore, 1) := by decide +kernel
theorem dX9_make_99 : decode cX9_make 99 = .ok (.aload_n 0, 1) := by decide +kernel
theorem dX9_make_100 : decode cX9_make 100 = .ok (.getfield 55, 3) := by decide +kernel
theorem dX9_make_103 : decode cX9_make 103 = .ok (.aload_n 0, 1) := by decide +kernel
theorem dX9_make_104 : decode cX9_make 104 = .ok (.getfield 89, 3) := by decide +kernel
theorem dX9_make_107 : decode cX9_make 107 = .ok (.iconst 0, 1) := by decide +kernel
theorem dX9_make_108 : decode cX9_make 108 = .ok (.iastore, 1) := by decide +kernel
theorem dX9_make_109 : decode cX9_make 109 = .ok (.aload_n 0, 1) := by decide +kernel
theorem dX9_make_110 : decode cX9_make 110 = .ok (.dup, 1) := by decide +kernel
theorem dX9_make_111 : decode cX9_make 111 = .ok (.getfield 89, 3) := by decide +kernel
theorem dX9_make_114 : decode cX9_make 114 = .ok (.iconst 1, 1) := by decide +kernel
theorem dX9_make_115 : decode cX9_make 115 = .ok (.iadd, 1) := by decide +kernel
theorem dX9_make_116 : decode cX9_make 116 = .ok (.putfield 89, 3) := by decide +kernel
theorem dX9_make_119 : decode cX9_make 119 = .ok (.aload_n 0, 1) := by decide +kernel
theorem dX9_make_120 : decode cX9_make 120 = .ok (.getfield 89, 3) := by decide +kernel
theorem dX9_make_123 : decode cX9_make 123 = .ok (.ireturn, 1) := by decide +kernel
theorem dX9_doesThing_0 : decode cX9_doesThing 0 = .ok (.iload_n 1, 1) := by decide +kernel
theorem dX9_doesThing_1 : decode cX9_doesThing 1 = .ok (.tableswitch 332 31 37 #[43, 72, 153, 199, 220, 233, 271], 43) := by decide +kernel
theorem dX9_doesThing_44 : decode cX9_doesThing 44 = .ok (.aload_n 0, 1) := by decide +kernel
theorem dX9_doesThing_45 : decode cX9_doesThing 45 = .ok (.getfield 31, 3) := by decide +kernel
theorem dX9_doesThing_48 : decode cX9_doesThing 48 = .ok (.aload_n 0, 1) := by decide +kernel
theorem dX9_doesThing_49 : decode cX9_doesThing 49 = .ok (.getfield 142, 3) := by decide +kernel
theorem dX9_doesThing_52 : decode cX9_doesThing 52 = .ok (.aload_n 0, 1) := by decide +kernel
theorem dX9_doesThing_53 : decode cX9_doesThing 53 = .ok (.aload_n 0, 1) := by decide +kernel
theorem dX9_doesThing_54 : decode cX9_doesThing 54 = .ok (.getfield 126, 3) := by decide +kernel
theorem dX9_doesThing_57 : decode cX9_doesThing 57 = .ok (.aload_n 0, 1) := by decide +kernel
theorem dX9_doesThing_58 : decode cX9_doesThing 58 = .ok (.getfield 16, 3) := by decide +kernel
theorem dX9_doesThing_61 : decode cX9_doesThing 61 = .ok (.aload_n 0, 1) := by decide +kernel
theorem dX9_doesThing_62 : decode cX9_doesThing 62 = .ok (.getfield 123, 3) := by decide +kernel
theorem dX9_doesThing_65 : decode cX9_doesThing 65 = .ok (.iaload, 1) := by decide +kernel
theorem dX9_doesThing_66 : decode cX9_doesThing 66 = .ok (.invokevirtual 177, 3) := by decide +kernel
theorem dX9_doesThing_69 : decode cX9_doesThing 69 = .ok (.iastore, 1) := by decide +kernel
theorem dX9_doesThing_70 : decode cX9_doesThing 70 = .ok (.goto 290, 3) := by decide +kernel
theorem dX9_doesThing_73 : decode cX9_doesThing 73 = .ok (.aload_n 0, 1) := by decide +kernel
theorem dX9_doesThing_74 : decode cX9_doesThing 74 = .ok (.getfield 16, 3) := by decide +kernel
theorem dX9_doesThing_77 : decode cX9_doesThing 77 = .ok (.aload_n 0, 1) := by decide +kernel
theorem dX9_doesThing_78 : decode cX9_doesThing 78 = .ok (.getfield 126, 3) := by decide +kernel
theorem dX9_doesThing_81 : decode cX9_doesThing 81 = .ok (.iaload, 1) := by decide +kernel
theorem dX9_doesThing_82 : decode cX9_doesThing 82 = .ok (.istore_n 3, 1) := by decide +kernel
theorem dX9_doesThing_83 : decode cX9_doesThing 83 = .ok (.aload_n 0, 1) := by decide +kernel
theorem dX9_doesThing_84 : decode cX9_doesThing 84 = .ok (.getfield 16, 3) := by decide +kernel
theorem dX9_doesThing_87 : decode cX9_doesThing 87 = .ok (.aload_n 0, 1) := by decide +kernel
theorem dX9_doesThing_88 : decode cX9_doesThing 88 = .ok (.getfield 123, 3) := by decide +kernel
theorem dX9_doesThing_91 : decode cX9_doesThing 91 = .ok (.iaload, 1) := by decide +kernel
theorem dX9_doesThing_92 : decode cX9_doesThing 92 = .ok (.istore 4, 2) := by decide +kernel
theorem dX9_doesThing_94 : decode cX9_doesThing 94 = .ok (.aload_n 0, 1) := by decide +kernel
theorem dX9_doesThing_95 : decode cX9_doesThing 95 = .ok (.bipush 10, 2) := by decide +kernel
theorem dX9_doesThing_97 : decode cX9_doesThing 97 = .ok (.iload_n 3, 1) := by decide +kernel
theorem dX9_doesThing_98 : decode cX9_doesThing 98 = .ok (.invokevirtual 177, 3) := by decide +kernel
theorem dX9_doesThing_101 : decode cX9_doesThing 101 = .ok (.istore 5, 2) := by decide +kernel
theorem dX9_doesThing_103 : decode cX9_doesThing 103 = .ok (.iconst 0, 1) := by decide +kernel
theorem dX9_doesThing_104 : decode cX9_doesThing 104 = .ok (.istore 6, 2) := by decide +kernel
theorem dX9_doesThing_106 : decode cX9_doesThing 106 = .ok (.iload 6, 2) := by decide +kernel
theorem dX9_doesThing_108 : decode cX9_doesThing 108 = .ok (.iload_n 3, 1) := by decide +kernel
theorem dX9_doesThing_109 : decode cX9_doesThing 109 = .ok (.if_icmp .ge 31, 3) := by decide +kernel
theorem dX9_doesThing_112 : decode cX9_doesThing 112 = .ok (.aload_n 0, 1) := by decide +kernel
theorem dX9_doesThing_113 : decode cX9_doesThing 113 = .ok (.getfield 46, 3) := by decide +kernel
theorem dX9_doesThing_116 : decode cX9_doesThing 116 = .ok (.bipush 12, 2) := by decide +kernel
theorem dX9_doesThing_118 : decode cX9_doesThing 118 = .ok (.iload 5, 2) := by decide +kernel
theorem dX9_doesThing_120 : decode cX9_doesThing 120 = .ok (.iconst 1, 1) := by decide +kernel
theorem dX9_doesThing_121 : decode cX9_doesThing 121 = .ok (.isub, 1) := by decide +kernel
theorem dX9_doesThing_122 : decode cX9_doesThing 122 = .ok (.imul, 1) := by decide +kernel
theorem dX9_doesThing_123 : decode cX9_doesThing 123 = .ok (.iload 6, 2) := by decide +kernel
theorem dX9_doesThing_125 : decode cX9_doesThing 125 = .ok (.iadd, 1) := by decide +kernel
theorem dX9_doesThing_126 : decode cX9_doesThing 126 = .ok (.aload_n 0, 1) := by decide +kernel
theorem dX9_doesThing_127 : decode cX9_doesThing 127 = .ok (.iconst 4, 1) := by decide +kernel
theorem dX9_doesThing_128 : decode cX9_doesThing 128 = .ok (.iload 4, 2) := by decide +kernel
theorem dX9_doesThing_130 : decode cX9_doesThing 130 = .ok (.invokevirtual 177, 3) := by decide +kernel
theorem dX9_doesThing_133 : decode cX9_doesThing 133 = .ok (.iastore, 1) := by decide +kernel
theorem dX9_doesThing_134 : decode cX9_doesThing 134 = .ok (.iinc 6 1, 3) := by decide +kernel
theorem dX9_doesThing_137 : decode cX9_doesThing 137 = .ok (.goto (-31), 3) := by decide +kernel
theorem dX9_doesThing_140 : decode cX9_doesThing 140 = .ok (.aload_n 0, 1) := by decide +kernel
theorem dX9_doesThing_141 : decode cX9_doesThing 141 = .ok (.getfield 31, 3) := by decide +kernel
theorem dX9_doesThing_144 : decode cX9_doesThing 144 = .ok (.aload_n 0, 1) := by decide +kernel
theorem dX9_doesThing_145 : decode cX9_doesThing 145 = .ok (.getfield 142, 3) := by decide +kernel
theorem dX9_doesThing_148 : decode cX9_doesThing 148 = .ok (.iload 5, 2) := by decide +kernel
theorem dX9_doesThing_150 : decode cX9_doesThing 150 = .ok (.iastore, 1) := by decide +kernel
theorem dX9_doesThing_151 : decode cX9_doesThing 151 = .ok (.goto 209, 3) := by decide +kernel
theorem dX9_doesThing_154 : decode cX9_doesThing 154 = .ok (.aload_n 0, 1) := by decide +kernel
theorem dX9_doesThing_155 : decode cX9_doesThing 155 = .ok (.getfield 31, 3) := by decide +kernel
theorem dX9_doesThing_158 : decode cX9_doesThing 158 = .ok (.aload_n 0, 1) := by decide +kernel
theorem dX9_doesThing_159 : decode cX9_doesThing 159 = .ok (.getfield 142, 3) := by decide +kernel
theorem dX9_doesThing_162 : decode cX9_doesThing 162 = .ok (.aload_n 0, 1) := by decide +kernel
theorem dX9_doesThing_163 : decode cX9_doesThing 163 = .ok (.aload_n 0, 1) := by decide +kernel
theorem dX9_doesThing_164 : decode cX9_doesThing 164 = .ok (.getfield 126, 3) := by decide +kernel
theorem dX9_doesThing_167 : decode cX9_doesThing 167 = .ok (.iconst 0, 1) := by decide +kernel
theorem dX9_doesThing_168 : decode cX9_doesThing 168 = .ok (.invokevirtual 177, 3) := by decide +kernel
theorem dX9_doesThing_171 : decode cX9_doesThing 171 = .ok (.iastore, 1) := by decide +kernel
theorem dX9_doesThing_172 : decode cX9_doesThing 172 = .ok (.aload_n 0, 1) := by decide +kernel
theorem dX9_doesThing_173 : decode cX9_doesThing 173 = .ok (.getfield 49, 3) := by decide +kernel
theorem dX9_doesThing_176 : decode cX9_doesThing 176 = .ok (.aload_n 0, 1) := by decide +kernel
theorem dX9_doesThing_177 : decode cX9_doesThing 177 = .ok (.getfield 31, 3) := by decide +kernel
theorem dX9_doesThing_180 : decode cX9_doesThing 180 = .ok (.aload_n 0, 1) := by decide +kernel
theorem dX9_doesThing_181 : decode cX9_doesThing 181 = .ok (.getfield 142, 3) := by decide +kernel
theorem dX9_doesThing_184 : decode cX9_doesThing 184 = .ok (.iaload, 1) := by decide +kernel
theorem dX9_doesThing_185 : decode cX9_doesThing 185 = .ok (.iconst 1, 1) := by decide +kernel
theorem dX9_doesThing_186 : decode cX9_doesThing 186 = .ok (.isub, 1) := by decide +kernel
theorem dX9_doesThing_187 : decode cX9_doesThing 187 = .ok (.aload_n 0, 1) := by decide +kernel
theorem dX9_doesThing_188 : decode cX9_doesThing 188 = .ok (.getfield 16, 3) := by decide +kernel
theorem dX9_doesThing_191 : decode cX9_doesThing 191 = .ok (.aload_n 0, 1) := by decide +kernel
theorem dX9_doesThing_192 : decode cX9_doesThing 192 = .ok (.getfield 123, 3) := by decide +kernel
theorem dX9_doesThing_195 : decode cX9_doesThing 195 = .ok (.iaload, 1) := by decide +kernel
theorem dX9_doesThing_196 : decode cX9_doesThing 196 = .ok (.iastore, 1) := by decide +kernel
theorem dX9_doesThing_197 : decode cX9_doesThing 197 = .ok (.goto 163, 3) := by decide +kernel
theorem dX9_doesThing_200 : decode cX9_doesThing 200 = .ok (.aload_n 0, 1) := by decide +kernel
theorem dX9_doesThing_201 : decode cX9_doesThing 201 = .ok (.getfield 31, 3) := by decide +kernel
theorem dX9_doesThing_204 : decode cX9_doesThing 204 = .ok (.aload_n 0, 1) := by decide +kernel
theorem dX9_doesThing_205 : decode cX9_doesThing 205 = .ok (.getfield 142, 3) := by decide +kernel
theorem dX9_doesThing_208 : decode cX9_doesThing 208 = .ok (.aload_n 0, 1) := by decide +kernel
theorem dX9_doesThing_209 : decode cX9_doesThing 209 = .ok (.getfield 31, 3) := by decide +kernel
theorem dX9_doesThing_212 : decode cX9_doesThing 212 = .ok (.aload_n 0, 1) := by decide +kernel
theorem dX9_doesThing_213 : decode cX9_doesThing 213 = .ok (.getfield 126, 3) := by decide +kernel
theorem dX9_doesThing_216 : decode cX9_doesThing 216 = .ok (.iaload, 1) := by decide +kernel
theorem dX9_doesThing_217 : decode cX9_doesThing 217 = .ok (.iastore, 1) := by decide +kernel
theorem dX9_doesThing_218 : decode cX9_doesThing 218 = .ok (.goto 142, 3) := by decide +kernel
theorem dX9_doesThing_221 : decode cX9_doesThing 221 = .ok (.aload_n 0, 1) := by decide +kernel
theorem dX9_doesThing_222 : decode cX9_doesThing 222 = .ok (.getfield 31, 3) := by decide +kernel
theorem dX9_doesThing_225 : decode cX9_doesThing 225 = .ok (.aload_n 0, 1) := by decide +kernel
theorem dX9_doesThing_226 : decode cX9_doesThing 226 = .ok (.getfield 142, 3) := by decide +kernel
theorem dX9_doesThing_229 : decode cX9_doesThing 229 = .ok (.iconst 0, 1) := by decide +kernel
theorem dX9_doesThing_230 : decode cX9_doesThing 230 = .ok (.iastore, 1) := by decide +kernel
theorem dX9_doesThing_231 : decode cX9_doesThing 231 = .ok (.goto 129, 3) := by decide +kernel
theorem dX9_doesThing_234 : decode cX9_doesThing 234 = .ok (.aload_n 0, 1) := by decide +kernel
theorem dX9_doesThing_235 : decode cX9_doesThing 235 = .ok (.getfield 16, 3) := by decide +kernel
theorem dX9_doesThing_238 : decode cX9_doesThing 238 = .ok (.aload_n 0, 1) := by decide +kernel
theorem dX9_doesThing_239 : decode cX9_doesThing 239 = .ok (.getfield 142, 3) := by decide +kernel
theorem dX9_doesThing_242 : decode cX9_doesThing 242 = .ok (.aload_n 0, 1) := by decide +kernel
theorem dX9_doesThing_243 : decode cX9_doesThing 243 = .ok (.getfield 31, 3) := by decide +kernel
theorem dX9_doesThing_246 : decode cX9_doesThing 246 = .ok (.aload_n 0, 1) := by decide +kernel
theorem dX9_doesThing_247 : decode cX9_doesThing 247 = .ok (.getfield 126, 3) := by decide +kernel
theorem dX9_doesThing_250 : decode cX9_doesThing 250 = .ok (.iaload, 1) := by decide +kernel
theorem dX9_doesThing_251 : decode cX9_doesThing 251 = .ok (.aload_n 0, 1) := by decide +kernel
theorem dX9_doesThing_252 : decode cX9_doesThing 252 = .ok (.getfield 31, 3) := by decide +kernel
theorem dX9_doesThing_255 : decode cX9_doesThing 255 = .ok (.aload_n 0, 1) := by decide +kernel
theorem dX9_doesThing_256 : decode cX9_doesThing 256 = .ok (.getfield 123, 3) := by decide +kernel
theorem dX9_doesThing_259 : decode cX9_doesThing 259 = .ok (.iaload, 1) := by decide +kernel
theorem dX9_doesThing_260 : decode cX9_doesThing 260 = .ok (.if_icmp .ne 7, 3) := by decide +kernel
theorem dX9_doesThing_263 : decode cX9_doesThing 263 = .ok (.iconst 1, 1) := by decide +kernel
theorem dX9_doesThing_264 : decode cX9_doesThing 264 = .ok (.goto 4, 3) := by decide +kernel
theorem dX9_doesThing_267 : decode cX9_doesThing 267 = .ok (.iconst 0, 1) := by decide +kernel
theorem dX9_doesThing_268 : decode cX9_doesThing 268 = .ok (.iastore, 1) := by decide +kernel
theorem dX9_doesThing_269 : decode cX9_doesThing 269 = .ok (.goto 91, 3) := by decide +kernel
theorem dX9_doesThing_272 : decode cX9_doesThing 272 = .ok (.aload_n 0, 1) := by decide +kernel
theorem dX9_doesThing_273 : decode cX9_doesThing 273 = .ok (.getfield 31, 3) := by decide +kernel
theorem dX9_doesThing_276 : decode cX9_doesThing 276 = .ok (.aload_n 0, 1) := by decide +kernel
theorem dX9_doesThing_277 : decode cX9_doesThing 277 = .ok (.getfield 126, 3) := by decide +kernel
theorem dX9_doesThing_280 : decode cX9_doesThing 280 = .ok (.iaload, 1) := by decide +kernel
theorem dX9_doesThing_281 : decode cX9_doesThing 281 = .ok (.ifCond .ne 7, 3) := by decide +kernel
theorem dX9_doesThing_284 : decode cX9_doesThing 284 = .ok (.iconst 0, 1) := by decide +kernel
theorem dX9_doesThing_285 : decode cX9_doesThing 285 = .ok (.goto 34, 3) := by decide +kernel
theorem dX9_doesThing_288 : decode cX9_doesThing 288 = .ok (.aload_n 0, 1) := by decide +kernel
theorem dX9_doesThing_289 : decode cX9_doesThing 289 = .ok (.getfield 34, 3) := by decide +kernel
theorem dX9_doesThing_292 : decode cX9_doesThing 292 = .ok (.aload_n 0, 1) := by decide +kernel
theorem dX9_doesThing_293 : decode cX9_doesThing 293 = .ok (.getfield 31, 3) := by decide +kernel
theorem dX9_doesThing_296 : decode cX9_doesThing 296 = .ok (.aload_n 0, 1) := by decide +kernel
theorem dX9_doesThing_297 : decode cX9_doesThing 297 = .ok (.getfield 126, 3) := by decide +kernel
theorem dX9_doesThing_300 : decode cX9_doesThing 300 = .ok (.iaload, 1) := by decide +kernel
theorem dX9_doesThing_301 : decode cX9_doesThing 301 = .ok (.iconst 1, 1) := by decide +kernel
theorem dX9_doesThing_302 : decode cX9_doesThing 302 = .ok (.isub, 1) := by decide +kernel
theorem dX9_doesThing_303 : decode cX9_doesThing 303 = .ok (.iaload, 1) := by decide +kernel
theorem dX9_doesThing_304 : decode cX9_doesThing 304 = .ok (.aload_n 0, 1) := by decide +kernel
theorem dX9_doesThing_305 : decode cX9_doesThing 305 = .ok (.getfield 123, 3) := by decide +kernel
theorem dX9_doesThing_308 : decode cX9_doesThing 308 = .ok (.invokestatic 120, 3) := by decide +kernel
theorem dX9_doesThing_311 : decode cX9_doesThing 311 = .ok (.ifCond .eq 7, 3) := by decide +kernel
theorem dX9_doesThing_314 : decode cX9_doesThing 314 = .ok (.iconst 1, 1) := by decide +kernel
theorem dX9_doesThing_315 : decode cX9_doesThing 315 = .ok (.goto 4, 3) := by decide +kernel
theorem dX9_doesThing_318 : decode cX9_doesThing 318 = .ok (.iconst 0, 1) := by decide +kernel
theorem dX9_doesThing_319 : decode cX9_doesThing 319 = .ok (.istore_n 2, 1) := by decide +kernel
theorem dX9_doesThing_320 : decode cX9_doesThing 320 = .ok (.aload_n 0, 1) := by decide +kernel
theorem dX9_doesThing_321 : decode cX9_doesThing 321 = .ok (.getfield 16, 3) := by decide +kernel
theorem dX9_doesThing_324 : decode cX9_doesThing 324 = .ok (.aload_n 0, 1) := by decide +kernel
theorem dX9_doesThing_325 : decode cX9_doesThing 325 = .ok (.getfield 142, 3) := by decide +kernel
theorem dX9_doesThing_328 : decode cX9_doesThing 328 = .ok (.iload_n 2, 1) := by decide +kernel
theorem dX9_doesThing_329 : decode cX9_doesThing 329 = .ok (.iastore, 1) := by decide +kernel
theorem dX9_doesThing_330 : decode cX9_doesThing 330 = .ok (.goto 30, 3) := by decide +kernel
theorem dX9_doesThing_333 : decode cX9_doesThing 333 = .ok (.aload_n 0, 1) := by decide +kernel
theorem dX9_doesThing_334 : decode cX9_doesThing 334 = .ok (.getfield 37, 3) := by decide +kernel
theorem dX9_doesThing_337 : decode cX9_doesThing 337 = .ok (.aload_n 0, 1) := by decide +kernel
theorem dX9_doesThing_338 : decode cX9_doesThing 338 = .ok (.getfield 31, 3) := by decide +kernel
theorem dX9_doesThing_341 : decode cX9_doesThing 341 = .ok (.aload_n 0, 1) := by decide +kernel
theorem dX9_doesThing_342 : decode cX9_doesThing 342 = .ok (.getfield 126, 3) := by decide +kernel
theorem dX9_doesThing_345 : decode cX9_doesThing 345 = .ok (.iaload, 1) := by decide +kernel
theorem dX9_doesThing_346 : decode cX9_doesThing 346 = .ok (.iconst 1, 1) := by decide +kernel
theorem dX9_doesThing_347 : decode cX9_doesThing 347 = .ok (.isub, 1) := by decide +kernel
theorem dX9_doesThing_348 : decode cX9_doesThing 348 = .ok (.iaload, 1) := by decide +kernel
theorem dX9_doesThing_349 : decode cX9_doesThing 349 = .ok (.istore_n 2, 1) := by decide +kernel
theorem dX9_doesThing_350 : decode cX9_doesThing 350 = .ok (.aload_n 0, 1) := by decide +kernel
theorem dX9_doesThing_351 : decode cX9_doesThing 351 = .ok (.getfield 16, 3) := by decide +kernel
theorem dX9_doesThing_354 : decode cX9_doesThing 354 = .ok (.aload_n 0, 1) := by decide +kernel
theorem dX9_doesThing_355 : decode cX9_doesThing 355 = .ok (.getfield 142, 3) := by decide +kernel
theorem dX9_doesThing_358 : decode cX9_doesThing 358 = .ok (.iload_n 2, 1) := by decide +kernel
theorem dX9_doesThing_359 : decode cX9_doesThing 359 = .ok (.iastore, 1) := by decide +kernel
theorem dX9_doesThing_360 : decode cX9_doesThing 360 = .ok (.return_, 1) := by decide +kernel
theorem dX9_gets_0 : decode cX9_gets 0 = .ok (.bipush 12, 2) := by decide +kernel
theorem dX9_gets_2 : decode cX9_gets 2 = .ok (.aload_n 0, 1) := by decide +kernel
theorem dX9_gets_3 : decode cX9_gets 3 = .ok (.getfield 31, 3) := by decide +kernel
theorem dX9_gets_6 : decode cX9_gets 6 = .ok (.aload_n 0, 1) := by decide +kernel
theorem dX9_gets_7 : decode cX9_gets 7 = .ok (.getfield 126, 3) := by decide +kernel
theorem dX9_gets_10 : decode cX9_gets 10 = .ok (.iaload, 1) := by decide +kernel
theorem dX9_gets_11 : decode cX9_gets 11 = .ok (.iconst 1, 1) := by decide +kernel
theorem dX9_gets_12 : decode cX9_gets 12 = .ok (.isub, 1) := by decide +kernel
theorem dX9_gets_13 : decode cX9_gets 13 = .ok (.imul, 1) := by decide +kernel
theorem dX9_gets_14 : decode cX9_gets 14 = .ok (.aload_n 0, 1) := by decide +kernel
theorem dX9_gets_15 : decode cX9_gets 15 = .ok (.getfield 16, 3) := by decide +kernel
theorem dX9_gets_18 : decode cX9_gets 18 = .ok (.aload_n 0, 1) := by decide +kernel
theorem dX9_gets_19 : decode cX9_gets 19 = .ok (.getfield 123, 3) := by decide +kernel
theorem dX9_gets_22 : decode cX9_gets 22 = .ok (.iaload, 1) := by decide +kernel
theorem dX9_gets_23 : decode cX9_gets 23 = .ok (.iadd, 1) := by decide +kernel
theorem dX9_gets_24 : decode cX9_gets 24 = .ok (.istore_n 2, 1) := by decide +kernel
theorem dX9_gets_25 : decode cX9_gets 25 = .ok (.iload_n 1, 1) := by decide +kernel
theorem dX9_gets_26 : decode cX9_gets 26 = .ok (.iconst 5, 1) := by decide +kernel
theorem dX9_gets_27 : decode cX9_gets 27 = .ok (.if_icmp .ge 22, 3) := by decide +kernel
theorem dX9_gets_30 : decode cX9_gets 30 = .ok (.aload_n 0, 1) := by decide +kernel
theorem dX9_gets_31 : decode cX9_gets 31 = .ok (.getfield 16, 3) := by decide +kernel
theorem dX9_gets_34 : decode cX9_gets 34 = .ok (.aload_n 0, 1) := by decide +kernel
theorem dX9_gets_35 : decode cX9_gets 35 = .ok (.getfield 142, 3) := by decide +kernel
theorem dX9_gets_38 : decode cX9_gets 38 = .ok (.aload_n 0, 1) := by decide +kernel
theorem dX9_gets_39 : decode cX9_gets 39 = .ok (.getfield 40, 3) := by decide +kernel
theorem dX9_gets_42 : decode cX9_gets 42 = .ok (.iload_n 2, 1) := by decide +kernel
theorem dX9_gets_43 : decode cX9_gets 43 = .ok (.laload, 1) := by decide +kernel
theorem dX9_gets_44 : decode cX9_gets 44 = .ok (.l2i, 1) := by decide +kernel
theorem dX9_gets_45 : decode cX9_gets 45 = .ok (.iastore, 1) := by decide +kernel
theorem dX9_gets_46 : decode cX9_gets 46 = .ok (.goto 90, 3) := by decide +kernel
theorem dX9_gets_49 : decode cX9_gets 49 = .ok (.iload_n 1, 1) := by decide +kernel
theorem dX9_gets_50 : decode cX9_gets 50 = .ok (.iconst 5, 1) := by decide +kernel
theorem dX9_gets_51 : decode cX9_gets 51 = .ok (.if_icmp .ne 21, 3) := by decide +kernel
theorem dX9_gets_54 : decode cX9_gets 54 = .ok (.aload_n 0, 1) := by decide +kernel
theorem dX9_gets_55 : decode cX9_gets 55 = .ok (.getfield 19, 3) := by decide +kernel
theorem dX9_gets_58 : decode cX9_gets 58 = .ok (.aload_n 0, 1) := by decide +kernel
theorem dX9_gets_59 : decode cX9_gets 59 = .ok (.getfield 142, 3) := by decide +kernel
theorem dX9_gets_62 : decode cX9_gets 62 = .ok (.aload_n 0, 1) := by decide +kernel
theorem dX9_gets_63 : decode cX9_gets 63 = .ok (.getfield 40, 3) := by decide +kernel
theorem dX9_gets_66 : decode cX9_gets 66 = .ok (.iload_n 2, 1) := by decide +kernel
theorem dX9_gets_67 : decode cX9_gets 67 = .ok (.laload, 1) := by decide +kernel
theorem dX9_gets_68 : decode cX9_gets 68 = .ok (.lastore, 1) := by decide +kernel
theorem dX9_gets_69 : decode cX9_gets 69 = .ok (.goto 67, 3) := by decide +kernel
theorem dX9_gets_72 : decode cX9_gets 72 = .ok (.iload_n 1, 1) := by decide +kernel
theorem dX9_gets_73 : decode cX9_gets 73 = .ok (.bipush 6, 2) := by decide +kernel
theorem dX9_gets_75 : decode cX9_gets 75 = .ok (.if_icmp .ne 22, 3) := by decide +kernel
theorem dX9_gets_78 : decode cX9_gets 78 = .ok (.aload_n 0, 1) := by decide +kernel
theorem dX9_gets_79 : decode cX9_gets 79 = .ok (.getfield 23, 3) := by decide +kernel
theorem dX9_gets_82 : decode cX9_gets 82 = .ok (.aload_n 0, 1) := by decide +kernel
theorem dX9_gets_83 : decode cX9_gets 83 = .ok (.getfield 142, 3) := by decide +kernel
theorem dX9_gets_86 : decode cX9_gets 86 = .ok (.aload_n 0, 1) := by decide +kernel
theorem dX9_gets_87 : decode cX9_gets 87 = .ok (.getfield 43, 3) := by decide +kernel
theorem dX9_gets_90 : decode cX9_gets 90 = .ok (.iload_n 2, 1) := by decide +kernel
theorem dX9_gets_91 : decode cX9_gets 91 = .ok (.daload, 1) := by decide +kernel
theorem dX9_gets_92 : decode cX9_gets 92 = .ok (.d2f, 1) := by decide +kernel
theorem dX9_gets_93 : decode cX9_gets 93 = .ok (.fastore, 1) := by decide +kernel
theorem dX9_gets_94 : decode cX9_gets 94 = .ok (.goto 42, 3) := by decide +kernel
theorem dX9_gets_97 : decode cX9_gets 97 = .ok (.iload_n 1, 1) := by decide +kernel
theorem dX9_gets_98 : decode cX9_gets 98 = .ok (.bipush 7, 2) := by decide +kernel
theorem dX9_gets_100 : decode cX9_gets 100 = .ok (.if_icmp .ne 21, 3) := by decide +kernel
theorem dX9_gets_103 : decode cX9_gets 103 = .ok (.aload_n 0, 1) := by decide +kernel
theorem dX9_gets_104 : decode cX9_gets 104 = .ok (.getfield 27, 3) := by decide +kernel
theorem dX9_gets_107 : decode cX9_gets 107 = .ok (.aload_n 0, 1) := by decide +kernel
theorem dX9_gets_108 : decode cX9_gets 108 = .ok (.getfield 142, 3) := by decide +kernel
theorem dX9_gets_111 : decode cX9_gets 111 = .ok (.aload_n 0, 1) := by decide +kernel
theorem dX9_gets_112 : decode cX9_gets 112 = .ok (.getfield 43, 3) := by decide +kernel
theorem dX9_gets_115 : decode cX9_gets 115 = .ok (.iload_n 2, 1) := by decide +kernel
theorem dX9_gets_116 : decode cX9_gets 116 = .ok (.daload, 1) := by decide +kernel
theorem dX9_gets_117 : decode cX9_gets 117 = .ok (.dastore, 1) := by decide +kernel
theorem dX9_gets_118 : decode cX9_gets 118 = .ok (.goto 18, 3) := by decide +kernel
theorem dX9_gets_121 : decode cX9_gets 121 = .ok (.aload_n 0, 1) := by decide +kernel
theorem dX9_gets_122 : decode cX9_gets 122 = .ok (.getfield 31, 3) := by decide +kernel
theorem dX9_gets_125 : decode cX9_gets 125 = .ok (.aload_n 0, 1) := by decide +kernel
theorem dX9_gets_126 : decode cX9_gets 126 = .ok (.getfield 142, 3) := by decide +kernel
theorem dX9_gets_129 : decode cX9_gets 129 = .ok (.aload_n 0, 1) := by decide +kernel
theorem dX9_gets_130 : decode cX9_gets 130 = .ok (.getfield 46, 3) := by decide +kernel
theorem dX9_gets_133 : decode cX9_gets 133 = .ok (.iload_n 2, 1) := by decide +kernel
theorem dX9_gets_134 : decode cX9_gets 134 = .ok (.iaload, 1) := by decide +kernel
theorem dX9_gets_135 : decode cX9_gets 135 = .ok (.iastore, 1) := by decide +kernel
theorem dX9_gets_136 : decode cX9_gets 136 = .ok (.return_, 1) := by decide +kernel
theorem dX9_puts_0 : decode cX9_puts 0 = .ok (.bipush 12, 2) := by decide +kernel
theorem dX9_puts_2 : decode cX9_puts 2 = .ok (.aload_n 0, 1) := by decide +kernel
theorem dX9_puts_3 : decode cX9_puts 3 = .ok (.getfield 31, 3) := by decide +kernel
theorem dX9_puts_6 : decode cX9_puts 6 = .ok (.aload_n 0, 1) := by decide +kernel
theorem dX9_puts_7 : decode cX9_puts 7 = .ok (.getfield 126, 3) := by decide +kernel
theorem dX9_puts_10 : decode cX9_puts 10 = .ok (.iaload, 1) := by decide +kernel
theorem dX9_puts_11 : decode cX9_puts 11 = .ok (.iconst 1, 1) := by decide +kernel
theorem dX9_puts_12 : decode cX9_puts 12 = .ok (.isub, 1) := by decide +kernel
theorem dX9_puts_13 : decode cX9_puts 13 = .ok (.imul, 1) := by decide +kernel
theorem dX9_puts_14 : decode cX9_puts 14 = .ok (.aload_n 0, 1) := by decide +kernel
theorem dX9_puts_15 : decode cX9_puts 15 = .ok (.getfield 16, 3) := by decide +kernel
theorem dX9_puts_18 : decode cX9_puts 18 = .ok (.aload_n 0, 1) := by decide +kernel
theorem dX9_puts_19 : decode cX9_puts 19 = .ok (.getfield 123, 3) := by decide +kernel
theorem dX9_puts_22 : decode cX9_puts 22 = .ok (.iaload, 1) := by decide +kernel
theorem dX9_puts_23 : decode cX9_puts 23 = .ok (.iadd, 1) := by decide +kernel
theorem dX9_puts_24 : decode cX9_puts 24 = .ok (.istore_n 2, 1) := by decide +kernel
theorem dX9_puts_25 : decode cX9_puts 25 = .ok (.iload_n 1, 1) := by decide +kernel
theorem dX9_puts_26 : decode cX9_puts 26 = .ok (.tableswitch 203 0 7 #[46, 67, 87, 109, 129, 148, 166, 185], 46) := by decide +kernel
theorem dX9_puts_72 : decode cX9_puts 72 = .ok (.aload_n 0, 1) := by decide +kernel
theorem dX9_puts_73 : decode cX9_puts 73 = .ok (.getfield 40, 3) := by decide +kernel
theorem dX9_puts_76 : decode cX9_puts 76 = .ok (.iload_n 2, 1) := by decide +kernel
theorem dX9_puts_77 : decode cX9_puts 77 = .ok (.aload_n 0, 1) := by decide +kernel
theorem dX9_puts_78 : decode cX9_puts 78 = .ok (.getfield 16, 3) := by decide +kernel
theorem dX9_puts_81 : decode cX9_puts 81 = .ok (.aload_n 0, 1) := by decide +kernel
theorem dX9_puts_82 : decode cX9_puts 82 = .ok (.getfield 142, 3) := by decide +kernel
theorem dX9_puts_85 : decode cX9_puts 85 = .ok (.iaload, 1) := by decide +kernel
theorem dX9_puts_86 : decode cX9_puts 86 = .ok (.iconst 1, 1) := by decide +kernel
theorem dX9_puts_87 : decode cX9_puts 87 = .ok (.iand, 1) := by decide +kernel
theorem dX9_puts_88 : decode cX9_puts 88 = .ok (.i2l, 1) := by decide +kernel
theorem dX9_puts_89 : decode cX9_puts 89 = .ok (.lastore, 1) := by decide +kernel
theorem dX9_puts_90 : decode cX9_puts 90 = .ok (.goto 154, 3) := by decide +kernel
theorem dX9_puts_93 : decode cX9_puts 93 = .ok (.aload_n 0, 1) := by decide +kernel
theorem dX9_puts_94 : decode cX9_puts 94 = .ok (.getfield 40, 3) := by decide +kernel
theorem dX9_puts_97 : decode cX9_puts 97 = .ok (.iload_n 2, 1) := by decide +kernel
theorem dX9_puts_98 : decode cX9_puts 98 = .ok (.aload_n 0, 1) := by decide +kernel
theorem dX9_puts_99 : decode cX9_puts 99 = .ok (.getfield 16, 3) := by decide +kernel
theorem dX9_puts_102 : decode cX9_puts 102 = .ok (.aload_n 0, 1) := by decide +kernel
theorem dX9_puts_103 : decode cX9_puts 103 = .ok (.getfield 142, 3) := by decide +kernel
theorem dX9_puts_106 : decode cX9_puts 106 = .ok (.iaload, 1) := by decide +kernel
theorem dX9_puts_107 : decode cX9_puts 107 = .ok (.i2b, 1) := by decide +kernel
theorem dX9_puts_108 : decode cX9_puts 108 = .ok (.i2l, 1) := by decide +kernel
theorem dX9_puts_109 : decode cX9_puts 109 = .ok (.lastore, 1) := by decide +kernel
theorem dX9_puts_110 : decode cX9_puts 110 = .ok (.goto 134, 3) := by decide +kernel
theorem dX9_puts_113 : decode cX9_puts 113 = .ok (.aload_n 0, 1) := by decide +kernel
theorem dX9_puts_114 : decode cX9_puts 114 = .ok (.getfield 40, 3) := by decide +kernel
theorem dX9_puts_117 : decode cX9_puts 117 = .ok (.iload_n 2, 1) := by decide +kernel
theorem dX9_puts_118 : decode cX9_puts 118 = .ok (.aload_n 0, 1) := by decide +kernel
theorem dX9_puts_119 : decode cX9_puts 119 = .ok (.getfield 16, 3) := by decide +kernel
theorem dX9_puts_122 : decode cX9_puts 122 = .ok (.aload_n 0, 1) := by decide +kernel
theorem dX9_puts_123 : decode cX9_puts 123 = .ok (.getfield 142, 3) := by decide +kernel
theorem dX9_puts_126 : decode cX9_puts 126 = .ok (.iaload, 1) := by decide +kernel
theorem dX9_puts_127 : decode cX9_puts 127 = .ok (.ldc 180, 2) := by decide +kernel
theorem dX9_puts_129 : decode cX9_puts 129 = .ok (.iand, 1) := by decide +kernel
theorem dX9_puts_130 : decode cX9_puts 130 = .ok (.i2l, 1) := by decide +kernel
theorem dX9_puts_131 : decode cX9_puts 131 = .ok (.lastore, 1) := by decide +kernel
theorem dX9_puts_132 : decode cX9_puts 132 = .ok (.goto 112, 3) := by decide +kernel
theorem dX9_puts_135 : decode cX9_puts 135 = .ok (.aload_n 0, 1) := by decide +kernel
theorem dX9_puts_136 : decode cX9_puts 136 = .ok (.getfield 40, 3) := by decide +kernel
theorem dX9_puts_139 : decode cX9_puts 139 = .ok (.iload_n 2, 1) := by decide +kernel
theorem dX9_puts_140 : decode cX9_puts 140 = .ok (.aload_n 0, 1) := by decide +kernel
theorem dX9_puts_141 : decode cX9_puts 141 = .ok (.getfield 16, 3) := by decide +kernel
theorem dX9_puts_144 : decode cX9_puts 144 = .ok (.aload_n 0, 1) := by decide +kernel
theorem dX9_puts_145 : decode cX9_puts 145 = .ok (.getfield 142, 3) := by decide +kernel
theorem dX9_puts_148 : decode cX9_puts 148 = .ok (.iaload, 1) := by decide +kernel
theorem dX9_puts_149 : decode cX9_puts 149 = .ok (.i2s, 1) := by decide +kernel
theorem dX9_puts_150 : decode cX9_puts 150 = .ok (.i2l, 1) := by decide +kernel
theorem dX9_puts_151 : decode cX9_puts 151 = .ok (.lastore, 1) := by decide +kernel
theorem dX9_puts_152 : decode cX9_puts 152 = .ok (.goto 92, 3) := by decide +kernel
theorem dX9_puts_155 : decode cX9_puts 155 = .ok (.aload_n 0, 1) := by decide +kernel
theorem dX9_puts_156 : decode cX9_puts 156 = .ok (.getfield 40, 3) := by decide +kernel
theorem dX9_puts_159 : decode cX9_puts 159 = .ok (.iload_n 2, 1) := by decide +kernel
theorem dX9_puts_160 : decode cX9_puts 160 = .ok (.aload_n 0, 1) := by decide +kernel
theorem dX9_puts_161 : decode cX9_puts 161 = .ok (.getfield 16, 3) := by decide +kernel
theorem dX9_puts_164 : decode cX9_puts 164 = .ok (.aload_n 0, 1) := by decide +kernel
theorem dX9_puts_165 : decode cX9_puts 165 = .ok (.getfield 142, 3) := by decide +kernel
theorem dX9_puts_168 : decode cX9_puts 168 = .ok (.iaload, 1) := by decide +kernel
theorem dX9_puts_169 : decode cX9_puts 169 = .ok (.i2l, 1) := by decide +kernel
theorem dX9_puts_170 : decode cX9_puts 170 = .ok (.lastore, 1) := by decide +kernel
theorem dX9_puts_171 : decode cX9_puts 171 = .ok (.goto 73, 3) := by decide +kernel
theorem dX9_puts_174 : decode cX9_puts 174 = .ok (.aload_n 0, 1) := by decide +kernel
theorem dX9_puts_175 : decode cX9_puts 175 = .ok (.getfield 40, 3) := by decide +kernel
theorem dX9_puts_178 : decode cX9_puts 178 = .ok (.iload_n 2, 1) := by decide +kernel
theorem dX9_puts_179 : decode cX9_puts 179 = .ok (.aload_n 0, 1) := by decide +kernel
theorem dX9_puts_180 : decode cX9_puts 180 = .ok (.getfield 19, 3) := by decide +kernel
theorem dX9_puts_183 : decode cX9_puts 183 = .ok (.aload_n 0, 1) := by decide +kernel
theorem dX9_puts_184 : decode cX9_puts 184 = .ok (.getfield 142, 3) := by decide +kernel
theorem dX9_puts_187 : decode cX9_puts 187 = .ok (.laload, 1) := by decide +kernel
theorem dX9_puts_188 : decode cX9_puts 188 = .ok (.lastore, 1) := by decide +kernel
theorem dX9_puts_189 : decode cX9_puts 189 = .ok (.goto 55, 3) := by decide +kernel
theorem dX9_puts_192 : decode cX9_puts 192 = .ok (.aload_n 0, 1) := by decide +kernel
theorem dX9_puts_193 : decode cX9_puts 193 = .ok (.getfield 43, 3) := by decide +kernel
theorem dX9_puts_196 : decode cX9_puts 196 = .ok (.iload_n 2, 1) := by decide +kernel
theorem dX9_puts_197 : decode cX9_puts 197 = .ok (.aload_n 0, 1) := by decide +kernel
theorem dX9_puts_198 : decode cX9_puts 198 = .ok (.getfield 23, 3) := by decide +kernel
theorem dX9_puts_201 : decode cX9_puts 201 = .ok (.aload_n 0, 1) := by decide +kernel
theorem dX9_puts_202 : decode cX9_puts 202 = .ok (.getfield 142, 3) := by decide +kernel
theorem dX9_puts_205 : decode cX9_puts 205 = .ok (.faload, 1) := by decide +kernel
theorem dX9_puts_206 : decode cX9_puts 206 = .ok (.f2d, 1) := by decide +kernel
theorem dX9_puts_207 : decode cX9_puts 207 = .ok (.dastore, 1) := by decide +kernel
theorem dX9_puts_208 : decode cX9_puts 208 = .ok (.goto 36, 3) := by decide +kernel
theorem dX9_puts_211 : decode cX9_puts 211 = .ok (.aload_n 0, 1) := by decide +kernel
theorem dX9_puts_212 : decode cX9_puts 212 = .ok (.getfield 43, 3) := by decide +kernel
theorem dX9_puts_215 : decode cX9_puts 215 = .ok (.iload_n 2, 1) := by decide +kernel
theorem dX9_puts_216 : decode cX9_puts 216 = .ok (.aload_n 0, 1) := by decide +kernel
theorem dX9_puts_217 : decode cX9_puts 217 = .ok (.getfield 27, 3) := by decide +kernel
theorem dX9_puts_220 : decode cX9_puts 220 = .ok (.aload_n 0, 1) := by decide +kernel
theorem dX9_puts_221 : decode cX9_puts 221 = .ok (.getfield 142, 3) := by decide +kernel
theorem dX9_puts_224 : decode cX9_puts 224 = .ok (.daload, 1) := by decide +kernel
theorem dX9_puts_225 : decode cX9_puts 225 = .ok (.dastore, 1) := by decide +kernel
theorem dX9_puts_226 : decode cX9_puts 226 = .ok (.goto 18, 3) := by decide +kernel
theorem dX9_puts_229 : decode cX9_puts 229 = .ok (.aload_n 0, 1) := by decide +kernel
theorem dX9_puts_230 : decode cX9_puts 230 = .ok (.getfield 46, 3) := by decide +kernel
theorem dX9_puts_233 : decode cX9_puts 233 = .ok (.iload_n 2, 1) := by decide +kernel
theorem dX9_puts_234 : decode cX9_puts 234 = .ok (.aload_n 0, 1) := by decide +kernel
theorem dX9_puts_235 : decode cX9_puts 235 = .ok (.getfield 31, 3) := by decide +kernel
theorem dX9_puts_238 : decode cX9_puts 238 = .ok (.aload_n 0, 1) := by decide +kernel
theorem dX9_puts_239 : decode cX9_puts 239 = .ok (.getfield 142, 3) := by decide +kernel
theorem dX9_puts_242 : decode cX9_puts 242 = .ok (.iaload, 1) := by decide +kernel
theorem dX9_puts_243 : decode cX9_puts 243 = .ok (.iastore, 1) := by decide +kernel
theorem dX9_puts_244 : decode cX9_puts 244 = .ok (.return_, 1) := by decide +kernel
theorem dX9_turn_0 : decode cX9_turn 0 = .ok (.iload_n 2, 1) := by decide +kernel
theorem dX9_turn_1 : decode cX9_turn 1 = .ok (.iload_n 1, 1) := by decide +kernel
theorem dX9_turn_2 : decode cX9_turn 2 = .ok (.iadd, 1) := by decide +kernel
theorem dX9_turn_3 : decode cX9_turn 3 = .ok (.istore_n 3, 1) := by decide +kernel
theorem dX9_turn_4 : decode cX9_turn 4 = .ok (.iload_n 0, 1) := by decide +kernel
theorem dX9_turn_5 : decode cX9_turn 5 = .ok (.bipush 14, 2) := by decide +kernel
theorem dX9_turn_7 : decode cX9_turn 7 = .ok (.if_icmp .ne 9, 3) := by decide +kernel
theorem dX9_turn_10 : decode cX9_turn 10 = .ok (.iload_n 1, 1) := by decide +kernel
theorem dX9_turn_11 : decode cX9_turn 11 = .ok (.iload_n 2, 1) := by decide +kernel
theorem dX9_turn_12 : decode cX9_turn 12 = .ok (.imul, 1) := by decide +kernel
theorem dX9_turn_13 : decode cX9_turn 13 = .ok (.goto 18, 3) := by decide +kernel
theorem dX9_turn_16 : decode cX9_turn 16 = .ok (.iload_n 0, 1) := by decide +kernel
theorem dX9_turn_17 : decode cX9_turn 17 = .ok (.bipush 13, 2) := by decide +kernel
theorem dX9_turn_19 : decode cX9_turn 19 = .ok (.if_icmp .ne 11, 3) := by decide +kernel
theorem dX9_turn_22 : decode cX9_turn 22 = .ok (.iconst 2, 1) := by decide +kernel
theorem dX9_turn_23 : decode cX9_turn 23 = .ok (.iload_n 3, 1) := by decide +kernel
theorem dX9_turn_24 : decode cX9_turn 24 = .ok (.imul, 1) := by decide +kernel
theorem dX9_turn_25 : decode cX9_turn 25 = .ok (.iconst 1, 1) := by decide +kernel
theorem dX9_turn_26 : decode cX9_turn 26 = .ok (.iadd, 1) := by decide +kernel
theorem dX9_turn_27 : decode cX9_turn 27 = .ok (.goto 4, 3) := by decide +kernel
theorem dX9_turn_30 : decode cX9_turn 30 = .ok (.iload_n 3, 1) := by decide +kernel
theorem dX9_turn_31 : decode cX9_turn 31 = .ok (.ireturn, 1) := by decide +kernel
theorem dX9_doesKnot_0 : decode cX9_doesKnot 0 = .ok (.aload_n 0, 1) := by decide +kernel
theorem dX9_doesKnot_1 : decode cX9_doesKnot 1 = .ok (.getfield 31, 3) := by decide +kernel
theorem dX9_doesKnot_4 : decode cX9_doesKnot 4 = .ok (.aload_n 0, 1) := by decide +kernel
theorem dX9_doesKnot_5 : decode cX9_doesKnot 5 = .ok (.getfield 126, 3) := by decide +kernel
theorem dX9_doesKnot_8 : decode cX9_doesKnot 8 = .ok (.iaload, 1) := by decide +kernel
theorem dX9_doesKnot_9 : decode cX9_doesKnot 9 = .ok (.iconst 1, 1) := by decide +kernel
theorem dX9_doesKnot_10 : decode cX9_doesKnot 10 = .ok (.isub, 1) := by decide +kernel
theorem dX9_doesKnot_11 : decode cX9_doesKnot 11 = .ok (.istore_n 2, 1) := by decide +kernel
theorem dX9_doesKnot_12 : decode cX9_doesKnot 12 = .ok (.iload_n 1, 1) := by decide +kernel
theorem dX9_doesKnot_13 : decode cX9_doesKnot 13 = .ok (.tableswitch 147 59 64 #[39, 57, 75, 93, 111, 129], 39) := by decide +kernel
theorem dX9_doesKnot_52 : decode cX9_doesKnot 52 = .ok (.aload_n 0, 1) := by decide +kernel
theorem dX9_doesKnot_53 : decode cX9_doesKnot 53 = .ok (.getfield 16, 3) := by decide +kernel
theorem dX9_doesKnot_56 : decode cX9_doesKnot 56 = .ok (.aload_n 0, 1) := by decide +kernel
theorem dX9_doesKnot_57 : decode cX9_doesKnot 57 = .ok (.getfield 142, 3) := by decide +kernel
theorem dX9_doesKnot_60 : decode cX9_doesKnot 60 = .ok (.aload_n 0, 1) := by decide +kernel
theorem dX9_doesKnot_61 : decode cX9_doesKnot 61 = .ok (.getfield 49, 3) := by decide +kernel
theorem dX9_doesKnot_64 : decode cX9_doesKnot 64 = .ok (.iload_n 2, 1) := by decide +kernel
theorem dX9_doesKnot_65 : decode cX9_doesKnot 65 = .ok (.iaload, 1) := by decide +kernel
theorem dX9_doesKnot_66 : decode cX9_doesKnot 66 = .ok (.iastore, 1) := by decide +kernel
theorem dX9_doesKnot_67 : decode cX9_doesKnot 67 = .ok (.goto 126, 3) := by decide +kernel
theorem dX9_doesKnot_70 : decode cX9_doesKnot 70 = .ok (.aload_n 0, 1) := by decide +kernel
theorem dX9_doesKnot_71 : decode cX9_doesKnot 71 = .ok (.getfield 49, 3) := by decide +kernel
theorem dX9_doesKnot_74 : decode cX9_doesKnot 74 = .ok (.iload_n 2, 1) := by decide +kernel
theorem dX9_doesKnot_75 : decode cX9_doesKnot 75 = .ok (.aload_n 0, 1) := by decide +kernel
theorem dX9_doesKnot_76 : decode cX9_doesKnot 76 = .ok (.getfield 16, 3) := by decide +kernel
theorem dX9_doesKnot_79 : decode cX9_doesKnot 79 = .ok (.aload_n 0, 1) := by decide +kernel
theorem dX9_doesKnot_80 : decode cX9_doesKnot 80 = .ok (.getfield 142, 3) := by decide +kernel
theorem dX9_doesKnot_83 : decode cX9_doesKnot 83 = .ok (.iaload, 1) := by decide +kernel
theorem dX9_doesKnot_84 : decode cX9_doesKnot 84 = .ok (.iastore, 1) := by decide +kernel
theorem dX9_doesKnot_85 : decode cX9_doesKnot 85 = .ok (.goto 108, 3) := by decide +kernel
theorem dX9_doesKnot_88 : decode cX9_doesKnot 88 = .ok (.aload_n 0, 1) := by decide +kernel
theorem dX9_doesKnot_89 : decode cX9_doesKnot 89 = .ok (.getfield 19, 3) := by decide +kernel
theorem dX9_doesKnot_92 : decode cX9_doesKnot 92 = .ok (.aload_n 0, 1) := by decide +kernel
theorem dX9_doesKnot_93 : decode cX9_doesKnot 93 = .ok (.getfield 142, 3) := by decide +kernel
theorem dX9_doesKnot_96 : decode cX9_doesKnot 96 = .ok (.aload_n 0, 1) := by decide +kernel
theorem dX9_doesKnot_97 : decode cX9_doesKnot 97 = .ok (.getfield 52, 3) := by decide +kernel
theorem dX9_doesKnot_100 : decode cX9_doesKnot 100 = .ok (.iload_n 2, 1) := by decide +kernel
theorem dX9_doesKnot_101 : decode cX9_doesKnot 101 = .ok (.laload, 1) := by decide +kernel
theorem dX9_doesKnot_102 : decode cX9_doesKnot 102 = .ok (.lastore, 1) := by decide +kernel
theorem dX9_doesKnot_103 : decode cX9_doesKnot 103 = .ok (.goto 90, 3) := by decide +kernel
theorem dX9_doesKnot_106 : decode cX9_doesKnot 106 = .ok (.aload_n 0, 1) := by decide +kernel
theorem dX9_doesKnot_107 : decode cX9_doesKnot 107 = .ok (.getfield 52, 3) := by decide +kernel
theorem dX9_doesKnot_110 : decode cX9_doesKnot 110 = .ok (.iload_n 2, 1) := by decide +kernel
theorem dX9_doesKnot_111 : decode cX9_doesKnot 111 = .ok (.aload_n 0, 1) := by decide +kernel
theorem dX9_doesKnot_112 : decode cX9_doesKnot 112 = .ok (.getfield 19, 3) := by decide +kernel
theorem dX9_doesKnot_115 : decode cX9_doesKnot 115 = .ok (.aload_n 0, 1) := by decide +kernel
theorem dX9_doesKnot_116 : decode cX9_doesKnot 116 = .ok (.getfield 142, 3) := by decide +kernel
theorem dX9_doesKnot_119 : decode cX9_doesKnot 119 = .ok (.laload, 1) := by decide +kernel
theorem dX9_doesKnot_120 : decode cX9_doesKnot 120 = .ok (.lastore, 1) := by decide +kernel
theorem dX9_doesKnot_121 : decode cX9_doesKnot 121 = .ok (.goto 72, 3) := by decide +kernel
theorem dX9_doesKnot_124 : decode cX9_doesKnot 124 = .ok (.aload_n 0, 1) := by decide +kernel
theorem dX9_doesKnot_125 : decode cX9_doesKnot 125 = .ok (.getfield 31, 3) := by decide +kernel
theorem dX9_doesKnot_128 : decode cX9_doesKnot 128 = .ok (.aload_n 0, 1) := by decide +kernel
theorem dX9_doesKnot_129 : decode cX9_doesKnot 129 = .ok (.getfield 142, 3) := by decide +kernel
theorem dX9_doesKnot_132 : decode cX9_doesKnot 132 = .ok (.aload_n 0, 1) := by decide +kernel
theorem dX9_doesKnot_133 : decode cX9_doesKnot 133 = .ok (.getfield 55, 3) := by decide +kernel
theorem dX9_doesKnot_136 : decode cX9_doesKnot 136 = .ok (.iload_n 2, 1) := by decide +kernel
theorem dX9_doesKnot_137 : decode cX9_doesKnot 137 = .ok (.iaload, 1) := by decide +kernel
theorem dX9_doesKnot_138 : decode cX9_doesKnot 138 = .ok (.iastore, 1) := by decide +kernel
theorem dX9_doesKnot_139 : decode cX9_doesKnot 139 = .ok (.goto 54, 3) := by decide +kernel
theorem dX9_doesKnot_142 : decode cX9_doesKnot 142 = .ok (.aload_n 0, 1) := by decide +kernel
theorem dX9_doesKnot_143 : decode cX9_doesKnot 143 = .ok (.getfield 55, 3) := by decide +kernel
theorem dX9_doesKnot_146 : decode cX9_doesKnot 146 = .ok (.iload_n 2, 1) := by decide +kernel
theorem dX9_doesKnot_147 : decode cX9_doesKnot 147 = .ok (.aload_n 0, 1) := by decide +kernel
theorem dX9_doesKnot_148 : decode cX9_doesKnot 148 = .ok (.getfield 31, 3) := by decide +kernel
theorem dX9_doesKnot_151 : decode cX9_doesKnot 151 = .ok (.aload_n 0, 1) := by decide +kernel
theorem dX9_doesKnot_152 : decode cX9_doesKnot 152 = .ok (.getfield 142, 3) := by decide +kernel
theorem dX9_doesKnot_155 : decode cX9_doesKnot 155 = .ok (.iaload, 1) := by decide +kernel
theorem dX9_doesKnot_156 : decode cX9_doesKnot 156 = .ok (.iastore, 1) := by decide +kernel
theorem dX9_doesKnot_157 : decode cX9_doesKnot 157 = .ok (.goto 36, 3) := by decide +kernel
theorem dX9_doesKnot_160 : decode cX9_doesKnot 160 = .ok (.aload_n 0, 1) := by decide +kernel
theorem dX9_doesKnot_161 : decode cX9_doesKnot 161 = .ok (.getfield 16, 3) := by decide +kernel
theorem dX9_doesKnot_164 : decode cX9_doesKnot 164 = .ok (.aload_n 0, 1) := by decide +kernel
theorem dX9_doesKnot_165 : decode cX9_doesKnot 165 = .ok (.getfield 142, 3) := by decide +kernel
theorem dX9_doesKnot_168 : decode cX9_doesKnot 168 = .ok (.aload_n 0, 1) := by decide +kernel
theorem dX9_doesKnot_169 : decode cX9_doesKnot 169 = .ok (.getfield 34, 3) := by decide +kernel
theorem dX9_doesKnot_172 : decode cX9_doesKnot 172 = .ok (.iload_n 2, 1) := by decide +kernel
theorem dX9_doesKnot_173 : decode cX9_doesKnot 173 = .ok (.iaload, 1) := by decide +kernel
theorem dX9_doesKnot_174 : decode cX9_doesKnot 174 = .ok (.aload_n 0, 1) := by decide +kernel
theorem dX9_doesKnot_175 : decode cX9_doesKnot 175 = .ok (.getfield 49, 3) := by decide +kernel
theorem dX9_doesKnot_178 : decode cX9_doesKnot 178 = .ok (.iload_n 2, 1) := by decide +kernel
theorem dX9_doesKnot_179 : decode cX9_doesKnot 179 = .ok (.iaload, 1) := by decide +kernel
theorem dX9_doesKnot_180 : decode cX9_doesKnot 180 = .ok (.aload_n 0, 1) := by decide +kernel
theorem dX9_doesKnot_181 : decode cX9_doesKnot 181 = .ok (.getfield 16, 3) := by decide +kernel
theorem dX9_doesKnot_184 : decode cX9_doesKnot 184 = .ok (.aload_n 0, 1) := by decide +kernel
theorem dX9_doesKnot_185 : decode cX9_doesKnot 185 = .ok (.getfield 123, 3) := by decide +kernel
theorem dX9_doesKnot_188 : decode cX9_doesKnot 188 = .ok (.iaload, 1) := by decide +kernel
theorem dX9_doesKnot_189 : decode cX9_doesKnot 189 = .ok (.invokestatic 181, 3) := by decide +kernel
theorem dX9_doesKnot_192 : decode cX9_doesKnot 192 = .ok (.iastore, 1) := by decide +kernel
theorem dX9_doesKnot_193 : decode cX9_doesKnot 193 = .ok (.return_, 1) := by decide +kernel
theorem dX9_doesFault_0 : decode cX9_doesFault 0 = .ok (.iload_n 1, 1) := by decide +kernel
theorem dX9_doesFault_1 : decode cX9_doesFault 1 = .ok (.tableswitch 206 67 72 #[39, 206, 118, 134, 162, 190], 39) := by decide +kernel
theorem dX9_doesFault_40 : decode cX9_doesFault 40 = .ok (.bipush 8, 2) := by decide +kernel
theorem dX9_doesFault_42 : decode cX9_doesFault 42 = .ok (.aload_n 0, 1) := by decide +kernel
theorem dX9_doesFault_43 : decode cX9_doesFault 43 = .ok (.getfield 16, 3) := by decide +kernel
theorem dX9_doesFault_46 : decode cX9_doesFault 46 = .ok (.aload_n 0, 1) := by decide +kernel
theorem dX9_doesFault_47 : decode cX9_doesFault 47 = .ok (.getfield 126, 3) := by decide +kernel
theorem dX9_doesFault_50 : decode cX9_doesFault 50 = .ok (.iaload, 1) := by decide +kernel
theorem dX9_doesFault_51 : decode cX9_doesFault 51 = .ok (.bipush 15, 2) := by decide +kernel
theorem dX9_doesFault_53 : decode cX9_doesFault 53 = .ok (.iand, 1) := by decide +kernel
theorem dX9_doesFault_54 : decode cX9_doesFault 54 = .ok (.iadd, 1) := by decide +kernel
theorem dX9_doesFault_55 : decode cX9_doesFault 55 = .ok (.istore_n 2, 1) := by decide +kernel
theorem dX9_doesFault_56 : decode cX9_doesFault 56 = .ok (.aload_n 0, 1) := by decide +kernel
theorem dX9_doesFault_57 : decode cX9_doesFault 57 = .ok (.getfield 31, 3) := by decide +kernel
theorem dX9_doesFault_60 : decode cX9_doesFault 60 = .ok (.aload_n 0, 1) := by decide +kernel
theorem dX9_doesFault_61 : decode cX9_doesFault 61 = .ok (.getfield 123, 3) := by decide +kernel
theorem dX9_doesFault_64 : decode cX9_doesFault 64 = .ok (.iaload, 1) := by decide +kernel
theorem dX9_doesFault_65 : decode cX9_doesFault 65 = .ok (.istore_n 3, 1) := by decide +kernel
theorem dX9_doesFault_66 : decode cX9_doesFault 66 = .ok (.aload_n 0, 1) := by decide +kernel
theorem dX9_doesFault_67 : decode cX9_doesFault 67 = .ok (.getfield 31, 3) := by decide +kernel
theorem dX9_doesFault_70 : decode cX9_doesFault 70 = .ok (.aload_n 0, 1) := by decide +kernel
theorem dX9_doesFault_71 : decode cX9_doesFault 71 = .ok (.getfield 142, 3) := by decide +kernel
theorem dX9_doesFault_74 : decode cX9_doesFault 74 = .ok (.aload_n 0, 1) := by decide +kernel
theorem dX9_doesFault_75 : decode cX9_doesFault 75 = .ok (.bipush 15, 2) := by decide +kernel
theorem dX9_doesFault_77 : decode cX9_doesFault 77 = .ok (.iconst 0, 1) := by decide +kernel
theorem dX9_doesFault_78 : decode cX9_doesFault 78 = .ok (.invokevirtual 177, 3) := by decide +kernel
theorem dX9_doesFault_81 : decode cX9_doesFault 81 = .ok (.iastore, 1) := by decide +kernel
theorem dX9_doesFault_82 : decode cX9_doesFault 82 = .ok (.aload_n 0, 1) := by decide +kernel
theorem dX9_doesFault_83 : decode cX9_doesFault 83 = .ok (.getfield 49, 3) := by decide +kernel
theorem dX9_doesFault_86 : decode cX9_doesFault 86 = .ok (.aload_n 0, 1) := by decide +kernel
theorem dX9_doesFault_87 : decode cX9_doesFault 87 = .ok (.getfield 31, 3) := by decide +kernel
theorem dX9_doesFault_90 : decode cX9_doesFault 90 = .ok (.aload_n 0, 1) := by decide +kernel
theorem dX9_doesFault_91 : decode cX9_doesFault 91 = .ok (.getfield 142, 3) := by decide +kernel
theorem dX9_doesFault_94 : decode cX9_doesFault 94 = .ok (.iaload, 1) := by decide +kernel
theorem dX9_doesFault_95 : decode cX9_doesFault 95 = .ok (.iconst 1, 1) := by decide +kernel
theorem dX9_doesFault_96 : decode cX9_doesFault 96 = .ok (.isub, 1) := by decide +kernel
theorem dX9_doesFault_97 : decode cX9_doesFault 97 = .ok (.iload_n 2, 1) := by decide +kernel
theorem dX9_doesFault_98 : decode cX9_doesFault 98 = .ok (.iastore, 1) := by decide +kernel
theorem dX9_doesFault_99 : decode cX9_doesFault 99 = .ok (.aload_n 0, 1) := by decide +kernel
theorem dX9_doesFault_100 : decode cX9_doesFault 100 = .ok (.getfield 55, 3) := by decide +kernel
theorem dX9_doesFault_103 : decode cX9_doesFault 103 = .ok (.aload_n 0, 1) := by decide +kernel
theorem dX9_doesFault_104 : decode cX9_doesFault 104 = .ok (.getfield 31, 3) := by decide +kernel
theorem dX9_doesFault_107 : decode cX9_doesFault 107 = .ok (.aload_n 0, 1) := by decide +kernel
theorem dX9_doesFault_108 : decode cX9_doesFault 108 = .ok (.getfield 142, 3) := by decide +kernel
theorem dX9_doesFault_111 : decode cX9_doesFault 111 = .ok (.iaload, 1) := by decide +kernel
theorem dX9_doesFault_112 : decode cX9_doesFault 112 = .ok (.iconst 1, 1) := by decide +kernel
theorem dX9_doesFault_113 : decode cX9_doesFault 113 = .ok (.isub, 1) := by decide +kernel
theorem dX9_doesFault_114 : decode cX9_doesFault 114 = .ok (.iload_n 3, 1) := by decide +kernel
theorem dX9_doesFault_115 : decode cX9_doesFault 115 = .ok (.iastore, 1) := by decide +kernel
theorem dX9_doesFault_116 : decode cX9_doesFault 116 = .ok (.goto 129, 3) := by decide +kernel
theorem dX9_doesFault_119 : decode cX9_doesFault 119 = .ok (.aload_n 0, 1) := by decide +kernel
theorem dX9_doesFault_120 : decode cX9_doesFault 120 = .ok (.getfield 31, 3) := by decide +kernel
theorem dX9_doesFault_123 : decode cX9_doesFault 123 = .ok (.aload_n 0, 1) := by decide +kernel
theorem dX9_doesFault_124 : decode cX9_doesFault 124 = .ok (.getfield 142, 3) := by decide +kernel
theorem dX9_doesFault_127 : decode cX9_doesFault 127 = .ok (.aload_n 0, 1) := by decide +kernel
theorem dX9_doesFault_128 : decode cX9_doesFault 128 = .ok (.getfield 113, 3) := by decide +kernel
theorem dX9_doesFault_131 : decode cX9_doesFault 131 = .ok (.iastore, 1) := by decide +kernel
theorem dX9_doesFault_132 : decode cX9_doesFault 132 = .ok (.goto 113, 3) := by decide +kernel
theorem dX9_doesFault_135 : decode cX9_doesFault 135 = .ok (.aload_n 0, 1) := by decide +kernel
theorem dX9_doesFault_136 : decode cX9_doesFault 136 = .ok (.getfield 16, 3) := by decide +kernel
theorem dX9_doesFault_139 : decode cX9_doesFault 139 = .ok (.aload_n 0, 1) := by decide +kernel
theorem dX9_doesFault_140 : decode cX9_doesFault 140 = .ok (.getfield 142, 3) := by decide +kernel
theorem dX9_doesFault_143 : decode cX9_doesFault 143 = .ok (.aload_n 0, 1) := by decide +kernel
theorem dX9_doesFault_144 : decode cX9_doesFault 144 = .ok (.getfield 49, 3) := by decide +kernel
theorem dX9_doesFault_147 : decode cX9_doesFault 147 = .ok (.aload_n 0, 1) := by decide +kernel
theorem dX9_doesFault_148 : decode cX9_doesFault 148 = .ok (.getfield 31, 3) := by decide +kernel
theorem dX9_doesFault_151 : decode cX9_doesFault 151 = .ok (.aload_n 0, 1) := by decide +kernel
theorem dX9_doesFault_152 : decode cX9_doesFault 152 = .ok (.getfield 126, 3) := by decide +kernel
theorem dX9_doesFault_155 : decode cX9_doesFault 155 = .ok (.iaload, 1) := by decide +kernel
theorem dX9_doesFault_156 : decode cX9_doesFault 156 = .ok (.iconst 1, 1) := by decide +kernel
theorem dX9_doesFault_157 : decode cX9_doesFault 157 = .ok (.isub, 1) := by decide +kernel
theorem dX9_doesFault_158 : decode cX9_doesFault 158 = .ok (.iaload, 1) := by decide +kernel
theorem dX9_doesFault_159 : decode cX9_doesFault 159 = .ok (.iastore, 1) := by decide +kernel
theorem dX9_doesFault_160 : decode cX9_doesFault 160 = .ok (.goto 85, 3) := by decide +kernel
theorem dX9_doesFault_163 : decode cX9_doesFault 163 = .ok (.aload_n 0, 1) := by decide +kernel
theorem dX9_doesFault_164 : decode cX9_doesFault 164 = .ok (.getfield 31, 3) := by decide +kernel
theorem dX9_doesFault_167 : decode cX9_doesFault 167 = .ok (.aload_n 0, 1) := by decide +kernel
theorem dX9_doesFault_168 : decode cX9_doesFault 168 = .ok (.getfield 142, 3) := by decide +kernel
theorem dX9_doesFault_171 : decode cX9_doesFault 171 = .ok (.aload_n 0, 1) := by decide +kernel
theorem dX9_doesFault_172 : decode cX9_doesFault 172 = .ok (.getfield 55, 3) := by decide +kernel
theorem dX9_doesFault_175 : decode cX9_doesFault 175 = .ok (.aload_n 0, 1) := by decide +kernel
theorem dX9_doesFault_176 : decode cX9_doesFault 176 = .ok (.getfield 31, 3) := by decide +kernel
theorem dX9_doesFault_179 : decode cX9_doesFault 179 = .ok (.aload_n 0, 1) := by decide +kernel
theorem dX9_doesFault_180 : decode cX9_doesFault 180 = .ok (.getfield 126, 3) := by decide +kernel
theorem dX9_doesFault_183 : decode cX9_doesFault 183 = .ok (.iaload, 1) := by decide +kernel
theorem dX9_doesFault_184 : decode cX9_doesFault 184 = .ok (.iconst 1, 1) := by decide +kernel
theorem dX9_doesFault_185 : decode cX9_doesFault 185 = .ok (.isub, 1) := by decide +kernel
theorem dX9_doesFault_186 : decode cX9_doesFault 186 = .ok (.iaload, 1) := by decide +kernel
theorem dX9_doesFault_187 : decode cX9_doesFault 187 = .ok (.iastore, 1) := by decide +kernel
theorem dX9_doesFault_188 : decode cX9_doesFault 188 = .ok (.goto 57, 3) := by decide +kernel
theorem dX9_doesFault_191 : decode cX9_doesFault 191 = .ok (.aload_n 0, 1) := by decide +kernel
theorem dX9_doesFault_192 : decode cX9_doesFault 192 = .ok (.getfield 16, 3) := by decide +kernel
theorem dX9_doesFault_195 : decode cX9_doesFault 195 = .ok (.aload_n 0, 1) := by decide +kernel
theorem dX9_doesFault_196 : decode cX9_doesFault 196 = .ok (.getfield 142, 3) := by decide +kernel
theorem dX9_doesFault_199 : decode cX9_doesFault 199 = .ok (.aload_n 0, 1) := by decide +kernel
theorem dX9_doesFault_200 : decode cX9_doesFault 200 = .ok (.getfield 110, 3) := by decide +kernel
theorem dX9_doesFault_203 : decode cX9_doesFault 203 = .ok (.iastore, 1) := by decide +kernel
theorem dX9_doesFault_204 : decode cX9_doesFault 204 = .ok (.goto 41, 3) := by decide +kernel
theorem dX9_doesFault_207 : decode cX9_doesFault 207 = .ok (.aload_n 0, 1) := by decide +kernel
theorem dX9_doesFault_208 : decode cX9_doesFault 208 = .ok (.getfield 101, 3) := by decide +kernel
theorem dX9_doesFault_211 : decode cX9_doesFault 211 = .ok (.sipush 200, 3) := by decide +kernel
theorem dX9_doesFault_214 : decode cX9_doesFault 214 = .ok (.if_icmp .ge 21, 3) := by decide +kernel
theorem dX9_doesFault_217 : decode cX9_doesFault 217 = .ok (.aload_n 0, 1) := by decide +kernel
theorem dX9_doesFault_218 : decode cX9_doesFault 218 = .ok (.getfield 61, 3) := by decide +kernel
theorem dX9_doesFault_221 : decode cX9_doesFault 221 = .ok (.aload_n 0, 1) := by decide +kernel
theorem dX9_doesFault_222 : decode cX9_doesFault 222 = .ok (.getfield 101, 3) := by decide +kernel
theorem dX9_doesFault_225 : decode cX9_doesFault 225 = .ok (.aload_n 0, 1) := by decide +kernel
theorem dX9_doesFault_226 : decode cX9_doesFault 226 = .ok (.getfield 16, 3) := by decide +kernel
theorem dX9_doesFault_229 : decode cX9_doesFault 229 = .ok (.aload_n 0, 1) := by decide +kernel
theorem dX9_doesFault_230 : decode cX9_doesFault 230 = .ok (.getfield 142, 3) := by decide +kernel
theorem dX9_doesFault_233 : decode cX9_doesFault 233 = .ok (.iaload, 1) := by decide +kernel
theorem dX9_doesFault_234 : decode cX9_doesFault 234 = .ok (.iastore, 1) := by decide +kernel
theorem dX9_doesFault_235 : decode cX9_doesFault 235 = .ok (.aload_n 0, 1) := by decide +kernel
theorem dX9_doesFault_236 : decode cX9_doesFault 236 = .ok (.dup, 1) := by decide +kernel
theorem dX9_doesFault_237 : decode cX9_doesFault 237 = .ok (.getfield 101, 3) := by decide +kernel
theorem dX9_doesFault_240 : decode cX9_doesFault 240 = .ok (.iconst 1, 1) := by decide +kernel
theorem dX9_doesFault_241 : decode cX9_doesFault 241 = .ok (.iadd, 1) := by decide +kernel
theorem dX9_doesFault_242 : decode cX9_doesFault 242 = .ok (.putfield 101, 3) := by decide +kernel
theorem dX9_doesFault_245 : decode cX9_doesFault 245 = .ok (.return_, 1) := by decide +kernel
theorem dX9_handlerOf_0 : decode cX9_handlerOf 0 = .ok (.iconst 0, 1) := by decide +kernel
theorem dX9_handlerOf_1 : decode cX9_handlerOf 1 = .ok (.istore_n 3, 1) := by decide +kernel
theorem dX9_handlerOf_2 : decode cX9_handlerOf 2 = .ok (.iload_n 3, 1) := by decide +kernel
theorem dX9_handlerOf_3 : decode cX9_handlerOf 3 = .ok (.aload_n 0, 1) := by decide +kernel
theorem dX9_handlerOf_4 : decode cX9_handlerOf 4 = .ok (.getfield 86, 3) := by decide +kernel
theorem dX9_handlerOf_7 : decode cX9_handlerOf 7 = .ok (.if_icmp .ge 55, 3) := by decide +kernel
theorem dX9_handlerOf_10 : decode cX9_handlerOf 10 = .ok (.iload_n 1, 1) := by decide +kernel
theorem dX9_handlerOf_11 : decode cX9_handlerOf 11 = .ok (.aload_n 0, 1) := by decide +kernel
theorem dX9_handlerOf_12 : decode cX9_handlerOf 12 = .ok (.getfield 13, 3) := by decide +kernel
theorem dX9_handlerOf_15 : decode cX9_handlerOf 15 = .ok (.iconst 4, 1) := by decide +kernel
theorem dX9_handlerOf_16 : decode cX9_handlerOf 16 = .ok (.iload_n 3, 1) := by decide +kernel
theorem dX9_handlerOf_17 : decode cX9_handlerOf 17 = .ok (.imul, 1) := by decide +kernel
theorem dX9_handlerOf_18 : decode cX9_handlerOf 18 = .ok (.iaload, 1) := by decide +kernel
theorem dX9_handlerOf_19 : decode cX9_handlerOf 19 = .ok (.if_icmp .lt 37, 3) := by decide +kernel
theorem dX9_handlerOf_22 : decode cX9_handlerOf 22 = .ok (.iload_n 1, 1) := by decide +kernel
theorem dX9_handlerOf_23 : decode cX9_handlerOf 23 = .ok (.aload_n 0, 1) := by decide +kernel
theorem dX9_handlerOf_24 : decode cX9_handlerOf 24 = .ok (.getfield 13, 3) := by decide +kernel
theorem dX9_handlerOf_27 : decode cX9_handlerOf 27 = .ok (.iconst 4, 1) := by decide +kernel
theorem dX9_handlerOf_28 : decode cX9_handlerOf 28 = .ok (.iload_n 3, 1) := by decide +kernel
theorem dX9_handlerOf_29 : decode cX9_handlerOf 29 = .ok (.imul, 1) := by decide +kernel
theorem dX9_handlerOf_30 : decode cX9_handlerOf 30 = .ok (.iconst 1, 1) := by decide +kernel
theorem dX9_handlerOf_31 : decode cX9_handlerOf 31 = .ok (.iadd, 1) := by decide +kernel
theorem dX9_handlerOf_32 : decode cX9_handlerOf 32 = .ok (.iaload, 1) := by decide +kernel
theorem dX9_handlerOf_33 : decode cX9_handlerOf 33 = .ok (.if_icmp .ge 23, 3) := by decide +kernel
theorem dX9_handlerOf_36 : decode cX9_handlerOf 36 = .ok (.aload_n 0, 1) := by decide +kernel
theorem dX9_handlerOf_37 : decode cX9_handlerOf 37 = .ok (.getfield 13, 3) := by decide +kernel
theorem dX9_handlerOf_40 : decode cX9_handlerOf 40 = .ok (.iconst 4, 1) := by decide +kernel
theorem dX9_handlerOf_41 : decode cX9_handlerOf 41 = .ok (.iload_n 3, 1) := by decide +kernel
theorem dX9_handlerOf_42 : decode cX9_handlerOf 42 = .ok (.imul, 1) := by decide +kernel
theorem dX9_handlerOf_43 : decode cX9_handlerOf 43 = .ok (.iconst 2, 1) := by decide +kernel
theorem dX9_handlerOf_44 : decode cX9_handlerOf 44 = .ok (.iadd, 1) := by decide +kernel
theorem dX9_handlerOf_45 : decode cX9_handlerOf 45 = .ok (.iaload, 1) := by decide +kernel
theorem dX9_handlerOf_46 : decode cX9_handlerOf 46 = .ok (.iload_n 2, 1) := by decide +kernel
theorem dX9_handlerOf_47 : decode cX9_handlerOf 47 = .ok (.ishr, 1) := by decide +kernel
theorem dX9_handlerOf_48 : decode cX9_handlerOf 48 = .ok (.iconst 1, 1) := by decide +kernel
theorem dX9_handlerOf_49 : decode cX9_handlerOf 49 = .ok (.iand, 1) := by decide +kernel
theorem dX9_handlerOf_50 : decode cX9_handlerOf 50 = .ok (.iconst 1, 1) := by decide +kernel
theorem dX9_handlerOf_51 : decode cX9_handlerOf 51 = .ok (.if_icmp .ne 5, 3) := by decide +kernel
theorem dX9_handlerOf_54 : decode cX9_handlerOf 54 = .ok (.iload_n 3, 1) := by decide +kernel
theorem dX9_handlerOf_55 : decode cX9_handlerOf 55 = .ok (.ireturn, 1) := by decide +kernel
theorem dX9_handlerOf_56 : decode cX9_handlerOf 56 = .ok (.iinc 3 1, 3) := by decide +kernel
theorem dX9_handlerOf_59 : decode cX9_handlerOf 59 = .ok (.goto (-57), 3) := by decide +kernel
theorem dX9_handlerOf_62 : decode cX9_handlerOf 62 = .ok (.iconst (-1), 1) := by decide +kernel
theorem dX9_handlerOf_63 : decode cX9_handlerOf 63 = .ok (.ireturn, 1) := by decide +kernel
theorem dX9_fails_0 : decode cX9_fails 0 = .ok (.aload_n 0, 1) := by decide +kernel
theorem dX9_fails_1 : decode cX9_fails 1 = .ok (.dup, 1) := by decide +kernel
theorem dX9_fails_2 : decode cX9_fails 2 = .ok (.getfield 104, 3) := by decide +kernel
theorem dX9_fails_5 : decode cX9_fails 5 = .ok (.iconst 1, 1) := by decide +kernel
theorem dX9_fails_6 : decode cX9_fails 6 = .ok (.iadd, 1) := by decide +kernel
theorem dX9_fails_7 : decode cX9_fails 7 = .ok (.putfield 104, 3) := by decide +kernel
theorem dX9_fails_10 : decode cX9_fails 10 = .ok (.aload_n 0, 1) := by decide +kernel
theorem dX9_fails_11 : decode cX9_fails 11 = .ok (.iload_n 2, 1) := by decide +kernel
theorem dX9_fails_12 : decode cX9_fails 12 = .ok (.putfield 107, 3) := by decide +kernel
theorem dX9_fails_15 : decode cX9_fails 15 = .ok (.aload_n 0, 1) := by decide +kernel
theorem dX9_fails_16 : decode cX9_fails 16 = .ok (.aload_n 0, 1) := by decide +kernel
theorem dX9_fails_17 : decode cX9_fails 17 = .ok (.getfield 92, 3) := by decide +kernel
theorem dX9_fails_20 : decode cX9_fails 20 = .ok (.putfield 64, 3) := by decide +kernel
theorem dX9_fails_23 : decode cX9_fails 23 = .ok (.aload_n 0, 1) := by decide +kernel
theorem dX9_fails_24 : decode cX9_fails 24 = .ok (.aload_n 0, 1) := by decide +kernel
theorem dX9_fails_25 : decode cX9_fails 25 = .ok (.getfield 92, 3) := by decide +kernel
theorem dX9_fails_28 : decode cX9_fails 28 = .ok (.iload_n 2, 1) := by decide +kernel
theorem dX9_fails_29 : decode cX9_fails 29 = .ok (.invokevirtual 185, 3) := by decide +kernel
theorem dX9_fails_32 : decode cX9_fails 32 = .ok (.istore_n 3, 1) := by decide +kernel
theorem dX9_fails_33 : decode cX9_fails 33 = .ok (.iload_n 3, 1) := by decide +kernel
theorem dX9_fails_34 : decode cX9_fails 34 = .ok (.ifCond .ge 38, 3) := by decide +kernel
theorem dX9_fails_37 : decode cX9_fails 37 = .ok (.aload_n 0, 1) := by decide +kernel
theorem dX9_fails_38 : decode cX9_fails 38 = .ok (.getfield 98, 3) := by decide +kernel
theorem dX9_fails_41 : decode cX9_fails 41 = .ok (.ifCond .le 31, 3) := by decide +kernel
theorem dX9_fails_44 : decode cX9_fails 44 = .ok (.aload_n 0, 1) := by decide +kernel
theorem dX9_fails_45 : decode cX9_fails 45 = .ok (.dup, 1) := by decide +kernel
theorem dX9_fails_46 : decode cX9_fails 46 = .ok (.getfield 98, 3) := by decide +kernel
theorem dX9_fails_49 : decode cX9_fails 49 = .ok (.iconst 1, 1) := by decide +kernel
theorem dX9_fails_50 : decode cX9_fails 50 = .ok (.isub, 1) := by decide +kernel
theorem dX9_fails_51 : decode cX9_fails 51 = .ok (.putfield 98, 3) := by decide +kernel
theorem dX9_fails_54 : decode cX9_fails 54 = .ok (.aload_n 0, 1) := by decide +kernel
theorem dX9_fails_55 : decode cX9_fails 55 = .ok (.aload_n 0, 1) := by decide +kernel
theorem dX9_fails_56 : decode cX9_fails 56 = .ok (.getfield 58, 3) := by decide +kernel
theorem dX9_fails_59 : decode cX9_fails 59 = .ok (.aload_n 0, 1) := by decide +kernel
theorem dX9_fails_60 : decode cX9_fails 60 = .ok (.getfield 98, 3) := by decide +kernel
theorem dX9_fails_63 : decode cX9_fails 63 = .ok (.iaload, 1) := by decide +kernel
theorem dX9_fails_64 : decode cX9_fails 64 = .ok (.iload_n 2, 1) := by decide +kernel
theorem dX9_fails_65 : decode cX9_fails 65 = .ok (.invokevirtual 185, 3) := by decide +kernel
theorem dX9_fails_68 : decode cX9_fails 68 = .ok (.istore_n 3, 1) := by decide +kernel
theorem dX9_fails_69 : decode cX9_fails 69 = .ok (.goto (-36), 3) := by decide +kernel
theorem dX9_fails_72 : decode cX9_fails 72 = .ok (.iload_n 3, 1) := by decide +kernel
theorem dX9_fails_73 : decode cX9_fails 73 = .ok (.ifCond .ge 9, 3) := by decide +kernel
theorem dX9_fails_76 : decode cX9_fails 76 = .ok (.aload_n 0, 1) := by decide +kernel
theorem dX9_fails_77 : decode cX9_fails 77 = .ok (.iconst 3, 1) := by decide +kernel
theorem dX9_fails_78 : decode cX9_fails 78 = .ok (.putfield 83, 3) := by decide +kernel
theorem dX9_fails_81 : decode cX9_fails 81 = .ok (.return_, 1) := by decide +kernel
theorem dX9_fails_82 : decode cX9_fails 82 = .ok (.aload_n 0, 1) := by decide +kernel
theorem dX9_fails_83 : decode cX9_fails 83 = .ok (.iload_n 2, 1) := by decide +kernel
theorem dX9_fails_84 : decode cX9_fails 84 = .ok (.putfield 110, 3) := by decide +kernel
theorem dX9_fails_87 : decode cX9_fails 87 = .ok (.aload_n 0, 1) := by decide +kernel
theorem dX9_fails_88 : decode cX9_fails 88 = .ok (.iload_n 1, 1) := by decide +kernel
theorem dX9_fails_89 : decode cX9_fails 89 = .ok (.bipush 68, 2) := by decide +kernel
theorem dX9_fails_91 : decode cX9_fails 91 = .ok (.if_icmp .ne 21, 3) := by decide +kernel
theorem dX9_fails_94 : decode cX9_fails 94 = .ok (.iload_n 2, 1) := by decide +kernel
theorem dX9_fails_95 : decode cX9_fails 95 = .ok (.bipush 8, 2) := by decide +kernel
theorem dX9_fails_97 : decode cX9_fails 97 = .ok (.if_icmp .lt 15, 3) := by decide +kernel
theorem dX9_fails_100 : decode cX9_fails 100 = .ok (.aload_n 0, 1) := by decide +kernel
theorem dX9_fails_101 : decode cX9_fails 101 = .ok (.getfield 31, 3) := by decide +kernel
theorem dX9_fails_104 : decode cX9_fails 104 = .ok (.aload_n 0, 1) := by decide +kernel
theorem dX9_fails_105 : decode cX9_fails 105 = .ok (.getfield 142, 3) := by decide +kernel
theorem dX9_fails_108 : decode cX9_fails 108 = .ok (.iaload, 1) := by decide +kernel
theorem dX9_fails_109 : decode cX9_fails 109 = .ok (.goto 4, 3) := by decide +kernel
theorem dX9_fails_112 : decode cX9_fails 112 = .ok (.iconst 0, 1) := by decide +kernel
theorem dX9_fails_113 : decode cX9_fails 113 = .ok (.putfield 113, 3) := by decide +kernel
theorem dX9_fails_116 : decode cX9_fails 116 = .ok (.aload_n 0, 1) := by decide +kernel
theorem dX9_fails_117 : decode cX9_fails 117 = .ok (.aload_n 0, 1) := by decide +kernel
theorem dX9_fails_118 : decode cX9_fails 118 = .ok (.getfield 13, 3) := by decide +kernel
theorem dX9_fails_121 : decode cX9_fails 121 = .ok (.iconst 4, 1) := by decide +kernel
theorem dX9_fails_122 : decode cX9_fails 122 = .ok (.iload_n 3, 1) := by decide +kernel
theorem dX9_fails_123 : decode cX9_fails 123 = .ok (.imul, 1) := by decide +kernel
theorem dX9_fails_124 : decode cX9_fails 124 = .ok (.iconst 3, 1) := by decide +kernel
theorem dX9_fails_125 : decode cX9_fails 125 = .ok (.iadd, 1) := by decide +kernel
theorem dX9_fails_126 : decode cX9_fails 126 = .ok (.iaload, 1) := by decide +kernel
theorem dX9_fails_127 : decode cX9_fails 127 = .ok (.putfield 174, 3) := by decide +kernel
theorem dX9_fails_130 : decode cX9_fails 130 = .ok (.return_, 1) := by decide +kernel
theorem dX9_one_0 : decode cX9_one 0 = .ok (.aload_n 0, 1) := by decide +kernel
theorem dX9_one_1 : decode cX9_one 1 = .ok (.getfield 7, 3) := by decide +kernel
theorem dX9_one_4 : decode cX9_one 4 = .ok (.iconst 4, 1) := by decide +kernel
theorem dX9_one_5 : decode cX9_one 5 = .ok (.aload_n 0, 1) := by decide +kernel
theorem dX9_one_6 : decode cX9_one 6 = .ok (.getfield 92, 3) := by decide +kernel
theorem dX9_one_9 : decode cX9_one 9 = .ok (.imul, 1) := by decide +kernel
theorem dX9_one_10 : decode cX9_one 10 = .ok (.iaload, 1) := by decide +kernel
theorem dX9_one_11 : decode cX9_one 11 = .ok (.istore_n 1, 1) := by decide +kernel
theorem dX9_one_12 : decode cX9_one 12 = .ok (.aload_n 0, 1) := by decide +kernel
theorem dX9_one_13 : decode cX9_one 13 = .ok (.aload_n 0, 1) := by decide +kernel
theorem dX9_one_14 : decode cX9_one 14 = .ok (.getfield 7, 3) := by decide +kernel
theorem dX9_one_17 : decode cX9_one 17 = .ok (.iconst 4, 1) := by decide +kernel
theorem dX9_one_18 : decode cX9_one 18 = .ok (.aload_n 0, 1) := by decide +kernel
theorem dX9_one_19 : decode cX9_one 19 = .ok (.getfield 92, 3) := by decide +kernel
theorem dX9_one_22 : decode cX9_one 22 = .ok (.imul, 1) := by decide +kernel
theorem dX9_one_23 : decode cX9_one 23 = .ok (.iconst 1, 1) := by decide +kernel
theorem dX9_one_24 : decode cX9_one 24 = .ok (.iadd, 1) := by decide +kernel
theorem dX9_one_25 : decode cX9_one 25 = .ok (.iaload, 1) := by decide +kernel
theorem dX9_one_26 : decode cX9_one 26 = .ok (.putfield 142, 3) := by decide +kernel
theorem dX9_one_29 : decode cX9_one 29 = .ok (.aload_n 0, 1) := by decide +kernel
theorem dX9_one_30 : decode cX9_one 30 = .ok (.aload_n 0, 1) := by decide +kernel
theorem dX9_one_31 : decode cX9_one 31 = .ok (.getfield 7, 3) := by decide +kernel
theorem dX9_one_34 : decode cX9_one 34 = .ok (.iconst 4, 1) := by decide +kernel
theorem dX9_one_35 : decode cX9_one 35 = .ok (.aload_n 0, 1) := by decide +kernel
theorem dX9_one_36 : decode cX9_one 36 = .ok (.getfield 92, 3) := by decide +kernel
theorem dX9_one_39 : decode cX9_one 39 = .ok (.imul, 1) := by decide +kernel
theorem dX9_one_40 : decode cX9_one 40 = .ok (.iconst 2, 1) := by decide +kernel
theorem dX9_one_41 : decode cX9_one 41 = .ok (.iadd, 1) := by decide +kernel
theorem dX9_one_42 : decode cX9_one 42 = .ok (.iaload, 1) := by decide +kernel
theorem dX9_one_43 : decode cX9_one 43 = .ok (.putfield 126, 3) := by decide +kernel
theorem dX9_one_46 : decode cX9_one 46 = .ok (.aload_n 0, 1) := by decide +kernel
theorem dX9_one_47 : decode cX9_one 47 = .ok (.aload_n 0, 1) := by decide +kernel
theorem dX9_one_48 : decode cX9_one 48 = .ok (.getfield 7, 3) := by decide +kernel
theorem dX9_one_51 : decode cX9_one 51 = .ok (.iconst 4, 1) := by decide +kernel
theorem dX9_one_52 : decode cX9_one 52 = .ok (.aload_n 0, 1) := by decide +kernel
theorem dX9_one_53 : decode cX9_one 53 = .ok (.getfield 92, 3) := by decide +kernel
theorem dX9_one_56 : decode cX9_one 56 = .ok (.imul, 1) := by decide +kernel
theorem dX9_one_57 : decode cX9_one 57 = .ok (.iconst 3, 1) := by decide +kernel
theorem dX9_one_58 : decode cX9_one 58 = .ok (.iadd, 1) := by decide +kernel
theorem dX9_one_59 : decode cX9_one 59 = .ok (.iaload, 1) := by decide +kernel
theorem dX9_one_60 : decode cX9_one 60 = .ok (.putfield 123, 3) := by decide +kernel
theorem dX9_one_63 : decode cX9_one 63 = .ok (.aload_n 0, 1) := by decide +kernel
theorem dX9_one_64 : decode cX9_one 64 = .ok (.aload_n 0, 1) := by decide +kernel
theorem dX9_one_65 : decode cX9_one 65 = .ok (.getfield 92, 3) := by decide +kernel
theorem dX9_one_68 : decode cX9_one 68 = .ok (.iconst 1, 1) := by decide +kernel
theorem dX9_one_69 : decode cX9_one 69 = .ok (.iadd, 1) := by decide +kernel
theorem dX9_one_70 : decode cX9_one 70 = .ok (.putfield 174, 3) := by decide +kernel
theorem dX9_one_73 : decode cX9_one 73 = .ok (.aload_n 0, 1) := by decide +kernel
theorem dX9_one_74 : decode cX9_one 74 = .ok (.iload_n 1, 1) := by decide +kernel
theorem dX9_one_75 : decode cX9_one 75 = .ok (.invokevirtual 188, 3) := by decide +kernel
theorem dX9_one_78 : decode cX9_one 78 = .ok (.istore_n 2, 1) := by decide +kernel
theorem dX9_one_79 : decode cX9_one 79 = .ok (.iload_n 2, 1) := by decide +kernel
theorem dX9_one_80 : decode cX9_one 80 = .ok (.ifCond .ne 11, 3) := by decide +kernel
theorem dX9_one_83 : decode cX9_one 83 = .ok (.aload_n 0, 1) := by decide +kernel
theorem dX9_one_84 : decode cX9_one 84 = .ok (.iload_n 1, 1) := by decide +kernel
theorem dX9_one_85 : decode cX9_one 85 = .ok (.invokevirtual 191, 3) := by decide +kernel
theorem dX9_one_88 : decode cX9_one 88 = .ok (.goto 9, 3) := by decide +kernel
theorem dX9_one_91 : decode cX9_one 91 = .ok (.aload_n 0, 1) := by decide +kernel
theorem dX9_one_92 : decode cX9_one 92 = .ok (.iload_n 1, 1) := by decide +kernel
theorem dX9_one_93 : decode cX9_one 93 = .ok (.iload_n 2, 1) := by decide +kernel
theorem dX9_one_94 : decode cX9_one 94 = .ok (.invokevirtual 194, 3) := by decide +kernel
theorem dX9_one_97 : decode cX9_one 97 = .ok (.aload_n 0, 1) := by decide +kernel
theorem dX9_one_98 : decode cX9_one 98 = .ok (.dup, 1) := by decide +kernel
theorem dX9_one_99 : decode cX9_one 99 = .ok (.getfield 95, 3) := by decide +kernel
theorem dX9_one_102 : decode cX9_one 102 = .ok (.iconst 1, 1) := by decide +kernel
theorem dX9_one_103 : decode cX9_one 103 = .ok (.iadd, 1) := by decide +kernel
theorem dX9_one_104 : decode cX9_one 104 = .ok (.putfield 95, 3) := by decide +kernel
theorem dX9_one_107 : decode cX9_one 107 = .ok (.aload_n 0, 1) := by decide +kernel
theorem dX9_one_108 : decode cX9_one 108 = .ok (.getfield 83, 3) := by decide +kernel
theorem dX9_one_111 : decode cX9_one 111 = .ok (.iconst 1, 1) := by decide +kernel
theorem dX9_one_112 : decode cX9_one 112 = .ok (.if_icmp .ne 31, 3) := by decide +kernel
theorem dX9_one_115 : decode cX9_one 115 = .ok (.aload_n 0, 1) := by decide +kernel
theorem dX9_one_116 : decode cX9_one 116 = .ok (.aload_n 0, 1) := by decide +kernel
theorem dX9_one_117 : decode cX9_one 117 = .ok (.getfield 174, 3) := by decide +kernel
theorem dX9_one_120 : decode cX9_one 120 = .ok (.putfield 92, 3) := by decide +kernel
theorem dX9_one_123 : decode cX9_one 123 = .ok (.aload_n 0, 1) := by decide +kernel
theorem dX9_one_124 : decode cX9_one 124 = .ok (.aload_n 0, 1) := by decide +kernel
theorem dX9_one_125 : decode cX9_one 125 = .ok (.getfield 92, 3) := by decide +kernel
theorem dX9_one_128 : decode cX9_one 128 = .ok (.aload_n 0, 1) := by decide +kernel
theorem dX9_one_129 : decode cX9_one 129 = .ok (.getfield 80, 3) := by decide +kernel
theorem dX9_one_132 : decode cX9_one 132 = .ok (.if_icmp .ge 7, 3) := by decide +kernel
theorem dX9_one_135 : decode cX9_one 135 = .ok (.iconst 1, 1) := by decide +kernel
theorem dX9_one_136 : decode cX9_one 136 = .ok (.goto 4, 3) := by decide +kernel
theorem dX9_one_139 : decode cX9_one 139 = .ok (.iconst 2, 1) := by decide +kernel
theorem dX9_one_140 : decode cX9_one 140 = .ok (.putfield 83, 3) := by decide +kernel
theorem dX9_one_143 : decode cX9_one 143 = .ok (.return_, 1) := by decide +kernel
theorem dX9_step_0 : decode cX9_step 0 = .ok (.aload_n 0, 1) := by decide +kernel
theorem dX9_step_1 : decode cX9_step 1 = .ok (.getfield 83, 3) := by decide +kernel
theorem dX9_step_4 : decode cX9_step 4 = .ok (.ifCond .ne 5, 3) := by decide +kernel
theorem dX9_step_7 : decode cX9_step 7 = .ok (.iconst (-1), 1) := by decide +kernel
theorem dX9_step_8 : decode cX9_step 8 = .ok (.ireturn, 1) := by decide +kernel
theorem dX9_step_9 : decode cX9_step 9 = .ok (.iload_n 1, 1) := by decide +kernel
theorem dX9_step_10 : decode cX9_step 10 = .ok (.iconst 0, 1) := by decide +kernel
theorem dX9_step_11 : decode cX9_step 11 = .ok (.bipush 100, 2) := by decide +kernel
theorem dX9_step_13 : decode cX9_step 13 = .ok (.invokestatic 68, 3) := by decide +kernel
theorem dX9_step_16 : decode cX9_step 16 = .ok (.ifCond .ne 6, 3) := by decide +kernel
theorem dX9_step_19 : decode cX9_step 19 = .ok (.bipush (-2), 2) := by decide +kernel
theorem dX9_step_21 : decode cX9_step 21 = .ok (.ireturn, 1) := by decide +kernel
theorem dX9_step_22 : decode cX9_step 22 = .ok (.iconst 0, 1) := by decide +kernel
theorem dX9_step_23 : decode cX9_step 23 = .ok (.istore_n 2, 1) := by decide +kernel
theorem dX9_step_24 : decode cX9_step 24 = .ok (.iload_n 2, 1) := by decide +kernel
theorem dX9_step_25 : decode cX9_step 25 = .ok (.iload_n 1, 1) := by decide +kernel
theorem dX9_step_26 : decode cX9_step 26 = .ok (.if_icmp .ge 21, 3) := by decide +kernel
theorem dX9_step_29 : decode cX9_step 29 = .ok (.aload_n 0, 1) := by decide +kernel
theorem dX9_step_30 : decode cX9_step 30 = .ok (.getfield 83, 3) := by decide +kernel
theorem dX9_step_33 : decode cX9_step 33 = .ok (.iconst 1, 1) := by decide +kernel
theorem dX9_step_34 : decode cX9_step 34 = .ok (.if_icmp .ne 13, 3) := by decide +kernel
theorem dX9_step_37 : decode cX9_step 37 = .ok (.aload_n 0, 1) := by decide +kernel
theorem dX9_step_38 : decode cX9_step 38 = .ok (.invokevirtual 198, 3) := by decide +kernel
theorem dX9_step_41 : decode cX9_step 41 = .ok (.iinc 2 1, 3) := by decide +kernel
theorem dX9_step_44 : decode cX9_step 44 = .ok (.goto (-20), 3) := by decide +kernel
theorem dX9_step_47 : decode cX9_step 47 = .ok (.aload_n 0, 1) := by decide +kernel
theorem dX9_step_48 : decode cX9_step 48 = .ok (.getfield 83, 3) := by decide +kernel
theorem dX9_step_51 : decode cX9_step 51 = .ok (.iconst 1, 1) := by decide +kernel
theorem dX9_step_52 : decode cX9_step 52 = .ok (.isub, 1) := by decide +kernel
theorem dX9_step_53 : decode cX9_step 53 = .ok (.ireturn, 1) := by decide +kernel
theorem dX9_word_0 : decode cX9_word 0 = .ok (.iload_n 1, 1) := by decide +kernel
theorem dX9_word_1 : decode cX9_word 1 = .ok (.iconst 0, 1) := by decide +kernel
theorem dX9_word_2 : decode cX9_word 2 = .ok (.bipush 7, 2) := by decide +kernel
theorem dX9_word_4 : decode cX9_word 4 = .ok (.invokestatic 68, 3) := by decide +kernel
theorem dX9_word_7 : decode cX9_word 7 = .ok (.ifCond .eq 12, 3) := by decide +kernel
theorem dX9_word_10 : decode cX9_word 10 = .ok (.aload_n 0, 1) := by decide +kernel
theorem dX9_word_11 : decode cX9_word 11 = .ok (.getfield 16, 3) := by decide +kernel
theorem dX9_word_14 : decode cX9_word 14 = .ok (.iload_n 1, 1) := by decide +kernel
theorem dX9_word_15 : decode cX9_word 15 = .ok (.iaload, 1) := by decide +kernel
theorem dX9_word_16 : decode cX9_word 16 = .ok (.goto 4, 3) := by decide +kernel
theorem dX9_word_19 : decode cX9_word 19 = .ok (.iconst 0, 1) := by decide +kernel
theorem dX9_word_20 : decode cX9_word 20 = .ok (.ireturn, 1) := by decide +kernel
theorem dX9_wide_0 : decode cX9_wide 0 = .ok (.iload_n 1, 1) := by decide +kernel
theorem dX9_wide_1 : decode cX9_wide 1 = .ok (.iconst 0, 1) := by decide +kernel
theorem dX9_wide_2 : decode cX9_wide 2 = .ok (.iconst 3, 1) := by decide +kernel
theorem dX9_wide_3 : decode cX9_wide 3 = .ok (.invokestatic 68, 3) := by decide +kernel
theorem dX9_wide_6 : decode cX9_wide 6 = .ok (.ifCond .eq 12, 3) := by decide +kernel
theorem dX9_wide_9 : decode cX9_wide 9 = .ok (.aload_n 0, 1) := by decide +kernel
theorem dX9_wide_10 : decode cX9_wide 10 = .ok (.getfield 19, 3) := by decide +kernel
theorem dX9_wide_13 : decode cX9_wide 13 = .ok (.iload_n 1, 1) := by decide +kernel
theorem dX9_wide_14 : decode cX9_wide 14 = .ok (.laload, 1) := by decide +kernel
theorem dX9_wide_15 : decode cX9_wide 15 = .ok (.goto 4, 3) := by decide +kernel
theorem dX9_wide_18 : decode cX9_wide 18 = .ok (.lconst 0, 1) := by decide +kernel
theorem dX9_wide_19 : decode cX9_wide 19 = .ok (.lreturn, 1) := by decide +kernel
theorem dX9_single_0 : decode cX9_single 0 = .ok (.iload_n 1, 1) := by decide +kernel
theorem dX9_single_1 : decode cX9_single 1 = .ok (.iconst 0, 1) := by decide +kernel
theorem dX9_single_2 : decode cX9_single 2 = .ok (.iconst 3, 1) := by decide +kernel
theorem dX9_single_3 : decode cX9_single 3 = .ok (.invokestatic 68, 3) := by decide +kernel
theorem dX9_single_6 : decode cX9_single 6 = .ok (.ifCond .eq 13, 3) := by decide +kernel
theorem dX9_single_9 : decode cX9_single 9 = .ok (.aload_n 0, 1) := by decide +kernel
theorem dX9_single_10 : decode cX9_single 10 = .ok (.getfield 23, 3) := by decide +kernel
theorem dX9_single_13 : decode cX9_single 13 = .ok (.iload_n 1, 1) := by decide +kernel
theorem dX9_single_14 : decode cX9_single 14 = .ok (.faload, 1) := by decide +kernel
theorem dX9_single_15 : decode cX9_single 15 = .ok (.f2d, 1) := by decide +kernel
theorem dX9_single_16 : decode cX9_single 16 = .ok (.goto 4, 3) := by decide +kernel
theorem dX9_single_19 : decode cX9_single 19 = .ok (.dconst 0, 1) := by decide +kernel
theorem dX9_single_20 : decode cX9_single 20 = .ok (.dreturn, 1) := by decide +kernel
theorem dX9_real_0 : decode cX9_real 0 = .ok (.iload_n 1, 1) := by decide +kernel
theorem dX9_real_1 : decode cX9_real 1 = .ok (.iconst 0, 1) := by decide +kernel
theorem dX9_real_2 : decode cX9_real 2 = .ok (.iconst 3, 1) := by decide +kernel
theorem dX9_real_3 : decode cX9_real 3 = .ok (.invokestatic 68, 3) := by decide +kernel
theorem dX9_real_6 : decode cX9_real 6 = .ok (.ifCond .eq 12, 3) := by decide +kernel
theorem dX9_real_9 : decode cX9_real 9 = .ok (.aload_n 0, 1) := by decide +kernel
theorem dX9_real_10 : decode cX9_real 10 = .ok (.getfield 27, 3) := by decide +kernel
theorem dX9_real_13 : decode cX9_real 13 = .ok (.iload_n 1, 1) := by decide +kernel
theorem dX9_real_14 : decode cX9_real 14 = .ok (.daload, 1) := by decide +kernel
theorem dX9_real_15 : decode cX9_real 15 = .ok (.goto 4, 3) := by decide +kernel
theorem dX9_real_18 : decode cX9_real 18 = .ok (.dconst 0, 1) := by decide +kernel
theorem dX9_real_19 : decode cX9_real 19 = .ok (.dreturn, 1) := by decide +kernel
theorem dX9_thingIn_0 : decode cX9_thingIn 0 = .ok (.iload_n 1, 1) := by decide +kernel
theorem dX9_thingIn_1 : decode cX9_thingIn 1 = .ok (.iconst 0, 1) := by decide +kernel
theorem dX9_thingIn_2 : decode cX9_thingIn 2 = .ok (.bipush 7, 2) := by decide +kernel
theorem dX9_thingIn_4 : decode cX9_thingIn 4 = .ok (.invokestatic 68, 3) := by decide +kernel
theorem dX9_thingIn_7 : decode cX9_thingIn 7 = .ok (.ifCond .eq 14, 3) := by decide +kernel
theorem dX9_thingIn_10 : decode cX9_thingIn 10 = .ok (.aload_n 0, 1) := by decide +kernel
theorem dX9_thingIn_11 : decode cX9_thingIn 11 = .ok (.getfield 31, 3) := by decide +kernel
theorem dX9_thingIn_14 : decode cX9_thingIn 14 = .ok (.iload_n 1, 1) := by decide +kernel
theorem dX9_thingIn_15 : decode cX9_thingIn 15 = .ok (.iaload, 1) := by decide +kernel
theorem dX9_thingIn_16 : decode cX9_thingIn 16 = .ok (.iconst 1, 1) := by decide +kernel
theorem dX9_thingIn_17 : decode cX9_thingIn 17 = .ok (.isub, 1) := by decide +kernel
theorem dX9_thingIn_18 : decode cX9_thingIn 18 = .ok (.goto 4, 3) := by decide +kernel
theorem dX9_thingIn_21 : decode cX9_thingIn 21 = .ok (.iconst (-1), 1) := by decide +kernel
theorem dX9_thingIn_22 : decode cX9_thingIn 22 = .ok (.ireturn, 1) := by decide +kernel
theorem dX9_kindOf_0 : decode cX9_kindOf 0 = .ok (.iload_n 1, 1) := by decide +kernel
theorem dX9_kindOf_1 : decode cX9_kindOf 1 = .ok (.ifCond .ne 7, 3) := by decide +kernel
theorem dX9_kindOf_4 : decode cX9_kindOf 4 = .ok (.iconst (-1), 1) := by decide +kernel
theorem dX9_kindOf_5 : decode cX9_kindOf 5 = .ok (.goto 11, 3) := by decide +kernel
theorem dX9_kindOf_8 : decode cX9_kindOf 8 = .ok (.aload_n 0, 1) := by decide +kernel
theorem dX9_kindOf_9 : decode cX9_kindOf 9 = .ok (.getfield 34, 3) := by decide +kernel
theorem dX9_kindOf_12 : decode cX9_kindOf 12 = .ok (.iload_n 1, 1) := by decide +kernel
theorem dX9_kindOf_13 : decode cX9_kindOf 13 = .ok (.iconst 1, 1) := by decide +kernel
theorem dX9_kindOf_14 : decode cX9_kindOf 14 = .ok (.isub, 1) := by decide +kernel
theorem dX9_kindOf_15 : decode cX9_kindOf 15 = .ok (.iaload, 1) := by decide +kernel
theorem dX9_kindOf_16 : decode cX9_kindOf 16 = .ok (.ireturn, 1) := by decide +kernel
theorem dX9_kind_0 : decode cX9_kind 0 = .ok (.iload_n 1, 1) := by decide +kernel
theorem dX9_kind_1 : decode cX9_kind 1 = .ok (.iconst 0, 1) := by decide +kernel
theorem dX9_kind_2 : decode cX9_kind 2 = .ok (.bipush 7, 2) := by decide +kernel
theorem dX9_kind_4 : decode cX9_kind 4 = .ok (.invokestatic 68, 3) := by decide +kernel
theorem dX9_kind_7 : decode cX9_kind 7 = .ok (.ifCond .eq 16, 3) := by decide +kernel
theorem dX9_kind_10 : decode cX9_kind 10 = .ok (.aload_n 0, 1) := by decide +kernel
theorem dX9_kind_11 : decode cX9_kind 11 = .ok (.aload_n 0, 1) := by decide +kernel
theorem dX9_kind_12 : decode cX9_kind 12 = .ok (.getfield 31, 3) := by decide +kernel
theorem dX9_kind_15 : decode cX9_kind 15 = .ok (.iload_n 1, 1) := by decide +kernel
theorem dX9_kind_16 : decode cX9_kind 16 = .ok (.iaload, 1) := by decide +kernel
theorem dX9_kind_17 : decode cX9_kind 17 = .ok (.invokevirtual 201, 3) := by decide +kernel
theorem dX9_kind_20 : decode cX9_kind 20 = .ok (.goto 5, 3) := by decide +kernel
theorem dX9_kind_23 : decode cX9_kind 23 = .ok (.bipush (-2), 2) := by decide +kernel
theorem dX9_kind_25 : decode cX9_kind 25 = .ok (.ireturn, 1) := by decide +kernel
theorem dX9_size_0 : decode cX9_size 0 = .ok (.aload_n 0, 1) := by decide +kernel
theorem dX9_size_1 : decode cX9_size 1 = .ok (.iload_n 1, 1) := by decide +kernel
theorem dX9_size_2 : decode cX9_size 2 = .ok (.invokevirtual 204, 3) := by decide +kernel
theorem dX9_size_5 : decode cX9_size 5 = .ok (.istore_n 2, 1) := by decide +kernel
theorem dX9_size_6 : decode cX9_size 6 = .ok (.iload_n 2, 1) := by decide +kernel
theorem dX9_size_7 : decode cX9_size 7 = .ok (.ifCond .lt 24, 3) := by decide +kernel
theorem dX9_size_10 : decode cX9_size 10 = .ok (.aload_n 0, 1) := by decide +kernel
theorem dX9_size_11 : decode cX9_size 11 = .ok (.getfield 34, 3) := by decide +kernel
theorem dX9_size_14 : decode cX9_size 14 = .ok (.iload_n 2, 1) := by decide +kernel
theorem dX9_size_15 : decode cX9_size 15 = .ok (.iaload, 1) := by decide +kernel
theorem dX9_size_16 : decode cX9_size 16 = .ok (.invokestatic 133, 3) := by decide +kernel
theorem dX9_size_19 : decode cX9_size 19 = .ok (.ifCond .eq 12, 3) := by decide +kernel
theorem dX9_size_22 : decode cX9_size 22 = .ok (.aload_n 0, 1) := by decide +kernel
theorem dX9_size_23 : decode cX9_size 23 = .ok (.getfield 37, 3) := by decide +kernel
theorem dX9_size_26 : decode cX9_size 26 = .ok (.iload_n 2, 1) := by decide +kernel
theorem dX9_size_27 : decode cX9_size 27 = .ok (.iaload, 1) := by decide +kernel
theorem dX9_size_28 : decode cX9_size 28 = .ok (.goto 4, 3) := by decide +kernel
theorem dX9_size_31 : decode cX9_size 31 = .ok (.iconst (-1), 1) := by decide +kernel
theorem dX9_size_32 : decode cX9_size 32 = .ok (.ireturn, 1) := by decide +kernel
theorem dX9_cell_0 : decode cX9_cell 0 = .ok (.aload_n 0, 1) := by decide +kernel
theorem dX9_cell_1 : decode cX9_cell 1 = .ok (.iload_n 1, 1) := by decide +kernel
theorem dX9_cell_2 : decode cX9_cell 2 = .ok (.invokevirtual 204, 3) := by decide +kernel
theorem dX9_cell_5 : decode cX9_cell 5 = .ok (.istore_n 3, 1) := by decide +kernel
theorem dX9_cell_6 : decode cX9_cell 6 = .ok (.iload_n 3, 1) := by decide +kernel
theorem dX9_cell_7 : decode cX9_cell 7 = .ok (.ifCond .lt 31, 3) := by decide +kernel
theorem dX9_cell_10 : decode cX9_cell 10 = .ok (.aload_n 0, 1) := by decide +kernel
theorem dX9_cell_11 : decode cX9_cell 11 = .ok (.getfield 34, 3) := by decide +kernel
theorem dX9_cell_14 : decode cX9_cell 14 = .ok (.iload_n 3, 1) := by decide +kernel
theorem dX9_cell_15 : decode cX9_cell 15 = .ok (.iaload, 1) := by decide +kernel
theorem dX9_cell_16 : decode cX9_cell 16 = .ok (.invokestatic 133, 3) := by decide +kernel
theorem dX9_cell_19 : decode cX9_cell 19 = .ok (.ifCond .eq 19, 3) := by decide +kernel
theorem dX9_cell_22 : decode cX9_cell 22 = .ok (.iload_n 2, 1) := by decide +kernel
theorem dX9_cell_23 : decode cX9_cell 23 = .ok (.iconst 0, 1) := by decide +kernel
theorem dX9_cell_24 : decode cX9_cell 24 = .ok (.aload_n 0, 1) := by decide +kernel
theorem dX9_cell_25 : decode cX9_cell 25 = .ok (.getfield 37, 3) := by decide +kernel
theorem dX9_cell_28 : decode cX9_cell 28 = .ok (.iload_n 3, 1) := by decide +kernel
theorem dX9_cell_29 : decode cX9_cell 29 = .ok (.iaload, 1) := by decide +kernel
theorem dX9_cell_30 : decode cX9_cell 30 = .ok (.iconst 1, 1) := by decide +kernel
theorem dX9_cell_31 : decode cX9_cell 31 = .ok (.isub, 1) := by decide +kernel
theorem dX9_cell_32 : decode cX9_cell 32 = .ok (.invokestatic 68, 3) := by decide +kernel
theorem dX9_cell_35 : decode cX9_cell 35 = .ok (.ifCond .ne 5, 3) := by decide +kernel
theorem dX9_cell_38 : decode cX9_cell 38 = .ok (.lconst 0, 1) := by decide +kernel
theorem dX9_cell_39 : decode cX9_cell 39 = .ok (.lreturn, 1) := by decide +kernel
theorem dX9_cell_40 : decode cX9_cell 40 = .ok (.bipush 12, 2) := by decide +kernel
theorem dX9_cell_42 : decode cX9_cell 42 = .ok (.iload_n 3, 1) := by decide +kernel
theorem dX9_cell_43 : decode cX9_cell 43 = .ok (.imul, 1) := by decide +kernel
theorem dX9_cell_44 : decode cX9_cell 44 = .ok (.iload_n 2, 1) := by decide +kernel
theorem dX9_cell_45 : decode cX9_cell 45 = .ok (.iadd, 1) := by decide +kernel
theorem dX9_cell_46 : decode cX9_cell 46 = .ok (.istore 4, 2) := by decide +kernel
theorem dX9_cell_48 : decode cX9_cell 48 = .ok (.aload_n 0, 1) := by decide +kernel
theorem dX9_cell_49 : decode cX9_cell 49 = .ok (.getfield 34, 3) := by decide +kernel
theorem dX9_cell_52 : decode cX9_cell 52 = .ok (.iload_n 3, 1) := by decide +kernel
theorem dX9_cell_53 : decode cX9_cell 53 = .ok (.iaload, 1) := by decide +kernel
theorem dX9_cell_54 : decode cX9_cell 54 = .ok (.iconst 5, 1) := by decide +kernel
theorem dX9_cell_55 : decode cX9_cell 55 = .ok (.if_icmp .gt 11, 3) := by decide +kernel
theorem dX9_cell_58 : decode cX9_cell 58 = .ok (.aload_n 0, 1) := by decide +kernel
theorem dX9_cell_59 : decode cX9_cell 59 = .ok (.getfield 40, 3) := by decide +kernel
theorem dX9_cell_62 : decode cX9_cell 62 = .ok (.iload 4, 2) := by decide +kernel
theorem dX9_cell_64 : decode cX9_cell 64 = .ok (.laload, 1) := by decide +kernel
theorem dX9_cell_65 : decode cX9_cell 65 = .ok (.lreturn, 1) := by decide +kernel
theorem dX9_cell_66 : decode cX9_cell 66 = .ok (.aload_n 0, 1) := by decide +kernel
theorem dX9_cell_67 : decode cX9_cell 67 = .ok (.getfield 34, 3) := by decide +kernel
theorem dX9_cell_70 : decode cX9_cell 70 = .ok (.iload_n 3, 1) := by decide +kernel
theorem dX9_cell_71 : decode cX9_cell 71 = .ok (.iaload, 1) := by decide +kernel
theorem dX9_cell_72 : decode cX9_cell 72 = .ok (.bipush 8, 2) := by decide +kernel
theorem dX9_cell_74 : decode cX9_cell 74 = .ok (.if_icmp .eq 14, 3) := by decide +kernel
theorem dX9_cell_77 : decode cX9_cell 77 = .ok (.aload_n 0, 1) := by decide +kernel
theorem dX9_cell_78 : decode cX9_cell 78 = .ok (.getfield 34, 3) := by decide +kernel
theorem dX9_cell_81 : decode cX9_cell 81 = .ok (.iload_n 3, 1) := by decide +kernel
theorem dX9_cell_82 : decode cX9_cell 82 = .ok (.iaload, 1) := by decide +kernel
theorem dX9_cell_83 : decode cX9_cell 83 = .ok (.bipush 9, 2) := by decide +kernel
theorem dX9_cell_85 : decode cX9_cell 85 = .ok (.if_icmp .ne 16, 3) := by decide +kernel
theorem dX9_cell_88 : decode cX9_cell 88 = .ok (.aload_n 0, 1) := by decide +kernel
theorem dX9_cell_89 : decode cX9_cell 89 = .ok (.aload_n 0, 1) := by decide +kernel
theorem dX9_cell_90 : decode cX9_cell 90 = .ok (.getfield 46, 3) := by decide +kernel
theorem dX9_cell_93 : decode cX9_cell 93 = .ok (.iload 4, 2) := by decide +kernel
theorem dX9_cell_95 : decode cX9_cell 95 = .ok (.iaload, 1) := by decide +kernel
theorem dX9_cell_96 : decode cX9_cell 96 = .ok (.invokevirtual 201, 3) := by decide +kernel
theorem dX9_cell_99 : decode cX9_cell 99 = .ok (.i2l, 1) := by decide +kernel
theorem dX9_cell_100 : decode cX9_cell 100 = .ok (.lreturn, 1) := by decide +kernel
theorem dX9_cell_101 : decode cX9_cell 101 = .ok (.aload_n 0, 1) := by decide +kernel
theorem dX9_cell_102 : decode cX9_cell 102 = .ok (.getfield 34, 3) := by decide +kernel
theorem dX9_cell_105 : decode cX9_cell 105 = .ok (.iload_n 3, 1) := by decide +kernel
theorem dX9_cell_106 : decode cX9_cell 106 = .ok (.iaload, 1) := by decide +kernel
theorem dX9_cell_107 : decode cX9_cell 107 = .ok (.bipush 10, 2) := by decide +kernel
theorem dX9_cell_109 : decode cX9_cell 109 = .ok (.if_icmp .eq 7, 3) := by decide +kernel
theorem dX9_cell_112 : decode cX9_cell 112 = .ok (.lconst 0, 1) := by decide +kernel
theorem dX9_cell_113 : decode cX9_cell 113 = .ok (.goto 34, 3) := by decide +kernel
theorem dX9_cell_116 : decode cX9_cell 116 = .ok (.aload_n 0, 1) := by decide +kernel
theorem dX9_cell_117 : decode cX9_cell 117 = .ok (.getfield 46, 3) := by decide +kernel
theorem dX9_cell_120 : decode cX9_cell 120 = .ok (.iload 4, 2) := by decide +kernel
theorem dX9_cell_122 : decode cX9_cell 122 = .ok (.iaload, 1) := by decide +kernel
theorem dX9_cell_123 : decode cX9_cell 123 = .ok (.ifCond .ne 9, 3) := by decide +kernel
theorem dX9_cell_126 : decode cX9_cell 126 = .ok (.ldc2_w 207, 3) := by decide +kernel
theorem dX9_cell_129 : decode cX9_cell 129 = .ok (.goto 18, 3) := by decide +kernel
theorem dX9_cell_132 : decode cX9_cell 132 = .ok (.aload_n 0, 1) := by decide +kernel
theorem dX9_cell_133 : decode cX9_cell 133 = .ok (.getfield 37, 3) := by decide +kernel
theorem dX9_cell_136 : decode cX9_cell 136 = .ok (.aload_n 0, 1) := by decide +kernel
theorem dX9_cell_137 : decode cX9_cell 137 = .ok (.getfield 46, 3) := by decide +kernel
theorem dX9_cell_140 : decode cX9_cell 140 = .ok (.iload 4, 2) := by decide +kernel
theorem dX9_cell_142 : decode cX9_cell 142 = .ok (.iaload, 1) := by decide +kernel
theorem dX9_cell_143 : decode cX9_cell 143 = .ok (.iconst 1, 1) := by decide +kernel
theorem dX9_cell_144 : decode cX9_cell 144 = .ok (.isub, 1) := by decide +kernel
theorem dX9_cell_145 : decode cX9_cell 145 = .ok (.iaload, 1) := by decide +kernel
theorem dX9_cell_146 : decode cX9_cell 146 = .ok (.i2l, 1) := by decide +kernel
theorem dX9_cell_147 : decode cX9_cell 147 = .ok (.lreturn, 1) := by decide +kernel
theorem dX9_point_0 : decode cX9_point 0 = .ok (.aload_n 0, 1) := by decide +kernel
theorem dX9_point_1 : decode cX9_point 1 = .ok (.iload_n 1, 1) := by decide +kernel
theorem dX9_point_2 : decode cX9_point 2 = .ok (.invokevirtual 204, 3) := by decide +kernel
theorem dX9_point_5 : decode cX9_point 5 = .ok (.istore_n 3, 1) := by decide +kernel
theorem dX9_point_6 : decode cX9_point 6 = .ok (.iload_n 3, 1) := by decide +kernel
theorem dX9_point_7 : decode cX9_point 7 = .ok (.ifCond .lt 45, 3) := by decide +kernel
theorem dX9_point_10 : decode cX9_point 10 = .ok (.aload_n 0, 1) := by decide +kernel
theorem dX9_point_11 : decode cX9_point 11 = .ok (.getfield 34, 3) := by decide +kernel
theorem dX9_point_14 : decode cX9_point 14 = .ok (.iload_n 3, 1) := by decide +kernel
theorem dX9_point_15 : decode cX9_point 15 = .ok (.iaload, 1) := by decide +kernel
theorem dX9_point_16 : decode cX9_point 16 = .ok (.bipush 6, 2) := by decide +kernel
theorem dX9_point_18 : decode cX9_point 18 = .ok (.if_icmp .eq 14, 3) := by decide +kernel
theorem dX9_point_21 : decode cX9_point 21 = .ok (.aload_n 0, 1) := by decide +kernel
theorem dX9_point_22 : decode cX9_point 22 = .ok (.getfield 34, 3) := by decide +kernel
theorem dX9_point_25 : decode cX9_point 25 = .ok (.iload_n 3, 1) := by decide +kernel
theorem dX9_point_26 : decode cX9_point 26 = .ok (.iaload, 1) := by decide +kernel
theorem dX9_point_27 : decode cX9_point 27 = .ok (.bipush 7, 2) := by decide +kernel
theorem dX9_point_29 : decode cX9_point 29 = .ok (.if_icmp .ne 23, 3) := by decide +kernel
theorem dX9_point_32 : decode cX9_point 32 = .ok (.iload_n 2, 1) := by decide +kernel
theorem dX9_point_33 : decode cX9_point 33 = .ok (.iconst 0, 1) := by decide +kernel
theorem dX9_point_34 : decode cX9_point 34 = .ok (.aload_n 0, 1) := by decide +kernel
theorem dX9_point_35 : decode cX9_point 35 = .ok (.getfield 37, 3) := by decide +kernel
theorem dX9_point_38 : decode cX9_point 38 = .ok (.iload_n 3, 1) := by decide +kernel
theorem dX9_point_39 : decode cX9_point 39 = .ok (.iaload, 1) := by decide +kernel
theorem dX9_point_40 : decode cX9_point 40 = .ok (.iconst 1, 1) := by decide +kernel
theorem dX9_point_41 : decode cX9_point 41 = .ok (.isub, 1) := by decide +kernel
theorem dX9_point_42 : decode cX9_point 42 = .ok (.invokestatic 68, 3) := by decide +kernel
theorem dX9_point_45 : decode cX9_point 45 = .ok (.ifCond .eq 7, 3) := by decide +kernel
theorem dX9_point_48 : decode cX9_point 48 = .ok (.iconst 1, 1) := by decide +kernel
theorem dX9_point_49 : decode cX9_point 49 = .ok (.goto 4, 3) := by decide +kernel
theorem dX9_point_52 : decode cX9_point 52 = .ok (.iconst 0, 1) := by decide +kernel
theorem dX9_point_53 : decode cX9_point 53 = .ok (.istore 4, 2) := by decide +kernel
theorem dX9_point_55 : decode cX9_point 55 = .ok (.iload 4, 2) := by decide +kernel
theorem dX9_point_57 : decode cX9_point 57 = .ok (.ifCond .eq 17, 3) := by decide +kernel
theorem dX9_point_60 : decode cX9_point 60 = .ok (.aload_n 0, 1) := by decide +kernel
theorem dX9_point_61 : decode cX9_point 61 = .ok (.getfield 43, 3) := by decide +kernel
theorem dX9_point_64 : decode cX9_point 64 = .ok (.bipush 12, 2) := by decide +kernel
theorem dX9_point_66 : decode cX9_point 66 = .ok (.iload_n 3, 1) := by decide +kernel
theorem dX9_point_67 : decode cX9_point 67 = .ok (.imul, 1) := by decide +kernel
theorem dX9_point_68 : decode cX9_point 68 = .ok (.iload_n 2, 1) := by decide +kernel
theorem dX9_point_69 : decode cX9_point 69 = .ok (.iadd, 1) := by decide +kernel
theorem dX9_point_70 : decode cX9_point 70 = .ok (.daload, 1) := by decide +kernel
theorem dX9_point_71 : decode cX9_point 71 = .ok (.goto 4, 3) := by decide +kernel
theorem dX9_point_74 : decode cX9_point 74 = .ok (.dconst 0, 1) := by decide +kernel
theorem dX9_point_75 : decode cX9_point 75 = .ok (.dreturn, 1) := by decide +kernel
theorem dX9_field_0 : decode cX9_field 0 = .ok (.aload_n 0, 1) := by decide +kernel
theorem dX9_field_1 : decode cX9_field 1 = .ok (.iload_n 1, 1) := by decide +kernel
theorem dX9_field_2 : decode cX9_field 2 = .ok (.invokevirtual 204, 3) := by decide +kernel
theorem dX9_field_5 : decode cX9_field 5 = .ok (.istore_n 3, 1) := by decide +kernel
theorem dX9_field_6 : decode cX9_field 6 = .ok (.iload_n 3, 1) := by decide +kernel
theorem dX9_field_7 : decode cX9_field 7 = .ok (.ifCond .lt 15, 3) := by decide +kernel
theorem dX9_field_10 : decode cX9_field 10 = .ok (.aload_n 0, 1) := by decide +kernel
theorem dX9_field_11 : decode cX9_field 11 = .ok (.getfield 34, 3) := by decide +kernel
theorem dX9_field_14 : decode cX9_field 14 = .ok (.iload_n 3, 1) := by decide +kernel
theorem dX9_field_15 : decode cX9_field 15 = .ok (.iaload, 1) := by decide +kernel
theorem dX9_field_16 : decode cX9_field 16 = .ok (.invokestatic 133, 3) := by decide +kernel
theorem dX9_field_19 : decode cX9_field 19 = .ok (.ifCond .eq 5, 3) := by decide +kernel
theorem dX9_field_22 : decode cX9_field 22 = .ok (.lconst 0, 1) := by decide +kernel
theorem dX9_field_23 : decode cX9_field 23 = .ok (.lreturn, 1) := by decide +kernel
theorem dX9_field_24 : decode cX9_field 24 = .ok (.iload_n 2, 1) := by decide +kernel
theorem dX9_field_25 : decode cX9_field 25 = .ok (.ifCond .ne 11, 3) := by decide +kernel
theorem dX9_field_28 : decode cX9_field 28 = .ok (.aload_n 0, 1) := by decide +kernel
theorem dX9_field_29 : decode cX9_field 29 = .ok (.getfield 49, 3) := by decide +kernel
theorem dX9_field_32 : decode cX9_field 32 = .ok (.iload_n 3, 1) := by decide +kernel
theorem dX9_field_33 : decode cX9_field 33 = .ok (.iaload, 1) := by decide +kernel
theorem dX9_field_34 : decode cX9_field 34 = .ok (.i2l, 1) := by decide +kernel
theorem dX9_field_35 : decode cX9_field 35 = .ok (.lreturn, 1) := by decide +kernel
theorem dX9_field_36 : decode cX9_field 36 = .ok (.iload_n 2, 1) := by decide +kernel
theorem dX9_field_37 : decode cX9_field 37 = .ok (.iconst 1, 1) := by decide +kernel
theorem dX9_field_38 : decode cX9_field 38 = .ok (.if_icmp .ne 26, 3) := by decide +kernel
theorem dX9_field_41 : decode cX9_field 41 = .ok (.aload_n 0, 1) := by decide +kernel
theorem dX9_field_42 : decode cX9_field 42 = .ok (.getfield 34, 3) := by decide +kernel
theorem dX9_field_45 : decode cX9_field 45 = .ok (.iload_n 3, 1) := by decide +kernel
theorem dX9_field_46 : decode cX9_field 46 = .ok (.iaload, 1) := by decide +kernel
theorem dX9_field_47 : decode cX9_field 47 = .ok (.invokestatic 116, 3) := by decide +kernel
theorem dX9_field_50 : decode cX9_field 50 = .ok (.ifCond .eq 12, 3) := by decide +kernel
theorem dX9_field_53 : decode cX9_field 53 = .ok (.aload_n 0, 1) := by decide +kernel
theorem dX9_field_54 : decode cX9_field 54 = .ok (.getfield 52, 3) := by decide +kernel
theorem dX9_field_57 : decode cX9_field 57 = .ok (.iload_n 3, 1) := by decide +kernel
theorem dX9_field_58 : decode cX9_field 58 = .ok (.laload, 1) := by decide +kernel
theorem dX9_field_59 : decode cX9_field 59 = .ok (.goto 4, 3) := by decide +kernel
theorem dX9_field_62 : decode cX9_field 62 = .ok (.lconst 0, 1) := by decide +kernel
theorem dX9_field_63 : decode cX9_field 63 = .ok (.lreturn, 1) := by decide +kernel
theorem dX9_field_64 : decode cX9_field 64 = .ok (.iload_n 2, 1) := by decide +kernel
theorem dX9_field_65 : decode cX9_field 65 = .ok (.iconst 2, 1) := by decide +kernel
theorem dX9_field_66 : decode cX9_field 66 = .ok (.if_icmp .ne 28, 3) := by decide +kernel
theorem dX9_field_69 : decode cX9_field 69 = .ok (.aload_n 0, 1) := by decide +kernel
theorem dX9_field_70 : decode cX9_field 70 = .ok (.getfield 34, 3) := by decide +kernel
theorem dX9_field_73 : decode cX9_field 73 = .ok (.iload_n 3, 1) := by decide +kernel
theorem dX9_field_74 : decode cX9_field 74 = .ok (.iaload, 1) := by decide +kernel
theorem dX9_field_75 : decode cX9_field 75 = .ok (.bipush 14, 2) := by decide +kernel
theorem dX9_field_77 : decode cX9_field 77 = .ok (.if_icmp .eq 17, 3) := by decide +kernel
theorem dX9_field_80 : decode cX9_field 80 = .ok (.aload_n 0, 1) := by decide +kernel
theorem dX9_field_81 : decode cX9_field 81 = .ok (.aload_n 0, 1) := by decide +kernel
theorem dX9_field_82 : decode cX9_field 82 = .ok (.getfield 55, 3) := by decide +kernel
theorem dX9_field_85 : decode cX9_field 85 = .ok (.iload_n 3, 1) := by decide +kernel
theorem dX9_field_86 : decode cX9_field 86 = .ok (.iaload, 1) := by decide +kernel
theorem dX9_field_87 : decode cX9_field 87 = .ok (.invokevirtual 201, 3) := by decide +kernel
theorem dX9_field_90 : decode cX9_field 90 = .ok (.i2l, 1) := by decide +kernel
theorem dX9_field_91 : decode cX9_field 91 = .ok (.goto 4, 3) := by decide +kernel
theorem dX9_field_94 : decode cX9_field 94 = .ok (.lconst 0, 1) := by decide +kernel
theorem dX9_field_95 : decode cX9_field 95 = .ok (.lreturn, 1) := by decide +kernel
theorem dX9_same_0 : decode cX9_same 0 = .ok (.aload_n 0, 1) := by decide +kernel
theorem dX9_same_1 : decode cX9_same 1 = .ok (.iload_n 1, 1) := by decide +kernel
theorem dX9_same_2 : decode cX9_same 2 = .ok (.invokevirtual 204, 3) := by decide +kernel
theorem dX9_same_5 : decode cX9_same 5 = .ok (.ifCond .lt 20, 3) := by decide +kernel
theorem dX9_same_8 : decode cX9_same 8 = .ok (.aload_n 0, 1) := by decide +kernel
theorem dX9_same_9 : decode cX9_same 9 = .ok (.iload_n 1, 1) := by decide +kernel
theorem dX9_same_10 : decode cX9_same 10 = .ok (.invokevirtual 204, 3) := by decide +kernel
theorem dX9_same_13 : decode cX9_same 13 = .ok (.aload_n 0, 1) := by decide +kernel
theorem dX9_same_14 : decode cX9_same 14 = .ok (.iload_n 2, 1) := by decide +kernel
theorem dX9_same_15 : decode cX9_same 15 = .ok (.invokevirtual 204, 3) := by decide +kernel
theorem dX9_same_18 : decode cX9_same 18 = .ok (.if_icmp .ne 7, 3) := by decide +kernel
theorem dX9_same_21 : decode cX9_same 21 = .ok (.iconst 1, 1) := by decide +kernel
theorem dX9_same_22 : decode cX9_same 22 = .ok (.goto 4, 3) := by decide +kernel
theorem dX9_same_25 : decode cX9_same 25 = .ok (.iconst 0, 1) := by decide +kernel
theorem dX9_same_26 : decode cX9_same 26 = .ok (.ireturn, 1) := by decide +kernel
theorem dX9_told_0 : decode cX9_told 0 = .ok (.iload_n 1, 1) := by decide +kernel
theorem dX9_told_1 : decode cX9_told 1 = .ok (.iconst 0, 1) := by decide +kernel
theorem dX9_told_2 : decode cX9_told 2 = .ok (.aload_n 0, 1) := by decide +kernel
theorem dX9_told_3 : decode cX9_told 3 = .ok (.getfield 101, 3) := by decide +kernel
theorem dX9_told_6 : decode cX9_told 6 = .ok (.sipush 200, 3) := by decide +kernel
theorem dX9_told_9 : decode cX9_told 9 = .ok (.if_icmp .ge 10, 3) := by decide +kernel
theorem dX9_told_12 : decode cX9_told 12 = .ok (.aload_n 0, 1) := by decide +kernel
theorem dX9_told_13 : decode cX9_told 13 = .ok (.getfield 101, 3) := by decide +kernel
theorem dX9_told_16 : decode cX9_told 16 = .ok (.goto 6, 3) := by decide +kernel
theorem dX9_told_19 : decode cX9_told 19 = .ok (.sipush 200, 3) := by decide +kernel
theorem dX9_told_22 : decode cX9_told 22 = .ok (.iconst 1, 1) := by decide +kernel
theorem dX9_told_23 : decode cX9_told 23 = .ok (.isub, 1) := by decide +kernel
theorem dX9_told_24 : decode cX9_told 24 = .ok (.invokestatic 68, 3) := by decide +kernel
theorem dX9_told_27 : decode cX9_told 27 = .ok (.ifCond .eq 12, 3) := by decide +kernel
theorem dX9_told_30 : decode cX9_told 30 = .ok (.aload_n 0, 1) := by decide +kernel
theorem dX9_told_31 : decode cX9_told 31 = .ok (.getfield 61, 3) := by decide +kernel
theorem dX9_told_34 : decode cX9_told 34 = .ok (.iload_n 1, 1) := by decide +kernel
theorem dX9_told_35 : decode cX9_told 35 = .ok (.iaload, 1) := by decide +kernel
theorem dX9_told_36 : decode cX9_told 36 = .ok (.goto 4, 3) := by decide +kernel
theorem dX9_told_39 : decode cX9_told 39 = .ok (.iconst 0, 1) := by decide +kernel
theorem dX9_told_40 : decode cX9_told 40 = .ok (.ireturn, 1) := by decide +kernel
theorem dX9_state_0 : decode cX9_state 0 = .ok (.iload_n 1, 1) := by decide +kernel
theorem dX9_state_1 : decode cX9_state 1 = .ok (.tableswitch 114 0 10 #[59, 64, 69, 74, 79, 84, 89, 94, 99, 104, 109], 59) := by decide +kernel
theorem dX9_state_60 : decode cX9_state 60 = .ok (.aload_n 0, 1) := by decide +kernel
theorem dX9_state_61 : decode cX9_state 61 = .ok (.getfield 80, 3) := by decide +kernel
theorem dX9_state_64 : decode cX9_state 64 = .ok (.ireturn, 1) := by decide +kernel
theorem dX9_state_65 : decode cX9_state 65 = .ok (.aload_n 0, 1) := by decide +kernel
theorem dX9_state_66 : decode cX9_state 66 = .ok (.getfield 86, 3) := by decide +kernel
theorem dX9_state_69 : decode cX9_state 69 = .ok (.ireturn, 1) := by decide +kernel
theorem dX9_state_70 : decode cX9_state 70 = .ok (.aload_n 0, 1) := by decide +kernel
theorem dX9_state_71 : decode cX9_state 71 = .ok (.getfield 92, 3) := by decide +kernel
theorem dX9_state_74 : decode cX9_state 74 = .ok (.ireturn, 1) := by decide +kernel
theorem dX9_state_75 : decode cX9_state 75 = .ok (.aload_n 0, 1) := by decide +kernel
theorem dX9_state_76 : decode cX9_state 76 = .ok (.getfield 95, 3) := by decide +kernel
theorem dX9_state_79 : decode cX9_state 79 = .ok (.ireturn, 1) := by decide +kernel
theorem dX9_state_80 : decode cX9_state 80 = .ok (.aload_n 0, 1) := by decide +kernel
theorem dX9_state_81 : decode cX9_state 81 = .ok (.getfield 98, 3) := by decide +kernel
theorem dX9_state_84 : decode cX9_state 84 = .ok (.ireturn, 1) := by decide +kernel
theorem dX9_state_85 : decode cX9_state 85 = .ok (.aload_n 0, 1) := by decide +kernel
theorem dX9_state_86 : decode cX9_state 86 = .ok (.getfield 89, 3) := by decide +kernel
theorem dX9_state_89 : decode cX9_state 89 = .ok (.ireturn, 1) := by decide +kernel
theorem dX9_state_90 : decode cX9_state 90 = .ok (.aload_n 0, 1) := by decide +kernel
theorem dX9_state_91 : decode cX9_state 91 = .ok (.getfield 101, 3) := by decide +kernel
theorem dX9_state_94 : decode cX9_state 94 = .ok (.ireturn, 1) := by decide +kernel
theorem dX9_state_95 : decode cX9_state 95 = .ok (.aload_n 0, 1) := by decide +kernel
theorem dX9_state_96 : decode cX9_state 96 = .ok (.getfield 104, 3) := by decide +kernel
theorem dX9_state_99 : decode cX9_state 99 = .ok (.ireturn, 1) := by decide +kernel
theorem dX9_state_100 : decode cX9_state 100 = .ok (.aload_n 0, 1) := by decide +kernel
theorem dX9_state_101 : decode cX9_state 101 = .ok (.getfield 107, 3) := by decide +kernel
theorem dX9_state_104 : decode cX9_state 104 = .ok (.ireturn, 1) := by decide +kernel
theorem dX9_state_105 : decode cX9_state 105 = .ok (.aload_n 0, 1) := by decide +kernel
theorem dX9_state_106 : decode cX9_state 106 = .ok (.getfield 64, 3) := by decide +kernel
theorem dX9_state_109 : decode cX9_state 109 = .ok (.ireturn, 1) := by decide +kernel
theorem dX9_state_110 : decode cX9_state 110 = .ok (.aload_n 0, 1) := by decide +kernel
theorem dX9_state_111 : decode cX9_state 111 = .ok (.getfield 83, 3) := by decide +kernel
theorem dX9_state_114 : decode cX9_state 114 = .ok (.ireturn, 1) := by decide +kernel
theorem dX9_state_115 : decode cX9_state 115 = .ok (.iconst (-1), 1) := by decide +kernel
theorem dX9_state_116 : decode cX9_state 116 = .ok (.ireturn, 1) := by decide +kernel
theorem dL_law_0 : decode cL_law 0 = .ok (.new 7, 3) := by decide +kernel
theorem dL_law_3 : decode cL_law 3 = .ok (.dup, 1) := by decide +kernel
theorem dL_law_4 : decode cL_law 4 = .ok (.invokespecial 9, 3) := by decide +kernel
theorem dL_law_7 : decode cL_law 7 = .ok (.astore_n 1, 1) := by decide +kernel
theorem dL_law_8 : decode cL_law 8 = .ok (.new 10, 3) := by decide +kernel
theorem dL_law_11 : decode cL_law 11 = .ok (.dup, 1) := by decide +kernel
theorem dL_law_12 : decode cL_law 12 = .ok (.invokespecial 12, 3) := by decide +kernel
theorem dL_law_15 : decode cL_law 15 = .ok (.astore_n 2, 1) := by decide +kernel
theorem dL_law_16 : decode cL_law 16 = .ok (.iconst 0, 1) := by decide +kernel
theorem dL_law_17 : decode cL_law 17 = .ok (.istore_n 3, 1) := by decide +kernel
theorem dL_law_18 : decode cL_law 18 = .ok (.iload_n 3, 1) := by decide +kernel
theorem dL_law_19 : decode cL_law 19 = .ok (.aload_n 0, 1) := by decide +kernel
theorem dL_law_20 : decode cL_law 20 = .ok (.arraylength, 1) := by decide +kernel
theorem dL_law_21 : decode cL_law 21 = .ok (.iconst 5, 1) := by decide +kernel
theorem dL_law_22 : decode cL_law 22 = .ok (.isub, 1) := by decide +kernel
theorem dL_law_23 : decode cL_law 23 = .ok (.if_icmp .gt 657, 3) := by decide +kernel
theorem dL_law_26 : decode cL_law 26 = .ok (.aload_n 0, 1) := by decide +kernel
theorem dL_law_27 : decode cL_law 27 = .ok (.iload_n 3, 1) := by decide +kernel
theorem dL_law_28 : decode cL_law 28 = .ok (.iaload, 1) := by decide +kernel
theorem dL_law_29 : decode cL_law 29 = .ok (.bipush 31, 2) := by decide +kernel
theorem dL_law_31 : decode cL_law 31 = .ok (.iand, 1) := by decide +kernel
theorem dL_law_32 : decode cL_law 32 = .ok (.tableswitch 642 0 16 #[84, 137, 190, 203, 216, 239, 262, 286, 337, 388, 411, 434, 468, 529, 563, 596, 619], 84) := by decide +kernel
theorem dL_law_116 : decode cL_law 116 = .ok (.aload_n 1, 1) := by decide +kernel
theorem dL_law_117 : decode cL_law 117 = .ok (.aload_n 0, 1) := by decide +kernel
theorem dL_law_118 : decode cL_law 118 = .ok (.iload_n 3, 1) := by decide +kernel
theorem dL_law_119 : decode cL_law 119 = .ok (.iconst 1, 1) := by decide +kernel
theorem dL_law_120 : decode cL_law 120 = .ok (.iadd, 1) := by decide +kernel
theorem dL_law_121 : decode cL_law 121 = .ok (.iaload, 1) := by decide +kernel
theorem dL_law_122 : decode cL_law 122 = .ok (.aload_n 0, 1) := by decide +kernel
theorem dL_law_123 : decode cL_law 123 = .ok (.iload_n 3, 1) := by decide +kernel
theorem dL_law_124 : decode cL_law 124 = .ok (.iconst 2, 1) := by decide +kernel
theorem dL_law_125 : decode cL_law 125 = .ok (.iadd, 1) := by decide +kernel
theorem dL_law_126 : decode cL_law 126 = .ok (.iaload, 1) := by decide +kernel
theorem dL_law_127 : decode cL_law 127 = .ok (.aload_n 0, 1) := by decide +kernel
theorem dL_law_128 : decode cL_law 128 = .ok (.iload_n 3, 1) := by decide +kernel
theorem dL_law_129 : decode cL_law 129 = .ok (.iconst 3, 1) := by decide +kernel
theorem dL_law_130 : decode cL_law 130 = .ok (.iadd, 1) := by decide +kernel
theorem dL_law_131 : decode cL_law 131 = .ok (.iaload, 1) := by decide +kernel
theorem dL_law_132 : decode cL_law 132 = .ok (.aload_n 0, 1) := by decide +kernel
theorem dL_law_133 : decode cL_law 133 = .ok (.iload_n 3, 1) := by decide +kernel
theorem dL_law_134 : decode cL_law 134 = .ok (.iconst 4, 1) := by decide +kernel
theorem dL_law_135 : decode cL_law 135 = .ok (.iadd, 1) := by decide +kernel
theorem dL_law_136 : decode cL_law 136 = .ok (.iaload, 1) := by decide +kernel
theorem dL_law_137 : decode cL_law 137 = .ok (.invokevirtual 13, 3) := by decide +kernel
theorem dL_law_140 : decode cL_law 140 = .ok (.aload_n 2, 1) := by decide +kernel
theorem dL_law_141 : decode cL_law 141 = .ok (.aload_n 0, 1) := by decide +kernel
theorem dL_law_142 : decode cL_law 142 = .ok (.iload_n 3, 1) := by decide +kernel
theorem dL_law_143 : decode cL_law 143 = .ok (.iconst 1, 1) := by decide +kernel
theorem dL_law_144 : decode cL_law 144 = .ok (.iadd, 1) := by decide +kernel
theorem dL_law_145 : decode cL_law 145 = .ok (.iaload, 1) := by decide +kernel
theorem dL_law_146 : decode cL_law 146 = .ok (.aload_n 0, 1) := by decide +kernel
theorem dL_law_147 : decode cL_law 147 = .ok (.iload_n 3, 1) := by decide +kernel
theorem dL_law_148 : decode cL_law 148 = .ok (.iconst 2, 1) := by decide +kernel
theorem dL_law_149 : decode cL_law 149 = .ok (.iadd, 1) := by decide +kernel
theorem dL_law_150 : decode cL_law 150 = .ok (.iaload, 1) := by decide +kernel
theorem dL_law_151 : decode cL_law 151 = .ok (.aload_n 0, 1) := by decide +kernel
theorem dL_law_152 : decode cL_law 152 = .ok (.iload_n 3, 1) := by decide +kernel
theorem dL_law_153 : decode cL_law 153 = .ok (.iconst 3, 1) := by decide +kernel
theorem dL_law_154 : decode cL_law 154 = .ok (.iadd, 1) := by decide +kernel
theorem dL_law_155 : decode cL_law 155 = .ok (.iaload, 1) := by decide +kernel
theorem dL_law_156 : decode cL_law 156 = .ok (.aload_n 0, 1) := by decide +kernel
theorem dL_law_157 : decode cL_law 157 = .ok (.iload_n 3, 1) := by decide +kernel
theorem dL_law_158 : decode cL_law 158 = .ok (.iconst 4, 1) := by decide +kernel
theorem dL_law_159 : decode cL_law 159 = .ok (.iadd, 1) := by decide +kernel
theorem dL_law_160 : decode cL_law 160 = .ok (.iaload, 1) := by decide +kernel
theorem dL_law_161 : decode cL_law 161 = .ok (.invokevirtual 17, 3) := by decide +kernel
theorem dL_law_164 : decode cL_law 164 = .ok (.if_icmp .eq 510, 3) := by decide +kernel
theorem dL_law_167 : decode cL_law 167 = .ok (.iconst 0, 1) := by decide +kernel
theorem dL_law_168 : decode cL_law 168 = .ok (.ireturn, 1) := by decide +kernel
theorem dL_law_169 : decode cL_law 169 = .ok (.aload_n 1, 1) := by decide +kernel
theorem dL_law_170 : decode cL_law 170 = .ok (.aload_n 0, 1) := by decide +kernel
theorem dL_law_171 : decode cL_law 171 = .ok (.iload_n 3, 1) := by decide +kernel
theorem dL_law_172 : decode cL_law 172 = .ok (.iconst 1, 1) := by decide +kernel
theorem dL_law_173 : decode cL_law 173 = .ok (.iadd, 1) := by decide +kernel
theorem dL_law_174 : decode cL_law 174 = .ok (.iaload, 1) := by decide +kernel
theorem dL_law_175 : decode cL_law 175 = .ok (.aload_n 0, 1) := by decide +kernel
theorem dL_law_176 : decode cL_law 176 = .ok (.iload_n 3, 1) := by decide +kernel
theorem dL_law_177 : decode cL_law 177 = .ok (.iconst 2, 1) := by decide +kernel
theorem dL_law_178 : decode cL_law 178 = .ok (.iadd, 1) := by decide +kernel
theorem dL_law_179 : decode cL_law 179 = .ok (.iaload, 1) := by decide +kernel
theorem dL_law_180 : decode cL_law 180 = .ok (.aload_n 0, 1) := by decide +kernel
theorem dL_law_181 : decode cL_law 181 = .ok (.iload_n 3, 1) := by decide +kernel
theorem dL_law_182 : decode cL_law 182 = .ok (.iconst 3, 1) := by decide +kernel
theorem dL_law_183 : decode cL_law 183 = .ok (.iadd, 1) := by decide +kernel
theorem dL_law_184 : decode cL_law 184 = .ok (.iaload, 1) := by decide +kernel
theorem dL_law_185 : decode cL_law 185 = .ok (.aload_n 0, 1) := by decide +kernel
theorem dL_law_186 : decode cL_law 186 = .ok (.iload_n 3, 1) := by decide +kernel
theorem dL_law_187 : decode cL_law 187 = .ok (.iconst 4, 1) := by decide +kernel
theorem dL_law_188 : decode cL_law 188 = .ok (.iadd, 1) := by decide +kernel
theorem dL_law_189 : decode cL_law 189 = .ok (.iaload, 1) := by decide +kernel
theorem dL_law_190 : decode cL_law 190 = .ok (.invokevirtual 18, 3) := by decide +kernel
theorem dL_law_193 : decode cL_law 193 = .ok (.aload_n 2, 1) := by decide +kernel
theorem dL_law_194 : decode cL_law 194 = .ok (.aload_n 0, 1) := by decide +kernel
theorem dL_law_195 : decode cL_law 195 = .ok (.iload_n 3, 1) := by decide +kernel
theorem dL_law_196 : decode cL_law 196 = .ok (.iconst 1, 1) := by decide +kernel
theorem dL_law_197 : decode cL_law 197 = .ok (.iadd, 1) := by decide +kernel
theorem dL_law_198 : decode cL_law 198 = .ok (.iaload, 1) := by decide +kernel
theorem dL_law_199 : decode cL_law 199 = .ok (.aload_n 0, 1) := by decide +kernel
theorem dL_law_200 : decode cL_law 200 = .ok (.iload_n 3, 1) := by decide +kernel
theorem dL_law_201 : decode cL_law 201 = .ok (.iconst 2, 1) := by decide +kernel
theorem dL_law_202 : decode cL_law 202 = .ok (.iadd, 1) := by decide +kernel
theorem dL_law_203 : decode cL_law 203 = .ok (.iaload, 1) := by decide +kernel
theorem dL_law_204 : decode cL_law 204 = .ok (.aload_n 0, 1) := by decide +kernel
theorem dL_law_205 : decode cL_law 205 = .ok (.iload_n 3, 1) := by decide +kernel
theorem dL_law_206 : decode cL_law 206 = .ok (.iconst 3, 1) := by decide +kernel
theorem dL_law_207 : decode cL_law 207 = .ok (.iadd, 1) := by decide +kernel
theorem dL_law_208 : decode cL_law 208 = .ok (.iaload, 1) := by decide +kernel
theorem dL_law_209 : decode cL_law 209 = .ok (.aload_n 0, 1) := by decide +kernel
theorem dL_law_210 : decode cL_law 210 = .ok (.iload_n 3, 1) := by decide +kernel
theorem dL_law_211 : decode cL_law 211 = .ok (.iconst 4, 1) := by decide +kernel
theorem dL_law_212 : decode cL_law 212 = .ok (.iadd, 1) := by decide +kernel
theorem dL_law_213 : decode cL_law 213 = .ok (.iaload, 1) := by decide +kernel
theorem dL_law_214 : decode cL_law 214 = .ok (.invokevirtual 21, 3) := by decide +kernel
theorem dL_law_217 : decode cL_law 217 = .ok (.if_icmp .eq 457, 3) := by decide +kernel
theorem dL_law_220 : decode cL_law 220 = .ok (.iconst 0, 1) := by decide +kernel
theorem dL_law_221 : decode cL_law 221 = .ok (.ireturn, 1) := by decide +kernel
theorem dL_law_222 : decode cL_law 222 = .ok (.aload_n 1, 1) := by decide +kernel
theorem dL_law_223 : decode cL_law 223 = .ok (.invokevirtual 22, 3) := by decide +kernel
theorem dL_law_226 : decode cL_law 226 = .ok (.aload_n 2, 1) := by decide +kernel
theorem dL_law_227 : decode cL_law 227 = .ok (.invokevirtual 26, 3) := by decide +kernel
theorem dL_law_230 : decode cL_law 230 = .ok (.if_icmp .eq 444, 3) := by decide +kernel
theorem dL_law_233 : decode cL_law 233 = .ok (.iconst 0, 1) := by decide +kernel
theorem dL_law_234 : decode cL_law 234 = .ok (.ireturn, 1) := by decide +kernel
theorem dL_law_235 : decode cL_law 235 = .ok (.aload_n 1, 1) := by decide +kernel
theorem dL_law_236 : decode cL_law 236 = .ok (.invokevirtual 27, 3) := by decide +kernel
theorem dL_law_239 : decode cL_law 239 = .ok (.aload_n 2, 1) := by decide +kernel
theorem dL_law_240 : decode cL_law 240 = .ok (.invokevirtual 31, 3) := by decide +kernel
theorem dL_law_243 : decode cL_law 243 = .ok (.if_icmp .eq 431, 3) := by decide +kernel
theorem dL_law_246 : decode cL_law 246 = .ok (.iconst 0, 1) := by decide +kernel
theorem dL_law_247 : decode cL_law 247 = .ok (.ireturn, 1) := by decide +kernel
theorem dL_law_248 : decode cL_law 248 = .ok (.aload_n 1, 1) := by decide +kernel
theorem dL_law_249 : decode cL_law 249 = .ok (.aload_n 0, 1) := by decide +kernel
theorem dL_law_250 : decode cL_law 250 = .ok (.iload_n 3, 1) := by decide +kernel
theorem dL_law_251 : decode cL_law 251 = .ok (.iconst 1, 1) := by decide +kernel
theorem dL_law_252 : decode cL_law 252 = .ok (.iadd, 1) := by decide +kernel
theorem dL_law_253 : decode cL_law 253 = .ok (.iaload, 1) := by decide +kernel
theorem dL_law_254 : decode cL_law 254 = .ok (.invokevirtual 32, 3) := by decide +kernel
theorem dL_law_257 : decode cL_law 257 = .ok (.aload_n 2, 1) := by decide +kernel
theorem dL_law_258 : decode cL_law 258 = .ok (.aload_n 0, 1) := by decide +kernel
theorem dL_law_259 : decode cL_law 259 = .ok (.iload_n 3, 1) := by decide +kernel
theorem dL_law_260 : decode cL_law 260 = .ok (.iconst 1, 1) := by decide +kernel
theorem dL_law_261 : decode cL_law 261 = .ok (.iadd, 1) := by decide +kernel
theorem dL_law_262 : decode cL_law 262 = .ok (.iaload, 1) := by decide +kernel
theorem dL_law_263 : decode cL_law 263 = .ok (.invokevirtual 36, 3) := by decide +kernel
theorem dL_law_266 : decode cL_law 266 = .ok (.if_icmp .eq 408, 3) := by decide +kernel
theorem dL_law_269 : decode cL_law 269 = .ok (.iconst 0, 1) := by decide +kernel
theorem dL_law_270 : decode cL_law 270 = .ok (.ireturn, 1) := by decide +kernel
theorem dL_law_271 : decode cL_law 271 = .ok (.aload_n 1, 1) := by decide +kernel
theorem dL_law_272 : decode cL_law 272 = .ok (.aload_n 0, 1) := by decide +kernel
theorem dL_law_273 : decode cL_law 273 = .ok (.iload_n 3, 1) := by decide +kernel
theorem dL_law_274 : decode cL_law 274 = .ok (.iconst 1, 1) := by decide +kernel
theorem dL_law_275 : decode cL_law 275 = .ok (.iadd, 1) := by decide +kernel
theorem dL_law_276 : decode cL_law 276 = .ok (.iaload, 1) := by decide +kernel
theorem dL_law_277 : decode cL_law 277 = .ok (.invokevirtual 37, 3) := by decide +kernel
theorem dL_law_280 : decode cL_law 280 = .ok (.aload_n 2, 1) := by decide +kernel
theorem dL_law_281 : decode cL_law 281 = .ok (.aload_n 0, 1) := by decide +kernel
theorem dL_law_282 : decode cL_law 282 = .ok (.iload_n 3, 1) := by decide +kernel
theorem dL_law_283 : decode cL_law 283 = .ok (.iconst 1, 1) := by decide +kernel
theorem dL_law_284 : decode cL_law 284 = .ok (.iadd, 1) := by decide +kernel
theorem dL_law_285 : decode cL_law 285 = .ok (.iaload, 1) := by decide +kernel
theorem dL_law_286 : decode cL_law 286 = .ok (.invokevirtual 40, 3) := by decide +kernel
theorem dL_law_289 : decode cL_law 289 = .ok (.if_icmp .eq 385, 3) := by decide +kernel
theorem dL_law_292 : decode cL_law 292 = .ok (.iconst 0, 1) := by decide +kernel
theorem dL_law_293 : decode cL_law 293 = .ok (.ireturn, 1) := by decide +kernel
theorem dL_law_294 : decode cL_law 294 = .ok (.aload_n 1, 1) := by decide +kernel
theorem dL_law_295 : decode cL_law 295 = .ok (.aload_n 0, 1) := by decide +kernel
theorem dL_law_296 : decode cL_law 296 = .ok (.iload_n 3, 1) := by decide +kernel
theorem dL_law_297 : decode cL_law 297 = .ok (.iconst 1, 1) := by decide +kernel
theorem dL_law_298 : decode cL_law 298 = .ok (.iadd, 1) := by decide +kernel
theorem dL_law_299 : decode cL_law 299 = .ok (.iaload, 1) := by decide +kernel
theorem dL_law_300 : decode cL_law 300 = .ok (.invokevirtual 41, 3) := by decide +kernel
theorem dL_law_303 : decode cL_law 303 = .ok (.aload_n 2, 1) := by decide +kernel
theorem dL_law_304 : decode cL_law 304 = .ok (.aload_n 0, 1) := by decide +kernel
theorem dL_law_305 : decode cL_law 305 = .ok (.iload_n 3, 1) := by decide +kernel
theorem dL_law_306 : decode cL_law 306 = .ok (.iconst 1, 1) := by decide +kernel
theorem dL_law_307 : decode cL_law 307 = .ok (.iadd, 1) := by decide +kernel
theorem dL_law_308 : decode cL_law 308 = .ok (.iaload, 1) := by decide +kernel
theorem dL_law_309 : decode cL_law 309 = .ok (.invokevirtual 45, 3) := by decide +kernel
theorem dL_law_312 : decode cL_law 312 = .ok (.lcmp, 1) := by decide +kernel
theorem dL_law_313 : decode cL_law 313 = .ok (.ifCond .eq 361, 3) := by decide +kernel
theorem dL_law_316 : decode cL_law 316 = .ok (.iconst 0, 1) := by decide +kernel
theorem dL_law_317 : decode cL_law 317 = .ok (.ireturn, 1) := by decide +kernel
theorem dL_law_318 : decode cL_law 318 = .ok (.aload_n 1, 1) := by decide +kernel
theorem dL_law_319 : decode cL_law 319 = .ok (.aload_n 0, 1) := by decide +kernel
theorem dL_law_320 : decode cL_law 320 = .ok (.iload_n 3, 1) := by decide +kernel
theorem dL_law_321 : decode cL_law 321 = .ok (.iconst 1, 1) := by decide +kernel
theorem dL_law_322 : decode cL_law 322 = .ok (.iadd, 1) := by decide +kernel
theorem dL_law_323 : decode cL_law 323 = .ok (.iaload, 1) := by decide +kernel
theorem dL_law_324 : decode cL_law 324 = .ok (.invokevirtual 46, 3) := by decide +kernel
theorem dL_law_327 : decode cL_law 327 = .ok (.dstore 4, 2) := by decide +kernel
theorem dL_law_329 : decode cL_law 329 = .ok (.aload_n 2, 1) := by decide +kernel
theorem dL_law_330 : decode cL_law 330 = .ok (.aload_n 0, 1) := by decide +kernel
theorem dL_law_331 : decode cL_law 331 = .ok (.iload_n 3, 1) := by decide +kernel
theorem dL_law_332 : decode cL_law 332 = .ok (.iconst 1, 1) := by decide +kernel
theorem dL_law_333 : decode cL_law 333 = .ok (.iadd, 1) := by decide +kernel
theorem dL_law_334 : decode cL_law 334 = .ok (.iaload, 1) := by decide +kernel
theorem dL_law_335 : decode cL_law 335 = .ok (.invokevirtual 50, 3) := by decide +kernel
theorem dL_law_338 : decode cL_law 338 = .ok (.dstore 6, 2) := by decide +kernel
theorem dL_law_340 : decode cL_law 340 = .ok (.dload 4, 2) := by decide +kernel
theorem dL_law_342 : decode cL_law 342 = .ok (.dload 6, 2) := by decide +kernel
theorem dL_law_344 : decode cL_law 344 = .ok (.dcmp .l, 1) := by decide +kernel
theorem dL_law_345 : decode cL_law 345 = .ok (.ifCond .eq 21, 3) := by decide +kernel
theorem dL_law_348 : decode cL_law 348 = .ok (.dload 4, 2) := by decide +kernel
theorem dL_law_350 : decode cL_law 350 = .ok (.dload 4, 2) := by decide +kernel
theorem dL_law_352 : decode cL_law 352 = .ok (.dcmp .l, 1) := by decide +kernel
theorem dL_law_353 : decode cL_law 353 = .ok (.ifCond .eq 11, 3) := by decide +kernel
theorem dL_law_356 : decode cL_law 356 = .ok (.dload 6, 2) := by decide +kernel
theorem dL_law_358 : decode cL_law 358 = .ok (.dload 6, 2) := by decide +kernel
theorem dL_law_360 : decode cL_law 360 = .ok (.dcmp .l, 1) := by decide +kernel
theorem dL_law_361 : decode cL_law 361 = .ok (.ifCond .ne 5, 3) := by decide +kernel
theorem dL_law_364 : decode cL_law 364 = .ok (.iconst 0, 1) := by decide +kernel
theorem dL_law_365 : decode cL_law 365 = .ok (.ireturn, 1) := by decide +kernel
theorem dL_law_366 : decode cL_law 366 = .ok (.goto 308, 3) := by decide +kernel
theorem dL_law_369 : decode cL_law 369 = .ok (.aload_n 1, 1) := by decide +kernel
theorem dL_law_370 : decode cL_law 370 = .ok (.aload_n 0, 1) := by decide +kernel
theorem dL_law_371 : decode cL_law 371 = .ok (.iload_n 3, 1) := by decide +kernel
theorem dL_law_372 : decode cL_law 372 = .ok (.iconst 1, 1) := by decide +kernel
theorem dL_law_373 : decode cL_law 373 = .ok (.iadd, 1) := by decide +kernel
theorem dL_law_374 : decode cL_law 374 = .ok (.iaload, 1) := by decide +kernel
theorem dL_law_375 : decode cL_law 375 = .ok (.invokevirtual 51, 3) := by decide +kernel
theorem dL_law_378 : decode cL_law 378 = .ok (.dstore 4, 2) := by decide +kernel
theorem dL_law_380 : decode cL_law 380 = .ok (.aload_n 2, 1) := by decide +kernel
theorem dL_law_381 : decode cL_law 381 = .ok (.aload_n 0, 1) := by decide +kernel
theorem dL_law_382 : decode cL_law 382 = .ok (.iload_n 3, 1) := by decide +kernel
theorem dL_law_383 : decode cL_law 383 = .ok (.iconst 1, 1) := by decide +kernel
theorem dL_law_384 : decode cL_law 384 = .ok (.iadd, 1) := by decide +kernel
theorem dL_law_385 : decode cL_law 385 = .ok (.iaload, 1) := by decide +kernel
theorem dL_law_386 : decode cL_law 386 = .ok (.invokevirtual 54, 3) := by decide +kernel
theorem dL_law_389 : decode cL_law 389 = .ok (.dstore 6, 2) := by decide +kernel
theorem dL_law_391 : decode cL_law 391 = .ok (.dload 4, 2) := by decide +kernel
theorem dL_law_393 : decode cL_law 393 = .ok (.dload 6, 2) := by decide +kernel
theorem dL_law_395 : decode cL_law 395 = .ok (.dcmp .l, 1) := by decide +kernel
theorem dL_law_396 : decode cL_law 396 = .ok (.ifCond .eq 21, 3) := by decide +kernel
theorem dL_law_399 : decode cL_law 399 = .ok (.dload 4, 2) := by decide +kernel
theorem dL_law_401 : decode cL_law 401 = .ok (.dload 4, 2) := by decide +kernel
theorem dL_law_403 : decode cL_law 403 = .ok (.dcmp .l, 1) := by decide +kernel
theorem dL_law_404 : decode cL_law 404 = .ok (.ifCond .eq 11, 3) := by decide +kernel
theorem dL_law_407 : decode cL_law 407 = .ok (.dload 6, 2) := by decide +kernel
theorem dL_law_409 : decode cL_law 409 = .ok (.dload 6, 2) := by decide +kernel
theorem dL_law_411 : decode cL_law 411 = .ok (.dcmp .l, 1) := by decide +kernel
theorem dL_law_412 : decode cL_law 412 = .ok (.ifCond .ne 5, 3) := by decide +kernel
theorem dL_law_415 : decode cL_law 415 = .ok (.iconst 0, 1) := by decide +kernel
theorem dL_law_416 : decode cL_law 416 = .ok (.ireturn, 1) := by decide +kernel
theorem dL_law_417 : decode cL_law 417 = .ok (.goto 257, 3) := by decide +kernel
theorem dL_law_420 : decode cL_law 420 = .ok (.aload_n 1, 1) := by decide +kernel
theorem dL_law_421 : decode cL_law 421 = .ok (.aload_n 0, 1) := by decide +kernel
theorem dL_law_422 : decode cL_law 422 = .ok (.iload_n 3, 1) := by decide +kernel
theorem dL_law_423 : decode cL_law 423 = .ok (.iconst 1, 1) := by decide +kernel
theorem dL_law_424 : decode cL_law 424 = .ok (.iadd, 1) := by decide +kernel
theorem dL_law_425 : decode cL_law 425 = .ok (.iaload, 1) := by decide +kernel
theorem dL_law_426 : decode cL_law 426 = .ok (.invokevirtual 55, 3) := by decide +kernel
theorem dL_law_429 : decode cL_law 429 = .ok (.aload_n 2, 1) := by decide +kernel
theorem dL_law_430 : decode cL_law 430 = .ok (.aload_n 0, 1) := by decide +kernel
theorem dL_law_431 : decode cL_law 431 = .ok (.iload_n 3, 1) := by decide +kernel
theorem dL_law_432 : decode cL_law 432 = .ok (.iconst 1, 1) := by decide +kernel
theorem dL_law_433 : decode cL_law 433 = .ok (.iadd, 1) := by decide +kernel
theorem dL_law_434 : decode cL_law 434 = .ok (.iaload, 1) := by decide +kernel
theorem dL_law_435 : decode cL_law 435 = .ok (.invokevirtual 58, 3) := by decide +kernel
theorem dL_law_438 : decode cL_law 438 = .ok (.if_icmp .eq 236, 3) := by decide +kernel
theorem dL_law_441 : decode cL_law 441 = .ok (.iconst 0, 1) := by decide +kernel
theorem dL_law_442 : decode cL_law 442 = .ok (.ireturn, 1) := by decide +kernel
theorem dL_law_443 : decode cL_law 443 = .ok (.aload_n 1, 1) := by decide +kernel
theorem dL_law_444 : decode cL_law 444 = .ok (.aload_n 0, 1) := by decide +kernel
theorem dL_law_445 : decode cL_law 445 = .ok (.iload_n 3, 1) := by decide +kernel
theorem dL_law_446 : decode cL_law 446 = .ok (.iconst 1, 1) := by decide +kernel
theorem dL_law_447 : decode cL_law 447 = .ok (.iadd, 1) := by decide +kernel
theorem dL_law_448 : decode cL_law 448 = .ok (.iaload, 1) := by decide +kernel
theorem dL_law_449 : decode cL_law 449 = .ok (.invokevirtual 59, 3) := by decide +kernel
theorem dL_law_452 : decode cL_law 452 = .ok (.aload_n 2, 1) := by decide +kernel
theorem dL_law_453 : decode cL_law 453 = .ok (.aload_n 0, 1) := by decide +kernel
theorem dL_law_454 : decode cL_law 454 = .ok (.iload_n 3, 1) := by decide +kernel
theorem dL_law_455 : decode cL_law 455 = .ok (.iconst 1, 1) := by decide +kernel
theorem dL_law_456 : decode cL_law 456 = .ok (.iadd, 1) := by decide +kernel
theorem dL_law_457 : decode cL_law 457 = .ok (.iaload, 1) := by decide +kernel
theorem dL_law_458 : decode cL_law 458 = .ok (.invokevirtual 62, 3) := by decide +kernel
theorem dL_law_461 : decode cL_law 461 = .ok (.if_icmp .eq 213, 3) := by decide +kernel
theorem dL_law_464 : decode cL_law 464 = .ok (.iconst 0, 1) := by decide +kernel
theorem dL_law_465 : decode cL_law 465 = .ok (.ireturn, 1) := by decide +kernel
theorem dL_law_466 : decode cL_law 466 = .ok (.aload_n 1, 1) := by decide +kernel
theorem dL_law_467 : decode cL_law 467 = .ok (.aload_n 0, 1) := by decide +kernel
theorem dL_law_468 : decode cL_law 468 = .ok (.iload_n 3, 1) := by decide +kernel
theorem dL_law_469 : decode cL_law 469 = .ok (.iconst 1, 1) := by decide +kernel
theorem dL_law_470 : decode cL_law 470 = .ok (.iadd, 1) := by decide +kernel
theorem dL_law_471 : decode cL_law 471 = .ok (.iaload, 1) := by decide +kernel
theorem dL_law_472 : decode cL_law 472 = .ok (.aload_n 0, 1) := by decide +kernel
theorem dL_law_473 : decode cL_law 473 = .ok (.iload_n 3, 1) := by decide +kernel
theorem dL_law_474 : decode cL_law 474 = .ok (.iconst 2, 1) := by decide +kernel
theorem dL_law_475 : decode cL_law 475 = .ok (.iadd, 1) := by decide +kernel
theorem dL_law_476 : decode cL_law 476 = .ok (.iaload, 1) := by decide +kernel
theorem dL_law_477 : decode cL_law 477 = .ok (.invokevirtual 63, 3) := by decide +kernel
theorem dL_law_480 : decode cL_law 480 = .ok (.aload_n 2, 1) := by decide +kernel
theorem dL_law_481 : decode cL_law 481 = .ok (.aload_n 0, 1) := by decide +kernel
theorem dL_law_482 : decode cL_law 482 = .ok (.iload_n 3, 1) := by decide +kernel
theorem dL_law_483 : decode cL_law 483 = .ok (.iconst 1, 1) := by decide +kernel
theorem dL_law_484 : decode cL_law 484 = .ok (.iadd, 1) := by decide +kernel
theorem dL_law_485 : decode cL_law 485 = .ok (.iaload, 1) := by decide +kernel
theorem dL_law_486 : decode cL_law 486 = .ok (.aload_n 0, 1) := by decide +kernel
theorem dL_law_487 : decode cL_law 487 = .ok (.iload_n 3, 1) := by decide +kernel
theorem dL_law_488 : decode cL_law 488 = .ok (.iconst 2, 1) := by decide +kernel
theorem dL_law_489 : decode cL_law 489 = .ok (.iadd, 1) := by decide +kernel
theorem dL_law_490 : decode cL_law 490 = .ok (.iaload, 1) := by decide +kernel
theorem dL_law_491 : decode cL_law 491 = .ok (.invokevirtual 67, 3) := by decide +kernel
theorem dL_law_494 : decode cL_law 494 = .ok (.lcmp, 1) := by decide +kernel
theorem dL_law_495 : decode cL_law 495 = .ok (.ifCond .eq 179, 3) := by decide +kernel
theorem dL_law_498 : decode cL_law 498 = .ok (.iconst 0, 1) := by decide +kernel
theorem dL_law_499 : decode cL_law 499 = .ok (.ireturn, 1) := by decide +kernel
theorem dL_law_500 : decode cL_law 500 = .ok (.aload_n 1, 1) := by decide +kernel
theorem dL_law_501 : decode cL_law 501 = .ok (.aload_n 0, 1) := by decide +kernel
theorem dL_law_502 : decode cL_law 502 = .ok (.iload_n 3, 1) := by decide +kernel
theorem dL_law_503 : decode cL_law 503 = .ok (.iconst 1, 1) := by decide +kernel
theorem dL_law_504 : decode cL_law 504 = .ok (.iadd, 1) := by decide +kernel
theorem dL_law_505 : decode cL_law 505 = .ok (.iaload, 1) := by decide +kernel
theorem dL_law_506 : decode cL_law 506 = .ok (.aload_n 0, 1) := by decide +kernel
theorem dL_law_507 : decode cL_law 507 = .ok (.iload_n 3, 1) := by decide +kernel
theorem dL_law_508 : decode cL_law 508 = .ok (.iconst 2, 1) := by decide +kernel
theorem dL_law_509 : decode cL_law 509 = .ok (.iadd, 1) := by decide +kernel
theorem dL_law_510 : decode cL_law 510 = .ok (.iaload, 1) := by decide +kernel
theorem dL_law_511 : decode cL_law 511 = .ok (.invokevirtual 68, 3) := by decide +kernel
theorem dL_law_514 : decode cL_law 514 = .ok (.dstore 4, 2) := by decide +kernel
theorem dL_law_516 : decode cL_law 516 = .ok (.aload_n 2, 1) := by decide +kernel
theorem dL_law_517 : decode cL_law 517 = .ok (.aload_n 0, 1) := by decide +kernel
theorem dL_law_518 : decode cL_law 518 = .ok (.iload_n 3, 1) := by decide +kernel
theorem dL_law_519 : decode cL_law 519 = .ok (.iconst 1, 1) := by decide +kernel
theorem dL_law_520 : decode cL_law 520 = .ok (.iadd, 1) := by decide +kernel
theorem dL_law_521 : decode cL_law 521 = .ok (.iaload, 1) := by decide +kernel
theorem dL_law_522 : decode cL_law 522 = .ok (.aload_n 0, 1) := by decide +kernel
theorem dL_law_523 : decode cL_law 523 = .ok (.iload_n 3, 1) := by decide +kernel
theorem dL_law_524 : decode cL_law 524 = .ok (.iconst 2, 1) := by decide +kernel
theorem dL_law_525 : decode cL_law 525 = .ok (.iadd, 1) := by decide +kernel
theorem dL_law_526 : decode cL_law 526 = .ok (.iaload, 1) := by decide +kernel
theorem dL_law_527 : decode cL_law 527 = .ok (.invokevirtual 72, 3) := by decide +kernel
theorem dL_law_530 : decode cL_law 530 = .ok (.dstore 6, 2) := by decide +kernel
theorem dL_law_532 : decode cL_law 532 = .ok (.dload 4, 2) := by decide +kernel
theorem dL_law_534 : decode cL_law 534 = .ok (.dload 6, 2) := by decide +kernel
theorem dL_law_536 : decode cL_law 536 = .ok (.dcmp .l, 1) := by decide +kernel
theorem dL_law_537 : decode cL_law 537 = .ok (.ifCond .eq 21, 3) := by decide +kernel
theorem dL_law_540 : decode cL_law 540 = .ok (.dload 4, 2) := by decide +kernel
theorem dL_law_542 : decode cL_law 542 = .ok (.dload 4, 2) := by decide +kernel
theorem dL_law_544 : decode cL_law 544 = .ok (.dcmp .l, 1) := by decide +kernel
theorem dL_law_545 : decode cL_law 545 = .ok (.ifCond .eq 11, 3) := by decide +kernel
theorem dL_law_548 : decode cL_law 548 = .ok (.dload 6, 2) := by decide +kernel
theorem dL_law_550 : decode cL_law 550 = .ok (.dload 6, 2) := by decide +kernel
theorem dL_law_552 : decode cL_law 552 = .ok (.dcmp .l, 1) := by decide +kernel
theorem dL_law_553 : decode cL_law 553 = .ok (.ifCond .ne 5, 3) := by decide +kernel
theorem dL_law_556 : decode cL_law 556 = .ok (.iconst 0, 1) := by decide +kernel
theorem dL_law_557 : decode cL_law 557 = .ok (.ireturn, 1) := by decide +kernel
theorem dL_law_558 : decode cL_law 558 = .ok (.goto 116, 3) := by decide +kernel
theorem dL_law_561 : decode cL_law 561 = .ok (.aload_n 1, 1) := by decide +kernel
theorem dL_law_562 : decode cL_law 562 = .ok (.aload_n 0, 1) := by decide +kernel
theorem dL_law_563 : decode cL_law 563 = .ok (.iload_n 3, 1) := by decide +kernel
theorem dL_law_564 : decode cL_law 564 = .ok (.iconst 1, 1) := by decide +kernel
theorem dL_law_565 : decode cL_law 565 = .ok (.iadd, 1) := by decide +kernel
theorem dL_law_566 : decode cL_law 566 = .ok (.iaload, 1) := by decide +kernel
theorem dL_law_567 : decode cL_law 567 = .ok (.aload_n 0, 1) := by decide +kernel
theorem dL_law_568 : decode cL_law 568 = .ok (.iload_n 3, 1) := by decide +kernel
theorem dL_law_569 : decode cL_law 569 = .ok (.iconst 2, 1) := by decide +kernel
theorem dL_law_570 : decode cL_law 570 = .ok (.iadd, 1) := by decide +kernel
theorem dL_law_571 : decode cL_law 571 = .ok (.iaload, 1) := by decide +kernel
theorem dL_law_572 : decode cL_law 572 = .ok (.invokevirtual 73, 3) := by decide +kernel
theorem dL_law_575 : decode cL_law 575 = .ok (.aload_n 2, 1) := by decide +kernel
theorem dL_law_576 : decode cL_law 576 = .ok (.aload_n 0, 1) := by decide +kernel
theorem dL_law_577 : decode cL_law 577 = .ok (.iload_n 3, 1) := by decide +kernel
theorem dL_law_578 : decode cL_law 578 = .ok (.iconst 1, 1) := by decide +kernel
theorem dL_law_579 : decode cL_law 579 = .ok (.iadd, 1) := by decide +kernel
theorem dL_law_580 : decode cL_law 580 = .ok (.iaload, 1) := by decide +kernel
theorem dL_law_581 : decode cL_law 581 = .ok (.aload_n 0, 1) := by decide +kernel
theorem dL_law_582 : decode cL_law 582 = .ok (.iload_n 3, 1) := by decide +kernel
theorem dL_law_583 : decode cL_law 583 = .ok (.iconst 2, 1) := by decide +kernel
theorem dL_law_584 : decode cL_law 584 = .ok (.iadd, 1) := by decide +kernel
theorem dL_law_585 : decode cL_law 585 = .ok (.iaload, 1) := by decide +kernel
theorem dL_law_586 : decode cL_law 586 = .ok (.invokevirtual 76, 3) := by decide +kernel
theorem dL_law_589 : decode cL_law 589 = .ok (.lcmp, 1) := by decide +kernel
theorem dL_law_590 : decode cL_law 590 = .ok (.ifCond .eq 84, 3) := by decide +kernel
theorem dL_law_593 : decode cL_law 593 = .ok (.iconst 0, 1) := by decide +kernel
theorem dL_law_594 : decode cL_law 594 = .ok (.ireturn, 1) := by decide +kernel
theorem dL_law_595 : decode cL_law 595 = .ok (.aload_n 1, 1) := by decide +kernel
theorem dL_law_596 : decode cL_law 596 = .ok (.aload_n 0, 1) := by decide +kernel
theorem dL_law_597 : decode cL_law 597 = .ok (.iload_n 3, 1) := by decide +kernel
theorem dL_law_598 : decode cL_law 598 = .ok (.iconst 1, 1) := by decide +kernel
theorem dL_law_599 : decode cL_law 599 = .ok (.iadd, 1) := by decide +kernel
theorem dL_law_600 : decode cL_law 600 = .ok (.iaload, 1) := by decide +kernel
theorem dL_law_601 : decode cL_law 601 = .ok (.aload_n 0, 1) := by decide +kernel
theorem dL_law_602 : decode cL_law 602 = .ok (.iload_n 3, 1) := by decide +kernel
theorem dL_law_603 : decode cL_law 603 = .ok (.iconst 2, 1) := by decide +kernel
theorem dL_law_604 : decode cL_law 604 = .ok (.iadd, 1) := by decide +kernel
theorem dL_law_605 : decode cL_law 605 = .ok (.iaload, 1) := by decide +kernel
theorem dL_law_606 : decode cL_law 606 = .ok (.invokevirtual 77, 3) := by decide +kernel
theorem dL_law_609 : decode cL_law 609 = .ok (.aload_n 2, 1) := by decide +kernel
theorem dL_law_610 : decode cL_law 610 = .ok (.aload_n 0, 1) := by decide +kernel
theorem dL_law_611 : decode cL_law 611 = .ok (.iload_n 3, 1) := by decide +kernel
theorem dL_law_612 : decode cL_law 612 = .ok (.iconst 1, 1) := by decide +kernel
theorem dL_law_613 : decode cL_law 613 = .ok (.iadd, 1) := by decide +kernel
theorem dL_law_614 : decode cL_law 614 = .ok (.iaload, 1) := by decide +kernel
theorem dL_law_615 : decode cL_law 615 = .ok (.aload_n 0, 1) := by decide +kernel
theorem dL_law_616 : decode cL_law 616 = .ok (.iload_n 3, 1) := by decide +kernel
theorem dL_law_617 : decode cL_law 617 = .ok (.iconst 2, 1) := by decide +kernel
theorem dL_law_618 : decode cL_law 618 = .ok (.iadd, 1) := by decide +kernel
theorem dL_law_619 : decode cL_law 619 = .ok (.iaload, 1) := by decide +kernel
theorem dL_law_620 : decode cL_law 620 = .ok (.invokevirtual 81, 3) := by decide +kernel
theorem dL_law_623 : decode cL_law 623 = .ok (.if_icmp .eq 51, 3) := by decide +kernel
theorem dL_law_626 : decode cL_law 626 = .ok (.iconst 0, 1) := by decide +kernel
theorem dL_law_627 : decode cL_law 627 = .ok (.ireturn, 1) := by decide +kernel
theorem dL_law_628 : decode cL_law 628 = .ok (.aload_n 1, 1) := by decide +kernel
theorem dL_law_629 : decode cL_law 629 = .ok (.aload_n 0, 1) := by decide +kernel
theorem dL_law_630 : decode cL_law 630 = .ok (.iload_n 3, 1) := by decide +kernel
theorem dL_law_631 : decode cL_law 631 = .ok (.iconst 1, 1) := by decide +kernel
theorem dL_law_632 : decode cL_law 632 = .ok (.iadd, 1) := by decide +kernel
theorem dL_law_633 : decode cL_law 633 = .ok (.iaload, 1) := by decide +kernel
theorem dL_law_634 : decode cL_law 634 = .ok (.invokevirtual 82, 3) := by decide +kernel
theorem dL_law_637 : decode cL_law 637 = .ok (.aload_n 2, 1) := by decide +kernel
theorem dL_law_638 : decode cL_law 638 = .ok (.aload_n 0, 1) := by decide +kernel
theorem dL_law_639 : decode cL_law 639 = .ok (.iload_n 3, 1) := by decide +kernel
theorem dL_law_640 : decode cL_law 640 = .ok (.iconst 1, 1) := by decide +kernel
theorem dL_law_641 : decode cL_law 641 = .ok (.iadd, 1) := by decide +kernel
theorem dL_law_642 : decode cL_law 642 = .ok (.iaload, 1) := by decide +kernel
theorem dL_law_643 : decode cL_law 643 = .ok (.invokevirtual 85, 3) := by decide +kernel
theorem dL_law_646 : decode cL_law 646 = .ok (.if_icmp .eq 28, 3) := by decide +kernel
theorem dL_law_649 : decode cL_law 649 = .ok (.iconst 0, 1) := by decide +kernel
theorem dL_law_650 : decode cL_law 650 = .ok (.ireturn, 1) := by decide +kernel
theorem dL_law_651 : decode cL_law 651 = .ok (.aload_n 1, 1) := by decide +kernel
theorem dL_law_652 : decode cL_law 652 = .ok (.aload_n 0, 1) := by decide +kernel
theorem dL_law_653 : decode cL_law 653 = .ok (.iload_n 3, 1) := by decide +kernel
theorem dL_law_654 : decode cL_law 654 = .ok (.iconst 1, 1) := by decide +kernel
theorem dL_law_655 : decode cL_law 655 = .ok (.iadd, 1) := by decide +kernel
theorem dL_law_656 : decode cL_law 656 = .ok (.iaload, 1) := by decide +kernel
theorem dL_law_657 : decode cL_law 657 = .ok (.invokevirtual 86, 3) := by decide +kernel
theorem dL_law_660 : decode cL_law 660 = .ok (.aload_n 2, 1) := by decide +kernel
theorem dL_law_661 : decode cL_law 661 = .ok (.aload_n 0, 1) := by decide +kernel
theorem dL_law_662 : decode cL_law 662 = .ok (.iload_n 3, 1) := by decide +kernel
theorem dL_law_663 : decode cL_law 663 = .ok (.iconst 1, 1) := by decide +kernel
theorem dL_law_664 : decode cL_law 664 = .ok (.iadd, 1) := by decide +kernel
theorem dL_law_665 : decode cL_law 665 = .ok (.iaload, 1) := by decide +kernel
theorem dL_law_666 : decode cL_law 666 = .ok (.invokevirtual 89, 3) := by decide +kernel
theorem dL_law_669 : decode cL_law 669 = .ok (.if_icmp .eq 5, 3) := by decide +kernel
theorem dL_law_672 : decode cL_law 672 = .ok (.iconst 0, 1) := by decide +kernel
theorem dL_law_673 : decode cL_law 673 = .ok (.ireturn, 1) := by decide +kernel
theorem dL_law_674 : decode cL_law 674 = .ok (.iinc 3 5, 3) := by decide +kernel
theorem dL_law_677 : decode cL_law 677 = .ok (.goto (-659), 3) := by decide +kernel
theorem dL_law_680 : decode cL_law 680 = .ok (.iconst 1, 1) := by decide +kernel
theorem dL_law_681 : decode cL_law 681 = .ok (.ireturn, 1) := by decide +kernel
