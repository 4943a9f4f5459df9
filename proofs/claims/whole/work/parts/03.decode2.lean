theorem dX11_maps_82 : decode cX11_maps 82 = .ok (.bipush 6, 2) := by decide +kernel
theorem dX11_maps_84 : decode cX11_maps 84 = .ok (.if_icmp .ge 49, 3) := by decide +kernel
theorem dX11_maps_87 : decode cX11_maps 87 = .ok (.aload_n 0, 1) := by decide +kernel
theorem dX11_maps_88 : decode cX11_maps 88 = .ok (.getfield 38, 3) := by decide +kernel
theorem dX11_maps_91 : decode cX11_maps 91 = .ok (.iload 5, 2) := by decide +kernel
theorem dX11_maps_93 : decode cX11_maps 93 = .ok (.iload 5, 2) := by decide +kernel
theorem dX11_maps_95 : decode cX11_maps 95 = .ok (.iload_n 2, 1) := by decide +kernel
theorem dX11_maps_96 : decode cX11_maps 96 = .ok (.if_icmp .ge 16, 3) := by decide +kernel
theorem dX11_maps_99 : decode cX11_maps 99 = .ok (.aload_n 0, 1) := by decide +kernel
theorem dX11_maps_100 : decode cX11_maps 100 = .ok (.iload_n 1, 1) := by decide +kernel
theorem dX11_maps_101 : decode cX11_maps 101 = .ok (.iload 4, 2) := by decide +kernel
theorem dX11_maps_103 : decode cX11_maps 103 = .ok (.iload 5, 2) := by decide +kernel
theorem dX11_maps_105 : decode cX11_maps 105 = .ok (.invokevirtual 177, 3) := by decide +kernel
theorem dX11_maps_108 : decode cX11_maps 108 = .ok (.i2l, 1) := by decide +kernel
theorem dX11_maps_109 : decode cX11_maps 109 = .ok (.goto 17, 3) := by decide +kernel
theorem dX11_maps_112 : decode cX11_maps 112 = .ok (.iload 5, 2) := by decide +kernel
theorem dX11_maps_114 : decode cX11_maps 114 = .ok (.iload_n 2, 1) := by decide +kernel
theorem dX11_maps_115 : decode cX11_maps 115 = .ok (.isub, 1) := by decide +kernel
theorem dX11_maps_116 : decode cX11_maps 116 = .ok (.iload 4, 2) := by decide +kernel
theorem dX11_maps_118 : decode cX11_maps 118 = .ok (.if_icmp .ne 7, 3) := by decide +kernel
theorem dX11_maps_121 : decode cX11_maps 121 = .ok (.lconst 1, 1) := by decide +kernel
theorem dX11_maps_122 : decode cX11_maps 122 = .ok (.goto 4, 3) := by decide +kernel
theorem dX11_maps_125 : decode cX11_maps 125 = .ok (.lconst 0, 1) := by decide +kernel
theorem dX11_maps_126 : decode cX11_maps 126 = .ok (.lastore, 1) := by decide +kernel
theorem dX11_maps_127 : decode cX11_maps 127 = .ok (.iinc 5 1, 3) := by decide +kernel
theorem dX11_maps_130 : decode cX11_maps 130 = .ok (.goto (-50), 3) := by decide +kernel
theorem dX11_maps_133 : decode cX11_maps 133 = .ok (.aload_n 0, 1) := by decide +kernel
theorem dX11_maps_134 : decode cX11_maps 134 = .ok (.aload_n 0, 1) := by decide +kernel
theorem dX11_maps_135 : decode cX11_maps 135 = .ok (.getfield 38, 3) := by decide +kernel
theorem dX11_maps_138 : decode cX11_maps 138 = .ok (.iconst 0, 1) := by decide +kernel
theorem dX11_maps_139 : decode cX11_maps 139 = .ok (.iconst 0, 1) := by decide +kernel
theorem dX11_maps_140 : decode cX11_maps 140 = .ok (.iload_n 2, 1) := by decide +kernel
theorem dX11_maps_141 : decode cX11_maps 141 = .ok (.iload_n 3, 1) := by decide +kernel
theorem dX11_maps_142 : decode cX11_maps 142 = .ok (.iadd, 1) := by decide +kernel
theorem dX11_maps_143 : decode cX11_maps 143 = .ok (.invokevirtual 166, 3) := by decide +kernel
theorem dX11_maps_146 : decode cX11_maps 146 = .ok (.iinc 4 1, 3) := by decide +kernel
theorem dX11_maps_149 : decode cX11_maps 149 = .ok (.goto (-78), 3) := by decide +kernel
theorem dX11_maps_152 : decode cX11_maps 152 = .ok (.aload_n 0, 1) := by decide +kernel
theorem dX11_maps_153 : decode cX11_maps 153 = .ok (.iload_n 2, 1) := by decide +kernel
theorem dX11_maps_154 : decode cX11_maps 154 = .ok (.iload_n 3, 1) := by decide +kernel
theorem dX11_maps_155 : decode cX11_maps 155 = .ok (.iadd, 1) := by decide +kernel
theorem dX11_maps_156 : decode cX11_maps 156 = .ok (.aload_n 0, 1) := by decide +kernel
theorem dX11_maps_157 : decode cX11_maps 157 = .ok (.getfield 32, 3) := by decide +kernel
theorem dX11_maps_160 : decode cX11_maps 160 = .ok (.invokevirtual 170, 3) := by decide +kernel
theorem dX11_maps_163 : decode cX11_maps 163 = .ok (.iconst 0, 1) := by decide +kernel
theorem dX11_maps_164 : decode cX11_maps 164 = .ok (.istore 4, 2) := by decide +kernel
theorem dX11_maps_166 : decode cX11_maps 166 = .ok (.iload 4, 2) := by decide +kernel
theorem dX11_maps_168 : decode cX11_maps 168 = .ok (.bipush 36, 2) := by decide +kernel
theorem dX11_maps_170 : decode cX11_maps 170 = .ok (.if_icmp .ge 99, 3) := by decide +kernel
theorem dX11_maps_173 : decode cX11_maps 173 = .ok (.iload 4, 2) := by decide +kernel
theorem dX11_maps_175 : decode cX11_maps 175 = .ok (.bipush 6, 2) := by decide +kernel
theorem dX11_maps_177 : decode cX11_maps 177 = .ok (.idiv, 1) := by decide +kernel
theorem dX11_maps_178 : decode cX11_maps 178 = .ok (.istore 5, 2) := by decide +kernel
theorem dX11_maps_180 : decode cX11_maps 180 = .ok (.iload 4, 2) := by decide +kernel
theorem dX11_maps_182 : decode cX11_maps 182 = .ok (.bipush 6, 2) := by decide +kernel
theorem dX11_maps_184 : decode cX11_maps 184 = .ok (.irem, 1) := by decide +kernel
theorem dX11_maps_185 : decode cX11_maps 185 = .ok (.istore 6, 2) := by decide +kernel
theorem dX11_maps_187 : decode cX11_maps 187 = .ok (.aload_n 0, 1) := by decide +kernel
theorem dX11_maps_188 : decode cX11_maps 188 = .ok (.getfield 29, 3) := by decide +kernel
theorem dX11_maps_191 : decode cX11_maps 191 = .ok (.iload 4, 2) := by decide +kernel
theorem dX11_maps_193 : decode cX11_maps 193 = .ok (.iload 5, 2) := by decide +kernel
theorem dX11_maps_195 : decode cX11_maps 195 = .ok (.iload_n 2, 1) := by decide +kernel
theorem dX11_maps_196 : decode cX11_maps 196 = .ok (.if_icmp .ge 25, 3) := by decide +kernel
theorem dX11_maps_199 : decode cX11_maps 199 = .ok (.iload 6, 2) := by decide +kernel
theorem dX11_maps_201 : decode cX11_maps 201 = .ok (.iload_n 2, 1) := by decide +kernel
theorem dX11_maps_202 : decode cX11_maps 202 = .ok (.if_icmp .ge 19, 3) := by decide +kernel
theorem dX11_maps_205 : decode cX11_maps 205 = .ok (.aload_n 0, 1) := by decide +kernel
theorem dX11_maps_206 : decode cX11_maps 206 = .ok (.getfield 32, 3) := by decide +kernel
theorem dX11_maps_209 : decode cX11_maps 209 = .ok (.bipush 6, 2) := by decide +kernel
theorem dX11_maps_211 : decode cX11_maps 211 = .ok (.iload 5, 2) := by decide +kernel
theorem dX11_maps_213 : decode cX11_maps 213 = .ok (.imul, 1) := by decide +kernel
theorem dX11_maps_214 : decode cX11_maps 214 = .ok (.iload 6, 2) := by decide +kernel
theorem dX11_maps_216 : decode cX11_maps 216 = .ok (.iadd, 1) := by decide +kernel
theorem dX11_maps_217 : decode cX11_maps 217 = .ok (.laload, 1) := by decide +kernel
theorem dX11_maps_218 : decode cX11_maps 218 = .ok (.goto 4, 3) := by decide +kernel
theorem dX11_maps_221 : decode cX11_maps 221 = .ok (.lconst 0, 1) := by decide +kernel
theorem dX11_maps_222 : decode cX11_maps 222 = .ok (.lastore, 1) := by decide +kernel
theorem dX11_maps_223 : decode cX11_maps 223 = .ok (.aload_n 0, 1) := by decide +kernel
theorem dX11_maps_224 : decode cX11_maps 224 = .ok (.getfield 26, 3) := by decide +kernel
theorem dX11_maps_227 : decode cX11_maps 227 = .ok (.iload 4, 2) := by decide +kernel
theorem dX11_maps_229 : decode cX11_maps 229 = .ok (.iload 5, 2) := by decide +kernel
theorem dX11_maps_231 : decode cX11_maps 231 = .ok (.iload_n 3, 1) := by decide +kernel
theorem dX11_maps_232 : decode cX11_maps 232 = .ok (.if_icmp .ge 29, 3) := by decide +kernel
theorem dX11_maps_235 : decode cX11_maps 235 = .ok (.iload 6, 2) := by decide +kernel
theorem dX11_maps_237 : decode cX11_maps 237 = .ok (.iload_n 3, 1) := by decide +kernel
theorem dX11_maps_238 : decode cX11_maps 238 = .ok (.if_icmp .ge 23, 3) := by decide +kernel
theorem dX11_maps_241 : decode cX11_maps 241 = .ok (.aload_n 0, 1) := by decide +kernel
theorem dX11_maps_242 : decode cX11_maps 242 = .ok (.getfield 32, 3) := by decide +kernel
theorem dX11_maps_245 : decode cX11_maps 245 = .ok (.bipush 6, 2) := by decide +kernel
theorem dX11_maps_247 : decode cX11_maps 247 = .ok (.iload_n 2, 1) := by decide +kernel
theorem dX11_maps_248 : decode cX11_maps 248 = .ok (.iload 5, 2) := by decide +kernel
theorem dX11_maps_250 : decode cX11_maps 250 = .ok (.iadd, 1) := by decide +kernel
theorem dX11_maps_251 : decode cX11_maps 251 = .ok (.imul, 1) := by decide +kernel
theorem dX11_maps_252 : decode cX11_maps 252 = .ok (.iload_n 2, 1) := by decide +kernel
theorem dX11_maps_253 : decode cX11_maps 253 = .ok (.iadd, 1) := by decide +kernel
theorem dX11_maps_254 : decode cX11_maps 254 = .ok (.iload 6, 2) := by decide +kernel
theorem dX11_maps_256 : decode cX11_maps 256 = .ok (.iadd, 1) := by decide +kernel
theorem dX11_maps_257 : decode cX11_maps 257 = .ok (.laload, 1) := by decide +kernel
theorem dX11_maps_258 : decode cX11_maps 258 = .ok (.goto 4, 3) := by decide +kernel
theorem dX11_maps_261 : decode cX11_maps 261 = .ok (.lconst 0, 1) := by decide +kernel
theorem dX11_maps_262 : decode cX11_maps 262 = .ok (.lastore, 1) := by decide +kernel
theorem dX11_maps_263 : decode cX11_maps 263 = .ok (.iinc 4 1, 3) := by decide +kernel
theorem dX11_maps_266 : decode cX11_maps 266 = .ok (.goto (-100), 3) := by decide +kernel
theorem dX11_maps_269 : decode cX11_maps 269 = .ok (.aload_n 0, 1) := by decide +kernel
theorem dX11_maps_270 : decode cX11_maps 270 = .ok (.iload_n 2, 1) := by decide +kernel
theorem dX11_maps_271 : decode cX11_maps 271 = .ok (.invokevirtual 203, 3) := by decide +kernel
theorem dX11_maps_274 : decode cX11_maps 274 = .ok (.return_, 1) := by decide +kernel
theorem dX11_againLeads_0 : decode cX11_againLeads 0 = .ok (.aload_n 0, 1) := by decide +kernel
theorem dX11_againLeads_1 : decode cX11_againLeads 1 = .ok (.iconst 0, 1) := by decide +kernel
theorem dX11_againLeads_2 : decode cX11_againLeads 2 = .ok (.putfield 133, 3) := by decide +kernel
theorem dX11_againLeads_5 : decode cX11_againLeads 5 = .ok (.iconst 0, 1) := by decide +kernel
theorem dX11_againLeads_6 : decode cX11_againLeads 6 = .ok (.istore_n 2, 1) := by decide +kernel
theorem dX11_againLeads_7 : decode cX11_againLeads 7 = .ok (.iload_n 2, 1) := by decide +kernel
theorem dX11_againLeads_8 : decode cX11_againLeads 8 = .ok (.iload_n 1, 1) := by decide +kernel
theorem dX11_againLeads_9 : decode cX11_againLeads 9 = .ok (.if_icmp .ge 23, 3) := by decide +kernel
theorem dX11_againLeads_12 : decode cX11_againLeads 12 = .ok (.aload_n 0, 1) := by decide +kernel
theorem dX11_againLeads_13 : decode cX11_againLeads 13 = .ok (.aload_n 0, 1) := by decide +kernel
theorem dX11_againLeads_14 : decode cX11_againLeads 14 = .ok (.getfield 29, 3) := by decide +kernel
theorem dX11_againLeads_17 : decode cX11_againLeads 17 = .ok (.bipush 6, 2) := by decide +kernel
theorem dX11_againLeads_19 : decode cX11_againLeads 19 = .ok (.iload_n 2, 1) := by decide +kernel
theorem dX11_againLeads_20 : decode cX11_againLeads 20 = .ok (.imul, 1) := by decide +kernel
theorem dX11_againLeads_21 : decode cX11_againLeads 21 = .ok (.iconst 0, 1) := by decide +kernel
theorem dX11_againLeads_22 : decode cX11_againLeads 22 = .ok (.iload_n 1, 1) := by decide +kernel
theorem dX11_againLeads_23 : decode cX11_againLeads 23 = .ok (.invokevirtual 166, 3) := by decide +kernel
theorem dX11_againLeads_26 : decode cX11_againLeads 26 = .ok (.iinc 2 1, 3) := by decide +kernel
theorem dX11_againLeads_29 : decode cX11_againLeads 29 = .ok (.goto (-22), 3) := by decide +kernel
theorem dX11_againLeads_32 : decode cX11_againLeads 32 = .ok (.aload_n 0, 1) := by decide +kernel
theorem dX11_againLeads_33 : decode cX11_againLeads 33 = .ok (.iload_n 1, 1) := by decide +kernel
theorem dX11_againLeads_34 : decode cX11_againLeads 34 = .ok (.aload_n 0, 1) := by decide +kernel
theorem dX11_againLeads_35 : decode cX11_againLeads 35 = .ok (.getfield 29, 3) := by decide +kernel
theorem dX11_againLeads_38 : decode cX11_againLeads 38 = .ok (.invokevirtual 170, 3) := by decide +kernel
theorem dX11_againLeads_41 : decode cX11_againLeads 41 = .ok (.return_, 1) := by decide +kernel
theorem dX11_group_0 : decode cX11_group 0 = .ok (.iload_n 1, 1) := by decide +kernel
theorem dX11_group_1 : decode cX11_group 1 = .ok (.invokestatic 207, 3) := by decide +kernel
theorem dX11_group_4 : decode cX11_group 4 = .ok (.ifCond .eq 15, 3) := by decide +kernel
theorem dX11_group_7 : decode cX11_group 7 = .ok (.iload_n 2, 1) := by decide +kernel
theorem dX11_group_8 : decode cX11_group 8 = .ok (.i2l, 1) := by decide +kernel
theorem dX11_group_9 : decode cX11_group 9 = .ok (.lconst 0, 1) := by decide +kernel
theorem dX11_group_10 : decode cX11_group 10 = .ok (.ldc2_w 211, 3) := by decide +kernel
theorem dX11_group_13 : decode cX11_group 13 = .ok (.invokestatic 123, 3) := by decide +kernel
theorem dX11_group_16 : decode cX11_group 16 = .ok (.ifCond .ne 5, 3) := by decide +kernel
theorem dX11_group_19 : decode cX11_group 19 = .ok (.iconst (-1), 1) := by decide +kernel
theorem dX11_group_20 : decode cX11_group 20 = .ok (.ireturn, 1) := by decide +kernel
theorem dX11_group_21 : decode cX11_group 21 = .ok (.aload_n 0, 1) := by decide +kernel
theorem dX11_group_22 : decode cX11_group 22 = .ok (.invokevirtual 213, 3) := by decide +kernel
theorem dX11_group_25 : decode cX11_group 25 = .ok (.aload_n 0, 1) := by decide +kernel
theorem dX11_group_26 : decode cX11_group 26 = .ok (.iload_n 1, 1) := by decide +kernel
theorem dX11_group_27 : decode cX11_group 27 = .ok (.invokevirtual 162, 3) := by decide +kernel
theorem dX11_group_30 : decode cX11_group 30 = .ok (.istore_n 3, 1) := by decide +kernel
theorem dX11_group_31 : decode cX11_group 31 = .ok (.aload_n 0, 1) := by decide +kernel
theorem dX11_group_32 : decode cX11_group 32 = .ok (.getfield 7, 3) := by decide +kernel
theorem dX11_group_35 : decode cX11_group 35 = .ok (.bipush 14, 2) := by decide +kernel
theorem dX11_group_37 : decode cX11_group 37 = .ok (.iload_n 1, 1) := by decide +kernel
theorem dX11_group_38 : decode cX11_group 38 = .ok (.imul, 1) := by decide +kernel
theorem dX11_group_39 : decode cX11_group 39 = .ok (.iload_n 2, 1) := by decide +kernel
theorem dX11_group_40 : decode cX11_group 40 = .ok (.iastore, 1) := by decide +kernel
theorem dX11_group_41 : decode cX11_group 41 = .ok (.aload_n 0, 1) := by decide +kernel
theorem dX11_group_42 : decode cX11_group 42 = .ok (.getfield 7, 3) := by decide +kernel
theorem dX11_group_45 : decode cX11_group 45 = .ok (.bipush 14, 2) := by decide +kernel
theorem dX11_group_47 : decode cX11_group 47 = .ok (.iload_n 1, 1) := by decide +kernel
theorem dX11_group_48 : decode cX11_group 48 = .ok (.imul, 1) := by decide +kernel
theorem dX11_group_49 : decode cX11_group 49 = .ok (.iconst 1, 1) := by decide +kernel
theorem dX11_group_50 : decode cX11_group 50 = .ok (.iadd, 1) := by decide +kernel
theorem dX11_group_51 : decode cX11_group 51 = .ok (.iconst 0, 1) := by decide +kernel
theorem dX11_group_52 : decode cX11_group 52 = .ok (.iastore, 1) := by decide +kernel
theorem dX11_group_53 : decode cX11_group 53 = .ok (.iconst 0, 1) := by decide +kernel
theorem dX11_group_54 : decode cX11_group 54 = .ok (.istore 4, 2) := by decide +kernel
theorem dX11_group_56 : decode cX11_group 56 = .ok (.iload 4, 2) := by decide +kernel
theorem dX11_group_58 : decode cX11_group 58 = .ok (.bipush 8, 2) := by decide +kernel
theorem dX11_group_60 : decode cX11_group 60 = .ok (.if_icmp .ge 52, 3) := by decide +kernel
theorem dX11_group_63 : decode cX11_group 63 = .ok (.aload_n 0, 1) := by decide +kernel
theorem dX11_group_64 : decode cX11_group 64 = .ok (.iload 4, 2) := by decide +kernel
theorem dX11_group_66 : decode cX11_group 66 = .ok (.invokevirtual 215, 3) := by decide +kernel
theorem dX11_group_69 : decode cX11_group 69 = .ok (.ifCond .eq 37, 3) := by decide +kernel
theorem dX11_group_72 : decode cX11_group 72 = .ok (.aload_n 0, 1) := by decide +kernel
theorem dX11_group_73 : decode cX11_group 73 = .ok (.iload 4, 2) := by decide +kernel
theorem dX11_group_75 : decode cX11_group 75 = .ok (.invokevirtual 174, 3) := by decide +kernel
theorem dX11_group_78 : decode cX11_group 78 = .ok (.iload_n 1, 1) := by decide +kernel
theorem dX11_group_79 : decode cX11_group 79 = .ok (.if_icmp .eq 13, 3) := by decide +kernel
theorem dX11_group_82 : decode cX11_group 82 = .ok (.aload_n 0, 1) := by decide +kernel
theorem dX11_group_83 : decode cX11_group 83 = .ok (.iload 4, 2) := by decide +kernel
theorem dX11_group_85 : decode cX11_group 85 = .ok (.invokevirtual 181, 3) := by decide +kernel
theorem dX11_group_88 : decode cX11_group 88 = .ok (.iload_n 1, 1) := by decide +kernel
theorem dX11_group_89 : decode cX11_group 89 = .ok (.if_icmp .ne 17, 3) := by decide +kernel
theorem dX11_group_92 : decode cX11_group 92 = .ok (.aload_n 0, 1) := by decide +kernel
theorem dX11_group_93 : decode cX11_group 93 = .ok (.getfield 7, 3) := by decide +kernel
theorem dX11_group_96 : decode cX11_group 96 = .ok (.bipush 84, 2) := by decide +kernel
theorem dX11_group_98 : decode cX11_group 98 = .ok (.bipush 11, 2) := by decide +kernel
theorem dX11_group_100 : decode cX11_group 100 = .ok (.iload 4, 2) := by decide +kernel
theorem dX11_group_102 : decode cX11_group 102 = .ok (.imul, 1) := by decide +kernel
theorem dX11_group_103 : decode cX11_group 103 = .ok (.iadd, 1) := by decide +kernel
theorem dX11_group_104 : decode cX11_group 104 = .ok (.iconst (-1), 1) := by decide +kernel
theorem dX11_group_105 : decode cX11_group 105 = .ok (.iastore, 1) := by decide +kernel
theorem dX11_group_106 : decode cX11_group 106 = .ok (.iinc 4 1, 3) := by decide +kernel
theorem dX11_group_109 : decode cX11_group 109 = .ok (.goto (-53), 3) := by decide +kernel
theorem dX11_group_112 : decode cX11_group 112 = .ok (.iload_n 3, 1) := by decide +kernel
theorem dX11_group_113 : decode cX11_group 113 = .ok (.ireturn, 1) := by decide +kernel
theorem dX11_relation_0 : decode cX11_relation 0 = .ok (.iload_n 1, 1) := by decide +kernel
theorem dX11_relation_1 : decode cX11_relation 1 = .ok (.invokestatic 207, 3) := by decide +kernel
theorem dX11_relation_4 : decode cX11_relation 4 = .ok (.ifCond .eq 46, 3) := by decide +kernel
theorem dX11_relation_7 : decode cX11_relation 7 = .ok (.iload_n 2, 1) := by decide +kernel
theorem dX11_relation_8 : decode cX11_relation 8 = .ok (.i2l, 1) := by decide +kernel
theorem dX11_relation_9 : decode cX11_relation 9 = .ok (.ldc2_w 218, 3) := by decide +kernel
theorem dX11_relation_12 : decode cX11_relation 12 = .ok (.ldc2_w 220, 3) := by decide +kernel
theorem dX11_relation_15 : decode cX11_relation 15 = .ok (.invokestatic 123, 3) := by decide +kernel
theorem dX11_relation_18 : decode cX11_relation 18 = .ok (.ifCond .eq 32, 3) := by decide +kernel
theorem dX11_relation_21 : decode cX11_relation 21 = .ok (.iload_n 3, 1) := by decide +kernel
theorem dX11_relation_22 : decode cX11_relation 22 = .ok (.i2l, 1) := by decide +kernel
theorem dX11_relation_23 : decode cX11_relation 23 = .ok (.ldc2_w 218, 3) := by decide +kernel
theorem dX11_relation_26 : decode cX11_relation 26 = .ok (.ldc2_w 220, 3) := by decide +kernel
theorem dX11_relation_29 : decode cX11_relation 29 = .ok (.invokestatic 123, 3) := by decide +kernel
theorem dX11_relation_32 : decode cX11_relation 32 = .ok (.ifCond .eq 18, 3) := by decide +kernel
theorem dX11_relation_35 : decode cX11_relation 35 = .ok (.iload 4, 2) := by decide +kernel
theorem dX11_relation_37 : decode cX11_relation 37 = .ok (.i2l, 1) := by decide +kernel
theorem dX11_relation_38 : decode cX11_relation 38 = .ok (.ldc2_w 218, 3) := by decide +kernel
theorem dX11_relation_41 : decode cX11_relation 41 = .ok (.ldc2_w 220, 3) := by decide +kernel
theorem dX11_relation_44 : decode cX11_relation 44 = .ok (.invokestatic 123, 3) := by decide +kernel
theorem dX11_relation_47 : decode cX11_relation 47 = .ok (.ifCond .ne 5, 3) := by decide +kernel
theorem dX11_relation_50 : decode cX11_relation 50 = .ok (.iconst (-1), 1) := by decide +kernel
theorem dX11_relation_51 : decode cX11_relation 51 = .ok (.ireturn, 1) := by decide +kernel
theorem dX11_relation_52 : decode cX11_relation 52 = .ok (.aload_n 0, 1) := by decide +kernel
theorem dX11_relation_53 : decode cX11_relation 53 = .ok (.getfield 7, 3) := by decide +kernel
theorem dX11_relation_56 : decode cX11_relation 56 = .ok (.bipush 14, 2) := by decide +kernel
theorem dX11_relation_58 : decode cX11_relation 58 = .ok (.iload_n 1, 1) := by decide +kernel
theorem dX11_relation_59 : decode cX11_relation 59 = .ok (.imul, 1) := by decide +kernel
theorem dX11_relation_60 : decode cX11_relation 60 = .ok (.iconst 1, 1) := by decide +kernel
theorem dX11_relation_61 : decode cX11_relation 61 = .ok (.iadd, 1) := by decide +kernel
theorem dX11_relation_62 : decode cX11_relation 62 = .ok (.iaload, 1) := by decide +kernel
theorem dX11_relation_63 : decode cX11_relation 63 = .ok (.iconst 4, 1) := by decide +kernel
theorem dX11_relation_64 : decode cX11_relation 64 = .ok (.if_icmp .ne 6, 3) := by decide +kernel
theorem dX11_relation_67 : decode cX11_relation 67 = .ok (.bipush (-2), 2) := by decide +kernel
theorem dX11_relation_69 : decode cX11_relation 69 = .ok (.ireturn, 1) := by decide +kernel
theorem dX11_relation_70 : decode cX11_relation 70 = .ok (.aload_n 0, 1) := by decide +kernel
theorem dX11_relation_71 : decode cX11_relation 71 = .ok (.invokevirtual 213, 3) := by decide +kernel
theorem dX11_relation_74 : decode cX11_relation 74 = .ok (.bipush 14, 2) := by decide +kernel
theorem dX11_relation_76 : decode cX11_relation 76 = .ok (.iload_n 1, 1) := by decide +kernel
theorem dX11_relation_77 : decode cX11_relation 77 = .ok (.imul, 1) := by decide +kernel
theorem dX11_relation_78 : decode cX11_relation 78 = .ok (.iconst 2, 1) := by decide +kernel
theorem dX11_relation_79 : decode cX11_relation 79 = .ok (.iadd, 1) := by decide +kernel
theorem dX11_relation_80 : decode cX11_relation 80 = .ok (.iconst 3, 1) := by decide +kernel
theorem dX11_relation_81 : decode cX11_relation 81 = .ok (.aload_n 0, 1) := by decide +kernel
theorem dX11_relation_82 : decode cX11_relation 82 = .ok (.getfield 7, 3) := by decide +kernel
theorem dX11_relation_85 : decode cX11_relation 85 = .ok (.bipush 14, 2) := by decide +kernel
theorem dX11_relation_87 : decode cX11_relation 87 = .ok (.iload_n 1, 1) := by decide +kernel
theorem dX11_relation_88 : decode cX11_relation 88 = .ok (.imul, 1) := by decide +kernel
theorem dX11_relation_89 : decode cX11_relation 89 = .ok (.iconst 1, 1) := by decide +kernel
theorem dX11_relation_90 : decode cX11_relation 90 = .ok (.iadd, 1) := by decide +kernel
theorem dX11_relation_91 : decode cX11_relation 91 = .ok (.iaload, 1) := by decide +kernel
theorem dX11_relation_92 : decode cX11_relation 92 = .ok (.imul, 1) := by decide +kernel
theorem dX11_relation_93 : decode cX11_relation 93 = .ok (.iadd, 1) := by decide +kernel
theorem dX11_relation_94 : decode cX11_relation 94 = .ok (.istore 5, 2) := by decide +kernel
theorem dX11_relation_96 : decode cX11_relation 96 = .ok (.aload_n 0, 1) := by decide +kernel
theorem dX11_relation_97 : decode cX11_relation 97 = .ok (.getfield 7, 3) := by decide +kernel
theorem dX11_relation_100 : decode cX11_relation 100 = .ok (.iload 5, 2) := by decide +kernel
theorem dX11_relation_102 : decode cX11_relation 102 = .ok (.iload_n 2, 1) := by decide +kernel
theorem dX11_relation_103 : decode cX11_relation 103 = .ok (.iastore, 1) := by decide +kernel
theorem dX11_relation_104 : decode cX11_relation 104 = .ok (.aload_n 0, 1) := by decide +kernel
theorem dX11_relation_105 : decode cX11_relation 105 = .ok (.getfield 7, 3) := by decide +kernel
theorem dX11_relation_108 : decode cX11_relation 108 = .ok (.iload 5, 2) := by decide +kernel
theorem dX11_relation_110 : decode cX11_relation 110 = .ok (.iconst 1, 1) := by decide +kernel
theorem dX11_relation_111 : decode cX11_relation 111 = .ok (.iadd, 1) := by decide +kernel
theorem dX11_relation_112 : decode cX11_relation 112 = .ok (.iload_n 3, 1) := by decide +kernel
theorem dX11_relation_113 : decode cX11_relation 113 = .ok (.iastore, 1) := by decide +kernel
theorem dX11_relation_114 : decode cX11_relation 114 = .ok (.aload_n 0, 1) := by decide +kernel
theorem dX11_relation_115 : decode cX11_relation 115 = .ok (.getfield 7, 3) := by decide +kernel
theorem dX11_relation_118 : decode cX11_relation 118 = .ok (.iload 5, 2) := by decide +kernel
theorem dX11_relation_120 : decode cX11_relation 120 = .ok (.iconst 2, 1) := by decide +kernel
theorem dX11_relation_121 : decode cX11_relation 121 = .ok (.iadd, 1) := by decide +kernel
theorem dX11_relation_122 : decode cX11_relation 122 = .ok (.iload 4, 2) := by decide +kernel
theorem dX11_relation_124 : decode cX11_relation 124 = .ok (.iastore, 1) := by decide +kernel
theorem dX11_relation_125 : decode cX11_relation 125 = .ok (.aload_n 0, 1) := by decide +kernel
theorem dX11_relation_126 : decode cX11_relation 126 = .ok (.getfield 7, 3) := by decide +kernel
theorem dX11_relation_129 : decode cX11_relation 129 = .ok (.bipush 14, 2) := by decide +kernel
theorem dX11_relation_131 : decode cX11_relation 131 = .ok (.iload_n 1, 1) := by decide +kernel
theorem dX11_relation_132 : decode cX11_relation 132 = .ok (.imul, 1) := by decide +kernel
theorem dX11_relation_133 : decode cX11_relation 133 = .ok (.iconst 1, 1) := by decide +kernel
theorem dX11_relation_134 : decode cX11_relation 134 = .ok (.iadd, 1) := by decide +kernel
theorem dX11_relation_135 : decode cX11_relation 135 = .ok (.dup2, 1) := by decide +kernel
theorem dX11_relation_136 : decode cX11_relation 136 = .ok (.iaload, 1) := by decide +kernel
theorem dX11_relation_137 : decode cX11_relation 137 = .ok (.iconst 1, 1) := by decide +kernel
theorem dX11_relation_138 : decode cX11_relation 138 = .ok (.iadd, 1) := by decide +kernel
theorem dX11_relation_139 : decode cX11_relation 139 = .ok (.iastore, 1) := by decide +kernel
theorem dX11_relation_140 : decode cX11_relation 140 = .ok (.aload_n 0, 1) := by decide +kernel
theorem dX11_relation_141 : decode cX11_relation 141 = .ok (.getfield 7, 3) := by decide +kernel
theorem dX11_relation_144 : decode cX11_relation 144 = .ok (.bipush 14, 2) := by decide +kernel
theorem dX11_relation_146 : decode cX11_relation 146 = .ok (.iload_n 1, 1) := by decide +kernel
theorem dX11_relation_147 : decode cX11_relation 147 = .ok (.imul, 1) := by decide +kernel
theorem dX11_relation_148 : decode cX11_relation 148 = .ok (.iconst 1, 1) := by decide +kernel
theorem dX11_relation_149 : decode cX11_relation 149 = .ok (.iadd, 1) := by decide +kernel
theorem dX11_relation_150 : decode cX11_relation 150 = .ok (.iaload, 1) := by decide +kernel
theorem dX11_relation_151 : decode cX11_relation 151 = .ok (.ireturn, 1) := by decide +kernel
theorem dX11_adds_0 : decode cX11_adds 0 = .ok (.iconst 0, 1) := by decide +kernel
theorem dX11_adds_1 : decode cX11_adds 1 = .ok (.istore 6, 2) := by decide +kernel
theorem dX11_adds_3 : decode cX11_adds 3 = .ok (.iload 6, 2) := by decide +kernel
theorem dX11_adds_5 : decode cX11_adds 5 = .ok (.iload_n 3, 1) := by decide +kernel
theorem dX11_adds_6 : decode cX11_adds 6 = .ok (.ifCond .eq 10, 3) := by decide +kernel
theorem dX11_adds_9 : decode cX11_adds 9 = .ok (.aload_n 0, 1) := by decide +kernel
theorem dX11_adds_10 : decode cX11_adds 10 = .ok (.getfield 222, 3) := by decide +kernel
theorem dX11_adds_13 : decode cX11_adds 13 = .ok (.goto 7, 3) := by decide +kernel
theorem dX11_adds_16 : decode cX11_adds 16 = .ok (.aload_n 0, 1) := by decide +kernel
theorem dX11_adds_17 : decode cX11_adds 17 = .ok (.getfield 225, 3) := by decide +kernel
theorem dX11_adds_20 : decode cX11_adds 20 = .ok (.if_icmp .ge 72, 3) := by decide +kernel
theorem dX11_adds_23 : decode cX11_adds 23 = .ok (.iload_n 3, 1) := by decide +kernel
theorem dX11_adds_24 : decode cX11_adds 24 = .ok (.ifCond .eq 34, 3) := by decide +kernel
theorem dX11_adds_27 : decode cX11_adds 27 = .ok (.aload_n 0, 1) := by decide +kernel
theorem dX11_adds_28 : decode cX11_adds 28 = .ok (.getfield 44, 3) := by decide +kernel
theorem dX11_adds_31 : decode cX11_adds 31 = .ok (.iconst 3, 1) := by decide +kernel
theorem dX11_adds_32 : decode cX11_adds 32 = .ok (.iload_n 1, 1) := by decide +kernel
theorem dX11_adds_33 : decode cX11_adds 33 = .ok (.imul, 1) := by decide +kernel
theorem dX11_adds_34 : decode cX11_adds 34 = .ok (.iload 6, 2) := by decide +kernel
theorem dX11_adds_36 : decode cX11_adds 36 = .ok (.iadd, 1) := by decide +kernel
theorem dX11_adds_37 : decode cX11_adds 37 = .ok (.dup2, 1) := by decide +kernel
theorem dX11_adds_38 : decode cX11_adds 38 = .ok (.laload, 1) := by decide +kernel
theorem dX11_adds_39 : decode cX11_adds 39 = .ok (.lload 4, 2) := by decide +kernel
theorem dX11_adds_41 : decode cX11_adds 41 = .ok (.aload_n 0, 1) := by decide +kernel
theorem dX11_adds_42 : decode cX11_adds 42 = .ok (.getfield 44, 3) := by decide +kernel
theorem dX11_adds_45 : decode cX11_adds 45 = .ok (.iconst 3, 1) := by decide +kernel
theorem dX11_adds_46 : decode cX11_adds 46 = .ok (.iload_n 2, 1) := by decide +kernel
theorem dX11_adds_47 : decode cX11_adds 47 = .ok (.imul, 1) := by decide +kernel
theorem dX11_adds_48 : decode cX11_adds 48 = .ok (.iload 6, 2) := by decide +kernel
theorem dX11_adds_50 : decode cX11_adds 50 = .ok (.iadd, 1) := by decide +kernel
theorem dX11_adds_51 : decode cX11_adds 51 = .ok (.laload, 1) := by decide +kernel
theorem dX11_adds_52 : decode cX11_adds 52 = .ok (.lmul, 1) := by decide +kernel
theorem dX11_adds_53 : decode cX11_adds 53 = .ok (.lsub, 1) := by decide +kernel
theorem dX11_adds_54 : decode cX11_adds 54 = .ok (.lastore, 1) := by decide +kernel
theorem dX11_adds_55 : decode cX11_adds 55 = .ok (.goto 31, 3) := by decide +kernel
theorem dX11_adds_58 : decode cX11_adds 58 = .ok (.aload_n 0, 1) := by decide +kernel
theorem dX11_adds_59 : decode cX11_adds 59 = .ok (.getfield 44, 3) := by decide +kernel
theorem dX11_adds_62 : decode cX11_adds 62 = .ok (.iconst 3, 1) := by decide +kernel
theorem dX11_adds_63 : decode cX11_adds 63 = .ok (.iload 6, 2) := by decide +kernel
theorem dX11_adds_65 : decode cX11_adds 65 = .ok (.imul, 1) := by decide +kernel
theorem dX11_adds_66 : decode cX11_adds 66 = .ok (.iload_n 1, 1) := by decide +kernel
theorem dX11_adds_67 : decode cX11_adds 67 = .ok (.iadd, 1) := by decide +kernel
theorem dX11_adds_68 : decode cX11_adds 68 = .ok (.dup2, 1) := by decide +kernel
theorem dX11_adds_69 : decode cX11_adds 69 = .ok (.laload, 1) := by decide +kernel
theorem dX11_adds_70 : decode cX11_adds 70 = .ok (.lload 4, 2) := by decide +kernel
theorem dX11_adds_72 : decode cX11_adds 72 = .ok (.aload_n 0, 1) := by decide +kernel
theorem dX11_adds_73 : decode cX11_adds 73 = .ok (.getfield 44, 3) := by decide +kernel
theorem dX11_adds_76 : decode cX11_adds 76 = .ok (.iconst 3, 1) := by decide +kernel
theorem dX11_adds_77 : decode cX11_adds 77 = .ok (.iload 6, 2) := by decide +kernel
theorem dX11_adds_79 : decode cX11_adds 79 = .ok (.imul, 1) := by decide +kernel
theorem dX11_adds_80 : decode cX11_adds 80 = .ok (.iload_n 2, 1) := by decide +kernel
theorem dX11_adds_81 : decode cX11_adds 81 = .ok (.iadd, 1) := by decide +kernel
theorem dX11_adds_82 : decode cX11_adds 82 = .ok (.laload, 1) := by decide +kernel
theorem dX11_adds_83 : decode cX11_adds 83 = .ok (.lmul, 1) := by decide +kernel
theorem dX11_adds_84 : decode cX11_adds 84 = .ok (.lsub, 1) := by decide +kernel
theorem dX11_adds_85 : decode cX11_adds 85 = .ok (.lastore, 1) := by decide +kernel
theorem dX11_adds_86 : decode cX11_adds 86 = .ok (.iinc 6 1, 3) := by decide +kernel
theorem dX11_adds_89 : decode cX11_adds 89 = .ok (.goto (-86), 3) := by decide +kernel
theorem dX11_adds_92 : decode cX11_adds 92 = .ok (.return_, 1) := by decide +kernel
theorem dX11_changesPlaces_0 : decode cX11_changesPlaces 0 = .ok (.iconst 0, 1) := by decide +kernel
theorem dX11_changesPlaces_1 : decode cX11_changesPlaces 1 = .ok (.istore 4, 2) := by decide +kernel
theorem dX11_changesPlaces_3 : decode cX11_changesPlaces 3 = .ok (.iload 4, 2) := by decide +kernel
theorem dX11_changesPlaces_5 : decode cX11_changesPlaces 5 = .ok (.iload_n 3, 1) := by decide +kernel
theorem dX11_changesPlaces_6 : decode cX11_changesPlaces 6 = .ok (.ifCond .eq 10, 3) := by decide +kernel
theorem dX11_changesPlaces_9 : decode cX11_changesPlaces 9 = .ok (.aload_n 0, 1) := by decide +kernel
theorem dX11_changesPlaces_10 : decode cX11_changesPlaces 10 = .ok (.getfield 222, 3) := by decide +kernel
theorem dX11_changesPlaces_13 : decode cX11_changesPlaces 13 = .ok (.goto 7, 3) := by decide +kernel
theorem dX11_changesPlaces_16 : decode cX11_changesPlaces 16 = .ok (.aload_n 0, 1) := by decide +kernel
theorem dX11_changesPlaces_17 : decode cX11_changesPlaces 17 = .ok (.getfield 225, 3) := by decide +kernel
theorem dX11_changesPlaces_20 : decode cX11_changesPlaces 20 = .ok (.if_icmp .ge 83, 3) := by decide +kernel
theorem dX11_changesPlaces_23 : decode cX11_changesPlaces 23 = .ok (.iload_n 3, 1) := by decide +kernel
theorem dX11_changesPlaces_24 : decode cX11_changesPlaces 24 = .ok (.ifCond .eq 12, 3) := by decide +kernel
theorem dX11_changesPlaces_27 : decode cX11_changesPlaces 27 = .ok (.iconst 3, 1) := by decide +kernel
theorem dX11_changesPlaces_28 : decode cX11_changesPlaces 28 = .ok (.iload_n 1, 1) := by decide +kernel
theorem dX11_changesPlaces_29 : decode cX11_changesPlaces 29 = .ok (.imul, 1) := by decide +kernel
theorem dX11_changesPlaces_30 : decode cX11_changesPlaces 30 = .ok (.iload 4, 2) := by decide +kernel
theorem dX11_changesPlaces_32 : decode cX11_changesPlaces 32 = .ok (.iadd, 1) := by decide +kernel
theorem dX11_changesPlaces_33 : decode cX11_changesPlaces 33 = .ok (.goto 9, 3) := by decide +kernel
theorem dX11_changesPlaces_36 : decode cX11_changesPlaces 36 = .ok (.iconst 3, 1) := by decide +kernel
theorem dX11_changesPlaces_37 : decode cX11_changesPlaces 37 = .ok (.iload 4, 2) := by decide +kernel
theorem dX11_changesPlaces_39 : decode cX11_changesPlaces 39 = .ok (.imul, 1) := by decide +kernel
theorem dX11_changesPlaces_40 : decode cX11_changesPlaces 40 = .ok (.iload_n 1, 1) := by decide +kernel
theorem dX11_changesPlaces_41 : decode cX11_changesPlaces 41 = .ok (.iadd, 1) := by decide +kernel
theorem dX11_changesPlaces_42 : decode cX11_changesPlaces 42 = .ok (.istore 5, 2) := by decide +kernel
theorem dX11_changesPlaces_44 : decode cX11_changesPlaces 44 = .ok (.iload_n 3, 1) := by decide +kernel
theorem dX11_changesPlaces_45 : decode cX11_changesPlaces 45 = .ok (.ifCond .eq 12, 3) := by decide +kernel
theorem dX11_changesPlaces_48 : decode cX11_changesPlaces 48 = .ok (.iconst 3, 1) := by decide +kernel
theorem dX11_changesPlaces_49 : decode cX11_changesPlaces 49 = .ok (.iload_n 2, 1) := by decide +kernel
theorem dX11_changesPlaces_50 : decode cX11_changesPlaces 50 = .ok (.imul, 1) := by decide +kernel
theorem dX11_changesPlaces_51 : decode cX11_changesPlaces 51 = .ok (.iload 4, 2) := by decide +kernel
theorem dX11_changesPlaces_53 : decode cX11_changesPlaces 53 = .ok (.iadd, 1) := by decide +kernel
theorem dX11_changesPlaces_54 : decode cX11_changesPlaces 54 = .ok (.goto 9, 3) := by decide +kernel
theorem dX11_changesPlaces_57 : decode cX11_changesPlaces 57 = .ok (.iconst 3, 1) := by decide +kernel
theorem dX11_changesPlaces_58 : decode cX11_changesPlaces 58 = .ok (.iload 4, 2) := by decide +kernel
theorem dX11_changesPlaces_60 : decode cX11_changesPlaces 60 = .ok (.imul, 1) := by decide +kernel
theorem dX11_changesPlaces_61 : decode cX11_changesPlaces 61 = .ok (.iload_n 2, 1) := by decide +kernel
theorem dX11_changesPlaces_62 : decode cX11_changesPlaces 62 = .ok (.iadd, 1) := by decide +kernel
theorem dX11_changesPlaces_63 : decode cX11_changesPlaces 63 = .ok (.istore 6, 2) := by decide +kernel
theorem dX11_changesPlaces_65 : decode cX11_changesPlaces 65 = .ok (.aload_n 0, 1) := by decide +kernel
theorem dX11_changesPlaces_66 : decode cX11_changesPlaces 66 = .ok (.getfield 44, 3) := by decide +kernel
theorem dX11_changesPlaces_69 : decode cX11_changesPlaces 69 = .ok (.iload 5, 2) := by decide +kernel
theorem dX11_changesPlaces_71 : decode cX11_changesPlaces 71 = .ok (.laload, 1) := by decide +kernel
theorem dX11_changesPlaces_72 : decode cX11_changesPlaces 72 = .ok (.lstore 7, 2) := by decide +kernel
theorem dX11_changesPlaces_74 : decode cX11_changesPlaces 74 = .ok (.aload_n 0, 1) := by decide +kernel
theorem dX11_changesPlaces_75 : decode cX11_changesPlaces 75 = .ok (.getfield 44, 3) := by decide +kernel
theorem dX11_changesPlaces_78 : decode cX11_changesPlaces 78 = .ok (.iload 5, 2) := by decide +kernel
theorem dX11_changesPlaces_80 : decode cX11_changesPlaces 80 = .ok (.aload_n 0, 1) := by decide +kernel
theorem dX11_changesPlaces_81 : decode cX11_changesPlaces 81 = .ok (.getfield 44, 3) := by decide +kernel
theorem dX11_changesPlaces_84 : decode cX11_changesPlaces 84 = .ok (.iload 6, 2) := by decide +kernel
theorem dX11_changesPlaces_86 : decode cX11_changesPlaces 86 = .ok (.laload, 1) := by decide +kernel
theorem dX11_changesPlaces_87 : decode cX11_changesPlaces 87 = .ok (.lastore, 1) := by decide +kernel
theorem dX11_changesPlaces_88 : decode cX11_changesPlaces 88 = .ok (.aload_n 0, 1) := by decide +kernel
theorem dX11_changesPlaces_89 : decode cX11_changesPlaces 89 = .ok (.getfield 44, 3) := by decide +kernel
theorem dX11_changesPlaces_92 : decode cX11_changesPlaces 92 = .ok (.iload 6, 2) := by decide +kernel
theorem dX11_changesPlaces_94 : decode cX11_changesPlaces 94 = .ok (.lload 7, 2) := by decide +kernel
theorem dX11_changesPlaces_96 : decode cX11_changesPlaces 96 = .ok (.lastore, 1) := by decide +kernel
theorem dX11_changesPlaces_97 : decode cX11_changesPlaces 97 = .ok (.iinc 4 1, 3) := by decide +kernel
theorem dX11_changesPlaces_100 : decode cX11_changesPlaces 100 = .ok (.goto (-97), 3) := by decide +kernel
theorem dX11_changesPlaces_103 : decode cX11_changesPlaces 103 = .ok (.return_, 1) := by decide +kernel
theorem dX11_brings_0 : decode cX11_brings 0 = .ok (.iconst (-1), 1) := by decide +kernel
theorem dX11_brings_1 : decode cX11_brings 1 = .ok (.istore_n 2, 1) := by decide +kernel
theorem dX11_brings_2 : decode cX11_brings 2 = .ok (.iconst 0, 1) := by decide +kernel
theorem dX11_brings_3 : decode cX11_brings 3 = .ok (.istore_n 3, 1) := by decide +kernel
theorem dX11_brings_4 : decode cX11_brings 4 = .ok (.iload_n 3, 1) := by decide +kernel
theorem dX11_brings_5 : decode cX11_brings 5 = .ok (.iconst 3, 1) := by decide +kernel
theorem dX11_brings_6 : decode cX11_brings 6 = .ok (.aload_n 0, 1) := by decide +kernel
theorem dX11_brings_7 : decode cX11_brings 7 = .ok (.getfield 225, 3) := by decide +kernel
theorem dX11_brings_10 : decode cX11_brings 10 = .ok (.imul, 1) := by decide +kernel
theorem dX11_brings_11 : decode cX11_brings 11 = .ok (.if_icmp .ge 84, 3) := by decide +kernel
theorem dX11_brings_14 : decode cX11_brings 14 = .ok (.iload_n 3, 1) := by decide +kernel
theorem dX11_brings_15 : decode cX11_brings 15 = .ok (.iconst 3, 1) := by decide +kernel
theorem dX11_brings_16 : decode cX11_brings 16 = .ok (.idiv, 1) := by decide +kernel
theorem dX11_brings_17 : decode cX11_brings 17 = .ok (.iload_n 1, 1) := by decide +kernel
theorem dX11_brings_18 : decode cX11_brings 18 = .ok (.if_icmp .lt 35, 3) := by decide +kernel
theorem dX11_brings_21 : decode cX11_brings 21 = .ok (.iload_n 3, 1) := by decide +kernel
theorem dX11_brings_22 : decode cX11_brings 22 = .ok (.iconst 3, 1) := by decide +kernel
theorem dX11_brings_23 : decode cX11_brings 23 = .ok (.irem, 1) := by decide +kernel
theorem dX11_brings_24 : decode cX11_brings 24 = .ok (.iload_n 1, 1) := by decide +kernel
theorem dX11_brings_25 : decode cX11_brings 25 = .ok (.if_icmp .lt 28, 3) := by decide +kernel
theorem dX11_brings_28 : decode cX11_brings 28 = .ok (.iload_n 3, 1) := by decide +kernel
theorem dX11_brings_29 : decode cX11_brings 29 = .ok (.iconst 3, 1) := by decide +kernel
theorem dX11_brings_30 : decode cX11_brings 30 = .ok (.irem, 1) := by decide +kernel
theorem dX11_brings_31 : decode cX11_brings 31 = .ok (.aload_n 0, 1) := by decide +kernel
theorem dX11_brings_32 : decode cX11_brings 32 = .ok (.getfield 222, 3) := by decide +kernel
theorem dX11_brings_35 : decode cX11_brings 35 = .ok (.if_icmp .ge 18, 3) := by decide +kernel
theorem dX11_brings_38 : decode cX11_brings 38 = .ok (.aload_n 0, 1) := by decide +kernel
theorem dX11_brings_39 : decode cX11_brings 39 = .ok (.getfield 44, 3) := by decide +kernel
theorem dX11_brings_42 : decode cX11_brings 42 = .ok (.iload_n 3, 1) := by decide +kernel
theorem dX11_brings_43 : decode cX11_brings 43 = .ok (.laload, 1) := by decide +kernel
theorem dX11_brings_44 : decode cX11_brings 44 = .ok (.lconst 0, 1) := by decide +kernel
theorem dX11_brings_45 : decode cX11_brings 45 = .ok (.lcmp, 1) := by decide +kernel
theorem dX11_brings_46 : decode cX11_brings 46 = .ok (.ifCond .eq 7, 3) := by decide +kernel
theorem dX11_brings_49 : decode cX11_brings 49 = .ok (.iconst 1, 1) := by decide +kernel
theorem dX11_brings_50 : decode cX11_brings 50 = .ok (.goto 4, 3) := by decide +kernel
theorem dX11_brings_53 : decode cX11_brings 53 = .ok (.iconst 0, 1) := by decide +kernel
theorem dX11_brings_54 : decode cX11_brings 54 = .ok (.istore 4, 2) := by decide +kernel
theorem dX11_brings_56 : decode cX11_brings 56 = .ok (.iload 4, 2) := by decide +kernel
theorem dX11_brings_58 : decode cX11_brings 58 = .ok (.ifCond .eq 31, 3) := by decide +kernel
theorem dX11_brings_61 : decode cX11_brings 61 = .ok (.iload_n 2, 1) := by decide +kernel
theorem dX11_brings_62 : decode cX11_brings 62 = .ok (.ifCond .lt 25, 3) := by decide +kernel
theorem dX11_brings_65 : decode cX11_brings 65 = .ok (.aload_n 0, 1) := by decide +kernel
theorem dX11_brings_66 : decode cX11_brings 66 = .ok (.getfield 44, 3) := by decide +kernel
theorem dX11_brings_69 : decode cX11_brings 69 = .ok (.iload_n 3, 1) := by decide +kernel
theorem dX11_brings_70 : decode cX11_brings 70 = .ok (.laload, 1) := by decide +kernel
theorem dX11_brings_71 : decode cX11_brings 71 = .ok (.invokestatic 136, 3) := by decide +kernel
theorem dX11_brings_74 : decode cX11_brings 74 = .ok (.aload_n 0, 1) := by decide +kernel
theorem dX11_brings_75 : decode cX11_brings 75 = .ok (.getfield 44, 3) := by decide +kernel
theorem dX11_brings_78 : decode cX11_brings 78 = .ok (.iload_n 2, 1) := by decide +kernel
theorem dX11_brings_79 : decode cX11_brings 79 = .ok (.laload, 1) := by decide +kernel
theorem dX11_brings_80 : decode cX11_brings 80 = .ok (.invokestatic 136, 3) := by decide +kernel
theorem dX11_brings_83 : decode cX11_brings 83 = .ok (.lcmp, 1) := by decide +kernel
theorem dX11_brings_84 : decode cX11_brings 84 = .ok (.ifCond .ge 5, 3) := by decide +kernel
theorem dX11_brings_87 : decode cX11_brings 87 = .ok (.iload_n 3, 1) := by decide +kernel
theorem dX11_brings_88 : decode cX11_brings 88 = .ok (.istore_n 2, 1) := by decide +kernel
theorem dX11_brings_89 : decode cX11_brings 89 = .ok (.iinc 3 1, 3) := by decide +kernel
theorem dX11_brings_92 : decode cX11_brings 92 = .ok (.goto (-88), 3) := by decide +kernel
theorem dX11_brings_95 : decode cX11_brings 95 = .ok (.iload_n 2, 1) := by decide +kernel
theorem dX11_brings_96 : decode cX11_brings 96 = .ok (.ifCond .lt 21, 3) := by decide +kernel
theorem dX11_brings_99 : decode cX11_brings 99 = .ok (.aload_n 0, 1) := by decide +kernel
theorem dX11_brings_100 : decode cX11_brings 100 = .ok (.iload_n 1, 1) := by decide +kernel
theorem dX11_brings_101 : decode cX11_brings 101 = .ok (.iload_n 2, 1) := by decide +kernel
theorem dX11_brings_102 : decode cX11_brings 102 = .ok (.iconst 3, 1) := by decide +kernel
theorem dX11_brings_103 : decode cX11_brings 103 = .ok (.idiv, 1) := by decide +kernel
theorem dX11_brings_104 : decode cX11_brings 104 = .ok (.iconst 1, 1) := by decide +kernel
theorem dX11_brings_105 : decode cX11_brings 105 = .ok (.invokevirtual 228, 3) := by decide +kernel
theorem dX11_brings_108 : decode cX11_brings 108 = .ok (.aload_n 0, 1) := by decide +kernel
theorem dX11_brings_109 : decode cX11_brings 109 = .ok (.iload_n 1, 1) := by decide +kernel
theorem dX11_brings_110 : decode cX11_brings 110 = .ok (.iload_n 2, 1) := by decide +kernel
theorem dX11_brings_111 : decode cX11_brings 111 = .ok (.iconst 3, 1) := by decide +kernel
theorem dX11_brings_112 : decode cX11_brings 112 = .ok (.irem, 1) := by decide +kernel
theorem dX11_brings_113 : decode cX11_brings 113 = .ok (.iconst 0, 1) := by decide +kernel
theorem dX11_brings_114 : decode cX11_brings 114 = .ok (.invokevirtual 228, 3) := by decide +kernel
theorem dX11_brings_117 : decode cX11_brings 117 = .ok (.iload_n 2, 1) := by decide +kernel
theorem dX11_brings_118 : decode cX11_brings 118 = .ok (.ifCond .lt 7, 3) := by decide +kernel
theorem dX11_brings_121 : decode cX11_brings 121 = .ok (.iconst 1, 1) := by decide +kernel
theorem dX11_brings_122 : decode cX11_brings 122 = .ok (.goto 4, 3) := by decide +kernel
theorem dX11_brings_125 : decode cX11_brings 125 = .ok (.iconst 0, 1) := by decide +kernel
theorem dX11_brings_126 : decode cX11_brings 126 = .ok (.ireturn, 1) := by decide +kernel
theorem dX11_clears_0 : decode cX11_clears 0 = .ok (.iconst 1, 1) := by decide +kernel
theorem dX11_clears_1 : decode cX11_clears 1 = .ok (.istore_n 2, 1) := by decide +kernel
theorem dX11_clears_2 : decode cX11_clears 2 = .ok (.iload_n 1, 1) := by decide +kernel
theorem dX11_clears_3 : decode cX11_clears 3 = .ok (.iconst 1, 1) := by decide +kernel
theorem dX11_clears_4 : decode cX11_clears 4 = .ok (.iadd, 1) := by decide +kernel
theorem dX11_clears_5 : decode cX11_clears 5 = .ok (.istore_n 3, 1) := by decide +kernel
theorem dX11_clears_6 : decode cX11_clears 6 = .ok (.iload_n 3, 1) := by decide +kernel
theorem dX11_clears_7 : decode cX11_clears 7 = .ok (.aload_n 0, 1) := by decide +kernel
theorem dX11_clears_8 : decode cX11_clears 8 = .ok (.getfield 225, 3) := by decide +kernel
theorem dX11_clears_11 : decode cX11_clears 11 = .ok (.if_icmp .ge 60, 3) := by decide +kernel
theorem dX11_clears_14 : decode cX11_clears 14 = .ok (.aload_n 0, 1) := by decide +kernel
theorem dX11_clears_15 : decode cX11_clears 15 = .ok (.iload_n 3, 1) := by decide +kernel
theorem dX11_clears_16 : decode cX11_clears 16 = .ok (.iload_n 1, 1) := by decide +kernel
theorem dX11_clears_17 : decode cX11_clears 17 = .ok (.iconst 1, 1) := by decide +kernel
theorem dX11_clears_18 : decode cX11_clears 18 = .ok (.aload_n 0, 1) := by decide +kernel
theorem dX11_clears_19 : decode cX11_clears 19 = .ok (.getfield 44, 3) := by decide +kernel
theorem dX11_clears_22 : decode cX11_clears 22 = .ok (.iconst 3, 1) := by decide +kernel
theorem dX11_clears_23 : decode cX11_clears 23 = .ok (.iload_n 3, 1) := by decide +kernel
theorem dX11_clears_24 : decode cX11_clears 24 = .ok (.imul, 1) := by decide +kernel
theorem dX11_clears_25 : decode cX11_clears 25 = .ok (.iload_n 1, 1) := by decide +kernel
theorem dX11_clears_26 : decode cX11_clears 26 = .ok (.iadd, 1) := by decide +kernel
theorem dX11_clears_27 : decode cX11_clears 27 = .ok (.laload, 1) := by decide +kernel
theorem dX11_clears_28 : decode cX11_clears 28 = .ok (.aload_n 0, 1) := by decide +kernel
theorem dX11_clears_29 : decode cX11_clears 29 = .ok (.getfield 44, 3) := by decide +kernel
theorem dX11_clears_32 : decode cX11_clears 32 = .ok (.iconst 4, 1) := by decide +kernel
theorem dX11_clears_33 : decode cX11_clears 33 = .ok (.iload_n 1, 1) := by decide +kernel
theorem dX11_clears_34 : decode cX11_clears 34 = .ok (.imul, 1) := by decide +kernel
theorem dX11_clears_35 : decode cX11_clears 35 = .ok (.laload, 1) := by decide +kernel
theorem dX11_clears_36 : decode cX11_clears 36 = .ok (.ldiv, 1) := by decide +kernel
theorem dX11_clears_37 : decode cX11_clears 37 = .ok (.invokevirtual 232, 3) := by decide +kernel
theorem dX11_clears_40 : decode cX11_clears 40 = .ok (.iload_n 2, 1) := by decide +kernel
theorem dX11_clears_41 : decode cX11_clears 41 = .ok (.ifCond .eq 22, 3) := by decide +kernel
theorem dX11_clears_44 : decode cX11_clears 44 = .ok (.aload_n 0, 1) := by decide +kernel
theorem dX11_clears_45 : decode cX11_clears 45 = .ok (.getfield 44, 3) := by decide +kernel
theorem dX11_clears_48 : decode cX11_clears 48 = .ok (.iconst 3, 1) := by decide +kernel
theorem dX11_clears_49 : decode cX11_clears 49 = .ok (.iload_n 3, 1) := by decide +kernel
theorem dX11_clears_50 : decode cX11_clears 50 = .ok (.imul, 1) := by decide +kernel
theorem dX11_clears_51 : decode cX11_clears 51 = .ok (.iload_n 1, 1) := by decide +kernel
theorem dX11_clears_52 : decode cX11_clears 52 = .ok (.iadd, 1) := by decide +kernel
theorem dX11_clears_53 : decode cX11_clears 53 = .ok (.laload, 1) := by decide +kernel
theorem dX11_clears_54 : decode cX11_clears 54 = .ok (.lconst 0, 1) := by decide +kernel
theorem dX11_clears_55 : decode cX11_clears 55 = .ok (.lcmp, 1) := by decide +kernel
theorem dX11_clears_56 : decode cX11_clears 56 = .ok (.ifCond .ne 7, 3) := by decide +kernel
theorem dX11_clears_59 : decode cX11_clears 59 = .ok (.iconst 1, 1) := by decide +kernel
theorem dX11_clears_60 : decode cX11_clears 60 = .ok (.goto 4, 3) := by decide +kernel
theorem dX11_clears_63 : decode cX11_clears 63 = .ok (.iconst 0, 1) := by decide +kernel
theorem dX11_clears_64 : decode cX11_clears 64 = .ok (.istore_n 2, 1) := by decide +kernel
theorem dX11_clears_65 : decode cX11_clears 65 = .ok (.iinc 3 1, 3) := by decide +kernel
theorem dX11_clears_68 : decode cX11_clears 68 = .ok (.goto (-62), 3) := by decide +kernel
theorem dX11_clears_71 : decode cX11_clears 71 = .ok (.iload_n 1, 1) := by decide +kernel
theorem dX11_clears_72 : decode cX11_clears 72 = .ok (.iconst 1, 1) := by decide +kernel
theorem dX11_clears_73 : decode cX11_clears 73 = .ok (.iadd, 1) := by decide +kernel
theorem dX11_clears_74 : decode cX11_clears 74 = .ok (.istore_n 3, 1) := by decide +kernel
theorem dX11_clears_75 : decode cX11_clears 75 = .ok (.iload_n 3, 1) := by decide +kernel
theorem dX11_clears_76 : decode cX11_clears 76 = .ok (.aload_n 0, 1) := by decide +kernel
theorem dX11_clears_77 : decode cX11_clears 77 = .ok (.getfield 222, 3) := by decide +kernel
theorem dX11_clears_80 : decode cX11_clears 80 = .ok (.if_icmp .ge 60, 3) := by decide +kernel
theorem dX11_clears_83 : decode cX11_clears 83 = .ok (.aload_n 0, 1) := by decide +kernel
theorem dX11_clears_84 : decode cX11_clears 84 = .ok (.iload_n 3, 1) := by decide +kernel
theorem dX11_clears_85 : decode cX11_clears 85 = .ok (.iload_n 1, 1) := by decide +kernel
theorem dX11_clears_86 : decode cX11_clears 86 = .ok (.iconst 0, 1) := by decide +kernel
theorem dX11_clears_87 : decode cX11_clears 87 = .ok (.aload_n 0, 1) := by decide +kernel
theorem dX11_clears_88 : decode cX11_clears 88 = .ok (.getfield 44, 3) := by decide +kernel
theorem dX11_clears_91 : decode cX11_clears 91 = .ok (.iconst 3, 1) := by decide +kernel
theorem dX11_clears_92 : decode cX11_clears 92 = .ok (.iload_n 1, 1) := by decide +kernel
theorem dX11_clears_93 : decode cX11_clears 93 = .ok (.imul, 1) := by decide +kernel
theorem dX11_clears_94 : decode cX11_clears 94 = .ok (.iload_n 3, 1) := by decide +kernel
theorem dX11_clears_95 : decode cX11_clears 95 = .ok (.iadd, 1) := by decide +kernel
theorem dX11_clears_96 : decode cX11_clears 96 = .ok (.laload, 1) := by decide +kernel
theorem dX11_clears_97 : decode cX11_clears 97 = .ok (.aload_n 0, 1) := by decide +kernel
theorem dX11_clears_98 : decode cX11_clears 98 = .ok (.getfield 44, 3) := by decide +kernel
theorem dX11_clears_101 : decode cX11_clears 101 = .ok (.iconst 4, 1) := by decide +kernel
theorem dX11_clears_102 : decode cX11_clears 102 = .ok (.iload_n 1, 1) := by decide +kernel
theorem dX11_clears_103 : decode cX11_clears 103 = .ok (.imul, 1) := by decide +kernel
theorem dX11_clears_104 : decode cX11_clears 104 = .ok (.laload, 1) := by decide +kernel
theorem dX11_clears_105 : decode cX11_clears 105 = .ok (.ldiv, 1) := by decide +kernel
theorem dX11_clears_106 : decode cX11_clears 106 = .ok (.invokevirtual 232, 3) := by decide +kernel
theorem dX11_clears_109 : decode cX11_clears 109 = .ok (.iload_n 2, 1) := by decide +kernel
theorem dX11_clears_110 : decode cX11_clears 110 = .ok (.ifCond .eq 22, 3) := by decide +kernel
theorem dX11_clears_113 : decode cX11_clears 113 = .ok (.aload_n 0, 1) := by decide +kernel
theorem dX11_clears_114 : decode cX11_clears 114 = .ok (.getfield 44, 3) := by decide +kernel
theorem dX11_clears_117 : decode cX11_clears 117 = .ok (.iconst 3, 1) := by decide +kernel
theorem dX11_clears_118 : decode cX11_clears 118 = .ok (.iload_n 1, 1) := by decide +kernel
theorem dX11_clears_119 : decode cX11_clears 119 = .ok (.imul, 1) := by decide +kernel
theorem dX11_clears_120 : decode cX11_clears 120 = .ok (.iload_n 3, 1) := by decide +kernel
theorem dX11_clears_121 : decode cX11_clears 121 = .ok (.iadd, 1) := by decide +kernel
theorem dX11_clears_122 : decode cX11_clears 122 = .ok (.laload, 1) := by decide +kernel
theorem dX11_clears_123 : decode cX11_clears 123 = .ok (.lconst 0, 1) := by decide +kernel
theorem dX11_clears_124 : decode cX11_clears 124 = .ok (.lcmp, 1) := by decide +kernel
theorem dX11_clears_125 : decode cX11_clears 125 = .ok (.ifCond .ne 7, 3) := by decide +kernel
theorem dX11_clears_128 : decode cX11_clears 128 = .ok (.iconst 1, 1) := by decide +kernel
theorem dX11_clears_129 : decode cX11_clears 129 = .ok (.goto 4, 3) := by decide +kernel
theorem dX11_clears_132 : decode cX11_clears 132 = .ok (.iconst 0, 1) := by decide +kernel
theorem dX11_clears_133 : decode cX11_clears 133 = .ok (.istore_n 2, 1) := by decide +kernel
theorem dX11_clears_134 : decode cX11_clears 134 = .ok (.iinc 3 1, 3) := by decide +kernel
theorem dX11_clears_137 : decode cX11_clears 137 = .ok (.goto (-62), 3) := by decide +kernel
theorem dX11_clears_140 : decode cX11_clears 140 = .ok (.iload_n 2, 1) := by decide +kernel
theorem dX11_clears_141 : decode cX11_clears 141 = .ok (.ireturn, 1) := by decide +kernel
theorem dX11_ringsOfGrid_0 : decode cX11_ringsOfGrid 0 = .ok (.aload_n 0, 1) := by decide +kernel
theorem dX11_ringsOfGrid_1 : decode cX11_ringsOfGrid 1 = .ok (.aload_n 0, 1) := by decide +kernel
theorem dX11_ringsOfGrid_2 : decode cX11_ringsOfGrid 2 = .ok (.getfield 222, 3) := by decide +kernel
theorem dX11_ringsOfGrid_5 : decode cX11_ringsOfGrid 5 = .ok (.putfield 236, 3) := by decide +kernel
theorem dX11_ringsOfGrid_8 : decode cX11_ringsOfGrid 8 = .ok (.iconst 0, 1) := by decide +kernel
theorem dX11_ringsOfGrid_9 : decode cX11_ringsOfGrid 9 = .ok (.istore_n 1, 1) := by decide +kernel
theorem dX11_ringsOfGrid_10 : decode cX11_ringsOfGrid 10 = .ok (.iload_n 1, 1) := by decide +kernel
theorem dX11_ringsOfGrid_11 : decode cX11_ringsOfGrid 11 = .ok (.aload_n 0, 1) := by decide +kernel
theorem dX11_ringsOfGrid_12 : decode cX11_ringsOfGrid 12 = .ok (.getfield 222, 3) := by decide +kernel
theorem dX11_ringsOfGrid_15 : decode cX11_ringsOfGrid 15 = .ok (.if_icmp .ge 16, 3) := by decide +kernel
theorem dX11_ringsOfGrid_18 : decode cX11_ringsOfGrid 18 = .ok (.aload_n 0, 1) := by decide +kernel
theorem dX11_ringsOfGrid_19 : decode cX11_ringsOfGrid 19 = .ok (.getfield 47, 3) := by decide +kernel
theorem dX11_ringsOfGrid_22 : decode cX11_ringsOfGrid 22 = .ok (.iload_n 1, 1) := by decide +kernel
theorem dX11_ringsOfGrid_23 : decode cX11_ringsOfGrid 23 = .ok (.lconst 0, 1) := by decide +kernel
theorem dX11_ringsOfGrid_24 : decode cX11_ringsOfGrid 24 = .ok (.lastore, 1) := by decide +kernel
theorem dX11_ringsOfGrid_25 : decode cX11_ringsOfGrid 25 = .ok (.iinc 1 1, 3) := by decide +kernel
theorem dX11_ringsOfGrid_28 : decode cX11_ringsOfGrid 28 = .ok (.goto (-18), 3) := by decide +kernel
theorem dX11_ringsOfGrid_31 : decode cX11_ringsOfGrid 31 = .ok (.iconst 0, 1) := by decide +kernel
theorem dX11_ringsOfGrid_32 : decode cX11_ringsOfGrid 32 = .ok (.istore_n 1, 1) := by decide +kernel
theorem dX11_ringsOfGrid_33 : decode cX11_ringsOfGrid 33 = .ok (.iload_n 1, 1) := by decide +kernel
theorem dX11_ringsOfGrid_34 : decode cX11_ringsOfGrid 34 = .ok (.aload_n 0, 1) := by decide +kernel
theorem dX11_ringsOfGrid_35 : decode cX11_ringsOfGrid 35 = .ok (.getfield 222, 3) := by decide +kernel
theorem dX11_ringsOfGrid_38 : decode cX11_ringsOfGrid 38 = .ok (.if_icmp .ge 50, 3) := by decide +kernel
theorem dX11_ringsOfGrid_41 : decode cX11_ringsOfGrid 41 = .ok (.iload_n 1, 1) := by decide +kernel
theorem dX11_ringsOfGrid_42 : decode cX11_ringsOfGrid 42 = .ok (.aload_n 0, 1) := by decide +kernel
theorem dX11_ringsOfGrid_43 : decode cX11_ringsOfGrid 43 = .ok (.getfield 225, 3) := by decide +kernel
theorem dX11_ringsOfGrid_46 : decode cX11_ringsOfGrid 46 = .ok (.if_icmp .ge 42, 3) := by decide +kernel
theorem dX11_ringsOfGrid_49 : decode cX11_ringsOfGrid 49 = .ok (.aload_n 0, 1) := by decide +kernel
theorem dX11_ringsOfGrid_50 : decode cX11_ringsOfGrid 50 = .ok (.iload_n 1, 1) := by decide +kernel
theorem dX11_ringsOfGrid_51 : decode cX11_ringsOfGrid 51 = .ok (.invokevirtual 239, 3) := by decide +kernel
theorem dX11_ringsOfGrid_54 : decode cX11_ringsOfGrid 54 = .ok (.ifCond .eq 34, 3) := by decide +kernel
theorem dX11_ringsOfGrid_57 : decode cX11_ringsOfGrid 57 = .ok (.aload_n 0, 1) := by decide +kernel
theorem dX11_ringsOfGrid_58 : decode cX11_ringsOfGrid 58 = .ok (.iload_n 1, 1) := by decide +kernel
theorem dX11_ringsOfGrid_59 : decode cX11_ringsOfGrid 59 = .ok (.invokevirtual 242, 3) := by decide +kernel
theorem dX11_ringsOfGrid_62 : decode cX11_ringsOfGrid 62 = .ok (.ifCond .eq (-29), 3) := by decide +kernel
theorem dX11_ringsOfGrid_65 : decode cX11_ringsOfGrid 65 = .ok (.aload_n 0, 1) := by decide +kernel
theorem dX11_ringsOfGrid_66 : decode cX11_ringsOfGrid 66 = .ok (.getfield 47, 3) := by decide +kernel
theorem dX11_ringsOfGrid_69 : decode cX11_ringsOfGrid 69 = .ok (.iload_n 1, 1) := by decide +kernel
theorem dX11_ringsOfGrid_70 : decode cX11_ringsOfGrid 70 = .ok (.aload_n 0, 1) := by decide +kernel
theorem dX11_ringsOfGrid_71 : decode cX11_ringsOfGrid 71 = .ok (.getfield 44, 3) := by decide +kernel
theorem dX11_ringsOfGrid_74 : decode cX11_ringsOfGrid 74 = .ok (.iconst 4, 1) := by decide +kernel
theorem dX11_ringsOfGrid_75 : decode cX11_ringsOfGrid 75 = .ok (.iload_n 1, 1) := by decide +kernel
theorem dX11_ringsOfGrid_76 : decode cX11_ringsOfGrid 76 = .ok (.imul, 1) := by decide +kernel
theorem dX11_ringsOfGrid_77 : decode cX11_ringsOfGrid 77 = .ok (.laload, 1) := by decide +kernel
theorem dX11_ringsOfGrid_78 : decode cX11_ringsOfGrid 78 = .ok (.invokestatic 136, 3) := by decide +kernel
theorem dX11_ringsOfGrid_81 : decode cX11_ringsOfGrid 81 = .ok (.lastore, 1) := by decide +kernel
theorem dX11_ringsOfGrid_82 : decode cX11_ringsOfGrid 82 = .ok (.iinc 1 1, 3) := by decide +kernel
theorem dX11_ringsOfGrid_85 : decode cX11_ringsOfGrid 85 = .ok (.goto (-52), 3) := by decide +kernel
theorem dX11_ringsOfGrid_88 : decode cX11_ringsOfGrid 88 = .ok (.aload_n 0, 1) := by decide +kernel
theorem dX11_ringsOfGrid_89 : decode cX11_ringsOfGrid 89 = .ok (.invokevirtual 245, 3) := by decide +kernel
theorem dX11_ringsOfGrid_92 : decode cX11_ringsOfGrid 92 = .ok (.return_, 1) := by decide +kernel
theorem dX11_ordersRings_0 : decode cX11_ordersRings 0 = .ok (.iconst 0, 1) := by decide +kernel
theorem dX11_ordersRings_1 : decode cX11_ordersRings 1 = .ok (.istore_n 1, 1) := by decide +kernel
theorem dX11_ordersRings_2 : decode cX11_ordersRings 2 = .ok (.iload_n 1, 1) := by decide +kernel
theorem dX11_ordersRings_3 : decode cX11_ordersRings 3 = .ok (.aload_n 0, 1) := by decide +kernel
theorem dX11_ordersRings_4 : decode cX11_ordersRings 4 = .ok (.getfield 236, 3) := by decide +kernel
theorem dX11_ordersRings_7 : decode cX11_ordersRings 7 = .ok (.if_icmp .ge 81, 3) := by decide +kernel
theorem dX11_ordersRings_10 : decode cX11_ordersRings 10 = .ok (.iload_n 1, 1) := by decide +kernel
theorem dX11_ordersRings_11 : decode cX11_ordersRings 11 = .ok (.iconst 1, 1) := by decide +kernel
theorem dX11_ordersRings_12 : decode cX11_ordersRings 12 = .ok (.iadd, 1) := by decide +kernel
theorem dX11_ordersRings_13 : decode cX11_ordersRings 13 = .ok (.istore_n 2, 1) := by decide +kernel
theorem dX11_ordersRings_14 : decode cX11_ordersRings 14 = .ok (.iload_n 2, 1) := by decide +kernel
theorem dX11_ordersRings_15 : decode cX11_ordersRings 15 = .ok (.aload_n 0, 1) := by decide +kernel
theorem dX11_ordersRings_16 : decode cX11_ordersRings 16 = .ok (.getfield 236, 3) := by decide +kernel
theorem dX11_ordersRings_19 : decode cX11_ordersRings 19 = .ok (.if_icmp .ge 63, 3) := by decide +kernel
theorem dX11_ordersRings_22 : decode cX11_ordersRings 22 = .ok (.aload_n 0, 1) := by decide +kernel
theorem dX11_ordersRings_23 : decode cX11_ordersRings 23 = .ok (.getfield 47, 3) := by decide +kernel
theorem dX11_ordersRings_26 : decode cX11_ordersRings 26 = .ok (.iload_n 1, 1) := by decide +kernel
theorem dX11_ordersRings_27 : decode cX11_ordersRings 27 = .ok (.laload, 1) := by decide +kernel
theorem dX11_ordersRings_28 : decode cX11_ordersRings 28 = .ok (.aload_n 0, 1) := by decide +kernel
theorem dX11_ordersRings_29 : decode cX11_ordersRings 29 = .ok (.getfield 47, 3) := by decide +kernel
theorem dX11_ordersRings_32 : decode cX11_ordersRings 32 = .ok (.iload_n 2, 1) := by decide +kernel
theorem dX11_ordersRings_33 : decode cX11_ordersRings 33 = .ok (.laload, 1) := by decide +kernel
theorem dX11_ordersRings_34 : decode cX11_ordersRings 34 = .ok (.invokestatic 248, 3) := by decide +kernel
theorem dX11_ordersRings_37 : decode cX11_ordersRings 37 = .ok (.lstore_n 3, 1) := by decide +kernel
theorem dX11_ordersRings_38 : decode cX11_ordersRings 38 = .ok (.lload_n 3, 1) := by decide +kernel
theorem dX11_ordersRings_39 : decode cX11_ordersRings 39 = .ok (.lconst 0, 1) := by decide +kernel
theorem dX11_ordersRings_40 : decode cX11_ordersRings 40 = .ok (.lcmp, 1) := by decide +kernel
theorem dX11_ordersRings_41 : decode cX11_ordersRings 41 = .ok (.ifCond .eq 35, 3) := by decide +kernel
theorem dX11_ordersRings_44 : decode cX11_ordersRings 44 = .ok (.aload_n 0, 1) := by decide +kernel
theorem dX11_ordersRings_45 : decode cX11_ordersRings 45 = .ok (.getfield 47, 3) := by decide +kernel
theorem dX11_ordersRings_48 : decode cX11_ordersRings 48 = .ok (.iload_n 1, 1) := by decide +kernel
theorem dX11_ordersRings_49 : decode cX11_ordersRings 49 = .ok (.laload, 1) := by decide +kernel
theorem dX11_ordersRings_50 : decode cX11_ordersRings 50 = .ok (.lload_n 3, 1) := by decide +kernel
theorem dX11_ordersRings_51 : decode cX11_ordersRings 51 = .ok (.ldiv, 1) := by decide +kernel
theorem dX11_ordersRings_52 : decode cX11_ordersRings 52 = .ok (.aload_n 0, 1) := by decide +kernel
theorem dX11_ordersRings_53 : decode cX11_ordersRings 53 = .ok (.getfield 47, 3) := by decide +kernel
theorem dX11_ordersRings_56 : decode cX11_ordersRings 56 = .ok (.iload_n 2, 1) := by decide +kernel
theorem dX11_ordersRings_57 : decode cX11_ordersRings 57 = .ok (.laload, 1) := by decide +kernel
theorem dX11_ordersRings_58 : decode cX11_ordersRings 58 = .ok (.lmul, 1) := by decide +kernel
theorem dX11_ordersRings_59 : decode cX11_ordersRings 59 = .ok (.lstore 5, 2) := by decide +kernel
theorem dX11_ordersRings_61 : decode cX11_ordersRings 61 = .ok (.aload_n 0, 1) := by decide +kernel
theorem dX11_ordersRings_62 : decode cX11_ordersRings 62 = .ok (.getfield 47, 3) := by decide +kernel
theorem dX11_ordersRings_65 : decode cX11_ordersRings 65 = .ok (.iload_n 1, 1) := by decide +kernel
theorem dX11_ordersRings_66 : decode cX11_ordersRings 66 = .ok (.lload_n 3, 1) := by decide +kernel
theorem dX11_ordersRings_67 : decode cX11_ordersRings 67 = .ok (.lastore, 1) := by decide +kernel
theorem dX11_ordersRings_68 : decode cX11_ordersRings 68 = .ok (.aload_n 0, 1) := by decide +kernel
theorem dX11_ordersRings_69 : decode cX11_ordersRings 69 = .ok (.getfield 47, 3) := by decide +kernel
theorem dX11_ordersRings_72 : decode cX11_ordersRings 72 = .ok (.iload_n 2, 1) := by decide +kernel
theorem dX11_ordersRings_73 : decode cX11_ordersRings 73 = .ok (.lload 5, 2) := by decide +kernel
theorem dX11_ordersRings_75 : decode cX11_ordersRings 75 = .ok (.lastore, 1) := by decide +kernel
theorem dX11_ordersRings_76 : decode cX11_ordersRings 76 = .ok (.iinc 2 1, 3) := by decide +kernel
theorem dX11_ordersRings_79 : decode cX11_ordersRings 79 = .ok (.goto (-65), 3) := by decide +kernel
theorem dX11_ordersRings_82 : decode cX11_ordersRings 82 = .ok (.iinc 1 1, 3) := by decide +kernel
theorem dX11_ordersRings_85 : decode cX11_ordersRings 85 = .ok (.goto (-83), 3) := by decide +kernel
theorem dX11_ordersRings_88 : decode cX11_ordersRings 88 = .ok (.return_, 1) := by decide +kernel
theorem dX11_ringsOf_0 : decode cX11_ringsOf 0 = .ok (.aload_n 0, 1) := by decide +kernel
theorem dX11_ringsOf_1 : decode cX11_ringsOf 1 = .ok (.aload_n 0, 1) := by decide +kernel
theorem dX11_ringsOf_2 : decode cX11_ringsOf 2 = .ok (.getfield 7, 3) := by decide +kernel
theorem dX11_ringsOf_5 : decode cX11_ringsOf 5 = .ok (.bipush 14, 2) := by decide +kernel
theorem dX11_ringsOf_7 : decode cX11_ringsOf 7 = .ok (.iload_n 1, 1) := by decide +kernel
theorem dX11_ringsOf_8 : decode cX11_ringsOf 8 = .ok (.imul, 1) := by decide +kernel
theorem dX11_ringsOf_9 : decode cX11_ringsOf 9 = .ok (.iconst 1, 1) := by decide +kernel
theorem dX11_ringsOf_10 : decode cX11_ringsOf 10 = .ok (.iadd, 1) := by decide +kernel
theorem dX11_ringsOf_11 : decode cX11_ringsOf 11 = .ok (.iaload, 1) := by decide +kernel
theorem dX11_ringsOf_12 : decode cX11_ringsOf 12 = .ok (.putfield 225, 3) := by decide +kernel
theorem dX11_ringsOf_15 : decode cX11_ringsOf 15 = .ok (.aload_n 0, 1) := by decide +kernel
theorem dX11_ringsOf_16 : decode cX11_ringsOf 16 = .ok (.aload_n 0, 1) := by decide +kernel
theorem dX11_ringsOf_17 : decode cX11_ringsOf 17 = .ok (.iload_n 1, 1) := by decide +kernel
theorem dX11_ringsOf_18 : decode cX11_ringsOf 18 = .ok (.invokevirtual 162, 3) := by decide +kernel
theorem dX11_ringsOf_21 : decode cX11_ringsOf 21 = .ok (.putfield 222, 3) := by decide +kernel
theorem dX11_ringsOf_24 : decode cX11_ringsOf 24 = .ok (.iconst 0, 1) := by decide +kernel
theorem dX11_ringsOf_25 : decode cX11_ringsOf 25 = .ok (.istore_n 2, 1) := by decide +kernel
theorem dX11_ringsOf_26 : decode cX11_ringsOf 26 = .ok (.iload_n 2, 1) := by decide +kernel
theorem dX11_ringsOf_27 : decode cX11_ringsOf 27 = .ok (.aload_n 0, 1) := by decide +kernel
theorem dX11_ringsOf_28 : decode cX11_ringsOf 28 = .ok (.getfield 225, 3) := by decide +kernel
theorem dX11_ringsOf_31 : decode cX11_ringsOf 31 = .ok (.if_icmp .ge 53, 3) := by decide +kernel
theorem dX11_ringsOf_34 : decode cX11_ringsOf 34 = .ok (.iconst 0, 1) := by decide +kernel
theorem dX11_ringsOf_35 : decode cX11_ringsOf 35 = .ok (.istore_n 3, 1) := by decide +kernel
theorem dX11_ringsOf_36 : decode cX11_ringsOf 36 = .ok (.iload_n 3, 1) := by decide +kernel
theorem dX11_ringsOf_37 : decode cX11_ringsOf 37 = .ok (.aload_n 0, 1) := by decide +kernel
theorem dX11_ringsOf_38 : decode cX11_ringsOf 38 = .ok (.getfield 222, 3) := by decide +kernel
theorem dX11_ringsOf_41 : decode cX11_ringsOf 41 = .ok (.if_icmp .ge 37, 3) := by decide +kernel
theorem dX11_ringsOf_44 : decode cX11_ringsOf 44 = .ok (.aload_n 0, 1) := by decide +kernel
theorem dX11_ringsOf_45 : decode cX11_ringsOf 45 = .ok (.getfield 44, 3) := by decide +kernel
theorem dX11_ringsOf_48 : decode cX11_ringsOf 48 = .ok (.iconst 3, 1) := by decide +kernel
theorem dX11_ringsOf_49 : decode cX11_ringsOf 49 = .ok (.iload_n 2, 1) := by decide +kernel
theorem dX11_ringsOf_50 : decode cX11_ringsOf 50 = .ok (.imul, 1) := by decide +kernel
theorem dX11_ringsOf_51 : decode cX11_ringsOf 51 = .ok (.iload_n 3, 1) := by decide +kernel
theorem dX11_ringsOf_52 : decode cX11_ringsOf 52 = .ok (.iadd, 1) := by decide +kernel
theorem dX11_ringsOf_53 : decode cX11_ringsOf 53 = .ok (.aload_n 0, 1) := by decide +kernel
theorem dX11_ringsOf_54 : decode cX11_ringsOf 54 = .ok (.getfield 7, 3) := by decide +kernel
theorem dX11_ringsOf_57 : decode cX11_ringsOf 57 = .ok (.bipush 14, 2) := by decide +kernel
theorem dX11_ringsOf_59 : decode cX11_ringsOf 59 = .ok (.iload_n 1, 1) := by decide +kernel
theorem dX11_ringsOf_60 : decode cX11_ringsOf 60 = .ok (.imul, 1) := by decide +kernel
theorem dX11_ringsOf_61 : decode cX11_ringsOf 61 = .ok (.iconst 2, 1) := by decide +kernel
theorem dX11_ringsOf_62 : decode cX11_ringsOf 62 = .ok (.iadd, 1) := by decide +kernel
theorem dX11_ringsOf_63 : decode cX11_ringsOf 63 = .ok (.iconst 3, 1) := by decide +kernel
theorem dX11_ringsOf_64 : decode cX11_ringsOf 64 = .ok (.iload_n 2, 1) := by decide +kernel
theorem dX11_ringsOf_65 : decode cX11_ringsOf 65 = .ok (.imul, 1) := by decide +kernel
theorem dX11_ringsOf_66 : decode cX11_ringsOf 66 = .ok (.iadd, 1) := by decide +kernel
theorem dX11_ringsOf_67 : decode cX11_ringsOf 67 = .ok (.iload_n 3, 1) := by decide +kernel
theorem dX11_ringsOf_68 : decode cX11_ringsOf 68 = .ok (.iadd, 1) := by decide +kernel
theorem dX11_ringsOf_69 : decode cX11_ringsOf 69 = .ok (.iaload, 1) := by decide +kernel
theorem dX11_ringsOf_70 : decode cX11_ringsOf 70 = .ok (.i2l, 1) := by decide +kernel
theorem dX11_ringsOf_71 : decode cX11_ringsOf 71 = .ok (.lastore, 1) := by decide +kernel
theorem dX11_ringsOf_72 : decode cX11_ringsOf 72 = .ok (.iinc 3 1, 3) := by decide +kernel
theorem dX11_ringsOf_75 : decode cX11_ringsOf 75 = .ok (.goto (-39), 3) := by decide +kernel
theorem dX11_ringsOf_78 : decode cX11_ringsOf 78 = .ok (.iinc 2 1, 3) := by decide +kernel
theorem dX11_ringsOf_81 : decode cX11_ringsOf 81 = .ok (.goto (-55), 3) := by decide +kernel
theorem dX11_ringsOf_84 : decode cX11_ringsOf 84 = .ok (.aload_n 0, 1) := by decide +kernel
theorem dX11_ringsOf_85 : decode cX11_ringsOf 85 = .ok (.invokevirtual 251, 3) := by decide +kernel
theorem dX11_ringsOf_88 : decode cX11_ringsOf 88 = .ok (.return_, 1) := by decide +kernel
theorem dX11_ringsBetween_0 : decode cX11_ringsBetween 0 = .ok (.aload_n 0, 1) := by decide +kernel
theorem dX11_ringsBetween_1 : decode cX11_ringsBetween 1 = .ok (.iconst 0, 1) := by decide +kernel
theorem dX11_ringsBetween_2 : decode cX11_ringsBetween 2 = .ok (.putfield 222, 3) := by decide +kernel
theorem dX11_ringsBetween_5 : decode cX11_ringsBetween 5 = .ok (.aload_n 0, 1) := by decide +kernel
theorem dX11_ringsBetween_6 : decode cX11_ringsBetween 6 = .ok (.iload_n 3, 1) := by decide +kernel
theorem dX11_ringsBetween_7 : decode cX11_ringsBetween 7 = .ok (.putfield 225, 3) := by decide +kernel
theorem dX11_ringsBetween_10 : decode cX11_ringsBetween 10 = .ok (.iconst 0, 1) := by decide +kernel
theorem dX11_ringsBetween_11 : decode cX11_ringsBetween 11 = .ok (.istore 4, 2) := by decide +kernel
theorem dX11_ringsBetween_13 : decode cX11_ringsBetween 13 = .ok (.iload 4, 2) := by decide +kernel
theorem dX11_ringsBetween_15 : decode cX11_ringsBetween 15 = .ok (.iload_n 3, 1) := by decide +kernel
theorem dX11_ringsBetween_16 : decode cX11_ringsBetween 16 = .ok (.if_icmp .ge 35, 3) := by decide +kernel
theorem dX11_ringsBetween_19 : decode cX11_ringsBetween 19 = .ok (.aload_n 0, 1) := by decide +kernel
theorem dX11_ringsBetween_20 : decode cX11_ringsBetween 20 = .ok (.dup, 1) := by decide +kernel
theorem dX11_ringsBetween_21 : decode cX11_ringsBetween 21 = .ok (.getfield 222, 3) := by decide +kernel
theorem dX11_ringsBetween_24 : decode cX11_ringsBetween 24 = .ok (.aload_n 1, 1) := by decide +kernel
theorem dX11_ringsBetween_25 : decode cX11_ringsBetween 25 = .ok (.bipush 7, 2) := by decide +kernel
theorem dX11_ringsBetween_27 : decode cX11_ringsBetween 27 = .ok (.iload 4, 2) := by decide +kernel
theorem dX11_ringsBetween_29 : decode cX11_ringsBetween 29 = .ok (.imul, 1) := by decide +kernel
theorem dX11_ringsBetween_30 : decode cX11_ringsBetween 30 = .ok (.laload, 1) := by decide +kernel
theorem dX11_ringsBetween_31 : decode cX11_ringsBetween 31 = .ok (.lconst 0, 1) := by decide +kernel
theorem dX11_ringsBetween_32 : decode cX11_ringsBetween 32 = .ok (.lcmp, 1) := by decide +kernel
theorem dX11_ringsBetween_33 : decode cX11_ringsBetween 33 = .ok (.ifCond .eq 7, 3) := by decide +kernel
theorem dX11_ringsBetween_36 : decode cX11_ringsBetween 36 = .ok (.iconst 1, 1) := by decide +kernel
theorem dX11_ringsBetween_37 : decode cX11_ringsBetween 37 = .ok (.goto 4, 3) := by decide +kernel
theorem dX11_ringsBetween_40 : decode cX11_ringsBetween 40 = .ok (.iconst 0, 1) := by decide +kernel
theorem dX11_ringsBetween_41 : decode cX11_ringsBetween 41 = .ok (.iadd, 1) := by decide +kernel
theorem dX11_ringsBetween_42 : decode cX11_ringsBetween 42 = .ok (.putfield 222, 3) := by decide +kernel
theorem dX11_ringsBetween_45 : decode cX11_ringsBetween 45 = .ok (.iinc 4 1, 3) := by decide +kernel
theorem dX11_ringsBetween_48 : decode cX11_ringsBetween 48 = .ok (.goto (-35), 3) := by decide +kernel
theorem dX11_ringsBetween_51 : decode cX11_ringsBetween 51 = .ok (.iconst 0, 1) := by decide +kernel
theorem dX11_ringsBetween_52 : decode cX11_ringsBetween 52 = .ok (.istore 4, 2) := by decide +kernel
theorem dX11_ringsBetween_54 : decode cX11_ringsBetween 54 = .ok (.iload 4, 2) := by decide +kernel
theorem dX11_ringsBetween_56 : decode cX11_ringsBetween 56 = .ok (.iload_n 3, 1) := by decide +kernel
theorem dX11_ringsBetween_57 : decode cX11_ringsBetween 57 = .ok (.if_icmp .ge 120, 3) := by decide +kernel
theorem dX11_ringsBetween_60 : decode cX11_ringsBetween 60 = .ok (.iconst 0, 1) := by decide +kernel
theorem dX11_ringsBetween_61 : decode cX11_ringsBetween 61 = .ok (.istore 5, 2) := by decide +kernel
theorem dX11_ringsBetween_63 : decode cX11_ringsBetween 63 = .ok (.iload 5, 2) := by decide +kernel
theorem dX11_ringsBetween_65 : decode cX11_ringsBetween 65 = .ok (.bipush 6, 2) := by decide +kernel
theorem dX11_ringsBetween_67 : decode cX11_ringsBetween 67 = .ok (.if_icmp .ge 26, 3) := by decide +kernel
theorem dX11_ringsBetween_70 : decode cX11_ringsBetween 70 = .ok (.aload_n 0, 1) := by decide +kernel
theorem dX11_ringsBetween_71 : decode cX11_ringsBetween 71 = .ok (.getfield 41, 3) := by decide +kernel
theorem dX11_ringsBetween_74 : decode cX11_ringsBetween 74 = .ok (.iload 5, 2) := by decide +kernel
theorem dX11_ringsBetween_76 : decode cX11_ringsBetween 76 = .ok (.aload_n 2, 1) := by decide +kernel
theorem dX11_ringsBetween_77 : decode cX11_ringsBetween 77 = .ok (.bipush 6, 2) := by decide +kernel
theorem dX11_ringsBetween_79 : decode cX11_ringsBetween 79 = .ok (.iload 4, 2) := by decide +kernel
theorem dX11_ringsBetween_81 : decode cX11_ringsBetween 81 = .ok (.imul, 1) := by decide +kernel
theorem dX11_ringsBetween_82 : decode cX11_ringsBetween 82 = .ok (.iload 5, 2) := by decide +kernel
theorem dX11_ringsBetween_84 : decode cX11_ringsBetween 84 = .ok (.iadd, 1) := by decide +kernel
theorem dX11_ringsBetween_85 : decode cX11_ringsBetween 85 = .ok (.laload, 1) := by decide +kernel
theorem dX11_ringsBetween_86 : decode cX11_ringsBetween 86 = .ok (.lastore, 1) := by decide +kernel
theorem dX11_ringsBetween_87 : decode cX11_ringsBetween 87 = .ok (.iinc 5 1, 3) := by decide +kernel
theorem dX11_ringsBetween_90 : decode cX11_ringsBetween 90 = .ok (.goto (-27), 3) := by decide +kernel
theorem dX11_ringsBetween_93 : decode cX11_ringsBetween 93 = .ok (.iconst 0, 1) := by decide +kernel
theorem dX11_ringsBetween_94 : decode cX11_ringsBetween 94 = .ok (.istore 5, 2) := by decide +kernel
theorem dX11_ringsBetween_96 : decode cX11_ringsBetween 96 = .ok (.iconst 0, 1) := by decide +kernel
theorem dX11_ringsBetween_97 : decode cX11_ringsBetween 97 = .ok (.istore 6, 2) := by decide +kernel
theorem dX11_ringsBetween_99 : decode cX11_ringsBetween 99 = .ok (.iload 6, 2) := by decide +kernel
theorem dX11_ringsBetween_101 : decode cX11_ringsBetween 101 = .ok (.iload_n 3, 1) := by decide +kernel
theorem dX11_ringsBetween_102 : decode cX11_ringsBetween 102 = .ok (.if_icmp .ge 69, 3) := by decide +kernel
theorem dX11_ringsBetween_105 : decode cX11_ringsBetween 105 = .ok (.aload_n 1, 1) := by decide +kernel
theorem dX11_ringsBetween_106 : decode cX11_ringsBetween 106 = .ok (.bipush 7, 2) := by decide +kernel
theorem dX11_ringsBetween_108 : decode cX11_ringsBetween 108 = .ok (.iload 6, 2) := by decide +kernel
theorem dX11_ringsBetween_110 : decode cX11_ringsBetween 110 = .ok (.imul, 1) := by decide +kernel
theorem dX11_ringsBetween_111 : decode cX11_ringsBetween 111 = .ok (.laload, 1) := by decide +kernel
theorem dX11_ringsBetween_112 : decode cX11_ringsBetween 112 = .ok (.lconst 0, 1) := by decide +kernel
theorem dX11_ringsBetween_113 : decode cX11_ringsBetween 113 = .ok (.lcmp, 1) := by decide +kernel
theorem dX11_ringsBetween_114 : decode cX11_ringsBetween 114 = .ok (.ifCond .eq 51, 3) := by decide +kernel
theorem dX11_ringsBetween_117 : decode cX11_ringsBetween 117 = .ok (.aload_n 0, 1) := by decide +kernel
theorem dX11_ringsBetween_118 : decode cX11_ringsBetween 118 = .ok (.getfield 41, 3) := by decide +kernel
theorem dX11_ringsBetween_121 : decode cX11_ringsBetween 121 = .ok (.iload 6, 2) := by decide +kernel
theorem dX11_ringsBetween_123 : decode cX11_ringsBetween 123 = .ok (.laload, 1) := by decide +kernel
theorem dX11_ringsBetween_124 : decode cX11_ringsBetween 124 = .ok (.aload_n 1, 1) := by decide +kernel
theorem dX11_ringsBetween_125 : decode cX11_ringsBetween 125 = .ok (.bipush 7, 2) := by decide +kernel
theorem dX11_ringsBetween_127 : decode cX11_ringsBetween 127 = .ok (.iload 6, 2) := by decide +kernel
theorem dX11_ringsBetween_129 : decode cX11_ringsBetween 129 = .ok (.imul, 1) := by decide +kernel
theorem dX11_ringsBetween_130 : decode cX11_ringsBetween 130 = .ok (.laload, 1) := by decide +kernel
theorem dX11_ringsBetween_131 : decode cX11_ringsBetween 131 = .ok (.ldiv, 1) := by decide +kernel
theorem dX11_ringsBetween_132 : decode cX11_ringsBetween 132 = .ok (.lstore 7, 2) := by decide +kernel
theorem dX11_ringsBetween_134 : decode cX11_ringsBetween 134 = .ok (.aload_n 0, 1) := by decide +kernel
theorem dX11_ringsBetween_135 : decode cX11_ringsBetween 135 = .ok (.getfield 44, 3) := by decide +kernel
theorem dX11_ringsBetween_138 : decode cX11_ringsBetween 138 = .ok (.iconst 3, 1) := by decide +kernel
theorem dX11_ringsBetween_139 : decode cX11_ringsBetween 139 = .ok (.iload 4, 2) := by decide +kernel
theorem dX11_ringsBetween_141 : decode cX11_ringsBetween 141 = .ok (.imul, 1) := by decide +kernel
theorem dX11_ringsBetween_142 : decode cX11_ringsBetween 142 = .ok (.iload 5, 2) := by decide +kernel
theorem dX11_ringsBetween_144 : decode cX11_ringsBetween 144 = .ok (.iadd, 1) := by decide +kernel
theorem dX11_ringsBetween_145 : decode cX11_ringsBetween 145 = .ok (.lload 7, 2) := by decide +kernel
theorem dX11_ringsBetween_147 : decode cX11_ringsBetween 147 = .ok (.lastore, 1) := by decide +kernel
theorem dX11_ringsBetween_148 : decode cX11_ringsBetween 148 = .ok (.iinc 5 1, 3) := by decide +kernel
theorem dX11_ringsBetween_151 : decode cX11_ringsBetween 151 = .ok (.aload_n 0, 1) := by decide +kernel
theorem dX11_ringsBetween_152 : decode cX11_ringsBetween 152 = .ok (.aload_n 0, 1) := by decide +kernel
theorem dX11_ringsBetween_153 : decode cX11_ringsBetween 153 = .ok (.getfield 41, 3) := by decide +kernel
theorem dX11_ringsBetween_156 : decode cX11_ringsBetween 156 = .ok (.iconst 0, 1) := by decide +kernel
theorem dX11_ringsBetween_157 : decode cX11_ringsBetween 157 = .ok (.aload_n 1, 1) := by decide +kernel
theorem dX11_ringsBetween_158 : decode cX11_ringsBetween 158 = .ok (.iload 6, 2) := by decide +kernel
theorem dX11_ringsBetween_160 : decode cX11_ringsBetween 160 = .ok (.lload 7, 2) := by decide +kernel
theorem dX11_ringsBetween_162 : decode cX11_ringsBetween 162 = .ok (.invokevirtual 148, 3) := by decide +kernel
theorem dX11_ringsBetween_165 : decode cX11_ringsBetween 165 = .ok (.iinc 6 1, 3) := by decide +kernel
theorem dX11_ringsBetween_168 : decode cX11_ringsBetween 168 = .ok (.goto (-69), 3) := by decide +kernel
theorem dX11_ringsBetween_171 : decode cX11_ringsBetween 171 = .ok (.iinc 4 1, 3) := by decide +kernel
theorem dX11_ringsBetween_174 : decode cX11_ringsBetween 174 = .ok (.goto (-120), 3) := by decide +kernel
theorem dX11_ringsBetween_177 : decode cX11_ringsBetween 177 = .ok (.aload_n 0, 1) := by decide +kernel
theorem dX11_ringsBetween_178 : decode cX11_ringsBetween 178 = .ok (.invokevirtual 251, 3) := by decide +kernel
theorem dX11_ringsBetween_181 : decode cX11_ringsBetween 181 = .ok (.return_, 1) := by decide +kernel
theorem dX11_ownRings_0 : decode cX11_ownRings 0 = .ok (.iconst 0, 1) := by decide +kernel
theorem dX11_ownRings_1 : decode cX11_ownRings 1 = .ok (.istore_n 1, 1) := by decide +kernel
theorem dX11_ownRings_2 : decode cX11_ownRings 2 = .ok (.iconst 0, 1) := by decide +kernel
theorem dX11_ownRings_3 : decode cX11_ownRings 3 = .ok (.istore_n 2, 1) := by decide +kernel
theorem dX11_ownRings_4 : decode cX11_ownRings 4 = .ok (.iload_n 2, 1) := by decide +kernel
theorem dX11_ownRings_5 : decode cX11_ownRings 5 = .ok (.aload_n 0, 1) := by decide +kernel
theorem dX11_ownRings_6 : decode cX11_ownRings 6 = .ok (.getfield 236, 3) := by decide +kernel
theorem dX11_ownRings_9 : decode cX11_ownRings 9 = .ok (.if_icmp .ge 28, 3) := by decide +kernel
theorem dX11_ownRings_12 : decode cX11_ownRings 12 = .ok (.iload_n 1, 1) := by decide +kernel
theorem dX11_ownRings_13 : decode cX11_ownRings 13 = .ok (.aload_n 0, 1) := by decide +kernel
theorem dX11_ownRings_14 : decode cX11_ownRings 14 = .ok (.getfield 47, 3) := by decide +kernel
theorem dX11_ownRings_17 : decode cX11_ownRings 17 = .ok (.iload_n 2, 1) := by decide +kernel
theorem dX11_ownRings_18 : decode cX11_ownRings 18 = .ok (.laload, 1) := by decide +kernel
theorem dX11_ownRings_19 : decode cX11_ownRings 19 = .ok (.lconst 1, 1) := by decide +kernel
theorem dX11_ownRings_20 : decode cX11_ownRings 20 = .ok (.lcmp, 1) := by decide +kernel
theorem dX11_ownRings_21 : decode cX11_ownRings 21 = .ok (.ifCond .eq 7, 3) := by decide +kernel
theorem dX11_ownRings_24 : decode cX11_ownRings 24 = .ok (.iconst 1, 1) := by decide +kernel
theorem dX11_ownRings_25 : decode cX11_ownRings 25 = .ok (.goto 4, 3) := by decide +kernel
theorem dX11_ownRings_28 : decode cX11_ownRings 28 = .ok (.iconst 0, 1) := by decide +kernel
theorem dX11_ownRings_29 : decode cX11_ownRings 29 = .ok (.iadd, 1) := by decide +kernel
theorem dX11_ownRings_30 : decode cX11_ownRings 30 = .ok (.istore_n 1, 1) := by decide +kernel
theorem dX11_ownRings_31 : decode cX11_ownRings 31 = .ok (.iinc 2 1, 3) := by decide +kernel
theorem dX11_ownRings_34 : decode cX11_ownRings 34 = .ok (.goto (-30), 3) := by decide +kernel
theorem dX11_ownRings_37 : decode cX11_ownRings 37 = .ok (.iload_n 1, 1) := by decide +kernel
theorem dX11_ownRings_38 : decode cX11_ownRings 38 = .ok (.ireturn, 1) := by decide +kernel
theorem dX11_ownRing_0 : decode cX11_ownRing 0 = .ok (.iconst 0, 1) := by decide +kernel
theorem dX11_ownRing_1 : decode cX11_ownRing 1 = .ok (.istore_n 2, 1) := by decide +kernel
theorem dX11_ownRing_2 : decode cX11_ownRing 2 = .ok (.iconst 0, 1) := by decide +kernel
theorem dX11_ownRing_3 : decode cX11_ownRing 3 = .ok (.istore_n 3, 1) := by decide +kernel
theorem dX11_ownRing_4 : decode cX11_ownRing 4 = .ok (.iload_n 3, 1) := by decide +kernel
theorem dX11_ownRing_5 : decode cX11_ownRing 5 = .ok (.aload_n 0, 1) := by decide +kernel
theorem dX11_ownRing_6 : decode cX11_ownRing 6 = .ok (.getfield 236, 3) := by decide +kernel
theorem dX11_ownRing_9 : decode cX11_ownRing 9 = .ok (.if_icmp .ge 40, 3) := by decide +kernel
theorem dX11_ownRing_12 : decode cX11_ownRing 12 = .ok (.iload_n 1, 1) := by decide +kernel
theorem dX11_ownRing_13 : decode cX11_ownRing 13 = .ok (.ifCond .lt 36, 3) := by decide +kernel
theorem dX11_ownRing_16 : decode cX11_ownRing 16 = .ok (.aload_n 0, 1) := by decide +kernel
theorem dX11_ownRing_17 : decode cX11_ownRing 17 = .ok (.getfield 47, 3) := by decide +kernel
theorem dX11_ownRing_20 : decode cX11_ownRing 20 = .ok (.iload_n 3, 1) := by decide +kernel
theorem dX11_ownRing_21 : decode cX11_ownRing 21 = .ok (.laload, 1) := by decide +kernel
theorem dX11_ownRing_22 : decode cX11_ownRing 22 = .ok (.lconst 1, 1) := by decide +kernel
theorem dX11_ownRing_23 : decode cX11_ownRing 23 = .ok (.lcmp, 1) := by decide +kernel
theorem dX11_ownRing_24 : decode cX11_ownRing 24 = .ok (.ifCond .eq 19, 3) := by decide +kernel
theorem dX11_ownRing_27 : decode cX11_ownRing 27 = .ok (.iload_n 2, 1) := by decide +kernel
theorem dX11_ownRing_28 : decode cX11_ownRing 28 = .ok (.iload_n 1, 1) := by decide +kernel
theorem dX11_ownRing_29 : decode cX11_ownRing 29 = .ok (.if_icmp .ne 11, 3) := by decide +kernel
theorem dX11_ownRing_32 : decode cX11_ownRing 32 = .ok (.aload_n 0, 1) := by decide +kernel
theorem dX11_ownRing_33 : decode cX11_ownRing 33 = .ok (.getfield 47, 3) := by decide +kernel
theorem dX11_ownRing_36 : decode cX11_ownRing 36 = .ok (.iload_n 3, 1) := by decide +kernel
theorem dX11_ownRing_37 : decode cX11_ownRing 37 = .ok (.laload, 1) := by decide +kernel
theorem dX11_ownRing_38 : decode cX11_ownRing 38 = .ok (.l2i, 1) := by decide +kernel
theorem dX11_ownRing_39 : decode cX11_ownRing 39 = .ok (.ireturn, 1) := by decide +kernel
theorem dX11_ownRing_40 : decode cX11_ownRing 40 = .ok (.iinc 2 1, 3) := by decide +kernel
theorem dX11_ownRing_43 : decode cX11_ownRing 43 = .ok (.iinc 3 1, 3) := by decide +kernel
theorem dX11_ownRing_46 : decode cX11_ownRing 46 = .ok (.goto (-42), 3) := by decide +kernel
theorem dX11_ownRing_49 : decode cX11_ownRing 49 = .ok (.iload_n 1, 1) := by decide +kernel
theorem dX11_ownRing_50 : decode cX11_ownRing 50 = .ok (.ifCond .ge 10, 3) := by decide +kernel
theorem dX11_ownRing_53 : decode cX11_ownRing 53 = .ok (.aload_n 0, 1) := by decide +kernel
theorem dX11_ownRing_54 : decode cX11_ownRing 54 = .ok (.invokevirtual 254, 3) := by decide +kernel
theorem dX11_ownRing_57 : decode cX11_ownRing 57 = .ok (.goto 5, 3) := by decide +kernel
theorem dX11_ownRing_60 : decode cX11_ownRing 60 = .ok (.bipush (-3), 2) := by decide +kernel
theorem dX11_ownRing_62 : decode cX11_ownRing 62 = .ok (.ireturn, 1) := by decide +kernel
theorem dX11_elements_0 : decode cX11_elements 0 = .ok (.lconst 1, 1) := by decide +kernel
theorem dX11_elements_1 : decode cX11_elements 1 = .ok (.lstore_n 1, 1) := by decide +kernel
theorem dX11_elements_2 : decode cX11_elements 2 = .ok (.iconst 0, 1) := by decide +kernel
theorem dX11_elements_3 : decode cX11_elements 3 = .ok (.istore_n 3, 1) := by decide +kernel
theorem dX11_elements_4 : decode cX11_elements 4 = .ok (.iload_n 3, 1) := by decide +kernel
theorem dX11_elements_5 : decode cX11_elements 5 = .ok (.aload_n 0, 1) := by decide +kernel
theorem dX11_elements_6 : decode cX11_elements 6 = .ok (.getfield 236, 3) := by decide +kernel
theorem dX11_elements_9 : decode cX11_elements 9 = .ok (.if_icmp .ge 18, 3) := by decide +kernel
theorem dX11_elements_12 : decode cX11_elements 12 = .ok (.lload_n 1, 1) := by decide +kernel
theorem dX11_elements_13 : decode cX11_elements 13 = .ok (.aload_n 0, 1) := by decide +kernel
theorem dX11_elements_14 : decode cX11_elements 14 = .ok (.getfield 47, 3) := by decide +kernel
theorem dX11_elements_17 : decode cX11_elements 17 = .ok (.iload_n 3, 1) := by decide +kernel
theorem dX11_elements_18 : decode cX11_elements 18 = .ok (.laload, 1) := by decide +kernel
theorem dX11_elements_19 : decode cX11_elements 19 = .ok (.lmul, 1) := by decide +kernel
theorem dX11_elements_20 : decode cX11_elements 20 = .ok (.lstore_n 1, 1) := by decide +kernel
theorem dX11_elements_21 : decode cX11_elements 21 = .ok (.iinc 3 1, 3) := by decide +kernel
theorem dX11_elements_24 : decode cX11_elements 24 = .ok (.goto (-20), 3) := by decide +kernel
theorem dX11_elements_27 : decode cX11_elements 27 = .ok (.lload_n 1, 1) := by decide +kernel
theorem dX11_elements_28 : decode cX11_elements 28 = .ok (.l2i, 1) := by decide +kernel
theorem dX11_elements_29 : decode cX11_elements 29 = .ok (.ireturn, 1) := by decide +kernel
theorem dX11_groupIs_0 : decode cX11_groupIs 0 = .ok (.iload_n 1, 1) := by decide +kernel
theorem dX11_groupIs_1 : decode cX11_groupIs 1 = .ok (.invokestatic 207, 3) := by decide +kernel
theorem dX11_groupIs_4 : decode cX11_groupIs 4 = .ok (.ifCond .eq 15, 3) := by decide +kernel
theorem dX11_groupIs_7 : decode cX11_groupIs 7 = .ok (.iload_n 2, 1) := by decide +kernel
theorem dX11_groupIs_8 : decode cX11_groupIs 8 = .ok (.i2l, 1) := by decide +kernel
theorem dX11_groupIs_9 : decode cX11_groupIs 9 = .ok (.lconst 0, 1) := by decide +kernel
theorem dX11_groupIs_10 : decode cX11_groupIs 10 = .ok (.ldc2_w 211, 3) := by decide +kernel
theorem dX11_groupIs_13 : decode cX11_groupIs 13 = .ok (.invokestatic 123, 3) := by decide +kernel
theorem dX11_groupIs_16 : decode cX11_groupIs 16 = .ok (.ifCond .ne 5, 3) := by decide +kernel
theorem dX11_groupIs_19 : decode cX11_groupIs 19 = .ok (.iconst (-1), 1) := by decide +kernel
theorem dX11_groupIs_20 : decode cX11_groupIs 20 = .ok (.ireturn, 1) := by decide +kernel
theorem dX11_groupIs_21 : decode cX11_groupIs 21 = .ok (.aload_n 0, 1) := by decide +kernel
theorem dX11_groupIs_22 : decode cX11_groupIs 22 = .ok (.iload_n 1, 1) := by decide +kernel
theorem dX11_groupIs_23 : decode cX11_groupIs 23 = .ok (.invokevirtual 258, 3) := by decide +kernel
theorem dX11_groupIs_26 : decode cX11_groupIs 26 = .ok (.iload_n 2, 1) := by decide +kernel
theorem dX11_groupIs_27 : decode cX11_groupIs 27 = .ok (.ifCond .ne 11, 3) := by decide +kernel
theorem dX11_groupIs_30 : decode cX11_groupIs 30 = .ok (.aload_n 0, 1) := by decide +kernel
theorem dX11_groupIs_31 : decode cX11_groupIs 31 = .ok (.iload_n 1, 1) := by decide +kernel
theorem dX11_groupIs_32 : decode cX11_groupIs 32 = .ok (.invokevirtual 162, 3) := by decide +kernel
theorem dX11_groupIs_35 : decode cX11_groupIs 35 = .ok (.goto 38, 3) := by decide +kernel
theorem dX11_groupIs_38 : decode cX11_groupIs 38 = .ok (.iload_n 2, 1) := by decide +kernel
theorem dX11_groupIs_39 : decode cX11_groupIs 39 = .ok (.iconst 1, 1) := by decide +kernel
theorem dX11_groupIs_40 : decode cX11_groupIs 40 = .ok (.if_icmp .ne 17, 3) := by decide +kernel
theorem dX11_groupIs_43 : decode cX11_groupIs 43 = .ok (.aload_n 0, 1) := by decide +kernel
theorem dX11_groupIs_44 : decode cX11_groupIs 44 = .ok (.getfield 7, 3) := by decide +kernel
theorem dX11_groupIs_47 : decode cX11_groupIs 47 = .ok (.bipush 14, 2) := by decide +kernel
theorem dX11_groupIs_49 : decode cX11_groupIs 49 = .ok (.iload_n 1, 1) := by decide +kernel
theorem dX11_groupIs_50 : decode cX11_groupIs 50 = .ok (.imul, 1) := by decide +kernel
theorem dX11_groupIs_51 : decode cX11_groupIs 51 = .ok (.iconst 1, 1) := by decide +kernel
theorem dX11_groupIs_52 : decode cX11_groupIs 52 = .ok (.iadd, 1) := by decide +kernel
theorem dX11_groupIs_53 : decode cX11_groupIs 53 = .ok (.iaload, 1) := by decide +kernel
theorem dX11_groupIs_54 : decode cX11_groupIs 54 = .ok (.goto 19, 3) := by decide +kernel
theorem dX11_groupIs_57 : decode cX11_groupIs 57 = .ok (.iload_n 2, 1) := by decide +kernel
theorem dX11_groupIs_58 : decode cX11_groupIs 58 = .ok (.iconst 2, 1) := by decide +kernel
theorem dX11_groupIs_59 : decode cX11_groupIs 59 = .ok (.if_icmp .ne 10, 3) := by decide +kernel
theorem dX11_groupIs_62 : decode cX11_groupIs 62 = .ok (.aload_n 0, 1) := by decide +kernel
theorem dX11_groupIs_63 : decode cX11_groupIs 63 = .ok (.invokevirtual 254, 3) := by decide +kernel
theorem dX11_groupIs_66 : decode cX11_groupIs 66 = .ok (.goto 7, 3) := by decide +kernel
theorem dX11_groupIs_69 : decode cX11_groupIs 69 = .ok (.aload_n 0, 1) := by decide +kernel
theorem dX11_groupIs_70 : decode cX11_groupIs 70 = .ok (.invokevirtual 261, 3) := by decide +kernel
theorem dX11_groupIs_73 : decode cX11_groupIs 73 = .ok (.ireturn, 1) := by decide +kernel
theorem dX11_isPlace_0 : decode cX11_isPlace 0 = .ok (.iload_n 1, 1) := by decide +kernel
theorem dX11_isPlace_1 : decode cX11_isPlace 1 = .ok (.invokestatic 207, 3) := by decide +kernel
theorem dX11_isPlace_4 : decode cX11_isPlace 4 = .ok (.ifCond .eq 24, 3) := by decide +kernel
theorem dX11_isPlace_7 : decode cX11_isPlace 7 = .ok (.iload_n 2, 1) := by decide +kernel
theorem dX11_isPlace_8 : decode cX11_isPlace 8 = .ok (.i2l, 1) := by decide +kernel
theorem dX11_isPlace_9 : decode cX11_isPlace 9 = .ok (.lconst 0, 1) := by decide +kernel
theorem dX11_isPlace_10 : decode cX11_isPlace 10 = .ok (.aload_n 0, 1) := by decide +kernel
theorem dX11_isPlace_11 : decode cX11_isPlace 11 = .ok (.iload_n 1, 1) := by decide +kernel
theorem dX11_isPlace_12 : decode cX11_isPlace 12 = .ok (.invokevirtual 162, 3) := by decide +kernel
theorem dX11_isPlace_15 : decode cX11_isPlace 15 = .ok (.iconst 1, 1) := by decide +kernel
theorem dX11_isPlace_16 : decode cX11_isPlace 16 = .ok (.isub, 1) := by decide +kernel
theorem dX11_isPlace_17 : decode cX11_isPlace 17 = .ok (.i2l, 1) := by decide +kernel
theorem dX11_isPlace_18 : decode cX11_isPlace 18 = .ok (.invokestatic 123, 3) := by decide +kernel
theorem dX11_isPlace_21 : decode cX11_isPlace 21 = .ok (.ifCond .eq 7, 3) := by decide +kernel
theorem dX11_isPlace_24 : decode cX11_isPlace 24 = .ok (.iconst 1, 1) := by decide +kernel
theorem dX11_isPlace_25 : decode cX11_isPlace 25 = .ok (.goto 4, 3) := by decide +kernel
theorem dX11_isPlace_28 : decode cX11_isPlace 28 = .ok (.iconst 0, 1) := by decide +kernel
theorem dX11_isPlace_29 : decode cX11_isPlace 29 = .ok (.ireturn, 1) := by decide +kernel
theorem dX11_ring_0 : decode cX11_ring 0 = .ok (.aload_n 0, 1) := by decide +kernel
theorem dX11_ring_1 : decode cX11_ring 1 = .ok (.iload_n 1, 1) := by decide +kernel
theorem dX11_ring_2 : decode cX11_ring 2 = .ok (.iload_n 2, 1) := by decide +kernel
theorem dX11_ring_3 : decode cX11_ring 3 = .ok (.invokevirtual 264, 3) := by decide +kernel
theorem dX11_ring_6 : decode cX11_ring 6 = .ok (.ifCond .ne 5, 3) := by decide +kernel
theorem dX11_ring_9 : decode cX11_ring 9 = .ok (.iconst (-1), 1) := by decide +kernel
theorem dX11_ring_10 : decode cX11_ring 10 = .ok (.ireturn, 1) := by decide +kernel
theorem dX11_ring_11 : decode cX11_ring 11 = .ok (.aload_n 0, 1) := by decide +kernel
theorem dX11_ring_12 : decode cX11_ring 12 = .ok (.iload_n 1, 1) := by decide +kernel
theorem dX11_ring_13 : decode cX11_ring 13 = .ok (.invokevirtual 258, 3) := by decide +kernel
theorem dX11_ring_16 : decode cX11_ring 16 = .ok (.aload_n 0, 1) := by decide +kernel
theorem dX11_ring_17 : decode cX11_ring 17 = .ok (.getfield 47, 3) := by decide +kernel
theorem dX11_ring_20 : decode cX11_ring 20 = .ok (.iload_n 2, 1) := by decide +kernel
theorem dX11_ring_21 : decode cX11_ring 21 = .ok (.laload, 1) := by decide +kernel
theorem dX11_ring_22 : decode cX11_ring 22 = .ok (.l2i, 1) := by decide +kernel
theorem dX11_ring_23 : decode cX11_ring 23 = .ok (.ireturn, 1) := by decide +kernel
theorem dX11_step_0 : decode cX11_step 0 = .ok (.aload_n 0, 1) := by decide +kernel
theorem dX11_step_1 : decode cX11_step 1 = .ok (.iload_n 1, 1) := by decide +kernel
theorem dX11_step_2 : decode cX11_step 2 = .ok (.iload_n 2, 1) := by decide +kernel
theorem dX11_step_3 : decode cX11_step 3 = .ok (.invokevirtual 264, 3) := by decide +kernel
theorem dX11_step_6 : decode cX11_step 6 = .ok (.ifCond .ne 5, 3) := by decide +kernel
theorem dX11_step_9 : decode cX11_step 9 = .ok (.iconst (-1), 1) := by decide +kernel
theorem dX11_step_10 : decode cX11_step 10 = .ok (.ireturn, 1) := by decide +kernel
theorem dX11_step_11 : decode cX11_step 11 = .ok (.aload_n 0, 1) := by decide +kernel
theorem dX11_step_12 : decode cX11_step 12 = .ok (.iload_n 1, 1) := by decide +kernel
theorem dX11_step_13 : decode cX11_step 13 = .ok (.aload_n 0, 1) := by decide +kernel
theorem dX11_step_14 : decode cX11_step 14 = .ok (.getfield 23, 3) := by decide +kernel
theorem dX11_step_17 : decode cX11_step 17 = .ok (.invokevirtual 188, 3) := by decide +kernel
theorem dX11_step_20 : decode cX11_step 20 = .ok (.aload_n 0, 1) := by decide +kernel
theorem dX11_step_21 : decode cX11_step 21 = .ok (.getfield 23, 3) := by decide +kernel
theorem dX11_step_24 : decode cX11_step 24 = .ok (.bipush 7, 2) := by decide +kernel
theorem dX11_step_26 : decode cX11_step 26 = .ok (.iload_n 2, 1) := by decide +kernel
theorem dX11_step_27 : decode cX11_step 27 = .ok (.imul, 1) := by decide +kernel
theorem dX11_step_28 : decode cX11_step 28 = .ok (.laload, 1) := by decide +kernel
theorem dX11_step_29 : decode cX11_step 29 = .ok (.l2i, 1) := by decide +kernel
theorem dX11_step_30 : decode cX11_step 30 = .ok (.ireturn, 1) := by decide +kernel
theorem dX11_normal_0 : decode cX11_normal 0 = .ok (.aload_n 0, 1) := by decide +kernel
theorem dX11_normal_1 : decode cX11_normal 1 = .ok (.iload_n 1, 1) := by decide +kernel
theorem dX11_normal_2 : decode cX11_normal 2 = .ok (.iload 5, 2) := by decide +kernel
theorem dX11_normal_4 : decode cX11_normal 4 = .ok (.invokevirtual 264, 3) := by decide +kernel
theorem dX11_normal_7 : decode cX11_normal 7 = .ok (.ifCond .eq 13, 3) := by decide +kernel
theorem dX11_normal_10 : decode cX11_normal 10 = .ok (.iload_n 2, 1) := by decide +kernel
theorem dX11_normal_11 : decode cX11_normal 11 = .ok (.iload_n 3, 1) := by decide +kernel
theorem dX11_normal_12 : decode cX11_normal 12 = .ok (.iload 4, 2) := by decide +kernel
theorem dX11_normal_14 : decode cX11_normal 14 = .ok (.invokestatic 267, 3) := by decide +kernel
theorem dX11_normal_17 : decode cX11_normal 17 = .ok (.ifCond .ne 8, 3) := by decide +kernel
theorem dX11_normal_20 : decode cX11_normal 20 = .ok (.iconst (-1), 1) := by decide +kernel
theorem dX11_normal_21 : decode cX11_normal 21 = .ok (.invokestatic 271, 3) := by decide +kernel
theorem dX11_normal_24 : decode cX11_normal 24 = .ok (.lreturn, 1) := by decide +kernel
theorem dX11_normal_25 : decode cX11_normal 25 = .ok (.aload_n 0, 1) := by decide +kernel
theorem dX11_normal_26 : decode cX11_normal 26 = .ok (.iload_n 1, 1) := by decide +kernel
theorem dX11_normal_27 : decode cX11_normal 27 = .ok (.aload_n 0, 1) := by decide +kernel
theorem dX11_normal_28 : decode cX11_normal 28 = .ok (.getfield 23, 3) := by decide +kernel
theorem dX11_normal_31 : decode cX11_normal 31 = .ok (.invokevirtual 188, 3) := by decide +kernel
theorem dX11_normal_34 : decode cX11_normal 34 = .ok (.aload_n 0, 1) := by decide +kernel
theorem dX11_normal_35 : decode cX11_normal 35 = .ok (.aload_n 0, 1) := by decide +kernel
theorem dX11_normal_36 : decode cX11_normal 36 = .ok (.getfield 38, 3) := by decide +kernel
theorem dX11_normal_39 : decode cX11_normal 39 = .ok (.iload_n 2, 1) := by decide +kernel
theorem dX11_normal_40 : decode cX11_normal 40 = .ok (.i2l, 1) := by decide +kernel
theorem dX11_normal_41 : decode cX11_normal 41 = .ok (.iload_n 3, 1) := by decide +kernel
theorem dX11_normal_42 : decode cX11_normal 42 = .ok (.i2l, 1) := by decide +kernel
theorem dX11_normal_43 : decode cX11_normal 43 = .ok (.iload 4, 2) := by decide +kernel
theorem dX11_normal_45 : decode cX11_normal 45 = .ok (.i2l, 1) := by decide +kernel
theorem dX11_normal_46 : decode cX11_normal 46 = .ok (.aload_n 0, 1) := by decide +kernel
theorem dX11_normal_47 : decode cX11_normal 47 = .ok (.iload_n 1, 1) := by decide +kernel
theorem dX11_normal_48 : decode cX11_normal 48 = .ok (.invokevirtual 162, 3) := by decide +kernel
theorem dX11_normal_51 : decode cX11_normal 51 = .ok (.invokevirtual 184, 3) := by decide +kernel
theorem dX11_normal_54 : decode cX11_normal 54 = .ok (.aload_n 0, 1) := by decide +kernel
theorem dX11_normal_55 : decode cX11_normal 55 = .ok (.getfield 38, 3) := by decide +kernel
theorem dX11_normal_58 : decode cX11_normal 58 = .ok (.aload_n 0, 1) := by decide +kernel
theorem dX11_normal_59 : decode cX11_normal 59 = .ok (.getfield 23, 3) := by decide +kernel
theorem dX11_normal_62 : decode cX11_normal 62 = .ok (.iconst 0, 1) := by decide +kernel
theorem dX11_normal_63 : decode cX11_normal 63 = .ok (.aload_n 0, 1) := by decide +kernel
theorem dX11_normal_64 : decode cX11_normal 64 = .ok (.iload_n 1, 1) := by decide +kernel
theorem dX11_normal_65 : decode cX11_normal 65 = .ok (.invokevirtual 162, 3) := by decide +kernel
theorem dX11_normal_68 : decode cX11_normal 68 = .ok (.invokestatic 195, 3) := by decide +kernel
theorem dX11_normal_71 : decode cX11_normal 71 = .ok (.aload_n 0, 1) := by decide +kernel
theorem dX11_normal_72 : decode cX11_normal 72 = .ok (.getfield 38, 3) := by decide +kernel
theorem dX11_normal_75 : decode cX11_normal 75 = .ok (.iload 5, 2) := by decide +kernel
theorem dX11_normal_77 : decode cX11_normal 77 = .ok (.laload, 1) := by decide +kernel
theorem dX11_normal_78 : decode cX11_normal 78 = .ok (.lreturn, 1) := by decide +kernel
theorem dX11_order_0 : decode cX11_order 0 = .ok (.iload_n 1, 1) := by decide +kernel
theorem dX11_order_1 : decode cX11_order 1 = .ok (.invokestatic 207, 3) := by decide +kernel
theorem dX11_order_4 : decode cX11_order 4 = .ok (.ifCond .eq 13, 3) := by decide +kernel
theorem dX11_order_7 : decode cX11_order 7 = .ok (.iload_n 2, 1) := by decide +kernel
theorem dX11_order_8 : decode cX11_order 8 = .ok (.iload_n 3, 1) := by decide +kernel
theorem dX11_order_9 : decode cX11_order 9 = .ok (.iload 4, 2) := by decide +kernel
theorem dX11_order_11 : decode cX11_order 11 = .ok (.invokestatic 267, 3) := by decide +kernel
theorem dX11_order_14 : decode cX11_order 14 = .ok (.ifCond .ne 5, 3) := by decide +kernel
theorem dX11_order_17 : decode cX11_order 17 = .ok (.iconst (-1), 1) := by decide +kernel
theorem dX11_order_18 : decode cX11_order 18 = .ok (.ireturn, 1) := by decide +kernel
theorem dX11_order_19 : decode cX11_order 19 = .ok (.aload_n 0, 1) := by decide +kernel
theorem dX11_order_20 : decode cX11_order 20 = .ok (.iload_n 1, 1) := by decide +kernel
theorem dX11_order_21 : decode cX11_order 21 = .ok (.aload_n 0, 1) := by decide +kernel
theorem dX11_order_22 : decode cX11_order 22 = .ok (.getfield 23, 3) := by decide +kernel
theorem dX11_order_25 : decode cX11_order 25 = .ok (.invokevirtual 188, 3) := by decide +kernel
theorem dX11_order_28 : decode cX11_order 28 = .ok (.aload_n 0, 1) := by decide +kernel
theorem dX11_order_29 : decode cX11_order 29 = .ok (.aload_n 0, 1) := by decide +kernel
theorem dX11_order_30 : decode cX11_order 30 = .ok (.getfield 38, 3) := by decide +kernel
theorem dX11_order_33 : decode cX11_order 33 = .ok (.iload_n 2, 1) := by decide +kernel
theorem dX11_order_34 : decode cX11_order 34 = .ok (.i2l, 1) := by decide +kernel
theorem dX11_order_35 : decode cX11_order 35 = .ok (.iload_n 3, 1) := by decide +kernel
theorem dX11_order_36 : decode cX11_order 36 = .ok (.i2l, 1) := by decide +kernel
theorem dX11_order_37 : decode cX11_order 37 = .ok (.iload 4, 2) := by decide +kernel
theorem dX11_order_39 : decode cX11_order 39 = .ok (.i2l, 1) := by decide +kernel
theorem dX11_order_40 : decode cX11_order 40 = .ok (.aload_n 0, 1) := by decide +kernel
theorem dX11_order_41 : decode cX11_order 41 = .ok (.iload_n 1, 1) := by decide +kernel
theorem dX11_order_42 : decode cX11_order 42 = .ok (.invokevirtual 162, 3) := by decide +kernel
theorem dX11_order_45 : decode cX11_order 45 = .ok (.invokevirtual 184, 3) := by decide +kernel
theorem dX11_order_48 : decode cX11_order 48 = .ok (.lconst 1, 1) := by decide +kernel
theorem dX11_order_49 : decode cX11_order 49 = .ok (.lstore 5, 2) := by decide +kernel
theorem dX11_order_51 : decode cX11_order 51 = .ok (.iconst 0, 1) := by decide +kernel
theorem dX11_order_52 : decode cX11_order 52 = .ok (.istore 7, 2) := by decide +kernel
theorem dX11_order_54 : decode cX11_order 54 = .ok (.iload 7, 2) := by decide +kernel
theorem dX11_order_56 : decode cX11_order 56 = .ok (.aload_n 0, 1) := by decide +kernel
theorem dX11_order_57 : decode cX11_order 57 = .ok (.iload_n 1, 1) := by decide +kernel
theorem dX11_order_58 : decode cX11_order 58 = .ok (.invokevirtual 162, 3) := by decide +kernel
theorem dX11_order_61 : decode cX11_order 61 = .ok (.if_icmp .ge 140, 3) := by decide +kernel
theorem dX11_order_64 : decode cX11_order 64 = .ok (.aload_n 0, 1) := by decide +kernel
theorem dX11_order_65 : decode cX11_order 65 = .ok (.getfield 38, 3) := by decide +kernel
theorem dX11_order_68 : decode cX11_order 68 = .ok (.aload_n 0, 1) := by decide +kernel
theorem dX11_order_69 : decode cX11_order 69 = .ok (.getfield 23, 3) := by decide +kernel
theorem dX11_order_72 : decode cX11_order 72 = .ok (.iconst 0, 1) := by decide +kernel
theorem dX11_order_73 : decode cX11_order 73 = .ok (.aload_n 0, 1) := by decide +kernel
theorem dX11_order_74 : decode cX11_order 74 = .ok (.iload_n 1, 1) := by decide +kernel
theorem dX11_order_75 : decode cX11_order 75 = .ok (.invokevirtual 162, 3) := by decide +kernel
theorem dX11_order_78 : decode cX11_order 78 = .ok (.invokestatic 195, 3) := by decide +kernel
theorem dX11_order_81 : decode cX11_order 81 = .ok (.aload_n 0, 1) := by decide +kernel
theorem dX11_order_82 : decode cX11_order 82 = .ok (.getfield 23, 3) := by decide +kernel
theorem dX11_order_85 : decode cX11_order 85 = .ok (.bipush 7, 2) := by decide +kernel
theorem dX11_order_87 : decode cX11_order 87 = .ok (.iload 7, 2) := by decide +kernel
theorem dX11_order_89 : decode cX11_order 89 = .ok (.imul, 1) := by decide +kernel
theorem dX11_order_90 : decode cX11_order 90 = .ok (.laload, 1) := by decide +kernel
theorem dX11_order_91 : decode cX11_order 91 = .ok (.lstore 8, 2) := by decide +kernel
theorem dX11_order_93 : decode cX11_order 93 = .ok (.lload 8, 2) := by decide +kernel
theorem dX11_order_95 : decode cX11_order 95 = .ok (.lconst 0, 1) := by decide +kernel
theorem dX11_order_96 : decode cX11_order 96 = .ok (.lcmp, 1) := by decide +kernel
theorem dX11_order_97 : decode cX11_order 97 = .ok (.ifCond .ne 17, 3) := by decide +kernel
theorem dX11_order_100 : decode cX11_order 100 = .ok (.aload_n 0, 1) := by decide +kernel
theorem dX11_order_101 : decode cX11_order 101 = .ok (.getfield 38, 3) := by decide +kernel
theorem dX11_order_104 : decode cX11_order 104 = .ok (.iload 7, 2) := by decide +kernel
theorem dX11_order_106 : decode cX11_order 106 = .ok (.laload, 1) := by decide +kernel
theorem dX11_order_107 : decode cX11_order 107 = .ok (.lconst 0, 1) := by decide +kernel
theorem dX11_order_108 : decode cX11_order 108 = .ok (.lcmp, 1) := by decide +kernel
theorem dX11_order_109 : decode cX11_order 109 = .ok (.ifCond .eq 5, 3) := by decide +kernel
theorem dX11_order_112 : decode cX11_order 112 = .ok (.iconst 0, 1) := by decide +kernel
theorem dX11_order_113 : decode cX11_order 113 = .ok (.ireturn, 1) := by decide +kernel
theorem dX11_order_114 : decode cX11_order 114 = .ok (.lload 8, 2) := by decide +kernel
theorem dX11_order_116 : decode cX11_order 116 = .ok (.lconst 0, 1) := by decide +kernel
theorem dX11_order_117 : decode cX11_order 117 = .ok (.lcmp, 1) := by decide +kernel
theorem dX11_order_118 : decode cX11_order 118 = .ok (.ifCond .ne 7, 3) := by decide +kernel
theorem dX11_order_121 : decode cX11_order 121 = .ok (.lconst 1, 1) := by decide +kernel
theorem dX11_order_122 : decode cX11_order 122 = .ok (.goto 18, 3) := by decide +kernel
theorem dX11_order_125 : decode cX11_order 125 = .ok (.lload 8, 2) := by decide +kernel
theorem dX11_order_127 : decode cX11_order 127 = .ok (.lload 8, 2) := by decide +kernel
theorem dX11_order_129 : decode cX11_order 129 = .ok (.aload_n 0, 1) := by decide +kernel
theorem dX11_order_130 : decode cX11_order 130 = .ok (.getfield 38, 3) := by decide +kernel
theorem dX11_order_133 : decode cX11_order 133 = .ok (.iload 7, 2) := by decide +kernel
theorem dX11_order_135 : decode cX11_order 135 = .ok (.laload, 1) := by decide +kernel
theorem dX11_order_136 : decode cX11_order 136 = .ok (.invokestatic 248, 3) := by decide +kernel
theorem dX11_order_139 : decode cX11_order 139 = .ok (.ldiv, 1) := by decide +kernel
theorem dX11_order_140 : decode cX11_order 140 = .ok (.lstore 10, 2) := by decide +kernel
theorem dX11_order_142 : decode cX11_order 142 = .ok (.lload 5, 2) := by decide +kernel
theorem dX11_order_144 : decode cX11_order 144 = .ok (.lload 10, 2) := by decide +kernel
theorem dX11_order_146 : decode cX11_order 146 = .ok (.lmul, 1) := by decide +kernel
theorem dX11_order_147 : decode cX11_order 147 = .ok (.lstore 5, 2) := by decide +kernel
theorem dX11_order_149 : decode cX11_order 149 = .ok (.iconst 0, 1) := by decide +kernel
theorem dX11_order_150 : decode cX11_order 150 = .ok (.istore 12, 2) := by decide +kernel
theorem dX11_order_152 : decode cX11_order 152 = .ok (.iload 12, 2) := by decide +kernel
theorem dX11_order_154 : decode cX11_order 154 = .ok (.bipush 6, 2) := by decide +kernel
theorem dX11_order_156 : decode cX11_order 156 = .ok (.if_icmp .ge 21, 3) := by decide +kernel
theorem dX11_order_159 : decode cX11_order 159 = .ok (.aload_n 0, 1) := by decide +kernel
theorem dX11_order_160 : decode cX11_order 160 = .ok (.getfield 38, 3) := by decide +kernel
theorem dX11_order_163 : decode cX11_order 163 = .ok (.iload 12, 2) := by decide +kernel
theorem dX11_order_165 : decode cX11_order 165 = .ok (.dup2, 1) := by decide +kernel
theorem dX11_order_166 : decode cX11_order 166 = .ok (.laload, 1) := by decide +kernel
theorem dX11_order_167 : decode cX11_order 167 = .ok (.lload 10, 2) := by decide +kernel
theorem dX11_order_169 : decode cX11_order 169 = .ok (.lmul, 1) := by decide +kernel
theorem dX11_order_170 : decode cX11_order 170 = .ok (.lastore, 1) := by decide +kernel
theorem dX11_order_171 : decode cX11_order 171 = .ok (.iinc 12 1, 3) := by decide +kernel
theorem dX11_order_174 : decode cX11_order 174 = .ok (.goto (-22), 3) := by decide +kernel
theorem dX11_order_177 : decode cX11_order 177 = .ok (.aload_n 0, 1) := by decide +kernel
theorem dX11_order_178 : decode cX11_order 178 = .ok (.getfield 38, 3) := by decide +kernel
theorem dX11_order_181 : decode cX11_order 181 = .ok (.aload_n 0, 1) := by decide +kernel
theorem dX11_order_182 : decode cX11_order 182 = .ok (.getfield 23, 3) := by decide +kernel
theorem dX11_order_185 : decode cX11_order 185 = .ok (.iload 7, 2) := by decide +kernel
theorem dX11_order_187 : decode cX11_order 187 = .ok (.aload_n 0, 1) := by decide +kernel
theorem dX11_order_188 : decode cX11_order 188 = .ok (.iload_n 1, 1) := by decide +kernel
theorem dX11_order_189 : decode cX11_order 189 = .ok (.invokevirtual 162, 3) := by decide +kernel
theorem dX11_order_192 : decode cX11_order 192 = .ok (.invokestatic 195, 3) := by decide +kernel
theorem dX11_order_195 : decode cX11_order 195 = .ok (.iinc 7 1, 3) := by decide +kernel
theorem dX11_order_198 : decode cX11_order 198 = .ok (.goto (-144), 3) := by decide +kernel
theorem dX11_order_201 : decode cX11_order 201 = .ok (.lload 5, 2) := by decide +kernel
theorem dX11_order_203 : decode cX11_order 203 = .ok (.l2i, 1) := by decide +kernel
theorem dX11_order_204 : decode cX11_order 204 = .ok (.ireturn, 1) := by decide +kernel
theorem dX11_keepsRings_0 : decode cX11_keepsRings 0 = .ok (.aload_n 0, 1) := by decide +kernel
theorem dX11_keepsRings_1 : decode cX11_keepsRings 1 = .ok (.iload_n 1, 1) := by decide +kernel
theorem dX11_keepsRings_2 : decode cX11_keepsRings 2 = .ok (.invokevirtual 258, 3) := by decide +kernel
theorem dX11_keepsRings_5 : decode cX11_keepsRings 5 = .ok (.aload_n 0, 1) := by decide +kernel
theorem dX11_keepsRings_6 : decode cX11_keepsRings 6 = .ok (.aload_n 0, 1) := by decide +kernel
theorem dX11_keepsRings_7 : decode cX11_keepsRings 7 = .ok (.getfield 236, 3) := by decide +kernel
theorem dX11_keepsRings_10 : decode cX11_keepsRings 10 = .ok (.putfield 275, 3) := by decide +kernel
theorem dX11_keepsRings_13 : decode cX11_keepsRings 13 = .ok (.iconst 0, 1) := by decide +kernel
theorem dX11_keepsRings_14 : decode cX11_keepsRings 14 = .ok (.istore_n 2, 1) := by decide +kernel
theorem dX11_keepsRings_15 : decode cX11_keepsRings 15 = .ok (.iload_n 2, 1) := by decide +kernel
theorem dX11_keepsRings_16 : decode cX11_keepsRings 16 = .ok (.aload_n 0, 1) := by decide +kernel
theorem dX11_keepsRings_17 : decode cX11_keepsRings 17 = .ok (.getfield 236, 3) := by decide +kernel
theorem dX11_keepsRings_20 : decode cX11_keepsRings 20 = .ok (.if_icmp .ge 21, 3) := by decide +kernel
theorem dX11_keepsRings_23 : decode cX11_keepsRings 23 = .ok (.aload_n 0, 1) := by decide +kernel
theorem dX11_keepsRings_24 : decode cX11_keepsRings 24 = .ok (.getfield 50, 3) := by decide +kernel
theorem dX11_keepsRings_27 : decode cX11_keepsRings 27 = .ok (.iload_n 2, 1) := by decide +kernel
theorem dX11_keepsRings_28 : decode cX11_keepsRings 28 = .ok (.aload_n 0, 1) := by decide +kernel
theorem dX11_keepsRings_29 : decode cX11_keepsRings 29 = .ok (.getfield 47, 3) := by decide +kernel
theorem dX11_keepsRings_32 : decode cX11_keepsRings 32 = .ok (.iload_n 2, 1) := by decide +kernel
theorem dX11_keepsRings_33 : decode cX11_keepsRings 33 = .ok (.laload, 1) := by decide +kernel
theorem dX11_keepsRings_34 : decode cX11_keepsRings 34 = .ok (.lastore, 1) := by decide +kernel
theorem dX11_keepsRings_35 : decode cX11_keepsRings 35 = .ok (.iinc 2 1, 3) := by decide +kernel
theorem dX11_keepsRings_38 : decode cX11_keepsRings 38 = .ok (.goto (-23), 3) := by decide +kernel
theorem dX11_keepsRings_41 : decode cX11_keepsRings 41 = .ok (.return_, 1) := by decide +kernel
theorem dX11_same_0 : decode cX11_same 0 = .ok (.iload_n 1, 1) := by decide +kernel
theorem dX11_same_1 : decode cX11_same 1 = .ok (.invokestatic 207, 3) := by decide +kernel
theorem dX11_same_4 : decode cX11_same 4 = .ok (.ifCond .eq 10, 3) := by decide +kernel
theorem dX11_same_7 : decode cX11_same 7 = .ok (.iload_n 2, 1) := by decide +kernel
theorem dX11_same_8 : decode cX11_same 8 = .ok (.invokestatic 207, 3) := by decide +kernel
theorem dX11_same_11 : decode cX11_same 11 = .ok (.ifCond .ne 5, 3) := by decide +kernel
theorem dX11_same_14 : decode cX11_same 14 = .ok (.iconst (-1), 1) := by decide +kernel
theorem dX11_same_15 : decode cX11_same 15 = .ok (.ireturn, 1) := by decide +kernel
theorem dX11_same_16 : decode cX11_same 16 = .ok (.aload_n 0, 1) := by decide +kernel
theorem dX11_same_17 : decode cX11_same 17 = .ok (.iload_n 1, 1) := by decide +kernel
theorem dX11_same_18 : decode cX11_same 18 = .ok (.invokevirtual 278, 3) := by decide +kernel
theorem dX11_same_21 : decode cX11_same 21 = .ok (.aload_n 0, 1) := by decide +kernel
theorem dX11_same_22 : decode cX11_same 22 = .ok (.invokevirtual 254, 3) := by decide +kernel
theorem dX11_same_25 : decode cX11_same 25 = .ok (.istore_n 3, 1) := by decide +kernel
theorem dX11_same_26 : decode cX11_same 26 = .ok (.aload_n 0, 1) := by decide +kernel
theorem dX11_same_27 : decode cX11_same 27 = .ok (.iload_n 2, 1) := by decide +kernel
theorem dX11_same_28 : decode cX11_same 28 = .ok (.invokevirtual 258, 3) := by decide +kernel
theorem dX11_same_31 : decode cX11_same 31 = .ok (.iload_n 3, 1) := by decide +kernel
theorem dX11_same_32 : decode cX11_same 32 = .ok (.aload_n 0, 1) := by decide +kernel
theorem dX11_same_33 : decode cX11_same 33 = .ok (.invokevirtual 254, 3) := by decide +kernel
theorem dX11_same_36 : decode cX11_same 36 = .ok (.if_icmp .ne 7, 3) := by decide +kernel
theorem dX11_same_39 : decode cX11_same 39 = .ok (.iconst 1, 1) := by decide +kernel
theorem dX11_same_40 : decode cX11_same 40 = .ok (.goto 4, 3) := by decide +kernel
theorem dX11_same_43 : decode cX11_same 43 = .ok (.iconst 0, 1) := by decide +kernel
theorem dX11_same_44 : decode cX11_same 44 = .ok (.istore 4, 2) := by decide +kernel
theorem dX11_same_46 : decode cX11_same 46 = .ok (.iconst 0, 1) := by decide +kernel
theorem dX11_same_47 : decode cX11_same 47 = .ok (.istore 5, 2) := by decide +kernel
theorem dX11_same_49 : decode cX11_same 49 = .ok (.iload 5, 2) := by decide +kernel
theorem dX11_same_51 : decode cX11_same 51 = .ok (.iload_n 3, 1) := by decide +kernel
theorem dX11_same_52 : decode cX11_same 52 = .ok (.if_icmp .ge 53, 3) := by decide +kernel
theorem dX11_same_55 : decode cX11_same 55 = .ok (.iload 4, 2) := by decide +kernel
theorem dX11_same_57 : decode cX11_same 57 = .ok (.ifCond .eq 48, 3) := by decide +kernel
theorem dX11_same_60 : decode cX11_same 60 = .ok (.aload_n 0, 1) := by decide +kernel
theorem dX11_same_61 : decode cX11_same 61 = .ok (.getfield 50, 3) := by decide +kernel
theorem dX11_same_64 : decode cX11_same 64 = .ok (.aload_n 0, 1) := by decide +kernel
theorem dX11_same_65 : decode cX11_same 65 = .ok (.getfield 275, 3) := by decide +kernel
theorem dX11_same_68 : decode cX11_same 68 = .ok (.iconst 1, 1) := by decide +kernel
theorem dX11_same_69 : decode cX11_same 69 = .ok (.isub, 1) := by decide +kernel
theorem dX11_same_70 : decode cX11_same 70 = .ok (.iload 5, 2) := by decide +kernel
theorem dX11_same_72 : decode cX11_same 72 = .ok (.isub, 1) := by decide +kernel
theorem dX11_same_73 : decode cX11_same 73 = .ok (.laload, 1) := by decide +kernel
theorem dX11_same_74 : decode cX11_same 74 = .ok (.aload_n 0, 1) := by decide +kernel
theorem dX11_same_75 : decode cX11_same 75 = .ok (.getfield 47, 3) := by decide +kernel
theorem dX11_same_78 : decode cX11_same 78 = .ok (.aload_n 0, 1) := by decide +kernel
theorem dX11_same_79 : decode cX11_same 79 = .ok (.getfield 236, 3) := by decide +kernel
theorem dX11_same_82 : decode cX11_same 82 = .ok (.iconst 1, 1) := by decide +kernel
theorem dX11_same_83 : decode cX11_same 83 = .ok (.isub, 1) := by decide +kernel
theorem dX11_same_84 : decode cX11_same 84 = .ok (.iload 5, 2) := by decide +kernel
theorem dX11_same_86 : decode cX11_same 86 = .ok (.isub, 1) := by decide +kernel
theorem dX11_same_87 : decode cX11_same 87 = .ok (.laload, 1) := by decide +kernel
theorem dX11_same_88 : decode cX11_same 88 = .ok (.lcmp, 1) := by decide +kernel
theorem dX11_same_89 : decode cX11_same 89 = .ok (.ifCond .ne 7, 3) := by decide +kernel
theorem dX11_same_92 : decode cX11_same 92 = .ok (.iconst 1, 1) := by decide +kernel
theorem dX11_same_93 : decode cX11_same 93 = .ok (.goto 4, 3) := by decide +kernel
theorem dX11_same_96 : decode cX11_same 96 = .ok (.iconst 0, 1) := by decide +kernel
theorem dX11_same_97 : decode cX11_same 97 = .ok (.istore 4, 2) := by decide +kernel
theorem dX11_same_99 : decode cX11_same 99 = .ok (.iinc 5 1, 3) := by decide +kernel
theorem dX11_same_102 : decode cX11_same 102 = .ok (.goto (-53), 3) := by decide +kernel
theorem dX11_same_105 : decode cX11_same 105 = .ok (.iload 4, 2) := by decide +kernel
theorem dX11_same_107 : decode cX11_same 107 = .ok (.ifCond .eq 7, 3) := by decide +kernel
theorem dX11_same_110 : decode cX11_same 110 = .ok (.iconst 1, 1) := by decide +kernel
theorem dX11_same_111 : decode cX11_same 111 = .ok (.goto 4, 3) := by decide +kernel
theorem dX11_same_114 : decode cX11_same 114 = .ok (.iconst 0, 1) := by decide +kernel
theorem dX11_same_115 : decode cX11_same 115 = .ok (.ireturn, 1) := by decide +kernel
theorem dX11_pair_0 : decode cX11_pair 0 = .ok (.lload_n 1, 1) := by decide +kernel
theorem dX11_pair_1 : decode cX11_pair 1 = .ok (.lconst 0, 1) := by decide +kernel
theorem dX11_pair_2 : decode cX11_pair 2 = .ok (.lcmp, 1) := by decide +kernel
theorem dX11_pair_3 : decode cX11_pair 3 = .ok (.ifCond .eq 9, 3) := by decide +kernel
theorem dX11_pair_6 : decode cX11_pair 6 = .ok (.lload_n 3, 1) := by decide +kernel
theorem dX11_pair_7 : decode cX11_pair 7 = .ok (.lconst 0, 1) := by decide +kernel
theorem dX11_pair_8 : decode cX11_pair 8 = .ok (.lcmp, 1) := by decide +kernel
theorem dX11_pair_9 : decode cX11_pair 9 = .ok (.ifCond .ne 7, 3) := by decide +kernel
theorem dX11_pair_12 : decode cX11_pair 12 = .ok (.iconst 1, 1) := by decide +kernel
theorem dX11_pair_13 : decode cX11_pair 13 = .ok (.goto 4, 3) := by decide +kernel
theorem dX11_pair_16 : decode cX11_pair 16 = .ok (.iconst 0, 1) := by decide +kernel
theorem dX11_pair_17 : decode cX11_pair 17 = .ok (.istore 5, 2) := by decide +kernel
theorem dX11_pair_19 : decode cX11_pair 19 = .ok (.iload_n 0, 1) := by decide +kernel
theorem dX11_pair_20 : decode cX11_pair 20 = .ok (.tableswitch 95 0 2 #[28, 54, 80], 28) := by decide +kernel
theorem dX11_pair_48 : decode cX11_pair 48 = .ok (.lload_n 1, 1) := by decide +kernel
theorem dX11_pair_49 : decode cX11_pair 49 = .ok (.lconst 0, 1) := by decide +kernel
theorem dX11_pair_50 : decode cX11_pair 50 = .ok (.lcmp, 1) := by decide +kernel
theorem dX11_pair_51 : decode cX11_pair 51 = .ok (.ifCond .ne 7, 3) := by decide +kernel
theorem dX11_pair_54 : decode cX11_pair 54 = .ok (.lload_n 3, 1) := by decide +kernel
theorem dX11_pair_55 : decode cX11_pair 55 = .ok (.goto 18, 3) := by decide +kernel
theorem dX11_pair_58 : decode cX11_pair 58 = .ok (.lload_n 3, 1) := by decide +kernel
theorem dX11_pair_59 : decode cX11_pair 59 = .ok (.lconst 0, 1) := by decide +kernel
theorem dX11_pair_60 : decode cX11_pair 60 = .ok (.lcmp, 1) := by decide +kernel
theorem dX11_pair_61 : decode cX11_pair 61 = .ok (.ifCond .ne 7, 3) := by decide +kernel
theorem dX11_pair_64 : decode cX11_pair 64 = .ok (.lconst 1, 1) := by decide +kernel
theorem dX11_pair_65 : decode cX11_pair 65 = .ok (.goto 8, 3) := by decide +kernel
theorem dX11_pair_68 : decode cX11_pair 68 = .ok (.lload_n 1, 1) := by decide +kernel
theorem dX11_pair_69 : decode cX11_pair 69 = .ok (.lload_n 3, 1) := by decide +kernel
theorem dX11_pair_70 : decode cX11_pair 70 = .ok (.invokestatic 248, 3) := by decide +kernel
theorem dX11_pair_73 : decode cX11_pair 73 = .ok (.lreturn, 1) := by decide +kernel
theorem dX11_pair_74 : decode cX11_pair 74 = .ok (.lload_n 1, 1) := by decide +kernel
theorem dX11_pair_75 : decode cX11_pair 75 = .ok (.lconst 0, 1) := by decide +kernel
theorem dX11_pair_76 : decode cX11_pair 76 = .ok (.lcmp, 1) := by decide +kernel
theorem dX11_pair_77 : decode cX11_pair 77 = .ok (.ifCond .ne 7, 3) := by decide +kernel
theorem dX11_pair_80 : decode cX11_pair 80 = .ok (.lload_n 3, 1) := by decide +kernel
theorem dX11_pair_81 : decode cX11_pair 81 = .ok (.goto 18, 3) := by decide +kernel
theorem dX11_pair_84 : decode cX11_pair 84 = .ok (.lload_n 3, 1) := by decide +kernel
theorem dX11_pair_85 : decode cX11_pair 85 = .ok (.lconst 0, 1) := by decide +kernel
theorem dX11_pair_86 : decode cX11_pair 86 = .ok (.lcmp, 1) := by decide +kernel
theorem dX11_pair_87 : decode cX11_pair 87 = .ok (.ifCond .ne 7, 3) := by decide +kernel
theorem dX11_pair_90 : decode cX11_pair 90 = .ok (.lload_n 1, 1) := by decide +kernel
theorem dX11_pair_91 : decode cX11_pair 91 = .ok (.goto 8, 3) := by decide +kernel
theorem dX11_pair_94 : decode cX11_pair 94 = .ok (.lload_n 1, 1) := by decide +kernel
theorem dX11_pair_95 : decode cX11_pair 95 = .ok (.lload_n 3, 1) := by decide +kernel
theorem dX11_pair_96 : decode cX11_pair 96 = .ok (.invokestatic 248, 3) := by decide +kernel
theorem dX11_pair_99 : decode cX11_pair 99 = .ok (.lreturn, 1) := by decide +kernel
theorem dX11_pair_100 : decode cX11_pair 100 = .ok (.iload 5, 2) := by decide +kernel
theorem dX11_pair_102 : decode cX11_pair 102 = .ok (.ifCond .eq 7, 3) := by decide +kernel
theorem dX11_pair_105 : decode cX11_pair 105 = .ok (.lconst 1, 1) := by decide +kernel
theorem dX11_pair_106 : decode cX11_pair 106 = .ok (.goto 8, 3) := by decide +kernel
theorem dX11_pair_109 : decode cX11_pair 109 = .ok (.lload_n 1, 1) := by decide +kernel
theorem dX11_pair_110 : decode cX11_pair 110 = .ok (.lload_n 3, 1) := by decide +kernel
theorem dX11_pair_111 : decode cX11_pair 111 = .ok (.invokestatic 248, 3) := by decide +kernel
theorem dX11_pair_114 : decode cX11_pair 114 = .ok (.lreturn, 1) := by decide +kernel
theorem dX11_pair_115 : decode cX11_pair 115 = .ok (.lload_n 1, 1) := by decide +kernel
theorem dX11_pair_116 : decode cX11_pair 116 = .ok (.lconst 0, 1) := by decide +kernel
theorem dX11_pair_117 : decode cX11_pair 117 = .ok (.lcmp, 1) := by decide +kernel
theorem dX11_pair_118 : decode cX11_pair 118 = .ok (.ifCond .ne 7, 3) := by decide +kernel
theorem dX11_pair_121 : decode cX11_pair 121 = .ok (.lconst 1, 1) := by decide +kernel
theorem dX11_pair_122 : decode cX11_pair 122 = .ok (.goto 18, 3) := by decide +kernel
theorem dX11_pair_125 : decode cX11_pair 125 = .ok (.lload_n 3, 1) := by decide +kernel
theorem dX11_pair_126 : decode cX11_pair 126 = .ok (.lconst 0, 1) := by decide +kernel
theorem dX11_pair_127 : decode cX11_pair 127 = .ok (.lcmp, 1) := by decide +kernel
theorem dX11_pair_128 : decode cX11_pair 128 = .ok (.ifCond .ne 7, 3) := by decide +kernel
theorem dX11_pair_131 : decode cX11_pair 131 = .ok (.lload_n 1, 1) := by decide +kernel
theorem dX11_pair_132 : decode cX11_pair 132 = .ok (.goto 8, 3) := by decide +kernel
theorem dX11_pair_135 : decode cX11_pair 135 = .ok (.lload_n 1, 1) := by decide +kernel
theorem dX11_pair_136 : decode cX11_pair 136 = .ok (.lload_n 3, 1) := by decide +kernel
theorem dX11_pair_137 : decode cX11_pair 137 = .ok (.invokestatic 248, 3) := by decide +kernel
theorem dX11_pair_140 : decode cX11_pair 140 = .ok (.lreturn, 1) := by decide +kernel
theorem dX11_pairsOf_0 : decode cX11_pairsOf 0 = .ok (.iload_n 1, 1) := by decide +kernel
theorem dX11_pairsOf_1 : decode cX11_pairsOf 1 = .ok (.iconst 4, 1) := by decide +kernel
theorem dX11_pairsOf_2 : decode cX11_pairsOf 2 = .ok (.if_icmp .ne 15, 3) := by decide +kernel
theorem dX11_pairsOf_5 : decode cX11_pairsOf 5 = .ok (.aload_n 0, 1) := by decide +kernel
theorem dX11_pairsOf_6 : decode cX11_pairsOf 6 = .ok (.getfield 275, 3) := by decide +kernel
theorem dX11_pairsOf_9 : decode cX11_pairsOf 9 = .ok (.aload_n 0, 1) := by decide +kernel
theorem dX11_pairsOf_10 : decode cX11_pairsOf 10 = .ok (.getfield 236, 3) := by decide +kernel
theorem dX11_pairsOf_13 : decode cX11_pairsOf 13 = .ok (.iadd, 1) := by decide +kernel
theorem dX11_pairsOf_14 : decode cX11_pairsOf 14 = .ok (.goto 12, 3) := by decide +kernel
theorem dX11_pairsOf_17 : decode cX11_pairsOf 17 = .ok (.aload_n 0, 1) := by decide +kernel
theorem dX11_pairsOf_18 : decode cX11_pairsOf 18 = .ok (.getfield 275, 3) := by decide +kernel
theorem dX11_pairsOf_21 : decode cX11_pairsOf 21 = .ok (.aload_n 0, 1) := by decide +kernel
theorem dX11_pairsOf_22 : decode cX11_pairsOf 22 = .ok (.getfield 236, 3) := by decide +kernel
theorem dX11_pairsOf_25 : decode cX11_pairsOf 25 = .ok (.imul, 1) := by decide +kernel
theorem dX11_pairsOf_26 : decode cX11_pairsOf 26 = .ok (.istore_n 2, 1) := by decide +kernel
theorem dX11_pairsOf_27 : decode cX11_pairsOf 27 = .ok (.iconst 0, 1) := by decide +kernel
theorem dX11_pairsOf_28 : decode cX11_pairsOf 28 = .ok (.istore_n 3, 1) := by decide +kernel
theorem dX11_pairsOf_29 : decode cX11_pairsOf 29 = .ok (.iload_n 3, 1) := by decide +kernel
theorem dX11_pairsOf_30 : decode cX11_pairsOf 30 = .ok (.iload_n 2, 1) := by decide +kernel
theorem dX11_pairsOf_31 : decode cX11_pairsOf 31 = .ok (.if_icmp .ge 77, 3) := by decide +kernel
theorem dX11_pairsOf_34 : decode cX11_pairsOf 34 = .ok (.aload_n 0, 1) := by decide +kernel
theorem dX11_pairsOf_35 : decode cX11_pairsOf 35 = .ok (.getfield 53, 3) := by decide +kernel
theorem dX11_pairsOf_38 : decode cX11_pairsOf 38 = .ok (.iload_n 3, 1) := by decide +kernel
theorem dX11_pairsOf_39 : decode cX11_pairsOf 39 = .ok (.iload_n 1, 1) := by decide +kernel
theorem dX11_pairsOf_40 : decode cX11_pairsOf 40 = .ok (.iconst 4, 1) := by decide +kernel
theorem dX11_pairsOf_41 : decode cX11_pairsOf 41 = .ok (.if_icmp .ge 32, 3) := by decide +kernel
theorem dX11_pairsOf_44 : decode cX11_pairsOf 44 = .ok (.iload_n 1, 1) := by decide +kernel
theorem dX11_pairsOf_45 : decode cX11_pairsOf 45 = .ok (.aload_n 0, 1) := by decide +kernel
theorem dX11_pairsOf_46 : decode cX11_pairsOf 46 = .ok (.getfield 50, 3) := by decide +kernel
theorem dX11_pairsOf_49 : decode cX11_pairsOf 49 = .ok (.iload_n 3, 1) := by decide +kernel
theorem dX11_pairsOf_50 : decode cX11_pairsOf 50 = .ok (.aload_n 0, 1) := by decide +kernel
theorem dX11_pairsOf_51 : decode cX11_pairsOf 51 = .ok (.getfield 236, 3) := by decide +kernel
theorem dX11_pairsOf_54 : decode cX11_pairsOf 54 = .ok (.idiv, 1) := by decide +kernel
theorem dX11_pairsOf_55 : decode cX11_pairsOf 55 = .ok (.laload, 1) := by decide +kernel
theorem dX11_pairsOf_56 : decode cX11_pairsOf 56 = .ok (.aload_n 0, 1) := by decide +kernel
theorem dX11_pairsOf_57 : decode cX11_pairsOf 57 = .ok (.getfield 47, 3) := by decide +kernel
theorem dX11_pairsOf_60 : decode cX11_pairsOf 60 = .ok (.iload_n 3, 1) := by decide +kernel
theorem dX11_pairsOf_61 : decode cX11_pairsOf 61 = .ok (.aload_n 0, 1) := by decide +kernel
theorem dX11_pairsOf_62 : decode cX11_pairsOf 62 = .ok (.getfield 236, 3) := by decide +kernel
theorem dX11_pairsOf_65 : decode cX11_pairsOf 65 = .ok (.irem, 1) := by decide +kernel
theorem dX11_pairsOf_66 : decode cX11_pairsOf 66 = .ok (.laload, 1) := by decide +kernel
theorem dX11_pairsOf_67 : decode cX11_pairsOf 67 = .ok (.invokestatic 281, 3) := by decide +kernel
theorem dX11_pairsOf_70 : decode cX11_pairsOf 70 = .ok (.goto 31, 3) := by decide +kernel
theorem dX11_pairsOf_73 : decode cX11_pairsOf 73 = .ok (.iload_n 3, 1) := by decide +kernel
theorem dX11_pairsOf_74 : decode cX11_pairsOf 74 = .ok (.aload_n 0, 1) := by decide +kernel
theorem dX11_pairsOf_75 : decode cX11_pairsOf 75 = .ok (.getfield 275, 3) := by decide +kernel
theorem dX11_pairsOf_78 : decode cX11_pairsOf 78 = .ok (.if_icmp .ge 12, 3) := by decide +kernel
theorem dX11_pairsOf_81 : decode cX11_pairsOf 81 = .ok (.aload_n 0, 1) := by decide +kernel
theorem dX11_pairsOf_82 : decode cX11_pairsOf 82 = .ok (.getfield 50, 3) := by decide +kernel
theorem dX11_pairsOf_85 : decode cX11_pairsOf 85 = .ok (.iload_n 3, 1) := by decide +kernel
theorem dX11_pairsOf_86 : decode cX11_pairsOf 86 = .ok (.laload, 1) := by decide +kernel
theorem dX11_pairsOf_87 : decode cX11_pairsOf 87 = .ok (.goto 14, 3) := by decide +kernel
theorem dX11_pairsOf_90 : decode cX11_pairsOf 90 = .ok (.aload_n 0, 1) := by decide +kernel
theorem dX11_pairsOf_91 : decode cX11_pairsOf 91 = .ok (.getfield 47, 3) := by decide +kernel
theorem dX11_pairsOf_94 : decode cX11_pairsOf 94 = .ok (.iload_n 3, 1) := by decide +kernel
theorem dX11_pairsOf_95 : decode cX11_pairsOf 95 = .ok (.aload_n 0, 1) := by decide +kernel
theorem dX11_pairsOf_96 : decode cX11_pairsOf 96 = .ok (.getfield 275, 3) := by decide +kernel
theorem dX11_pairsOf_99 : decode cX11_pairsOf 99 = .ok (.isub, 1) := by decide +kernel
theorem dX11_pairsOf_100 : decode cX11_pairsOf 100 = .ok (.laload, 1) := by decide +kernel
theorem dX11_pairsOf_101 : decode cX11_pairsOf 101 = .ok (.lastore, 1) := by decide +kernel
theorem dX11_pairsOf_102 : decode cX11_pairsOf 102 = .ok (.iinc 3 1, 3) := by decide +kernel
theorem dX11_pairsOf_105 : decode cX11_pairsOf 105 = .ok (.goto (-76), 3) := by decide +kernel
theorem dX11_pairsOf_108 : decode cX11_pairsOf 108 = .ok (.aload_n 0, 1) := by decide +kernel
theorem dX11_pairsOf_109 : decode cX11_pairsOf 109 = .ok (.iload_n 2, 1) := by decide +kernel
theorem dX11_pairsOf_110 : decode cX11_pairsOf 110 = .ok (.putfield 236, 3) := by decide +kernel
theorem dX11_pairsOf_113 : decode cX11_pairsOf 113 = .ok (.iconst 0, 1) := by decide +kernel
theorem dX11_pairsOf_114 : decode cX11_pairsOf 114 = .ok (.istore_n 3, 1) := by decide +kernel
theorem dX11_pairsOf_115 : decode cX11_pairsOf 115 = .ok (.iload_n 3, 1) := by decide +kernel
theorem dX11_pairsOf_116 : decode cX11_pairsOf 116 = .ok (.iload_n 2, 1) := by decide +kernel
theorem dX11_pairsOf_117 : decode cX11_pairsOf 117 = .ok (.if_icmp .ge 21, 3) := by decide +kernel
theorem dX11_pairsOf_120 : decode cX11_pairsOf 120 = .ok (.aload_n 0, 1) := by decide +kernel
theorem dX11_pairsOf_121 : decode cX11_pairsOf 121 = .ok (.getfield 47, 3) := by decide +kernel
theorem dX11_pairsOf_124 : decode cX11_pairsOf 124 = .ok (.iload_n 3, 1) := by decide +kernel
theorem dX11_pairsOf_125 : decode cX11_pairsOf 125 = .ok (.aload_n 0, 1) := by decide +kernel
theorem dX11_pairsOf_126 : decode cX11_pairsOf 126 = .ok (.getfield 53, 3) := by decide +kernel
theorem dX11_pairsOf_129 : decode cX11_pairsOf 129 = .ok (.iload_n 3, 1) := by decide +kernel
theorem dX11_pairsOf_130 : decode cX11_pairsOf 130 = .ok (.laload, 1) := by decide +kernel
theorem dX11_pairsOf_131 : decode cX11_pairsOf 131 = .ok (.lastore, 1) := by decide +kernel
theorem dX11_pairsOf_132 : decode cX11_pairsOf 132 = .ok (.iinc 3 1, 3) := by decide +kernel
theorem dX11_pairsOf_135 : decode cX11_pairsOf 135 = .ok (.goto (-20), 3) := by decide +kernel
theorem dX11_pairsOf_138 : decode cX11_pairsOf 138 = .ok (.aload_n 0, 1) := by decide +kernel
theorem dX11_pairsOf_139 : decode cX11_pairsOf 139 = .ok (.invokevirtual 245, 3) := by decide +kernel
theorem dX11_pairsOf_142 : decode cX11_pairsOf 142 = .ok (.return_, 1) := by decide +kernel
theorem dX11_ofTwo_0 : decode cX11_ofTwo 0 = .ok (.iload_n 1, 1) := by decide +kernel
theorem dX11_ofTwo_1 : decode cX11_ofTwo 1 = .ok (.i2l, 1) := by decide +kernel
theorem dX11_ofTwo_2 : decode cX11_ofTwo 2 = .ok (.lconst 0, 1) := by decide +kernel
theorem dX11_ofTwo_3 : decode cX11_ofTwo 3 = .ok (.ldc2_w 285, 3) := by decide +kernel
theorem dX11_ofTwo_6 : decode cX11_ofTwo 6 = .ok (.invokestatic 123, 3) := by decide +kernel
theorem dX11_ofTwo_9 : decode cX11_ofTwo 9 = .ok (.ifCond .eq 23, 3) := by decide +kernel
theorem dX11_ofTwo_12 : decode cX11_ofTwo 12 = .ok (.iload_n 2, 1) := by decide +kernel
theorem dX11_ofTwo_13 : decode cX11_ofTwo 13 = .ok (.invokestatic 207, 3) := by decide +kernel
theorem dX11_ofTwo_16 : decode cX11_ofTwo 16 = .ok (.ifCond .eq 16, 3) := by decide +kernel
theorem dX11_ofTwo_19 : decode cX11_ofTwo 19 = .ok (.iload_n 3, 1) := by decide +kernel
theorem dX11_ofTwo_20 : decode cX11_ofTwo 20 = .ok (.invokestatic 207, 3) := by decide +kernel
theorem dX11_ofTwo_23 : decode cX11_ofTwo 23 = .ok (.ifCond .eq 9, 3) := by decide +kernel
theorem dX11_ofTwo_26 : decode cX11_ofTwo 26 = .ok (.iload 4, 2) := by decide +kernel
theorem dX11_ofTwo_28 : decode cX11_ofTwo 28 = .ok (.iconst (-1), 1) := by decide +kernel
theorem dX11_ofTwo_29 : decode cX11_ofTwo 29 = .ok (.if_icmp .ge 5, 3) := by decide +kernel
theorem dX11_ofTwo_32 : decode cX11_ofTwo 32 = .ok (.iconst (-1), 1) := by decide +kernel
theorem dX11_ofTwo_33 : decode cX11_ofTwo 33 = .ok (.ireturn, 1) := by decide +kernel
theorem dX11_ofTwo_34 : decode cX11_ofTwo 34 = .ok (.aload_n 0, 1) := by decide +kernel
theorem dX11_ofTwo_35 : decode cX11_ofTwo 35 = .ok (.iload_n 2, 1) := by decide +kernel
theorem dX11_ofTwo_36 : decode cX11_ofTwo 36 = .ok (.invokevirtual 278, 3) := by decide +kernel
theorem dX11_ofTwo_39 : decode cX11_ofTwo 39 = .ok (.aload_n 0, 1) := by decide +kernel
theorem dX11_ofTwo_40 : decode cX11_ofTwo 40 = .ok (.iload_n 3, 1) := by decide +kernel
theorem dX11_ofTwo_41 : decode cX11_ofTwo 41 = .ok (.invokevirtual 258, 3) := by decide +kernel
theorem dX11_ofTwo_44 : decode cX11_ofTwo 44 = .ok (.aload_n 0, 1) := by decide +kernel
theorem dX11_ofTwo_45 : decode cX11_ofTwo 45 = .ok (.iload_n 1, 1) := by decide +kernel
theorem dX11_ofTwo_46 : decode cX11_ofTwo 46 = .ok (.invokevirtual 287, 3) := by decide +kernel
theorem dX11_ofTwo_49 : decode cX11_ofTwo 49 = .ok (.aload_n 0, 1) := by decide +kernel
theorem dX11_ofTwo_50 : decode cX11_ofTwo 50 = .ok (.iload 4, 2) := by decide +kernel
theorem dX11_ofTwo_52 : decode cX11_ofTwo 52 = .ok (.invokevirtual 290, 3) := by decide +kernel
theorem dX11_ofTwo_55 : decode cX11_ofTwo 55 = .ok (.ireturn, 1) := by decide +kernel
theorem dX11_span_0 : decode cX11_span 0 = .ok (.iload_n 1, 1) := by decide +kernel
theorem dX11_span_1 : decode cX11_span 1 = .ok (.invokestatic 207, 3) := by decide +kernel
theorem dX11_span_4 : decode cX11_span 4 = .ok (.ifCond .eq 23, 3) := by decide +kernel
theorem dX11_span_7 : decode cX11_span 7 = .ok (.iload_n 2, 1) := by decide +kernel
theorem dX11_span_8 : decode cX11_span 8 = .ok (.invokestatic 293, 3) := by decide +kernel
theorem dX11_span_11 : decode cX11_span 11 = .ok (.ifCond .eq 16, 3) := by decide +kernel
theorem dX11_span_14 : decode cX11_span 14 = .ok (.iload 4, 2) := by decide +kernel
theorem dX11_span_16 : decode cX11_span 16 = .ok (.i2l, 1) := by decide +kernel
theorem dX11_span_17 : decode cX11_span 17 = .ok (.lconst 0, 1) := by decide +kernel
theorem dX11_span_18 : decode cX11_span 18 = .ok (.ldc2_w 220, 3) := by decide +kernel
theorem dX11_span_21 : decode cX11_span 21 = .ok (.invokestatic 123, 3) := by decide +kernel
theorem dX11_span_24 : decode cX11_span 24 = .ok (.ifCond .ne 5, 3) := by decide +kernel
theorem dX11_span_27 : decode cX11_span 27 = .ok (.iconst (-1), 1) := by decide +kernel
theorem dX11_span_28 : decode cX11_span 28 = .ok (.ireturn, 1) := by decide +kernel
theorem dX11_span_29 : decode cX11_span 29 = .ok (.aload_n 0, 1) := by decide +kernel
theorem dX11_span_30 : decode cX11_span 30 = .ok (.getfield 93, 3) := by decide +kernel
theorem dX11_span_33 : decode cX11_span 33 = .ok (.iload_n 2, 1) := by decide +kernel
theorem dX11_span_34 : decode cX11_span 34 = .ok (.iaload, 1) := by decide +kernel
theorem dX11_span_35 : decode cX11_span 35 = .ok (.iconst 1, 1) := by decide +kernel
theorem dX11_span_36 : decode cX11_span 36 = .ok (.if_icmp .eq 20, 3) := by decide +kernel
theorem dX11_span_39 : decode cX11_span 39 = .ok (.aload_n 0, 1) := by decide +kernel
theorem dX11_span_40 : decode cX11_span 40 = .ok (.getfield 93, 3) := by decide +kernel
theorem dX11_span_43 : decode cX11_span 43 = .ok (.iload_n 2, 1) := by decide +kernel
theorem dX11_span_44 : decode cX11_span 44 = .ok (.iaload, 1) := by decide +kernel
theorem dX11_span_45 : decode cX11_span 45 = .ok (.ifCond .ge 8, 3) := by decide +kernel
theorem dX11_span_48 : decode cX11_span 48 = .ok (.bipush (-11), 2) := by decide +kernel
theorem dX11_span_50 : decode cX11_span 50 = .ok (.goto 5, 3) := by decide +kernel
theorem dX11_span_53 : decode cX11_span 53 = .ok (.bipush (-13), 2) := by decide +kernel
theorem dX11_span_55 : decode cX11_span 55 = .ok (.ireturn, 1) := by decide +kernel
theorem dX11_span_56 : decode cX11_span 56 = .ok (.iload 4, 2) := by decide +kernel
theorem dX11_span_58 : decode cX11_span 58 = .ok (.ifCond .le 25, 3) := by decide +kernel
theorem dX11_span_61 : decode cX11_span 61 = .ok (.iload_n 3, 1) := by decide +kernel
theorem dX11_span_62 : decode cX11_span 62 = .ok (.ifCond .lt 18, 3) := by decide +kernel
theorem dX11_span_65 : decode cX11_span 65 = .ok (.iload_n 3, 1) := by decide +kernel
theorem dX11_span_66 : decode cX11_span 66 = .ok (.aload_n 0, 1) := by decide +kernel
theorem dX11_span_67 : decode cX11_span 67 = .ok (.getfield 96, 3) := by decide +kernel
theorem dX11_span_70 : decode cX11_span 70 = .ok (.iload_n 2, 1) := by decide +kernel
theorem dX11_span_71 : decode cX11_span 71 = .ok (.iaload, 1) := by decide +kernel
theorem dX11_span_72 : decode cX11_span 72 = .ok (.iconst 3, 1) := by decide +kernel
theorem dX11_span_73 : decode cX11_span 73 = .ok (.iload 4, 2) := by decide +kernel
theorem dX11_span_75 : decode cX11_span 75 = .ok (.imul, 1) := by decide +kernel
theorem dX11_span_76 : decode cX11_span 76 = .ok (.isub, 1) := by decide +kernel
theorem dX11_span_77 : decode cX11_span 77 = .ok (.if_icmp .le 6, 3) := by decide +kernel
theorem dX11_span_80 : decode cX11_span 80 = .ok (.bipush (-12), 2) := by decide +kernel
theorem dX11_span_82 : decode cX11_span 82 = .ok (.ireturn, 1) := by decide +kernel
theorem dX11_span_83 : decode cX11_span 83 = .ok (.iconst 0, 1) := by decide +kernel
theorem dX11_span_84 : decode cX11_span 84 = .ok (.istore 5, 2) := by decide +kernel
theorem dX11_span_86 : decode cX11_span 86 = .ok (.iload 5, 2) := by decide +kernel
theorem dX11_span_88 : decode cX11_span 88 = .ok (.iconst 3, 1) := by decide +kernel
theorem dX11_span_89 : decode cX11_span 89 = .ok (.iload 4, 2) := by decide +kernel
theorem dX11_span_91 : decode cX11_span 91 = .ok (.imul, 1) := by decide +kernel
theorem dX11_span_92 : decode cX11_span 92 = .ok (.if_icmp .ge 37, 3) := by decide +kernel
theorem dX11_span_95 : decode cX11_span 95 = .ok (.aload_n 0, 1) := by decide +kernel
theorem dX11_span_96 : decode cX11_span 96 = .ok (.getfield 99, 3) := by decide +kernel
theorem dX11_span_99 : decode cX11_span 99 = .ok (.bipush 40, 2) := by decide +kernel
theorem dX11_span_101 : decode cX11_span 101 = .ok (.iload_n 2, 1) := by decide +kernel
theorem dX11_span_102 : decode cX11_span 102 = .ok (.imul, 1) := by decide +kernel
theorem dX11_span_103 : decode cX11_span 103 = .ok (.iload_n 3, 1) := by decide +kernel
theorem dX11_span_104 : decode cX11_span 104 = .ok (.iadd, 1) := by decide +kernel
theorem dX11_span_105 : decode cX11_span 105 = .ok (.iload 5, 2) := by decide +kernel
theorem dX11_span_107 : decode cX11_span 107 = .ok (.iadd, 1) := by decide +kernel
theorem dX11_span_108 : decode cX11_span 108 = .ok (.laload, 1) := by decide +kernel
theorem dX11_span_109 : decode cX11_span 109 = .ok (.ldc2_w 296, 3) := by decide +kernel
theorem dX11_span_112 : decode cX11_span 112 = .ok (.ldc2_w 298, 3) := by decide +kernel
theorem dX11_span_115 : decode cX11_span 115 = .ok (.invokestatic 123, 3) := by decide +kernel
theorem dX11_span_118 : decode cX11_span 118 = .ok (.ifCond .ne 5, 3) := by decide +kernel
theorem dX11_span_121 : decode cX11_span 121 = .ok (.iconst (-1), 1) := by decide +kernel
theorem dX11_span_122 : decode cX11_span 122 = .ok (.ireturn, 1) := by decide +kernel
theorem dX11_span_123 : decode cX11_span 123 = .ok (.iinc 5 1, 3) := by decide +kernel
theorem dX11_span_126 : decode cX11_span 126 = .ok (.goto (-40), 3) := by decide +kernel
theorem dX11_span_129 : decode cX11_span 129 = .ok (.aload_n 0, 1) := by decide +kernel
theorem dX11_span_130 : decode cX11_span 130 = .ok (.iload_n 1, 1) := by decide +kernel
theorem dX11_span_131 : decode cX11_span 131 = .ok (.aload_n 0, 1) := by decide +kernel
theorem dX11_span_132 : decode cX11_span 132 = .ok (.getfield 23, 3) := by decide +kernel
theorem dX11_span_135 : decode cX11_span 135 = .ok (.invokevirtual 188, 3) := by decide +kernel
theorem dX11_span_138 : decode cX11_span 138 = .ok (.aload_n 0, 1) := by decide +kernel
theorem dX11_span_139 : decode cX11_span 139 = .ok (.iconst 0, 1) := by decide +kernel
theorem dX11_span_140 : decode cX11_span 140 = .ok (.putfield 133, 3) := by decide +kernel
theorem dX11_span_143 : decode cX11_span 143 = .ok (.iconst 0, 1) := by decide +kernel
theorem dX11_span_144 : decode cX11_span 144 = .ok (.istore 5, 2) := by decide +kernel
theorem dX11_span_146 : decode cX11_span 146 = .ok (.iload 5, 2) := by decide +kernel
theorem dX11_span_148 : decode cX11_span 148 = .ok (.aload_n 0, 1) := by decide +kernel
theorem dX11_span_149 : decode cX11_span 149 = .ok (.iload_n 1, 1) := by decide +kernel
theorem dX11_span_150 : decode cX11_span 150 = .ok (.invokevirtual 162, 3) := by decide +kernel
theorem dX11_span_153 : decode cX11_span 153 = .ok (.if_icmp .ge 28, 3) := by decide +kernel
theorem dX11_span_156 : decode cX11_span 156 = .ok (.aload_n 0, 1) := by decide +kernel
theorem dX11_span_157 : decode cX11_span 157 = .ok (.aload_n 0, 1) := by decide +kernel
theorem dX11_span_158 : decode cX11_span 158 = .ok (.getfield 23, 3) := by decide +kernel
theorem dX11_span_161 : decode cX11_span 161 = .ok (.bipush 6, 2) := by decide +kernel
theorem dX11_span_163 : decode cX11_span 163 = .ok (.iload 5, 2) := by decide +kernel
theorem dX11_span_165 : decode cX11_span 165 = .ok (.imul, 1) := by decide +kernel
theorem dX11_span_166 : decode cX11_span 166 = .ok (.iconst 0, 1) := by decide +kernel
theorem dX11_span_167 : decode cX11_span 167 = .ok (.aload_n 0, 1) := by decide +kernel
theorem dX11_span_168 : decode cX11_span 168 = .ok (.iload_n 1, 1) := by decide +kernel
theorem dX11_span_169 : decode cX11_span 169 = .ok (.invokevirtual 162, 3) := by decide +kernel
theorem dX11_span_172 : decode cX11_span 172 = .ok (.invokevirtual 166, 3) := by decide +kernel
theorem dX11_span_175 : decode cX11_span 175 = .ok (.iinc 5 1, 3) := by decide +kernel
theorem dX11_span_178 : decode cX11_span 178 = .ok (.goto (-32), 3) := by decide +kernel
theorem dX11_span_181 : decode cX11_span 181 = .ok (.iconst 0, 1) := by decide +kernel
theorem dX11_span_182 : decode cX11_span 182 = .ok (.istore 5, 2) := by decide +kernel
theorem dX11_span_184 : decode cX11_span 184 = .ok (.iload 5, 2) := by decide +kernel
theorem dX11_span_186 : decode cX11_span 186 = .ok (.iload 4, 2) := by decide +kernel
theorem dX11_span_188 : decode cX11_span 188 = .ok (.if_icmp .ge 34, 3) := by decide +kernel
theorem dX11_span_191 : decode cX11_span 191 = .ok (.aload_n 0, 1) := by decide +kernel
theorem dX11_span_192 : decode cX11_span 192 = .ok (.aload_n 0, 1) := by decide +kernel
theorem dX11_span_193 : decode cX11_span 193 = .ok (.getfield 99, 3) := by decide +kernel
theorem dX11_span_196 : decode cX11_span 196 = .ok (.bipush 40, 2) := by decide +kernel
theorem dX11_span_198 : decode cX11_span 198 = .ok (.iload_n 2, 1) := by decide +kernel
theorem dX11_span_199 : decode cX11_span 199 = .ok (.imul, 1) := by decide +kernel
theorem dX11_span_200 : decode cX11_span 200 = .ok (.iload_n 3, 1) := by decide +kernel
theorem dX11_span_201 : decode cX11_span 201 = .ok (.iadd, 1) := by decide +kernel
theorem dX11_span_202 : decode cX11_span 202 = .ok (.iconst 3, 1) := by decide +kernel
theorem dX11_span_203 : decode cX11_span 203 = .ok (.iload 5, 2) := by decide +kernel
theorem dX11_span_205 : decode cX11_span 205 = .ok (.imul, 1) := by decide +kernel
theorem dX11_span_206 : decode cX11_span 206 = .ok (.iadd, 1) := by decide +kernel
theorem dX11_span_207 : decode cX11_span 207 = .ok (.iconst 0, 1) := by decide +kernel
theorem dX11_span_208 : decode cX11_span 208 = .ok (.aload_n 0, 1) := by decide +kernel
theorem dX11_span_209 : decode cX11_span 209 = .ok (.iload_n 1, 1) := by decide +kernel
theorem dX11_span_210 : decode cX11_span 210 = .ok (.invokevirtual 162, 3) := by decide +kernel
theorem dX11_span_213 : decode cX11_span 213 = .ok (.invokevirtual 166, 3) := by decide +kernel
theorem dX11_span_216 : decode cX11_span 216 = .ok (.iinc 5 1, 3) := by decide +kernel
theorem dX11_span_219 : decode cX11_span 219 = .ok (.goto (-35), 3) := by decide +kernel
theorem dX11_span_222 : decode cX11_span 222 = .ok (.aload_n 0, 1) := by decide +kernel
theorem dX11_span_223 : decode cX11_span 223 = .ok (.aload_n 0, 1) := by decide +kernel
theorem dX11_span_224 : decode cX11_span 224 = .ok (.iload_n 1, 1) := by decide +kernel
theorem dX11_span_225 : decode cX11_span 225 = .ok (.invokevirtual 162, 3) := by decide +kernel
theorem dX11_span_228 : decode cX11_span 228 = .ok (.aload_n 0, 1) := by decide +kernel
theorem dX11_span_229 : decode cX11_span 229 = .ok (.getfield 35, 3) := by decide +kernel
theorem dX11_span_232 : decode cX11_span 232 = .ok (.invokevirtual 170, 3) := by decide +kernel
theorem dX11_span_235 : decode cX11_span 235 = .ok (.lconst 1, 1) := by decide +kernel
theorem dX11_span_236 : decode cX11_span 236 = .ok (.lstore 5, 2) := by decide +kernel
theorem dX11_span_238 : decode cX11_span 238 = .ok (.iconst 0, 1) := by decide +kernel
theorem dX11_span_239 : decode cX11_span 239 = .ok (.istore 7, 2) := by decide +kernel
theorem dX11_span_241 : decode cX11_span 241 = .ok (.iload 7, 2) := by decide +kernel
theorem dX11_span_243 : decode cX11_span 243 = .ok (.aload_n 0, 1) := by decide +kernel
theorem dX11_span_244 : decode cX11_span 244 = .ok (.iload_n 1, 1) := by decide +kernel
theorem dX11_span_245 : decode cX11_span 245 = .ok (.invokevirtual 162, 3) := by decide +kernel
theorem dX11_span_248 : decode cX11_span 248 = .ok (.if_icmp .ge 74, 3) := by decide +kernel
theorem dX11_span_251 : decode cX11_span 251 = .ok (.aload_n 0, 1) := by decide +kernel
theorem dX11_span_252 : decode cX11_span 252 = .ok (.getfield 35, 3) := by decide +kernel
theorem dX11_span_255 : decode cX11_span 255 = .ok (.bipush 7, 2) := by decide +kernel
theorem dX11_span_257 : decode cX11_span 257 = .ok (.iload 7, 2) := by decide +kernel
theorem dX11_span_259 : decode cX11_span 259 = .ok (.imul, 1) := by decide +kernel
theorem dX11_span_260 : decode cX11_span 260 = .ok (.laload, 1) := by decide +kernel
theorem dX11_span_261 : decode cX11_span 261 = .ok (.lconst 0, 1) := by decide +kernel
theorem dX11_span_262 : decode cX11_span 262 = .ok (.lcmp, 1) := by decide +kernel
theorem dX11_span_263 : decode cX11_span 263 = .ok (.ifCond .ne 8, 3) := by decide +kernel
theorem dX11_span_266 : decode cX11_span 266 = .ok (.lload 5, 2) := by decide +kernel
theorem dX11_span_268 : decode cX11_span 268 = .ok (.goto 46, 3) := by decide +kernel
theorem dX11_span_271 : decode cX11_span 271 = .ok (.aload_n 0, 1) := by decide +kernel
theorem dX11_span_272 : decode cX11_span 272 = .ok (.getfield 23, 3) := by decide +kernel
theorem dX11_span_275 : decode cX11_span 275 = .ok (.bipush 7, 2) := by decide +kernel
theorem dX11_span_277 : decode cX11_span 277 = .ok (.iload 7, 2) := by decide +kernel
theorem dX11_span_279 : decode cX11_span 279 = .ok (.imul, 1) := by decide +kernel
theorem dX11_span_280 : decode cX11_span 280 = .ok (.laload, 1) := by decide +kernel
theorem dX11_span_281 : decode cX11_span 281 = .ok (.lconst 0, 1) := by decide +kernel
theorem dX11_span_282 : decode cX11_span 282 = .ok (.lcmp, 1) := by decide +kernel
theorem dX11_span_283 : decode cX11_span 283 = .ok (.ifCond .ne 7, 3) := by decide +kernel
theorem dX11_span_286 : decode cX11_span 286 = .ok (.lconst 0, 1) := by decide +kernel
theorem dX11_span_287 : decode cX11_span 287 = .ok (.goto 27, 3) := by decide +kernel
theorem dX11_span_290 : decode cX11_span 290 = .ok (.lload 5, 2) := by decide +kernel
theorem dX11_span_292 : decode cX11_span 292 = .ok (.aload_n 0, 1) := by decide +kernel
theorem dX11_span_293 : decode cX11_span 293 = .ok (.getfield 23, 3) := by decide +kernel
theorem dX11_span_296 : decode cX11_span 296 = .ok (.bipush 7, 2) := by decide +kernel
theorem dX11_span_298 : decode cX11_span 298 = .ok (.iload 7, 2) := by decide +kernel
theorem dX11_span_300 : decode cX11_span 300 = .ok (.imul, 1) := by decide +kernel
theorem dX11_span_301 : decode cX11_span 301 = .ok (.laload, 1) := by decide +kernel
theorem dX11_span_302 : decode cX11_span 302 = .ok (.aload_n 0, 1) := by decide +kernel
theorem dX11_span_303 : decode cX11_span 303 = .ok (.getfield 35, 3) := by decide +kernel
theorem dX11_span_306 : decode cX11_span 306 = .ok (.bipush 7, 2) := by decide +kernel
theorem dX11_span_308 : decode cX11_span 308 = .ok (.iload 7, 2) := by decide +kernel
theorem dX11_span_310 : decode cX11_span 310 = .ok (.imul, 1) := by decide +kernel
theorem dX11_span_311 : decode cX11_span 311 = .ok (.laload, 1) := by decide +kernel
theorem dX11_span_312 : decode cX11_span 312 = .ok (.ldiv, 1) := by decide +kernel
theorem dX11_span_313 : decode cX11_span 313 = .ok (.lmul, 1) := by decide +kernel
theorem dX11_span_314 : decode cX11_span 314 = .ok (.lstore 5, 2) := by decide +kernel
theorem dX11_span_316 : decode cX11_span 316 = .ok (.iinc 7 1, 3) := by decide +kernel
theorem dX11_span_319 : decode cX11_span 319 = .ok (.goto (-78), 3) := by decide +kernel
theorem dX11_span_322 : decode cX11_span 322 = .ok (.lload 5, 2) := by decide +kernel
theorem dX11_span_324 : decode cX11_span 324 = .ok (.l2i, 1) := by decide +kernel
theorem dX11_span_325 : decode cX11_span 325 = .ok (.ireturn, 1) := by decide +kernel
theorem dX11_map_0 : decode cX11_map 0 = .ok (.iload_n 1, 1) := by decide +kernel
theorem dX11_map_1 : decode cX11_map 1 = .ok (.i2l, 1) := by decide +kernel
theorem dX11_map_2 : decode cX11_map 2 = .ok (.lconst 0, 1) := by decide +kernel
theorem dX11_map_3 : decode cX11_map 3 = .ok (.ldc2_w 127, 3) := by decide +kernel
theorem dX11_map_6 : decode cX11_map 6 = .ok (.invokestatic 123, 3) := by decide +kernel
theorem dX11_map_9 : decode cX11_map 9 = .ok (.ifCond .eq 17, 3) := by decide +kernel
theorem dX11_map_12 : decode cX11_map 12 = .ok (.iload_n 2, 1) := by decide +kernel
theorem dX11_map_13 : decode cX11_map 13 = .ok (.invokestatic 207, 3) := by decide +kernel
theorem dX11_map_16 : decode cX11_map 16 = .ok (.ifCond .eq 10, 3) := by decide +kernel
theorem dX11_map_19 : decode cX11_map 19 = .ok (.iload_n 3, 1) := by decide +kernel
theorem dX11_map_20 : decode cX11_map 20 = .ok (.invokestatic 207, 3) := by decide +kernel
theorem dX11_map_23 : decode cX11_map 23 = .ok (.ifCond .ne 5, 3) := by decide +kernel
theorem dX11_map_26 : decode cX11_map 26 = .ok (.iconst (-1), 1) := by decide +kernel
theorem dX11_map_27 : decode cX11_map 27 = .ok (.ireturn, 1) := by decide +kernel
theorem dX11_map_28 : decode cX11_map 28 = .ok (.aload_n 0, 1) := by decide +kernel
theorem dX11_map_29 : decode cX11_map 29 = .ok (.invokevirtual 213, 3) := by decide +kernel
theorem dX11_map_32 : decode cX11_map 32 = .ok (.iconst 0, 1) := by decide +kernel
theorem dX11_map_33 : decode cX11_map 33 = .ok (.istore 4, 2) := by decide +kernel
theorem dX11_map_35 : decode cX11_map 35 = .ok (.iload 4, 2) := by decide +kernel
theorem dX11_map_37 : decode cX11_map 37 = .ok (.bipush 11, 2) := by decide +kernel
theorem dX11_map_39 : decode cX11_map 39 = .ok (.if_icmp .ge 44, 3) := by decide +kernel
theorem dX11_map_42 : decode cX11_map 42 = .ok (.aload_n 0, 1) := by decide +kernel
theorem dX11_map_43 : decode cX11_map 43 = .ok (.getfield 7, 3) := by decide +kernel
theorem dX11_map_46 : decode cX11_map 46 = .ok (.bipush 84, 2) := by decide +kernel
theorem dX11_map_48 : decode cX11_map 48 = .ok (.bipush 11, 2) := by decide +kernel
theorem dX11_map_50 : decode cX11_map 50 = .ok (.iload_n 1, 1) := by decide +kernel
theorem dX11_map_51 : decode cX11_map 51 = .ok (.imul, 1) := by decide +kernel
theorem dX11_map_52 : decode cX11_map 52 = .ok (.iadd, 1) := by decide +kernel
theorem dX11_map_53 : decode cX11_map 53 = .ok (.iload 4, 2) := by decide +kernel
theorem dX11_map_55 : decode cX11_map 55 = .ok (.iadd, 1) := by decide +kernel
theorem dX11_map_56 : decode cX11_map 56 = .ok (.iload 4, 2) := by decide +kernel
theorem dX11_map_58 : decode cX11_map 58 = .ok (.ifCond .ne 7, 3) := by decide +kernel
theorem dX11_map_61 : decode cX11_map 61 = .ok (.iload_n 2, 1) := by decide +kernel
theorem dX11_map_62 : decode cX11_map 62 = .ok (.goto 14, 3) := by decide +kernel
theorem dX11_map_65 : decode cX11_map 65 = .ok (.iload 4, 2) := by decide +kernel
theorem dX11_map_67 : decode cX11_map 67 = .ok (.iconst 1, 1) := by decide +kernel
theorem dX11_map_68 : decode cX11_map 68 = .ok (.if_icmp .ne 7, 3) := by decide +kernel
theorem dX11_map_71 : decode cX11_map 71 = .ok (.iload_n 3, 1) := by decide +kernel
theorem dX11_map_72 : decode cX11_map 72 = .ok (.goto 4, 3) := by decide +kernel
theorem dX11_map_75 : decode cX11_map 75 = .ok (.iconst 0, 1) := by decide +kernel
theorem dX11_map_76 : decode cX11_map 76 = .ok (.iastore, 1) := by decide +kernel
theorem dX11_map_77 : decode cX11_map 77 = .ok (.iinc 4 1, 3) := by decide +kernel
theorem dX11_map_80 : decode cX11_map 80 = .ok (.goto (-45), 3) := by decide +kernel
theorem dX11_map_83 : decode cX11_map 83 = .ok (.iconst 1, 1) := by decide +kernel
theorem dX11_map_84 : decode cX11_map 84 = .ok (.ireturn, 1) := by decide +kernel
theorem dX11_isEntry_0 : decode cX11_isEntry 0 = .ok (.aload_n 0, 1) := by decide +kernel
theorem dX11_isEntry_1 : decode cX11_isEntry 1 = .ok (.iload_n 1, 1) := by decide +kernel
theorem dX11_isEntry_2 : decode cX11_isEntry 2 = .ok (.invokevirtual 215, 3) := by decide +kernel
theorem dX11_isEntry_5 : decode cX11_isEntry 5 = .ok (.ifCond .eq 49, 3) := by decide +kernel
theorem dX11_isEntry_8 : decode cX11_isEntry 8 = .ok (.iload_n 2, 1) := by decide +kernel
theorem dX11_isEntry_9 : decode cX11_isEntry 9 = .ok (.i2l, 1) := by decide +kernel
theorem dX11_isEntry_10 : decode cX11_isEntry 10 = .ok (.lconst 0, 1) := by decide +kernel
theorem dX11_isEntry_11 : decode cX11_isEntry 11 = .ok (.aload_n 0, 1) := by decide +kernel
theorem dX11_isEntry_12 : decode cX11_isEntry 12 = .ok (.aload_n 0, 1) := by decide +kernel
theorem dX11_isEntry_13 : decode cX11_isEntry 13 = .ok (.iload_n 1, 1) := by decide +kernel
theorem dX11_isEntry_14 : decode cX11_isEntry 14 = .ok (.invokevirtual 174, 3) := by decide +kernel
theorem dX11_isEntry_17 : decode cX11_isEntry 17 = .ok (.invokevirtual 162, 3) := by decide +kernel
theorem dX11_isEntry_20 : decode cX11_isEntry 20 = .ok (.iconst 1, 1) := by decide +kernel
theorem dX11_isEntry_21 : decode cX11_isEntry 21 = .ok (.isub, 1) := by decide +kernel
theorem dX11_isEntry_22 : decode cX11_isEntry 22 = .ok (.i2l, 1) := by decide +kernel
theorem dX11_isEntry_23 : decode cX11_isEntry 23 = .ok (.invokestatic 123, 3) := by decide +kernel
theorem dX11_isEntry_26 : decode cX11_isEntry 26 = .ok (.ifCond .eq 28, 3) := by decide +kernel
theorem dX11_isEntry_29 : decode cX11_isEntry 29 = .ok (.iload_n 3, 1) := by decide +kernel
theorem dX11_isEntry_30 : decode cX11_isEntry 30 = .ok (.i2l, 1) := by decide +kernel
theorem dX11_isEntry_31 : decode cX11_isEntry 31 = .ok (.lconst 0, 1) := by decide +kernel
theorem dX11_isEntry_32 : decode cX11_isEntry 32 = .ok (.aload_n 0, 1) := by decide +kernel
theorem dX11_isEntry_33 : decode cX11_isEntry 33 = .ok (.aload_n 0, 1) := by decide +kernel
theorem dX11_isEntry_34 : decode cX11_isEntry 34 = .ok (.iload_n 1, 1) := by decide +kernel
theorem dX11_isEntry_35 : decode cX11_isEntry 35 = .ok (.invokevirtual 181, 3) := by decide +kernel
theorem dX11_isEntry_38 : decode cX11_isEntry 38 = .ok (.invokevirtual 162, 3) := by decide +kernel
theorem dX11_isEntry_41 : decode cX11_isEntry 41 = .ok (.iconst 1, 1) := by decide +kernel
theorem dX11_isEntry_42 : decode cX11_isEntry 42 = .ok (.isub, 1) := by decide +kernel
theorem dX11_isEntry_43 : decode cX11_isEntry 43 = .ok (.i2l, 1) := by decide +kernel
theorem dX11_isEntry_44 : decode cX11_isEntry 44 = .ok (.invokestatic 123, 3) := by decide +kernel
theorem dX11_isEntry_47 : decode cX11_isEntry 47 = .ok (.ifCond .eq 7, 3) := by decide +kernel
theorem dX11_isEntry_50 : decode cX11_isEntry 50 = .ok (.iconst 1, 1) := by decide +kernel
theorem dX11_isEntry_51 : decode cX11_isEntry 51 = .ok (.goto 4, 3) := by decide +kernel
theorem dX11_isEntry_54 : decode cX11_isEntry 54 = .ok (.iconst 0, 1) := by decide +kernel
theorem dX11_isEntry_55 : decode cX11_isEntry 55 = .ok (.ireturn, 1) := by decide +kernel
theorem dX11_entry_0 : decode cX11_entry 0 = .ok (.aload_n 0, 1) := by decide +kernel
theorem dX11_entry_1 : decode cX11_entry 1 = .ok (.iload_n 1, 1) := by decide +kernel
theorem dX11_entry_2 : decode cX11_entry 2 = .ok (.iload_n 2, 1) := by decide +kernel
theorem dX11_entry_3 : decode cX11_entry 3 = .ok (.iload_n 3, 1) := by decide +kernel
theorem dX11_entry_4 : decode cX11_entry 4 = .ok (.invokevirtual 300, 3) := by decide +kernel
theorem dX11_entry_7 : decode cX11_entry 7 = .ok (.ifCond .eq 18, 3) := by decide +kernel
theorem dX11_entry_10 : decode cX11_entry 10 = .ok (.iload 4, 2) := by decide +kernel
theorem dX11_entry_12 : decode cX11_entry 12 = .ok (.i2l, 1) := by decide +kernel
theorem dX11_entry_13 : decode cX11_entry 13 = .ok (.ldc2_w 218, 3) := by decide +kernel
theorem dX11_entry_16 : decode cX11_entry 16 = .ok (.ldc2_w 220, 3) := by decide +kernel
theorem dX11_entry_19 : decode cX11_entry 19 = .ok (.invokestatic 123, 3) := by decide +kernel
theorem dX11_entry_22 : decode cX11_entry 22 = .ok (.ifCond .ne 5, 3) := by decide +kernel
theorem dX11_entry_25 : decode cX11_entry 25 = .ok (.iconst (-1), 1) := by decide +kernel
theorem dX11_entry_26 : decode cX11_entry 26 = .ok (.ireturn, 1) := by decide +kernel
theorem dX11_entry_27 : decode cX11_entry 27 = .ok (.aload_n 0, 1) := by decide +kernel
theorem dX11_entry_28 : decode cX11_entry 28 = .ok (.invokevirtual 213, 3) := by decide +kernel
theorem dX11_entry_31 : decode cX11_entry 31 = .ok (.aload_n 0, 1) := by decide +kernel
theorem dX11_entry_32 : decode cX11_entry 32 = .ok (.iload_n 1, 1) := by decide +kernel
theorem dX11_entry_33 : decode cX11_entry 33 = .ok (.iload_n 2, 1) := by decide +kernel
theorem dX11_entry_34 : decode cX11_entry 34 = .ok (.iload_n 3, 1) := by decide +kernel
theorem dX11_entry_35 : decode cX11_entry 35 = .ok (.invokevirtual 177, 3) := by decide +kernel
theorem dX11_entry_38 : decode cX11_entry 38 = .ok (.istore 5, 2) := by decide +kernel
theorem dX11_entry_40 : decode cX11_entry 40 = .ok (.aload_n 0, 1) := by decide +kernel
theorem dX11_entry_41 : decode cX11_entry 41 = .ok (.getfield 7, 3) := by decide +kernel
theorem dX11_entry_44 : decode cX11_entry 44 = .ok (.bipush 84, 2) := by decide +kernel
theorem dX11_entry_46 : decode cX11_entry 46 = .ok (.bipush 11, 2) := by decide +kernel
theorem dX11_entry_48 : decode cX11_entry 48 = .ok (.iload_n 1, 1) := by decide +kernel
theorem dX11_entry_49 : decode cX11_entry 49 = .ok (.imul, 1) := by decide +kernel
theorem dX11_entry_50 : decode cX11_entry 50 = .ok (.iadd, 1) := by decide +kernel
theorem dX11_entry_51 : decode cX11_entry 51 = .ok (.iconst 2, 1) := by decide +kernel
theorem dX11_entry_52 : decode cX11_entry 52 = .ok (.iadd, 1) := by decide +kernel
theorem dX11_entry_53 : decode cX11_entry 53 = .ok (.iconst 3, 1) := by decide +kernel
theorem dX11_entry_54 : decode cX11_entry 54 = .ok (.iload_n 2, 1) := by decide +kernel
theorem dX11_entry_55 : decode cX11_entry 55 = .ok (.imul, 1) := by decide +kernel
theorem dX11_entry_56 : decode cX11_entry 56 = .ok (.iadd, 1) := by decide +kernel
theorem dX11_entry_57 : decode cX11_entry 57 = .ok (.iload_n 3, 1) := by decide +kernel
theorem dX11_entry_58 : decode cX11_entry 58 = .ok (.iadd, 1) := by decide +kernel
theorem dX11_entry_59 : decode cX11_entry 59 = .ok (.iload 4, 2) := by decide +kernel
theorem dX11_entry_61 : decode cX11_entry 61 = .ok (.iastore, 1) := by decide +kernel
theorem dX11_entry_62 : decode cX11_entry 62 = .ok (.sipush 1000, 3) := by decide +kernel
theorem dX11_entry_65 : decode cX11_entry 65 = .ok (.iload 5, 2) := by decide +kernel
theorem dX11_entry_67 : decode cX11_entry 67 = .ok (.iadd, 1) := by decide +kernel
theorem dX11_entry_68 : decode cX11_entry 68 = .ok (.ireturn, 1) := by decide +kernel
theorem dX11_at_0 : decode cX11_at 0 = .ok (.aload_n 0, 1) := by decide +kernel
theorem dX11_at_1 : decode cX11_at 1 = .ok (.iload_n 1, 1) := by decide +kernel
theorem dX11_at_2 : decode cX11_at 2 = .ok (.iload_n 2, 1) := by decide +kernel
theorem dX11_at_3 : decode cX11_at 3 = .ok (.iload_n 3, 1) := by decide +kernel
theorem dX11_at_4 : decode cX11_at 4 = .ok (.invokevirtual 300, 3) := by decide +kernel
theorem dX11_at_7 : decode cX11_at 7 = .ok (.ifCond .eq 17, 3) := by decide +kernel
theorem dX11_at_10 : decode cX11_at 10 = .ok (.sipush 1000, 3) := by decide +kernel
theorem dX11_at_13 : decode cX11_at 13 = .ok (.aload_n 0, 1) := by decide +kernel
theorem dX11_at_14 : decode cX11_at 14 = .ok (.iload_n 1, 1) := by decide +kernel
theorem dX11_at_15 : decode cX11_at 15 = .ok (.iload_n 2, 1) := by decide +kernel
theorem dX11_at_16 : decode cX11_at 16 = .ok (.iload_n 3, 1) := by decide +kernel
theorem dX11_at_17 : decode cX11_at 17 = .ok (.invokevirtual 177, 3) := by decide +kernel
theorem dX11_at_20 : decode cX11_at 20 = .ok (.iadd, 1) := by decide +kernel
theorem dX11_at_21 : decode cX11_at 21 = .ok (.goto 4, 3) := by decide +kernel
theorem dX11_at_24 : decode cX11_at 24 = .ok (.iconst (-1), 1) := by decide +kernel
theorem dX11_at_25 : decode cX11_at 25 = .ok (.ireturn, 1) := by decide +kernel
theorem dX11_isOneToOne_0 : decode cX11_isOneToOne 0 = .ok (.aload_n 0, 1) := by decide +kernel
theorem dX11_isOneToOne_1 : decode cX11_isOneToOne 1 = .ok (.aload_n 0, 1) := by decide +kernel
theorem dX11_isOneToOne_2 : decode cX11_isOneToOne 2 = .ok (.iload_n 1, 1) := by decide +kernel
theorem dX11_isOneToOne_3 : decode cX11_isOneToOne 3 = .ok (.invokevirtual 174, 3) := by decide +kernel
theorem dX11_isOneToOne_6 : decode cX11_isOneToOne 6 = .ok (.aload_n 0, 1) := by decide +kernel
theorem dX11_isOneToOne_7 : decode cX11_isOneToOne 7 = .ok (.getfield 23, 3) := by decide +kernel
theorem dX11_isOneToOne_10 : decode cX11_isOneToOne 10 = .ok (.invokevirtual 188, 3) := by decide +kernel
theorem dX11_isOneToOne_13 : decode cX11_isOneToOne 13 = .ok (.aload_n 0, 1) := by decide +kernel
theorem dX11_isOneToOne_14 : decode cX11_isOneToOne 14 = .ok (.getfield 26, 3) := by decide +kernel
theorem dX11_isOneToOne_17 : decode cX11_isOneToOne 17 = .ok (.aload_n 0, 1) := by decide +kernel
theorem dX11_isOneToOne_18 : decode cX11_isOneToOne 18 = .ok (.getfield 23, 3) := by decide +kernel
theorem dX11_isOneToOne_21 : decode cX11_isOneToOne 21 = .ok (.invokestatic 303, 3) := by decide +kernel
theorem dX11_isOneToOne_24 : decode cX11_isOneToOne 24 = .ok (.ireturn, 1) := by decide +kernel
theorem dX11_isOnto_0 : decode cX11_isOnto 0 = .ok (.iconst 1, 1) := by decide +kernel
theorem dX11_isOnto_1 : decode cX11_isOnto 1 = .ok (.istore_n 2, 1) := by decide +kernel
theorem dX11_isOnto_2 : decode cX11_isOnto 2 = .ok (.iconst 0, 1) := by decide +kernel
theorem dX11_isOnto_3 : decode cX11_isOnto 3 = .ok (.istore_n 3, 1) := by decide +kernel
theorem dX11_isOnto_4 : decode cX11_isOnto 4 = .ok (.iload_n 3, 1) := by decide +kernel
theorem dX11_isOnto_5 : decode cX11_isOnto 5 = .ok (.aload_n 0, 1) := by decide +kernel
theorem dX11_isOnto_6 : decode cX11_isOnto 6 = .ok (.aload_n 0, 1) := by decide +kernel
theorem dX11_isOnto_7 : decode cX11_isOnto 7 = .ok (.iload_n 1, 1) := by decide +kernel
theorem dX11_isOnto_8 : decode cX11_isOnto 8 = .ok (.invokevirtual 181, 3) := by decide +kernel
theorem dX11_isOnto_11 : decode cX11_isOnto 11 = .ok (.invokevirtual 162, 3) := by decide +kernel
theorem dX11_isOnto_14 : decode cX11_isOnto 14 = .ok (.if_icmp .ge 33, 3) := by decide +kernel
theorem dX11_isOnto_17 : decode cX11_isOnto 17 = .ok (.iload_n 2, 1) := by decide +kernel
theorem dX11_isOnto_18 : decode cX11_isOnto 18 = .ok (.ifCond .eq 21, 3) := by decide +kernel
theorem dX11_isOnto_21 : decode cX11_isOnto 21 = .ok (.aload_n 0, 1) := by decide +kernel
theorem dX11_isOnto_22 : decode cX11_isOnto 22 = .ok (.getfield 29, 3) := by decide +kernel
theorem dX11_isOnto_25 : decode cX11_isOnto 25 = .ok (.bipush 7, 2) := by decide +kernel
theorem dX11_isOnto_27 : decode cX11_isOnto 27 = .ok (.iload_n 3, 1) := by decide +kernel
theorem dX11_isOnto_28 : decode cX11_isOnto 28 = .ok (.imul, 1) := by decide +kernel
theorem dX11_isOnto_29 : decode cX11_isOnto 29 = .ok (.laload, 1) := by decide +kernel
theorem dX11_isOnto_30 : decode cX11_isOnto 30 = .ok (.lconst 1, 1) := by decide +kernel
theorem dX11_isOnto_31 : decode cX11_isOnto 31 = .ok (.lcmp, 1) := by decide +kernel
theorem dX11_isOnto_32 : decode cX11_isOnto 32 = .ok (.ifCond .ne 7, 3) := by decide +kernel
theorem dX11_isOnto_35 : decode cX11_isOnto 35 = .ok (.iconst 1, 1) := by decide +kernel
theorem dX11_isOnto_36 : decode cX11_isOnto 36 = .ok (.goto 4, 3) := by decide +kernel
theorem dX11_isOnto_39 : decode cX11_isOnto 39 = .ok (.iconst 0, 1) := by decide +kernel
theorem dX11_isOnto_40 : decode cX11_isOnto 40 = .ok (.istore_n 2, 1) := by decide +kernel
theorem dX11_isOnto_41 : decode cX11_isOnto 41 = .ok (.iinc 3 1, 3) := by decide +kernel
theorem dX11_isOnto_44 : decode cX11_isOnto 44 = .ok (.goto (-40), 3) := by decide +kernel
theorem dX11_isOnto_47 : decode cX11_isOnto 47 = .ok (.iload_n 2, 1) := by decide +kernel
theorem dX11_isOnto_48 : decode cX11_isOnto 48 = .ok (.ireturn, 1) := by decide +kernel
theorem dX11_mapIs_0 : decode cX11_mapIs 0 = .ok (.aload_n 0, 1) := by decide +kernel
theorem dX11_mapIs_1 : decode cX11_mapIs 1 = .ok (.iload_n 1, 1) := by decide +kernel
theorem dX11_mapIs_2 : decode cX11_mapIs 2 = .ok (.invokevirtual 215, 3) := by decide +kernel
theorem dX11_mapIs_5 : decode cX11_mapIs 5 = .ok (.ifCond .eq 15, 3) := by decide +kernel
theorem dX11_mapIs_8 : decode cX11_mapIs 8 = .ok (.iload_n 2, 1) := by decide +kernel
theorem dX11_mapIs_9 : decode cX11_mapIs 9 = .ok (.i2l, 1) := by decide +kernel
theorem dX11_mapIs_10 : decode cX11_mapIs 10 = .ok (.lconst 0, 1) := by decide +kernel
theorem dX11_mapIs_11 : decode cX11_mapIs 11 = .ok (.ldc2_w 285, 3) := by decide +kernel
theorem dX11_mapIs_14 : decode cX11_mapIs 14 = .ok (.invokestatic 123, 3) := by decide +kernel
theorem dX11_mapIs_17 : decode cX11_mapIs 17 = .ok (.ifCond .ne 5, 3) := by decide +kernel
theorem dX11_mapIs_20 : decode cX11_mapIs 20 = .ok (.iconst (-1), 1) := by decide +kernel
theorem dX11_mapIs_21 : decode cX11_mapIs 21 = .ok (.ireturn, 1) := by decide +kernel
theorem dX11_mapIs_22 : decode cX11_mapIs 22 = .ok (.iload_n 2, 1) := by decide +kernel
theorem dX11_mapIs_23 : decode cX11_mapIs 23 = .ok (.iconst 2, 1) := by decide +kernel
theorem dX11_mapIs_24 : decode cX11_mapIs 24 = .ok (.if_icmp .ge 21, 3) := by decide +kernel
theorem dX11_mapIs_27 : decode cX11_mapIs 27 = .ok (.iload_n 2, 1) := by decide +kernel
theorem dX11_mapIs_28 : decode cX11_mapIs 28 = .ok (.ifCond .ne 11, 3) := by decide +kernel
theorem dX11_mapIs_31 : decode cX11_mapIs 31 = .ok (.aload_n 0, 1) := by decide +kernel
theorem dX11_mapIs_32 : decode cX11_mapIs 32 = .ok (.iload_n 1, 1) := by decide +kernel
theorem dX11_mapIs_33 : decode cX11_mapIs 33 = .ok (.invokevirtual 174, 3) := by decide +kernel
theorem dX11_mapIs_36 : decode cX11_mapIs 36 = .ok (.goto 8, 3) := by decide +kernel
theorem dX11_mapIs_39 : decode cX11_mapIs 39 = .ok (.aload_n 0, 1) := by decide +kernel
theorem dX11_mapIs_40 : decode cX11_mapIs 40 = .ok (.iload_n 1, 1) := by decide +kernel
theorem dX11_mapIs_41 : decode cX11_mapIs 41 = .ok (.invokevirtual 181, 3) := by decide +kernel
theorem dX11_mapIs_44 : decode cX11_mapIs 44 = .ok (.ireturn, 1) := by decide +kernel
theorem dX11_mapIs_45 : decode cX11_mapIs 45 = .ok (.aload_n 0, 1) := by decide +kernel
theorem dX11_mapIs_46 : decode cX11_mapIs 46 = .ok (.iload_n 1, 1) := by decide +kernel
theorem dX11_mapIs_47 : decode cX11_mapIs 47 = .ok (.invokevirtual 307, 3) := by decide +kernel
theorem dX11_mapIs_50 : decode cX11_mapIs 50 = .ok (.istore_n 3, 1) := by decide +kernel
theorem dX11_mapIs_51 : decode cX11_mapIs 51 = .ok (.iload_n 2, 1) := by decide +kernel
theorem dX11_mapIs_52 : decode cX11_mapIs 52 = .ok (.iconst 2, 1) := by decide +kernel
theorem dX11_mapIs_53 : decode cX11_mapIs 53 = .ok (.if_icmp .le 10, 3) := by decide +kernel
theorem dX11_mapIs_56 : decode cX11_mapIs 56 = .ok (.iload_n 3, 1) := by decide +kernel
theorem dX11_mapIs_57 : decode cX11_mapIs 57 = .ok (.ifCond .ne 6, 3) := by decide +kernel
theorem dX11_mapIs_60 : decode cX11_mapIs 60 = .ok (.bipush (-4), 2) := by decide +kernel
theorem dX11_mapIs_62 : decode cX11_mapIs 62 = .ok (.ireturn, 1) := by decide +kernel
theorem dX11_mapIs_63 : decode cX11_mapIs 63 = .ok (.iload_n 2, 1) := by decide +kernel
theorem dX11_mapIs_64 : decode cX11_mapIs 64 = .ok (.iconst 2, 1) := by decide +kernel
theorem dX11_mapIs_65 : decode cX11_mapIs 65 = .ok (.if_icmp .le 27, 3) := by decide +kernel
theorem dX11_mapIs_68 : decode cX11_mapIs 68 = .ok (.aload_n 0, 1) := by decide +kernel
theorem dX11_mapIs_69 : decode cX11_mapIs 69 = .ok (.iload_n 1, 1) := by decide +kernel
theorem dX11_mapIs_70 : decode cX11_mapIs 70 = .ok (.invokevirtual 310, 3) := by decide +kernel
theorem dX11_mapIs_73 : decode cX11_mapIs 73 = .ok (.iload_n 2, 1) := by decide +kernel
theorem dX11_mapIs_74 : decode cX11_mapIs 74 = .ok (.iconst 3, 1) := by decide +kernel
theorem dX11_mapIs_75 : decode cX11_mapIs 75 = .ok (.if_icmp .ne 11, 3) := by decide +kernel
theorem dX11_mapIs_78 : decode cX11_mapIs 78 = .ok (.aload_n 0, 1) := by decide +kernel
theorem dX11_mapIs_79 : decode cX11_mapIs 79 = .ok (.iload_n 1, 1) := by decide +kernel
theorem dX11_mapIs_80 : decode cX11_mapIs 80 = .ok (.invokevirtual 313, 3) := by decide +kernel
theorem dX11_mapIs_83 : decode cX11_mapIs 83 = .ok (.goto 8, 3) := by decide +kernel
theorem dX11_mapIs_86 : decode cX11_mapIs 86 = .ok (.aload_n 0, 1) := by decide +kernel
theorem dX11_mapIs_87 : decode cX11_mapIs 87 = .ok (.iload_n 1, 1) := by decide +kernel
theorem dX11_mapIs_88 : decode cX11_mapIs 88 = .ok (.invokevirtual 316, 3) := by decide +kernel
theorem dX11_mapIs_91 : decode cX11_mapIs 91 = .ok (.istore_n 3, 1) := by decide +kernel
theorem dX11_mapIs_92 : decode cX11_mapIs 92 = .ok (.iload_n 3, 1) := by decide +kernel
theorem dX11_mapIs_93 : decode cX11_mapIs 93 = .ok (.ifCond .eq 7, 3) := by decide +kernel
theorem dX11_mapIs_96 : decode cX11_mapIs 96 = .ok (.iconst 1, 1) := by decide +kernel
theorem dX11_mapIs_97 : decode cX11_mapIs 97 = .ok (.goto 4, 3) := by decide +kernel
theorem dX11_mapIs_100 : decode cX11_mapIs 100 = .ok (.iconst 0, 1) := by decide +kernel
theorem dX11_mapIs_101 : decode cX11_mapIs 101 = .ok (.ireturn, 1) := by decide +kernel
theorem dX11_image_0 : decode cX11_image 0 = .ok (.aload_n 0, 1) := by decide +kernel
theorem dX11_image_1 : decode cX11_image 1 = .ok (.iload_n 1, 1) := by decide +kernel
theorem dX11_image_2 : decode cX11_image 2 = .ok (.invokevirtual 215, 3) := by decide +kernel
theorem dX11_image_5 : decode cX11_image 5 = .ok (.ifCond .eq 27, 3) := by decide +kernel
theorem dX11_image_8 : decode cX11_image 8 = .ok (.iload_n 2, 1) := by decide +kernel
theorem dX11_image_9 : decode cX11_image 9 = .ok (.iload_n 3, 1) := by decide +kernel
theorem dX11_image_10 : decode cX11_image 10 = .ok (.iload 4, 2) := by decide +kernel
theorem dX11_image_12 : decode cX11_image 12 = .ok (.invokestatic 267, 3) := by decide +kernel
theorem dX11_image_15 : decode cX11_image 15 = .ok (.ifCond .eq 17, 3) := by decide +kernel
theorem dX11_image_18 : decode cX11_image 18 = .ok (.aload_n 0, 1) := by decide +kernel
theorem dX11_image_19 : decode cX11_image 19 = .ok (.aload_n 0, 1) := by decide +kernel
theorem dX11_image_20 : decode cX11_image 20 = .ok (.iload_n 1, 1) := by decide +kernel
theorem dX11_image_21 : decode cX11_image 21 = .ok (.invokevirtual 181, 3) := by decide +kernel
theorem dX11_image_24 : decode cX11_image 24 = .ok (.iload 5, 2) := by decide +kernel
theorem dX11_image_26 : decode cX11_image 26 = .ok (.invokevirtual 264, 3) := by decide +kernel
theorem dX11_image_29 : decode cX11_image 29 = .ok (.ifCond .ne 8, 3) := by decide +kernel
theorem dX11_image_32 : decode cX11_image 32 = .ok (.iconst (-1), 1) := by decide +kernel
theorem dX11_image_33 : decode cX11_image 33 = .ok (.invokestatic 271, 3) := by decide +kernel
theorem dX11_image_36 : decode cX11_image 36 = .ok (.lreturn, 1) := by decide +kernel
theorem dX11_image_37 : decode cX11_image 37 = .ok (.aload_n 0, 1) := by decide +kernel
theorem dX11_image_38 : decode cX11_image 38 = .ok (.iload_n 1, 1) := by decide +kernel
theorem dX11_image_39 : decode cX11_image 39 = .ok (.invokevirtual 307, 3) := by decide +kernel
theorem dX11_image_42 : decode cX11_image 42 = .ok (.ifCond .ne 9, 3) := by decide +kernel
theorem dX11_image_45 : decode cX11_image 45 = .ok (.bipush (-4), 2) := by decide +kernel
theorem dX11_image_47 : decode cX11_image 47 = .ok (.invokestatic 271, 3) := by decide +kernel
theorem dX11_image_50 : decode cX11_image 50 = .ok (.lreturn, 1) := by decide +kernel
theorem dX11_image_51 : decode cX11_image 51 = .ok (.aload_n 0, 1) := by decide +kernel
theorem dX11_image_52 : decode cX11_image 52 = .ok (.aload_n 0, 1) := by decide +kernel
theorem dX11_image_53 : decode cX11_image 53 = .ok (.iload_n 1, 1) := by decide +kernel
theorem dX11_image_54 : decode cX11_image 54 = .ok (.invokevirtual 181, 3) := by decide +kernel
theorem dX11_image_57 : decode cX11_image 57 = .ok (.aload_n 0, 1) := by decide +kernel
theorem dX11_image_58 : decode cX11_image 58 = .ok (.getfield 23, 3) := by decide +kernel
theorem dX11_image_61 : decode cX11_image 61 = .ok (.invokevirtual 188, 3) := by decide +kernel
theorem dX11_image_64 : decode cX11_image 64 = .ok (.aload_n 0, 1) := by decide +kernel
theorem dX11_image_65 : decode cX11_image 65 = .ok (.aload_n 0, 1) := by decide +kernel
theorem dX11_image_66 : decode cX11_image 66 = .ok (.getfield 41, 3) := by decide +kernel
theorem dX11_image_69 : decode cX11_image 69 = .ok (.iload_n 2, 1) := by decide +kernel
theorem dX11_image_70 : decode cX11_image 70 = .ok (.i2l, 1) := by decide +kernel
theorem dX11_image_71 : decode cX11_image 71 = .ok (.iload_n 3, 1) := by decide +kernel
theorem dX11_image_72 : decode cX11_image 72 = .ok (.i2l, 1) := by decide +kernel
theorem dX11_image_73 : decode cX11_image 73 = .ok (.iload 4, 2) := by decide +kernel
theorem dX11_image_75 : decode cX11_image 75 = .ok (.i2l, 1) := by decide +kernel
theorem dX11_image_76 : decode cX11_image 76 = .ok (.aload_n 0, 1) := by decide +kernel
theorem dX11_image_77 : decode cX11_image 77 = .ok (.aload_n 0, 1) := by decide +kernel
theorem dX11_image_78 : decode cX11_image 78 = .ok (.iload_n 1, 1) := by decide +kernel
theorem dX11_image_79 : decode cX11_image 79 = .ok (.invokevirtual 174, 3) := by decide +kernel
theorem dX11_image_82 : decode cX11_image 82 = .ok (.invokevirtual 162, 3) := by decide +kernel
theorem dX11_image_85 : decode cX11_image 85 = .ok (.invokevirtual 184, 3) := by decide +kernel
theorem dX11_image_88 : decode cX11_image 88 = .ok (.aload_n 0, 1) := by decide +kernel
theorem dX11_image_89 : decode cX11_image 89 = .ok (.iload_n 1, 1) := by decide +kernel
theorem dX11_image_90 : decode cX11_image 90 = .ok (.aload_n 0, 1) := by decide +kernel
theorem dX11_image_91 : decode cX11_image 91 = .ok (.getfield 41, 3) := by decide +kernel
theorem dX11_image_94 : decode cX11_image 94 = .ok (.aload_n 0, 1) := by decide +kernel
theorem dX11_image_95 : decode cX11_image 95 = .ok (.getfield 38, 3) := by decide +kernel
theorem dX11_image_98 : decode cX11_image 98 = .ok (.invokevirtual 191, 3) := by decide +kernel
theorem dX11_image_101 : decode cX11_image 101 = .ok (.aload_n 0, 1) := by decide +kernel
theorem dX11_image_102 : decode cX11_image 102 = .ok (.getfield 38, 3) := by decide +kernel
theorem dX11_image_105 : decode cX11_image 105 = .ok (.aload_n 0, 1) := by decide +kernel
theorem dX11_image_106 : decode cX11_image 106 = .ok (.getfield 23, 3) := by decide +kernel
theorem dX11_image_109 : decode cX11_image 109 = .ok (.iconst 0, 1) := by decide +kernel
theorem dX11_image_110 : decode cX11_image 110 = .ok (.aload_n 0, 1) := by decide +kernel
theorem dX11_image_111 : decode cX11_image 111 = .ok (.aload_n 0, 1) := by decide +kernel
theorem dX11_image_112 : decode cX11_image 112 = .ok (.iload_n 1, 1) := by decide +kernel
theorem dX11_image_113 : decode cX11_image 113 = .ok (.invokevirtual 181, 3) := by decide +kernel
theorem dX11_image_116 : decode cX11_image 116 = .ok (.invokevirtual 162, 3) := by decide +kernel
theorem dX11_image_119 : decode cX11_image 119 = .ok (.invokestatic 195, 3) := by decide +kernel
theorem dX11_image_122 : decode cX11_image 122 = .ok (.aload_n 0, 1) := by decide +kernel
theorem dX11_image_123 : decode cX11_image 123 = .ok (.getfield 38, 3) := by decide +kernel
theorem dX11_image_126 : decode cX11_image 126 = .ok (.iload 5, 2) := by decide +kernel
theorem dX11_image_128 : decode cX11_image 128 = .ok (.laload, 1) := by decide +kernel
theorem dX11_image_129 : decode cX11_image 129 = .ok (.lreturn, 1) := by decide +kernel
theorem dX11_part_0 : decode cX11_part 0 = .ok (.aload_n 0, 1) := by decide +kernel
theorem dX11_part_1 : decode cX11_part 1 = .ok (.iload_n 1, 1) := by decide +kernel
theorem dX11_part_2 : decode cX11_part 2 = .ok (.invokevirtual 215, 3) := by decide +kernel
theorem dX11_part_5 : decode cX11_part 5 = .ok (.ifCond .eq 20, 3) := by decide +kernel
theorem dX11_part_8 : decode cX11_part 8 = .ok (.iload_n 2, 1) := by decide +kernel
theorem dX11_part_9 : decode cX11_part 9 = .ok (.i2l, 1) := by decide +kernel
theorem dX11_part_10 : decode cX11_part 10 = .ok (.lconst 0, 1) := by decide +kernel
theorem dX11_part_11 : decode cX11_part 11 = .ok (.ldc2_w 319, 3) := by decide +kernel
theorem dX11_part_14 : decode cX11_part 14 = .ok (.invokestatic 123, 3) := by decide +kernel
theorem dX11_part_17 : decode cX11_part 17 = .ok (.ifCond .eq 8, 3) := by decide +kernel
theorem dX11_part_20 : decode cX11_part 20 = .ok (.iload_n 3, 1) := by decide +kernel
theorem dX11_part_21 : decode cX11_part 21 = .ok (.iconst (-1), 1) := by decide +kernel
theorem dX11_part_22 : decode cX11_part 22 = .ok (.if_icmp .ge 5, 3) := by decide +kernel
theorem dX11_part_25 : decode cX11_part 25 = .ok (.iconst (-1), 1) := by decide +kernel
theorem dX11_part_26 : decode cX11_part 26 = .ok (.ireturn, 1) := by decide +kernel
theorem dX11_part_27 : decode cX11_part 27 = .ok (.aload_n 0, 1) := by decide +kernel
theorem dX11_part_28 : decode cX11_part 28 = .ok (.iload_n 1, 1) := by decide +kernel
theorem dX11_part_29 : decode cX11_part 29 = .ok (.invokevirtual 307, 3) := by decide +kernel
theorem dX11_part_32 : decode cX11_part 32 = .ok (.ifCond .ne 6, 3) := by decide +kernel
theorem dX11_part_35 : decode cX11_part 35 = .ok (.bipush (-4), 2) := by decide +kernel
theorem dX11_part_37 : decode cX11_part 37 = .ok (.ireturn, 1) := by decide +kernel
theorem dX11_part_38 : decode cX11_part 38 = .ok (.aload_n 0, 1) := by decide +kernel
theorem dX11_part_39 : decode cX11_part 39 = .ok (.iload_n 1, 1) := by decide +kernel
theorem dX11_part_40 : decode cX11_part 40 = .ok (.invokevirtual 310, 3) := by decide +kernel
theorem dX11_part_43 : decode cX11_part 43 = .ok (.aload_n 0, 1) := by decide +kernel
theorem dX11_part_44 : decode cX11_part 44 = .ok (.aload_n 0, 1) := by decide +kernel
theorem dX11_part_45 : decode cX11_part 45 = .ok (.iload_n 1, 1) := by decide +kernel
theorem dX11_part_46 : decode cX11_part 46 = .ok (.invokevirtual 181, 3) := by decide +kernel
theorem dX11_part_49 : decode cX11_part 49 = .ok (.invokevirtual 162, 3) := by decide +kernel
theorem dX11_part_52 : decode cX11_part 52 = .ok (.istore 4, 2) := by decide +kernel
theorem dX11_part_54 : decode cX11_part 54 = .ok (.iload_n 2, 1) := by decide +kernel
theorem dX11_part_55 : decode cX11_part 55 = .ok (.ifCond .ne 40, 3) := by decide +kernel
theorem dX11_part_58 : decode cX11_part 58 = .ok (.aload_n 0, 1) := by decide +kernel
theorem dX11_part_59 : decode cX11_part 59 = .ok (.aload_n 0, 1) := by decide +kernel
theorem dX11_part_60 : decode cX11_part 60 = .ok (.iload_n 1, 1) := by decide +kernel
theorem dX11_part_61 : decode cX11_part 61 = .ok (.invokevirtual 174, 3) := by decide +kernel
theorem dX11_part_64 : decode cX11_part 64 = .ok (.aload_n 0, 1) := by decide +kernel
theorem dX11_part_65 : decode cX11_part 65 = .ok (.getfield 23, 3) := by decide +kernel
theorem dX11_part_68 : decode cX11_part 68 = .ok (.invokevirtual 188, 3) := by decide +kernel
theorem dX11_part_71 : decode cX11_part 71 = .ok (.aload_n 0, 1) := by decide +kernel
theorem dX11_part_72 : decode cX11_part 72 = .ok (.aload_n 0, 1) := by decide +kernel
theorem dX11_part_73 : decode cX11_part 73 = .ok (.getfield 26, 3) := by decide +kernel
theorem dX11_part_76 : decode cX11_part 76 = .ok (.aload_n 0, 1) := by decide +kernel
theorem dX11_part_77 : decode cX11_part 77 = .ok (.getfield 23, 3) := by decide +kernel
theorem dX11_part_80 : decode cX11_part 80 = .ok (.aload_n 0, 1) := by decide +kernel
theorem dX11_part_81 : decode cX11_part 81 = .ok (.aload_n 0, 1) := by decide +kernel
theorem dX11_part_82 : decode cX11_part 82 = .ok (.iload_n 1, 1) := by decide +kernel
theorem dX11_part_83 : decode cX11_part 83 = .ok (.invokevirtual 174, 3) := by decide +kernel
theorem dX11_part_86 : decode cX11_part 86 = .ok (.invokevirtual 162, 3) := by decide +kernel
theorem dX11_part_89 : decode cX11_part 89 = .ok (.invokevirtual 321, 3) := by decide +kernel
theorem dX11_part_92 : decode cX11_part 92 = .ok (.goto 98, 3) := by decide +kernel
theorem dX11_part_95 : decode cX11_part 95 = .ok (.iload_n 2, 1) := by decide +kernel
theorem dX11_part_96 : decode cX11_part 96 = .ok (.iconst 1, 1) := by decide +kernel
theorem dX11_part_97 : decode cX11_part 97 = .ok (.if_icmp .ne 33, 3) := by decide +kernel
theorem dX11_part_100 : decode cX11_part 100 = .ok (.aload_n 0, 1) := by decide +kernel
theorem dX11_part_101 : decode cX11_part 101 = .ok (.aload_n 0, 1) := by decide +kernel
theorem dX11_part_102 : decode cX11_part 102 = .ok (.iload_n 1, 1) := by decide +kernel
theorem dX11_part_103 : decode cX11_part 103 = .ok (.invokevirtual 181, 3) := by decide +kernel
theorem dX11_part_106 : decode cX11_part 106 = .ok (.aload_n 0, 1) := by decide +kernel
theorem dX11_part_107 : decode cX11_part 107 = .ok (.getfield 23, 3) := by decide +kernel
theorem dX11_part_110 : decode cX11_part 110 = .ok (.invokevirtual 188, 3) := by decide +kernel
theorem dX11_part_113 : decode cX11_part 113 = .ok (.aload_n 0, 1) := by decide +kernel
theorem dX11_part_114 : decode cX11_part 114 = .ok (.aload_n 0, 1) := by decide +kernel
theorem dX11_part_115 : decode cX11_part 115 = .ok (.getfield 29, 3) := by decide +kernel
theorem dX11_part_118 : decode cX11_part 118 = .ok (.aload_n 0, 1) := by decide +kernel
theorem dX11_part_119 : decode cX11_part 119 = .ok (.getfield 23, 3) := by decide +kernel
theorem dX11_part_122 : decode cX11_part 122 = .ok (.iload 4, 2) := by decide +kernel
theorem dX11_part_124 : decode cX11_part 124 = .ok (.invokevirtual 321, 3) := by decide +kernel
theorem dX11_part_127 : decode cX11_part 127 = .ok (.goto 63, 3) := by decide +kernel
theorem dX11_part_130 : decode cX11_part 130 = .ok (.iconst 0, 1) := by decide +kernel
theorem dX11_part_131 : decode cX11_part 131 = .ok (.istore 5, 2) := by decide +kernel
theorem dX11_part_133 : decode cX11_part 133 = .ok (.iload 5, 2) := by decide +kernel
theorem dX11_part_135 : decode cX11_part 135 = .ok (.bipush 36, 2) := by decide +kernel
theorem dX11_part_137 : decode cX11_part 137 = .ok (.if_icmp .ge 39, 3) := by decide +kernel
theorem dX11_part_140 : decode cX11_part 140 = .ok (.aload_n 0, 1) := by decide +kernel
theorem dX11_part_141 : decode cX11_part 141 = .ok (.getfield 23, 3) := by decide +kernel
theorem dX11_part_144 : decode cX11_part 144 = .ok (.iload 5, 2) := by decide +kernel
theorem dX11_part_146 : decode cX11_part 146 = .ok (.iload 5, 2) := by decide +kernel
theorem dX11_part_148 : decode cX11_part 148 = .ok (.bipush 6, 2) := by decide +kernel
theorem dX11_part_150 : decode cX11_part 150 = .ok (.idiv, 1) := by decide +kernel
theorem dX11_part_151 : decode cX11_part 151 = .ok (.iload 4, 2) := by decide +kernel
theorem dX11_part_153 : decode cX11_part 153 = .ok (.if_icmp .ge 15, 3) := by decide +kernel
theorem dX11_part_156 : decode cX11_part 156 = .ok (.iload 5, 2) := by decide +kernel
theorem dX11_part_158 : decode cX11_part 158 = .ok (.bipush 7, 2) := by decide +kernel
theorem dX11_part_160 : decode cX11_part 160 = .ok (.irem, 1) := by decide +kernel
theorem dX11_part_161 : decode cX11_part 161 = .ok (.ifCond .ne 7, 3) := by decide +kernel
theorem dX11_part_164 : decode cX11_part 164 = .ok (.lconst 1, 1) := by decide +kernel
theorem dX11_part_165 : decode cX11_part 165 = .ok (.goto 4, 3) := by decide +kernel
theorem dX11_part_168 : decode cX11_part 168 = .ok (.lconst 0, 1) := by decide +kernel
theorem dX11_part_169 : decode cX11_part 169 = .ok (.lastore, 1) := by decide +kernel
theorem dX11_part_170 : decode cX11_part 170 = .ok (.iinc 5 1, 3) := by decide +kernel
theorem dX11_part_173 : decode cX11_part 173 = .ok (.goto (-40), 3) := by decide +kernel
theorem dX11_part_176 : decode cX11_part 176 = .ok (.aload_n 0, 1) := by decide +kernel
theorem dX11_part_177 : decode cX11_part 177 = .ok (.aload_n 0, 1) := by decide +kernel
theorem dX11_part_178 : decode cX11_part 178 = .ok (.getfield 23, 3) := by decide +kernel
theorem dX11_part_181 : decode cX11_part 181 = .ok (.aload_n 0, 1) := by decide +kernel
theorem dX11_part_182 : decode cX11_part 182 = .ok (.getfield 29, 3) := by decide +kernel
theorem dX11_part_185 : decode cX11_part 185 = .ok (.iload 4, 2) := by decide +kernel
theorem dX11_part_187 : decode cX11_part 187 = .ok (.invokevirtual 321, 3) := by decide +kernel
theorem dX11_part_190 : decode cX11_part 190 = .ok (.aload_n 0, 1) := by decide +kernel
theorem dX11_part_191 : decode cX11_part 191 = .ok (.iload_n 3, 1) := by decide +kernel
theorem dX11_part_192 : decode cX11_part 192 = .ok (.invokevirtual 290, 3) := by decide +kernel
theorem dX11_part_195 : decode cX11_part 195 = .ok (.ireturn, 1) := by decide +kernel
theorem dX11_comesBack_0 : decode cX11_comesBack 0 = .ok (.aload_n 0, 1) := by decide +kernel
theorem dX11_comesBack_1 : decode cX11_comesBack 1 = .ok (.aload_n 0, 1) := by decide +kernel
theorem dX11_comesBack_2 : decode cX11_comesBack 2 = .ok (.iload_n 1, 1) := by decide +kernel
theorem dX11_comesBack_3 : decode cX11_comesBack 3 = .ok (.invokevirtual 181, 3) := by decide +kernel
theorem dX11_comesBack_6 : decode cX11_comesBack 6 = .ok (.invokevirtual 162, 3) := by decide +kernel
theorem dX11_comesBack_9 : decode cX11_comesBack 9 = .ok (.istore_n 2, 1) := by decide +kernel
theorem dX11_comesBack_10 : decode cX11_comesBack 10 = .ok (.aload_n 0, 1) := by decide +kernel
theorem dX11_comesBack_11 : decode cX11_comesBack 11 = .ok (.aload_n 0, 1) := by decide +kernel
theorem dX11_comesBack_12 : decode cX11_comesBack 12 = .ok (.iload_n 1, 1) := by decide +kernel
theorem dX11_comesBack_13 : decode cX11_comesBack 13 = .ok (.invokevirtual 174, 3) := by decide +kernel
theorem dX11_comesBack_16 : decode cX11_comesBack 16 = .ok (.invokevirtual 162, 3) := by decide +kernel
theorem dX11_comesBack_19 : decode cX11_comesBack 19 = .ok (.istore_n 3, 1) := by decide +kernel
theorem dX11_comesBack_20 : decode cX11_comesBack 20 = .ok (.aload_n 0, 1) := by decide +kernel
theorem dX11_comesBack_21 : decode cX11_comesBack 21 = .ok (.iload_n 1, 1) := by decide +kernel
theorem dX11_comesBack_22 : decode cX11_comesBack 22 = .ok (.invokevirtual 310, 3) := by decide +kernel
theorem dX11_comesBack_25 : decode cX11_comesBack 25 = .ok (.iconst 0, 1) := by decide +kernel
theorem dX11_comesBack_26 : decode cX11_comesBack 26 = .ok (.istore 4, 2) := by decide +kernel
theorem dX11_comesBack_28 : decode cX11_comesBack 28 = .ok (.iload 4, 2) := by decide +kernel
theorem dX11_comesBack_30 : decode cX11_comesBack 30 = .ok (.bipush 6, 2) := by decide +kernel
theorem dX11_comesBack_32 : decode cX11_comesBack 32 = .ok (.if_icmp .ge 33, 3) := by decide +kernel
theorem dX11_comesBack_35 : decode cX11_comesBack 35 = .ok (.aload_n 0, 1) := by decide +kernel
theorem dX11_comesBack_36 : decode cX11_comesBack 36 = .ok (.getfield 41, 3) := by decide +kernel
theorem dX11_comesBack_39 : decode cX11_comesBack 39 = .ok (.iload 4, 2) := by decide +kernel
theorem dX11_comesBack_41 : decode cX11_comesBack 41 = .ok (.iload 4, 2) := by decide +kernel
theorem dX11_comesBack_43 : decode cX11_comesBack 43 = .ok (.iload_n 2, 1) := by decide +kernel
theorem dX11_comesBack_44 : decode cX11_comesBack 44 = .ok (.if_icmp .ge 13, 3) := by decide +kernel
theorem dX11_comesBack_47 : decode cX11_comesBack 47 = .ok (.aload_n 0, 1) := by decide +kernel
theorem dX11_comesBack_48 : decode cX11_comesBack 48 = .ok (.getfield 56, 3) := by decide +kernel
theorem dX11_comesBack_51 : decode cX11_comesBack 51 = .ok (.iload 4, 2) := by decide +kernel
theorem dX11_comesBack_53 : decode cX11_comesBack 53 = .ok (.laload, 1) := by decide +kernel
theorem dX11_comesBack_54 : decode cX11_comesBack 54 = .ok (.goto 4, 3) := by decide +kernel
theorem dX11_comesBack_57 : decode cX11_comesBack 57 = .ok (.lconst 0, 1) := by decide +kernel
theorem dX11_comesBack_58 : decode cX11_comesBack 58 = .ok (.lastore, 1) := by decide +kernel
theorem dX11_comesBack_59 : decode cX11_comesBack 59 = .ok (.iinc 4 1, 3) := by decide +kernel
theorem dX11_comesBack_62 : decode cX11_comesBack 62 = .ok (.goto (-34), 3) := by decide +kernel
theorem dX11_comesBack_65 : decode cX11_comesBack 65 = .ok (.iconst 0, 1) := by decide +kernel
theorem dX11_comesBack_66 : decode cX11_comesBack 66 = .ok (.istore 4, 2) := by decide +kernel
theorem dX11_comesBack_68 : decode cX11_comesBack 68 = .ok (.iload 4, 2) := by decide +kernel
theorem dX11_comesBack_70 : decode cX11_comesBack 70 = .ok (.iload_n 2, 1) := by decide +kernel
theorem dX11_comesBack_71 : decode cX11_comesBack 71 = .ok (.if_icmp .ge 62, 3) := by decide +kernel
theorem dX11_comesBack_74 : decode cX11_comesBack 74 = .ok (.aload_n 0, 1) := by decide +kernel
theorem dX11_comesBack_75 : decode cX11_comesBack 75 = .ok (.getfield 32, 3) := by decide +kernel
theorem dX11_comesBack_78 : decode cX11_comesBack 78 = .ok (.bipush 7, 2) := by decide +kernel
theorem dX11_comesBack_80 : decode cX11_comesBack 80 = .ok (.iload 4, 2) := by decide +kernel
theorem dX11_comesBack_82 : decode cX11_comesBack 82 = .ok (.imul, 1) := by decide +kernel
theorem dX11_comesBack_83 : decode cX11_comesBack 83 = .ok (.laload, 1) := by decide +kernel
theorem dX11_comesBack_84 : decode cX11_comesBack 84 = .ok (.lconst 0, 1) := by decide +kernel
theorem dX11_comesBack_85 : decode cX11_comesBack 85 = .ok (.lcmp, 1) := by decide +kernel
theorem dX11_comesBack_86 : decode cX11_comesBack 86 = .ok (.ifCond .ne 6, 3) := by decide +kernel
theorem dX11_comesBack_89 : decode cX11_comesBack 89 = .ok (.goto 38, 3) := by decide +kernel
theorem dX11_comesBack_92 : decode cX11_comesBack 92 = .ok (.aload_n 0, 1) := by decide +kernel
theorem dX11_comesBack_93 : decode cX11_comesBack 93 = .ok (.aload_n 0, 1) := by decide +kernel
theorem dX11_comesBack_94 : decode cX11_comesBack 94 = .ok (.getfield 41, 3) := by decide +kernel
theorem dX11_comesBack_97 : decode cX11_comesBack 97 = .ok (.iconst 0, 1) := by decide +kernel
theorem dX11_comesBack_98 : decode cX11_comesBack 98 = .ok (.aload_n 0, 1) := by decide +kernel
theorem dX11_comesBack_99 : decode cX11_comesBack 99 = .ok (.getfield 32, 3) := by decide +kernel
theorem dX11_comesBack_102 : decode cX11_comesBack 102 = .ok (.iload 4, 2) := by decide +kernel
theorem dX11_comesBack_104 : decode cX11_comesBack 104 = .ok (.aload_n 0, 1) := by decide +kernel
theorem dX11_comesBack_105 : decode cX11_comesBack 105 = .ok (.getfield 41, 3) := by decide +kernel
theorem dX11_comesBack_108 : decode cX11_comesBack 108 = .ok (.iload 4, 2) := by decide +kernel
theorem dX11_comesBack_110 : decode cX11_comesBack 110 = .ok (.laload, 1) := by decide +kernel
theorem dX11_comesBack_111 : decode cX11_comesBack 111 = .ok (.aload_n 0, 1) := by decide +kernel
theorem dX11_comesBack_112 : decode cX11_comesBack 112 = .ok (.getfield 32, 3) := by decide +kernel
theorem dX11_comesBack_115 : decode cX11_comesBack 115 = .ok (.bipush 7, 2) := by decide +kernel
theorem dX11_comesBack_117 : decode cX11_comesBack 117 = .ok (.iload 4, 2) := by decide +kernel
theorem dX11_comesBack_119 : decode cX11_comesBack 119 = .ok (.imul, 1) := by decide +kernel
theorem dX11_comesBack_120 : decode cX11_comesBack 120 = .ok (.laload, 1) := by decide +kernel
theorem dX11_comesBack_121 : decode cX11_comesBack 121 = .ok (.invokestatic 158, 3) := by decide +kernel
theorem dX11_comesBack_124 : decode cX11_comesBack 124 = .ok (.invokevirtual 148, 3) := by decide +kernel
theorem dX11_comesBack_127 : decode cX11_comesBack 127 = .ok (.iinc 4 1, 3) := by decide +kernel
theorem dX11_comesBack_130 : decode cX11_comesBack 130 = .ok (.goto (-62), 3) := by decide +kernel
theorem dX11_comesBack_133 : decode cX11_comesBack 133 = .ok (.aload_n 0, 1) := by decide +kernel
theorem dX11_comesBack_134 : decode cX11_comesBack 134 = .ok (.getfield 41, 3) := by decide +kernel
theorem dX11_comesBack_137 : decode cX11_comesBack 137 = .ok (.iconst 0, 1) := by decide +kernel
theorem dX11_comesBack_138 : decode cX11_comesBack 138 = .ok (.iload_n 2, 1) := by decide +kernel
theorem dX11_comesBack_139 : decode cX11_comesBack 139 = .ok (.invokestatic 199, 3) := by decide +kernel
theorem dX11_comesBack_142 : decode cX11_comesBack 142 = .ok (.istore 4, 2) := by decide +kernel
theorem dX11_comesBack_144 : decode cX11_comesBack 144 = .ok (.iconst 0, 1) := by decide +kernel
theorem dX11_comesBack_145 : decode cX11_comesBack 145 = .ok (.istore 5, 2) := by decide +kernel
theorem dX11_comesBack_147 : decode cX11_comesBack 147 = .ok (.iload 5, 2) := by decide +kernel
theorem dX11_comesBack_149 : decode cX11_comesBack 149 = .ok (.bipush 6, 2) := by decide +kernel
theorem dX11_comesBack_151 : decode cX11_comesBack 151 = .ok (.if_icmp .ge 36, 3) := by decide +kernel
theorem dX11_comesBack_154 : decode cX11_comesBack 154 = .ok (.aload_n 0, 1) := by decide +kernel
theorem dX11_comesBack_155 : decode cX11_comesBack 155 = .ok (.getfield 56, 3) := by decide +kernel
theorem dX11_comesBack_158 : decode cX11_comesBack 158 = .ok (.iload 5, 2) := by decide +kernel
theorem dX11_comesBack_160 : decode cX11_comesBack 160 = .ok (.iload 5, 2) := by decide +kernel
theorem dX11_comesBack_162 : decode cX11_comesBack 162 = .ok (.iload_n 3, 1) := by decide +kernel
theorem dX11_comesBack_163 : decode cX11_comesBack 163 = .ok (.if_icmp .ge 16, 3) := by decide +kernel
theorem dX11_comesBack_166 : decode cX11_comesBack 166 = .ok (.aload_n 0, 1) := by decide +kernel
theorem dX11_comesBack_167 : decode cX11_comesBack 167 = .ok (.getfield 41, 3) := by decide +kernel
theorem dX11_comesBack_170 : decode cX11_comesBack 170 = .ok (.iload_n 2, 1) := by decide +kernel
theorem dX11_comesBack_171 : decode cX11_comesBack 171 = .ok (.iload 5, 2) := by decide +kernel
theorem dX11_comesBack_173 : decode cX11_comesBack 173 = .ok (.iadd, 1) := by decide +kernel
theorem dX11_comesBack_174 : decode cX11_comesBack 174 = .ok (.laload, 1) := by decide +kernel
theorem dX11_comesBack_175 : decode cX11_comesBack 175 = .ok (.lneg, 1) := by decide +kernel
theorem dX11_comesBack_176 : decode cX11_comesBack 176 = .ok (.goto 4, 3) := by decide +kernel
theorem dX11_comesBack_179 : decode cX11_comesBack 179 = .ok (.lconst 0, 1) := by decide +kernel
theorem dX11_comesBack_180 : decode cX11_comesBack 180 = .ok (.lastore, 1) := by decide +kernel
theorem dX11_comesBack_181 : decode cX11_comesBack 181 = .ok (.iinc 5 1, 3) := by decide +kernel
theorem dX11_comesBack_184 : decode cX11_comesBack 184 = .ok (.goto (-37), 3) := by decide +kernel
theorem dX11_comesBack_187 : decode cX11_comesBack 187 = .ok (.aload_n 0, 1) := by decide +kernel
theorem dX11_comesBack_188 : decode cX11_comesBack 188 = .ok (.getfield 56, 3) := by decide +kernel
theorem dX11_comesBack_191 : decode cX11_comesBack 191 = .ok (.aload_n 0, 1) := by decide +kernel
theorem dX11_comesBack_192 : decode cX11_comesBack 192 = .ok (.getfield 26, 3) := by decide +kernel
theorem dX11_comesBack_195 : decode cX11_comesBack 195 = .ok (.iconst 0, 1) := by decide +kernel
theorem dX11_comesBack_196 : decode cX11_comesBack 196 = .ok (.iload_n 3, 1) := by decide +kernel
theorem dX11_comesBack_197 : decode cX11_comesBack 197 = .ok (.invokestatic 195, 3) := by decide +kernel
theorem dX11_comesBack_200 : decode cX11_comesBack 200 = .ok (.iload 4, 2) := by decide +kernel
theorem dX11_comesBack_202 : decode cX11_comesBack 202 = .ok (.ireturn, 1) := by decide +kernel
theorem dX11_whence_0 : decode cX11_whence 0 = .ok (.aload_n 0, 1) := by decide +kernel
theorem dX11_whence_1 : decode cX11_whence 1 = .ok (.iload_n 1, 1) := by decide +kernel
theorem dX11_whence_2 : decode cX11_whence 2 = .ok (.invokevirtual 215, 3) := by decide +kernel
theorem dX11_whence_5 : decode cX11_whence 5 = .ok (.ifCond .eq 27, 3) := by decide +kernel
theorem dX11_whence_8 : decode cX11_whence 8 = .ok (.iload_n 2, 1) := by decide +kernel
theorem dX11_whence_9 : decode cX11_whence 9 = .ok (.iload_n 3, 1) := by decide +kernel
theorem dX11_whence_10 : decode cX11_whence 10 = .ok (.iload 4, 2) := by decide +kernel
theorem dX11_whence_12 : decode cX11_whence 12 = .ok (.invokestatic 267, 3) := by decide +kernel
theorem dX11_whence_15 : decode cX11_whence 15 = .ok (.ifCond .eq 17, 3) := by decide +kernel
theorem dX11_whence_18 : decode cX11_whence 18 = .ok (.aload_n 0, 1) := by decide +kernel
theorem dX11_whence_19 : decode cX11_whence 19 = .ok (.aload_n 0, 1) := by decide +kernel
theorem dX11_whence_20 : decode cX11_whence 20 = .ok (.iload_n 1, 1) := by decide +kernel
theorem dX11_whence_21 : decode cX11_whence 21 = .ok (.invokevirtual 174, 3) := by decide +kernel
theorem dX11_whence_24 : decode cX11_whence 24 = .ok (.iload 5, 2) := by decide +kernel
theorem dX11_whence_26 : decode cX11_whence 26 = .ok (.invokevirtual 264, 3) := by decide +kernel
theorem dX11_whence_29 : decode cX11_whence 29 = .ok (.ifCond .ne 8, 3) := by decide +kernel
theorem dX11_whence_32 : decode cX11_whence 32 = .ok (.iconst (-1), 1) := by decide +kernel
theorem dX11_whence_33 : decode cX11_whence 33 = .ok (.invokestatic 271, 3) := by decide +kernel
theorem dX11_whence_36 : decode cX11_whence 36 = .ok (.lreturn, 1) := by decide +kernel
theorem dX11_whence_37 : decode cX11_whence 37 = .ok (.aload_n 0, 1) := by decide +kernel
theorem dX11_whence_38 : decode cX11_whence 38 = .ok (.iload_n 1, 1) := by decide +kernel
theorem dX11_whence_39 : decode cX11_whence 39 = .ok (.invokevirtual 307, 3) := by decide +kernel
theorem dX11_whence_42 : decode cX11_whence 42 = .ok (.ifCond .ne 9, 3) := by decide +kernel
theorem dX11_whence_45 : decode cX11_whence 45 = .ok (.bipush (-4), 2) := by decide +kernel
theorem dX11_whence_47 : decode cX11_whence 47 = .ok (.invokestatic 271, 3) := by decide +kernel
theorem dX11_whence_50 : decode cX11_whence 50 = .ok (.lreturn, 1) := by decide +kernel
theorem dX11_whence_51 : decode cX11_whence 51 = .ok (.aload_n 0, 1) := by decide +kernel
theorem dX11_whence_52 : decode cX11_whence 52 = .ok (.aload_n 0, 1) := by decide +kernel
theorem dX11_whence_53 : decode cX11_whence 53 = .ok (.getfield 56, 3) := by decide +kernel
theorem dX11_whence_56 : decode cX11_whence 56 = .ok (.iload_n 2, 1) := by decide +kernel
theorem dX11_whence_57 : decode cX11_whence 57 = .ok (.i2l, 1) := by decide +kernel
theorem dX11_whence_58 : decode cX11_whence 58 = .ok (.iload_n 3, 1) := by decide +kernel
theorem dX11_whence_59 : decode cX11_whence 59 = .ok (.i2l, 1) := by decide +kernel
theorem dX11_whence_60 : decode cX11_whence 60 = .ok (.iload 4, 2) := by decide +kernel
theorem dX11_whence_62 : decode cX11_whence 62 = .ok (.i2l, 1) := by decide +kernel
theorem dX11_whence_63 : decode cX11_whence 63 = .ok (.aload_n 0, 1) := by decide +kernel
theorem dX11_whence_64 : decode cX11_whence 64 = .ok (.aload_n 0, 1) := by decide +kernel
theorem dX11_whence_65 : decode cX11_whence 65 = .ok (.iload_n 1, 1) := by decide +kernel
theorem dX11_whence_66 : decode cX11_whence 66 = .ok (.invokevirtual 181, 3) := by decide +kernel
theorem dX11_whence_69 : decode cX11_whence 69 = .ok (.invokevirtual 162, 3) := by decide +kernel
theorem dX11_whence_72 : decode cX11_whence 72 = .ok (.invokevirtual 184, 3) := by decide +kernel
theorem dX11_whence_75 : decode cX11_whence 75 = .ok (.aload_n 0, 1) := by decide +kernel
theorem dX11_whence_76 : decode cX11_whence 76 = .ok (.iload_n 1, 1) := by decide +kernel
theorem dX11_whence_77 : decode cX11_whence 77 = .ok (.invokevirtual 325, 3) := by decide +kernel
theorem dX11_whence_80 : decode cX11_whence 80 = .ok (.ifCond .eq 13, 3) := by decide +kernel
theorem dX11_whence_83 : decode cX11_whence 83 = .ok (.aload_n 0, 1) := by decide +kernel
theorem dX11_whence_84 : decode cX11_whence 84 = .ok (.getfield 56, 3) := by decide +kernel
theorem dX11_whence_87 : decode cX11_whence 87 = .ok (.iload 5, 2) := by decide +kernel
theorem dX11_whence_89 : decode cX11_whence 89 = .ok (.laload, 1) := by decide +kernel
theorem dX11_whence_90 : decode cX11_whence 90 = .ok (.goto 8, 3) := by decide +kernel
theorem dX11_whence_93 : decode cX11_whence 93 = .ok (.bipush (-3), 2) := by decide +kernel
theorem dX11_whence_95 : decode cX11_whence 95 = .ok (.invokestatic 271, 3) := by decide +kernel
theorem dX11_whence_98 : decode cX11_whence 98 = .ok (.lreturn, 1) := by decide +kernel
theorem dX11_isExact_0 : decode cX11_isExact 0 = .ok (.aload_n 0, 1) := by decide +kernel
theorem dX11_isExact_1 : decode cX11_isExact 1 = .ok (.iload_n 1, 1) := by decide +kernel
theorem dX11_isExact_2 : decode cX11_isExact 2 = .ok (.invokevirtual 310, 3) := by decide +kernel
theorem dX11_isExact_5 : decode cX11_isExact 5 = .ok (.iconst 0, 1) := by decide +kernel
theorem dX11_isExact_6 : decode cX11_isExact 6 = .ok (.istore_n 3, 1) := by decide +kernel
theorem dX11_isExact_7 : decode cX11_isExact 7 = .ok (.iload_n 3, 1) := by decide +kernel
theorem dX11_isExact_8 : decode cX11_isExact 8 = .ok (.bipush 36, 2) := by decide +kernel
theorem dX11_isExact_10 : decode cX11_isExact 10 = .ok (.if_icmp .ge 21, 3) := by decide +kernel
theorem dX11_isExact_13 : decode cX11_isExact 13 = .ok (.aload_n 0, 1) := by decide +kernel
theorem dX11_isExact_14 : decode cX11_isExact 14 = .ok (.getfield 59, 3) := by decide +kernel
theorem dX11_isExact_17 : decode cX11_isExact 17 = .ok (.iload_n 3, 1) := by decide +kernel
theorem dX11_isExact_18 : decode cX11_isExact 18 = .ok (.aload_n 0, 1) := by decide +kernel
theorem dX11_isExact_19 : decode cX11_isExact 19 = .ok (.getfield 29, 3) := by decide +kernel
theorem dX11_isExact_22 : decode cX11_isExact 22 = .ok (.iload_n 3, 1) := by decide +kernel
theorem dX11_isExact_23 : decode cX11_isExact 23 = .ok (.laload, 1) := by decide +kernel
theorem dX11_isExact_24 : decode cX11_isExact 24 = .ok (.lastore, 1) := by decide +kernel
theorem dX11_isExact_25 : decode cX11_isExact 25 = .ok (.iinc 3 1, 3) := by decide +kernel
theorem dX11_isExact_28 : decode cX11_isExact 28 = .ok (.goto (-21), 3) := by decide +kernel
theorem dX11_isExact_31 : decode cX11_isExact 31 = .ok (.aload_n 0, 1) := by decide +kernel
theorem dX11_isExact_32 : decode cX11_isExact 32 = .ok (.iload_n 2, 1) := by decide +kernel
theorem dX11_isExact_33 : decode cX11_isExact 33 = .ok (.invokevirtual 310, 3) := by decide +kernel
theorem dX11_isExact_36 : decode cX11_isExact 36 = .ok (.aload_n 0, 1) := by decide +kernel
theorem dX11_isExact_37 : decode cX11_isExact 37 = .ok (.getfield 59, 3) := by decide +kernel
theorem dX11_isExact_40 : decode cX11_isExact 40 = .ok (.aload_n 0, 1) := by decide +kernel
theorem dX11_isExact_41 : decode cX11_isExact 41 = .ok (.getfield 26, 3) := by decide +kernel
theorem dX11_isExact_44 : decode cX11_isExact 44 = .ok (.invokestatic 303, 3) := by decide +kernel
theorem dX11_isExact_47 : decode cX11_isExact 47 = .ok (.ireturn, 1) := by decide +kernel
theorem dX11_exact_0 : decode cX11_exact 0 = .ok (.aload_n 0, 1) := by decide +kernel
theorem dX11_exact_1 : decode cX11_exact 1 = .ok (.iload_n 1, 1) := by decide +kernel
theorem dX11_exact_2 : decode cX11_exact 2 = .ok (.invokevirtual 215, 3) := by decide +kernel
theorem dX11_exact_5 : decode cX11_exact 5 = .ok (.ifCond .eq 11, 3) := by decide +kernel
theorem dX11_exact_8 : decode cX11_exact 8 = .ok (.aload_n 0, 1) := by decide +kernel
theorem dX11_exact_9 : decode cX11_exact 9 = .ok (.iload_n 2, 1) := by decide +kernel
theorem dX11_exact_10 : decode cX11_exact 10 = .ok (.invokevirtual 215, 3) := by decide +kernel
theorem dX11_exact_13 : decode cX11_exact 13 = .ok (.ifCond .ne 5, 3) := by decide +kernel
theorem dX11_exact_16 : decode cX11_exact 16 = .ok (.iconst (-1), 1) := by decide +kernel
theorem dX11_exact_17 : decode cX11_exact 17 = .ok (.ireturn, 1) := by decide +kernel
theorem dX11_exact_18 : decode cX11_exact 18 = .ok (.aload_n 0, 1) := by decide +kernel
theorem dX11_exact_19 : decode cX11_exact 19 = .ok (.iload_n 1, 1) := by decide +kernel
theorem dX11_exact_20 : decode cX11_exact 20 = .ok (.invokevirtual 307, 3) := by decide +kernel
theorem dX11_exact_23 : decode cX11_exact 23 = .ok (.ifCond .eq 24, 3) := by decide +kernel
theorem dX11_exact_26 : decode cX11_exact 26 = .ok (.aload_n 0, 1) := by decide +kernel
theorem dX11_exact_27 : decode cX11_exact 27 = .ok (.iload_n 2, 1) := by decide +kernel
theorem dX11_exact_28 : decode cX11_exact 28 = .ok (.invokevirtual 307, 3) := by decide +kernel
theorem dX11_exact_31 : decode cX11_exact 31 = .ok (.ifCond .eq 16, 3) := by decide +kernel
theorem dX11_exact_34 : decode cX11_exact 34 = .ok (.aload_n 0, 1) := by decide +kernel
theorem dX11_exact_35 : decode cX11_exact 35 = .ok (.iload_n 1, 1) := by decide +kernel
theorem dX11_exact_36 : decode cX11_exact 36 = .ok (.invokevirtual 181, 3) := by decide +kernel
theorem dX11_exact_39 : decode cX11_exact 39 = .ok (.aload_n 0, 1) := by decide +kernel
theorem dX11_exact_40 : decode cX11_exact 40 = .ok (.iload_n 2, 1) := by decide +kernel
theorem dX11_exact_41 : decode cX11_exact 41 = .ok (.invokevirtual 174, 3) := by decide +kernel
theorem dX11_exact_44 : decode cX11_exact 44 = .ok (.if_icmp .eq 6, 3) := by decide +kernel
theorem dX11_exact_47 : decode cX11_exact 47 = .ok (.bipush (-4), 2) := by decide +kernel
theorem dX11_exact_49 : decode cX11_exact 49 = .ok (.ireturn, 1) := by decide +kernel
theorem dX11_exact_50 : decode cX11_exact 50 = .ok (.aload_n 0, 1) := by decide +kernel
theorem dX11_exact_51 : decode cX11_exact 51 = .ok (.iload_n 1, 1) := by decide +kernel
theorem dX11_exact_52 : decode cX11_exact 52 = .ok (.iload_n 2, 1) := by decide +kernel
theorem dX11_exact_53 : decode cX11_exact 53 = .ok (.invokevirtual 328, 3) := by decide +kernel
theorem dX11_exact_56 : decode cX11_exact 56 = .ok (.ifCond .eq 7, 3) := by decide +kernel
theorem dX11_exact_59 : decode cX11_exact 59 = .ok (.iconst 1, 1) := by decide +kernel
theorem dX11_exact_60 : decode cX11_exact 60 = .ok (.goto 4, 3) := by decide +kernel
theorem dX11_exact_63 : decode cX11_exact 63 = .ok (.iconst 0, 1) := by decide +kernel
theorem dX11_exact_64 : decode cX11_exact 64 = .ok (.ireturn, 1) := by decide +kernel
theorem dX11_feed_0 : decode cX11_feed 0 = .ok (.iload_n 3, 1) := by decide +kernel
theorem dX11_feed_1 : decode cX11_feed 1 = .ok (.i2l, 1) := by decide +kernel
theorem dX11_feed_2 : decode cX11_feed 2 = .ok (.lconst 1, 1) := by decide +kernel
theorem dX11_feed_3 : decode cX11_feed 3 = .ok (.ldc2_w 331, 3) := by decide +kernel
theorem dX11_feed_6 : decode cX11_feed 6 = .ok (.invokestatic 123, 3) := by decide +kernel
theorem dX11_feed_9 : decode cX11_feed 9 = .ok (.ifCond .ne 5, 3) := by decide +kernel
theorem dX11_feed_12 : decode cX11_feed 12 = .ok (.iconst (-1), 1) := by decide +kernel
theorem dX11_feed_13 : decode cX11_feed 13 = .ok (.ireturn, 1) := by decide +kernel
theorem dX11_feed_14 : decode cX11_feed 14 = .ok (.aload_n 0, 1) := by decide +kernel
theorem dX11_feed_15 : decode cX11_feed 15 = .ok (.getfield 333, 3) := by decide +kernel
theorem dX11_feed_18 : decode cX11_feed 18 = .ok (.iload_n 3, 1) := by decide +kernel
theorem dX11_feed_19 : decode cX11_feed 19 = .ok (.iadd, 1) := by decide +kernel
theorem dX11_feed_20 : decode cX11_feed 20 = .ok (.bipush 100, 2) := by decide +kernel
theorem dX11_feed_22 : decode cX11_feed 22 = .ok (.if_icmp .le 6, 3) := by decide +kernel
theorem dX11_feed_25 : decode cX11_feed 25 = .ok (.bipush (-2), 2) := by decide +kernel
theorem dX11_feed_27 : decode cX11_feed 27 = .ok (.ireturn, 1) := by decide +kernel
theorem dX11_feed_28 : decode cX11_feed 28 = .ok (.iconst 0, 1) := by decide +kernel
theorem dX11_feed_29 : decode cX11_feed 29 = .ok (.istore 4, 2) := by decide +kernel
theorem dX11_feed_31 : decode cX11_feed 31 = .ok (.iload 4, 2) := by decide +kernel
theorem dX11_feed_33 : decode cX11_feed 33 = .ok (.iload_n 3, 1) := by decide +kernel
theorem dX11_feed_34 : decode cX11_feed 34 = .ok (.if_icmp .ge 37, 3) := by decide +kernel
theorem dX11_feed_37 : decode cX11_feed 37 = .ok (.aload_n 0, 1) := by decide +kernel
theorem dX11_feed_38 : decode cX11_feed 38 = .ok (.getfield 62, 3) := by decide +kernel
theorem dX11_feed_41 : decode cX11_feed 41 = .ok (.aload_n 0, 1) := by decide +kernel
theorem dX11_feed_42 : decode cX11_feed 42 = .ok (.getfield 333, 3) := by decide +kernel
theorem dX11_feed_45 : decode cX11_feed 45 = .ok (.lload_n 1, 1) := by decide +kernel
theorem dX11_feed_46 : decode cX11_feed 46 = .ok (.bipush 8, 2) := by decide +kernel
theorem dX11_feed_48 : decode cX11_feed 48 = .ok (.iload 4, 2) := by decide +kernel
theorem dX11_feed_50 : decode cX11_feed 50 = .ok (.imul, 1) := by decide +kernel
theorem dX11_feed_51 : decode cX11_feed 51 = .ok (.lushr, 1) := by decide +kernel
theorem dX11_feed_52 : decode cX11_feed 52 = .ok (.l2i, 1) := by decide +kernel
theorem dX11_feed_53 : decode cX11_feed 53 = .ok (.i2b, 1) := by decide +kernel
theorem dX11_feed_54 : decode cX11_feed 54 = .ok (.bastore, 1) := by decide +kernel
theorem dX11_feed_55 : decode cX11_feed 55 = .ok (.aload_n 0, 1) := by decide +kernel
theorem dX11_feed_56 : decode cX11_feed 56 = .ok (.dup, 1) := by decide +kernel
theorem dX11_feed_57 : decode cX11_feed 57 = .ok (.getfield 333, 3) := by decide +kernel
theorem dX11_feed_60 : decode cX11_feed 60 = .ok (.iconst 1, 1) := by decide +kernel
theorem dX11_feed_61 : decode cX11_feed 61 = .ok (.iadd, 1) := by decide +kernel
theorem dX11_feed_62 : decode cX11_feed 62 = .ok (.putfield 333, 3) := by decide +kernel
theorem dX11_feed_65 : decode cX11_feed 65 = .ok (.iinc 4 1, 3) := by decide +kernel
theorem dX11_feed_68 : decode cX11_feed 68 = .ok (.goto (-37), 3) := by decide +kernel
theorem dX11_feed_71 : decode cX11_feed 71 = .ok (.aload_n 0, 1) := by decide +kernel
theorem dX11_feed_72 : decode cX11_feed 72 = .ok (.getfield 333, 3) := by decide +kernel
theorem dX11_feed_75 : decode cX11_feed 75 = .ok (.ireturn, 1) := by decide +kernel
theorem dX11_next_0 : decode cX11_next 0 = .ok (.aload_n 0, 1) := by decide +kernel
theorem dX11_next_1 : decode cX11_next 1 = .ok (.getfield 336, 3) := by decide +kernel
theorem dX11_next_4 : decode cX11_next 4 = .ok (.aload_n 0, 1) := by decide +kernel
theorem dX11_next_5 : decode cX11_next 5 = .ok (.getfield 333, 3) := by decide +kernel
theorem dX11_next_8 : decode cX11_next 8 = .ok (.if_icmp .ge 30, 3) := by decide +kernel
theorem dX11_next_11 : decode cX11_next 11 = .ok (.aload_n 0, 1) := by decide +kernel
theorem dX11_next_12 : decode cX11_next 12 = .ok (.getfield 62, 3) := by decide +kernel
theorem dX11_next_15 : decode cX11_next 15 = .ok (.aload_n 0, 1) := by decide +kernel
theorem dX11_next_16 : decode cX11_next 16 = .ok (.getfield 336, 3) := by decide +kernel
theorem dX11_next_19 : decode cX11_next 19 = .ok (.baload, 1) := by decide +kernel
theorem dX11_next_20 : decode cX11_next 20 = .ok (.bipush 32, 2) := by decide +kernel
theorem dX11_next_22 : decode cX11_next 22 = .ok (.if_icmp .ne 16, 3) := by decide +kernel
theorem dX11_next_25 : decode cX11_next 25 = .ok (.aload_n 0, 1) := by decide +kernel
theorem dX11_next_26 : decode cX11_next 26 = .ok (.dup, 1) := by decide +kernel
theorem dX11_next_27 : decode cX11_next 27 = .ok (.getfield 336, 3) := by decide +kernel
theorem dX11_next_30 : decode cX11_next 30 = .ok (.iconst 1, 1) := by decide +kernel
theorem dX11_next_31 : decode cX11_next 31 = .ok (.iadd, 1) := by decide +kernel
theorem dX11_next_32 : decode cX11_next 32 = .ok (.putfield 336, 3) := by decide +kernel
theorem dX11_next_35 : decode cX11_next 35 = .ok (.goto (-35), 3) := by decide +kernel
theorem dX11_next_38 : decode cX11_next 38 = .ok (.aload_n 0, 1) := by decide +kernel
theorem dX11_next_39 : decode cX11_next 39 = .ok (.getfield 336, 3) := by decide +kernel
theorem dX11_next_42 : decode cX11_next 42 = .ok (.aload_n 0, 1) := by decide +kernel
theorem dX11_next_43 : decode cX11_next 43 = .ok (.getfield 333, 3) := by decide +kernel
theorem dX11_next_46 : decode cX11_next 46 = .ok (.if_icmp .ge 15, 3) := by decide +kernel
theorem dX11_next_49 : decode cX11_next 49 = .ok (.aload_n 0, 1) := by decide +kernel
theorem dX11_next_50 : decode cX11_next 50 = .ok (.getfield 62, 3) := by decide +kernel
theorem dX11_next_53 : decode cX11_next 53 = .ok (.aload_n 0, 1) := by decide +kernel
theorem dX11_next_54 : decode cX11_next 54 = .ok (.getfield 336, 3) := by decide +kernel
theorem dX11_next_57 : decode cX11_next 57 = .ok (.baload, 1) := by decide +kernel
theorem dX11_next_58 : decode cX11_next 58 = .ok (.goto 4, 3) := by decide +kernel
theorem dX11_next_61 : decode cX11_next 61 = .ok (.iconst (-1), 1) := by decide +kernel
theorem dX11_next_62 : decode cX11_next 62 = .ok (.ireturn, 1) := by decide +kernel
theorem dX11_takes_0 : decode cX11_takes 0 = .ok (.aload_n 0, 1) := by decide +kernel
theorem dX11_takes_1 : decode cX11_takes 1 = .ok (.getfield 339, 3) := by decide +kernel
theorem dX11_takes_4 : decode cX11_takes 4 = .ok (.ifCond .ne 15, 3) := by decide +kernel
theorem dX11_takes_7 : decode cX11_takes 7 = .ok (.aload_n 0, 1) := by decide +kernel
theorem dX11_takes_8 : decode cX11_takes 8 = .ok (.invokevirtual 343, 3) := by decide +kernel
theorem dX11_takes_11 : decode cX11_takes 11 = .ok (.iload_n 1, 1) := by decide +kernel
theorem dX11_takes_12 : decode cX11_takes 12 = .ok (.if_icmp .ne 7, 3) := by decide +kernel
theorem dX11_takes_15 : decode cX11_takes 15 = .ok (.iconst 1, 1) := by decide +kernel
theorem dX11_takes_16 : decode cX11_takes 16 = .ok (.goto 4, 3) := by decide +kernel
theorem dX11_takes_19 : decode cX11_takes 19 = .ok (.iconst 0, 1) := by decide +kernel
theorem dX11_takes_20 : decode cX11_takes 20 = .ok (.istore_n 2, 1) := by decide +kernel
theorem dX11_takes_21 : decode cX11_takes 21 = .ok (.aload_n 0, 1) := by decide +kernel
theorem dX11_takes_22 : decode cX11_takes 22 = .ok (.dup, 1) := by decide +kernel
theorem dX11_takes_23 : decode cX11_takes 23 = .ok (.getfield 336, 3) := by decide +kernel
theorem dX11_takes_26 : decode cX11_takes 26 = .ok (.iload_n 2, 1) := by decide +kernel
theorem dX11_takes_27 : decode cX11_takes 27 = .ok (.ifCond .eq 7, 3) := by decide +kernel
theorem dX11_takes_30 : decode cX11_takes 30 = .ok (.iconst 1, 1) := by decide +kernel
theorem dX11_takes_31 : decode cX11_takes 31 = .ok (.goto 4, 3) := by decide +kernel
theorem dX11_takes_34 : decode cX11_takes 34 = .ok (.iconst 0, 1) := by decide +kernel
theorem dX11_takes_35 : decode cX11_takes 35 = .ok (.iadd, 1) := by decide +kernel
theorem dX11_takes_36 : decode cX11_takes 36 = .ok (.putfield 336, 3) := by decide +kernel
theorem dX11_takes_39 : decode cX11_takes 39 = .ok (.iload_n 2, 1) := by decide +kernel
theorem dX11_takes_40 : decode cX11_takes 40 = .ok (.ireturn, 1) := by decide +kernel
theorem dX11_lays_0 : decode cX11_lays 0 = .ok (.aload_n 0, 1) := by decide +kernel
theorem dX11_lays_1 : decode cX11_lays 1 = .ok (.getfield 339, 3) := by decide +kernel
theorem dX11_lays_4 : decode cX11_lays 4 = .ok (.ifCond .ne 23, 3) := by decide +kernel
theorem dX11_lays_7 : decode cX11_lays 7 = .ok (.aload_n 0, 1) := by decide +kernel
theorem dX11_lays_8 : decode cX11_lays 8 = .ok (.getfield 66, 3) := by decide +kernel
theorem dX11_lays_11 : decode cX11_lays 11 = .ok (.aload_n 0, 1) := by decide +kernel
theorem dX11_lays_12 : decode cX11_lays 12 = .ok (.getfield 346, 3) := by decide +kernel
theorem dX11_lays_15 : decode cX11_lays 15 = .ok (.iload_n 1, 1) := by decide +kernel
theorem dX11_lays_16 : decode cX11_lays 16 = .ok (.iastore, 1) := by decide +kernel
theorem dX11_lays_17 : decode cX11_lays 17 = .ok (.aload_n 0, 1) := by decide +kernel
theorem dX11_lays_18 : decode cX11_lays 18 = .ok (.dup, 1) := by decide +kernel
theorem dX11_lays_19 : decode cX11_lays 19 = .ok (.getfield 346, 3) := by decide +kernel
theorem dX11_lays_22 : decode cX11_lays 22 = .ok (.iconst 1, 1) := by decide +kernel
theorem dX11_lays_23 : decode cX11_lays 23 = .ok (.iadd, 1) := by decide +kernel
theorem dX11_lays_24 : decode cX11_lays 24 = .ok (.putfield 346, 3) := by decide +kernel
theorem dX11_lays_27 : decode cX11_lays 27 = .ok (.return_, 1) := by decide +kernel
theorem dX11_one_0 : decode cX11_one 0 = .ok (.aload_n 0, 1) := by decide +kernel
theorem dX11_one_1 : decode cX11_one 1 = .ok (.invokevirtual 343, 3) := by decide +kernel
theorem dX11_one_4 : decode cX11_one 4 = .ok (.bipush 48, 2) := by decide +kernel
theorem dX11_one_6 : decode cX11_one 6 = .ok (.isub, 1) := by decide +kernel
theorem dX11_one_7 : decode cX11_one 7 = .ok (.istore_n 1, 1) := by decide +kernel
theorem dX11_one_8 : decode cX11_one 8 = .ok (.iload_n 1, 1) := by decide +kernel
theorem dX11_one_9 : decode cX11_one 9 = .ok (.i2l, 1) := by decide +kernel
theorem dX11_one_10 : decode cX11_one 10 = .ok (.lconst 0, 1) := by decide +kernel
theorem dX11_one_11 : decode cX11_one 11 = .ok (.ldc2_w 220, 3) := by decide +kernel
theorem dX11_one_14 : decode cX11_one 14 = .ok (.invokestatic 123, 3) := by decide +kernel
theorem dX11_one_17 : decode cX11_one 17 = .ok (.istore_n 2, 1) := by decide +kernel
theorem dX11_one_18 : decode cX11_one 18 = .ok (.aload_n 0, 1) := by decide +kernel
theorem dX11_one_19 : decode cX11_one 19 = .ok (.dup, 1) := by decide +kernel
theorem dX11_one_20 : decode cX11_one 20 = .ok (.getfield 336, 3) := by decide +kernel
theorem dX11_one_23 : decode cX11_one 23 = .ok (.iload_n 2, 1) := by decide +kernel
theorem dX11_one_24 : decode cX11_one 24 = .ok (.ifCond .eq 7, 3) := by decide +kernel
theorem dX11_one_27 : decode cX11_one 27 = .ok (.iconst 1, 1) := by decide +kernel
theorem dX11_one_28 : decode cX11_one 28 = .ok (.goto 4, 3) := by decide +kernel
theorem dX11_one_31 : decode cX11_one 31 = .ok (.iconst 0, 1) := by decide +kernel
theorem dX11_one_32 : decode cX11_one 32 = .ok (.iadd, 1) := by decide +kernel
theorem dX11_one_33 : decode cX11_one 33 = .ok (.putfield 336, 3) := by decide +kernel
theorem dX11_one_36 : decode cX11_one 36 = .ok (.aload_n 0, 1) := by decide +kernel
theorem dX11_one_37 : decode cX11_one 37 = .ok (.invokevirtual 343, 3) := by decide +kernel
theorem dX11_one_40 : decode cX11_one 40 = .ok (.bipush 97, 2) := by decide +kernel
theorem dX11_one_42 : decode cX11_one 42 = .ok (.isub, 1) := by decide +kernel
theorem dX11_one_43 : decode cX11_one 43 = .ok (.istore_n 3, 1) := by decide +kernel
theorem dX11_one_44 : decode cX11_one 44 = .ok (.iload_n 3, 1) := by decide +kernel
theorem dX11_one_45 : decode cX11_one 45 = .ok (.i2l, 1) := by decide +kernel
theorem dX11_one_46 : decode cX11_one 46 = .ok (.lconst 0, 1) := by decide +kernel
theorem dX11_one_47 : decode cX11_one 47 = .ok (.ldc2_w 127, 3) := by decide +kernel
theorem dX11_one_50 : decode cX11_one 50 = .ok (.invokestatic 123, 3) := by decide +kernel
theorem dX11_one_53 : decode cX11_one 53 = .ok (.ifCond .eq 21, 3) := by decide +kernel
theorem dX11_one_56 : decode cX11_one 56 = .ok (.aload_n 0, 1) := by decide +kernel
theorem dX11_one_57 : decode cX11_one 57 = .ok (.dup, 1) := by decide +kernel
theorem dX11_one_58 : decode cX11_one 58 = .ok (.getfield 336, 3) := by decide +kernel
theorem dX11_one_61 : decode cX11_one 61 = .ok (.iconst 1, 1) := by decide +kernel
theorem dX11_one_62 : decode cX11_one 62 = .ok (.iadd, 1) := by decide +kernel
theorem dX11_one_63 : decode cX11_one 63 = .ok (.putfield 336, 3) := by decide +kernel
theorem dX11_one_66 : decode cX11_one 66 = .ok (.aload_n 0, 1) := by decide +kernel
theorem dX11_one_67 : decode cX11_one 67 = .ok (.iload_n 3, 1) := by decide +kernel
theorem dX11_one_68 : decode cX11_one 68 = .ok (.invokevirtual 349, 3) := by decide +kernel
theorem dX11_one_71 : decode cX11_one 71 = .ok (.goto 77, 3) := by decide +kernel
theorem dX11_one_74 : decode cX11_one 74 = .ok (.aload_n 0, 1) := by decide +kernel
theorem dX11_one_75 : decode cX11_one 75 = .ok (.getfield 352, 3) := by decide +kernel
theorem dX11_one_78 : decode cX11_one 78 = .ok (.iconst 4, 1) := by decide +kernel
theorem dX11_one_79 : decode cX11_one 79 = .ok (.if_icmp .ge 64, 3) := by decide +kernel
theorem dX11_one_82 : decode cX11_one 82 = .ok (.aload_n 0, 1) := by decide +kernel
theorem dX11_one_83 : decode cX11_one 83 = .ok (.bipush 40, 2) := by decide +kernel
theorem dX11_one_85 : decode cX11_one 85 = .ok (.invokevirtual 355, 3) := by decide +kernel
theorem dX11_one_88 : decode cX11_one 88 = .ok (.ifCond .eq 55, 3) := by decide +kernel
theorem dX11_one_91 : decode cX11_one 91 = .ok (.aload_n 0, 1) := by decide +kernel
theorem dX11_one_92 : decode cX11_one 92 = .ok (.dup, 1) := by decide +kernel
theorem dX11_one_93 : decode cX11_one 93 = .ok (.getfield 352, 3) := by decide +kernel
theorem dX11_one_96 : decode cX11_one 96 = .ok (.iconst 1, 1) := by decide +kernel
theorem dX11_one_97 : decode cX11_one 97 = .ok (.iadd, 1) := by decide +kernel
theorem dX11_one_98 : decode cX11_one 98 = .ok (.putfield 352, 3) := by decide +kernel
theorem dX11_one_101 : decode cX11_one 101 = .ok (.aload_n 0, 1) := by decide +kernel
theorem dX11_one_102 : decode cX11_one 102 = .ok (.invokevirtual 358, 3) := by decide +kernel
theorem dX11_one_105 : decode cX11_one 105 = .ok (.aload_n 0, 1) := by decide +kernel
theorem dX11_one_106 : decode cX11_one 106 = .ok (.aload_n 0, 1) := by decide +kernel
theorem dX11_one_107 : decode cX11_one 107 = .ok (.getfield 339, 3) := by decide +kernel
theorem dX11_one_110 : decode cX11_one 110 = .ok (.ifCond .ne 12, 3) := by decide +kernel
theorem dX11_one_113 : decode cX11_one 113 = .ok (.aload_n 0, 1) := by decide +kernel
theorem dX11_one_114 : decode cX11_one 114 = .ok (.bipush 41, 2) := by decide +kernel
theorem dX11_one_116 : decode cX11_one 116 = .ok (.invokevirtual 355, 3) := by decide +kernel
theorem dX11_one_119 : decode cX11_one 119 = .ok (.ifCond .ne 7, 3) := by decide +kernel
theorem dX11_one_122 : decode cX11_one 122 = .ok (.iconst 1, 1) := by decide +kernel
theorem dX11_one_123 : decode cX11_one 123 = .ok (.goto 4, 3) := by decide +kernel
theorem dX11_one_126 : decode cX11_one 126 = .ok (.iconst 0, 1) := by decide +kernel
theorem dX11_one_127 : decode cX11_one 127 = .ok (.putfield 339, 3) := by decide +kernel
theorem dX11_one_130 : decode cX11_one 130 = .ok (.aload_n 0, 1) := by decide +kernel
theorem dX11_one_131 : decode cX11_one 131 = .ok (.dup, 1) := by decide +kernel
theorem dX11_one_132 : decode cX11_one 132 = .ok (.getfield 352, 3) := by decide +kernel
theorem dX11_one_135 : decode cX11_one 135 = .ok (.iconst 1, 1) := by decide +kernel
theorem dX11_one_136 : decode cX11_one 136 = .ok (.isub, 1) := by decide +kernel
theorem dX11_one_137 : decode cX11_one 137 = .ok (.putfield 352, 3) := by decide +kernel
theorem dX11_one_140 : decode cX11_one 140 = .ok (.goto 8, 3) := by decide +kernel
theorem dX11_one_143 : decode cX11_one 143 = .ok (.aload_n 0, 1) := by decide +kernel
theorem dX11_one_144 : decode cX11_one 144 = .ok (.iconst 1, 1) := by decide +kernel
theorem dX11_one_145 : decode cX11_one 145 = .ok (.putfield 339, 3) := by decide +kernel
theorem dX11_one_148 : decode cX11_one 148 = .ok (.iload_n 2, 1) := by decide +kernel
theorem dX11_one_149 : decode cX11_one 149 = .ok (.ifCond .eq 11, 3) := by decide +kernel
theorem dX11_one_152 : decode cX11_one 152 = .ok (.aload_n 0, 1) := by decide +kernel
theorem dX11_one_153 : decode cX11_one 153 = .ok (.bipush 20, 2) := by decide +kernel
theorem dX11_one_155 : decode cX11_one 155 = .ok (.iload_n 1, 1) := by decide +kernel
theorem dX11_one_156 : decode cX11_one 156 = .ok (.iadd, 1) := by decide +kernel
theorem dX11_one_157 : decode cX11_one 157 = .ok (.invokevirtual 349, 3) := by decide +kernel
theorem dX11_one_160 : decode cX11_one 160 = .ok (.return_, 1) := by decide +kernel
theorem dX11_chain_0 : decode cX11_chain 0 = .ok (.aload_n 0, 1) := by decide +kernel
theorem dX11_chain_1 : decode cX11_chain 1 = .ok (.invokevirtual 361, 3) := by decide +kernel
theorem dX11_chain_4 : decode cX11_chain 4 = .ok (.aload_n 0, 1) := by decide +kernel
theorem dX11_chain_5 : decode cX11_chain 5 = .ok (.bipush 46, 2) := by decide +kernel
theorem dX11_chain_7 : decode cX11_chain 7 = .ok (.invokevirtual 355, 3) := by decide +kernel
theorem dX11_chain_10 : decode cX11_chain 10 = .ok (.ifCond .eq 16, 3) := by decide +kernel
theorem dX11_chain_13 : decode cX11_chain 13 = .ok (.aload_n 0, 1) := by decide +kernel
theorem dX11_chain_14 : decode cX11_chain 14 = .ok (.invokevirtual 361, 3) := by decide +kernel
theorem dX11_chain_17 : decode cX11_chain 17 = .ok (.aload_n 0, 1) := by decide +kernel
theorem dX11_chain_18 : decode cX11_chain 18 = .ok (.bipush 40, 2) := by decide +kernel
theorem dX11_chain_20 : decode cX11_chain 20 = .ok (.invokevirtual 349, 3) := by decide +kernel
theorem dX11_chain_23 : decode cX11_chain 23 = .ok (.goto (-19), 3) := by decide +kernel
theorem dX11_chain_26 : decode cX11_chain 26 = .ok (.return_, 1) := by decide +kernel
theorem dX11_sum_0 : decode cX11_sum 0 = .ok (.aload_n 0, 1) := by decide +kernel
theorem dX11_sum_1 : decode cX11_sum 1 = .ok (.bipush 45, 2) := by decide +kernel
theorem dX11_sum_3 : decode cX11_sum 3 = .ok (.invokevirtual 355, 3) := by decide +kernel
theorem dX11_sum_6 : decode cX11_sum 6 = .ok (.istore_n 1, 1) := by decide +kernel
theorem dX11_sum_7 : decode cX11_sum 7 = .ok (.aload_n 0, 1) := by decide +kernel
theorem dX11_sum_8 : decode cX11_sum 8 = .ok (.invokevirtual 364, 3) := by decide +kernel
theorem dX11_sum_11 : decode cX11_sum 11 = .ok (.iload_n 1, 1) := by decide +kernel
theorem dX11_sum_12 : decode cX11_sum 12 = .ok (.ifCond .eq 9, 3) := by decide +kernel
theorem dX11_sum_15 : decode cX11_sum 15 = .ok (.aload_n 0, 1) := by decide +kernel
theorem dX11_sum_16 : decode cX11_sum 16 = .ok (.bipush 43, 2) := by decide +kernel
theorem dX11_sum_18 : decode cX11_sum 18 = .ok (.invokevirtual 349, 3) := by decide +kernel
theorem dX11_sum_21 : decode cX11_sum 21 = .ok (.aload_n 0, 1) := by decide +kernel
theorem dX11_sum_22 : decode cX11_sum 22 = .ok (.getfield 339, 3) := by decide +kernel
theorem dX11_sum_25 : decode cX11_sum 25 = .ok (.ifCond .ne 68, 3) := by decide +kernel
theorem dX11_sum_28 : decode cX11_sum 28 = .ok (.aload_n 0, 1) := by decide +kernel
theorem dX11_sum_29 : decode cX11_sum 29 = .ok (.invokevirtual 343, 3) := by decide +kernel
theorem dX11_sum_32 : decode cX11_sum 32 = .ok (.bipush 43, 2) := by decide +kernel
theorem dX11_sum_34 : decode cX11_sum 34 = .ok (.if_icmp .eq 12, 3) := by decide +kernel
theorem dX11_sum_37 : decode cX11_sum 37 = .ok (.aload_n 0, 1) := by decide +kernel
theorem dX11_sum_38 : decode cX11_sum 38 = .ok (.invokevirtual 343, 3) := by decide +kernel
theorem dX11_sum_41 : decode cX11_sum 41 = .ok (.bipush 45, 2) := by decide +kernel
theorem dX11_sum_43 : decode cX11_sum 43 = .ok (.if_icmp .ne 50, 3) := by decide +kernel
theorem dX11_sum_46 : decode cX11_sum 46 = .ok (.aload_n 0, 1) := by decide +kernel
theorem dX11_sum_47 : decode cX11_sum 47 = .ok (.invokevirtual 343, 3) := by decide +kernel
theorem dX11_sum_50 : decode cX11_sum 50 = .ok (.bipush 43, 2) := by decide +kernel
theorem dX11_sum_52 : decode cX11_sum 52 = .ok (.if_icmp .ne 7, 3) := by decide +kernel
theorem dX11_sum_55 : decode cX11_sum 55 = .ok (.iconst 1, 1) := by decide +kernel
theorem dX11_sum_56 : decode cX11_sum 56 = .ok (.goto 4, 3) := by decide +kernel
theorem dX11_sum_59 : decode cX11_sum 59 = .ok (.iconst 0, 1) := by decide +kernel
theorem dX11_sum_60 : decode cX11_sum 60 = .ok (.istore_n 2, 1) := by decide +kernel
theorem dX11_sum_61 : decode cX11_sum 61 = .ok (.aload_n 0, 1) := by decide +kernel
theorem dX11_sum_62 : decode cX11_sum 62 = .ok (.dup, 1) := by decide +kernel
theorem dX11_sum_63 : decode cX11_sum 63 = .ok (.getfield 336, 3) := by decide +kernel
theorem dX11_sum_66 : decode cX11_sum 66 = .ok (.iconst 1, 1) := by decide +kernel
theorem dX11_sum_67 : decode cX11_sum 67 = .ok (.iadd, 1) := by decide +kernel
theorem dX11_sum_68 : decode cX11_sum 68 = .ok (.putfield 336, 3) := by decide +kernel
theorem dX11_sum_71 : decode cX11_sum 71 = .ok (.aload_n 0, 1) := by decide +kernel
theorem dX11_sum_72 : decode cX11_sum 72 = .ok (.invokevirtual 364, 3) := by decide +kernel
theorem dX11_sum_75 : decode cX11_sum 75 = .ok (.aload_n 0, 1) := by decide +kernel
theorem dX11_sum_76 : decode cX11_sum 76 = .ok (.iload_n 2, 1) := by decide +kernel
theorem dX11_sum_77 : decode cX11_sum 77 = .ok (.ifCond .eq 8, 3) := by decide +kernel
theorem dX11_sum_80 : decode cX11_sum 80 = .ok (.bipush 41, 2) := by decide +kernel
theorem dX11_sum_82 : decode cX11_sum 82 = .ok (.goto 5, 3) := by decide +kernel
theorem dX11_sum_85 : decode cX11_sum 85 = .ok (.bipush 42, 2) := by decide +kernel
theorem dX11_sum_87 : decode cX11_sum 87 = .ok (.invokevirtual 349, 3) := by decide +kernel
theorem dX11_sum_90 : decode cX11_sum 90 = .ok (.goto (-69), 3) := by decide +kernel
theorem dX11_sum_93 : decode cX11_sum 93 = .ok (.return_, 1) := by decide +kernel
theorem dX11_areMaps_0 : decode cX11_areMaps 0 = .ok (.iconst 1, 1) := by decide +kernel
theorem dX11_areMaps_1 : decode cX11_areMaps 1 = .ok (.istore_n 1, 1) := by decide +kernel
theorem dX11_areMaps_2 : decode cX11_areMaps 2 = .ok (.iconst 0, 1) := by decide +kernel
theorem dX11_areMaps_3 : decode cX11_areMaps 3 = .ok (.istore_n 2, 1) := by decide +kernel
theorem dX11_areMaps_4 : decode cX11_areMaps 4 = .ok (.iload_n 2, 1) := by decide +kernel
theorem dX11_areMaps_5 : decode cX11_areMaps 5 = .ok (.aload_n 0, 1) := by decide +kernel
theorem dX11_areMaps_6 : decode cX11_areMaps 6 = .ok (.getfield 346, 3) := by decide +kernel
theorem dX11_areMaps_9 : decode cX11_areMaps 9 = .ok (.if_icmp .ge 43, 3) := by decide +kernel
theorem dX11_areMaps_12 : decode cX11_areMaps 12 = .ok (.iload_n 1, 1) := by decide +kernel
theorem dX11_areMaps_13 : decode cX11_areMaps 13 = .ok (.ifCond .eq 31, 3) := by decide +kernel
theorem dX11_areMaps_16 : decode cX11_areMaps 16 = .ok (.aload_n 0, 1) := by decide +kernel
theorem dX11_areMaps_17 : decode cX11_areMaps 17 = .ok (.getfield 66, 3) := by decide +kernel
theorem dX11_areMaps_20 : decode cX11_areMaps 20 = .ok (.iload_n 2, 1) := by decide +kernel
theorem dX11_areMaps_21 : decode cX11_areMaps 21 = .ok (.iaload, 1) := by decide +kernel
theorem dX11_areMaps_22 : decode cX11_areMaps 22 = .ok (.bipush 8, 2) := by decide +kernel
theorem dX11_areMaps_24 : decode cX11_areMaps 24 = .ok (.if_icmp .ge 16, 3) := by decide +kernel
theorem dX11_areMaps_27 : decode cX11_areMaps 27 = .ok (.aload_n 0, 1) := by decide +kernel
theorem dX11_areMaps_28 : decode cX11_areMaps 28 = .ok (.aload_n 0, 1) := by decide +kernel
theorem dX11_areMaps_29 : decode cX11_areMaps 29 = .ok (.getfield 66, 3) := by decide +kernel
theorem dX11_areMaps_32 : decode cX11_areMaps 32 = .ok (.iload_n 2, 1) := by decide +kernel
theorem dX11_areMaps_33 : decode cX11_areMaps 33 = .ok (.iaload, 1) := by decide +kernel
theorem dX11_areMaps_34 : decode cX11_areMaps 34 = .ok (.invokevirtual 215, 3) := by decide +kernel
theorem dX11_areMaps_37 : decode cX11_areMaps 37 = .ok (.ifCond .eq 7, 3) := by decide +kernel
theorem dX11_areMaps_40 : decode cX11_areMaps 40 = .ok (.iconst 1, 1) := by decide +kernel
theorem dX11_areMaps_41 : decode cX11_areMaps 41 = .ok (.goto 4, 3) := by decide +kernel
theorem dX11_areMaps_44 : decode cX11_areMaps 44 = .ok (.iconst 0, 1) := by decide +kernel
theorem dX11_areMaps_45 : decode cX11_areMaps 45 = .ok (.istore_n 1, 1) := by decide +kernel
theorem dX11_areMaps_46 : decode cX11_areMaps 46 = .ok (.iinc 2 1, 3) := by decide +kernel
theorem dX11_areMaps_49 : decode cX11_areMaps 49 = .ok (.goto (-45), 3) := by decide +kernel
theorem dX11_areMaps_52 : decode cX11_areMaps 52 = .ok (.iload_n 1, 1) := by decide +kernel
theorem dX11_areMaps_53 : decode cX11_areMaps 53 = .ok (.ireturn, 1) := by decide +kernel
theorem dX11_goTogether_0 : decode cX11_goTogether 0 = .ok (.iconst 0, 1) := by decide +kernel
theorem dX11_goTogether_1 : decode cX11_goTogether 1 = .ok (.istore_n 1, 1) := by decide +kernel
theorem dX11_goTogether_2 : decode cX11_goTogether 2 = .ok (.iconst 0, 1) := by decide +kernel
theorem dX11_goTogether_3 : decode cX11_goTogether 3 = .ok (.istore_n 2, 1) := by decide +kernel
theorem dX11_goTogether_4 : decode cX11_goTogether 4 = .ok (.iload_n 2, 1) := by decide +kernel
theorem dX11_goTogether_5 : decode cX11_goTogether 5 = .ok (.aload_n 0, 1) := by decide +kernel
theorem dX11_goTogether_6 : decode cX11_goTogether 6 = .ok (.getfield 346, 3) := by decide +kernel
theorem dX11_goTogether_9 : decode cX11_goTogether 9 = .ok (.if_icmp .ge 179, 3) := by decide +kernel
theorem dX11_goTogether_12 : decode cX11_goTogether 12 = .ok (.aload_n 0, 1) := by decide +kernel
theorem dX11_goTogether_13 : decode cX11_goTogether 13 = .ok (.getfield 66, 3) := by decide +kernel
theorem dX11_goTogether_16 : decode cX11_goTogether 16 = .ok (.iload_n 2, 1) := by decide +kernel
theorem dX11_goTogether_17 : decode cX11_goTogether 17 = .ok (.iaload, 1) := by decide +kernel
theorem dX11_goTogether_18 : decode cX11_goTogether 18 = .ok (.bipush 8, 2) := by decide +kernel
theorem dX11_goTogether_20 : decode cX11_goTogether 20 = .ok (.if_icmp .ge 41, 3) := by decide +kernel
theorem dX11_goTogether_23 : decode cX11_goTogether 23 = .ok (.aload_n 0, 1) := by decide +kernel
theorem dX11_goTogether_24 : decode cX11_goTogether 24 = .ok (.getfield 69, 3) := by decide +kernel
theorem dX11_goTogether_27 : decode cX11_goTogether 27 = .ok (.iload_n 1, 1) := by decide +kernel
theorem dX11_goTogether_28 : decode cX11_goTogether 28 = .ok (.aload_n 0, 1) := by decide +kernel
theorem dX11_goTogether_29 : decode cX11_goTogether 29 = .ok (.aload_n 0, 1) := by decide +kernel
theorem dX11_goTogether_30 : decode cX11_goTogether 30 = .ok (.getfield 66, 3) := by decide +kernel
theorem dX11_goTogether_33 : decode cX11_goTogether 33 = .ok (.iload_n 2, 1) := by decide +kernel
theorem dX11_goTogether_34 : decode cX11_goTogether 34 = .ok (.iaload, 1) := by decide +kernel
theorem dX11_goTogether_35 : decode cX11_goTogether 35 = .ok (.invokevirtual 174, 3) := by decide +kernel
theorem dX11_goTogether_38 : decode cX11_goTogether 38 = .ok (.iastore, 1) := by decide +kernel
theorem dX11_goTogether_39 : decode cX11_goTogether 39 = .ok (.aload_n 0, 1) := by decide +kernel
theorem dX11_goTogether_40 : decode cX11_goTogether 40 = .ok (.getfield 72, 3) := by decide +kernel
theorem dX11_goTogether_43 : decode cX11_goTogether 43 = .ok (.iload_n 1, 1) := by decide +kernel
theorem dX11_goTogether_44 : decode cX11_goTogether 44 = .ok (.aload_n 0, 1) := by decide +kernel
theorem dX11_goTogether_45 : decode cX11_goTogether 45 = .ok (.aload_n 0, 1) := by decide +kernel
theorem dX11_goTogether_46 : decode cX11_goTogether 46 = .ok (.getfield 66, 3) := by decide +kernel
theorem dX11_goTogether_49 : decode cX11_goTogether 49 = .ok (.iload_n 2, 1) := by decide +kernel
theorem dX11_goTogether_50 : decode cX11_goTogether 50 = .ok (.iaload, 1) := by decide +kernel
theorem dX11_goTogether_51 : decode cX11_goTogether 51 = .ok (.invokevirtual 181, 3) := by decide +kernel
theorem dX11_goTogether_54 : decode cX11_goTogether 54 = .ok (.iastore, 1) := by decide +kernel
theorem dX11_goTogether_55 : decode cX11_goTogether 55 = .ok (.iinc 1 1, 3) := by decide +kernel
theorem dX11_goTogether_58 : decode cX11_goTogether 58 = .ok (.goto 124, 3) := by decide +kernel
theorem dX11_goTogether_61 : decode cX11_goTogether 61 = .ok (.aload_n 0, 1) := by decide +kernel
theorem dX11_goTogether_62 : decode cX11_goTogether 62 = .ok (.getfield 66, 3) := by decide +kernel
theorem dX11_goTogether_65 : decode cX11_goTogether 65 = .ok (.iload_n 2, 1) := by decide +kernel
theorem dX11_goTogether_66 : decode cX11_goTogether 66 = .ok (.iaload, 1) := by decide +kernel
theorem dX11_goTogether_67 : decode cX11_goTogether 67 = .ok (.bipush 40, 2) := by decide +kernel
theorem dX11_goTogether_69 : decode cX11_goTogether 69 = .ok (.if_icmp .lt 113, 3) := by decide +kernel
theorem dX11_goTogether_72 : decode cX11_goTogether 72 = .ok (.aload_n 0, 1) := by decide +kernel
theorem dX11_goTogether_73 : decode cX11_goTogether 73 = .ok (.getfield 66, 3) := by decide +kernel
theorem dX11_goTogether_76 : decode cX11_goTogether 76 = .ok (.iload_n 2, 1) := by decide +kernel
theorem dX11_goTogether_77 : decode cX11_goTogether 77 = .ok (.iaload, 1) := by decide +kernel
theorem dX11_goTogether_78 : decode cX11_goTogether 78 = .ok (.bipush 43, 2) := by decide +kernel
theorem dX11_goTogether_80 : decode cX11_goTogether 80 = .ok (.if_icmp .ge 102, 3) := by decide +kernel
theorem dX11_goTogether_83 : decode cX11_goTogether 83 = .ok (.iinc 1 (-1), 3) := by decide +kernel
theorem dX11_goTogether_86 : decode cX11_goTogether 86 = .ok (.aload_n 0, 1) := by decide +kernel
theorem dX11_goTogether_87 : decode cX11_goTogether 87 = .ok (.getfield 66, 3) := by decide +kernel
theorem dX11_goTogether_90 : decode cX11_goTogether 90 = .ok (.iload_n 2, 1) := by decide +kernel
theorem dX11_goTogether_91 : decode cX11_goTogether 91 = .ok (.iaload, 1) := by decide +kernel
theorem dX11_goTogether_92 : decode cX11_goTogether 92 = .ok (.bipush 40, 2) := by decide +kernel
theorem dX11_goTogether_94 : decode cX11_goTogether 94 = .ok (.if_icmp .ne 28, 3) := by decide +kernel
theorem dX11_goTogether_97 : decode cX11_goTogether 97 = .ok (.aload_n 0, 1) := by decide +kernel
theorem dX11_goTogether_98 : decode cX11_goTogether 98 = .ok (.getfield 72, 3) := by decide +kernel
theorem dX11_goTogether_101 : decode cX11_goTogether 101 = .ok (.iload_n 1, 1) := by decide +kernel
theorem dX11_goTogether_102 : decode cX11_goTogether 102 = .ok (.iconst 1, 1) := by decide +kernel
theorem dX11_goTogether_103 : decode cX11_goTogether 103 = .ok (.isub, 1) := by decide +kernel
theorem dX11_goTogether_104 : decode cX11_goTogether 104 = .ok (.iaload, 1) := by decide +kernel
theorem dX11_goTogether_105 : decode cX11_goTogether 105 = .ok (.aload_n 0, 1) := by decide +kernel
theorem dX11_goTogether_106 : decode cX11_goTogether 106 = .ok (.getfield 69, 3) := by decide +kernel
theorem dX11_goTogether_109 : decode cX11_goTogether 109 = .ok (.iload_n 1, 1) := by decide +kernel
theorem dX11_goTogether_110 : decode cX11_goTogether 110 = .ok (.iaload, 1) := by decide +kernel
theorem dX11_goTogether_111 : decode cX11_goTogether 111 = .ok (.if_icmp .ne 7, 3) := by decide +kernel
theorem dX11_goTogether_114 : decode cX11_goTogether 114 = .ok (.iconst 1, 1) := by decide +kernel
theorem dX11_goTogether_115 : decode cX11_goTogether 115 = .ok (.goto 46, 3) := by decide +kernel
theorem dX11_goTogether_118 : decode cX11_goTogether 118 = .ok (.iconst 0, 1) := by decide +kernel
theorem dX11_goTogether_119 : decode cX11_goTogether 119 = .ok (.goto 42, 3) := by decide +kernel
theorem dX11_goTogether_122 : decode cX11_goTogether 122 = .ok (.aload_n 0, 1) := by decide +kernel
theorem dX11_goTogether_123 : decode cX11_goTogether 123 = .ok (.getfield 69, 3) := by decide +kernel
theorem dX11_goTogether_126 : decode cX11_goTogether 126 = .ok (.iload_n 1, 1) := by decide +kernel
theorem dX11_goTogether_127 : decode cX11_goTogether 127 = .ok (.iconst 1, 1) := by decide +kernel
theorem dX11_goTogether_128 : decode cX11_goTogether 128 = .ok (.isub, 1) := by decide +kernel
theorem dX11_goTogether_129 : decode cX11_goTogether 129 = .ok (.iaload, 1) := by decide +kernel
theorem dX11_goTogether_130 : decode cX11_goTogether 130 = .ok (.aload_n 0, 1) := by decide +kernel
theorem dX11_goTogether_131 : decode cX11_goTogether 131 = .ok (.getfield 69, 3) := by decide +kernel
theorem dX11_goTogether_134 : decode cX11_goTogether 134 = .ok (.iload_n 1, 1) := by decide +kernel
theorem dX11_goTogether_135 : decode cX11_goTogether 135 = .ok (.iaload, 1) := by decide +kernel
theorem dX11_goTogether_136 : decode cX11_goTogether 136 = .ok (.if_icmp .ne 24, 3) := by decide +kernel
theorem dX11_goTogether_139 : decode cX11_goTogether 139 = .ok (.aload_n 0, 1) := by decide +kernel
theorem dX11_goTogether_140 : decode cX11_goTogether 140 = .ok (.getfield 72, 3) := by decide +kernel
theorem dX11_goTogether_143 : decode cX11_goTogether 143 = .ok (.iload_n 1, 1) := by decide +kernel
theorem dX11_goTogether_144 : decode cX11_goTogether 144 = .ok (.iconst 1, 1) := by decide +kernel
theorem dX11_goTogether_145 : decode cX11_goTogether 145 = .ok (.isub, 1) := by decide +kernel
theorem dX11_goTogether_146 : decode cX11_goTogether 146 = .ok (.iaload, 1) := by decide +kernel
theorem dX11_goTogether_147 : decode cX11_goTogether 147 = .ok (.aload_n 0, 1) := by decide +kernel
theorem dX11_goTogether_148 : decode cX11_goTogether 148 = .ok (.getfield 72, 3) := by decide +kernel
theorem dX11_goTogether_151 : decode cX11_goTogether 151 = .ok (.iload_n 1, 1) := by decide +kernel
theorem dX11_goTogether_152 : decode cX11_goTogether 152 = .ok (.iaload, 1) := by decide +kernel
theorem dX11_goTogether_153 : decode cX11_goTogether 153 = .ok (.if_icmp .ne 7, 3) := by decide +kernel
theorem dX11_goTogether_156 : decode cX11_goTogether 156 = .ok (.iconst 1, 1) := by decide +kernel
theorem dX11_goTogether_157 : decode cX11_goTogether 157 = .ok (.goto 4, 3) := by decide +kernel
theorem dX11_goTogether_160 : decode cX11_goTogether 160 = .ok (.iconst 0, 1) := by decide +kernel
theorem dX11_goTogether_161 : decode cX11_goTogether 161 = .ok (.istore_n 3, 1) := by decide +kernel
theorem dX11_goTogether_162 : decode cX11_goTogether 162 = .ok (.iload_n 3, 1) := by decide +kernel
theorem dX11_goTogether_163 : decode cX11_goTogether 163 = .ok (.ifCond .ne 5, 3) := by decide +kernel
theorem dX11_goTogether_166 : decode cX11_goTogether 166 = .ok (.iconst 0, 1) := by decide +kernel
theorem dX11_goTogether_167 : decode cX11_goTogether 167 = .ok (.ireturn, 1) := by decide +kernel
theorem dX11_goTogether_168 : decode cX11_goTogether 168 = .ok (.aload_n 0, 1) := by decide +kernel
theorem dX11_goTogether_169 : decode cX11_goTogether 169 = .ok (.getfield 72, 3) := by decide +kernel
theorem dX11_goTogether_172 : decode cX11_goTogether 172 = .ok (.iload_n 1, 1) := by decide +kernel
theorem dX11_goTogether_173 : decode cX11_goTogether 173 = .ok (.iconst 1, 1) := by decide +kernel
theorem dX11_goTogether_174 : decode cX11_goTogether 174 = .ok (.isub, 1) := by decide +kernel
theorem dX11_goTogether_175 : decode cX11_goTogether 175 = .ok (.aload_n 0, 1) := by decide +kernel
theorem dX11_goTogether_176 : decode cX11_goTogether 176 = .ok (.getfield 72, 3) := by decide +kernel
theorem dX11_goTogether_179 : decode cX11_goTogether 179 = .ok (.iload_n 1, 1) := by decide +kernel
theorem dX11_goTogether_180 : decode cX11_goTogether 180 = .ok (.iaload, 1) := by decide +kernel
theorem dX11_goTogether_181 : decode cX11_goTogether 181 = .ok (.iastore, 1) := by decide +kernel
theorem dX11_goTogether_182 : decode cX11_goTogether 182 = .ok (.iinc 2 1, 3) := by decide +kernel
theorem dX11_goTogether_185 : decode cX11_goTogether 185 = .ok (.goto (-181), 3) := by decide +kernel
theorem dX11_goTogether_188 : decode cX11_goTogether 188 = .ok (.iconst 1, 1) := by decide +kernel
theorem dX11_goTogether_189 : decode cX11_goTogether 189 = .ok (.ireturn, 1) := by decide +kernel
theorem dX11_joined_0 : decode cX11_joined 0 = .ok (.aload_n 0, 1) := by decide +kernel
theorem dX11_joined_1 : decode cX11_joined 1 = .ok (.getfield 75, 3) := by decide +kernel
theorem dX11_joined_4 : decode cX11_joined 4 = .ok (.bipush 9, 2) := by decide +kernel
theorem dX11_joined_6 : decode cX11_joined 6 = .ok (.iload_n 2, 1) := by decide +kernel
theorem dX11_joined_7 : decode cX11_joined 7 = .ok (.imul, 1) := by decide +kernel
theorem dX11_joined_8 : decode cX11_joined 8 = .ok (.iconst 3, 1) := by decide +kernel
theorem dX11_joined_9 : decode cX11_joined 9 = .ok (.iload_n 3, 1) := by decide +kernel
theorem dX11_joined_10 : decode cX11_joined 10 = .ok (.imul, 1) := by decide +kernel
theorem dX11_joined_11 : decode cX11_joined 11 = .ok (.iadd, 1) := by decide +kernel
theorem dX11_joined_12 : decode cX11_joined 12 = .ok (.iload 4, 2) := by decide +kernel
theorem dX11_joined_14 : decode cX11_joined 14 = .ok (.iadd, 1) := by decide +kernel
theorem dX11_joined_15 : decode cX11_joined 15 = .ok (.laload, 1) := by decide +kernel
theorem dX11_joined_16 : decode cX11_joined 16 = .ok (.lstore 6, 2) := by decide +kernel
theorem dX11_joined_18 : decode cX11_joined 18 = .ok (.iload_n 1, 1) := by decide +kernel
theorem dX11_joined_19 : decode cX11_joined 19 = .ok (.bipush 40, 2) := by decide +kernel
theorem dX11_joined_21 : decode cX11_joined 21 = .ok (.if_icmp .eq 43, 3) := by decide +kernel
theorem dX11_joined_24 : decode cX11_joined 24 = .ok (.aload_n 0, 1) := by decide +kernel
theorem dX11_joined_25 : decode cX11_joined 25 = .ok (.getfield 75, 3) := by decide +kernel
theorem dX11_joined_28 : decode cX11_joined 28 = .ok (.bipush 9, 2) := by decide +kernel
theorem dX11_joined_30 : decode cX11_joined 30 = .ok (.iload_n 2, 1) := by decide +kernel
theorem dX11_joined_31 : decode cX11_joined 31 = .ok (.iconst 1, 1) := by decide +kernel
theorem dX11_joined_32 : decode cX11_joined 32 = .ok (.iadd, 1) := by decide +kernel
theorem dX11_joined_33 : decode cX11_joined 33 = .ok (.imul, 1) := by decide +kernel
theorem dX11_joined_34 : decode cX11_joined 34 = .ok (.iconst 3, 1) := by decide +kernel
theorem dX11_joined_35 : decode cX11_joined 35 = .ok (.iload_n 3, 1) := by decide +kernel
theorem dX11_joined_36 : decode cX11_joined 36 = .ok (.imul, 1) := by decide +kernel
theorem dX11_joined_37 : decode cX11_joined 37 = .ok (.iadd, 1) := by decide +kernel
theorem dX11_joined_38 : decode cX11_joined 38 = .ok (.iload 4, 2) := by decide +kernel
theorem dX11_joined_40 : decode cX11_joined 40 = .ok (.iadd, 1) := by decide +kernel
theorem dX11_joined_41 : decode cX11_joined 41 = .ok (.laload, 1) := by decide +kernel
theorem dX11_joined_42 : decode cX11_joined 42 = .ok (.lstore 8, 2) := by decide +kernel
theorem dX11_joined_44 : decode cX11_joined 44 = .ok (.iload_n 1, 1) := by decide +kernel
theorem dX11_joined_45 : decode cX11_joined 45 = .ok (.bipush 41, 2) := by decide +kernel
theorem dX11_joined_47 : decode cX11_joined 47 = .ok (.if_icmp .ne 11, 3) := by decide +kernel
theorem dX11_joined_50 : decode cX11_joined 50 = .ok (.lload 6, 2) := by decide +kernel
theorem dX11_joined_52 : decode cX11_joined 52 = .ok (.lload 8, 2) := by decide +kernel
theorem dX11_joined_54 : decode cX11_joined 54 = .ok (.ladd, 1) := by decide +kernel
theorem dX11_joined_55 : decode cX11_joined 55 = .ok (.goto 8, 3) := by decide +kernel
theorem dX11_joined_58 : decode cX11_joined 58 = .ok (.lload 6, 2) := by decide +kernel
theorem dX11_joined_60 : decode cX11_joined 60 = .ok (.lload 8, 2) := by decide +kernel
theorem dX11_joined_62 : decode cX11_joined 62 = .ok (.lsub, 1) := by decide +kernel
theorem dX11_joined_63 : decode cX11_joined 63 = .ok (.lreturn, 1) := by decide +kernel
theorem dX11_joined_64 : decode cX11_joined 64 = .ok (.lconst 0, 1) := by decide +kernel
theorem dX11_joined_65 : decode cX11_joined 65 = .ok (.lstore 8, 2) := by decide +kernel
theorem dX11_joined_67 : decode cX11_joined 67 = .ok (.iconst 0, 1) := by decide +kernel
theorem dX11_joined_68 : decode cX11_joined 68 = .ok (.istore 10, 2) := by decide +kernel
theorem dX11_joined_70 : decode cX11_joined 70 = .ok (.iload 10, 2) := by decide +kernel
theorem dX11_joined_72 : decode cX11_joined 72 = .ok (.iload 5, 2) := by decide +kernel
theorem dX11_joined_74 : decode cX11_joined 74 = .ok (.if_icmp .ge 50, 3) := by decide +kernel
theorem dX11_joined_77 : decode cX11_joined 77 = .ok (.lload 8, 2) := by decide +kernel
theorem dX11_joined_79 : decode cX11_joined 79 = .ok (.aload_n 0, 1) := by decide +kernel
theorem dX11_joined_80 : decode cX11_joined 80 = .ok (.getfield 75, 3) := by decide +kernel
theorem dX11_joined_83 : decode cX11_joined 83 = .ok (.bipush 9, 2) := by decide +kernel
theorem dX11_joined_85 : decode cX11_joined 85 = .ok (.iload_n 2, 1) := by decide +kernel
theorem dX11_joined_86 : decode cX11_joined 86 = .ok (.imul, 1) := by decide +kernel
theorem dX11_joined_87 : decode cX11_joined 87 = .ok (.iconst 3, 1) := by decide +kernel
theorem dX11_joined_88 : decode cX11_joined 88 = .ok (.iload_n 3, 1) := by decide +kernel
theorem dX11_joined_89 : decode cX11_joined 89 = .ok (.imul, 1) := by decide +kernel
theorem dX11_joined_90 : decode cX11_joined 90 = .ok (.iadd, 1) := by decide +kernel
theorem dX11_joined_91 : decode cX11_joined 91 = .ok (.iload 10, 2) := by decide +kernel
theorem dX11_joined_93 : decode cX11_joined 93 = .ok (.iadd, 1) := by decide +kernel
theorem dX11_joined_94 : decode cX11_joined 94 = .ok (.laload, 1) := by decide +kernel
theorem dX11_joined_95 : decode cX11_joined 95 = .ok (.aload_n 0, 1) := by decide +kernel
theorem dX11_joined_96 : decode cX11_joined 96 = .ok (.getfield 75, 3) := by decide +kernel
theorem dX11_joined_99 : decode cX11_joined 99 = .ok (.bipush 9, 2) := by decide +kernel
theorem dX11_joined_101 : decode cX11_joined 101 = .ok (.iload_n 2, 1) := by decide +kernel
theorem dX11_joined_102 : decode cX11_joined 102 = .ok (.iconst 1, 1) := by decide +kernel
theorem dX11_joined_103 : decode cX11_joined 103 = .ok (.iadd, 1) := by decide +kernel
theorem dX11_joined_104 : decode cX11_joined 104 = .ok (.imul, 1) := by decide +kernel
theorem dX11_joined_105 : decode cX11_joined 105 = .ok (.iconst 3, 1) := by decide +kernel
theorem dX11_joined_106 : decode cX11_joined 106 = .ok (.iload 10, 2) := by decide +kernel
theorem dX11_joined_108 : decode cX11_joined 108 = .ok (.imul, 1) := by decide +kernel
theorem dX11_joined_109 : decode cX11_joined 109 = .ok (.iadd, 1) := by decide +kernel
theorem dX11_joined_110 : decode cX11_joined 110 = .ok (.iload 4, 2) := by decide +kernel
theorem dX11_joined_112 : decode cX11_joined 112 = .ok (.iadd, 1) := by decide +kernel
theorem dX11_joined_113 : decode cX11_joined 113 = .ok (.laload, 1) := by decide +kernel
theorem dX11_joined_114 : decode cX11_joined 114 = .ok (.lmul, 1) := by decide +kernel
theorem dX11_joined_115 : decode cX11_joined 115 = .ok (.ladd, 1) := by decide +kernel
theorem dX11_joined_116 : decode cX11_joined 116 = .ok (.lstore 8, 2) := by decide +kernel
theorem dX11_joined_118 : decode cX11_joined 118 = .ok (.iinc 10 1, 3) := by decide +kernel
theorem dX11_joined_121 : decode cX11_joined 121 = .ok (.goto (-51), 3) := by decide +kernel
theorem dX11_joined_124 : decode cX11_joined 124 = .ok (.lload 8, 2) := by decide +kernel
theorem dX11_joined_126 : decode cX11_joined 126 = .ok (.lreturn, 1) := by decide +kernel
theorem dX11_worksOut_0 : decode cX11_worksOut 0 = .ok (.iconst 1, 1) := by decide +kernel
theorem dX11_worksOut_1 : decode cX11_worksOut 1 = .ok (.istore 4, 2) := by decide +kernel
theorem dX11_worksOut_3 : decode cX11_worksOut 3 = .ok (.iconst 0, 1) := by decide +kernel
theorem dX11_worksOut_4 : decode cX11_worksOut 4 = .ok (.istore 5, 2) := by decide +kernel
theorem dX11_worksOut_6 : decode cX11_worksOut 6 = .ok (.iload 5, 2) := by decide +kernel
theorem dX11_worksOut_8 : decode cX11_worksOut 8 = .ok (.bipush 9, 2) := by decide +kernel
theorem dX11_worksOut_10 : decode cX11_worksOut 10 = .ok (.if_icmp .ge 105, 3) := by decide +kernel
theorem dX11_worksOut_13 : decode cX11_worksOut 13 = .ok (.aload_n 0, 1) := by decide +kernel
theorem dX11_worksOut_14 : decode cX11_worksOut 14 = .ok (.getfield 75, 3) := by decide +kernel
theorem dX11_worksOut_17 : decode cX11_worksOut 17 = .ok (.bipush 9, 2) := by decide +kernel
theorem dX11_worksOut_19 : decode cX11_worksOut 19 = .ok (.iload_n 2, 1) := by decide +kernel
theorem dX11_worksOut_20 : decode cX11_worksOut 20 = .ok (.imul, 1) := by decide +kernel
theorem dX11_worksOut_21 : decode cX11_worksOut 21 = .ok (.iload 5, 2) := by decide +kernel
theorem dX11_worksOut_23 : decode cX11_worksOut 23 = .ok (.iadd, 1) := by decide +kernel
theorem dX11_worksOut_24 : decode cX11_worksOut 24 = .ok (.laload, 1) := by decide +kernel
theorem dX11_worksOut_25 : decode cX11_worksOut 25 = .ok (.lstore 6, 2) := by decide +kernel
theorem dX11_worksOut_27 : decode cX11_worksOut 27 = .ok (.aload_n 0, 1) := by decide +kernel
theorem dX11_worksOut_28 : decode cX11_worksOut 28 = .ok (.getfield 78, 3) := by decide +kernel
theorem dX11_worksOut_31 : decode cX11_worksOut 31 = .ok (.iload 5, 2) := by decide +kernel
theorem dX11_worksOut_33 : decode cX11_worksOut 33 = .ok (.iload_n 1, 1) := by decide +kernel
theorem dX11_worksOut_34 : decode cX11_worksOut 34 = .ok (.bipush 40, 2) := by decide +kernel
theorem dX11_worksOut_36 : decode cX11_worksOut 36 = .ok (.if_icmp .ge 14, 3) := by decide +kernel
theorem dX11_worksOut_39 : decode cX11_worksOut 39 = .ok (.lload 6, 2) := by decide +kernel
theorem dX11_worksOut_41 : decode cX11_worksOut 41 = .ok (.iload_n 1, 1) := by decide +kernel
theorem dX11_worksOut_42 : decode cX11_worksOut 42 = .ok (.bipush 20, 2) := by decide +kernel
theorem dX11_worksOut_44 : decode cX11_worksOut 44 = .ok (.isub, 1) := by decide +kernel
theorem dX11_worksOut_45 : decode cX11_worksOut 45 = .ok (.i2l, 1) := by decide +kernel
theorem dX11_worksOut_46 : decode cX11_worksOut 46 = .ok (.lmul, 1) := by decide +kernel
theorem dX11_worksOut_47 : decode cX11_worksOut 47 = .ok (.goto 30, 3) := by decide +kernel
theorem dX11_worksOut_50 : decode cX11_worksOut 50 = .ok (.iload_n 1, 1) := by decide +kernel
theorem dX11_worksOut_51 : decode cX11_worksOut 51 = .ok (.bipush 43, 2) := by decide +kernel
theorem dX11_worksOut_53 : decode cX11_worksOut 53 = .ok (.if_icmp .ne 9, 3) := by decide +kernel
theorem dX11_worksOut_56 : decode cX11_worksOut 56 = .ok (.lload 6, 2) := by decide +kernel
theorem dX11_worksOut_58 : decode cX11_worksOut 58 = .ok (.lneg, 1) := by decide +kernel
theorem dX11_worksOut_59 : decode cX11_worksOut 59 = .ok (.goto 18, 3) := by decide +kernel
theorem dX11_worksOut_62 : decode cX11_worksOut 62 = .ok (.aload_n 0, 1) := by decide +kernel
theorem dX11_worksOut_63 : decode cX11_worksOut 63 = .ok (.iload_n 1, 1) := by decide +kernel
theorem dX11_worksOut_64 : decode cX11_worksOut 64 = .ok (.iload_n 2, 1) := by decide +kernel
theorem dX11_worksOut_65 : decode cX11_worksOut 65 = .ok (.iload 5, 2) := by decide +kernel
theorem dX11_worksOut_67 : decode cX11_worksOut 67 = .ok (.iconst 3, 1) := by decide +kernel
theorem dX11_worksOut_68 : decode cX11_worksOut 68 = .ok (.idiv, 1) := by decide +kernel
theorem dX11_worksOut_69 : decode cX11_worksOut 69 = .ok (.iload 5, 2) := by decide +kernel
theorem dX11_worksOut_71 : decode cX11_worksOut 71 = .ok (.iconst 3, 1) := by decide +kernel
theorem dX11_worksOut_72 : decode cX11_worksOut 72 = .ok (.irem, 1) := by decide +kernel
theorem dX11_worksOut_73 : decode cX11_worksOut 73 = .ok (.iload_n 3, 1) := by decide +kernel
theorem dX11_worksOut_74 : decode cX11_worksOut 74 = .ok (.invokevirtual 367, 3) := by decide +kernel
theorem dX11_worksOut_77 : decode cX11_worksOut 77 = .ok (.lastore, 1) := by decide +kernel
theorem dX11_worksOut_78 : decode cX11_worksOut 78 = .ok (.iload 4, 2) := by decide +kernel
theorem dX11_worksOut_80 : decode cX11_worksOut 80 = .ok (.ifCond .eq 26, 3) := by decide +kernel
theorem dX11_worksOut_83 : decode cX11_worksOut 83 = .ok (.aload_n 0, 1) := by decide +kernel
theorem dX11_worksOut_84 : decode cX11_worksOut 84 = .ok (.getfield 78, 3) := by decide +kernel
theorem dX11_worksOut_87 : decode cX11_worksOut 87 = .ok (.iload 5, 2) := by decide +kernel
theorem dX11_worksOut_89 : decode cX11_worksOut 89 = .ok (.laload, 1) := by decide +kernel
theorem dX11_worksOut_90 : decode cX11_worksOut 90 = .ok (.ldc2_w 371, 3) := by decide +kernel
theorem dX11_worksOut_93 : decode cX11_worksOut 93 = .ok (.ldc2_w 373, 3) := by decide +kernel
theorem dX11_worksOut_96 : decode cX11_worksOut 96 = .ok (.invokestatic 123, 3) := by decide +kernel
theorem dX11_worksOut_99 : decode cX11_worksOut 99 = .ok (.ifCond .eq 7, 3) := by decide +kernel
theorem dX11_worksOut_102 : decode cX11_worksOut 102 = .ok (.iconst 1, 1) := by decide +kernel
theorem dX11_worksOut_103 : decode cX11_worksOut 103 = .ok (.goto 4, 3) := by decide +kernel
theorem dX11_worksOut_106 : decode cX11_worksOut 106 = .ok (.iconst 0, 1) := by decide +kernel
theorem dX11_worksOut_107 : decode cX11_worksOut 107 = .ok (.istore 4, 2) := by decide +kernel
theorem dX11_worksOut_109 : decode cX11_worksOut 109 = .ok (.iinc 5 1, 3) := by decide +kernel
theorem dX11_worksOut_112 : decode cX11_worksOut 112 = .ok (.goto (-106), 3) := by decide +kernel
theorem dX11_worksOut_115 : decode cX11_worksOut 115 = .ok (.iconst 0, 1) := by decide +kernel
theorem dX11_worksOut_116 : decode cX11_worksOut 116 = .ok (.istore 5, 2) := by decide +kernel
theorem dX11_worksOut_118 : decode cX11_worksOut 118 = .ok (.iload 5, 2) := by decide +kernel
theorem dX11_worksOut_120 : decode cX11_worksOut 120 = .ok (.bipush 9, 2) := by decide +kernel
theorem dX11_worksOut_122 : decode cX11_worksOut 122 = .ok (.if_icmp .ge 28, 3) := by decide +kernel
theorem dX11_worksOut_125 : decode cX11_worksOut 125 = .ok (.aload_n 0, 1) := by decide +kernel
theorem dX11_worksOut_126 : decode cX11_worksOut 126 = .ok (.getfield 75, 3) := by decide +kernel
theorem dX11_worksOut_129 : decode cX11_worksOut 129 = .ok (.bipush 9, 2) := by decide +kernel
theorem dX11_worksOut_131 : decode cX11_worksOut 131 = .ok (.iload_n 2, 1) := by decide +kernel
theorem dX11_worksOut_132 : decode cX11_worksOut 132 = .ok (.imul, 1) := by decide +kernel
theorem dX11_worksOut_133 : decode cX11_worksOut 133 = .ok (.iload 5, 2) := by decide +kernel
theorem dX11_worksOut_135 : decode cX11_worksOut 135 = .ok (.iadd, 1) := by decide +kernel
theorem dX11_worksOut_136 : decode cX11_worksOut 136 = .ok (.aload_n 0, 1) := by decide +kernel
theorem dX11_worksOut_137 : decode cX11_worksOut 137 = .ok (.getfield 78, 3) := by decide +kernel
theorem dX11_worksOut_140 : decode cX11_worksOut 140 = .ok (.iload 5, 2) := by decide +kernel
theorem dX11_worksOut_142 : decode cX11_worksOut 142 = .ok (.laload, 1) := by decide +kernel
theorem dX11_worksOut_143 : decode cX11_worksOut 143 = .ok (.lastore, 1) := by decide +kernel
theorem dX11_worksOut_144 : decode cX11_worksOut 144 = .ok (.iinc 5 1, 3) := by decide +kernel
theorem dX11_worksOut_147 : decode cX11_worksOut 147 = .ok (.goto (-29), 3) := by decide +kernel
theorem dX11_worksOut_150 : decode cX11_worksOut 150 = .ok (.iload 4, 2) := by decide +kernel
theorem dX11_worksOut_152 : decode cX11_worksOut 152 = .ok (.ireturn, 1) := by decide +kernel
theorem dX11_tellsTable_0 : decode cX11_tellsTable 0 = .ok (.iconst 0, 1) := by decide +kernel
theorem dX11_tellsTable_1 : decode cX11_tellsTable 1 = .ok (.istore_n 1, 1) := by decide +kernel
theorem dX11_tellsTable_2 : decode cX11_tellsTable 2 = .ok (.iconst 0, 1) := by decide +kernel
theorem dX11_tellsTable_3 : decode cX11_tellsTable 3 = .ok (.istore_n 2, 1) := by decide +kernel
theorem dX11_tellsTable_4 : decode cX11_tellsTable 4 = .ok (.iload_n 2, 1) := by decide +kernel
theorem dX11_tellsTable_5 : decode cX11_tellsTable 5 = .ok (.aload_n 0, 1) := by decide +kernel
theorem dX11_tellsTable_6 : decode cX11_tellsTable 6 = .ok (.getfield 346, 3) := by decide +kernel
theorem dX11_tellsTable_9 : decode cX11_tellsTable 9 = .ok (.if_icmp .ge 263, 3) := by decide +kernel
theorem dX11_tellsTable_12 : decode cX11_tellsTable 12 = .ok (.aload_n 0, 1) := by decide +kernel
theorem dX11_tellsTable_13 : decode cX11_tellsTable 13 = .ok (.getfield 66, 3) := by decide +kernel
theorem dX11_tellsTable_16 : decode cX11_tellsTable 16 = .ok (.iload_n 2, 1) := by decide +kernel
theorem dX11_tellsTable_17 : decode cX11_tellsTable 17 = .ok (.iaload, 1) := by decide +kernel
theorem dX11_tellsTable_18 : decode cX11_tellsTable 18 = .ok (.bipush 8, 2) := by decide +kernel
theorem dX11_tellsTable_20 : decode cX11_tellsTable 20 = .ok (.if_icmp .ge 139, 3) := by decide +kernel
theorem dX11_tellsTable_23 : decode cX11_tellsTable 23 = .ok (.iconst 0, 1) := by decide +kernel
theorem dX11_tellsTable_24 : decode cX11_tellsTable 24 = .ok (.istore_n 3, 1) := by decide +kernel
theorem dX11_tellsTable_25 : decode cX11_tellsTable 25 = .ok (.iload_n 3, 1) := by decide +kernel
theorem dX11_tellsTable_26 : decode cX11_tellsTable 26 = .ok (.bipush 9, 2) := by decide +kernel
theorem dX11_tellsTable_28 : decode cX11_tellsTable 28 = .ok (.if_icmp .ge 93, 3) := by decide +kernel
theorem dX11_tellsTable_31 : decode cX11_tellsTable 31 = .ok (.iload_n 3, 1) := by decide +kernel
theorem dX11_tellsTable_32 : decode cX11_tellsTable 32 = .ok (.iconst 3, 1) := by decide +kernel
theorem dX11_tellsTable_33 : decode cX11_tellsTable 33 = .ok (.idiv, 1) := by decide +kernel
theorem dX11_tellsTable_34 : decode cX11_tellsTable 34 = .ok (.aload_n 0, 1) := by decide +kernel
theorem dX11_tellsTable_35 : decode cX11_tellsTable 35 = .ok (.aload_n 0, 1) := by decide +kernel
theorem dX11_tellsTable_36 : decode cX11_tellsTable 36 = .ok (.aload_n 0, 1) := by decide +kernel
theorem dX11_tellsTable_37 : decode cX11_tellsTable 37 = .ok (.getfield 66, 3) := by decide +kernel
theorem dX11_tellsTable_40 : decode cX11_tellsTable 40 = .ok (.iload_n 2, 1) := by decide +kernel
theorem dX11_tellsTable_41 : decode cX11_tellsTable 41 = .ok (.iaload, 1) := by decide +kernel
theorem dX11_tellsTable_42 : decode cX11_tellsTable 42 = .ok (.invokevirtual 174, 3) := by decide +kernel
theorem dX11_tellsTable_45 : decode cX11_tellsTable 45 = .ok (.invokevirtual 162, 3) := by decide +kernel
theorem dX11_tellsTable_48 : decode cX11_tellsTable 48 = .ok (.if_icmp .ge 27, 3) := by decide +kernel
theorem dX11_tellsTable_51 : decode cX11_tellsTable 51 = .ok (.iload_n 3, 1) := by decide +kernel
theorem dX11_tellsTable_52 : decode cX11_tellsTable 52 = .ok (.iconst 3, 1) := by decide +kernel
theorem dX11_tellsTable_53 : decode cX11_tellsTable 53 = .ok (.irem, 1) := by decide +kernel
theorem dX11_tellsTable_54 : decode cX11_tellsTable 54 = .ok (.aload_n 0, 1) := by decide +kernel
theorem dX11_tellsTable_55 : decode cX11_tellsTable 55 = .ok (.aload_n 0, 1) := by decide +kernel
theorem dX11_tellsTable_56 : decode cX11_tellsTable 56 = .ok (.aload_n 0, 1) := by decide +kernel
theorem dX11_tellsTable_57 : decode cX11_tellsTable 57 = .ok (.getfield 66, 3) := by decide +kernel
theorem dX11_tellsTable_60 : decode cX11_tellsTable 60 = .ok (.iload_n 2, 1) := by decide +kernel
theorem dX11_tellsTable_61 : decode cX11_tellsTable 61 = .ok (.iaload, 1) := by decide +kernel
theorem dX11_tellsTable_62 : decode cX11_tellsTable 62 = .ok (.invokevirtual 181, 3) := by decide +kernel
theorem dX11_tellsTable_65 : decode cX11_tellsTable 65 = .ok (.invokevirtual 162, 3) := by decide +kernel
theorem dX11_tellsTable_68 : decode cX11_tellsTable 68 = .ok (.if_icmp .ge 7, 3) := by decide +kernel
theorem dX11_tellsTable_71 : decode cX11_tellsTable 71 = .ok (.iconst 1, 1) := by decide +kernel
theorem dX11_tellsTable_72 : decode cX11_tellsTable 72 = .ok (.goto 4, 3) := by decide +kernel
theorem dX11_tellsTable_75 : decode cX11_tellsTable 75 = .ok (.iconst 0, 1) := by decide +kernel
theorem dX11_tellsTable_76 : decode cX11_tellsTable 76 = .ok (.istore 4, 2) := by decide +kernel
theorem dX11_tellsTable_78 : decode cX11_tellsTable 78 = .ok (.aload_n 0, 1) := by decide +kernel
theorem dX11_tellsTable_79 : decode cX11_tellsTable 79 = .ok (.getfield 75, 3) := by decide +kernel
theorem dX11_tellsTable_82 : decode cX11_tellsTable 82 = .ok (.bipush 9, 2) := by decide +kernel
theorem dX11_tellsTable_84 : decode cX11_tellsTable 84 = .ok (.iload_n 1, 1) := by decide +kernel
theorem dX11_tellsTable_85 : decode cX11_tellsTable 85 = .ok (.imul, 1) := by decide +kernel
theorem dX11_tellsTable_86 : decode cX11_tellsTable 86 = .ok (.iload_n 3, 1) := by decide +kernel
theorem dX11_tellsTable_87 : decode cX11_tellsTable 87 = .ok (.iadd, 1) := by decide +kernel
theorem dX11_tellsTable_88 : decode cX11_tellsTable 88 = .ok (.iload 4, 2) := by decide +kernel
theorem dX11_tellsTable_90 : decode cX11_tellsTable 90 = .ok (.ifCond .eq 23, 3) := by decide +kernel
theorem dX11_tellsTable_93 : decode cX11_tellsTable 93 = .ok (.aload_n 0, 1) := by decide +kernel
theorem dX11_tellsTable_94 : decode cX11_tellsTable 94 = .ok (.aload_n 0, 1) := by decide +kernel
theorem dX11_tellsTable_95 : decode cX11_tellsTable 95 = .ok (.getfield 66, 3) := by decide +kernel
theorem dX11_tellsTable_98 : decode cX11_tellsTable 98 = .ok (.iload_n 2, 1) := by decide +kernel
theorem dX11_tellsTable_99 : decode cX11_tellsTable 99 = .ok (.iaload, 1) := by decide +kernel
theorem dX11_tellsTable_100 : decode cX11_tellsTable 100 = .ok (.iload_n 3, 1) := by decide +kernel
theorem dX11_tellsTable_101 : decode cX11_tellsTable 101 = .ok (.iconst 3, 1) := by decide +kernel
theorem dX11_tellsTable_102 : decode cX11_tellsTable 102 = .ok (.idiv, 1) := by decide +kernel
theorem dX11_tellsTable_103 : decode cX11_tellsTable 103 = .ok (.iload_n 3, 1) := by decide +kernel
theorem dX11_tellsTable_104 : decode cX11_tellsTable 104 = .ok (.iconst 3, 1) := by decide +kernel
theorem dX11_tellsTable_105 : decode cX11_tellsTable 105 = .ok (.irem, 1) := by decide +kernel
theorem dX11_tellsTable_106 : decode cX11_tellsTable 106 = .ok (.invokevirtual 177, 3) := by decide +kernel
theorem dX11_tellsTable_109 : decode cX11_tellsTable 109 = .ok (.i2l, 1) := by decide +kernel
theorem dX11_tellsTable_110 : decode cX11_tellsTable 110 = .ok (.goto 4, 3) := by decide +kernel
theorem dX11_tellsTable_113 : decode cX11_tellsTable 113 = .ok (.lconst 0, 1) := by decide +kernel
theorem dX11_tellsTable_114 : decode cX11_tellsTable 114 = .ok (.lastore, 1) := by decide +kernel
theorem dX11_tellsTable_115 : decode cX11_tellsTable 115 = .ok (.iinc 3 1, 3) := by decide +kernel
theorem dX11_tellsTable_118 : decode cX11_tellsTable 118 = .ok (.goto (-93), 3) := by decide +kernel
theorem dX11_tellsTable_121 : decode cX11_tellsTable 121 = .ok (.aload_n 0, 1) := by decide +kernel
theorem dX11_tellsTable_122 : decode cX11_tellsTable 122 = .ok (.getfield 69, 3) := by decide +kernel
theorem dX11_tellsTable_125 : decode cX11_tellsTable 125 = .ok (.iload_n 1, 1) := by decide +kernel
theorem dX11_tellsTable_126 : decode cX11_tellsTable 126 = .ok (.aload_n 0, 1) := by decide +kernel
theorem dX11_tellsTable_127 : decode cX11_tellsTable 127 = .ok (.aload_n 0, 1) := by decide +kernel
theorem dX11_tellsTable_128 : decode cX11_tellsTable 128 = .ok (.getfield 66, 3) := by decide +kernel
theorem dX11_tellsTable_131 : decode cX11_tellsTable 131 = .ok (.iload_n 2, 1) := by decide +kernel
theorem dX11_tellsTable_132 : decode cX11_tellsTable 132 = .ok (.iaload, 1) := by decide +kernel
theorem dX11_tellsTable_133 : decode cX11_tellsTable 133 = .ok (.invokevirtual 174, 3) := by decide +kernel
theorem dX11_tellsTable_136 : decode cX11_tellsTable 136 = .ok (.iastore, 1) := by decide +kernel
theorem dX11_tellsTable_137 : decode cX11_tellsTable 137 = .ok (.aload_n 0, 1) := by decide +kernel
theorem dX11_tellsTable_138 : decode cX11_tellsTable 138 = .ok (.getfield 72, 3) := by decide +kernel
theorem dX11_tellsTable_141 : decode cX11_tellsTable 141 = .ok (.iload_n 1, 1) := by decide +kernel
theorem dX11_tellsTable_142 : decode cX11_tellsTable 142 = .ok (.aload_n 0, 1) := by decide +kernel
theorem dX11_tellsTable_143 : decode cX11_tellsTable 143 = .ok (.aload_n 0, 1) := by decide +kernel
theorem dX11_tellsTable_144 : decode cX11_tellsTable 144 = .ok (.getfield 66, 3) := by decide +kernel
theorem dX11_tellsTable_147 : decode cX11_tellsTable 147 = .ok (.iload_n 2, 1) := by decide +kernel
theorem dX11_tellsTable_148 : decode cX11_tellsTable 148 = .ok (.iaload, 1) := by decide +kernel
theorem dX11_tellsTable_149 : decode cX11_tellsTable 149 = .ok (.invokevirtual 181, 3) := by decide +kernel
theorem dX11_tellsTable_152 : decode cX11_tellsTable 152 = .ok (.iastore, 1) := by decide +kernel
theorem dX11_tellsTable_153 : decode cX11_tellsTable 153 = .ok (.iinc 1 1, 3) := by decide +kernel
theorem dX11_tellsTable_156 : decode cX11_tellsTable 156 = .ok (.goto 110, 3) := by decide +kernel
theorem dX11_tellsTable_159 : decode cX11_tellsTable 159 = .ok (.aload_n 0, 1) := by decide +kernel
theorem dX11_tellsTable_160 : decode cX11_tellsTable 160 = .ok (.getfield 66, 3) := by decide +kernel
theorem dX11_tellsTable_163 : decode cX11_tellsTable 163 = .ok (.iload_n 2, 1) := by decide +kernel
theorem dX11_tellsTable_164 : decode cX11_tellsTable 164 = .ok (.iaload, 1) := by decide +kernel
theorem dX11_tellsTable_165 : decode cX11_tellsTable 165 = .ok (.bipush 40, 2) := by decide +kernel
theorem dX11_tellsTable_167 : decode cX11_tellsTable 167 = .ok (.if_icmp .lt 18, 3) := by decide +kernel
theorem dX11_tellsTable_170 : decode cX11_tellsTable 170 = .ok (.aload_n 0, 1) := by decide +kernel
theorem dX11_tellsTable_171 : decode cX11_tellsTable 171 = .ok (.getfield 66, 3) := by decide +kernel
theorem dX11_tellsTable_174 : decode cX11_tellsTable 174 = .ok (.iload_n 2, 1) := by decide +kernel
theorem dX11_tellsTable_175 : decode cX11_tellsTable 175 = .ok (.iaload, 1) := by decide +kernel
theorem dX11_tellsTable_176 : decode cX11_tellsTable 176 = .ok (.bipush 43, 2) := by decide +kernel
theorem dX11_tellsTable_178 : decode cX11_tellsTable 178 = .ok (.if_icmp .ge 7, 3) := by decide +kernel
theorem dX11_tellsTable_181 : decode cX11_tellsTable 181 = .ok (.iconst 1, 1) := by decide +kernel
theorem dX11_tellsTable_182 : decode cX11_tellsTable 182 = .ok (.goto 4, 3) := by decide +kernel
theorem dX11_tellsTable_185 : decode cX11_tellsTable 185 = .ok (.iconst 0, 1) := by decide +kernel
theorem dX11_tellsTable_186 : decode cX11_tellsTable 186 = .ok (.istore_n 3, 1) := by decide +kernel
theorem dX11_tellsTable_187 : decode cX11_tellsTable 187 = .ok (.iload_n 1, 1) := by decide +kernel
theorem dX11_tellsTable_188 : decode cX11_tellsTable 188 = .ok (.iload_n 3, 1) := by decide +kernel
theorem dX11_tellsTable_189 : decode cX11_tellsTable 189 = .ok (.ifCond .eq 7, 3) := by decide +kernel
theorem dX11_tellsTable_192 : decode cX11_tellsTable 192 = .ok (.iconst 1, 1) := by decide +kernel
theorem dX11_tellsTable_193 : decode cX11_tellsTable 193 = .ok (.goto 4, 3) := by decide +kernel
theorem dX11_tellsTable_196 : decode cX11_tellsTable 196 = .ok (.iconst 0, 1) := by decide +kernel
theorem dX11_tellsTable_197 : decode cX11_tellsTable 197 = .ok (.isub, 1) := by decide +kernel
theorem dX11_tellsTable_198 : decode cX11_tellsTable 198 = .ok (.istore_n 1, 1) := by decide +kernel
theorem dX11_tellsTable_199 : decode cX11_tellsTable 199 = .ok (.aload_n 0, 1) := by decide +kernel
theorem dX11_tellsTable_200 : decode cX11_tellsTable 200 = .ok (.aload_n 0, 1) := by decide +kernel
theorem dX11_tellsTable_201 : decode cX11_tellsTable 201 = .ok (.getfield 66, 3) := by decide +kernel
theorem dX11_tellsTable_204 : decode cX11_tellsTable 204 = .ok (.iload_n 2, 1) := by decide +kernel
theorem dX11_tellsTable_205 : decode cX11_tellsTable 205 = .ok (.iaload, 1) := by decide +kernel
theorem dX11_tellsTable_206 : decode cX11_tellsTable 206 = .ok (.iload_n 1, 1) := by decide +kernel
theorem dX11_tellsTable_207 : decode cX11_tellsTable 207 = .ok (.iconst 1, 1) := by decide +kernel
theorem dX11_tellsTable_208 : decode cX11_tellsTable 208 = .ok (.isub, 1) := by decide +kernel
theorem dX11_tellsTable_209 : decode cX11_tellsTable 209 = .ok (.iload_n 3, 1) := by decide +kernel
theorem dX11_tellsTable_210 : decode cX11_tellsTable 210 = .ok (.ifCond .eq 18, 3) := by decide +kernel
theorem dX11_tellsTable_213 : decode cX11_tellsTable 213 = .ok (.aload_n 0, 1) := by decide +kernel
theorem dX11_tellsTable_214 : decode cX11_tellsTable 214 = .ok (.aload_n 0, 1) := by decide +kernel
theorem dX11_tellsTable_215 : decode cX11_tellsTable 215 = .ok (.getfield 72, 3) := by decide +kernel
theorem dX11_tellsTable_218 : decode cX11_tellsTable 218 = .ok (.iload_n 1, 1) := by decide +kernel
theorem dX11_tellsTable_219 : decode cX11_tellsTable 219 = .ok (.iconst 1, 1) := by decide +kernel
theorem dX11_tellsTable_220 : decode cX11_tellsTable 220 = .ok (.isub, 1) := by decide +kernel
theorem dX11_tellsTable_221 : decode cX11_tellsTable 221 = .ok (.iaload, 1) := by decide +kernel
theorem dX11_tellsTable_222 : decode cX11_tellsTable 222 = .ok (.invokevirtual 162, 3) := by decide +kernel
theorem dX11_tellsTable_225 : decode cX11_tellsTable 225 = .ok (.goto 4, 3) := by decide +kernel
theorem dX11_tellsTable_228 : decode cX11_tellsTable 228 = .ok (.iconst 0, 1) := by decide +kernel
theorem dX11_tellsTable_229 : decode cX11_tellsTable 229 = .ok (.invokevirtual 375, 3) := by decide +kernel
theorem dX11_tellsTable_232 : decode cX11_tellsTable 232 = .ok (.ifCond .ne 5, 3) := by decide +kernel
theorem dX11_tellsTable_235 : decode cX11_tellsTable 235 = .ok (.iconst 0, 1) := by decide +kernel
theorem dX11_tellsTable_236 : decode cX11_tellsTable 236 = .ok (.ireturn, 1) := by decide +kernel
theorem dX11_tellsTable_237 : decode cX11_tellsTable 237 = .ok (.aload_n 0, 1) := by decide +kernel
theorem dX11_tellsTable_238 : decode cX11_tellsTable 238 = .ok (.getfield 72, 3) := by decide +kernel
theorem dX11_tellsTable_241 : decode cX11_tellsTable 241 = .ok (.iload_n 1, 1) := by decide +kernel
theorem dX11_tellsTable_242 : decode cX11_tellsTable 242 = .ok (.iconst 1, 1) := by decide +kernel
theorem dX11_tellsTable_243 : decode cX11_tellsTable 243 = .ok (.isub, 1) := by decide +kernel
theorem dX11_tellsTable_244 : decode cX11_tellsTable 244 = .ok (.iload_n 3, 1) := by decide +kernel
theorem dX11_tellsTable_245 : decode cX11_tellsTable 245 = .ok (.ifCond .eq 12, 3) := by decide +kernel
theorem dX11_tellsTable_248 : decode cX11_tellsTable 248 = .ok (.aload_n 0, 1) := by decide +kernel
theorem dX11_tellsTable_249 : decode cX11_tellsTable 249 = .ok (.getfield 72, 3) := by decide +kernel
theorem dX11_tellsTable_252 : decode cX11_tellsTable 252 = .ok (.iload_n 1, 1) := by decide +kernel
theorem dX11_tellsTable_253 : decode cX11_tellsTable 253 = .ok (.iaload, 1) := by decide +kernel
theorem dX11_tellsTable_254 : decode cX11_tellsTable 254 = .ok (.goto 11, 3) := by decide +kernel
theorem dX11_tellsTable_257 : decode cX11_tellsTable 257 = .ok (.aload_n 0, 1) := by decide +kernel
theorem dX11_tellsTable_258 : decode cX11_tellsTable 258 = .ok (.getfield 72, 3) := by decide +kernel
theorem dX11_tellsTable_261 : decode cX11_tellsTable 261 = .ok (.iload_n 1, 1) := by decide +kernel
theorem dX11_tellsTable_262 : decode cX11_tellsTable 262 = .ok (.iconst 1, 1) := by decide +kernel
theorem dX11_tellsTable_263 : decode cX11_tellsTable 263 = .ok (.isub, 1) := by decide +kernel
theorem dX11_tellsTable_264 : decode cX11_tellsTable 264 = .ok (.iaload, 1) := by decide +kernel
theorem dX11_tellsTable_265 : decode cX11_tellsTable 265 = .ok (.iastore, 1) := by decide +kernel
theorem dX11_tellsTable_266 : decode cX11_tellsTable 266 = .ok (.iinc 2 1, 3) := by decide +kernel
theorem dX11_tellsTable_269 : decode cX11_tellsTable 269 = .ok (.goto (-265), 3) := by decide +kernel
theorem dX11_tellsTable_272 : decode cX11_tellsTable 272 = .ok (.iconst 1, 1) := by decide +kernel
theorem dX11_tellsTable_273 : decode cX11_tellsTable 273 = .ok (.ireturn, 1) := by decide +kernel
theorem dX11_restsTable_0 : decode cX11_restsTable 0 = .ok (.aload_n 0, 1) := by decide +kernel
theorem dX11_restsTable_1 : decode cX11_restsTable 1 = .ok (.aload_n 0, 1) := by decide +kernel
theorem dX11_restsTable_2 : decode cX11_restsTable 2 = .ok (.getfield 72, 3) := by decide +kernel
theorem dX11_restsTable_5 : decode cX11_restsTable 5 = .ok (.iconst 0, 1) := by decide +kernel
theorem dX11_restsTable_6 : decode cX11_restsTable 6 = .ok (.iaload, 1) := by decide +kernel
theorem dX11_restsTable_7 : decode cX11_restsTable 7 = .ok (.aload_n 0, 1) := by decide +kernel
theorem dX11_restsTable_8 : decode cX11_restsTable 8 = .ok (.getfield 23, 3) := by decide +kernel
theorem dX11_restsTable_11 : decode cX11_restsTable 11 = .ok (.invokevirtual 188, 3) := by decide +kernel
theorem dX11_restsTable_14 : decode cX11_restsTable 14 = .ok (.iconst 1, 1) := by decide +kernel
theorem dX11_restsTable_15 : decode cX11_restsTable 15 = .ok (.istore_n 1, 1) := by decide +kernel
theorem dX11_restsTable_16 : decode cX11_restsTable 16 = .ok (.iconst 0, 1) := by decide +kernel
theorem dX11_restsTable_17 : decode cX11_restsTable 17 = .ok (.istore_n 2, 1) := by decide +kernel
theorem dX11_restsTable_18 : decode cX11_restsTable 18 = .ok (.iload_n 2, 1) := by decide +kernel
theorem dX11_restsTable_19 : decode cX11_restsTable 19 = .ok (.aload_n 0, 1) := by decide +kernel
theorem dX11_restsTable_20 : decode cX11_restsTable 20 = .ok (.aload_n 0, 1) := by decide +kernel
theorem dX11_restsTable_21 : decode cX11_restsTable 21 = .ok (.getfield 69, 3) := by decide +kernel
theorem dX11_restsTable_24 : decode cX11_restsTable 24 = .ok (.iconst 0, 1) := by decide +kernel
theorem dX11_restsTable_25 : decode cX11_restsTable 25 = .ok (.iaload, 1) := by decide +kernel
theorem dX11_restsTable_26 : decode cX11_restsTable 26 = .ok (.invokevirtual 162, 3) := by decide +kernel
theorem dX11_restsTable_29 : decode cX11_restsTable 29 = .ok (.if_icmp .ge 134, 3) := by decide +kernel
theorem dX11_restsTable_32 : decode cX11_restsTable 32 = .ok (.aload_n 0, 1) := by decide +kernel
theorem dX11_restsTable_33 : decode cX11_restsTable 33 = .ok (.aload_n 0, 1) := by decide +kernel
theorem dX11_restsTable_34 : decode cX11_restsTable 34 = .ok (.getfield 38, 3) := by decide +kernel
theorem dX11_restsTable_37 : decode cX11_restsTable 37 = .ok (.aload_n 0, 1) := by decide +kernel
theorem dX11_restsTable_38 : decode cX11_restsTable 38 = .ok (.getfield 75, 3) := by decide +kernel
theorem dX11_restsTable_41 : decode cX11_restsTable 41 = .ok (.iconst 3, 1) := by decide +kernel
theorem dX11_restsTable_42 : decode cX11_restsTable 42 = .ok (.iload_n 2, 1) := by decide +kernel
theorem dX11_restsTable_43 : decode cX11_restsTable 43 = .ok (.imul, 1) := by decide +kernel
theorem dX11_restsTable_44 : decode cX11_restsTable 44 = .ok (.laload, 1) := by decide +kernel
theorem dX11_restsTable_45 : decode cX11_restsTable 45 = .ok (.aload_n 0, 1) := by decide +kernel
theorem dX11_restsTable_46 : decode cX11_restsTable 46 = .ok (.getfield 75, 3) := by decide +kernel
theorem dX11_restsTable_49 : decode cX11_restsTable 49 = .ok (.iconst 3, 1) := by decide +kernel
theorem dX11_restsTable_50 : decode cX11_restsTable 50 = .ok (.iload_n 2, 1) := by decide +kernel
theorem dX11_restsTable_51 : decode cX11_restsTable 51 = .ok (.imul, 1) := by decide +kernel
theorem dX11_restsTable_52 : decode cX11_restsTable 52 = .ok (.iconst 1, 1) := by decide +kernel
theorem dX11_restsTable_53 : decode cX11_restsTable 53 = .ok (.iadd, 1) := by decide +kernel
theorem dX11_restsTable_54 : decode cX11_restsTable 54 = .ok (.laload, 1) := by decide +kernel
theorem dX11_restsTable_55 : decode cX11_restsTable 55 = .ok (.aload_n 0, 1) := by decide +kernel
theorem dX11_restsTable_56 : decode cX11_restsTable 56 = .ok (.getfield 75, 3) := by decide +kernel
theorem dX11_restsTable_59 : decode cX11_restsTable 59 = .ok (.iconst 3, 1) := by decide +kernel
theorem dX11_restsTable_60 : decode cX11_restsTable 60 = .ok (.iload_n 2, 1) := by decide +kernel
theorem dX11_restsTable_61 : decode cX11_restsTable 61 = .ok (.imul, 1) := by decide +kernel
theorem dX11_restsTable_62 : decode cX11_restsTable 62 = .ok (.iconst 2, 1) := by decide +kernel
theorem dX11_restsTable_63 : decode cX11_restsTable 63 = .ok (.iadd, 1) := by decide +kernel
theorem dX11_restsTable_64 : decode cX11_restsTable 64 = .ok (.laload, 1) := by decide +kernel
theorem dX11_restsTable_65 : decode cX11_restsTable 65 = .ok (.aload_n 0, 1) := by decide +kernel
theorem dX11_restsTable_66 : decode cX11_restsTable 66 = .ok (.aload_n 0, 1) := by decide +kernel
theorem dX11_restsTable_67 : decode cX11_restsTable 67 = .ok (.getfield 72, 3) := by decide +kernel
theorem dX11_restsTable_70 : decode cX11_restsTable 70 = .ok (.iconst 0, 1) := by decide +kernel
theorem dX11_restsTable_71 : decode cX11_restsTable 71 = .ok (.iaload, 1) := by decide +kernel
theorem dX11_restsTable_72 : decode cX11_restsTable 72 = .ok (.invokevirtual 162, 3) := by decide +kernel
theorem dX11_restsTable_75 : decode cX11_restsTable 75 = .ok (.invokevirtual 184, 3) := by decide +kernel
theorem dX11_restsTable_78 : decode cX11_restsTable 78 = .ok (.aload_n 0, 1) := by decide +kernel
theorem dX11_restsTable_79 : decode cX11_restsTable 79 = .ok (.getfield 38, 3) := by decide +kernel
theorem dX11_restsTable_82 : decode cX11_restsTable 82 = .ok (.aload_n 0, 1) := by decide +kernel
theorem dX11_restsTable_83 : decode cX11_restsTable 83 = .ok (.getfield 23, 3) := by decide +kernel
theorem dX11_restsTable_86 : decode cX11_restsTable 86 = .ok (.iconst 0, 1) := by decide +kernel
theorem dX11_restsTable_87 : decode cX11_restsTable 87 = .ok (.aload_n 0, 1) := by decide +kernel
theorem dX11_restsTable_88 : decode cX11_restsTable 88 = .ok (.aload_n 0, 1) := by decide +kernel
theorem dX11_restsTable_89 : decode cX11_restsTable 89 = .ok (.getfield 72, 3) := by decide +kernel
theorem dX11_restsTable_92 : decode cX11_restsTable 92 = .ok (.iconst 0, 1) := by decide +kernel
theorem dX11_restsTable_93 : decode cX11_restsTable 93 = .ok (.iaload, 1) := by decide +kernel
theorem dX11_restsTable_94 : decode cX11_restsTable 94 = .ok (.invokevirtual 162, 3) := by decide +kernel
theorem dX11_restsTable_97 : decode cX11_restsTable 97 = .ok (.invokestatic 195, 3) := by decide +kernel
theorem dX11_restsTable_100 : decode cX11_restsTable 100 = .ok (.iconst 0, 1) := by decide +kernel
theorem dX11_restsTable_101 : decode cX11_restsTable 101 = .ok (.istore_n 3, 1) := by decide +kernel
theorem dX11_restsTable_102 : decode cX11_restsTable 102 = .ok (.iload_n 3, 1) := by decide +kernel
theorem dX11_restsTable_103 : decode cX11_restsTable 103 = .ok (.iconst 3, 1) := by decide +kernel
theorem dX11_restsTable_104 : decode cX11_restsTable 104 = .ok (.if_icmp .ge 53, 3) := by decide +kernel
theorem dX11_restsTable_107 : decode cX11_restsTable 107 = .ok (.aload_n 0, 1) := by decide +kernel
theorem dX11_restsTable_108 : decode cX11_restsTable 108 = .ok (.getfield 75, 3) := by decide +kernel
theorem dX11_restsTable_111 : decode cX11_restsTable 111 = .ok (.iconst 3, 1) := by decide +kernel
theorem dX11_restsTable_112 : decode cX11_restsTable 112 = .ok (.iload_n 2, 1) := by decide +kernel
theorem dX11_restsTable_113 : decode cX11_restsTable 113 = .ok (.imul, 1) := by decide +kernel
theorem dX11_restsTable_114 : decode cX11_restsTable 114 = .ok (.iload_n 3, 1) := by decide +kernel
theorem dX11_restsTable_115 : decode cX11_restsTable 115 = .ok (.iadd, 1) := by decide +kernel
theorem dX11_restsTable_116 : decode cX11_restsTable 116 = .ok (.aload_n 0, 1) := by decide +kernel
theorem dX11_restsTable_117 : decode cX11_restsTable 117 = .ok (.getfield 38, 3) := by decide +kernel
theorem dX11_restsTable_120 : decode cX11_restsTable 120 = .ok (.iload_n 3, 1) := by decide +kernel
theorem dX11_restsTable_121 : decode cX11_restsTable 121 = .ok (.laload, 1) := by decide +kernel
theorem dX11_restsTable_122 : decode cX11_restsTable 122 = .ok (.lastore, 1) := by decide +kernel
theorem dX11_restsTable_123 : decode cX11_restsTable 123 = .ok (.iload_n 1, 1) := by decide +kernel
theorem dX11_restsTable_124 : decode cX11_restsTable 124 = .ok (.ifCond .eq 25, 3) := by decide +kernel
theorem dX11_restsTable_127 : decode cX11_restsTable 127 = .ok (.aload_n 0, 1) := by decide +kernel
theorem dX11_restsTable_128 : decode cX11_restsTable 128 = .ok (.getfield 38, 3) := by decide +kernel
theorem dX11_restsTable_131 : decode cX11_restsTable 131 = .ok (.iload_n 3, 1) := by decide +kernel
theorem dX11_restsTable_132 : decode cX11_restsTable 132 = .ok (.laload, 1) := by decide +kernel
theorem dX11_restsTable_133 : decode cX11_restsTable 133 = .ok (.ldc2_w 296, 3) := by decide +kernel
theorem dX11_restsTable_136 : decode cX11_restsTable 136 = .ok (.ldc2_w 298, 3) := by decide +kernel
theorem dX11_restsTable_139 : decode cX11_restsTable 139 = .ok (.invokestatic 123, 3) := by decide +kernel
theorem dX11_restsTable_142 : decode cX11_restsTable 142 = .ok (.ifCond .eq 7, 3) := by decide +kernel
theorem dX11_restsTable_145 : decode cX11_restsTable 145 = .ok (.iconst 1, 1) := by decide +kernel
theorem dX11_restsTable_146 : decode cX11_restsTable 146 = .ok (.goto 4, 3) := by decide +kernel
theorem dX11_restsTable_149 : decode cX11_restsTable 149 = .ok (.iconst 0, 1) := by decide +kernel
theorem dX11_restsTable_150 : decode cX11_restsTable 150 = .ok (.istore_n 1, 1) := by decide +kernel
theorem dX11_restsTable_151 : decode cX11_restsTable 151 = .ok (.iinc 3 1, 3) := by decide +kernel
theorem dX11_restsTable_154 : decode cX11_restsTable 154 = .ok (.goto (-52), 3) := by decide +kernel
theorem dX11_restsTable_157 : decode cX11_restsTable 157 = .ok (.iinc 2 1, 3) := by decide +kernel
theorem dX11_restsTable_160 : decode cX11_restsTable 160 = .ok (.goto (-142), 3) := by decide +kernel
theorem dX11_restsTable_163 : decode cX11_restsTable 163 = .ok (.iload_n 1, 1) := by decide +kernel
theorem dX11_restsTable_164 : decode cX11_restsTable 164 = .ok (.ireturn, 1) := by decide +kernel
theorem dX11_becomes_0 : decode cX11_becomes 0 = .ok (.aload_n 0, 1) := by decide +kernel
theorem dX11_becomes_1 : decode cX11_becomes 1 = .ok (.invokevirtual 378, 3) := by decide +kernel
theorem dX11_becomes_4 : decode cX11_becomes 4 = .ok (.ifCond .ne 7, 3) := by decide +kernel
theorem dX11_becomes_7 : decode cX11_becomes 7 = .ok (.sipush (-300), 3) := by decide +kernel
theorem dX11_becomes_10 : decode cX11_becomes 10 = .ok (.ireturn, 1) := by decide +kernel
theorem dX11_becomes_11 : decode cX11_becomes 11 = .ok (.aload_n 0, 1) := by decide +kernel
theorem dX11_becomes_12 : decode cX11_becomes 12 = .ok (.invokevirtual 382, 3) := by decide +kernel
theorem dX11_becomes_15 : decode cX11_becomes 15 = .ok (.ifCond .ne 7, 3) := by decide +kernel
theorem dX11_becomes_18 : decode cX11_becomes 18 = .ok (.sipush (-301), 3) := by decide +kernel
theorem dX11_becomes_21 : decode cX11_becomes 21 = .ok (.ireturn, 1) := by decide +kernel
theorem dX11_becomes_22 : decode cX11_becomes 22 = .ok (.aload_n 0, 1) := by decide +kernel
theorem dX11_becomes_23 : decode cX11_becomes 23 = .ok (.invokevirtual 385, 3) := by decide +kernel
theorem dX11_becomes_26 : decode cX11_becomes 26 = .ok (.ifCond .eq 10, 3) := by decide +kernel
theorem dX11_becomes_29 : decode cX11_becomes 29 = .ok (.aload_n 0, 1) := by decide +kernel
theorem dX11_becomes_30 : decode cX11_becomes 30 = .ok (.invokevirtual 388, 3) := by decide +kernel
theorem dX11_becomes_33 : decode cX11_becomes 33 = .ok (.ifCond .ne 6, 3) := by decide +kernel
theorem dX11_becomes_36 : decode cX11_becomes 36 = .ok (.bipush (-16), 2) := by decide +kernel
theorem dX11_becomes_38 : decode cX11_becomes 38 = .ok (.ireturn, 1) := by decide +kernel
theorem dX11_becomes_39 : decode cX11_becomes 39 = .ok (.aload_n 0, 1) := by decide +kernel
theorem dX11_becomes_40 : decode cX11_becomes 40 = .ok (.invokevirtual 213, 3) := by decide +kernel
theorem dX11_becomes_43 : decode cX11_becomes 43 = .ok (.aload_n 0, 1) := by decide +kernel
theorem dX11_becomes_44 : decode cX11_becomes 44 = .ok (.getfield 7, 3) := by decide +kernel
theorem dX11_becomes_47 : decode cX11_becomes 47 = .ok (.bipush 84, 2) := by decide +kernel
theorem dX11_becomes_49 : decode cX11_becomes 49 = .ok (.bipush 11, 2) := by decide +kernel
theorem dX11_becomes_51 : decode cX11_becomes 51 = .ok (.iload_n 1, 1) := by decide +kernel
theorem dX11_becomes_52 : decode cX11_becomes 52 = .ok (.imul, 1) := by decide +kernel
theorem dX11_becomes_53 : decode cX11_becomes 53 = .ok (.iadd, 1) := by decide +kernel
theorem dX11_becomes_54 : decode cX11_becomes 54 = .ok (.aload_n 0, 1) := by decide +kernel
theorem dX11_becomes_55 : decode cX11_becomes 55 = .ok (.getfield 69, 3) := by decide +kernel
theorem dX11_becomes_58 : decode cX11_becomes 58 = .ok (.iconst 0, 1) := by decide +kernel
theorem dX11_becomes_59 : decode cX11_becomes 59 = .ok (.iaload, 1) := by decide +kernel
theorem dX11_becomes_60 : decode cX11_becomes 60 = .ok (.iastore, 1) := by decide +kernel
theorem dX11_becomes_61 : decode cX11_becomes 61 = .ok (.aload_n 0, 1) := by decide +kernel
theorem dX11_becomes_62 : decode cX11_becomes 62 = .ok (.getfield 7, 3) := by decide +kernel
theorem dX11_becomes_65 : decode cX11_becomes 65 = .ok (.bipush 84, 2) := by decide +kernel
theorem dX11_becomes_67 : decode cX11_becomes 67 = .ok (.bipush 11, 2) := by decide +kernel
theorem dX11_becomes_69 : decode cX11_becomes 69 = .ok (.iload_n 1, 1) := by decide +kernel
theorem dX11_becomes_70 : decode cX11_becomes 70 = .ok (.imul, 1) := by decide +kernel
theorem dX11_becomes_71 : decode cX11_becomes 71 = .ok (.iadd, 1) := by decide +kernel
theorem dX11_becomes_72 : decode cX11_becomes 72 = .ok (.iconst 1, 1) := by decide +kernel
theorem dX11_becomes_73 : decode cX11_becomes 73 = .ok (.iadd, 1) := by decide +kernel
theorem dX11_becomes_74 : decode cX11_becomes 74 = .ok (.aload_n 0, 1) := by decide +kernel
theorem dX11_becomes_75 : decode cX11_becomes 75 = .ok (.getfield 72, 3) := by decide +kernel
theorem dX11_becomes_78 : decode cX11_becomes 78 = .ok (.iconst 0, 1) := by decide +kernel
theorem dX11_becomes_79 : decode cX11_becomes 79 = .ok (.iaload, 1) := by decide +kernel
theorem dX11_becomes_80 : decode cX11_becomes 80 = .ok (.iastore, 1) := by decide +kernel
theorem dX11_becomes_81 : decode cX11_becomes 81 = .ok (.iconst 0, 1) := by decide +kernel
theorem dX11_becomes_82 : decode cX11_becomes 82 = .ok (.istore_n 2, 1) := by decide +kernel
theorem dX11_becomes_83 : decode cX11_becomes 83 = .ok (.iload_n 2, 1) := by decide +kernel
theorem dX11_becomes_84 : decode cX11_becomes 84 = .ok (.bipush 9, 2) := by decide +kernel
theorem dX11_becomes_86 : decode cX11_becomes 86 = .ok (.if_icmp .ge 52, 3) := by decide +kernel
theorem dX11_becomes_89 : decode cX11_becomes 89 = .ok (.aload_n 0, 1) := by decide +kernel
theorem dX11_becomes_90 : decode cX11_becomes 90 = .ok (.getfield 7, 3) := by decide +kernel
theorem dX11_becomes_93 : decode cX11_becomes 93 = .ok (.bipush 84, 2) := by decide +kernel
theorem dX11_becomes_95 : decode cX11_becomes 95 = .ok (.bipush 11, 2) := by decide +kernel
theorem dX11_becomes_97 : decode cX11_becomes 97 = .ok (.iload_n 1, 1) := by decide +kernel
theorem dX11_becomes_98 : decode cX11_becomes 98 = .ok (.imul, 1) := by decide +kernel
theorem dX11_becomes_99 : decode cX11_becomes 99 = .ok (.iadd, 1) := by decide +kernel
theorem dX11_becomes_100 : decode cX11_becomes 100 = .ok (.iconst 2, 1) := by decide +kernel
theorem dX11_becomes_101 : decode cX11_becomes 101 = .ok (.iadd, 1) := by decide +kernel
theorem dX11_becomes_102 : decode cX11_becomes 102 = .ok (.iload_n 2, 1) := by decide +kernel
theorem dX11_becomes_103 : decode cX11_becomes 103 = .ok (.iadd, 1) := by decide +kernel
theorem dX11_becomes_104 : decode cX11_becomes 104 = .ok (.iload_n 2, 1) := by decide +kernel
theorem dX11_becomes_105 : decode cX11_becomes 105 = .ok (.iconst 3, 1) := by decide +kernel
theorem dX11_becomes_106 : decode cX11_becomes 106 = .ok (.idiv, 1) := by decide +kernel
theorem dX11_becomes_107 : decode cX11_becomes 107 = .ok (.aload_n 0, 1) := by decide +kernel
theorem dX11_becomes_108 : decode cX11_becomes 108 = .ok (.aload_n 0, 1) := by decide +kernel
theorem dX11_becomes_109 : decode cX11_becomes 109 = .ok (.getfield 69, 3) := by decide +kernel
theorem dX11_becomes_112 : decode cX11_becomes 112 = .ok (.iconst 0, 1) := by decide +kernel
theorem dX11_becomes_113 : decode cX11_becomes 113 = .ok (.iaload, 1) := by decide +kernel
theorem dX11_becomes_114 : decode cX11_becomes 114 = .ok (.invokevirtual 162, 3) := by decide +kernel
theorem dX11_becomes_117 : decode cX11_becomes 117 = .ok (.if_icmp .ge 13, 3) := by decide +kernel
theorem dX11_becomes_120 : decode cX11_becomes 120 = .ok (.aload_n 0, 1) := by decide +kernel
theorem dX11_becomes_121 : decode cX11_becomes 121 = .ok (.getfield 75, 3) := by decide +kernel
theorem dX11_becomes_124 : decode cX11_becomes 124 = .ok (.iload_n 2, 1) := by decide +kernel
theorem dX11_becomes_125 : decode cX11_becomes 125 = .ok (.laload, 1) := by decide +kernel
theorem dX11_becomes_126 : decode cX11_becomes 126 = .ok (.l2i, 1) := by decide +kernel
theorem dX11_becomes_127 : decode cX11_becomes 127 = .ok (.goto 4, 3) := by decide +kernel
theorem dX11_becomes_130 : decode cX11_becomes 130 = .ok (.iconst 0, 1) := by decide +kernel
theorem dX11_becomes_131 : decode cX11_becomes 131 = .ok (.iastore, 1) := by decide +kernel
theorem dX11_becomes_132 : decode cX11_becomes 132 = .ok (.iinc 2 1, 3) := by decide +kernel
theorem dX11_becomes_135 : decode cX11_becomes 135 = .ok (.goto (-52), 3) := by decide +kernel
theorem dX11_becomes_138 : decode cX11_becomes 138 = .ok (.iconst 1, 1) := by decide +kernel
theorem dX11_becomes_139 : decode cX11_becomes 139 = .ok (.ireturn, 1) := by decide +kernel
theorem dX11_text_0 : decode cX11_text 0 = .ok (.iload_n 1, 1) := by decide +kernel
theorem dX11_text_1 : decode cX11_text 1 = .ok (.i2l, 1) := by decide +kernel
theorem dX11_text_2 : decode cX11_text 2 = .ok (.lconst 0, 1) := by decide +kernel
theorem dX11_text_3 : decode cX11_text 3 = .ok (.ldc2_w 127, 3) := by decide +kernel
theorem dX11_text_6 : decode cX11_text 6 = .ok (.invokestatic 123, 3) := by decide +kernel
theorem dX11_text_9 : decode cX11_text 9 = .ok (.ifCond .ne 5, 3) := by decide +kernel
theorem dX11_text_12 : decode cX11_text 12 = .ok (.iconst (-1), 1) := by decide +kernel
theorem dX11_text_13 : decode cX11_text 13 = .ok (.ireturn, 1) := by decide +kernel
theorem dX11_text_14 : decode cX11_text 14 = .ok (.aload_n 0, 1) := by decide +kernel
theorem dX11_text_15 : decode cX11_text 15 = .ok (.iconst 0, 1) := by decide +kernel
theorem dX11_text_16 : decode cX11_text 16 = .ok (.putfield 336, 3) := by decide +kernel
theorem dX11_text_19 : decode cX11_text 19 = .ok (.aload_n 0, 1) := by decide +kernel
theorem dX11_text_20 : decode cX11_text 20 = .ok (.iconst 0, 1) := by decide +kernel
theorem dX11_text_21 : decode cX11_text 21 = .ok (.putfield 346, 3) := by decide +kernel
theorem dX11_text_24 : decode cX11_text 24 = .ok (.aload_n 0, 1) := by decide +kernel
theorem dX11_text_25 : decode cX11_text 25 = .ok (.iconst 0, 1) := by decide +kernel
theorem dX11_text_26 : decode cX11_text 26 = .ok (.putfield 352, 3) := by decide +kernel
theorem dX11_text_29 : decode cX11_text 29 = .ok (.aload_n 0, 1) := by decide +kernel
theorem dX11_text_30 : decode cX11_text 30 = .ok (.iconst 0, 1) := by decide +kernel
theorem dX11_text_31 : decode cX11_text 31 = .ok (.putfield 339, 3) := by decide +kernel
theorem dX11_text_34 : decode cX11_text 34 = .ok (.aload_n 0, 1) := by decide +kernel
theorem dX11_text_35 : decode cX11_text 35 = .ok (.invokevirtual 358, 3) := by decide +kernel
theorem dX11_text_38 : decode cX11_text 38 = .ok (.aload_n 0, 1) := by decide +kernel
theorem dX11_text_39 : decode cX11_text 39 = .ok (.invokevirtual 343, 3) := by decide +kernel
theorem dX11_text_42 : decode cX11_text 42 = .ok (.iconst (-1), 1) := by decide +kernel
theorem dX11_text_43 : decode cX11_text 43 = .ok (.if_icmp .ne 18, 3) := by decide +kernel
theorem dX11_text_46 : decode cX11_text 46 = .ok (.aload_n 0, 1) := by decide +kernel
theorem dX11_text_47 : decode cX11_text 47 = .ok (.getfield 336, 3) := by decide +kernel
theorem dX11_text_50 : decode cX11_text 50 = .ok (.aload_n 0, 1) := by decide +kernel
theorem dX11_text_51 : decode cX11_text 51 = .ok (.getfield 333, 3) := by decide +kernel
theorem dX11_text_54 : decode cX11_text 54 = .ok (.if_icmp .ne 7, 3) := by decide +kernel
theorem dX11_text_57 : decode cX11_text 57 = .ok (.iconst 1, 1) := by decide +kernel
theorem dX11_text_58 : decode cX11_text 58 = .ok (.goto 4, 3) := by decide +kernel
theorem dX11_text_61 : decode cX11_text 61 = .ok (.iconst 0, 1) := by decide +kernel
theorem dX11_text_62 : decode cX11_text 62 = .ok (.istore_n 2, 1) := by decide +kernel
theorem dX11_text_63 : decode cX11_text 63 = .ok (.aload_n 0, 1) := by decide +kernel
theorem dX11_text_64 : decode cX11_text 64 = .ok (.getfield 336, 3) := by decide +kernel
theorem dX11_text_67 : decode cX11_text 67 = .ok (.istore_n 3, 1) := by decide +kernel
theorem dX11_text_68 : decode cX11_text 68 = .ok (.aload_n 0, 1) := by decide +kernel
theorem dX11_text_69 : decode cX11_text 69 = .ok (.iconst 0, 1) := by decide +kernel
theorem dX11_text_70 : decode cX11_text 70 = .ok (.putfield 333, 3) := by decide +kernel
theorem dX11_text_73 : decode cX11_text 73 = .ok (.aload_n 0, 1) := by decide +kernel
theorem dX11_text_74 : decode cX11_text 74 = .ok (.getfield 339, 3) := by decide +kernel
theorem dX11_text_77 : decode cX11_text 77 = .ok (.ifCond .ne 7, 3) := by decide +kernel
theorem dX11_text_80 : decode cX11_text 80 = .ok (.iload_n 2, 1) := by decide +kernel
theorem dX11_text_81 : decode cX11_text 81 = .ok (.ifCond .ne 10, 3) := by decide +kernel
theorem dX11_text_84 : decode cX11_text 84 = .ok (.bipush (-100), 2) := by decide +kernel
theorem dX11_text_86 : decode cX11_text 86 = .ok (.iload_n 3, 1) := by decide +kernel
theorem dX11_text_87 : decode cX11_text 87 = .ok (.isub, 1) := by decide +kernel
theorem dX11_text_88 : decode cX11_text 88 = .ok (.goto 8, 3) := by decide +kernel
theorem dX11_text_91 : decode cX11_text 91 = .ok (.aload_n 0, 1) := by decide +kernel
theorem dX11_text_92 : decode cX11_text 92 = .ok (.iload_n 1, 1) := by decide +kernel
theorem dX11_text_93 : decode cX11_text 93 = .ok (.invokevirtual 391, 3) := by decide +kernel
theorem dX11_text_96 : decode cX11_text 96 = .ok (.ireturn, 1) := by decide +kernel
theorem dX11_against_0 : decode cX11_against 0 = .ok (.iload_n 1, 1) := by decide +kernel
theorem dX11_against_1 : decode cX11_against 1 = .ok (.invokestatic 293, 3) := by decide +kernel
theorem dX11_against_4 : decode cX11_against 4 = .ok (.ifCond .ne 5, 3) := by decide +kernel
theorem dX11_against_7 : decode cX11_against 7 = .ok (.iconst (-1), 1) := by decide +kernel
theorem dX11_against_8 : decode cX11_against 8 = .ok (.ireturn, 1) := by decide +kernel
theorem dX11_against_9 : decode cX11_against 9 = .ok (.aload_n 0, 1) := by decide +kernel
theorem dX11_against_10 : decode cX11_against 10 = .ok (.getfield 93, 3) := by decide +kernel
theorem dX11_against_13 : decode cX11_against 13 = .ok (.iload_n 1, 1) := by decide +kernel
theorem dX11_against_14 : decode cX11_against 14 = .ok (.iaload, 1) := by decide +kernel
theorem dX11_against_15 : decode cX11_against 15 = .ok (.ifCond .eq 20, 3) := by decide +kernel
theorem dX11_against_18 : decode cX11_against 18 = .ok (.aload_n 0, 1) := by decide +kernel
theorem dX11_against_19 : decode cX11_against 19 = .ok (.getfield 93, 3) := by decide +kernel
theorem dX11_against_22 : decode cX11_against 22 = .ok (.iload_n 1, 1) := by decide +kernel
theorem dX11_against_23 : decode cX11_against 23 = .ok (.iaload, 1) := by decide +kernel
theorem dX11_against_24 : decode cX11_against 24 = .ok (.ifCond .ge 8, 3) := by decide +kernel
theorem dX11_against_27 : decode cX11_against 27 = .ok (.bipush (-11), 2) := by decide +kernel
theorem dX11_against_29 : decode cX11_against 29 = .ok (.goto 5, 3) := by decide +kernel
theorem dX11_against_32 : decode cX11_against 32 = .ok (.bipush (-13), 2) := by decide +kernel
theorem dX11_against_34 : decode cX11_against 34 = .ok (.ireturn, 1) := by decide +kernel
theorem dX11_against_35 : decode cX11_against 35 = .ok (.iload_n 2, 1) := by decide +kernel
theorem dX11_against_36 : decode cX11_against 36 = .ok (.ifCond .lt 16, 3) := by decide +kernel
theorem dX11_against_39 : decode cX11_against 39 = .ok (.iload_n 2, 1) := by decide +kernel
theorem dX11_against_40 : decode cX11_against 40 = .ok (.aload_n 0, 1) := by decide +kernel
theorem dX11_against_41 : decode cX11_against 41 = .ok (.getfield 96, 3) := by decide +kernel
theorem dX11_against_44 : decode cX11_against 44 = .ok (.iload_n 1, 1) := by decide +kernel
theorem dX11_against_45 : decode cX11_against 45 = .ok (.iaload, 1) := by decide +kernel
theorem dX11_against_46 : decode cX11_against 46 = .ok (.bipush 7, 2) := by decide +kernel
theorem dX11_against_48 : decode cX11_against 48 = .ok (.isub, 1) := by decide +kernel
theorem dX11_against_49 : decode cX11_against 49 = .ok (.if_icmp .le 6, 3) := by decide +kernel
theorem dX11_against_52 : decode cX11_against 52 = .ok (.bipush (-12), 2) := by decide +kernel
theorem dX11_against_54 : decode cX11_against 54 = .ok (.ireturn, 1) := by decide +kernel
theorem dX11_against_55 : decode cX11_against 55 = .ok (.iconst 1, 1) := by decide +kernel
theorem dX11_against_56 : decode cX11_against 56 = .ok (.istore_n 3, 1) := by decide +kernel
theorem dX11_against_57 : decode cX11_against 57 = .ok (.iconst 0, 1) := by decide +kernel
theorem dX11_against_58 : decode cX11_against 58 = .ok (.istore 4, 2) := by decide +kernel
theorem dX11_against_60 : decode cX11_against 60 = .ok (.iload 4, 2) := by decide +kernel
theorem dX11_against_62 : decode cX11_against 62 = .ok (.bipush 7, 2) := by decide +kernel
theorem dX11_against_64 : decode cX11_against 64 = .ok (.if_icmp .ge 55, 3) := by decide +kernel
theorem dX11_against_67 : decode cX11_against 67 = .ok (.aload_n 0, 1) := by decide +kernel
theorem dX11_against_68 : decode cX11_against 68 = .ok (.getfield 81, 3) := by decide +kernel
theorem dX11_against_71 : decode cX11_against 71 = .ok (.iload 4, 2) := by decide +kernel
theorem dX11_against_73 : decode cX11_against 73 = .ok (.aload_n 0, 1) := by decide +kernel
theorem dX11_against_74 : decode cX11_against 74 = .ok (.getfield 99, 3) := by decide +kernel
theorem dX11_against_77 : decode cX11_against 77 = .ok (.bipush 40, 2) := by decide +kernel
theorem dX11_against_79 : decode cX11_against 79 = .ok (.iload_n 1, 1) := by decide +kernel
theorem dX11_against_80 : decode cX11_against 80 = .ok (.imul, 1) := by decide +kernel
theorem dX11_against_81 : decode cX11_against 81 = .ok (.iload_n 2, 1) := by decide +kernel
theorem dX11_against_82 : decode cX11_against 82 = .ok (.iadd, 1) := by decide +kernel
theorem dX11_against_83 : decode cX11_against 83 = .ok (.iload 4, 2) := by decide +kernel
theorem dX11_against_85 : decode cX11_against 85 = .ok (.iadd, 1) := by decide +kernel
theorem dX11_against_86 : decode cX11_against 86 = .ok (.laload, 1) := by decide +kernel
theorem dX11_against_87 : decode cX11_against 87 = .ok (.l2i, 1) := by decide +kernel
theorem dX11_against_88 : decode cX11_against 88 = .ok (.iastore, 1) := by decide +kernel
theorem dX11_against_89 : decode cX11_against 89 = .ok (.iload_n 3, 1) := by decide +kernel
theorem dX11_against_90 : decode cX11_against 90 = .ok (.ifCond .eq 21, 3) := by decide +kernel
theorem dX11_against_93 : decode cX11_against 93 = .ok (.aload_n 0, 1) := by decide +kernel
theorem dX11_against_94 : decode cX11_against 94 = .ok (.aload_n 0, 1) := by decide +kernel
theorem dX11_against_95 : decode cX11_against 95 = .ok (.getfield 81, 3) := by decide +kernel
theorem dX11_against_98 : decode cX11_against 98 = .ok (.iload 4, 2) := by decide +kernel
theorem dX11_against_100 : decode cX11_against 100 = .ok (.iaload, 1) := by decide +kernel
theorem dX11_against_101 : decode cX11_against 101 = .ok (.invokevirtual 215, 3) := by decide +kernel
theorem dX11_against_104 : decode cX11_against 104 = .ok (.ifCond .eq 7, 3) := by decide +kernel
theorem dX11_against_107 : decode cX11_against 107 = .ok (.iconst 1, 1) := by decide +kernel
theorem dX11_against_108 : decode cX11_against 108 = .ok (.goto 4, 3) := by decide +kernel
theorem dX11_against_111 : decode cX11_against 111 = .ok (.iconst 0, 1) := by decide +kernel
theorem dX11_against_112 : decode cX11_against 112 = .ok (.istore_n 3, 1) := by decide +kernel
theorem dX11_against_113 : decode cX11_against 113 = .ok (.iinc 4 1, 3) := by decide +kernel
theorem dX11_against_116 : decode cX11_against 116 = .ok (.goto (-56), 3) := by decide +kernel
theorem dX11_against_119 : decode cX11_against 119 = .ok (.iload_n 3, 1) := by decide +kernel
theorem dX11_against_120 : decode cX11_against 120 = .ok (.ifCond .eq 99, 3) := by decide +kernel
theorem dX11_against_123 : decode cX11_against 123 = .ok (.aload_n 0, 1) := by decide +kernel
theorem dX11_against_124 : decode cX11_against 124 = .ok (.aload_n 0, 1) := by decide +kernel
theorem dX11_against_125 : decode cX11_against 125 = .ok (.getfield 81, 3) := by decide +kernel
theorem dX11_against_128 : decode cX11_against 128 = .ok (.iconst 0, 1) := by decide +kernel
theorem dX11_against_129 : decode cX11_against 129 = .ok (.iaload, 1) := by decide +kernel
theorem dX11_against_130 : decode cX11_against 130 = .ok (.invokevirtual 181, 3) := by decide +kernel
theorem dX11_against_133 : decode cX11_against 133 = .ok (.aload_n 0, 1) := by decide +kernel
theorem dX11_against_134 : decode cX11_against 134 = .ok (.aload_n 0, 1) := by decide +kernel
theorem dX11_against_135 : decode cX11_against 135 = .ok (.getfield 81, 3) := by decide +kernel
theorem dX11_against_138 : decode cX11_against 138 = .ok (.iconst 1, 1) := by decide +kernel
theorem dX11_against_139 : decode cX11_against 139 = .ok (.iaload, 1) := by decide +kernel
theorem dX11_against_140 : decode cX11_against 140 = .ok (.invokevirtual 174, 3) := by decide +kernel
theorem dX11_against_143 : decode cX11_against 143 = .ok (.if_icmp .ne 76, 3) := by decide +kernel
theorem dX11_against_146 : decode cX11_against 146 = .ok (.aload_n 0, 1) := by decide +kernel
theorem dX11_against_147 : decode cX11_against 147 = .ok (.aload_n 0, 1) := by decide +kernel
theorem dX11_against_148 : decode cX11_against 148 = .ok (.getfield 81, 3) := by decide +kernel
theorem dX11_against_151 : decode cX11_against 151 = .ok (.iconst 2, 1) := by decide +kernel
theorem dX11_against_152 : decode cX11_against 152 = .ok (.iaload, 1) := by decide +kernel
theorem dX11_against_153 : decode cX11_against 153 = .ok (.invokevirtual 181, 3) := by decide +kernel
theorem dX11_against_156 : decode cX11_against 156 = .ok (.aload_n 0, 1) := by decide +kernel
theorem dX11_against_157 : decode cX11_against 157 = .ok (.aload_n 0, 1) := by decide +kernel
theorem dX11_against_158 : decode cX11_against 158 = .ok (.getfield 81, 3) := by decide +kernel
theorem dX11_against_161 : decode cX11_against 161 = .ok (.iconst 3, 1) := by decide +kernel
theorem dX11_against_162 : decode cX11_against 162 = .ok (.iaload, 1) := by decide +kernel
theorem dX11_against_163 : decode cX11_against 163 = .ok (.invokevirtual 174, 3) := by decide +kernel
theorem dX11_against_166 : decode cX11_against 166 = .ok (.if_icmp .ne 53, 3) := by decide +kernel
theorem dX11_against_169 : decode cX11_against 169 = .ok (.aload_n 0, 1) := by decide +kernel
theorem dX11_against_170 : decode cX11_against 170 = .ok (.aload_n 0, 1) := by decide +kernel
theorem dX11_against_171 : decode cX11_against 171 = .ok (.getfield 81, 3) := by decide +kernel
theorem dX11_against_174 : decode cX11_against 174 = .ok (.iconst 4, 1) := by decide +kernel
theorem dX11_against_175 : decode cX11_against 175 = .ok (.iaload, 1) := by decide +kernel
theorem dX11_against_176 : decode cX11_against 176 = .ok (.invokevirtual 174, 3) := by decide +kernel
theorem dX11_against_179 : decode cX11_against 179 = .ok (.aload_n 0, 1) := by decide +kernel
theorem dX11_against_180 : decode cX11_against 180 = .ok (.aload_n 0, 1) := by decide +kernel
theorem dX11_against_181 : decode cX11_against 181 = .ok (.getfield 81, 3) := by decide +kernel
theorem dX11_against_184 : decode cX11_against 184 = .ok (.iconst 0, 1) := by decide +kernel
theorem dX11_against_185 : decode cX11_against 185 = .ok (.iaload, 1) := by decide +kernel
theorem dX11_against_186 : decode cX11_against 186 = .ok (.invokevirtual 174, 3) := by decide +kernel
theorem dX11_against_189 : decode cX11_against 189 = .ok (.if_icmp .ne 30, 3) := by decide +kernel
theorem dX11_against_192 : decode cX11_against 192 = .ok (.aload_n 0, 1) := by decide +kernel
theorem dX11_against_193 : decode cX11_against 193 = .ok (.aload_n 0, 1) := by decide +kernel
theorem dX11_against_194 : decode cX11_against 194 = .ok (.getfield 81, 3) := by decide +kernel
theorem dX11_against_197 : decode cX11_against 197 = .ok (.iconst 4, 1) := by decide +kernel
theorem dX11_against_198 : decode cX11_against 198 = .ok (.iaload, 1) := by decide +kernel
theorem dX11_against_199 : decode cX11_against 199 = .ok (.invokevirtual 181, 3) := by decide +kernel
theorem dX11_against_202 : decode cX11_against 202 = .ok (.aload_n 0, 1) := by decide +kernel
theorem dX11_against_203 : decode cX11_against 203 = .ok (.aload_n 0, 1) := by decide +kernel
theorem dX11_against_204 : decode cX11_against 204 = .ok (.getfield 81, 3) := by decide +kernel
theorem dX11_against_207 : decode cX11_against 207 = .ok (.iconst 2, 1) := by decide +kernel
theorem dX11_against_208 : decode cX11_against 208 = .ok (.iaload, 1) := by decide +kernel
theorem dX11_against_209 : decode cX11_against 209 = .ok (.invokevirtual 174, 3) := by decide +kernel
theorem dX11_against_212 : decode cX11_against 212 = .ok (.if_icmp .ne 7, 3) := by decide +kernel
theorem dX11_against_215 : decode cX11_against 215 = .ok (.iconst 1, 1) := by decide +kernel
theorem dX11_against_216 : decode cX11_against 216 = .ok (.goto 4, 3) := by decide +kernel
theorem dX11_against_219 : decode cX11_against 219 = .ok (.iconst 0, 1) := by decide +kernel
theorem dX11_against_220 : decode cX11_against 220 = .ok (.istore_n 3, 1) := by decide +kernel
theorem dX11_against_221 : decode cX11_against 221 = .ok (.iload_n 3, 1) := by decide +kernel
theorem dX11_against_222 : decode cX11_against 222 = .ok (.ifCond .eq 101, 3) := by decide +kernel
theorem dX11_against_225 : decode cX11_against 225 = .ok (.aload_n 0, 1) := by decide +kernel
theorem dX11_against_226 : decode cX11_against 226 = .ok (.aload_n 0, 1) := by decide +kernel
theorem dX11_against_227 : decode cX11_against 227 = .ok (.getfield 81, 3) := by decide +kernel
theorem dX11_against_230 : decode cX11_against 230 = .ok (.iconst 5, 1) := by decide +kernel
theorem dX11_against_231 : decode cX11_against 231 = .ok (.iaload, 1) := by decide +kernel
theorem dX11_against_232 : decode cX11_against 232 = .ok (.invokevirtual 174, 3) := by decide +kernel
theorem dX11_against_235 : decode cX11_against 235 = .ok (.aload_n 0, 1) := by decide +kernel
theorem dX11_against_236 : decode cX11_against 236 = .ok (.aload_n 0, 1) := by decide +kernel
theorem dX11_against_237 : decode cX11_against 237 = .ok (.getfield 81, 3) := by decide +kernel
theorem dX11_against_240 : decode cX11_against 240 = .ok (.iconst 0, 1) := by decide +kernel
theorem dX11_against_241 : decode cX11_against 241 = .ok (.iaload, 1) := by decide +kernel
theorem dX11_against_242 : decode cX11_against 242 = .ok (.invokevirtual 181, 3) := by decide +kernel
theorem dX11_against_245 : decode cX11_against 245 = .ok (.if_icmp .ne 78, 3) := by decide +kernel
theorem dX11_against_248 : decode cX11_against 248 = .ok (.aload_n 0, 1) := by decide +kernel
theorem dX11_against_249 : decode cX11_against 249 = .ok (.aload_n 0, 1) := by decide +kernel
theorem dX11_against_250 : decode cX11_against 250 = .ok (.getfield 81, 3) := by decide +kernel
theorem dX11_against_253 : decode cX11_against 253 = .ok (.iconst 5, 1) := by decide +kernel
theorem dX11_against_254 : decode cX11_against 254 = .ok (.iaload, 1) := by decide +kernel
theorem dX11_against_255 : decode cX11_against 255 = .ok (.invokevirtual 181, 3) := by decide +kernel
theorem dX11_against_258 : decode cX11_against 258 = .ok (.aload_n 0, 1) := by decide +kernel
theorem dX11_against_259 : decode cX11_against 259 = .ok (.aload_n 0, 1) := by decide +kernel
theorem dX11_against_260 : decode cX11_against 260 = .ok (.getfield 81, 3) := by decide +kernel
theorem dX11_against_263 : decode cX11_against 263 = .ok (.iconst 2, 1) := by decide +kernel
theorem dX11_against_264 : decode cX11_against 264 = .ok (.iaload, 1) := by decide +kernel
theorem dX11_against_265 : decode cX11_against 265 = .ok (.invokevirtual 181, 3) := by decide +kernel
theorem dX11_against_268 : decode cX11_against 268 = .ok (.if_icmp .ne 55, 3) := by decide +kernel
theorem dX11_against_271 : decode cX11_against 271 = .ok (.aload_n 0, 1) := by decide +kernel
theorem dX11_against_272 : decode cX11_against 272 = .ok (.aload_n 0, 1) := by decide +kernel
theorem dX11_against_273 : decode cX11_against 273 = .ok (.getfield 81, 3) := by decide +kernel
theorem dX11_against_276 : decode cX11_against 276 = .ok (.bipush 6, 2) := by decide +kernel
theorem dX11_against_278 : decode cX11_against 278 = .ok (.iaload, 1) := by decide +kernel
theorem dX11_against_279 : decode cX11_against 279 = .ok (.invokevirtual 174, 3) := by decide +kernel
theorem dX11_against_282 : decode cX11_against 282 = .ok (.aload_n 0, 1) := by decide +kernel
theorem dX11_against_283 : decode cX11_against 283 = .ok (.aload_n 0, 1) := by decide +kernel
theorem dX11_against_284 : decode cX11_against 284 = .ok (.getfield 81, 3) := by decide +kernel
theorem dX11_against_287 : decode cX11_against 287 = .ok (.iconst 1, 1) := by decide +kernel
theorem dX11_against_288 : decode cX11_against 288 = .ok (.iaload, 1) := by decide +kernel
theorem dX11_against_289 : decode cX11_against 289 = .ok (.invokevirtual 181, 3) := by decide +kernel
theorem dX11_against_292 : decode cX11_against 292 = .ok (.if_icmp .ne 31, 3) := by decide +kernel
theorem dX11_against_295 : decode cX11_against 295 = .ok (.aload_n 0, 1) := by decide +kernel
theorem dX11_against_296 : decode cX11_against 296 = .ok (.aload_n 0, 1) := by decide +kernel
theorem dX11_against_297 : decode cX11_against 297 = .ok (.getfield 81, 3) := by decide +kernel
theorem dX11_against_300 : decode cX11_against 300 = .ok (.bipush 6, 2) := by decide +kernel
theorem dX11_against_302 : decode cX11_against 302 = .ok (.iaload, 1) := by decide +kernel
theorem dX11_against_303 : decode cX11_against 303 = .ok (.invokevirtual 181, 3) := by decide +kernel
theorem dX11_against_306 : decode cX11_against 306 = .ok (.aload_n 0, 1) := by decide +kernel
theorem dX11_against_307 : decode cX11_against 307 = .ok (.aload_n 0, 1) := by decide +kernel
theorem dX11_against_308 : decode cX11_against 308 = .ok (.getfield 81, 3) := by decide +kernel
theorem dX11_against_311 : decode cX11_against 311 = .ok (.iconst 3, 1) := by decide +kernel
theorem dX11_against_312 : decode cX11_against 312 = .ok (.iaload, 1) := by decide +kernel
theorem dX11_against_313 : decode cX11_against 313 = .ok (.invokevirtual 181, 3) := by decide +kernel
theorem dX11_against_316 : decode cX11_against 316 = .ok (.if_icmp .ne 7, 3) := by decide +kernel
theorem dX11_against_319 : decode cX11_against 319 = .ok (.iconst 1, 1) := by decide +kernel
theorem dX11_against_320 : decode cX11_against 320 = .ok (.goto 4, 3) := by decide +kernel
theorem dX11_against_323 : decode cX11_against 323 = .ok (.iconst 0, 1) := by decide +kernel
theorem dX11_against_324 : decode cX11_against 324 = .ok (.istore_n 3, 1) := by decide +kernel
theorem dX11_against_325 : decode cX11_against 325 = .ok (.iload_n 3, 1) := by decide +kernel
theorem dX11_against_326 : decode cX11_against 326 = .ok (.ifCond .eq 7, 3) := by decide +kernel
theorem dX11_against_329 : decode cX11_against 329 = .ok (.iconst 0, 1) := by decide +kernel
theorem dX11_against_330 : decode cX11_against 330 = .ok (.goto 5, 3) := by decide +kernel
theorem dX11_against_333 : decode cX11_against 333 = .ok (.bipush (-3), 2) := by decide +kernel
theorem dX11_against_335 : decode cX11_against 335 = .ok (.ireturn, 1) := by decide +kernel
theorem dX11_goesAlike_0 : decode cX11_goesAlike 0 = .ok (.iconst 0, 1) := by decide +kernel
theorem dX11_goesAlike_1 : decode cX11_goesAlike 1 = .ok (.istore 5, 2) := by decide +kernel
theorem dX11_goesAlike_3 : decode cX11_goesAlike 3 = .ok (.iload 5, 2) := by decide +kernel
theorem dX11_goesAlike_5 : decode cX11_goesAlike 5 = .ok (.aload_n 0, 1) := by decide +kernel
theorem dX11_goesAlike_6 : decode cX11_goesAlike 6 = .ok (.aload_n 0, 1) := by decide +kernel
theorem dX11_goesAlike_7 : decode cX11_goesAlike 7 = .ok (.iload_n 1, 1) := by decide +kernel
theorem dX11_goesAlike_8 : decode cX11_goesAlike 8 = .ok (.invokevirtual 174, 3) := by decide +kernel
theorem dX11_goesAlike_11 : decode cX11_goesAlike 11 = .ok (.invokevirtual 162, 3) := by decide +kernel
theorem dX11_goesAlike_14 : decode cX11_goesAlike 14 = .ok (.if_icmp .ge 185, 3) := by decide +kernel
theorem dX11_goesAlike_17 : decode cX11_goesAlike 17 = .ok (.aload_n 0, 1) := by decide +kernel
theorem dX11_goesAlike_18 : decode cX11_goesAlike 18 = .ok (.aload_n 0, 1) := by decide +kernel
theorem dX11_goesAlike_19 : decode cX11_goesAlike 19 = .ok (.getfield 90, 3) := by decide +kernel
theorem dX11_goesAlike_22 : decode cX11_goesAlike 22 = .ok (.iload 5, 2) := by decide +kernel
theorem dX11_goesAlike_24 : decode cX11_goesAlike 24 = .ok (.ifCond .ne 7, 3) := by decide +kernel
theorem dX11_goesAlike_27 : decode cX11_goesAlike 27 = .ok (.lconst 1, 1) := by decide +kernel
theorem dX11_goesAlike_28 : decode cX11_goesAlike 28 = .ok (.goto 4, 3) := by decide +kernel
theorem dX11_goesAlike_31 : decode cX11_goesAlike 31 = .ok (.lconst 0, 1) := by decide +kernel
theorem dX11_goesAlike_32 : decode cX11_goesAlike 32 = .ok (.iload 5, 2) := by decide +kernel
theorem dX11_goesAlike_34 : decode cX11_goesAlike 34 = .ok (.iconst 1, 1) := by decide +kernel
theorem dX11_goesAlike_35 : decode cX11_goesAlike 35 = .ok (.if_icmp .ne 7, 3) := by decide +kernel
theorem dX11_goesAlike_38 : decode cX11_goesAlike 38 = .ok (.lconst 1, 1) := by decide +kernel
theorem dX11_goesAlike_39 : decode cX11_goesAlike 39 = .ok (.goto 4, 3) := by decide +kernel
theorem dX11_goesAlike_42 : decode cX11_goesAlike 42 = .ok (.lconst 0, 1) := by decide +kernel
theorem dX11_goesAlike_43 : decode cX11_goesAlike 43 = .ok (.iload 5, 2) := by decide +kernel
theorem dX11_goesAlike_45 : decode cX11_goesAlike 45 = .ok (.iconst 2, 1) := by decide +kernel
theorem dX11_goesAlike_46 : decode cX11_goesAlike 46 = .ok (.if_icmp .ne 7, 3) := by decide +kernel
theorem dX11_goesAlike_49 : decode cX11_goesAlike 49 = .ok (.lconst 1, 1) := by decide +kernel
theorem dX11_goesAlike_50 : decode cX11_goesAlike 50 = .ok (.goto 4, 3) := by decide +kernel
theorem dX11_goesAlike_53 : decode cX11_goesAlike 53 = .ok (.lconst 0, 1) := by decide +kernel
theorem dX11_goesAlike_54 : decode cX11_goesAlike 54 = .ok (.iconst 3, 1) := by decide +kernel
theorem dX11_goesAlike_55 : decode cX11_goesAlike 55 = .ok (.invokevirtual 184, 3) := by decide +kernel
theorem dX11_goesAlike_58 : decode cX11_goesAlike 58 = .ok (.aload_n 0, 1) := by decide +kernel
theorem dX11_goesAlike_59 : decode cX11_goesAlike 59 = .ok (.iload_n 1, 1) := by decide +kernel
theorem dX11_goesAlike_60 : decode cX11_goesAlike 60 = .ok (.aload_n 0, 1) := by decide +kernel
theorem dX11_goesAlike_61 : decode cX11_goesAlike 61 = .ok (.getfield 90, 3) := by decide +kernel
theorem dX11_goesAlike_64 : decode cX11_goesAlike 64 = .ok (.aload_n 0, 1) := by decide +kernel
theorem dX11_goesAlike_65 : decode cX11_goesAlike 65 = .ok (.getfield 87, 3) := by decide +kernel
theorem dX11_goesAlike_68 : decode cX11_goesAlike 68 = .ok (.invokevirtual 191, 3) := by decide +kernel
theorem dX11_goesAlike_71 : decode cX11_goesAlike 71 = .ok (.aload_n 0, 1) := by decide +kernel
theorem dX11_goesAlike_72 : decode cX11_goesAlike 72 = .ok (.iload_n 2, 1) := by decide +kernel
theorem dX11_goesAlike_73 : decode cX11_goesAlike 73 = .ok (.aload_n 0, 1) := by decide +kernel
theorem dX11_goesAlike_74 : decode cX11_goesAlike 74 = .ok (.getfield 87, 3) := by decide +kernel
theorem dX11_goesAlike_77 : decode cX11_goesAlike 77 = .ok (.aload_n 0, 1) := by decide +kernel
theorem dX11_goesAlike_78 : decode cX11_goesAlike 78 = .ok (.getfield 84, 3) := by decide +kernel
theorem dX11_goesAlike_81 : decode cX11_goesAlike 81 = .ok (.invokevirtual 191, 3) := by decide +kernel
theorem dX11_goesAlike_84 : decode cX11_goesAlike 84 = .ok (.aload_n 0, 1) := by decide +kernel
theorem dX11_goesAlike_85 : decode cX11_goesAlike 85 = .ok (.iload_n 3, 1) := by decide +kernel
theorem dX11_goesAlike_86 : decode cX11_goesAlike 86 = .ok (.aload_n 0, 1) := by decide +kernel
theorem dX11_goesAlike_87 : decode cX11_goesAlike 87 = .ok (.getfield 90, 3) := by decide +kernel
theorem dX11_goesAlike_90 : decode cX11_goesAlike 90 = .ok (.aload_n 0, 1) := by decide +kernel
theorem dX11_goesAlike_91 : decode cX11_goesAlike 91 = .ok (.getfield 90, 3) := by decide +kernel
theorem dX11_goesAlike_94 : decode cX11_goesAlike 94 = .ok (.invokevirtual 191, 3) := by decide +kernel
theorem dX11_goesAlike_97 : decode cX11_goesAlike 97 = .ok (.aload_n 0, 1) := by decide +kernel
theorem dX11_goesAlike_98 : decode cX11_goesAlike 98 = .ok (.iload 4, 2) := by decide +kernel
theorem dX11_goesAlike_100 : decode cX11_goesAlike 100 = .ok (.aload_n 0, 1) := by decide +kernel
theorem dX11_goesAlike_101 : decode cX11_goesAlike 101 = .ok (.getfield 90, 3) := by decide +kernel
theorem dX11_goesAlike_104 : decode cX11_goesAlike 104 = .ok (.aload_n 0, 1) := by decide +kernel
theorem dX11_goesAlike_105 : decode cX11_goesAlike 105 = .ok (.getfield 87, 3) := by decide +kernel
theorem dX11_goesAlike_108 : decode cX11_goesAlike 108 = .ok (.invokevirtual 191, 3) := by decide +kernel
theorem dX11_goesAlike_111 : decode cX11_goesAlike 111 = .ok (.iconst 0, 1) := by decide +kernel
theorem dX11_goesAlike_112 : decode cX11_goesAlike 112 = .ok (.istore 6, 2) := by decide +kernel
theorem dX11_goesAlike_114 : decode cX11_goesAlike 114 = .ok (.iload 6, 2) := by decide +kernel
theorem dX11_goesAlike_116 : decode cX11_goesAlike 116 = .ok (.bipush 6, 2) := by decide +kernel
theorem dX11_goesAlike_118 : decode cX11_goesAlike 118 = .ok (.if_icmp .ge 26, 3) := by decide +kernel
theorem dX11_goesAlike_121 : decode cX11_goesAlike 121 = .ok (.aload_n 0, 1) := by decide +kernel
theorem dX11_goesAlike_122 : decode cX11_goesAlike 122 = .ok (.getfield 84, 3) := by decide +kernel
theorem dX11_goesAlike_125 : decode cX11_goesAlike 125 = .ok (.iload 6, 2) := by decide +kernel
theorem dX11_goesAlike_127 : decode cX11_goesAlike 127 = .ok (.dup2, 1) := by decide +kernel
theorem dX11_goesAlike_128 : decode cX11_goesAlike 128 = .ok (.laload, 1) := by decide +kernel
theorem dX11_goesAlike_129 : decode cX11_goesAlike 129 = .ok (.aload_n 0, 1) := by decide +kernel
theorem dX11_goesAlike_130 : decode cX11_goesAlike 130 = .ok (.getfield 87, 3) := by decide +kernel
theorem dX11_goesAlike_133 : decode cX11_goesAlike 133 = .ok (.iload 6, 2) := by decide +kernel
theorem dX11_goesAlike_135 : decode cX11_goesAlike 135 = .ok (.laload, 1) := by decide +kernel
theorem dX11_goesAlike_136 : decode cX11_goesAlike 136 = .ok (.lsub, 1) := by decide +kernel
theorem dX11_goesAlike_137 : decode cX11_goesAlike 137 = .ok (.lastore, 1) := by decide +kernel
theorem dX11_goesAlike_138 : decode cX11_goesAlike 138 = .ok (.iinc 6 1, 3) := by decide +kernel
theorem dX11_goesAlike_141 : decode cX11_goesAlike 141 = .ok (.goto (-27), 3) := by decide +kernel
theorem dX11_goesAlike_144 : decode cX11_goesAlike 144 = .ok (.aload_n 0, 1) := by decide +kernel
theorem dX11_goesAlike_145 : decode cX11_goesAlike 145 = .ok (.aload_n 0, 1) := by decide +kernel
theorem dX11_goesAlike_146 : decode cX11_goesAlike 146 = .ok (.iload_n 2, 1) := by decide +kernel
theorem dX11_goesAlike_147 : decode cX11_goesAlike 147 = .ok (.invokevirtual 181, 3) := by decide +kernel
theorem dX11_goesAlike_150 : decode cX11_goesAlike 150 = .ok (.aload_n 0, 1) := by decide +kernel
theorem dX11_goesAlike_151 : decode cX11_goesAlike 151 = .ok (.getfield 23, 3) := by decide +kernel
theorem dX11_goesAlike_154 : decode cX11_goesAlike 154 = .ok (.invokevirtual 188, 3) := by decide +kernel
theorem dX11_goesAlike_157 : decode cX11_goesAlike 157 = .ok (.aload_n 0, 1) := by decide +kernel
theorem dX11_goesAlike_158 : decode cX11_goesAlike 158 = .ok (.getfield 84, 3) := by decide +kernel
theorem dX11_goesAlike_161 : decode cX11_goesAlike 161 = .ok (.aload_n 0, 1) := by decide +kernel
theorem dX11_goesAlike_162 : decode cX11_goesAlike 162 = .ok (.getfield 23, 3) := by decide +kernel
theorem dX11_goesAlike_165 : decode cX11_goesAlike 165 = .ok (.iconst 0, 1) := by decide +kernel
theorem dX11_goesAlike_166 : decode cX11_goesAlike 166 = .ok (.aload_n 0, 1) := by decide +kernel
theorem dX11_goesAlike_167 : decode cX11_goesAlike 167 = .ok (.aload_n 0, 1) := by decide +kernel
theorem dX11_goesAlike_168 : decode cX11_goesAlike 168 = .ok (.iload_n 2, 1) := by decide +kernel
theorem dX11_goesAlike_169 : decode cX11_goesAlike 169 = .ok (.invokevirtual 181, 3) := by decide +kernel
theorem dX11_goesAlike_172 : decode cX11_goesAlike 172 = .ok (.invokevirtual 162, 3) := by decide +kernel
theorem dX11_goesAlike_175 : decode cX11_goesAlike 175 = .ok (.invokestatic 195, 3) := by decide +kernel
theorem dX11_goesAlike_178 : decode cX11_goesAlike 178 = .ok (.aload_n 0, 1) := by decide +kernel
theorem dX11_goesAlike_179 : decode cX11_goesAlike 179 = .ok (.getfield 84, 3) := by decide +kernel
theorem dX11_goesAlike_182 : decode cX11_goesAlike 182 = .ok (.iconst 0, 1) := by decide +kernel
theorem dX11_goesAlike_183 : decode cX11_goesAlike 183 = .ok (.bipush 6, 2) := by decide +kernel
theorem dX11_goesAlike_185 : decode cX11_goesAlike 185 = .ok (.invokestatic 199, 3) := by decide +kernel
theorem dX11_goesAlike_188 : decode cX11_goesAlike 188 = .ok (.ifCond .ne 5, 3) := by decide +kernel
theorem dX11_goesAlike_191 : decode cX11_goesAlike 191 = .ok (.iconst 0, 1) := by decide +kernel
theorem dX11_goesAlike_192 : decode cX11_goesAlike 192 = .ok (.ireturn, 1) := by decide +kernel
theorem dX11_goesAlike_193 : decode cX11_goesAlike 193 = .ok (.iinc 5 1, 3) := by decide +kernel
theorem dX11_goesAlike_196 : decode cX11_goesAlike 196 = .ok (.goto (-193), 3) := by decide +kernel
theorem dX11_goesAlike_199 : decode cX11_goesAlike 199 = .ok (.iconst 1, 1) := by decide +kernel
theorem dX11_goesAlike_200 : decode cX11_goesAlike 200 = .ok (.ireturn, 1) := by decide +kernel
theorem dX11_isRight_0 : decode cX11_isRight 0 = .ok (.iconst 1, 1) := by decide +kernel
theorem dX11_isRight_1 : decode cX11_isRight 1 = .ok (.istore_n 1, 1) := by decide +kernel
theorem dX11_isRight_2 : decode cX11_isRight 2 = .ok (.iconst 0, 1) := by decide +kernel
theorem dX11_isRight_3 : decode cX11_isRight 3 = .ok (.istore_n 2, 1) := by decide +kernel
theorem dX11_isRight_4 : decode cX11_isRight 4 = .ok (.iload_n 2, 1) := by decide +kernel
theorem dX11_isRight_5 : decode cX11_isRight 5 = .ok (.bipush 7, 2) := by decide +kernel
theorem dX11_isRight_7 : decode cX11_isRight 7 = .ok (.if_icmp .ge 32, 3) := by decide +kernel
theorem dX11_isRight_10 : decode cX11_isRight 10 = .ok (.iload_n 1, 1) := by decide +kernel
theorem dX11_isRight_11 : decode cX11_isRight 11 = .ok (.ifCond .eq 20, 3) := by decide +kernel
theorem dX11_isRight_14 : decode cX11_isRight 14 = .ok (.aload_n 0, 1) := by decide +kernel
theorem dX11_isRight_15 : decode cX11_isRight 15 = .ok (.aload_n 0, 1) := by decide +kernel
theorem dX11_isRight_16 : decode cX11_isRight 16 = .ok (.getfield 81, 3) := by decide +kernel
theorem dX11_isRight_19 : decode cX11_isRight 19 = .ok (.iload_n 2, 1) := by decide +kernel
theorem dX11_isRight_20 : decode cX11_isRight 20 = .ok (.iaload, 1) := by decide +kernel
theorem dX11_isRight_21 : decode cX11_isRight 21 = .ok (.invokevirtual 307, 3) := by decide +kernel
theorem dX11_isRight_24 : decode cX11_isRight 24 = .ok (.ifCond .eq 7, 3) := by decide +kernel
theorem dX11_isRight_27 : decode cX11_isRight 27 = .ok (.iconst 1, 1) := by decide +kernel
theorem dX11_isRight_28 : decode cX11_isRight 28 = .ok (.goto 4, 3) := by decide +kernel
theorem dX11_isRight_31 : decode cX11_isRight 31 = .ok (.iconst 0, 1) := by decide +kernel
theorem dX11_isRight_32 : decode cX11_isRight 32 = .ok (.istore_n 1, 1) := by decide +kernel
theorem dX11_isRight_33 : decode cX11_isRight 33 = .ok (.iinc 2 1, 3) := by decide +kernel
theorem dX11_isRight_36 : decode cX11_isRight 36 = .ok (.goto (-32), 3) := by decide +kernel
theorem dX11_isRight_39 : decode cX11_isRight 39 = .ok (.iload_n 1, 1) := by decide +kernel
theorem dX11_isRight_40 : decode cX11_isRight 40 = .ok (.ifCond .eq 45, 3) := by decide +kernel
theorem dX11_isRight_43 : decode cX11_isRight 43 = .ok (.aload_n 0, 1) := by decide +kernel
theorem dX11_isRight_44 : decode cX11_isRight 44 = .ok (.aload_n 0, 1) := by decide +kernel
theorem dX11_isRight_45 : decode cX11_isRight 45 = .ok (.getfield 81, 3) := by decide +kernel
theorem dX11_isRight_48 : decode cX11_isRight 48 = .ok (.iconst 0, 1) := by decide +kernel
theorem dX11_isRight_49 : decode cX11_isRight 49 = .ok (.iaload, 1) := by decide +kernel
theorem dX11_isRight_50 : decode cX11_isRight 50 = .ok (.aload_n 0, 1) := by decide +kernel
theorem dX11_isRight_51 : decode cX11_isRight 51 = .ok (.getfield 81, 3) := by decide +kernel
theorem dX11_isRight_54 : decode cX11_isRight 54 = .ok (.iconst 1, 1) := by decide +kernel
theorem dX11_isRight_55 : decode cX11_isRight 55 = .ok (.iaload, 1) := by decide +kernel
theorem dX11_isRight_56 : decode cX11_isRight 56 = .ok (.invokevirtual 328, 3) := by decide +kernel
theorem dX11_isRight_59 : decode cX11_isRight 59 = .ok (.ifCond .eq 26, 3) := by decide +kernel
theorem dX11_isRight_62 : decode cX11_isRight 62 = .ok (.aload_n 0, 1) := by decide +kernel
theorem dX11_isRight_63 : decode cX11_isRight 63 = .ok (.aload_n 0, 1) := by decide +kernel
theorem dX11_isRight_64 : decode cX11_isRight 64 = .ok (.getfield 81, 3) := by decide +kernel
theorem dX11_isRight_67 : decode cX11_isRight 67 = .ok (.iconst 2, 1) := by decide +kernel
theorem dX11_isRight_68 : decode cX11_isRight 68 = .ok (.iaload, 1) := by decide +kernel
theorem dX11_isRight_69 : decode cX11_isRight 69 = .ok (.aload_n 0, 1) := by decide +kernel
theorem dX11_isRight_70 : decode cX11_isRight 70 = .ok (.getfield 81, 3) := by decide +kernel
theorem dX11_isRight_73 : decode cX11_isRight 73 = .ok (.iconst 3, 1) := by decide +kernel
theorem dX11_isRight_74 : decode cX11_isRight 74 = .ok (.iaload, 1) := by decide +kernel
theorem dX11_isRight_75 : decode cX11_isRight 75 = .ok (.invokevirtual 328, 3) := by decide +kernel
theorem dX11_isRight_78 : decode cX11_isRight 78 = .ok (.ifCond .eq 7, 3) := by decide +kernel
theorem dX11_isRight_81 : decode cX11_isRight 81 = .ok (.iconst 1, 1) := by decide +kernel
theorem dX11_isRight_82 : decode cX11_isRight 82 = .ok (.goto 4, 3) := by decide +kernel
theorem dX11_isRight_85 : decode cX11_isRight 85 = .ok (.iconst 0, 1) := by decide +kernel
theorem dX11_isRight_86 : decode cX11_isRight 86 = .ok (.istore_n 1, 1) := by decide +kernel
theorem dX11_isRight_87 : decode cX11_isRight 87 = .ok (.iload_n 1, 1) := by decide +kernel
theorem dX11_isRight_88 : decode cX11_isRight 88 = .ok (.ifCond .ne 5, 3) := by decide +kernel
theorem dX11_isRight_91 : decode cX11_isRight 91 = .ok (.iconst 0, 1) := by decide +kernel
theorem dX11_isRight_92 : decode cX11_isRight 92 = .ok (.ireturn, 1) := by decide +kernel
theorem dX11_isRight_93 : decode cX11_isRight 93 = .ok (.aload_n 0, 1) := by decide +kernel
theorem dX11_isRight_94 : decode cX11_isRight 94 = .ok (.aload_n 0, 1) := by decide +kernel
theorem dX11_isRight_95 : decode cX11_isRight 95 = .ok (.getfield 81, 3) := by decide +kernel
theorem dX11_isRight_98 : decode cX11_isRight 98 = .ok (.iconst 1, 1) := by decide +kernel
theorem dX11_isRight_99 : decode cX11_isRight 99 = .ok (.iaload, 1) := by decide +kernel
theorem dX11_isRight_100 : decode cX11_isRight 100 = .ok (.invokevirtual 310, 3) := by decide +kernel
theorem dX11_isRight_103 : decode cX11_isRight 103 = .ok (.aload_n 0, 1) := by decide +kernel
theorem dX11_isRight_104 : decode cX11_isRight 104 = .ok (.aload_n 0, 1) := by decide +kernel
theorem dX11_isRight_105 : decode cX11_isRight 105 = .ok (.getfield 81, 3) := by decide +kernel
theorem dX11_isRight_108 : decode cX11_isRight 108 = .ok (.iconst 1, 1) := by decide +kernel
theorem dX11_isRight_109 : decode cX11_isRight 109 = .ok (.iaload, 1) := by decide +kernel
theorem dX11_isRight_110 : decode cX11_isRight 110 = .ok (.invokevirtual 316, 3) := by decide +kernel
theorem dX11_isRight_113 : decode cX11_isRight 113 = .ok (.istore_n 1, 1) := by decide +kernel
theorem dX11_isRight_114 : decode cX11_isRight 114 = .ok (.aload_n 0, 1) := by decide +kernel
theorem dX11_isRight_115 : decode cX11_isRight 115 = .ok (.aload_n 0, 1) := by decide +kernel
theorem dX11_isRight_116 : decode cX11_isRight 116 = .ok (.getfield 81, 3) := by decide +kernel
theorem dX11_isRight_119 : decode cX11_isRight 119 = .ok (.iconst 2, 1) := by decide +kernel
theorem dX11_isRight_120 : decode cX11_isRight 120 = .ok (.iaload, 1) := by decide +kernel
theorem dX11_isRight_121 : decode cX11_isRight 121 = .ok (.invokevirtual 310, 3) := by decide +kernel
theorem dX11_isRight_124 : decode cX11_isRight 124 = .ok (.iload_n 1, 1) := by decide +kernel
theorem dX11_isRight_125 : decode cX11_isRight 125 = .ok (.ifCond .eq 20, 3) := by decide +kernel
theorem dX11_isRight_128 : decode cX11_isRight 128 = .ok (.aload_n 0, 1) := by decide +kernel
theorem dX11_isRight_129 : decode cX11_isRight 129 = .ok (.aload_n 0, 1) := by decide +kernel
theorem dX11_isRight_130 : decode cX11_isRight 130 = .ok (.getfield 81, 3) := by decide +kernel
theorem dX11_isRight_133 : decode cX11_isRight 133 = .ok (.iconst 2, 1) := by decide +kernel
theorem dX11_isRight_134 : decode cX11_isRight 134 = .ok (.iaload, 1) := by decide +kernel
theorem dX11_isRight_135 : decode cX11_isRight 135 = .ok (.invokevirtual 313, 3) := by decide +kernel
theorem dX11_isRight_138 : decode cX11_isRight 138 = .ok (.ifCond .eq 7, 3) := by decide +kernel
theorem dX11_isRight_141 : decode cX11_isRight 141 = .ok (.iconst 1, 1) := by decide +kernel
theorem dX11_isRight_142 : decode cX11_isRight 142 = .ok (.goto 4, 3) := by decide +kernel
theorem dX11_isRight_145 : decode cX11_isRight 145 = .ok (.iconst 0, 1) := by decide +kernel
theorem dX11_isRight_146 : decode cX11_isRight 146 = .ok (.istore_n 1, 1) := by decide +kernel
theorem dX11_isRight_147 : decode cX11_isRight 147 = .ok (.iload_n 1, 1) := by decide +kernel
theorem dX11_isRight_148 : decode cX11_isRight 148 = .ok (.ifCond .eq 70, 3) := by decide +kernel
theorem dX11_isRight_151 : decode cX11_isRight 151 = .ok (.aload_n 0, 1) := by decide +kernel
theorem dX11_isRight_152 : decode cX11_isRight 152 = .ok (.aload_n 0, 1) := by decide +kernel
theorem dX11_isRight_153 : decode cX11_isRight 153 = .ok (.getfield 81, 3) := by decide +kernel
theorem dX11_isRight_156 : decode cX11_isRight 156 = .ok (.iconst 0, 1) := by decide +kernel
theorem dX11_isRight_157 : decode cX11_isRight 157 = .ok (.iaload, 1) := by decide +kernel
theorem dX11_isRight_158 : decode cX11_isRight 158 = .ok (.aload_n 0, 1) := by decide +kernel
theorem dX11_isRight_159 : decode cX11_isRight 159 = .ok (.getfield 81, 3) := by decide +kernel
theorem dX11_isRight_162 : decode cX11_isRight 162 = .ok (.iconst 5, 1) := by decide +kernel
theorem dX11_isRight_163 : decode cX11_isRight 163 = .ok (.iaload, 1) := by decide +kernel
theorem dX11_isRight_164 : decode cX11_isRight 164 = .ok (.aload_n 0, 1) := by decide +kernel
theorem dX11_isRight_165 : decode cX11_isRight 165 = .ok (.getfield 81, 3) := by decide +kernel
theorem dX11_isRight_168 : decode cX11_isRight 168 = .ok (.iconst 4, 1) := by decide +kernel
theorem dX11_isRight_169 : decode cX11_isRight 169 = .ok (.iaload, 1) := by decide +kernel
theorem dX11_isRight_170 : decode cX11_isRight 170 = .ok (.aload_n 0, 1) := by decide +kernel
theorem dX11_isRight_171 : decode cX11_isRight 171 = .ok (.getfield 81, 3) := by decide +kernel
theorem dX11_isRight_174 : decode cX11_isRight 174 = .ok (.iconst 2, 1) := by decide +kernel
theorem dX11_isRight_175 : decode cX11_isRight 175 = .ok (.iaload, 1) := by decide +kernel
theorem dX11_isRight_176 : decode cX11_isRight 176 = .ok (.invokevirtual 394, 3) := by decide +kernel
theorem dX11_isRight_179 : decode cX11_isRight 179 = .ok (.ifCond .eq 39, 3) := by decide +kernel
theorem dX11_isRight_182 : decode cX11_isRight 182 = .ok (.aload_n 0, 1) := by decide +kernel
theorem dX11_isRight_183 : decode cX11_isRight 183 = .ok (.aload_n 0, 1) := by decide +kernel
theorem dX11_isRight_184 : decode cX11_isRight 184 = .ok (.getfield 81, 3) := by decide +kernel
theorem dX11_isRight_187 : decode cX11_isRight 187 = .ok (.iconst 5, 1) := by decide +kernel
theorem dX11_isRight_188 : decode cX11_isRight 188 = .ok (.iaload, 1) := by decide +kernel
theorem dX11_isRight_189 : decode cX11_isRight 189 = .ok (.aload_n 0, 1) := by decide +kernel
theorem dX11_isRight_190 : decode cX11_isRight 190 = .ok (.getfield 81, 3) := by decide +kernel
theorem dX11_isRight_193 : decode cX11_isRight 193 = .ok (.iconst 3, 1) := by decide +kernel
theorem dX11_isRight_194 : decode cX11_isRight 194 = .ok (.iaload, 1) := by decide +kernel
theorem dX11_isRight_195 : decode cX11_isRight 195 = .ok (.aload_n 0, 1) := by decide +kernel
theorem dX11_isRight_196 : decode cX11_isRight 196 = .ok (.getfield 81, 3) := by decide +kernel
theorem dX11_isRight_199 : decode cX11_isRight 199 = .ok (.iconst 1, 1) := by decide +kernel
theorem dX11_isRight_200 : decode cX11_isRight 200 = .ok (.iaload, 1) := by decide +kernel
theorem dX11_isRight_201 : decode cX11_isRight 201 = .ok (.aload_n 0, 1) := by decide +kernel
theorem dX11_isRight_202 : decode cX11_isRight 202 = .ok (.getfield 81, 3) := by decide +kernel
theorem dX11_isRight_205 : decode cX11_isRight 205 = .ok (.bipush 6, 2) := by decide +kernel
theorem dX11_isRight_207 : decode cX11_isRight 207 = .ok (.iaload, 1) := by decide +kernel
theorem dX11_isRight_208 : decode cX11_isRight 208 = .ok (.invokevirtual 394, 3) := by decide +kernel
theorem dX11_isRight_211 : decode cX11_isRight 211 = .ok (.ifCond .eq 7, 3) := by decide +kernel
theorem dX11_isRight_214 : decode cX11_isRight 214 = .ok (.iconst 1, 1) := by decide +kernel
theorem dX11_isRight_215 : decode cX11_isRight 215 = .ok (.goto 4, 3) := by decide +kernel
theorem dX11_isRight_218 : decode cX11_isRight 218 = .ok (.iconst 0, 1) := by decide +kernel
theorem dX11_isRight_219 : decode cX11_isRight 219 = .ok (.ireturn, 1) := by decide +kernel
theorem dX11_diagram_0 : decode cX11_diagram 0 = .ok (.aload_n 0, 1) := by decide +kernel
theorem dX11_diagram_1 : decode cX11_diagram 1 = .ok (.iload_n 1, 1) := by decide +kernel
theorem dX11_diagram_2 : decode cX11_diagram 2 = .ok (.iload_n 2, 1) := by decide +kernel
theorem dX11_diagram_3 : decode cX11_diagram 3 = .ok (.invokevirtual 398, 3) := by decide +kernel
theorem dX11_diagram_6 : decode cX11_diagram 6 = .ok (.istore_n 3, 1) := by decide +kernel
theorem dX11_diagram_7 : decode cX11_diagram 7 = .ok (.iload_n 3, 1) := by decide +kernel
theorem dX11_diagram_8 : decode cX11_diagram 8 = .ok (.ifCond .ge 7, 3) := by decide +kernel
theorem dX11_diagram_11 : decode cX11_diagram 11 = .ok (.iload_n 3, 1) := by decide +kernel
theorem dX11_diagram_12 : decode cX11_diagram 12 = .ok (.goto 15, 3) := by decide +kernel
theorem dX11_diagram_15 : decode cX11_diagram 15 = .ok (.aload_n 0, 1) := by decide +kernel
theorem dX11_diagram_16 : decode cX11_diagram 16 = .ok (.invokevirtual 401, 3) := by decide +kernel
theorem dX11_diagram_19 : decode cX11_diagram 19 = .ok (.ifCond .eq 7, 3) := by decide +kernel
theorem dX11_diagram_22 : decode cX11_diagram 22 = .ok (.iconst 1, 1) := by decide +kernel
theorem dX11_diagram_23 : decode cX11_diagram 23 = .ok (.goto 4, 3) := by decide +kernel
theorem dX11_diagram_26 : decode cX11_diagram 26 = .ok (.iconst 0, 1) := by decide +kernel
theorem dX11_diagram_27 : decode cX11_diagram 27 = .ok (.ireturn, 1) := by decide +kernel
theorem dX11_connected_0 : decode cX11_connected 0 = .ok (.aload_n 0, 1) := by decide +kernel
theorem dX11_connected_1 : decode cX11_connected 1 = .ok (.iload_n 1, 1) := by decide +kernel
theorem dX11_connected_2 : decode cX11_connected 2 = .ok (.iload_n 2, 1) := by decide +kernel
theorem dX11_connected_3 : decode cX11_connected 3 = .ok (.invokevirtual 398, 3) := by decide +kernel
theorem dX11_connected_6 : decode cX11_connected 6 = .ok (.istore 7, 2) := by decide +kernel
theorem dX11_connected_8 : decode cX11_connected 8 = .ok (.iload 7, 2) := by decide +kernel
theorem dX11_connected_10 : decode cX11_connected 10 = .ok (.ifCond .ge 9, 3) := by decide +kernel
theorem dX11_connected_13 : decode cX11_connected 13 = .ok (.iload 7, 2) := by decide +kernel
theorem dX11_connected_15 : decode cX11_connected 15 = .ok (.invokestatic 271, 3) := by decide +kernel
theorem dX11_connected_18 : decode cX11_connected 18 = .ok (.lreturn, 1) := by decide +kernel
theorem dX11_connected_19 : decode cX11_connected 19 = .ok (.aload_n 0, 1) := by decide +kernel
theorem dX11_connected_20 : decode cX11_connected 20 = .ok (.invokevirtual 401, 3) := by decide +kernel
theorem dX11_connected_23 : decode cX11_connected 23 = .ok (.ifCond .ne 9, 3) := by decide +kernel
theorem dX11_connected_26 : decode cX11_connected 26 = .ok (.bipush (-4), 2) := by decide +kernel
theorem dX11_connected_28 : decode cX11_connected 28 = .ok (.invokestatic 271, 3) := by decide +kernel
theorem dX11_connected_31 : decode cX11_connected 31 = .ok (.lreturn, 1) := by decide +kernel
theorem dX11_connected_32 : decode cX11_connected 32 = .ok (.iload_n 3, 1) := by decide +kernel
theorem dX11_connected_33 : decode cX11_connected 33 = .ok (.iload 4, 2) := by decide +kernel
theorem dX11_connected_35 : decode cX11_connected 35 = .ok (.iload 5, 2) := by decide +kernel
theorem dX11_connected_37 : decode cX11_connected 37 = .ok (.invokestatic 267, 3) := by decide +kernel
theorem dX11_connected_40 : decode cX11_connected 40 = .ok (.ifCond .eq 22, 3) := by decide +kernel
theorem dX11_connected_43 : decode cX11_connected 43 = .ok (.aload_n 0, 1) := by decide +kernel
theorem dX11_connected_44 : decode cX11_connected 44 = .ok (.aload_n 0, 1) := by decide +kernel
theorem dX11_connected_45 : decode cX11_connected 45 = .ok (.aload_n 0, 1) := by decide +kernel
theorem dX11_connected_46 : decode cX11_connected 46 = .ok (.getfield 81, 3) := by decide +kernel
theorem dX11_connected_49 : decode cX11_connected 49 = .ok (.iconst 2, 1) := by decide +kernel
theorem dX11_connected_50 : decode cX11_connected 50 = .ok (.iaload, 1) := by decide +kernel
theorem dX11_connected_51 : decode cX11_connected 51 = .ok (.invokevirtual 174, 3) := by decide +kernel
theorem dX11_connected_54 : decode cX11_connected 54 = .ok (.iload 6, 2) := by decide +kernel
theorem dX11_connected_56 : decode cX11_connected 56 = .ok (.invokevirtual 264, 3) := by decide +kernel
theorem dX11_connected_59 : decode cX11_connected 59 = .ok (.ifCond .ne 8, 3) := by decide +kernel
theorem dX11_connected_62 : decode cX11_connected 62 = .ok (.iconst (-1), 1) := by decide +kernel
theorem dX11_connected_63 : decode cX11_connected 63 = .ok (.invokestatic 271, 3) := by decide +kernel
theorem dX11_connected_66 : decode cX11_connected 66 = .ok (.lreturn, 1) := by decide +kernel
theorem dX11_connected_67 : decode cX11_connected 67 = .ok (.aload_n 0, 1) := by decide +kernel
theorem dX11_connected_68 : decode cX11_connected 68 = .ok (.aload_n 0, 1) := by decide +kernel
theorem dX11_connected_69 : decode cX11_connected 69 = .ok (.getfield 90, 3) := by decide +kernel
theorem dX11_connected_72 : decode cX11_connected 72 = .ok (.iload_n 3, 1) := by decide +kernel
theorem dX11_connected_73 : decode cX11_connected 73 = .ok (.i2l, 1) := by decide +kernel
theorem dX11_connected_74 : decode cX11_connected 74 = .ok (.iload 4, 2) := by decide +kernel
theorem dX11_connected_76 : decode cX11_connected 76 = .ok (.i2l, 1) := by decide +kernel
theorem dX11_connected_77 : decode cX11_connected 77 = .ok (.iload 5, 2) := by decide +kernel
theorem dX11_connected_79 : decode cX11_connected 79 = .ok (.i2l, 1) := by decide +kernel
theorem dX11_connected_80 : decode cX11_connected 80 = .ok (.aload_n 0, 1) := by decide +kernel
theorem dX11_connected_81 : decode cX11_connected 81 = .ok (.aload_n 0, 1) := by decide +kernel
theorem dX11_connected_82 : decode cX11_connected 82 = .ok (.aload_n 0, 1) := by decide +kernel
theorem dX11_connected_83 : decode cX11_connected 83 = .ok (.getfield 81, 3) := by decide +kernel
theorem dX11_connected_86 : decode cX11_connected 86 = .ok (.bipush 6, 2) := by decide +kernel
theorem dX11_connected_88 : decode cX11_connected 88 = .ok (.iaload, 1) := by decide +kernel
theorem dX11_connected_89 : decode cX11_connected 89 = .ok (.invokevirtual 174, 3) := by decide +kernel
theorem dX11_connected_92 : decode cX11_connected 92 = .ok (.invokevirtual 162, 3) := by decide +kernel
theorem dX11_connected_95 : decode cX11_connected 95 = .ok (.invokevirtual 184, 3) := by decide +kernel
theorem dX11_connected_98 : decode cX11_connected 98 = .ok (.aload_n 0, 1) := by decide +kernel
theorem dX11_connected_99 : decode cX11_connected 99 = .ok (.aload_n 0, 1) := by decide +kernel
theorem dX11_connected_100 : decode cX11_connected 100 = .ok (.getfield 81, 3) := by decide +kernel
theorem dX11_connected_103 : decode cX11_connected 103 = .ok (.bipush 6, 2) := by decide +kernel
theorem dX11_connected_105 : decode cX11_connected 105 = .ok (.iaload, 1) := by decide +kernel
theorem dX11_connected_106 : decode cX11_connected 106 = .ok (.aload_n 0, 1) := by decide +kernel
theorem dX11_connected_107 : decode cX11_connected 107 = .ok (.getfield 90, 3) := by decide +kernel
theorem dX11_connected_110 : decode cX11_connected 110 = .ok (.aload_n 0, 1) := by decide +kernel
theorem dX11_connected_111 : decode cX11_connected 111 = .ok (.getfield 87, 3) := by decide +kernel
theorem dX11_connected_114 : decode cX11_connected 114 = .ok (.invokevirtual 191, 3) := by decide +kernel
theorem dX11_connected_117 : decode cX11_connected 117 = .ok (.aload_n 0, 1) := by decide +kernel
theorem dX11_connected_118 : decode cX11_connected 118 = .ok (.aload_n 0, 1) := by decide +kernel
theorem dX11_connected_119 : decode cX11_connected 119 = .ok (.aload_n 0, 1) := by decide +kernel
theorem dX11_connected_120 : decode cX11_connected 120 = .ok (.getfield 81, 3) := by decide +kernel
theorem dX11_connected_123 : decode cX11_connected 123 = .ok (.bipush 6, 2) := by decide +kernel
theorem dX11_connected_125 : decode cX11_connected 125 = .ok (.iaload, 1) := by decide +kernel
theorem dX11_connected_126 : decode cX11_connected 126 = .ok (.invokevirtual 181, 3) := by decide +kernel
theorem dX11_connected_129 : decode cX11_connected 129 = .ok (.aload_n 0, 1) := by decide +kernel
theorem dX11_connected_130 : decode cX11_connected 130 = .ok (.getfield 23, 3) := by decide +kernel
theorem dX11_connected_133 : decode cX11_connected 133 = .ok (.invokevirtual 188, 3) := by decide +kernel
theorem dX11_connected_136 : decode cX11_connected 136 = .ok (.aload_n 0, 1) := by decide +kernel
theorem dX11_connected_137 : decode cX11_connected 137 = .ok (.getfield 87, 3) := by decide +kernel
theorem dX11_connected_140 : decode cX11_connected 140 = .ok (.aload_n 0, 1) := by decide +kernel
theorem dX11_connected_141 : decode cX11_connected 141 = .ok (.getfield 23, 3) := by decide +kernel
theorem dX11_connected_144 : decode cX11_connected 144 = .ok (.iconst 0, 1) := by decide +kernel
theorem dX11_connected_145 : decode cX11_connected 145 = .ok (.aload_n 0, 1) := by decide +kernel
theorem dX11_connected_146 : decode cX11_connected 146 = .ok (.aload_n 0, 1) := by decide +kernel
theorem dX11_connected_147 : decode cX11_connected 147 = .ok (.aload_n 0, 1) := by decide +kernel
theorem dX11_connected_148 : decode cX11_connected 148 = .ok (.getfield 81, 3) := by decide +kernel
theorem dX11_connected_151 : decode cX11_connected 151 = .ok (.bipush 6, 2) := by decide +kernel
theorem dX11_connected_153 : decode cX11_connected 153 = .ok (.iaload, 1) := by decide +kernel
theorem dX11_connected_154 : decode cX11_connected 154 = .ok (.invokevirtual 181, 3) := by decide +kernel
theorem dX11_connected_157 : decode cX11_connected 157 = .ok (.invokevirtual 162, 3) := by decide +kernel
theorem dX11_connected_160 : decode cX11_connected 160 = .ok (.invokestatic 195, 3) := by decide +kernel
theorem dX11_connected_163 : decode cX11_connected 163 = .ok (.aload_n 0, 1) := by decide +kernel
theorem dX11_connected_164 : decode cX11_connected 164 = .ok (.getfield 87, 3) := by decide +kernel
theorem dX11_connected_167 : decode cX11_connected 167 = .ok (.iconst 0, 1) := by decide +kernel
theorem dX11_connected_168 : decode cX11_connected 168 = .ok (.bipush 6, 2) := by decide +kernel
theorem dX11_connected_170 : decode cX11_connected 170 = .ok (.invokestatic 199, 3) := by decide +kernel
theorem dX11_connected_173 : decode cX11_connected 173 = .ok (.ifCond .ne 9, 3) := by decide +kernel
theorem dX11_connected_176 : decode cX11_connected 176 = .ok (.bipush (-3), 2) := by decide +kernel
theorem dX11_connected_178 : decode cX11_connected 178 = .ok (.invokestatic 271, 3) := by decide +kernel
theorem dX11_connected_181 : decode cX11_connected 181 = .ok (.lreturn, 1) := by decide +kernel
theorem dX11_connected_182 : decode cX11_connected 182 = .ok (.aload_n 0, 1) := by decide +kernel
theorem dX11_connected_183 : decode cX11_connected 183 = .ok (.aload_n 0, 1) := by decide +kernel
theorem dX11_connected_184 : decode cX11_connected 184 = .ok (.getfield 56, 3) := by decide +kernel
theorem dX11_connected_187 : decode cX11_connected 187 = .ok (.iload_n 3, 1) := by decide +kernel
theorem dX11_connected_188 : decode cX11_connected 188 = .ok (.i2l, 1) := by decide +kernel
theorem dX11_connected_189 : decode cX11_connected 189 = .ok (.iload 4, 2) := by decide +kernel
theorem dX11_connected_191 : decode cX11_connected 191 = .ok (.i2l, 1) := by decide +kernel
theorem dX11_connected_192 : decode cX11_connected 192 = .ok (.iload 5, 2) := by decide +kernel
theorem dX11_connected_194 : decode cX11_connected 194 = .ok (.i2l, 1) := by decide +kernel
theorem dX11_connected_195 : decode cX11_connected 195 = .ok (.aload_n 0, 1) := by decide +kernel
theorem dX11_connected_196 : decode cX11_connected 196 = .ok (.aload_n 0, 1) := by decide +kernel
theorem dX11_connected_197 : decode cX11_connected 197 = .ok (.aload_n 0, 1) := by decide +kernel
theorem dX11_connected_198 : decode cX11_connected 198 = .ok (.getfield 81, 3) := by decide +kernel
theorem dX11_connected_201 : decode cX11_connected 201 = .ok (.bipush 6, 2) := by decide +kernel
theorem dX11_connected_203 : decode cX11_connected 203 = .ok (.iaload, 1) := by decide +kernel
theorem dX11_connected_204 : decode cX11_connected 204 = .ok (.invokevirtual 174, 3) := by decide +kernel
theorem dX11_connected_207 : decode cX11_connected 207 = .ok (.invokevirtual 162, 3) := by decide +kernel
theorem dX11_connected_210 : decode cX11_connected 210 = .ok (.invokevirtual 184, 3) := by decide +kernel
theorem dX11_connected_213 : decode cX11_connected 213 = .ok (.aload_n 0, 1) := by decide +kernel
theorem dX11_connected_214 : decode cX11_connected 214 = .ok (.aload_n 0, 1) := by decide +kernel
theorem dX11_connected_215 : decode cX11_connected 215 = .ok (.getfield 81, 3) := by decide +kernel
theorem dX11_connected_218 : decode cX11_connected 218 = .ok (.iconst 1, 1) := by decide +kernel
theorem dX11_connected_219 : decode cX11_connected 219 = .ok (.iaload, 1) := by decide +kernel
theorem dX11_connected_220 : decode cX11_connected 220 = .ok (.invokevirtual 325, 3) := by decide +kernel
theorem dX11_connected_223 : decode cX11_connected 223 = .ok (.pop, 1) := by decide +kernel
theorem dX11_connected_224 : decode cX11_connected 224 = .ok (.aload_n 0, 1) := by decide +kernel
theorem dX11_connected_225 : decode cX11_connected 225 = .ok (.aload_n 0, 1) := by decide +kernel
theorem dX11_connected_226 : decode cX11_connected 226 = .ok (.getfield 81, 3) := by decide +kernel
theorem dX11_connected_229 : decode cX11_connected 229 = .ok (.iconst 5, 1) := by decide +kernel
theorem dX11_connected_230 : decode cX11_connected 230 = .ok (.iaload, 1) := by decide +kernel
theorem dX11_connected_231 : decode cX11_connected 231 = .ok (.aload_n 0, 1) := by decide +kernel
theorem dX11_connected_232 : decode cX11_connected 232 = .ok (.getfield 56, 3) := by decide +kernel
theorem dX11_connected_235 : decode cX11_connected 235 = .ok (.aload_n 0, 1) := by decide +kernel
theorem dX11_connected_236 : decode cX11_connected 236 = .ok (.getfield 87, 3) := by decide +kernel
theorem dX11_connected_239 : decode cX11_connected 239 = .ok (.invokevirtual 191, 3) := by decide +kernel
theorem dX11_connected_242 : decode cX11_connected 242 = .ok (.aload_n 0, 1) := by decide +kernel
theorem dX11_connected_243 : decode cX11_connected 243 = .ok (.aload_n 0, 1) := by decide +kernel
theorem dX11_connected_244 : decode cX11_connected 244 = .ok (.aload_n 0, 1) := by decide +kernel
theorem dX11_connected_245 : decode cX11_connected 245 = .ok (.getfield 81, 3) := by decide +kernel
theorem dX11_connected_248 : decode cX11_connected 248 = .ok (.iconst 5, 1) := by decide +kernel
theorem dX11_connected_249 : decode cX11_connected 249 = .ok (.iaload, 1) := by decide +kernel
theorem dX11_connected_250 : decode cX11_connected 250 = .ok (.invokevirtual 181, 3) := by decide +kernel
theorem dX11_connected_253 : decode cX11_connected 253 = .ok (.aload_n 0, 1) := by decide +kernel
theorem dX11_connected_254 : decode cX11_connected 254 = .ok (.getfield 23, 3) := by decide +kernel
theorem dX11_connected_257 : decode cX11_connected 257 = .ok (.invokevirtual 188, 3) := by decide +kernel
theorem dX11_connected_260 : decode cX11_connected 260 = .ok (.aload_n 0, 1) := by decide +kernel
theorem dX11_connected_261 : decode cX11_connected 261 = .ok (.getfield 87, 3) := by decide +kernel
theorem dX11_connected_264 : decode cX11_connected 264 = .ok (.aload_n 0, 1) := by decide +kernel
theorem dX11_connected_265 : decode cX11_connected 265 = .ok (.getfield 23, 3) := by decide +kernel
theorem dX11_connected_268 : decode cX11_connected 268 = .ok (.iconst 0, 1) := by decide +kernel
theorem dX11_connected_269 : decode cX11_connected 269 = .ok (.aload_n 0, 1) := by decide +kernel
theorem dX11_connected_270 : decode cX11_connected 270 = .ok (.aload_n 0, 1) := by decide +kernel
theorem dX11_connected_271 : decode cX11_connected 271 = .ok (.aload_n 0, 1) := by decide +kernel
theorem dX11_connected_272 : decode cX11_connected 272 = .ok (.getfield 81, 3) := by decide +kernel
theorem dX11_connected_275 : decode cX11_connected 275 = .ok (.iconst 5, 1) := by decide +kernel
theorem dX11_connected_276 : decode cX11_connected 276 = .ok (.iaload, 1) := by decide +kernel
theorem dX11_connected_277 : decode cX11_connected 277 = .ok (.invokevirtual 181, 3) := by decide +kernel
theorem dX11_connected_280 : decode cX11_connected 280 = .ok (.invokevirtual 162, 3) := by decide +kernel
theorem dX11_connected_283 : decode cX11_connected 283 = .ok (.invokestatic 195, 3) := by decide +kernel
theorem dX11_connected_286 : decode cX11_connected 286 = .ok (.aload_n 0, 1) := by decide +kernel
theorem dX11_connected_287 : decode cX11_connected 287 = .ok (.aload_n 0, 1) := by decide +kernel
theorem dX11_connected_288 : decode cX11_connected 288 = .ok (.getfield 56, 3) := by decide +kernel
theorem dX11_connected_291 : decode cX11_connected 291 = .ok (.aload_n 0, 1) := by decide +kernel
theorem dX11_connected_292 : decode cX11_connected 292 = .ok (.getfield 87, 3) := by decide +kernel
theorem dX11_connected_295 : decode cX11_connected 295 = .ok (.iconst 0, 1) := by decide +kernel
theorem dX11_connected_296 : decode cX11_connected 296 = .ok (.laload, 1) := by decide +kernel
theorem dX11_connected_297 : decode cX11_connected 297 = .ok (.aload_n 0, 1) := by decide +kernel
theorem dX11_connected_298 : decode cX11_connected 298 = .ok (.getfield 87, 3) := by decide +kernel
theorem dX11_connected_301 : decode cX11_connected 301 = .ok (.iconst 1, 1) := by decide +kernel
theorem dX11_connected_302 : decode cX11_connected 302 = .ok (.laload, 1) := by decide +kernel
theorem dX11_connected_303 : decode cX11_connected 303 = .ok (.aload_n 0, 1) := by decide +kernel
theorem dX11_connected_304 : decode cX11_connected 304 = .ok (.getfield 87, 3) := by decide +kernel
theorem dX11_connected_307 : decode cX11_connected 307 = .ok (.iconst 2, 1) := by decide +kernel
theorem dX11_connected_308 : decode cX11_connected 308 = .ok (.laload, 1) := by decide +kernel
theorem dX11_connected_309 : decode cX11_connected 309 = .ok (.iconst 3, 1) := by decide +kernel
theorem dX11_connected_310 : decode cX11_connected 310 = .ok (.invokevirtual 184, 3) := by decide +kernel
theorem dX11_connected_313 : decode cX11_connected 313 = .ok (.aload_n 0, 1) := by decide +kernel
theorem dX11_connected_314 : decode cX11_connected 314 = .ok (.aload_n 0, 1) := by decide +kernel
theorem dX11_connected_315 : decode cX11_connected 315 = .ok (.getfield 81, 3) := by decide +kernel
theorem dX11_connected_318 : decode cX11_connected 318 = .ok (.iconst 2, 1) := by decide +kernel
theorem dX11_connected_319 : decode cX11_connected 319 = .ok (.iaload, 1) := by decide +kernel
theorem dX11_connected_320 : decode cX11_connected 320 = .ok (.invokevirtual 325, 3) := by decide +kernel
theorem dX11_connected_323 : decode cX11_connected 323 = .ok (.pop, 1) := by decide +kernel
theorem dX11_connected_324 : decode cX11_connected 324 = .ok (.aload_n 0, 1) := by decide +kernel
theorem dX11_connected_325 : decode cX11_connected 325 = .ok (.aload_n 0, 1) := by decide +kernel
theorem dX11_connected_326 : decode cX11_connected 326 = .ok (.getfield 81, 3) := by decide +kernel
theorem dX11_connected_329 : decode cX11_connected 329 = .ok (.iconst 4, 1) := by decide +kernel
theorem dX11_connected_330 : decode cX11_connected 330 = .ok (.iaload, 1) := by decide +kernel
theorem dX11_connected_331 : decode cX11_connected 331 = .ok (.invokevirtual 310, 3) := by decide +kernel
theorem dX11_connected_334 : decode cX11_connected 334 = .ok (.aload_n 0, 1) := by decide +kernel
theorem dX11_connected_335 : decode cX11_connected 335 = .ok (.getfield 56, 3) := by decide +kernel
theorem dX11_connected_338 : decode cX11_connected 338 = .ok (.aload_n 0, 1) := by decide +kernel
theorem dX11_connected_339 : decode cX11_connected 339 = .ok (.getfield 29, 3) := by decide +kernel
theorem dX11_connected_342 : decode cX11_connected 342 = .ok (.iconst 0, 1) := by decide +kernel
theorem dX11_connected_343 : decode cX11_connected 343 = .ok (.aload_n 0, 1) := by decide +kernel
theorem dX11_connected_344 : decode cX11_connected 344 = .ok (.aload_n 0, 1) := by decide +kernel
theorem dX11_connected_345 : decode cX11_connected 345 = .ok (.aload_n 0, 1) := by decide +kernel
theorem dX11_connected_346 : decode cX11_connected 346 = .ok (.getfield 81, 3) := by decide +kernel
theorem dX11_connected_349 : decode cX11_connected 349 = .ok (.iconst 4, 1) := by decide +kernel
theorem dX11_connected_350 : decode cX11_connected 350 = .ok (.iaload, 1) := by decide +kernel
theorem dX11_connected_351 : decode cX11_connected 351 = .ok (.invokevirtual 181, 3) := by decide +kernel
theorem dX11_connected_354 : decode cX11_connected 354 = .ok (.invokevirtual 162, 3) := by decide +kernel
theorem dX11_connected_357 : decode cX11_connected 357 = .ok (.invokestatic 195, 3) := by decide +kernel
theorem dX11_connected_360 : decode cX11_connected 360 = .ok (.aload_n 0, 1) := by decide +kernel
theorem dX11_connected_361 : decode cX11_connected 361 = .ok (.getfield 56, 3) := by decide +kernel
theorem dX11_connected_364 : decode cX11_connected 364 = .ok (.iload 6, 2) := by decide +kernel
theorem dX11_connected_366 : decode cX11_connected 366 = .ok (.laload, 1) := by decide +kernel
theorem dX11_connected_367 : decode cX11_connected 367 = .ok (.lreturn, 1) := by decide +kernel
theorem dX11_isMove_0 : decode cX11_isMove 0 = .ok (.iload_n 0, 1) := by decide +kernel
theorem dX11_isMove_1 : decode cX11_isMove 1 = .ok (.ifCond .ne 15, 3) := by decide +kernel
theorem dX11_isMove_4 : decode cX11_isMove 4 = .ok (.iload_n 1, 1) := by decide +kernel
theorem dX11_isMove_5 : decode cX11_isMove 5 = .ok (.i2l, 1) := by decide +kernel
theorem dX11_isMove_6 : decode cX11_isMove 6 = .ok (.lconst 0, 1) := by decide +kernel
theorem dX11_isMove_7 : decode cX11_isMove 7 = .ok (.ldc2_w 319, 3) := by decide +kernel
theorem dX11_isMove_10 : decode cX11_isMove 10 = .ok (.invokestatic 123, 3) := by decide +kernel
theorem dX11_isMove_13 : decode cX11_isMove 13 = .ok (.goto 32, 3) := by decide +kernel
theorem dX11_isMove_16 : decode cX11_isMove 16 = .ok (.iload_n 0, 1) := by decide +kernel
theorem dX11_isMove_17 : decode cX11_isMove 17 = .ok (.iconst 1, 1) := by decide +kernel
theorem dX11_isMove_18 : decode cX11_isMove 18 = .ok (.if_icmp .ne 17, 3) := by decide +kernel
theorem dX11_isMove_21 : decode cX11_isMove 21 = .ok (.iload_n 1, 1) := by decide +kernel
theorem dX11_isMove_22 : decode cX11_isMove 22 = .ok (.i2l, 1) := by decide +kernel
theorem dX11_isMove_23 : decode cX11_isMove 23 = .ok (.ldc2_w 218, 3) := by decide +kernel
theorem dX11_isMove_26 : decode cX11_isMove 26 = .ok (.ldc2_w 220, 3) := by decide +kernel
theorem dX11_isMove_29 : decode cX11_isMove 29 = .ok (.invokestatic 123, 3) := by decide +kernel
theorem dX11_isMove_32 : decode cX11_isMove 32 = .ok (.goto 13, 3) := by decide +kernel
theorem dX11_isMove_35 : decode cX11_isMove 35 = .ok (.iload_n 0, 1) := by decide +kernel
theorem dX11_isMove_36 : decode cX11_isMove 36 = .ok (.iconst 3, 1) := by decide +kernel
theorem dX11_isMove_37 : decode cX11_isMove 37 = .ok (.if_icmp .ne 7, 3) := by decide +kernel
theorem dX11_isMove_40 : decode cX11_isMove 40 = .ok (.iconst 1, 1) := by decide +kernel
theorem dX11_isMove_41 : decode cX11_isMove 41 = .ok (.goto 4, 3) := by decide +kernel
theorem dX11_isMove_44 : decode cX11_isMove 44 = .ok (.iconst 0, 1) := by decide +kernel
theorem dX11_isMove_45 : decode cX11_isMove 45 = .ok (.ireturn, 1) := by decide +kernel
theorem dX11_move_0 : decode cX11_move 0 = .ok (.iload_n 1, 1) := by decide +kernel
theorem dX11_move_1 : decode cX11_move 1 = .ok (.iload_n 2, 1) := by decide +kernel
theorem dX11_move_2 : decode cX11_move 2 = .ok (.invokestatic 404, 3) := by decide +kernel
theorem dX11_move_5 : decode cX11_move 5 = .ok (.ifCond .ne 18, 3) := by decide +kernel
theorem dX11_move_8 : decode cX11_move 8 = .ok (.iload_n 1, 1) := by decide +kernel
theorem dX11_move_9 : decode cX11_move 9 = .ok (.iconst 2, 1) := by decide +kernel
theorem dX11_move_10 : decode cX11_move 10 = .ok (.if_icmp .ne 11, 3) := by decide +kernel
theorem dX11_move_13 : decode cX11_move 13 = .ok (.aload_n 0, 1) := by decide +kernel
theorem dX11_move_14 : decode cX11_move 14 = .ok (.iload_n 2, 1) := by decide +kernel
theorem dX11_move_15 : decode cX11_move 15 = .ok (.invokevirtual 215, 3) := by decide +kernel
theorem dX11_move_18 : decode cX11_move 18 = .ok (.ifCond .ne 5, 3) := by decide +kernel
theorem dX11_move_21 : decode cX11_move 21 = .ok (.iconst (-1), 1) := by decide +kernel
theorem dX11_move_22 : decode cX11_move 22 = .ok (.ireturn, 1) := by decide +kernel
theorem dX11_move_23 : decode cX11_move 23 = .ok (.aload_n 0, 1) := by decide +kernel
theorem dX11_move_24 : decode cX11_move 24 = .ok (.getfield 7, 3) := by decide +kernel
theorem dX11_move_27 : decode cX11_move 27 = .ok (.sipush 172, 3) := by decide +kernel
theorem dX11_move_30 : decode cX11_move 30 = .ok (.iaload, 1) := by decide +kernel
theorem dX11_move_31 : decode cX11_move 31 = .ok (.bipush 12, 2) := by decide +kernel
theorem dX11_move_33 : decode cX11_move 33 = .ok (.if_icmp .ne 6, 3) := by decide +kernel
theorem dX11_move_36 : decode cX11_move 36 = .ok (.bipush (-2), 2) := by decide +kernel
theorem dX11_move_38 : decode cX11_move 38 = .ok (.ireturn, 1) := by decide +kernel
theorem dX11_move_39 : decode cX11_move 39 = .ok (.aload_n 0, 1) := by decide +kernel
theorem dX11_move_40 : decode cX11_move 40 = .ok (.invokevirtual 213, 3) := by decide +kernel
theorem dX11_move_43 : decode cX11_move 43 = .ok (.sipush 173, 3) := by decide +kernel
theorem dX11_move_46 : decode cX11_move 46 = .ok (.bipush 15, 2) := by decide +kernel
theorem dX11_move_48 : decode cX11_move 48 = .ok (.aload_n 0, 1) := by decide +kernel
theorem dX11_move_49 : decode cX11_move 49 = .ok (.getfield 7, 3) := by decide +kernel
theorem dX11_move_52 : decode cX11_move 52 = .ok (.sipush 172, 3) := by decide +kernel
theorem dX11_move_55 : decode cX11_move 55 = .ok (.iaload, 1) := by decide +kernel
theorem dX11_move_56 : decode cX11_move 56 = .ok (.imul, 1) := by decide +kernel
theorem dX11_move_57 : decode cX11_move 57 = .ok (.iadd, 1) := by decide +kernel
theorem dX11_move_58 : decode cX11_move 58 = .ok (.istore_n 3, 1) := by decide +kernel
theorem dX11_move_59 : decode cX11_move 59 = .ok (.aload_n 0, 1) := by decide +kernel
theorem dX11_move_60 : decode cX11_move 60 = .ok (.getfield 7, 3) := by decide +kernel
theorem dX11_move_63 : decode cX11_move 63 = .ok (.iload_n 3, 1) := by decide +kernel
theorem dX11_move_64 : decode cX11_move 64 = .ok (.iload_n 1, 1) := by decide +kernel
theorem dX11_move_65 : decode cX11_move 65 = .ok (.iastore, 1) := by decide +kernel
theorem dX11_move_66 : decode cX11_move 66 = .ok (.aload_n 0, 1) := by decide +kernel
theorem dX11_move_67 : decode cX11_move 67 = .ok (.getfield 7, 3) := by decide +kernel
theorem dX11_move_70 : decode cX11_move 70 = .ok (.iload_n 3, 1) := by decide +kernel
theorem dX11_move_71 : decode cX11_move 71 = .ok (.iconst 1, 1) := by decide +kernel
theorem dX11_move_72 : decode cX11_move 72 = .ok (.iadd, 1) := by decide +kernel
theorem dX11_move_73 : decode cX11_move 73 = .ok (.iload_n 2, 1) := by decide +kernel
theorem dX11_move_74 : decode cX11_move 74 = .ok (.iastore, 1) := by decide +kernel
theorem dX11_move_75 : decode cX11_move 75 = .ok (.iconst 2, 1) := by decide +kernel
theorem dX11_move_76 : decode cX11_move 76 = .ok (.istore 4, 2) := by decide +kernel
theorem dX11_move_78 : decode cX11_move 78 = .ok (.iload 4, 2) := by decide +kernel
theorem dX11_move_80 : decode cX11_move 80 = .ok (.bipush 15, 2) := by decide +kernel
theorem dX11_move_82 : decode cX11_move 82 = .ok (.if_icmp .ge 19, 3) := by decide +kernel
theorem dX11_move_85 : decode cX11_move 85 = .ok (.aload_n 0, 1) := by decide +kernel
theorem dX11_move_86 : decode cX11_move 86 = .ok (.getfield 7, 3) := by decide +kernel
theorem dX11_move_89 : decode cX11_move 89 = .ok (.iload_n 3, 1) := by decide +kernel
theorem dX11_move_90 : decode cX11_move 90 = .ok (.iload 4, 2) := by decide +kernel
theorem dX11_move_92 : decode cX11_move 92 = .ok (.iadd, 1) := by decide +kernel
theorem dX11_move_93 : decode cX11_move 93 = .ok (.iconst 0, 1) := by decide +kernel
theorem dX11_move_94 : decode cX11_move 94 = .ok (.iastore, 1) := by decide +kernel
theorem dX11_move_95 : decode cX11_move 95 = .ok (.iinc 4 1, 3) := by decide +kernel
theorem dX11_move_98 : decode cX11_move 98 = .ok (.goto (-20), 3) := by decide +kernel
theorem dX11_move_101 : decode cX11_move 101 = .ok (.iload_n 1, 1) := by decide +kernel
theorem dX11_move_102 : decode cX11_move 102 = .ok (.iconst 2, 1) := by decide +kernel
theorem dX11_move_103 : decode cX11_move 103 = .ok (.if_icmp .ne 108, 3) := by decide +kernel
theorem dX11_move_106 : decode cX11_move 106 = .ok (.aload_n 0, 1) := by decide +kernel
theorem dX11_move_107 : decode cX11_move 107 = .ok (.getfield 7, 3) := by decide +kernel
theorem dX11_move_110 : decode cX11_move 110 = .ok (.iload_n 3, 1) := by decide +kernel
theorem dX11_move_111 : decode cX11_move 111 = .ok (.iconst 2, 1) := by decide +kernel
theorem dX11_move_112 : decode cX11_move 112 = .ok (.iadd, 1) := by decide +kernel
theorem dX11_move_113 : decode cX11_move 113 = .ok (.aload_n 0, 1) := by decide +kernel
theorem dX11_move_114 : decode cX11_move 114 = .ok (.iload_n 2, 1) := by decide +kernel
theorem dX11_move_115 : decode cX11_move 115 = .ok (.invokevirtual 174, 3) := by decide +kernel
theorem dX11_move_118 : decode cX11_move 118 = .ok (.iastore, 1) := by decide +kernel
theorem dX11_move_119 : decode cX11_move 119 = .ok (.aload_n 0, 1) := by decide +kernel
theorem dX11_move_120 : decode cX11_move 120 = .ok (.getfield 7, 3) := by decide +kernel
theorem dX11_move_123 : decode cX11_move 123 = .ok (.iload_n 3, 1) := by decide +kernel
theorem dX11_move_124 : decode cX11_move 124 = .ok (.iconst 3, 1) := by decide +kernel
theorem dX11_move_125 : decode cX11_move 125 = .ok (.iadd, 1) := by decide +kernel
theorem dX11_move_126 : decode cX11_move 126 = .ok (.aload_n 0, 1) := by decide +kernel
theorem dX11_move_127 : decode cX11_move 127 = .ok (.iload_n 2, 1) := by decide +kernel
theorem dX11_move_128 : decode cX11_move 128 = .ok (.invokevirtual 181, 3) := by decide +kernel
theorem dX11_move_131 : decode cX11_move 131 = .ok (.iastore, 1) := by decide +kernel
theorem dX11_move_132 : decode cX11_move 132 = .ok (.aload_n 0, 1) := by decide +kernel
theorem dX11_move_133 : decode cX11_move 133 = .ok (.getfield 7, 3) := by decide +kernel
theorem dX11_move_136 : decode cX11_move 136 = .ok (.iload_n 3, 1) := by decide +kernel
theorem dX11_move_137 : decode cX11_move 137 = .ok (.iconst 4, 1) := by decide +kernel
theorem dX11_move_138 : decode cX11_move 138 = .ok (.iadd, 1) := by decide +kernel
theorem dX11_move_139 : decode cX11_move 139 = .ok (.aload_n 0, 1) := by decide +kernel
theorem dX11_move_140 : decode cX11_move 140 = .ok (.aload_n 0, 1) := by decide +kernel
theorem dX11_move_141 : decode cX11_move 141 = .ok (.iload_n 2, 1) := by decide +kernel
theorem dX11_move_142 : decode cX11_move 142 = .ok (.invokevirtual 174, 3) := by decide +kernel
theorem dX11_move_145 : decode cX11_move 145 = .ok (.invokevirtual 162, 3) := by decide +kernel
theorem dX11_move_148 : decode cX11_move 148 = .ok (.iastore, 1) := by decide +kernel
theorem dX11_move_149 : decode cX11_move 149 = .ok (.aload_n 0, 1) := by decide +kernel
theorem dX11_move_150 : decode cX11_move 150 = .ok (.getfield 7, 3) := by decide +kernel
theorem dX11_move_153 : decode cX11_move 153 = .ok (.iload_n 3, 1) := by decide +kernel
theorem dX11_move_154 : decode cX11_move 154 = .ok (.iconst 5, 1) := by decide +kernel
theorem dX11_move_155 : decode cX11_move 155 = .ok (.iadd, 1) := by decide +kernel
theorem dX11_move_156 : decode cX11_move 156 = .ok (.aload_n 0, 1) := by decide +kernel
theorem dX11_move_157 : decode cX11_move 157 = .ok (.aload_n 0, 1) := by decide +kernel
theorem dX11_move_158 : decode cX11_move 158 = .ok (.iload_n 2, 1) := by decide +kernel
theorem dX11_move_159 : decode cX11_move 159 = .ok (.invokevirtual 181, 3) := by decide +kernel
theorem dX11_move_162 : decode cX11_move 162 = .ok (.invokevirtual 162, 3) := by decide +kernel
theorem dX11_move_165 : decode cX11_move 165 = .ok (.iastore, 1) := by decide +kernel
theorem dX11_move_166 : decode cX11_move 166 = .ok (.iconst 0, 1) := by decide +kernel
theorem dX11_move_167 : decode cX11_move 167 = .ok (.istore 4, 2) := by decide +kernel
theorem dX11_move_169 : decode cX11_move 169 = .ok (.iload 4, 2) := by decide +kernel
theorem dX11_move_171 : decode cX11_move 171 = .ok (.bipush 9, 2) := by decide +kernel
theorem dX11_move_173 : decode cX11_move 173 = .ok (.if_icmp .ge 38, 3) := by decide +kernel
theorem dX11_move_176 : decode cX11_move 176 = .ok (.aload_n 0, 1) := by decide +kernel
theorem dX11_move_177 : decode cX11_move 177 = .ok (.getfield 7, 3) := by decide +kernel
theorem dX11_move_180 : decode cX11_move 180 = .ok (.iload_n 3, 1) := by decide +kernel
theorem dX11_move_181 : decode cX11_move 181 = .ok (.bipush 6, 2) := by decide +kernel
theorem dX11_move_183 : decode cX11_move 183 = .ok (.iadd, 1) := by decide +kernel
theorem dX11_move_184 : decode cX11_move 184 = .ok (.iload 4, 2) := by decide +kernel
theorem dX11_move_186 : decode cX11_move 186 = .ok (.iadd, 1) := by decide +kernel
theorem dX11_move_187 : decode cX11_move 187 = .ok (.aload_n 0, 1) := by decide +kernel
theorem dX11_move_188 : decode cX11_move 188 = .ok (.getfield 7, 3) := by decide +kernel
theorem dX11_move_191 : decode cX11_move 191 = .ok (.bipush 84, 2) := by decide +kernel
theorem dX11_move_193 : decode cX11_move 193 = .ok (.bipush 11, 2) := by decide +kernel
theorem dX11_move_195 : decode cX11_move 195 = .ok (.iload_n 2, 1) := by decide +kernel
theorem dX11_move_196 : decode cX11_move 196 = .ok (.imul, 1) := by decide +kernel
theorem dX11_move_197 : decode cX11_move 197 = .ok (.iadd, 1) := by decide +kernel
theorem dX11_move_198 : decode cX11_move 198 = .ok (.iconst 2, 1) := by decide +kernel
theorem dX11_move_199 : decode cX11_move 199 = .ok (.iadd, 1) := by decide +kernel
theorem dX11_move_200 : decode cX11_move 200 = .ok (.iload 4, 2) := by decide +kernel
theorem dX11_move_202 : decode cX11_move 202 = .ok (.iadd, 1) := by decide +kernel
theorem dX11_move_203 : decode cX11_move 203 = .ok (.iaload, 1) := by decide +kernel
theorem dX11_move_204 : decode cX11_move 204 = .ok (.iastore, 1) := by decide +kernel
theorem dX11_move_205 : decode cX11_move 205 = .ok (.iinc 4 1, 3) := by decide +kernel
theorem dX11_move_208 : decode cX11_move 208 = .ok (.goto (-39), 3) := by decide +kernel
theorem dX11_move_211 : decode cX11_move 211 = .ok (.aload_n 0, 1) := by decide +kernel
theorem dX11_move_212 : decode cX11_move 212 = .ok (.getfield 7, 3) := by decide +kernel
theorem dX11_move_215 : decode cX11_move 215 = .ok (.sipush 172, 3) := by decide +kernel
theorem dX11_move_218 : decode cX11_move 218 = .ok (.dup2, 1) := by decide +kernel
theorem dX11_move_219 : decode cX11_move 219 = .ok (.iaload, 1) := by decide +kernel
theorem dX11_move_220 : decode cX11_move 220 = .ok (.iconst 1, 1) := by decide +kernel
theorem dX11_move_221 : decode cX11_move 221 = .ok (.iadd, 1) := by decide +kernel
theorem dX11_move_222 : decode cX11_move 222 = .ok (.iastore, 1) := by decide +kernel
theorem dX11_move_223 : decode cX11_move 223 = .ok (.aload_n 0, 1) := by decide +kernel
theorem dX11_move_224 : decode cX11_move 224 = .ok (.getfield 7, 3) := by decide +kernel
theorem dX11_move_227 : decode cX11_move 227 = .ok (.sipush 172, 3) := by decide +kernel
theorem dX11_move_230 : decode cX11_move 230 = .ok (.iaload, 1) := by decide +kernel
theorem dX11_move_231 : decode cX11_move 231 = .ok (.ireturn, 1) := by decide +kernel
theorem dX11_stop_0 : decode cX11_stop 0 = .ok (.iload_n 1, 1) := by decide +kernel
theorem dX11_stop_1 : decode cX11_stop 1 = .ok (.i2l, 1) := by decide +kernel
theorem dX11_stop_2 : decode cX11_stop 2 = .ok (.lconst 0, 1) := by decide +kernel
theorem dX11_stop_3 : decode cX11_stop 3 = .ok (.ldc2_w 211, 3) := by decide +kernel
theorem dX11_stop_6 : decode cX11_stop 6 = .ok (.invokestatic 123, 3) := by decide +kernel
theorem dX11_stop_9 : decode cX11_stop 9 = .ok (.ifCond .ne 5, 3) := by decide +kernel
theorem dX11_stop_12 : decode cX11_stop 12 = .ok (.iconst (-1), 1) := by decide +kernel
theorem dX11_stop_13 : decode cX11_stop 13 = .ok (.ireturn, 1) := by decide +kernel
theorem dX11_stop_14 : decode cX11_stop 14 = .ok (.aload_n 0, 1) := by decide +kernel
theorem dX11_stop_15 : decode cX11_stop 15 = .ok (.invokevirtual 213, 3) := by decide +kernel
theorem dX11_stop_18 : decode cX11_stop 18 = .ok (.iconst 0, 1) := by decide +kernel
theorem dX11_stop_19 : decode cX11_stop 19 = .ok (.istore_n 2, 1) := by decide +kernel
theorem dX11_stop_20 : decode cX11_stop 20 = .ok (.iconst 0, 1) := by decide +kernel
theorem dX11_stop_21 : decode cX11_stop 21 = .ok (.istore_n 3, 1) := by decide +kernel
theorem dX11_stop_22 : decode cX11_stop 22 = .ok (.iload_n 3, 1) := by decide +kernel
theorem dX11_stop_23 : decode cX11_stop 23 = .ok (.aload_n 0, 1) := by decide +kernel
theorem dX11_stop_24 : decode cX11_stop 24 = .ok (.getfield 7, 3) := by decide +kernel
theorem dX11_stop_27 : decode cX11_stop 27 = .ok (.sipush 172, 3) := by decide +kernel
theorem dX11_stop_30 : decode cX11_stop 30 = .ok (.iaload, 1) := by decide +kernel
theorem dX11_stop_31 : decode cX11_stop 31 = .ok (.if_icmp .ge 77, 3) := by decide +kernel
theorem dX11_stop_34 : decode cX11_stop 34 = .ok (.aload_n 0, 1) := by decide +kernel
theorem dX11_stop_35 : decode cX11_stop 35 = .ok (.getfield 7, 3) := by decide +kernel
theorem dX11_stop_38 : decode cX11_stop 38 = .ok (.sipush 173, 3) := by decide +kernel
theorem dX11_stop_41 : decode cX11_stop 41 = .ok (.bipush 15, 2) := by decide +kernel
theorem dX11_stop_43 : decode cX11_stop 43 = .ok (.iload_n 3, 1) := by decide +kernel
theorem dX11_stop_44 : decode cX11_stop 44 = .ok (.imul, 1) := by decide +kernel
theorem dX11_stop_45 : decode cX11_stop 45 = .ok (.iadd, 1) := by decide +kernel
theorem dX11_stop_46 : decode cX11_stop 46 = .ok (.iaload, 1) := by decide +kernel
theorem dX11_stop_47 : decode cX11_stop 47 = .ok (.iload_n 1, 1) := by decide +kernel
theorem dX11_stop_48 : decode cX11_stop 48 = .ok (.if_icmp .eq 54, 3) := by decide +kernel
theorem dX11_stop_51 : decode cX11_stop 51 = .ok (.iconst 0, 1) := by decide +kernel
theorem dX11_stop_52 : decode cX11_stop 52 = .ok (.istore 4, 2) := by decide +kernel
theorem dX11_stop_54 : decode cX11_stop 54 = .ok (.iload 4, 2) := by decide +kernel
theorem dX11_stop_56 : decode cX11_stop 56 = .ok (.bipush 15, 2) := by decide +kernel
theorem dX11_stop_58 : decode cX11_stop 58 = .ok (.if_icmp .ge 41, 3) := by decide +kernel
theorem dX11_stop_61 : decode cX11_stop 61 = .ok (.aload_n 0, 1) := by decide +kernel
theorem dX11_stop_62 : decode cX11_stop 62 = .ok (.getfield 7, 3) := by decide +kernel
theorem dX11_stop_65 : decode cX11_stop 65 = .ok (.sipush 173, 3) := by decide +kernel
theorem dX11_stop_68 : decode cX11_stop 68 = .ok (.bipush 15, 2) := by decide +kernel
theorem dX11_stop_70 : decode cX11_stop 70 = .ok (.iload_n 2, 1) := by decide +kernel
theorem dX11_stop_71 : decode cX11_stop 71 = .ok (.imul, 1) := by decide +kernel
theorem dX11_stop_72 : decode cX11_stop 72 = .ok (.iadd, 1) := by decide +kernel
theorem dX11_stop_73 : decode cX11_stop 73 = .ok (.iload 4, 2) := by decide +kernel
theorem dX11_stop_75 : decode cX11_stop 75 = .ok (.iadd, 1) := by decide +kernel
theorem dX11_stop_76 : decode cX11_stop 76 = .ok (.aload_n 0, 1) := by decide +kernel
theorem dX11_stop_77 : decode cX11_stop 77 = .ok (.getfield 7, 3) := by decide +kernel
theorem dX11_stop_80 : decode cX11_stop 80 = .ok (.sipush 173, 3) := by decide +kernel
theorem dX11_stop_83 : decode cX11_stop 83 = .ok (.bipush 15, 2) := by decide +kernel
theorem dX11_stop_85 : decode cX11_stop 85 = .ok (.iload_n 3, 1) := by decide +kernel
theorem dX11_stop_86 : decode cX11_stop 86 = .ok (.imul, 1) := by decide +kernel
theorem dX11_stop_87 : decode cX11_stop 87 = .ok (.iadd, 1) := by decide +kernel
theorem dX11_stop_88 : decode cX11_stop 88 = .ok (.iload 4, 2) := by decide +kernel
theorem dX11_stop_90 : decode cX11_stop 90 = .ok (.iadd, 1) := by decide +kernel
theorem dX11_stop_91 : decode cX11_stop 91 = .ok (.iaload, 1) := by decide +kernel
theorem dX11_stop_92 : decode cX11_stop 92 = .ok (.iastore, 1) := by decide +kernel
theorem dX11_stop_93 : decode cX11_stop 93 = .ok (.iinc 4 1, 3) := by decide +kernel
theorem dX11_stop_96 : decode cX11_stop 96 = .ok (.goto (-42), 3) := by decide +kernel
theorem dX11_stop_99 : decode cX11_stop 99 = .ok (.iinc 2 1, 3) := by decide +kernel
theorem dX11_stop_102 : decode cX11_stop 102 = .ok (.iinc 3 1, 3) := by decide +kernel
theorem dX11_stop_105 : decode cX11_stop 105 = .ok (.goto (-83), 3) := by decide +kernel
theorem dX11_stop_108 : decode cX11_stop 108 = .ok (.aload_n 0, 1) := by decide +kernel
theorem dX11_stop_109 : decode cX11_stop 109 = .ok (.getfield 7, 3) := by decide +kernel
theorem dX11_stop_112 : decode cX11_stop 112 = .ok (.sipush 172, 3) := by decide +kernel
theorem dX11_stop_115 : decode cX11_stop 115 = .ok (.iload_n 2, 1) := by decide +kernel
theorem dX11_stop_116 : decode cX11_stop 116 = .ok (.iastore, 1) := by decide +kernel
theorem dX11_stop_117 : decode cX11_stop 117 = .ok (.iload_n 2, 1) := by decide +kernel
theorem dX11_stop_118 : decode cX11_stop 118 = .ok (.ireturn, 1) := by decide +kernel
theorem dX11_does_0 : decode cX11_does 0 = .ok (.aload_n 0, 1) := by decide +kernel
theorem dX11_does_1 : decode cX11_does 1 = .ok (.aload_n 0, 1) := by decide +kernel
theorem dX11_does_2 : decode cX11_does 2 = .ok (.getfield 407, 3) := by decide +kernel
theorem dX11_does_5 : decode cX11_does 5 = .ok (.invokevirtual 162, 3) := by decide +kernel
theorem dX11_does_8 : decode cX11_does 8 = .ok (.istore_n 2, 1) := by decide +kernel
theorem dX11_does_9 : decode cX11_does 9 = .ok (.aload_n 0, 1) := by decide +kernel
theorem dX11_does_10 : decode cX11_does 10 = .ok (.getfield 7, 3) := by decide +kernel
theorem dX11_does_13 : decode cX11_does 13 = .ok (.iload_n 1, 1) := by decide +kernel
theorem dX11_does_14 : decode cX11_does 14 = .ok (.iaload, 1) := by decide +kernel
theorem dX11_does_15 : decode cX11_does 15 = .ok (.tableswitch 99 0 2 #[25, 60, 93], 25) := by decide +kernel
theorem dX11_does_40 : decode cX11_does 40 = .ok (.aload_n 0, 1) := by decide +kernel
theorem dX11_does_41 : decode cX11_does 41 = .ok (.getfield 56, 3) := by decide +kernel
theorem dX11_does_44 : decode cX11_does 44 = .ok (.aload_n 0, 1) := by decide +kernel
theorem dX11_does_45 : decode cX11_does 45 = .ok (.getfield 7, 3) := by decide +kernel
theorem dX11_does_48 : decode cX11_does 48 = .ok (.iload_n 1, 1) := by decide +kernel
theorem dX11_does_49 : decode cX11_does 49 = .ok (.iconst 1, 1) := by decide +kernel
theorem dX11_does_50 : decode cX11_does 50 = .ok (.iadd, 1) := by decide +kernel
theorem dX11_does_51 : decode cX11_does 51 = .ok (.iaload, 1) := by decide +kernel
theorem dX11_does_52 : decode cX11_does 52 = .ok (.dup2, 1) := by decide +kernel
theorem dX11_does_53 : decode cX11_does 53 = .ok (.laload, 1) := by decide +kernel
theorem dX11_does_54 : decode cX11_does 54 = .ok (.aload_n 0, 1) := by decide +kernel
theorem dX11_does_55 : decode cX11_does 55 = .ok (.getfield 7, 3) := by decide +kernel
theorem dX11_does_58 : decode cX11_does 58 = .ok (.iload_n 1, 1) := by decide +kernel
theorem dX11_does_59 : decode cX11_does 59 = .ok (.iconst 1, 1) := by decide +kernel
theorem dX11_does_60 : decode cX11_does 60 = .ok (.iadd, 1) := by decide +kernel
theorem dX11_does_61 : decode cX11_does 61 = .ok (.iaload, 1) := by decide +kernel
theorem dX11_does_62 : decode cX11_does 62 = .ok (.iload_n 2, 1) := by decide +kernel
theorem dX11_does_63 : decode cX11_does 63 = .ok (.if_icmp .ge 7, 3) := by decide +kernel
theorem dX11_does_66 : decode cX11_does 66 = .ok (.lconst 1, 1) := by decide +kernel
theorem dX11_does_67 : decode cX11_does 67 = .ok (.goto 4, 3) := by decide +kernel
theorem dX11_does_70 : decode cX11_does 70 = .ok (.lconst 0, 1) := by decide +kernel
theorem dX11_does_71 : decode cX11_does 71 = .ok (.ladd, 1) := by decide +kernel
theorem dX11_does_72 : decode cX11_does 72 = .ok (.lastore, 1) := by decide +kernel
theorem dX11_does_73 : decode cX11_does 73 = .ok (.iconst 0, 1) := by decide +kernel
theorem dX11_does_74 : decode cX11_does 74 = .ok (.ireturn, 1) := by decide +kernel
theorem dX11_does_75 : decode cX11_does 75 = .ok (.iconst 0, 1) := by decide +kernel
theorem dX11_does_76 : decode cX11_does 76 = .ok (.istore_n 3, 1) := by decide +kernel
theorem dX11_does_77 : decode cX11_does 77 = .ok (.iload_n 3, 1) := by decide +kernel
theorem dX11_does_78 : decode cX11_does 78 = .ok (.iconst 3, 1) := by decide +kernel
theorem dX11_does_79 : decode cX11_does 79 = .ok (.if_icmp .ge 27, 3) := by decide +kernel
theorem dX11_does_82 : decode cX11_does 82 = .ok (.aload_n 0, 1) := by decide +kernel
theorem dX11_does_83 : decode cX11_does 83 = .ok (.getfield 56, 3) := by decide +kernel
theorem dX11_does_86 : decode cX11_does 86 = .ok (.iload_n 3, 1) := by decide +kernel
theorem dX11_does_87 : decode cX11_does 87 = .ok (.dup2, 1) := by decide +kernel
theorem dX11_does_88 : decode cX11_does 88 = .ok (.laload, 1) := by decide +kernel
theorem dX11_does_89 : decode cX11_does 89 = .ok (.aload_n 0, 1) := by decide +kernel
theorem dX11_does_90 : decode cX11_does 90 = .ok (.getfield 7, 3) := by decide +kernel
theorem dX11_does_93 : decode cX11_does 93 = .ok (.iload_n 1, 1) := by decide +kernel
theorem dX11_does_94 : decode cX11_does 94 = .ok (.iconst 1, 1) := by decide +kernel
theorem dX11_does_95 : decode cX11_does 95 = .ok (.iadd, 1) := by decide +kernel
theorem dX11_does_96 : decode cX11_does 96 = .ok (.iaload, 1) := by decide +kernel
theorem dX11_does_97 : decode cX11_does 97 = .ok (.i2l, 1) := by decide +kernel
theorem dX11_does_98 : decode cX11_does 98 = .ok (.lmul, 1) := by decide +kernel
theorem dX11_does_99 : decode cX11_does 99 = .ok (.lastore, 1) := by decide +kernel
theorem dX11_does_100 : decode cX11_does 100 = .ok (.iinc 3 1, 3) := by decide +kernel
theorem dX11_does_103 : decode cX11_does 103 = .ok (.goto (-26), 3) := by decide +kernel
theorem dX11_does_106 : decode cX11_does 106 = .ok (.iconst 0, 1) := by decide +kernel
theorem dX11_does_107 : decode cX11_does 107 = .ok (.ireturn, 1) := by decide +kernel
theorem dX11_does_108 : decode cX11_does 108 = .ok (.aload_n 0, 1) := by decide +kernel
theorem dX11_does_109 : decode cX11_does 109 = .ok (.iload_n 1, 1) := by decide +kernel
theorem dX11_does_110 : decode cX11_does 110 = .ok (.invokevirtual 410, 3) := by decide +kernel
theorem dX11_does_113 : decode cX11_does 113 = .ok (.ireturn, 1) := by decide +kernel
theorem dX11_does_114 : decode cX11_does 114 = .ok (.aload_n 0, 1) := by decide +kernel
theorem dX11_does_115 : decode cX11_does 115 = .ok (.aload_n 0, 1) := by decide +kernel
theorem dX11_does_116 : decode cX11_does 116 = .ok (.getfield 407, 3) := by decide +kernel
theorem dX11_does_119 : decode cX11_does 119 = .ok (.aload_n 0, 1) := by decide +kernel
theorem dX11_does_120 : decode cX11_does 120 = .ok (.getfield 23, 3) := by decide +kernel
theorem dX11_does_123 : decode cX11_does 123 = .ok (.invokevirtual 188, 3) := by decide +kernel
theorem dX11_does_126 : decode cX11_does 126 = .ok (.aload_n 0, 1) := by decide +kernel
theorem dX11_does_127 : decode cX11_does 127 = .ok (.getfield 56, 3) := by decide +kernel
theorem dX11_does_130 : decode cX11_does 130 = .ok (.aload_n 0, 1) := by decide +kernel
theorem dX11_does_131 : decode cX11_does 131 = .ok (.getfield 23, 3) := by decide +kernel
theorem dX11_does_134 : decode cX11_does 134 = .ok (.iconst 0, 1) := by decide +kernel
theorem dX11_does_135 : decode cX11_does 135 = .ok (.iload_n 2, 1) := by decide +kernel
theorem dX11_does_136 : decode cX11_does 136 = .ok (.invokestatic 195, 3) := by decide +kernel
theorem dX11_does_139 : decode cX11_does 139 = .ok (.iconst 0, 1) := by decide +kernel
theorem dX11_does_140 : decode cX11_does 140 = .ok (.ireturn, 1) := by decide +kernel
theorem dX11_goesBy_0 : decode cX11_goesBy 0 = .ok (.aload_n 0, 1) := by decide +kernel
theorem dX11_goesBy_1 : decode cX11_goesBy 1 = .ok (.getfield 7, 3) := by decide +kernel
theorem dX11_goesBy_4 : decode cX11_goesBy 4 = .ok (.iload_n 1, 1) := by decide +kernel
theorem dX11_goesBy_5 : decode cX11_goesBy 5 = .ok (.iconst 2, 1) := by decide +kernel
theorem dX11_goesBy_6 : decode cX11_goesBy 6 = .ok (.iadd, 1) := by decide +kernel
theorem dX11_goesBy_7 : decode cX11_goesBy 7 = .ok (.iaload, 1) := by decide +kernel
theorem dX11_goesBy_8 : decode cX11_goesBy 8 = .ok (.istore_n 2, 1) := by decide +kernel
theorem dX11_goesBy_9 : decode cX11_goesBy 9 = .ok (.aload_n 0, 1) := by decide +kernel
theorem dX11_goesBy_10 : decode cX11_goesBy 10 = .ok (.getfield 7, 3) := by decide +kernel
theorem dX11_goesBy_13 : decode cX11_goesBy 13 = .ok (.iload_n 1, 1) := by decide +kernel
theorem dX11_goesBy_14 : decode cX11_goesBy 14 = .ok (.iconst 3, 1) := by decide +kernel
theorem dX11_goesBy_15 : decode cX11_goesBy 15 = .ok (.iadd, 1) := by decide +kernel
theorem dX11_goesBy_16 : decode cX11_goesBy 16 = .ok (.iaload, 1) := by decide +kernel
theorem dX11_goesBy_17 : decode cX11_goesBy 17 = .ok (.istore_n 3, 1) := by decide +kernel
theorem dX11_goesBy_18 : decode cX11_goesBy 18 = .ok (.iload_n 2, 1) := by decide +kernel
theorem dX11_goesBy_19 : decode cX11_goesBy 19 = .ok (.aload_n 0, 1) := by decide +kernel
theorem dX11_goesBy_20 : decode cX11_goesBy 20 = .ok (.getfield 407, 3) := by decide +kernel
theorem dX11_goesBy_23 : decode cX11_goesBy 23 = .ok (.if_icmp .ne 35, 3) := by decide +kernel
theorem dX11_goesBy_26 : decode cX11_goesBy 26 = .ok (.aload_n 0, 1) := by decide +kernel
theorem dX11_goesBy_27 : decode cX11_goesBy 27 = .ok (.iload_n 2, 1) := by decide +kernel
theorem dX11_goesBy_28 : decode cX11_goesBy 28 = .ok (.invokevirtual 162, 3) := by decide +kernel
theorem dX11_goesBy_31 : decode cX11_goesBy 31 = .ok (.aload_n 0, 1) := by decide +kernel
theorem dX11_goesBy_32 : decode cX11_goesBy 32 = .ok (.getfield 7, 3) := by decide +kernel
theorem dX11_goesBy_35 : decode cX11_goesBy 35 = .ok (.iload_n 1, 1) := by decide +kernel
theorem dX11_goesBy_36 : decode cX11_goesBy 36 = .ok (.iconst 4, 1) := by decide +kernel
theorem dX11_goesBy_37 : decode cX11_goesBy 37 = .ok (.iadd, 1) := by decide +kernel
theorem dX11_goesBy_38 : decode cX11_goesBy 38 = .ok (.iaload, 1) := by decide +kernel
theorem dX11_goesBy_39 : decode cX11_goesBy 39 = .ok (.if_icmp .ne 19, 3) := by decide +kernel
theorem dX11_goesBy_42 : decode cX11_goesBy 42 = .ok (.aload_n 0, 1) := by decide +kernel
theorem dX11_goesBy_43 : decode cX11_goesBy 43 = .ok (.iload_n 3, 1) := by decide +kernel
theorem dX11_goesBy_44 : decode cX11_goesBy 44 = .ok (.invokevirtual 162, 3) := by decide +kernel
theorem dX11_goesBy_47 : decode cX11_goesBy 47 = .ok (.aload_n 0, 1) := by decide +kernel
theorem dX11_goesBy_48 : decode cX11_goesBy 48 = .ok (.getfield 7, 3) := by decide +kernel
theorem dX11_goesBy_51 : decode cX11_goesBy 51 = .ok (.iload_n 1, 1) := by decide +kernel
theorem dX11_goesBy_52 : decode cX11_goesBy 52 = .ok (.iconst 5, 1) := by decide +kernel
theorem dX11_goesBy_53 : decode cX11_goesBy 53 = .ok (.iadd, 1) := by decide +kernel
theorem dX11_goesBy_54 : decode cX11_goesBy 54 = .ok (.iaload, 1) := by decide +kernel
theorem dX11_goesBy_55 : decode cX11_goesBy 55 = .ok (.if_icmp .eq 6, 3) := by decide +kernel
theorem dX11_goesBy_58 : decode cX11_goesBy 58 = .ok (.bipush (-4), 2) := by decide +kernel
theorem dX11_goesBy_60 : decode cX11_goesBy 60 = .ok (.ireturn, 1) := by decide +kernel
theorem dX11_goesBy_61 : decode cX11_goesBy 61 = .ok (.aload_n 0, 1) := by decide +kernel
theorem dX11_goesBy_62 : decode cX11_goesBy 62 = .ok (.aload_n 0, 1) := by decide +kernel
theorem dX11_goesBy_63 : decode cX11_goesBy 63 = .ok (.getfield 90, 3) := by decide +kernel
theorem dX11_goesBy_66 : decode cX11_goesBy 66 = .ok (.aload_n 0, 1) := by decide +kernel
theorem dX11_goesBy_67 : decode cX11_goesBy 67 = .ok (.getfield 56, 3) := by decide +kernel
theorem dX11_goesBy_70 : decode cX11_goesBy 70 = .ok (.iconst 0, 1) := by decide +kernel
theorem dX11_goesBy_71 : decode cX11_goesBy 71 = .ok (.laload, 1) := by decide +kernel
theorem dX11_goesBy_72 : decode cX11_goesBy 72 = .ok (.aload_n 0, 1) := by decide +kernel
theorem dX11_goesBy_73 : decode cX11_goesBy 73 = .ok (.getfield 56, 3) := by decide +kernel
theorem dX11_goesBy_76 : decode cX11_goesBy 76 = .ok (.iconst 1, 1) := by decide +kernel
theorem dX11_goesBy_77 : decode cX11_goesBy 77 = .ok (.laload, 1) := by decide +kernel
theorem dX11_goesBy_78 : decode cX11_goesBy 78 = .ok (.aload_n 0, 1) := by decide +kernel
theorem dX11_goesBy_79 : decode cX11_goesBy 79 = .ok (.getfield 56, 3) := by decide +kernel
theorem dX11_goesBy_82 : decode cX11_goesBy 82 = .ok (.iconst 2, 1) := by decide +kernel
theorem dX11_goesBy_83 : decode cX11_goesBy 83 = .ok (.laload, 1) := by decide +kernel
theorem dX11_goesBy_84 : decode cX11_goesBy 84 = .ok (.aload_n 0, 1) := by decide +kernel
theorem dX11_goesBy_85 : decode cX11_goesBy 85 = .ok (.iload_n 2, 1) := by decide +kernel
theorem dX11_goesBy_86 : decode cX11_goesBy 86 = .ok (.invokevirtual 162, 3) := by decide +kernel
theorem dX11_goesBy_89 : decode cX11_goesBy 89 = .ok (.invokevirtual 184, 3) := by decide +kernel
theorem dX11_goesBy_92 : decode cX11_goesBy 92 = .ok (.iconst 0, 1) := by decide +kernel
theorem dX11_goesBy_93 : decode cX11_goesBy 93 = .ok (.istore 4, 2) := by decide +kernel
theorem dX11_goesBy_95 : decode cX11_goesBy 95 = .ok (.iload 4, 2) := by decide +kernel
theorem dX11_goesBy_97 : decode cX11_goesBy 97 = .ok (.iconst 3, 1) := by decide +kernel
theorem dX11_goesBy_98 : decode cX11_goesBy 98 = .ok (.if_icmp .ge 92, 3) := by decide +kernel
theorem dX11_goesBy_101 : decode cX11_goesBy 101 = .ok (.aload_n 0, 1) := by decide +kernel
theorem dX11_goesBy_102 : decode cX11_goesBy 102 = .ok (.getfield 56, 3) := by decide +kernel
theorem dX11_goesBy_105 : decode cX11_goesBy 105 = .ok (.iload 4, 2) := by decide +kernel
theorem dX11_goesBy_107 : decode cX11_goesBy 107 = .ok (.iload 4, 2) := by decide +kernel
theorem dX11_goesBy_109 : decode cX11_goesBy 109 = .ok (.aload_n 0, 1) := by decide +kernel
theorem dX11_goesBy_110 : decode cX11_goesBy 110 = .ok (.iload_n 3, 1) := by decide +kernel
theorem dX11_goesBy_111 : decode cX11_goesBy 111 = .ok (.invokevirtual 162, 3) := by decide +kernel
theorem dX11_goesBy_114 : decode cX11_goesBy 114 = .ok (.if_icmp .ge 68, 3) := by decide +kernel
theorem dX11_goesBy_117 : decode cX11_goesBy 117 = .ok (.aload_n 0, 1) := by decide +kernel
theorem dX11_goesBy_118 : decode cX11_goesBy 118 = .ok (.getfield 90, 3) := by decide +kernel
theorem dX11_goesBy_121 : decode cX11_goesBy 121 = .ok (.iconst 0, 1) := by decide +kernel
theorem dX11_goesBy_122 : decode cX11_goesBy 122 = .ok (.laload, 1) := by decide +kernel
theorem dX11_goesBy_123 : decode cX11_goesBy 123 = .ok (.aload_n 0, 1) := by decide +kernel
theorem dX11_goesBy_124 : decode cX11_goesBy 124 = .ok (.getfield 7, 3) := by decide +kernel
theorem dX11_goesBy_127 : decode cX11_goesBy 127 = .ok (.iload_n 1, 1) := by decide +kernel
theorem dX11_goesBy_128 : decode cX11_goesBy 128 = .ok (.bipush 6, 2) := by decide +kernel
theorem dX11_goesBy_130 : decode cX11_goesBy 130 = .ok (.iadd, 1) := by decide +kernel
theorem dX11_goesBy_131 : decode cX11_goesBy 131 = .ok (.iload 4, 2) := by decide +kernel
theorem dX11_goesBy_133 : decode cX11_goesBy 133 = .ok (.iadd, 1) := by decide +kernel
theorem dX11_goesBy_134 : decode cX11_goesBy 134 = .ok (.iaload, 1) := by decide +kernel
theorem dX11_goesBy_135 : decode cX11_goesBy 135 = .ok (.i2l, 1) := by decide +kernel
theorem dX11_goesBy_136 : decode cX11_goesBy 136 = .ok (.lmul, 1) := by decide +kernel
theorem dX11_goesBy_137 : decode cX11_goesBy 137 = .ok (.aload_n 0, 1) := by decide +kernel
theorem dX11_goesBy_138 : decode cX11_goesBy 138 = .ok (.getfield 90, 3) := by decide +kernel
theorem dX11_goesBy_141 : decode cX11_goesBy 141 = .ok (.iconst 1, 1) := by decide +kernel
theorem dX11_goesBy_142 : decode cX11_goesBy 142 = .ok (.laload, 1) := by decide +kernel
theorem dX11_goesBy_143 : decode cX11_goesBy 143 = .ok (.aload_n 0, 1) := by decide +kernel
theorem dX11_goesBy_144 : decode cX11_goesBy 144 = .ok (.getfield 7, 3) := by decide +kernel
theorem dX11_goesBy_147 : decode cX11_goesBy 147 = .ok (.iload_n 1, 1) := by decide +kernel
theorem dX11_goesBy_148 : decode cX11_goesBy 148 = .ok (.bipush 9, 2) := by decide +kernel
theorem dX11_goesBy_150 : decode cX11_goesBy 150 = .ok (.iadd, 1) := by decide +kernel
theorem dX11_goesBy_151 : decode cX11_goesBy 151 = .ok (.iload 4, 2) := by decide +kernel
theorem dX11_goesBy_153 : decode cX11_goesBy 153 = .ok (.iadd, 1) := by decide +kernel
theorem dX11_goesBy_154 : decode cX11_goesBy 154 = .ok (.iaload, 1) := by decide +kernel
theorem dX11_goesBy_155 : decode cX11_goesBy 155 = .ok (.i2l, 1) := by decide +kernel
theorem dX11_goesBy_156 : decode cX11_goesBy 156 = .ok (.lmul, 1) := by decide +kernel
theorem dX11_goesBy_157 : decode cX11_goesBy 157 = .ok (.ladd, 1) := by decide +kernel
theorem dX11_goesBy_158 : decode cX11_goesBy 158 = .ok (.aload_n 0, 1) := by decide +kernel
theorem dX11_goesBy_159 : decode cX11_goesBy 159 = .ok (.getfield 90, 3) := by decide +kernel
theorem dX11_goesBy_162 : decode cX11_goesBy 162 = .ok (.iconst 2, 1) := by decide +kernel
theorem dX11_goesBy_163 : decode cX11_goesBy 163 = .ok (.laload, 1) := by decide +kernel
theorem dX11_goesBy_164 : decode cX11_goesBy 164 = .ok (.aload_n 0, 1) := by decide +kernel
theorem dX11_goesBy_165 : decode cX11_goesBy 165 = .ok (.getfield 7, 3) := by decide +kernel
theorem dX11_goesBy_168 : decode cX11_goesBy 168 = .ok (.iload_n 1, 1) := by decide +kernel
theorem dX11_goesBy_169 : decode cX11_goesBy 169 = .ok (.bipush 12, 2) := by decide +kernel
theorem dX11_goesBy_171 : decode cX11_goesBy 171 = .ok (.iadd, 1) := by decide +kernel
theorem dX11_goesBy_172 : decode cX11_goesBy 172 = .ok (.iload 4, 2) := by decide +kernel
theorem dX11_goesBy_174 : decode cX11_goesBy 174 = .ok (.iadd, 1) := by decide +kernel
theorem dX11_goesBy_175 : decode cX11_goesBy 175 = .ok (.iaload, 1) := by decide +kernel
theorem dX11_goesBy_176 : decode cX11_goesBy 176 = .ok (.i2l, 1) := by decide +kernel
theorem dX11_goesBy_177 : decode cX11_goesBy 177 = .ok (.lmul, 1) := by decide +kernel
theorem dX11_goesBy_178 : decode cX11_goesBy 178 = .ok (.ladd, 1) := by decide +kernel
theorem dX11_goesBy_179 : decode cX11_goesBy 179 = .ok (.goto 4, 3) := by decide +kernel
theorem dX11_goesBy_182 : decode cX11_goesBy 182 = .ok (.lconst 0, 1) := by decide +kernel
theorem dX11_goesBy_183 : decode cX11_goesBy 183 = .ok (.lastore, 1) := by decide +kernel
theorem dX11_goesBy_184 : decode cX11_goesBy 184 = .ok (.iinc 4 1, 3) := by decide +kernel
theorem dX11_goesBy_187 : decode cX11_goesBy 187 = .ok (.goto (-92), 3) := by decide +kernel
theorem dX11_goesBy_190 : decode cX11_goesBy 190 = .ok (.aload_n 0, 1) := by decide +kernel
theorem dX11_goesBy_191 : decode cX11_goesBy 191 = .ok (.iload_n 3, 1) := by decide +kernel
theorem dX11_goesBy_192 : decode cX11_goesBy 192 = .ok (.putfield 407, 3) := by decide +kernel
theorem dX11_goesBy_195 : decode cX11_goesBy 195 = .ok (.iconst 0, 1) := by decide +kernel
theorem dX11_goesBy_196 : decode cX11_goesBy 196 = .ok (.ireturn, 1) := by decide +kernel
theorem dX11_runsAll_0 : decode cX11_runsAll 0 = .ok (.iconst 0, 1) := by decide +kernel
theorem dX11_runsAll_1 : decode cX11_runsAll 1 = .ok (.istore_n 1, 1) := by decide +kernel
theorem dX11_runsAll_2 : decode cX11_runsAll 2 = .ok (.iload_n 1, 1) := by decide +kernel
theorem dX11_runsAll_3 : decode cX11_runsAll 3 = .ok (.aload_n 0, 1) := by decide +kernel
theorem dX11_runsAll_4 : decode cX11_runsAll 4 = .ok (.getfield 7, 3) := by decide +kernel
theorem dX11_runsAll_7 : decode cX11_runsAll 7 = .ok (.sipush 172, 3) := by decide +kernel
theorem dX11_runsAll_10 : decode cX11_runsAll 10 = .ok (.iaload, 1) := by decide +kernel
theorem dX11_runsAll_11 : decode cX11_runsAll 11 = .ok (.if_icmp .ge 85, 3) := by decide +kernel
theorem dX11_runsAll_14 : decode cX11_runsAll 14 = .ok (.aload_n 0, 1) := by decide +kernel
theorem dX11_runsAll_15 : decode cX11_runsAll 15 = .ok (.sipush 173, 3) := by decide +kernel
theorem dX11_runsAll_18 : decode cX11_runsAll 18 = .ok (.bipush 15, 2) := by decide +kernel
theorem dX11_runsAll_20 : decode cX11_runsAll 20 = .ok (.iload_n 1, 1) := by decide +kernel
theorem dX11_runsAll_21 : decode cX11_runsAll 21 = .ok (.imul, 1) := by decide +kernel
theorem dX11_runsAll_22 : decode cX11_runsAll 22 = .ok (.iadd, 1) := by decide +kernel
theorem dX11_runsAll_23 : decode cX11_runsAll 23 = .ok (.invokevirtual 413, 3) := by decide +kernel
theorem dX11_runsAll_26 : decode cX11_runsAll 26 = .ok (.istore_n 2, 1) := by decide +kernel
theorem dX11_runsAll_27 : decode cX11_runsAll 27 = .ok (.iload_n 2, 1) := by decide +kernel
theorem dX11_runsAll_28 : decode cX11_runsAll 28 = .ok (.ifCond .ge 5, 3) := by decide +kernel
theorem dX11_runsAll_31 : decode cX11_runsAll 31 = .ok (.iload_n 2, 1) := by decide +kernel
theorem dX11_runsAll_32 : decode cX11_runsAll 32 = .ok (.ireturn, 1) := by decide +kernel
theorem dX11_runsAll_33 : decode cX11_runsAll 33 = .ok (.aload_n 0, 1) := by decide +kernel
theorem dX11_runsAll_34 : decode cX11_runsAll 34 = .ok (.getfield 56, 3) := by decide +kernel
theorem dX11_runsAll_37 : decode cX11_runsAll 37 = .ok (.iconst 0, 1) := by decide +kernel
theorem dX11_runsAll_38 : decode cX11_runsAll 38 = .ok (.laload, 1) := by decide +kernel
theorem dX11_runsAll_39 : decode cX11_runsAll 39 = .ok (.ldc2_w 371, 3) := by decide +kernel
theorem dX11_runsAll_42 : decode cX11_runsAll 42 = .ok (.ldc2_w 373, 3) := by decide +kernel
theorem dX11_runsAll_45 : decode cX11_runsAll 45 = .ok (.invokestatic 123, 3) := by decide +kernel
theorem dX11_runsAll_48 : decode cX11_runsAll 48 = .ok (.ifCond .eq 39, 3) := by decide +kernel
theorem dX11_runsAll_51 : decode cX11_runsAll 51 = .ok (.aload_n 0, 1) := by decide +kernel
theorem dX11_runsAll_52 : decode cX11_runsAll 52 = .ok (.getfield 56, 3) := by decide +kernel
theorem dX11_runsAll_55 : decode cX11_runsAll 55 = .ok (.iconst 1, 1) := by decide +kernel
theorem dX11_runsAll_56 : decode cX11_runsAll 56 = .ok (.laload, 1) := by decide +kernel
theorem dX11_runsAll_57 : decode cX11_runsAll 57 = .ok (.ldc2_w 371, 3) := by decide +kernel
theorem dX11_runsAll_60 : decode cX11_runsAll 60 = .ok (.ldc2_w 373, 3) := by decide +kernel
theorem dX11_runsAll_63 : decode cX11_runsAll 63 = .ok (.invokestatic 123, 3) := by decide +kernel
theorem dX11_runsAll_66 : decode cX11_runsAll 66 = .ok (.ifCond .eq 21, 3) := by decide +kernel
theorem dX11_runsAll_69 : decode cX11_runsAll 69 = .ok (.aload_n 0, 1) := by decide +kernel
theorem dX11_runsAll_70 : decode cX11_runsAll 70 = .ok (.getfield 56, 3) := by decide +kernel
theorem dX11_runsAll_73 : decode cX11_runsAll 73 = .ok (.iconst 2, 1) := by decide +kernel
theorem dX11_runsAll_74 : decode cX11_runsAll 74 = .ok (.laload, 1) := by decide +kernel
theorem dX11_runsAll_75 : decode cX11_runsAll 75 = .ok (.ldc2_w 371, 3) := by decide +kernel
theorem dX11_runsAll_78 : decode cX11_runsAll 78 = .ok (.ldc2_w 373, 3) := by decide +kernel
theorem dX11_runsAll_81 : decode cX11_runsAll 81 = .ok (.invokestatic 123, 3) := by decide +kernel
theorem dX11_runsAll_84 : decode cX11_runsAll 84 = .ok (.ifCond .ne 6, 3) := by decide +kernel
theorem dX11_runsAll_87 : decode cX11_runsAll 87 = .ok (.bipush (-16), 2) := by decide +kernel
theorem dX11_runsAll_89 : decode cX11_runsAll 89 = .ok (.ireturn, 1) := by decide +kernel
theorem dX11_runsAll_90 : decode cX11_runsAll 90 = .ok (.iinc 1 1, 3) := by decide +kernel
theorem dX11_runsAll_93 : decode cX11_runsAll 93 = .ok (.goto (-91), 3) := by decide +kernel
theorem dX11_runsAll_96 : decode cX11_runsAll 96 = .ok (.iconst 0, 1) := by decide +kernel
theorem dX11_runsAll_97 : decode cX11_runsAll 97 = .ok (.ireturn, 1) := by decide +kernel
theorem dX11_run_0 : decode cX11_run 0 = .ok (.iload_n 1, 1) := by decide +kernel
theorem dX11_run_1 : decode cX11_run 1 = .ok (.invokestatic 207, 3) := by decide +kernel
theorem dX11_run_4 : decode cX11_run 4 = .ok (.ifCond .eq 26, 3) := by decide +kernel
theorem dX11_run_7 : decode cX11_run 7 = .ok (.iload_n 2, 1) := by decide +kernel
theorem dX11_run_8 : decode cX11_run 8 = .ok (.iload_n 3, 1) := by decide +kernel
theorem dX11_run_9 : decode cX11_run 9 = .ok (.iload 4, 2) := by decide +kernel
theorem dX11_run_11 : decode cX11_run 11 = .ok (.invokestatic 267, 3) := by decide +kernel
theorem dX11_run_14 : decode cX11_run 14 = .ok (.ifCond .eq 16, 3) := by decide +kernel
theorem dX11_run_17 : decode cX11_run 17 = .ok (.iload 5, 2) := by decide +kernel
theorem dX11_run_19 : decode cX11_run 19 = .ok (.i2l, 1) := by decide +kernel
theorem dX11_run_20 : decode cX11_run 20 = .ok (.lconst 0, 1) := by decide +kernel
theorem dX11_run_21 : decode cX11_run 21 = .ok (.ldc2_w 211, 3) := by decide +kernel
theorem dX11_run_24 : decode cX11_run 24 = .ok (.invokestatic 123, 3) := by decide +kernel
theorem dX11_run_27 : decode cX11_run 27 = .ok (.ifCond .ne 8, 3) := by decide +kernel
theorem dX11_run_30 : decode cX11_run 30 = .ok (.iconst (-1), 1) := by decide +kernel
theorem dX11_run_31 : decode cX11_run 31 = .ok (.invokestatic 271, 3) := by decide +kernel
theorem dX11_run_34 : decode cX11_run 34 = .ok (.lreturn, 1) := by decide +kernel
theorem dX11_run_35 : decode cX11_run 35 = .ok (.aload_n 0, 1) := by decide +kernel
theorem dX11_run_36 : decode cX11_run 36 = .ok (.aload_n 0, 1) := by decide +kernel
theorem dX11_run_37 : decode cX11_run 37 = .ok (.getfield 56, 3) := by decide +kernel
theorem dX11_run_40 : decode cX11_run 40 = .ok (.iload_n 2, 1) := by decide +kernel
theorem dX11_run_41 : decode cX11_run 41 = .ok (.i2l, 1) := by decide +kernel
theorem dX11_run_42 : decode cX11_run 42 = .ok (.iload_n 3, 1) := by decide +kernel
theorem dX11_run_43 : decode cX11_run 43 = .ok (.i2l, 1) := by decide +kernel
theorem dX11_run_44 : decode cX11_run 44 = .ok (.iload 4, 2) := by decide +kernel
theorem dX11_run_46 : decode cX11_run 46 = .ok (.i2l, 1) := by decide +kernel
theorem dX11_run_47 : decode cX11_run 47 = .ok (.aload_n 0, 1) := by decide +kernel
theorem dX11_run_48 : decode cX11_run 48 = .ok (.iload_n 1, 1) := by decide +kernel
theorem dX11_run_49 : decode cX11_run 49 = .ok (.invokevirtual 162, 3) := by decide +kernel
theorem dX11_run_52 : decode cX11_run 52 = .ok (.invokevirtual 184, 3) := by decide +kernel
theorem dX11_run_55 : decode cX11_run 55 = .ok (.aload_n 0, 1) := by decide +kernel
theorem dX11_run_56 : decode cX11_run 56 = .ok (.iload_n 1, 1) := by decide +kernel
theorem dX11_run_57 : decode cX11_run 57 = .ok (.putfield 407, 3) := by decide +kernel
theorem dX11_run_60 : decode cX11_run 60 = .ok (.aload_n 0, 1) := by decide +kernel
theorem dX11_run_61 : decode cX11_run 61 = .ok (.invokevirtual 416, 3) := by decide +kernel
theorem dX11_run_64 : decode cX11_run 64 = .ok (.istore 6, 2) := by decide +kernel
theorem dX11_run_66 : decode cX11_run 66 = .ok (.iload 6, 2) := by decide +kernel
theorem dX11_run_68 : decode cX11_run 68 = .ok (.ifCond .ge 11, 3) := by decide +kernel
theorem dX11_run_71 : decode cX11_run 71 = .ok (.iload 6, 2) := by decide +kernel
theorem dX11_run_73 : decode cX11_run 73 = .ok (.invokestatic 271, 3) := by decide +kernel
theorem dX11_run_76 : decode cX11_run 76 = .ok (.goto 24, 3) := by decide +kernel
theorem dX11_run_79 : decode cX11_run 79 = .ok (.iload 5, 2) := by decide +kernel
theorem dX11_run_81 : decode cX11_run 81 = .ok (.iconst 3, 1) := by decide +kernel
theorem dX11_run_82 : decode cX11_run 82 = .ok (.if_icmp .ne 11, 3) := by decide +kernel
theorem dX11_run_85 : decode cX11_run 85 = .ok (.aload_n 0, 1) := by decide +kernel
theorem dX11_run_86 : decode cX11_run 86 = .ok (.getfield 407, 3) := by decide +kernel
theorem dX11_run_89 : decode cX11_run 89 = .ok (.i2l, 1) := by decide +kernel
theorem dX11_run_90 : decode cX11_run 90 = .ok (.goto 10, 3) := by decide +kernel
theorem dX11_run_93 : decode cX11_run 93 = .ok (.aload_n 0, 1) := by decide +kernel
theorem dX11_run_94 : decode cX11_run 94 = .ok (.getfield 56, 3) := by decide +kernel
theorem dX11_run_97 : decode cX11_run 97 = .ok (.iload 5, 2) := by decide +kernel
theorem dX11_run_99 : decode cX11_run 99 = .ok (.laload, 1) := by decide +kernel
theorem dX11_run_100 : decode cX11_run 100 = .ok (.lreturn, 1) := by decide +kernel
theorem dX11_isSheet_0 : decode cX11_isSheet 0 = .ok (.iload_n 0, 1) := by decide +kernel
theorem dX11_isSheet_1 : decode cX11_isSheet 1 = .ok (.i2l, 1) := by decide +kernel
theorem dX11_isSheet_2 : decode cX11_isSheet 2 = .ok (.lconst 0, 1) := by decide +kernel
theorem dX11_isSheet_3 : decode cX11_isSheet 3 = .ok (.ldc2_w 211, 3) := by decide +kernel
theorem dX11_isSheet_6 : decode cX11_isSheet 6 = .ok (.invokestatic 123, 3) := by decide +kernel
theorem dX11_isSheet_9 : decode cX11_isSheet 9 = .ok (.ireturn, 1) := by decide +kernel
theorem dX11_sheet_0 : decode cX11_sheet 0 = .ok (.iload_n 1, 1) := by decide +kernel
theorem dX11_sheet_1 : decode cX11_sheet 1 = .ok (.invokestatic 293, 3) := by decide +kernel
theorem dX11_sheet_4 : decode cX11_sheet 4 = .ok (.ifCond .eq 27, 3) := by decide +kernel
theorem dX11_sheet_7 : decode cX11_sheet 7 = .ok (.iload_n 2, 1) := by decide +kernel
theorem dX11_sheet_8 : decode cX11_sheet 8 = .ok (.i2l, 1) := by decide +kernel
theorem dX11_sheet_9 : decode cX11_sheet 9 = .ok (.ldc2_w 156, 3) := by decide +kernel
theorem dX11_sheet_12 : decode cX11_sheet 12 = .ok (.ldc2_w 319, 3) := by decide +kernel
theorem dX11_sheet_15 : decode cX11_sheet 15 = .ok (.invokestatic 123, 3) := by decide +kernel
theorem dX11_sheet_18 : decode cX11_sheet 18 = .ok (.ifCond .eq 13, 3) := by decide +kernel
theorem dX11_sheet_21 : decode cX11_sheet 21 = .ok (.iload_n 2, 1) := by decide +kernel
theorem dX11_sheet_22 : decode cX11_sheet 22 = .ok (.ifCond .lt 11, 3) := by decide +kernel
theorem dX11_sheet_25 : decode cX11_sheet 25 = .ok (.iload_n 3, 1) := by decide +kernel
theorem dX11_sheet_26 : decode cX11_sheet 26 = .ok (.bipush 40, 2) := by decide +kernel
theorem dX11_sheet_28 : decode cX11_sheet 28 = .ok (.if_icmp .le 5, 3) := by decide +kernel
theorem dX11_sheet_31 : decode cX11_sheet 31 = .ok (.iconst (-1), 1) := by decide +kernel
theorem dX11_sheet_32 : decode cX11_sheet 32 = .ok (.ireturn, 1) := by decide +kernel
theorem dX11_sheet_33 : decode cX11_sheet 33 = .ok (.iload_n 2, 1) := by decide +kernel
theorem dX11_sheet_34 : decode cX11_sheet 34 = .ok (.ifCond .lt 10, 3) := by decide +kernel
theorem dX11_sheet_37 : decode cX11_sheet 37 = .ok (.iload_n 3, 1) := by decide +kernel
theorem dX11_sheet_38 : decode cX11_sheet 38 = .ok (.ifCond .ge 6, 3) := by decide +kernel
theorem dX11_sheet_41 : decode cX11_sheet 41 = .ok (.bipush (-14), 2) := by decide +kernel
theorem dX11_sheet_43 : decode cX11_sheet 43 = .ok (.ireturn, 1) := by decide +kernel
theorem dX11_sheet_44 : decode cX11_sheet 44 = .ok (.aload_n 0, 1) := by decide +kernel
theorem dX11_sheet_45 : decode cX11_sheet 45 = .ok (.getfield 93, 3) := by decide +kernel
theorem dX11_sheet_48 : decode cX11_sheet 48 = .ok (.iload_n 1, 1) := by decide +kernel
theorem dX11_sheet_49 : decode cX11_sheet 49 = .ok (.iload_n 2, 1) := by decide +kernel
theorem dX11_sheet_50 : decode cX11_sheet 50 = .ok (.iastore, 1) := by decide +kernel
theorem dX11_sheet_51 : decode cX11_sheet 51 = .ok (.aload_n 0, 1) := by decide +kernel
theorem dX11_sheet_52 : decode cX11_sheet 52 = .ok (.getfield 96, 3) := by decide +kernel
theorem dX11_sheet_55 : decode cX11_sheet 55 = .ok (.iload_n 1, 1) := by decide +kernel
theorem dX11_sheet_56 : decode cX11_sheet 56 = .ok (.iload_n 2, 1) := by decide +kernel
theorem dX11_sheet_57 : decode cX11_sheet 57 = .ok (.ifCond .ge 7, 3) := by decide +kernel
theorem dX11_sheet_60 : decode cX11_sheet 60 = .ok (.iconst 0, 1) := by decide +kernel
theorem dX11_sheet_61 : decode cX11_sheet 61 = .ok (.goto 4, 3) := by decide +kernel
theorem dX11_sheet_64 : decode cX11_sheet 64 = .ok (.iload_n 3, 1) := by decide +kernel
theorem dX11_sheet_65 : decode cX11_sheet 65 = .ok (.iastore, 1) := by decide +kernel
theorem dX11_sheet_66 : decode cX11_sheet 66 = .ok (.iconst 0, 1) := by decide +kernel
theorem dX11_sheet_67 : decode cX11_sheet 67 = .ok (.istore 4, 2) := by decide +kernel
theorem dX11_sheet_69 : decode cX11_sheet 69 = .ok (.iload 4, 2) := by decide +kernel
theorem dX11_sheet_71 : decode cX11_sheet 71 = .ok (.bipush 40, 2) := by decide +kernel
theorem dX11_sheet_73 : decode cX11_sheet 73 = .ok (.if_icmp .ge 22, 3) := by decide +kernel
theorem dX11_sheet_76 : decode cX11_sheet 76 = .ok (.aload_n 0, 1) := by decide +kernel
theorem dX11_sheet_77 : decode cX11_sheet 77 = .ok (.getfield 99, 3) := by decide +kernel
theorem dX11_sheet_80 : decode cX11_sheet 80 = .ok (.bipush 40, 2) := by decide +kernel
theorem dX11_sheet_82 : decode cX11_sheet 82 = .ok (.iload_n 1, 1) := by decide +kernel
theorem dX11_sheet_83 : decode cX11_sheet 83 = .ok (.imul, 1) := by decide +kernel
theorem dX11_sheet_84 : decode cX11_sheet 84 = .ok (.iload 4, 2) := by decide +kernel
theorem dX11_sheet_86 : decode cX11_sheet 86 = .ok (.iadd, 1) := by decide +kernel
theorem dX11_sheet_87 : decode cX11_sheet 87 = .ok (.lconst 0, 1) := by decide +kernel
theorem dX11_sheet_88 : decode cX11_sheet 88 = .ok (.lastore, 1) := by decide +kernel
theorem dX11_sheet_89 : decode cX11_sheet 89 = .ok (.iinc 4 1, 3) := by decide +kernel
theorem dX11_sheet_92 : decode cX11_sheet 92 = .ok (.goto (-23), 3) := by decide +kernel
theorem dX11_sheet_95 : decode cX11_sheet 95 = .ok (.iconst 1, 1) := by decide +kernel
theorem dX11_sheet_96 : decode cX11_sheet 96 = .ok (.ireturn, 1) := by decide +kernel
theorem dX11_put_0 : decode cX11_put 0 = .ok (.iload_n 1, 1) := by decide +kernel
theorem dX11_put_1 : decode cX11_put 1 = .ok (.invokestatic 293, 3) := by decide +kernel
theorem dX11_put_4 : decode cX11_put 4 = .ok (.ifCond .ne 5, 3) := by decide +kernel
theorem dX11_put_7 : decode cX11_put 7 = .ok (.iconst (-1), 1) := by decide +kernel
theorem dX11_put_8 : decode cX11_put 8 = .ok (.ireturn, 1) := by decide +kernel
theorem dX11_put_9 : decode cX11_put 9 = .ok (.aload_n 0, 1) := by decide +kernel
theorem dX11_put_10 : decode cX11_put 10 = .ok (.getfield 93, 3) := by decide +kernel
theorem dX11_put_13 : decode cX11_put 13 = .ok (.iload_n 1, 1) := by decide +kernel
theorem dX11_put_14 : decode cX11_put 14 = .ok (.iaload, 1) := by decide +kernel
theorem dX11_put_15 : decode cX11_put 15 = .ok (.ifCond .ge 6, 3) := by decide +kernel
theorem dX11_put_18 : decode cX11_put 18 = .ok (.bipush (-11), 2) := by decide +kernel
theorem dX11_put_20 : decode cX11_put 20 = .ok (.ireturn, 1) := by decide +kernel
theorem dX11_put_21 : decode cX11_put 21 = .ok (.iload_n 2, 1) := by decide +kernel
theorem dX11_put_22 : decode cX11_put 22 = .ok (.i2l, 1) := by decide +kernel
theorem dX11_put_23 : decode cX11_put 23 = .ok (.lconst 0, 1) := by decide +kernel
theorem dX11_put_24 : decode cX11_put 24 = .ok (.aload_n 0, 1) := by decide +kernel
theorem dX11_put_25 : decode cX11_put 25 = .ok (.getfield 96, 3) := by decide +kernel
theorem dX11_put_28 : decode cX11_put 28 = .ok (.iload_n 1, 1) := by decide +kernel
theorem dX11_put_29 : decode cX11_put 29 = .ok (.iaload, 1) := by decide +kernel
theorem dX11_put_30 : decode cX11_put 30 = .ok (.iconst 1, 1) := by decide +kernel
theorem dX11_put_31 : decode cX11_put 31 = .ok (.isub, 1) := by decide +kernel
theorem dX11_put_32 : decode cX11_put 32 = .ok (.i2l, 1) := by decide +kernel
theorem dX11_put_33 : decode cX11_put 33 = .ok (.invokestatic 123, 3) := by decide +kernel
theorem dX11_put_36 : decode cX11_put 36 = .ok (.ifCond .ne 6, 3) := by decide +kernel
theorem dX11_put_39 : decode cX11_put 39 = .ok (.bipush (-12), 2) := by decide +kernel
theorem dX11_put_41 : decode cX11_put 41 = .ok (.ireturn, 1) := by decide +kernel
theorem dX11_put_42 : decode cX11_put 42 = .ok (.aload_n 0, 1) := by decide +kernel
theorem dX11_put_43 : decode cX11_put 43 = .ok (.getfield 99, 3) := by decide +kernel
theorem dX11_put_46 : decode cX11_put 46 = .ok (.bipush 40, 2) := by decide +kernel
theorem dX11_put_48 : decode cX11_put 48 = .ok (.iload_n 1, 1) := by decide +kernel
theorem dX11_put_49 : decode cX11_put 49 = .ok (.imul, 1) := by decide +kernel
theorem dX11_put_50 : decode cX11_put 50 = .ok (.iload_n 2, 1) := by decide +kernel
theorem dX11_put_51 : decode cX11_put 51 = .ok (.iadd, 1) := by decide +kernel
theorem dX11_put_52 : decode cX11_put 52 = .ok (.aload_n 0, 1) := by decide +kernel
theorem dX11_put_53 : decode cX11_put 53 = .ok (.getfield 93, 3) := by decide +kernel
theorem dX11_put_56 : decode cX11_put 56 = .ok (.iload_n 1, 1) := by decide +kernel
theorem dX11_put_57 : decode cX11_put 57 = .ok (.iaload, 1) := by decide +kernel
theorem dX11_put_58 : decode cX11_put 58 = .ok (.ifCond .ne 10, 3) := by decide +kernel
theorem dX11_put_61 : decode cX11_put 61 = .ok (.lload_n 3, 1) := by decide +kernel
theorem dX11_put_62 : decode cX11_put 62 = .ok (.l2i, 1) := by decide +kernel
theorem dX11_put_63 : decode cX11_put 63 = .ok (.i2b, 1) := by decide +kernel
theorem dX11_put_64 : decode cX11_put 64 = .ok (.i2l, 1) := by decide +kernel
theorem dX11_put_65 : decode cX11_put 65 = .ok (.goto 20, 3) := by decide +kernel
theorem dX11_put_68 : decode cX11_put 68 = .ok (.aload_n 0, 1) := by decide +kernel
theorem dX11_put_69 : decode cX11_put 69 = .ok (.getfield 93, 3) := by decide +kernel
theorem dX11_put_72 : decode cX11_put 72 = .ok (.iload_n 1, 1) := by decide +kernel
theorem dX11_put_73 : decode cX11_put 73 = .ok (.iaload, 1) := by decide +kernel
theorem dX11_put_74 : decode cX11_put 74 = .ok (.iconst 1, 1) := by decide +kernel
theorem dX11_put_75 : decode cX11_put 75 = .ok (.if_icmp .ne 9, 3) := by decide +kernel
theorem dX11_put_78 : decode cX11_put 78 = .ok (.lload_n 3, 1) := by decide +kernel
theorem dX11_put_79 : decode cX11_put 79 = .ok (.l2i, 1) := by decide +kernel
theorem dX11_put_80 : decode cX11_put 80 = .ok (.i2l, 1) := by decide +kernel
theorem dX11_put_81 : decode cX11_put 81 = .ok (.goto 4, 3) := by decide +kernel
theorem dX11_put_84 : decode cX11_put 84 = .ok (.lload_n 3, 1) := by decide +kernel
theorem dX11_put_85 : decode cX11_put 85 = .ok (.lastore, 1) := by decide +kernel
theorem dX11_put_86 : decode cX11_put 86 = .ok (.iconst 1, 1) := by decide +kernel
theorem dX11_put_87 : decode cX11_put 87 = .ok (.ireturn, 1) := by decide +kernel
theorem dX11_item_0 : decode cX11_item 0 = .ok (.iload_n 1, 1) := by decide +kernel
theorem dX11_item_1 : decode cX11_item 1 = .ok (.invokestatic 293, 3) := by decide +kernel
theorem dX11_item_4 : decode cX11_item 4 = .ok (.ifCond .eq 15, 3) := by decide +kernel
theorem dX11_item_7 : decode cX11_item 7 = .ok (.iload_n 2, 1) := by decide +kernel
theorem dX11_item_8 : decode cX11_item 8 = .ok (.i2l, 1) := by decide +kernel
theorem dX11_item_9 : decode cX11_item 9 = .ok (.lconst 0, 1) := by decide +kernel
theorem dX11_item_10 : decode cX11_item 10 = .ok (.ldc2_w 319, 3) := by decide +kernel
theorem dX11_item_13 : decode cX11_item 13 = .ok (.invokestatic 123, 3) := by decide +kernel
theorem dX11_item_16 : decode cX11_item 16 = .ok (.ifCond .ne 5, 3) := by decide +kernel
theorem dX11_item_19 : decode cX11_item 19 = .ok (.iconst (-1), 1) := by decide +kernel
theorem dX11_item_20 : decode cX11_item 20 = .ok (.ireturn, 1) := by decide +kernel
theorem dX11_item_21 : decode cX11_item 21 = .ok (.aload_n 0, 1) := by decide +kernel
theorem dX11_item_22 : decode cX11_item 22 = .ok (.getfield 93, 3) := by decide +kernel
theorem dX11_item_25 : decode cX11_item 25 = .ok (.iload_n 1, 1) := by decide +kernel
theorem dX11_item_26 : decode cX11_item 26 = .ok (.iaload, 1) := by decide +kernel
theorem dX11_item_27 : decode cX11_item 27 = .ok (.iload_n 2, 1) := by decide +kernel
theorem dX11_item_28 : decode cX11_item 28 = .ok (.if_icmp .eq 20, 3) := by decide +kernel
theorem dX11_item_31 : decode cX11_item 31 = .ok (.aload_n 0, 1) := by decide +kernel
theorem dX11_item_32 : decode cX11_item 32 = .ok (.getfield 93, 3) := by decide +kernel
theorem dX11_item_35 : decode cX11_item 35 = .ok (.iload_n 1, 1) := by decide +kernel
theorem dX11_item_36 : decode cX11_item 36 = .ok (.iaload, 1) := by decide +kernel
theorem dX11_item_37 : decode cX11_item 37 = .ok (.ifCond .ge 8, 3) := by decide +kernel
theorem dX11_item_40 : decode cX11_item 40 = .ok (.bipush (-11), 2) := by decide +kernel
theorem dX11_item_42 : decode cX11_item 42 = .ok (.goto 5, 3) := by decide +kernel
theorem dX11_item_45 : decode cX11_item 45 = .ok (.bipush (-13), 2) := by decide +kernel
theorem dX11_item_47 : decode cX11_item 47 = .ok (.ireturn, 1) := by decide +kernel
theorem dX11_item_48 : decode cX11_item 48 = .ok (.iload_n 3, 1) := by decide +kernel
theorem dX11_item_49 : decode cX11_item 49 = .ok (.i2l, 1) := by decide +kernel
theorem dX11_item_50 : decode cX11_item 50 = .ok (.lconst 0, 1) := by decide +kernel
theorem dX11_item_51 : decode cX11_item 51 = .ok (.aload_n 0, 1) := by decide +kernel
theorem dX11_item_52 : decode cX11_item 52 = .ok (.getfield 96, 3) := by decide +kernel
theorem dX11_item_55 : decode cX11_item 55 = .ok (.iload_n 1, 1) := by decide +kernel
theorem dX11_item_56 : decode cX11_item 56 = .ok (.iaload, 1) := by decide +kernel
theorem dX11_item_57 : decode cX11_item 57 = .ok (.iconst 1, 1) := by decide +kernel
theorem dX11_item_58 : decode cX11_item 58 = .ok (.isub, 1) := by decide +kernel
theorem dX11_item_59 : decode cX11_item 59 = .ok (.i2l, 1) := by decide +kernel
theorem dX11_item_60 : decode cX11_item 60 = .ok (.invokestatic 123, 3) := by decide +kernel
theorem dX11_item_63 : decode cX11_item 63 = .ok (.ifCond .eq 18, 3) := by decide +kernel
theorem dX11_item_66 : decode cX11_item 66 = .ok (.aload_n 0, 1) := by decide +kernel
theorem dX11_item_67 : decode cX11_item 67 = .ok (.getfield 99, 3) := by decide +kernel
theorem dX11_item_70 : decode cX11_item 70 = .ok (.bipush 40, 2) := by decide +kernel
theorem dX11_item_72 : decode cX11_item 72 = .ok (.iload_n 1, 1) := by decide +kernel
theorem dX11_item_73 : decode cX11_item 73 = .ok (.imul, 1) := by decide +kernel
theorem dX11_item_74 : decode cX11_item 74 = .ok (.iload_n 3, 1) := by decide +kernel
theorem dX11_item_75 : decode cX11_item 75 = .ok (.iadd, 1) := by decide +kernel
theorem dX11_item_76 : decode cX11_item 76 = .ok (.laload, 1) := by decide +kernel
theorem dX11_item_77 : decode cX11_item 77 = .ok (.l2i, 1) := by decide +kernel
theorem dX11_item_78 : decode cX11_item 78 = .ok (.goto 5, 3) := by decide +kernel
theorem dX11_item_81 : decode cX11_item 81 = .ok (.bipush (-12), 2) := by decide +kernel
theorem dX11_item_83 : decode cX11_item 83 = .ok (.ireturn, 1) := by decide +kernel
theorem dX11_isShelf_0 : decode cX11_isShelf 0 = .ok (.iload_n 0, 1) := by decide +kernel
theorem dX11_isShelf_1 : decode cX11_isShelf 1 = .ok (.i2l, 1) := by decide +kernel
theorem dX11_isShelf_2 : decode cX11_isShelf 2 = .ok (.lconst 0, 1) := by decide +kernel
theorem dX11_isShelf_3 : decode cX11_isShelf 3 = .ok (.ldc2_w 211, 3) := by decide +kernel
theorem dX11_isShelf_6 : decode cX11_isShelf 6 = .ok (.invokestatic 123, 3) := by decide +kernel
theorem dX11_isShelf_9 : decode cX11_isShelf 9 = .ok (.ireturn, 1) := by decide +kernel
theorem dX11_lay_0 : decode cX11_lay 0 = .ok (.iload_n 1, 1) := by decide +kernel
theorem dX11_lay_1 : decode cX11_lay 1 = .ok (.invokestatic 419, 3) := by decide +kernel
theorem dX11_lay_4 : decode cX11_lay 4 = .ok (.ifCond .eq 21, 3) := by decide +kernel
theorem dX11_lay_7 : decode cX11_lay 7 = .ok (.iload_n 2, 1) := by decide +kernel
theorem dX11_lay_8 : decode cX11_lay 8 = .ok (.invokestatic 207, 3) := by decide +kernel
theorem dX11_lay_11 : decode cX11_lay 11 = .ok (.ifCond .eq 14, 3) := by decide +kernel
theorem dX11_lay_14 : decode cX11_lay 14 = .ok (.iload_n 3, 1) := by decide +kernel
theorem dX11_lay_15 : decode cX11_lay 15 = .ok (.iload 4, 2) := by decide +kernel
theorem dX11_lay_17 : decode cX11_lay 17 = .ok (.iload 5, 2) := by decide +kernel
theorem dX11_lay_19 : decode cX11_lay 19 = .ok (.invokestatic 267, 3) := by decide +kernel
theorem dX11_lay_22 : decode cX11_lay 22 = .ok (.ifCond .ne 5, 3) := by decide +kernel
theorem dX11_lay_25 : decode cX11_lay 25 = .ok (.iconst (-1), 1) := by decide +kernel
theorem dX11_lay_26 : decode cX11_lay 26 = .ok (.ireturn, 1) := by decide +kernel
theorem dX11_lay_27 : decode cX11_lay 27 = .ok (.aload_n 0, 1) := by decide +kernel
theorem dX11_lay_28 : decode cX11_lay 28 = .ok (.aload_n 0, 1) := by decide +kernel
theorem dX11_lay_29 : decode cX11_lay 29 = .ok (.getfield 38, 3) := by decide +kernel
theorem dX11_lay_32 : decode cX11_lay 32 = .ok (.iload_n 3, 1) := by decide +kernel
theorem dX11_lay_33 : decode cX11_lay 33 = .ok (.i2l, 1) := by decide +kernel
theorem dX11_lay_34 : decode cX11_lay 34 = .ok (.iload 4, 2) := by decide +kernel
theorem dX11_lay_36 : decode cX11_lay 36 = .ok (.i2l, 1) := by decide +kernel
theorem dX11_lay_37 : decode cX11_lay 37 = .ok (.iload 5, 2) := by decide +kernel
theorem dX11_lay_39 : decode cX11_lay 39 = .ok (.i2l, 1) := by decide +kernel
theorem dX11_lay_40 : decode cX11_lay 40 = .ok (.aload_n 0, 1) := by decide +kernel
theorem dX11_lay_41 : decode cX11_lay 41 = .ok (.iload_n 2, 1) := by decide +kernel
theorem dX11_lay_42 : decode cX11_lay 42 = .ok (.invokevirtual 162, 3) := by decide +kernel
theorem dX11_lay_45 : decode cX11_lay 45 = .ok (.invokevirtual 184, 3) := by decide +kernel
theorem dX11_lay_48 : decode cX11_lay 48 = .ok (.aload_n 0, 1) := by decide +kernel
theorem dX11_lay_49 : decode cX11_lay 49 = .ok (.getfield 102, 3) := by decide +kernel
theorem dX11_lay_52 : decode cX11_lay 52 = .ok (.iload_n 1, 1) := by decide +kernel
theorem dX11_lay_53 : decode cX11_lay 53 = .ok (.iload_n 2, 1) := by decide +kernel
theorem dX11_lay_54 : decode cX11_lay 54 = .ok (.iastore, 1) := by decide +kernel
theorem dX11_lay_55 : decode cX11_lay 55 = .ok (.iconst 0, 1) := by decide +kernel
theorem dX11_lay_56 : decode cX11_lay 56 = .ok (.istore 6, 2) := by decide +kernel
theorem dX11_lay_58 : decode cX11_lay 58 = .ok (.iload 6, 2) := by decide +kernel
theorem dX11_lay_60 : decode cX11_lay 60 = .ok (.iconst 3, 1) := by decide +kernel
theorem dX11_lay_61 : decode cX11_lay 61 = .ok (.if_icmp .ge 27, 3) := by decide +kernel
theorem dX11_lay_64 : decode cX11_lay 64 = .ok (.aload_n 0, 1) := by decide +kernel
theorem dX11_lay_65 : decode cX11_lay 65 = .ok (.getfield 108, 3) := by decide +kernel
theorem dX11_lay_68 : decode cX11_lay 68 = .ok (.iconst 3, 1) := by decide +kernel
theorem dX11_lay_69 : decode cX11_lay 69 = .ok (.iload_n 1, 1) := by decide +kernel
theorem dX11_lay_70 : decode cX11_lay 70 = .ok (.imul, 1) := by decide +kernel
theorem dX11_lay_71 : decode cX11_lay 71 = .ok (.iload 6, 2) := by decide +kernel
theorem dX11_lay_73 : decode cX11_lay 73 = .ok (.iadd, 1) := by decide +kernel
theorem dX11_lay_74 : decode cX11_lay 74 = .ok (.aload_n 0, 1) := by decide +kernel
theorem dX11_lay_75 : decode cX11_lay 75 = .ok (.getfield 38, 3) := by decide +kernel
theorem dX11_lay_78 : decode cX11_lay 78 = .ok (.iload 6, 2) := by decide +kernel
theorem dX11_lay_80 : decode cX11_lay 80 = .ok (.laload, 1) := by decide +kernel
theorem dX11_lay_81 : decode cX11_lay 81 = .ok (.lastore, 1) := by decide +kernel
theorem dX11_lay_82 : decode cX11_lay 82 = .ok (.iinc 6 1, 3) := by decide +kernel
theorem dX11_lay_85 : decode cX11_lay 85 = .ok (.goto (-27), 3) := by decide +kernel
theorem dX11_lay_88 : decode cX11_lay 88 = .ok (.iconst 1, 1) := by decide +kernel
theorem dX11_lay_89 : decode cX11_lay 89 = .ok (.ireturn, 1) := by decide +kernel
theorem dX11_hold_0 : decode cX11_hold 0 = .ok (.iload_n 1, 1) := by decide +kernel
theorem dX11_hold_1 : decode cX11_hold 1 = .ok (.invokestatic 419, 3) := by decide +kernel
theorem dX11_hold_4 : decode cX11_hold 4 = .ok (.ifCond .eq 15, 3) := by decide +kernel
theorem dX11_hold_7 : decode cX11_hold 7 = .ok (.iload_n 2, 1) := by decide +kernel
theorem dX11_hold_8 : decode cX11_hold 8 = .ok (.iconst (-1), 1) := by decide +kernel
theorem dX11_hold_9 : decode cX11_hold 9 = .ok (.if_icmp .eq 12, 3) := by decide +kernel
theorem dX11_hold_12 : decode cX11_hold 12 = .ok (.iload_n 2, 1) := by decide +kernel
theorem dX11_hold_13 : decode cX11_hold 13 = .ok (.invokestatic 293, 3) := by decide +kernel
theorem dX11_hold_16 : decode cX11_hold 16 = .ok (.ifCond .ne 5, 3) := by decide +kernel
theorem dX11_hold_19 : decode cX11_hold 19 = .ok (.iconst (-1), 1) := by decide +kernel
theorem dX11_hold_20 : decode cX11_hold 20 = .ok (.ireturn, 1) := by decide +kernel
theorem dX11_hold_21 : decode cX11_hold 21 = .ok (.iload_n 2, 1) := by decide +kernel
theorem dX11_hold_22 : decode cX11_hold 22 = .ok (.ifCond .lt 16, 3) := by decide +kernel
theorem dX11_hold_25 : decode cX11_hold 25 = .ok (.aload_n 0, 1) := by decide +kernel
theorem dX11_hold_26 : decode cX11_hold 26 = .ok (.getfield 93, 3) := by decide +kernel
theorem dX11_hold_29 : decode cX11_hold 29 = .ok (.iload_n 2, 1) := by decide +kernel
theorem dX11_hold_30 : decode cX11_hold 30 = .ok (.iaload, 1) := by decide +kernel
theorem dX11_hold_31 : decode cX11_hold 31 = .ok (.ifCond .lt 7, 3) := by decide +kernel
theorem dX11_hold_34 : decode cX11_hold 34 = .ok (.iconst 1, 1) := by decide +kernel
theorem dX11_hold_35 : decode cX11_hold 35 = .ok (.goto 4, 3) := by decide +kernel
theorem dX11_hold_38 : decode cX11_hold 38 = .ok (.iconst 0, 1) := by decide +kernel
theorem dX11_hold_39 : decode cX11_hold 39 = .ok (.istore_n 3, 1) := by decide +kernel
theorem dX11_hold_40 : decode cX11_hold 40 = .ok (.aload_n 0, 1) := by decide +kernel
theorem dX11_hold_41 : decode cX11_hold 41 = .ok (.getfield 102, 3) := by decide +kernel
theorem dX11_hold_44 : decode cX11_hold 44 = .ok (.iload_n 1, 1) := by decide +kernel
theorem dX11_hold_45 : decode cX11_hold 45 = .ok (.iload_n 3, 1) := by decide +kernel
theorem dX11_hold_46 : decode cX11_hold 46 = .ok (.ifCond .eq 15, 3) := by decide +kernel
theorem dX11_hold_49 : decode cX11_hold 49 = .ok (.bipush 10, 2) := by decide +kernel
theorem dX11_hold_51 : decode cX11_hold 51 = .ok (.aload_n 0, 1) := by decide +kernel
theorem dX11_hold_52 : decode cX11_hold 52 = .ok (.getfield 93, 3) := by decide +kernel
theorem dX11_hold_55 : decode cX11_hold 55 = .ok (.iload_n 2, 1) := by decide +kernel
theorem dX11_hold_56 : decode cX11_hold 56 = .ok (.iaload, 1) := by decide +kernel
theorem dX11_hold_57 : decode cX11_hold 57 = .ok (.iadd, 1) := by decide +kernel
theorem dX11_hold_58 : decode cX11_hold 58 = .ok (.goto 4, 3) := by decide +kernel
theorem dX11_hold_61 : decode cX11_hold 61 = .ok (.iconst (-1), 1) := by decide +kernel
theorem dX11_hold_62 : decode cX11_hold 62 = .ok (.iastore, 1) := by decide +kernel
theorem dX11_hold_63 : decode cX11_hold 63 = .ok (.aload_n 0, 1) := by decide +kernel
theorem dX11_hold_64 : decode cX11_hold 64 = .ok (.getfield 105, 3) := by decide +kernel
theorem dX11_hold_67 : decode cX11_hold 67 = .ok (.iload_n 1, 1) := by decide +kernel
theorem dX11_hold_68 : decode cX11_hold 68 = .ok (.iload_n 3, 1) := by decide +kernel
theorem dX11_hold_69 : decode cX11_hold 69 = .ok (.ifCond .eq 12, 3) := by decide +kernel
theorem dX11_hold_72 : decode cX11_hold 72 = .ok (.aload_n 0, 1) := by decide +kernel
theorem dX11_hold_73 : decode cX11_hold 73 = .ok (.getfield 96, 3) := by decide +kernel
theorem dX11_hold_76 : decode cX11_hold 76 = .ok (.iload_n 2, 1) := by decide +kernel
theorem dX11_hold_77 : decode cX11_hold 77 = .ok (.iaload, 1) := by decide +kernel
theorem dX11_hold_78 : decode cX11_hold 78 = .ok (.goto 4, 3) := by decide +kernel
theorem dX11_hold_81 : decode cX11_hold 81 = .ok (.iconst 0, 1) := by decide +kernel
theorem dX11_hold_82 : decode cX11_hold 82 = .ok (.iastore, 1) := by decide +kernel
theorem dX11_hold_83 : decode cX11_hold 83 = .ok (.iconst 1, 1) := by decide +kernel
theorem dX11_hold_84 : decode cX11_hold 84 = .ok (.ireturn, 1) := by decide +kernel
theorem dX11_laysDown_0 : decode cX11_laysDown 0 = .ok (.lload_n 2, 1) := by decide +kernel
theorem dX11_laysDown_1 : decode cX11_laysDown 1 = .ok (.ldc2_w 371, 3) := by decide +kernel
theorem dX11_laysDown_4 : decode cX11_laysDown 4 = .ok (.ldc2_w 373, 3) := by decide +kernel
theorem dX11_laysDown_7 : decode cX11_laysDown 7 = .ok (.invokestatic 123, 3) := by decide +kernel
theorem dX11_laysDown_10 : decode cX11_laysDown 10 = .ok (.ifCond .eq 31, 3) := by decide +kernel
theorem dX11_laysDown_13 : decode cX11_laysDown 13 = .ok (.lload 4, 2) := by decide +kernel
theorem dX11_laysDown_15 : decode cX11_laysDown 15 = .ok (.ldc2_w 371, 3) := by decide +kernel
theorem dX11_laysDown_18 : decode cX11_laysDown 18 = .ok (.ldc2_w 373, 3) := by decide +kernel
theorem dX11_laysDown_21 : decode cX11_laysDown 21 = .ok (.invokestatic 123, 3) := by decide +kernel
theorem dX11_laysDown_24 : decode cX11_laysDown 24 = .ok (.ifCond .eq 17, 3) := by decide +kernel
theorem dX11_laysDown_27 : decode cX11_laysDown 27 = .ok (.lload 6, 2) := by decide +kernel
theorem dX11_laysDown_29 : decode cX11_laysDown 29 = .ok (.ldc2_w 371, 3) := by decide +kernel
theorem dX11_laysDown_32 : decode cX11_laysDown 32 = .ok (.ldc2_w 373, 3) := by decide +kernel
theorem dX11_laysDown_35 : decode cX11_laysDown 35 = .ok (.invokestatic 123, 3) := by decide +kernel
theorem dX11_laysDown_38 : decode cX11_laysDown 38 = .ok (.ifCond .ne 6, 3) := by decide +kernel
theorem dX11_laysDown_41 : decode cX11_laysDown 41 = .ok (.bipush (-16), 2) := by decide +kernel
theorem dX11_laysDown_43 : decode cX11_laysDown 43 = .ok (.ireturn, 1) := by decide +kernel
theorem dX11_laysDown_44 : decode cX11_laysDown 44 = .ok (.aload_n 0, 1) := by decide +kernel
theorem dX11_laysDown_45 : decode cX11_laysDown 45 = .ok (.getfield 108, 3) := by decide +kernel
theorem dX11_laysDown_48 : decode cX11_laysDown 48 = .ok (.iconst 3, 1) := by decide +kernel
theorem dX11_laysDown_49 : decode cX11_laysDown 49 = .ok (.iload_n 1, 1) := by decide +kernel
theorem dX11_laysDown_50 : decode cX11_laysDown 50 = .ok (.imul, 1) := by decide +kernel
theorem dX11_laysDown_51 : decode cX11_laysDown 51 = .ok (.lload_n 2, 1) := by decide +kernel
theorem dX11_laysDown_52 : decode cX11_laysDown 52 = .ok (.lastore, 1) := by decide +kernel
theorem dX11_laysDown_53 : decode cX11_laysDown 53 = .ok (.aload_n 0, 1) := by decide +kernel
theorem dX11_laysDown_54 : decode cX11_laysDown 54 = .ok (.getfield 108, 3) := by decide +kernel
theorem dX11_laysDown_57 : decode cX11_laysDown 57 = .ok (.iconst 3, 1) := by decide +kernel
theorem dX11_laysDown_58 : decode cX11_laysDown 58 = .ok (.iload_n 1, 1) := by decide +kernel
theorem dX11_laysDown_59 : decode cX11_laysDown 59 = .ok (.imul, 1) := by decide +kernel
theorem dX11_laysDown_60 : decode cX11_laysDown 60 = .ok (.iconst 1, 1) := by decide +kernel
theorem dX11_laysDown_61 : decode cX11_laysDown 61 = .ok (.iadd, 1) := by decide +kernel
theorem dX11_laysDown_62 : decode cX11_laysDown 62 = .ok (.lload 4, 2) := by decide +kernel
theorem dX11_laysDown_64 : decode cX11_laysDown 64 = .ok (.lastore, 1) := by decide +kernel
theorem dX11_laysDown_65 : decode cX11_laysDown 65 = .ok (.aload_n 0, 1) := by decide +kernel
theorem dX11_laysDown_66 : decode cX11_laysDown 66 = .ok (.getfield 108, 3) := by decide +kernel
theorem dX11_laysDown_69 : decode cX11_laysDown 69 = .ok (.iconst 3, 1) := by decide +kernel
theorem dX11_laysDown_70 : decode cX11_laysDown 70 = .ok (.iload_n 1, 1) := by decide +kernel
theorem dX11_laysDown_71 : decode cX11_laysDown 71 = .ok (.imul, 1) := by decide +kernel
theorem dX11_laysDown_72 : decode cX11_laysDown 72 = .ok (.iconst 2, 1) := by decide +kernel
theorem dX11_laysDown_73 : decode cX11_laysDown 73 = .ok (.iadd, 1) := by decide +kernel
theorem dX11_laysDown_74 : decode cX11_laysDown 74 = .ok (.lload 6, 2) := by decide +kernel
theorem dX11_laysDown_76 : decode cX11_laysDown 76 = .ok (.lastore, 1) := by decide +kernel
theorem dX11_laysDown_77 : decode cX11_laysDown 77 = .ok (.iconst 1, 1) := by decide +kernel
theorem dX11_laysDown_78 : decode cX11_laysDown 78 = .ok (.ireturn, 1) := by decide +kernel
theorem dX11_add_0 : decode cX11_add 0 = .ok (.iload_n 1, 1) := by decide +kernel
theorem dX11_add_1 : decode cX11_add 1 = .ok (.invokestatic 419, 3) := by decide +kernel
theorem dX11_add_4 : decode cX11_add 4 = .ok (.ifCond .eq 10, 3) := by decide +kernel
theorem dX11_add_7 : decode cX11_add 7 = .ok (.iload_n 2, 1) := by decide +kernel
theorem dX11_add_8 : decode cX11_add 8 = .ok (.invokestatic 419, 3) := by decide +kernel
theorem dX11_add_11 : decode cX11_add 11 = .ok (.ifCond .ne 5, 3) := by decide +kernel
theorem dX11_add_14 : decode cX11_add 14 = .ok (.iconst (-1), 1) := by decide +kernel
theorem dX11_add_15 : decode cX11_add 15 = .ok (.ireturn, 1) := by decide +kernel
theorem dX11_add_16 : decode cX11_add 16 = .ok (.aload_n 0, 1) := by decide +kernel
theorem dX11_add_17 : decode cX11_add 17 = .ok (.getfield 102, 3) := by decide +kernel
theorem dX11_add_20 : decode cX11_add 20 = .ok (.iload_n 1, 1) := by decide +kernel
theorem dX11_add_21 : decode cX11_add 21 = .ok (.iaload, 1) := by decide +kernel
theorem dX11_add_22 : decode cX11_add 22 = .ok (.ifCond .lt 12, 3) := by decide +kernel
theorem dX11_add_25 : decode cX11_add 25 = .ok (.aload_n 0, 1) := by decide +kernel
theorem dX11_add_26 : decode cX11_add 26 = .ok (.getfield 102, 3) := by decide +kernel
theorem dX11_add_29 : decode cX11_add 29 = .ok (.iload_n 2, 1) := by decide +kernel
theorem dX11_add_30 : decode cX11_add 30 = .ok (.iaload, 1) := by decide +kernel
theorem dX11_add_31 : decode cX11_add 31 = .ok (.ifCond .ge 6, 3) := by decide +kernel
theorem dX11_add_34 : decode cX11_add 34 = .ok (.bipush (-11), 2) := by decide +kernel
theorem dX11_add_36 : decode cX11_add 36 = .ok (.ireturn, 1) := by decide +kernel
theorem dX11_add_37 : decode cX11_add 37 = .ok (.aload_n 0, 1) := by decide +kernel
theorem dX11_add_38 : decode cX11_add 38 = .ok (.getfield 102, 3) := by decide +kernel
theorem dX11_add_41 : decode cX11_add 41 = .ok (.iload_n 1, 1) := by decide +kernel
theorem dX11_add_42 : decode cX11_add 42 = .ok (.iaload, 1) := by decide +kernel
theorem dX11_add_43 : decode cX11_add 43 = .ok (.bipush 10, 2) := by decide +kernel
theorem dX11_add_45 : decode cX11_add 45 = .ok (.if_icmp .ge 18, 3) := by decide +kernel
theorem dX11_add_48 : decode cX11_add 48 = .ok (.aload_n 0, 1) := by decide +kernel
theorem dX11_add_49 : decode cX11_add 49 = .ok (.getfield 102, 3) := by decide +kernel
theorem dX11_add_52 : decode cX11_add 52 = .ok (.iload_n 1, 1) := by decide +kernel
theorem dX11_add_53 : decode cX11_add 53 = .ok (.iaload, 1) := by decide +kernel
theorem dX11_add_54 : decode cX11_add 54 = .ok (.aload_n 0, 1) := by decide +kernel
theorem dX11_add_55 : decode cX11_add 55 = .ok (.getfield 102, 3) := by decide +kernel
theorem dX11_add_58 : decode cX11_add 58 = .ok (.iload_n 2, 1) := by decide +kernel
theorem dX11_add_59 : decode cX11_add 59 = .ok (.iaload, 1) := by decide +kernel
theorem dX11_add_60 : decode cX11_add 60 = .ok (.if_icmp .eq 6, 3) := by decide +kernel
theorem dX11_add_63 : decode cX11_add 63 = .ok (.bipush (-13), 2) := by decide +kernel
theorem dX11_add_65 : decode cX11_add 65 = .ok (.ireturn, 1) := by decide +kernel
theorem dX11_add_66 : decode cX11_add 66 = .ok (.iconst 3, 1) := by decide +kernel
theorem dX11_add_67 : decode cX11_add 67 = .ok (.iload_n 1, 1) := by decide +kernel
theorem dX11_add_68 : decode cX11_add 68 = .ok (.imul, 1) := by decide +kernel
theorem dX11_add_69 : decode cX11_add 69 = .ok (.istore_n 3, 1) := by decide +kernel
theorem dX11_add_70 : decode cX11_add 70 = .ok (.iconst 3, 1) := by decide +kernel
theorem dX11_add_71 : decode cX11_add 71 = .ok (.iload_n 2, 1) := by decide +kernel
theorem dX11_add_72 : decode cX11_add 72 = .ok (.imul, 1) := by decide +kernel
theorem dX11_add_73 : decode cX11_add 73 = .ok (.istore 4, 2) := by decide +kernel
theorem dX11_add_75 : decode cX11_add 75 = .ok (.aload_n 0, 1) := by decide +kernel
theorem dX11_add_76 : decode cX11_add 76 = .ok (.iload_n 1, 1) := by decide +kernel
theorem dX11_add_77 : decode cX11_add 77 = .ok (.aload_n 0, 1) := by decide +kernel
theorem dX11_add_78 : decode cX11_add 78 = .ok (.getfield 108, 3) := by decide +kernel
theorem dX11_add_81 : decode cX11_add 81 = .ok (.iload_n 3, 1) := by decide +kernel
theorem dX11_add_82 : decode cX11_add 82 = .ok (.laload, 1) := by decide +kernel
theorem dX11_add_83 : decode cX11_add 83 = .ok (.aload_n 0, 1) := by decide +kernel
theorem dX11_add_84 : decode cX11_add 84 = .ok (.getfield 108, 3) := by decide +kernel
theorem dX11_add_87 : decode cX11_add 87 = .ok (.iload 4, 2) := by decide +kernel
theorem dX11_add_89 : decode cX11_add 89 = .ok (.laload, 1) := by decide +kernel
theorem dX11_add_90 : decode cX11_add 90 = .ok (.ladd, 1) := by decide +kernel
theorem dX11_add_91 : decode cX11_add 91 = .ok (.aload_n 0, 1) := by decide +kernel
theorem dX11_add_92 : decode cX11_add 92 = .ok (.getfield 108, 3) := by decide +kernel
theorem dX11_add_95 : decode cX11_add 95 = .ok (.iload_n 3, 1) := by decide +kernel
theorem dX11_add_96 : decode cX11_add 96 = .ok (.iconst 1, 1) := by decide +kernel
theorem dX11_add_97 : decode cX11_add 97 = .ok (.iadd, 1) := by decide +kernel
theorem dX11_add_98 : decode cX11_add 98 = .ok (.laload, 1) := by decide +kernel
theorem dX11_add_99 : decode cX11_add 99 = .ok (.aload_n 0, 1) := by decide +kernel
theorem dX11_add_100 : decode cX11_add 100 = .ok (.getfield 108, 3) := by decide +kernel
theorem dX11_add_103 : decode cX11_add 103 = .ok (.iload 4, 2) := by decide +kernel
theorem dX11_add_105 : decode cX11_add 105 = .ok (.iconst 1, 1) := by decide +kernel
theorem dX11_add_106 : decode cX11_add 106 = .ok (.iadd, 1) := by decide +kernel
theorem dX11_add_107 : decode cX11_add 107 = .ok (.laload, 1) := by decide +kernel
theorem dX11_add_108 : decode cX11_add 108 = .ok (.ladd, 1) := by decide +kernel
theorem dX11_add_109 : decode cX11_add 109 = .ok (.aload_n 0, 1) := by decide +kernel
theorem dX11_add_110 : decode cX11_add 110 = .ok (.getfield 108, 3) := by decide +kernel
theorem dX11_add_113 : decode cX11_add 113 = .ok (.iload_n 3, 1) := by decide +kernel
theorem dX11_add_114 : decode cX11_add 114 = .ok (.iconst 2, 1) := by decide +kernel
theorem dX11_add_115 : decode cX11_add 115 = .ok (.iadd, 1) := by decide +kernel
theorem dX11_add_116 : decode cX11_add 116 = .ok (.laload, 1) := by decide +kernel
theorem dX11_add_117 : decode cX11_add 117 = .ok (.aload_n 0, 1) := by decide +kernel
theorem dX11_add_118 : decode cX11_add 118 = .ok (.getfield 108, 3) := by decide +kernel
theorem dX11_add_121 : decode cX11_add 121 = .ok (.iload 4, 2) := by decide +kernel
theorem dX11_add_123 : decode cX11_add 123 = .ok (.iconst 2, 1) := by decide +kernel
theorem dX11_add_124 : decode cX11_add 124 = .ok (.iadd, 1) := by decide +kernel
theorem dX11_add_125 : decode cX11_add 125 = .ok (.laload, 1) := by decide +kernel
theorem dX11_add_126 : decode cX11_add 126 = .ok (.ladd, 1) := by decide +kernel
theorem dX11_add_127 : decode cX11_add 127 = .ok (.invokevirtual 422, 3) := by decide +kernel
theorem dX11_add_130 : decode cX11_add 130 = .ok (.ireturn, 1) := by decide +kernel
theorem dX11_rest_0 : decode cX11_rest 0 = .ok (.iload_n 1, 1) := by decide +kernel
theorem dX11_rest_1 : decode cX11_rest 1 = .ok (.invokestatic 419, 3) := by decide +kernel
theorem dX11_rest_4 : decode cX11_rest 4 = .ok (.ifCond .ne 5, 3) := by decide +kernel
theorem dX11_rest_7 : decode cX11_rest 7 = .ok (.iconst (-1), 1) := by decide +kernel
theorem dX11_rest_8 : decode cX11_rest 8 = .ok (.ireturn, 1) := by decide +kernel
theorem dX11_rest_9 : decode cX11_rest 9 = .ok (.aload_n 0, 1) := by decide +kernel
theorem dX11_rest_10 : decode cX11_rest 10 = .ok (.getfield 102, 3) := by decide +kernel
theorem dX11_rest_13 : decode cX11_rest 13 = .ok (.iload_n 1, 1) := by decide +kernel
theorem dX11_rest_14 : decode cX11_rest 14 = .ok (.iaload, 1) := by decide +kernel
theorem dX11_rest_15 : decode cX11_rest 15 = .ok (.ifCond .lt 14, 3) := by decide +kernel
theorem dX11_rest_18 : decode cX11_rest 18 = .ok (.aload_n 0, 1) := by decide +kernel
theorem dX11_rest_19 : decode cX11_rest 19 = .ok (.getfield 102, 3) := by decide +kernel
theorem dX11_rest_22 : decode cX11_rest 22 = .ok (.iload_n 1, 1) := by decide +kernel
theorem dX11_rest_23 : decode cX11_rest 23 = .ok (.iaload, 1) := by decide +kernel
theorem dX11_rest_24 : decode cX11_rest 24 = .ok (.bipush 10, 2) := by decide +kernel
theorem dX11_rest_26 : decode cX11_rest 26 = .ok (.if_icmp .lt 20, 3) := by decide +kernel
theorem dX11_rest_29 : decode cX11_rest 29 = .ok (.aload_n 0, 1) := by decide +kernel
theorem dX11_rest_30 : decode cX11_rest 30 = .ok (.getfield 102, 3) := by decide +kernel
theorem dX11_rest_33 : decode cX11_rest 33 = .ok (.iload_n 1, 1) := by decide +kernel
theorem dX11_rest_34 : decode cX11_rest 34 = .ok (.iaload, 1) := by decide +kernel
theorem dX11_rest_35 : decode cX11_rest 35 = .ok (.ifCond .ge 8, 3) := by decide +kernel
theorem dX11_rest_38 : decode cX11_rest 38 = .ok (.bipush (-11), 2) := by decide +kernel
theorem dX11_rest_40 : decode cX11_rest 40 = .ok (.goto 5, 3) := by decide +kernel
theorem dX11_rest_43 : decode cX11_rest 43 = .ok (.bipush (-13), 2) := by decide +kernel
theorem dX11_rest_45 : decode cX11_rest 45 = .ok (.ireturn, 1) := by decide +kernel
theorem dX11_rest_46 : decode cX11_rest 46 = .ok (.aload_n 0, 1) := by decide +kernel
theorem dX11_rest_47 : decode cX11_rest 47 = .ok (.getfield 102, 3) := by decide +kernel
theorem dX11_rest_50 : decode cX11_rest 50 = .ok (.iload_n 1, 1) := by decide +kernel
theorem dX11_rest_51 : decode cX11_rest 51 = .ok (.iaload, 1) := by decide +kernel
theorem dX11_rest_52 : decode cX11_rest 52 = .ok (.istore_n 2, 1) := by decide +kernel
theorem dX11_rest_53 : decode cX11_rest 53 = .ok (.aload_n 0, 1) := by decide +kernel
theorem dX11_rest_54 : decode cX11_rest 54 = .ok (.iload_n 2, 1) := by decide +kernel
theorem dX11_rest_55 : decode cX11_rest 55 = .ok (.invokevirtual 162, 3) := by decide +kernel
theorem dX11_rest_58 : decode cX11_rest 58 = .ok (.istore_n 3, 1) := by decide +kernel
theorem dX11_rest_59 : decode cX11_rest 59 = .ok (.aload_n 0, 1) := by decide +kernel
theorem dX11_rest_60 : decode cX11_rest 60 = .ok (.iload_n 2, 1) := by decide +kernel
theorem dX11_rest_61 : decode cX11_rest 61 = .ok (.aload_n 0, 1) := by decide +kernel
theorem dX11_rest_62 : decode cX11_rest 62 = .ok (.getfield 23, 3) := by decide +kernel
theorem dX11_rest_65 : decode cX11_rest 65 = .ok (.invokevirtual 188, 3) := by decide +kernel
theorem dX11_rest_68 : decode cX11_rest 68 = .ok (.aload_n 0, 1) := by decide +kernel
theorem dX11_rest_69 : decode cX11_rest 69 = .ok (.aload_n 0, 1) := by decide +kernel
theorem dX11_rest_70 : decode cX11_rest 70 = .ok (.getfield 56, 3) := by decide +kernel
theorem dX11_rest_73 : decode cX11_rest 73 = .ok (.aload_n 0, 1) := by decide +kernel
theorem dX11_rest_74 : decode cX11_rest 74 = .ok (.getfield 108, 3) := by decide +kernel
theorem dX11_rest_77 : decode cX11_rest 77 = .ok (.iconst 3, 1) := by decide +kernel
theorem dX11_rest_78 : decode cX11_rest 78 = .ok (.iload_n 1, 1) := by decide +kernel
theorem dX11_rest_79 : decode cX11_rest 79 = .ok (.imul, 1) := by decide +kernel
theorem dX11_rest_80 : decode cX11_rest 80 = .ok (.laload, 1) := by decide +kernel
theorem dX11_rest_81 : decode cX11_rest 81 = .ok (.aload_n 0, 1) := by decide +kernel
theorem dX11_rest_82 : decode cX11_rest 82 = .ok (.getfield 108, 3) := by decide +kernel
theorem dX11_rest_85 : decode cX11_rest 85 = .ok (.iconst 3, 1) := by decide +kernel
theorem dX11_rest_86 : decode cX11_rest 86 = .ok (.iload_n 1, 1) := by decide +kernel
theorem dX11_rest_87 : decode cX11_rest 87 = .ok (.imul, 1) := by decide +kernel
theorem dX11_rest_88 : decode cX11_rest 88 = .ok (.iconst 1, 1) := by decide +kernel
theorem dX11_rest_89 : decode cX11_rest 89 = .ok (.iadd, 1) := by decide +kernel
theorem dX11_rest_90 : decode cX11_rest 90 = .ok (.laload, 1) := by decide +kernel
theorem dX11_rest_91 : decode cX11_rest 91 = .ok (.aload_n 0, 1) := by decide +kernel
theorem dX11_rest_92 : decode cX11_rest 92 = .ok (.getfield 108, 3) := by decide +kernel
theorem dX11_rest_95 : decode cX11_rest 95 = .ok (.iconst 3, 1) := by decide +kernel
theorem dX11_rest_96 : decode cX11_rest 96 = .ok (.iload_n 1, 1) := by decide +kernel
theorem dX11_rest_97 : decode cX11_rest 97 = .ok (.imul, 1) := by decide +kernel
theorem dX11_rest_98 : decode cX11_rest 98 = .ok (.iconst 2, 1) := by decide +kernel
theorem dX11_rest_99 : decode cX11_rest 99 = .ok (.iadd, 1) := by decide +kernel
theorem dX11_rest_100 : decode cX11_rest 100 = .ok (.laload, 1) := by decide +kernel
theorem dX11_rest_101 : decode cX11_rest 101 = .ok (.iload_n 3, 1) := by decide +kernel
theorem dX11_rest_102 : decode cX11_rest 102 = .ok (.invokevirtual 184, 3) := by decide +kernel
theorem dX11_rest_105 : decode cX11_rest 105 = .ok (.aload_n 0, 1) := by decide +kernel
theorem dX11_rest_106 : decode cX11_rest 106 = .ok (.getfield 56, 3) := by decide +kernel
theorem dX11_rest_109 : decode cX11_rest 109 = .ok (.aload_n 0, 1) := by decide +kernel
theorem dX11_rest_110 : decode cX11_rest 110 = .ok (.getfield 23, 3) := by decide +kernel
theorem dX11_rest_113 : decode cX11_rest 113 = .ok (.iconst 0, 1) := by decide +kernel
theorem dX11_rest_114 : decode cX11_rest 114 = .ok (.iload_n 3, 1) := by decide +kernel
theorem dX11_rest_115 : decode cX11_rest 115 = .ok (.invokestatic 195, 3) := by decide +kernel
theorem dX11_rest_118 : decode cX11_rest 118 = .ok (.aload_n 0, 1) := by decide +kernel
theorem dX11_rest_119 : decode cX11_rest 119 = .ok (.iload_n 1, 1) := by decide +kernel
theorem dX11_rest_120 : decode cX11_rest 120 = .ok (.iload_n 3, 1) := by decide +kernel
theorem dX11_rest_121 : decode cX11_rest 121 = .ok (.ifCond .le 12, 3) := by decide +kernel
theorem dX11_rest_124 : decode cX11_rest 124 = .ok (.aload_n 0, 1) := by decide +kernel
theorem dX11_rest_125 : decode cX11_rest 125 = .ok (.getfield 56, 3) := by decide +kernel
theorem dX11_rest_128 : decode cX11_rest 128 = .ok (.iconst 0, 1) := by decide +kernel
theorem dX11_rest_129 : decode cX11_rest 129 = .ok (.laload, 1) := by decide +kernel
theorem dX11_rest_130 : decode cX11_rest 130 = .ok (.goto 11, 3) := by decide +kernel
theorem dX11_rest_133 : decode cX11_rest 133 = .ok (.aload_n 0, 1) := by decide +kernel
theorem dX11_rest_134 : decode cX11_rest 134 = .ok (.getfield 108, 3) := by decide +kernel
theorem dX11_rest_137 : decode cX11_rest 137 = .ok (.iconst 3, 1) := by decide +kernel
theorem dX11_rest_138 : decode cX11_rest 138 = .ok (.iload_n 1, 1) := by decide +kernel
theorem dX11_rest_139 : decode cX11_rest 139 = .ok (.imul, 1) := by decide +kernel
theorem dX11_rest_140 : decode cX11_rest 140 = .ok (.laload, 1) := by decide +kernel
theorem dX11_rest_141 : decode cX11_rest 141 = .ok (.iload_n 3, 1) := by decide +kernel
theorem dX11_rest_142 : decode cX11_rest 142 = .ok (.iconst 1, 1) := by decide +kernel
theorem dX11_rest_143 : decode cX11_rest 143 = .ok (.if_icmp .le 12, 3) := by decide +kernel
theorem dX11_rest_146 : decode cX11_rest 146 = .ok (.aload_n 0, 1) := by decide +kernel
theorem dX11_rest_147 : decode cX11_rest 147 = .ok (.getfield 56, 3) := by decide +kernel
theorem dX11_rest_150 : decode cX11_rest 150 = .ok (.iconst 1, 1) := by decide +kernel
theorem dX11_rest_151 : decode cX11_rest 151 = .ok (.laload, 1) := by decide +kernel
theorem dX11_rest_152 : decode cX11_rest 152 = .ok (.goto 13, 3) := by decide +kernel
theorem dX11_rest_155 : decode cX11_rest 155 = .ok (.aload_n 0, 1) := by decide +kernel
theorem dX11_rest_156 : decode cX11_rest 156 = .ok (.getfield 108, 3) := by decide +kernel
theorem dX11_rest_159 : decode cX11_rest 159 = .ok (.iconst 3, 1) := by decide +kernel
theorem dX11_rest_160 : decode cX11_rest 160 = .ok (.iload_n 1, 1) := by decide +kernel
theorem dX11_rest_161 : decode cX11_rest 161 = .ok (.imul, 1) := by decide +kernel
theorem dX11_rest_162 : decode cX11_rest 162 = .ok (.iconst 1, 1) := by decide +kernel
theorem dX11_rest_163 : decode cX11_rest 163 = .ok (.iadd, 1) := by decide +kernel
theorem dX11_rest_164 : decode cX11_rest 164 = .ok (.laload, 1) := by decide +kernel
theorem dX11_rest_165 : decode cX11_rest 165 = .ok (.iload_n 3, 1) := by decide +kernel
theorem dX11_rest_166 : decode cX11_rest 166 = .ok (.iconst 2, 1) := by decide +kernel
theorem dX11_rest_167 : decode cX11_rest 167 = .ok (.if_icmp .le 12, 3) := by decide +kernel
theorem dX11_rest_170 : decode cX11_rest 170 = .ok (.aload_n 0, 1) := by decide +kernel
theorem dX11_rest_171 : decode cX11_rest 171 = .ok (.getfield 56, 3) := by decide +kernel
theorem dX11_rest_174 : decode cX11_rest 174 = .ok (.iconst 2, 1) := by decide +kernel
theorem dX11_rest_175 : decode cX11_rest 175 = .ok (.laload, 1) := by decide +kernel
theorem dX11_rest_176 : decode cX11_rest 176 = .ok (.goto 13, 3) := by decide +kernel
theorem dX11_rest_179 : decode cX11_rest 179 = .ok (.aload_n 0, 1) := by decide +kernel
theorem dX11_rest_180 : decode cX11_rest 180 = .ok (.getfield 108, 3) := by decide +kernel
theorem dX11_rest_183 : decode cX11_rest 183 = .ok (.iconst 3, 1) := by decide +kernel
theorem dX11_rest_184 : decode cX11_rest 184 = .ok (.iload_n 1, 1) := by decide +kernel
theorem dX11_rest_185 : decode cX11_rest 185 = .ok (.imul, 1) := by decide +kernel
theorem dX11_rest_186 : decode cX11_rest 186 = .ok (.iconst 2, 1) := by decide +kernel
theorem dX11_rest_187 : decode cX11_rest 187 = .ok (.iadd, 1) := by decide +kernel
theorem dX11_rest_188 : decode cX11_rest 188 = .ok (.laload, 1) := by decide +kernel
theorem dX11_rest_189 : decode cX11_rest 189 = .ok (.invokevirtual 422, 3) := by decide +kernel
theorem dX11_rest_192 : decode cX11_rest 192 = .ok (.ireturn, 1) := by decide +kernel
theorem dX11_lies_0 : decode cX11_lies 0 = .ok (.iload_n 1, 1) := by decide +kernel
theorem dX11_lies_1 : decode cX11_lies 1 = .ok (.invokestatic 419, 3) := by decide +kernel
theorem dX11_lies_4 : decode cX11_lies 4 = .ok (.ifCond .eq 15, 3) := by decide +kernel
theorem dX11_lies_7 : decode cX11_lies 7 = .ok (.iload_n 2, 1) := by decide +kernel
theorem dX11_lies_8 : decode cX11_lies 8 = .ok (.i2l, 1) := by decide +kernel
theorem dX11_lies_9 : decode cX11_lies 9 = .ok (.lconst 0, 1) := by decide +kernel
theorem dX11_lies_10 : decode cX11_lies 10 = .ok (.ldc2_w 211, 3) := by decide +kernel
theorem dX11_lies_13 : decode cX11_lies 13 = .ok (.invokestatic 123, 3) := by decide +kernel
theorem dX11_lies_16 : decode cX11_lies 16 = .ok (.ifCond .ne 8, 3) := by decide +kernel
theorem dX11_lies_19 : decode cX11_lies 19 = .ok (.iconst (-1), 1) := by decide +kernel
theorem dX11_lies_20 : decode cX11_lies 20 = .ok (.invokestatic 271, 3) := by decide +kernel
theorem dX11_lies_23 : decode cX11_lies 23 = .ok (.lreturn, 1) := by decide +kernel
theorem dX11_lies_24 : decode cX11_lies 24 = .ok (.aload_n 0, 1) := by decide +kernel
theorem dX11_lies_25 : decode cX11_lies 25 = .ok (.getfield 102, 3) := by decide +kernel
theorem dX11_lies_28 : decode cX11_lies 28 = .ok (.iload_n 1, 1) := by decide +kernel
theorem dX11_lies_29 : decode cX11_lies 29 = .ok (.iaload, 1) := by decide +kernel
theorem dX11_lies_30 : decode cX11_lies 30 = .ok (.ifCond .lt 14, 3) := by decide +kernel
theorem dX11_lies_33 : decode cX11_lies 33 = .ok (.aload_n 0, 1) := by decide +kernel
theorem dX11_lies_34 : decode cX11_lies 34 = .ok (.getfield 102, 3) := by decide +kernel
theorem dX11_lies_37 : decode cX11_lies 37 = .ok (.iload_n 1, 1) := by decide +kernel
theorem dX11_lies_38 : decode cX11_lies 38 = .ok (.iaload, 1) := by decide +kernel
theorem dX11_lies_39 : decode cX11_lies 39 = .ok (.bipush 10, 2) := by decide +kernel
theorem dX11_lies_41 : decode cX11_lies 41 = .ok (.if_icmp .lt 23, 3) := by decide +kernel
theorem dX11_lies_44 : decode cX11_lies 44 = .ok (.aload_n 0, 1) := by decide +kernel
theorem dX11_lies_45 : decode cX11_lies 45 = .ok (.getfield 102, 3) := by decide +kernel
theorem dX11_lies_48 : decode cX11_lies 48 = .ok (.iload_n 1, 1) := by decide +kernel
theorem dX11_lies_49 : decode cX11_lies 49 = .ok (.iaload, 1) := by decide +kernel
theorem dX11_lies_50 : decode cX11_lies 50 = .ok (.ifCond .ge 8, 3) := by decide +kernel
theorem dX11_lies_53 : decode cX11_lies 53 = .ok (.bipush (-11), 2) := by decide +kernel
theorem dX11_lies_55 : decode cX11_lies 55 = .ok (.goto 5, 3) := by decide +kernel
theorem dX11_lies_58 : decode cX11_lies 58 = .ok (.bipush (-13), 2) := by decide +kernel
theorem dX11_lies_60 : decode cX11_lies 60 = .ok (.invokestatic 271, 3) := by decide +kernel
theorem dX11_lies_63 : decode cX11_lies 63 = .ok (.lreturn, 1) := by decide +kernel
theorem dX11_lies_64 : decode cX11_lies 64 = .ok (.iload_n 2, 1) := by decide +kernel
theorem dX11_lies_65 : decode cX11_lies 65 = .ok (.iconst 3, 1) := by decide +kernel
theorem dX11_lies_66 : decode cX11_lies 66 = .ok (.if_icmp .ne 13, 3) := by decide +kernel
theorem dX11_lies_69 : decode cX11_lies 69 = .ok (.aload_n 0, 1) := by decide +kernel
theorem dX11_lies_70 : decode cX11_lies 70 = .ok (.getfield 102, 3) := by decide +kernel
theorem dX11_lies_73 : decode cX11_lies 73 = .ok (.iload_n 1, 1) := by decide +kernel
theorem dX11_lies_74 : decode cX11_lies 74 = .ok (.iaload, 1) := by decide +kernel
theorem dX11_lies_75 : decode cX11_lies 75 = .ok (.i2l, 1) := by decide +kernel
theorem dX11_lies_76 : decode cX11_lies 76 = .ok (.goto 13, 3) := by decide +kernel
theorem dX11_lies_79 : decode cX11_lies 79 = .ok (.aload_n 0, 1) := by decide +kernel
theorem dX11_lies_80 : decode cX11_lies 80 = .ok (.getfield 108, 3) := by decide +kernel
theorem dX11_lies_83 : decode cX11_lies 83 = .ok (.iconst 3, 1) := by decide +kernel
theorem dX11_lies_84 : decode cX11_lies 84 = .ok (.iload_n 1, 1) := by decide +kernel
theorem dX11_lies_85 : decode cX11_lies 85 = .ok (.imul, 1) := by decide +kernel
theorem dX11_lies_86 : decode cX11_lies 86 = .ok (.iload_n 2, 1) := by decide +kernel
theorem dX11_lies_87 : decode cX11_lies 87 = .ok (.iadd, 1) := by decide +kernel
theorem dX11_lies_88 : decode cX11_lies 88 = .ok (.laload, 1) := by decide +kernel
theorem dX11_lies_89 : decode cX11_lies 89 = .ok (.lreturn, 1) := by decide +kernel
theorem dX11_taken_0 : decode cX11_taken 0 = .ok (.iload_n 1, 1) := by decide +kernel
theorem dX11_taken_1 : decode cX11_taken 1 = .ok (.invokestatic 419, 3) := by decide +kernel
theorem dX11_taken_4 : decode cX11_taken 4 = .ok (.ifCond .eq 24, 3) := by decide +kernel
theorem dX11_taken_7 : decode cX11_taken 7 = .ok (.iload_n 2, 1) := by decide +kernel
theorem dX11_taken_8 : decode cX11_taken 8 = .ok (.invokestatic 207, 3) := by decide +kernel
theorem dX11_taken_11 : decode cX11_taken 11 = .ok (.ifCond .ne 19, 3) := by decide +kernel
theorem dX11_taken_14 : decode cX11_taken 14 = .ok (.iload_n 2, 1) := by decide +kernel
theorem dX11_taken_15 : decode cX11_taken 15 = .ok (.i2l, 1) := by decide +kernel
theorem dX11_taken_16 : decode cX11_taken 16 = .ok (.ldc2_w 426, 3) := by decide +kernel
theorem dX11_taken_19 : decode cX11_taken 19 = .ok (.ldc2_w 428, 3) := by decide +kernel
theorem dX11_taken_22 : decode cX11_taken 22 = .ok (.invokestatic 123, 3) := by decide +kernel
theorem dX11_taken_25 : decode cX11_taken 25 = .ok (.ifCond .ne 5, 3) := by decide +kernel
theorem dX11_taken_28 : decode cX11_taken 28 = .ok (.iconst (-1), 1) := by decide +kernel
theorem dX11_taken_29 : decode cX11_taken 29 = .ok (.ireturn, 1) := by decide +kernel
theorem dX11_taken_30 : decode cX11_taken 30 = .ok (.aload_n 0, 1) := by decide +kernel
theorem dX11_taken_31 : decode cX11_taken 31 = .ok (.getfield 102, 3) := by decide +kernel
theorem dX11_taken_34 : decode cX11_taken 34 = .ok (.iload_n 1, 1) := by decide +kernel
theorem dX11_taken_35 : decode cX11_taken 35 = .ok (.iaload, 1) := by decide +kernel
theorem dX11_taken_36 : decode cX11_taken 36 = .ok (.ifCond .ge 6, 3) := by decide +kernel
theorem dX11_taken_39 : decode cX11_taken 39 = .ok (.bipush (-11), 2) := by decide +kernel
theorem dX11_taken_41 : decode cX11_taken 41 = .ok (.ireturn, 1) := by decide +kernel
theorem dX11_taken_42 : decode cX11_taken 42 = .ok (.aload_n 0, 1) := by decide +kernel
theorem dX11_taken_43 : decode cX11_taken 43 = .ok (.getfield 102, 3) := by decide +kernel
theorem dX11_taken_46 : decode cX11_taken 46 = .ok (.iload_n 1, 1) := by decide +kernel
theorem dX11_taken_47 : decode cX11_taken 47 = .ok (.iaload, 1) := by decide +kernel
theorem dX11_taken_48 : decode cX11_taken 48 = .ok (.iload_n 2, 1) := by decide +kernel
theorem dX11_taken_49 : decode cX11_taken 49 = .ok (.if_icmp .eq 8, 3) := by decide +kernel
theorem dX11_taken_52 : decode cX11_taken 52 = .ok (.bipush (-13), 2) := by decide +kernel
theorem dX11_taken_54 : decode cX11_taken 54 = .ok (.goto 19, 3) := by decide +kernel
theorem dX11_taken_57 : decode cX11_taken 57 = .ok (.iload_n 2, 1) := by decide +kernel
theorem dX11_taken_58 : decode cX11_taken 58 = .ok (.bipush 10, 2) := by decide +kernel
theorem dX11_taken_60 : decode cX11_taken 60 = .ok (.if_icmp .ge 7, 3) := by decide +kernel
theorem dX11_taken_63 : decode cX11_taken 63 = .ok (.iconst 1, 1) := by decide +kernel
theorem dX11_taken_64 : decode cX11_taken 64 = .ok (.goto 9, 3) := by decide +kernel
theorem dX11_taken_67 : decode cX11_taken 67 = .ok (.aload_n 0, 1) := by decide +kernel
theorem dX11_taken_68 : decode cX11_taken 68 = .ok (.getfield 105, 3) := by decide +kernel
theorem dX11_taken_71 : decode cX11_taken 71 = .ok (.iload_n 1, 1) := by decide +kernel
theorem dX11_taken_72 : decode cX11_taken 72 = .ok (.iaload, 1) := by decide +kernel
theorem dX11_taken_73 : decode cX11_taken 73 = .ok (.ireturn, 1) := by decide +kernel
theorem dX11_ofGroups_0 : decode cX11_ofGroups 0 = .ok (.iconst 0, 1) := by decide +kernel
theorem dX11_ofGroups_1 : decode cX11_ofGroups 1 = .ok (.istore_n 2, 1) := by decide +kernel
theorem dX11_ofGroups_2 : decode cX11_ofGroups 2 = .ok (.iconst 0, 1) := by decide +kernel
theorem dX11_ofGroups_3 : decode cX11_ofGroups 3 = .ok (.istore_n 3, 1) := by decide +kernel
theorem dX11_ofGroups_4 : decode cX11_ofGroups 4 = .ok (.iload_n 3, 1) := by decide +kernel
theorem dX11_ofGroups_5 : decode cX11_ofGroups 5 = .ok (.bipush 6, 2) := by decide +kernel
theorem dX11_ofGroups_7 : decode cX11_ofGroups 7 = .ok (.if_icmp .ge 23, 3) := by decide +kernel
theorem dX11_ofGroups_10 : decode cX11_ofGroups 10 = .ok (.iload_n 2, 1) := by decide +kernel
theorem dX11_ofGroups_11 : decode cX11_ofGroups 11 = .ok (.aload_n 0, 1) := by decide +kernel
theorem dX11_ofGroups_12 : decode cX11_ofGroups 12 = .ok (.getfield 7, 3) := by decide +kernel
theorem dX11_ofGroups_15 : decode cX11_ofGroups 15 = .ok (.bipush 14, 2) := by decide +kernel
theorem dX11_ofGroups_17 : decode cX11_ofGroups 17 = .ok (.iload_n 3, 1) := by decide +kernel
theorem dX11_ofGroups_18 : decode cX11_ofGroups 18 = .ok (.imul, 1) := by decide +kernel
theorem dX11_ofGroups_19 : decode cX11_ofGroups 19 = .ok (.iload_n 1, 1) := by decide +kernel
theorem dX11_ofGroups_20 : decode cX11_ofGroups 20 = .ok (.iadd, 1) := by decide +kernel
theorem dX11_ofGroups_21 : decode cX11_ofGroups 21 = .ok (.iaload, 1) := by decide +kernel
theorem dX11_ofGroups_22 : decode cX11_ofGroups 22 = .ok (.iadd, 1) := by decide +kernel
theorem dX11_ofGroups_23 : decode cX11_ofGroups 23 = .ok (.istore_n 2, 1) := by decide +kernel
theorem dX11_ofGroups_24 : decode cX11_ofGroups 24 = .ok (.iinc 3 1, 3) := by decide +kernel
theorem dX11_ofGroups_27 : decode cX11_ofGroups 27 = .ok (.goto (-23), 3) := by decide +kernel
theorem dX11_ofGroups_30 : decode cX11_ofGroups 30 = .ok (.iload_n 2, 1) := by decide +kernel
theorem dX11_ofGroups_31 : decode cX11_ofGroups 31 = .ok (.ireturn, 1) := by decide +kernel
theorem dX11_ofMaps_0 : decode cX11_ofMaps 0 = .ok (.iconst 0, 1) := by decide +kernel
theorem dX11_ofMaps_1 : decode cX11_ofMaps 1 = .ok (.istore_n 2, 1) := by decide +kernel
theorem dX11_ofMaps_2 : decode cX11_ofMaps 2 = .ok (.iconst 0, 1) := by decide +kernel
theorem dX11_ofMaps_3 : decode cX11_ofMaps 3 = .ok (.istore_n 3, 1) := by decide +kernel
theorem dX11_ofMaps_4 : decode cX11_ofMaps 4 = .ok (.iload_n 3, 1) := by decide +kernel
theorem dX11_ofMaps_5 : decode cX11_ofMaps 5 = .ok (.bipush 8, 2) := by decide +kernel
theorem dX11_ofMaps_7 : decode cX11_ofMaps 7 = .ok (.if_icmp .ge 47, 3) := by decide +kernel
theorem dX11_ofMaps_10 : decode cX11_ofMaps 10 = .ok (.iload_n 2, 1) := by decide +kernel
theorem dX11_ofMaps_11 : decode cX11_ofMaps 11 = .ok (.aload_n 0, 1) := by decide +kernel
theorem dX11_ofMaps_12 : decode cX11_ofMaps 12 = .ok (.iload_n 3, 1) := by decide +kernel
theorem dX11_ofMaps_13 : decode cX11_ofMaps 13 = .ok (.invokevirtual 215, 3) := by decide +kernel
theorem dX11_ofMaps_16 : decode cX11_ofMaps 16 = .ok (.ifCond .ne 7, 3) := by decide +kernel
theorem dX11_ofMaps_19 : decode cX11_ofMaps 19 = .ok (.iconst 0, 1) := by decide +kernel
theorem dX11_ofMaps_20 : decode cX11_ofMaps 20 = .ok (.goto 26, 3) := by decide +kernel
theorem dX11_ofMaps_23 : decode cX11_ofMaps 23 = .ok (.iload_n 1, 1) := by decide +kernel
theorem dX11_ofMaps_24 : decode cX11_ofMaps 24 = .ok (.ifCond .ne 7, 3) := by decide +kernel
theorem dX11_ofMaps_27 : decode cX11_ofMaps 27 = .ok (.iconst 1, 1) := by decide +kernel
theorem dX11_ofMaps_28 : decode cX11_ofMaps 28 = .ok (.goto 18, 3) := by decide +kernel
theorem dX11_ofMaps_31 : decode cX11_ofMaps 31 = .ok (.aload_n 0, 1) := by decide +kernel
theorem dX11_ofMaps_32 : decode cX11_ofMaps 32 = .ok (.iload_n 3, 1) := by decide +kernel
theorem dX11_ofMaps_33 : decode cX11_ofMaps 33 = .ok (.invokevirtual 307, 3) := by decide +kernel
theorem dX11_ofMaps_36 : decode cX11_ofMaps 36 = .ok (.ifCond .eq 9, 3) := by decide +kernel
theorem dX11_ofMaps_39 : decode cX11_ofMaps 39 = .ok (.iconst 1, 1) := by decide +kernel
theorem dX11_ofMaps_40 : decode cX11_ofMaps 40 = .ok (.iload_n 3, 1) := by decide +kernel
theorem dX11_ofMaps_41 : decode cX11_ofMaps 41 = .ok (.ishl, 1) := by decide +kernel
theorem dX11_ofMaps_42 : decode cX11_ofMaps 42 = .ok (.goto 4, 3) := by decide +kernel
theorem dX11_ofMaps_45 : decode cX11_ofMaps 45 = .ok (.iconst 0, 1) := by decide +kernel
theorem dX11_ofMaps_46 : decode cX11_ofMaps 46 = .ok (.iadd, 1) := by decide +kernel
theorem dX11_ofMaps_47 : decode cX11_ofMaps 47 = .ok (.istore_n 2, 1) := by decide +kernel
theorem dX11_ofMaps_48 : decode cX11_ofMaps 48 = .ok (.iinc 3 1, 3) := by decide +kernel
theorem dX11_ofMaps_51 : decode cX11_ofMaps 51 = .ok (.goto (-47), 3) := by decide +kernel
theorem dX11_ofMaps_54 : decode cX11_ofMaps 54 = .ok (.iload_n 2, 1) := by decide +kernel
theorem dX11_ofMaps_55 : decode cX11_ofMaps 55 = .ok (.ireturn, 1) := by decide +kernel
theorem dX11_many_0 : decode cX11_many 0 = .ok (.iload_n 1, 1) := by decide +kernel
theorem dX11_many_1 : decode cX11_many 1 = .ok (.tableswitch 83 0 6 #[43, 43, 49, 49, 64, 73, 78], 43) := by decide +kernel
theorem dX11_many_44 : decode cX11_many 44 = .ok (.aload_n 0, 1) := by decide +kernel
theorem dX11_many_45 : decode cX11_many 45 = .ok (.iload_n 1, 1) := by decide +kernel
theorem dX11_many_46 : decode cX11_many 46 = .ok (.invokevirtual 430, 3) := by decide +kernel
theorem dX11_many_49 : decode cX11_many 49 = .ok (.ireturn, 1) := by decide +kernel
theorem dX11_many_50 : decode cX11_many 50 = .ok (.aload_n 0, 1) := by decide +kernel
theorem dX11_many_51 : decode cX11_many 51 = .ok (.iload_n 1, 1) := by decide +kernel
theorem dX11_many_52 : decode cX11_many 52 = .ok (.iconst 3, 1) := by decide +kernel
theorem dX11_many_53 : decode cX11_many 53 = .ok (.if_icmp .ne 7, 3) := by decide +kernel
theorem dX11_many_56 : decode cX11_many 56 = .ok (.iconst 1, 1) := by decide +kernel
theorem dX11_many_57 : decode cX11_many 57 = .ok (.goto 4, 3) := by decide +kernel
theorem dX11_many_60 : decode cX11_many 60 = .ok (.iconst 0, 1) := by decide +kernel
theorem dX11_many_61 : decode cX11_many 61 = .ok (.invokevirtual 433, 3) := by decide +kernel
theorem dX11_many_64 : decode cX11_many 64 = .ok (.ireturn, 1) := by decide +kernel
theorem dX11_many_65 : decode cX11_many 65 = .ok (.aload_n 0, 1) := by decide +kernel
theorem dX11_many_66 : decode cX11_many 66 = .ok (.getfield 7, 3) := by decide +kernel
theorem dX11_many_69 : decode cX11_many 69 = .ok (.sipush 172, 3) := by decide +kernel
theorem dX11_many_72 : decode cX11_many 72 = .ok (.iaload, 1) := by decide +kernel
theorem dX11_many_73 : decode cX11_many 73 = .ok (.ireturn, 1) := by decide +kernel
theorem dX11_many_74 : decode cX11_many 74 = .ok (.aload_n 0, 1) := by decide +kernel
theorem dX11_many_75 : decode cX11_many 75 = .ok (.getfield 113, 3) := by decide +kernel
theorem dX11_many_78 : decode cX11_many 78 = .ok (.ireturn, 1) := by decide +kernel
theorem dX11_many_79 : decode cX11_many 79 = .ok (.aload_n 0, 1) := by decide +kernel
theorem dX11_many_80 : decode cX11_many 80 = .ok (.getfield 333, 3) := by decide +kernel
theorem dX11_many_83 : decode cX11_many 83 = .ok (.ireturn, 1) := by decide +kernel
theorem dX11_many_84 : decode cX11_many 84 = .ok (.iconst (-1), 1) := by decide +kernel
theorem dX11_many_85 : decode cX11_many 85 = .ok (.ireturn, 1) := by decide +kernel
theorem dX11_keep_0 : decode cX11_keep 0 = .ok (.aload_n 0, 1) := by decide +kernel
theorem dX11_keep_1 : decode cX11_keep 1 = .ok (.getfield 7, 3) := by decide +kernel
theorem dX11_keep_4 : decode cX11_keep 4 = .ok (.iconst 0, 1) := by decide +kernel
theorem dX11_keep_5 : decode cX11_keep 5 = .ok (.aload_n 0, 1) := by decide +kernel
theorem dX11_keep_6 : decode cX11_keep 6 = .ok (.getfield 13, 3) := by decide +kernel
theorem dX11_keep_9 : decode cX11_keep 9 = .ok (.iconst 0, 1) := by decide +kernel
theorem dX11_keep_10 : decode cX11_keep 10 = .ok (.invokestatic 117, 3) := by decide +kernel
theorem dX11_keep_13 : decode cX11_keep 13 = .ok (.aload_n 0, 1) := by decide +kernel
theorem dX11_keep_14 : decode cX11_keep 14 = .ok (.iconst 1, 1) := by decide +kernel
theorem dX11_keep_15 : decode cX11_keep 15 = .ok (.putfield 437, 3) := by decide +kernel
theorem dX11_keep_18 : decode cX11_keep 18 = .ok (.iconst 1, 1) := by decide +kernel
theorem dX11_keep_19 : decode cX11_keep 19 = .ok (.ireturn, 1) := by decide +kernel
theorem dX11_again_0 : decode cX11_again 0 = .ok (.aload_n 0, 1) := by decide +kernel
theorem dX11_again_1 : decode cX11_again 1 = .ok (.getfield 437, 3) := by decide +kernel
theorem dX11_again_4 : decode cX11_again 4 = .ok (.ifCond .ne 6, 3) := by decide +kernel
theorem dX11_again_7 : decode cX11_again 7 = .ok (.bipush (-3), 2) := by decide +kernel
theorem dX11_again_9 : decode cX11_again 9 = .ok (.ireturn, 1) := by decide +kernel
theorem dX11_again_10 : decode cX11_again 10 = .ok (.aload_n 0, 1) := by decide +kernel
theorem dX11_again_11 : decode cX11_again 11 = .ok (.getfield 13, 3) := by decide +kernel
theorem dX11_again_14 : decode cX11_again 14 = .ok (.iconst 0, 1) := by decide +kernel
theorem dX11_again_15 : decode cX11_again 15 = .ok (.aload_n 0, 1) := by decide +kernel
theorem dX11_again_16 : decode cX11_again 16 = .ok (.getfield 7, 3) := by decide +kernel
theorem dX11_again_19 : decode cX11_again 19 = .ok (.iconst 0, 1) := by decide +kernel
theorem dX11_again_20 : decode cX11_again 20 = .ok (.invokestatic 117, 3) := by decide +kernel
theorem dX11_again_23 : decode cX11_again 23 = .ok (.aload_n 0, 1) := by decide +kernel
theorem dX11_again_24 : decode cX11_again 24 = .ok (.iconst 0, 1) := by decide +kernel
theorem dX11_again_25 : decode cX11_again 25 = .ok (.putfield 113, 3) := by decide +kernel
theorem dX11_again_28 : decode cX11_again 28 = .ok (.aload_n 0, 1) := by decide +kernel
theorem dX11_again_29 : decode cX11_again 29 = .ok (.iconst 0, 1) := by decide +kernel
theorem dX11_again_30 : decode cX11_again 30 = .ok (.invokevirtual 433, 3) := by decide +kernel
theorem dX11_again_33 : decode cX11_again 33 = .ok (.ireturn, 1) := by decide +kernel
theorem dJ9_floorDiv_f86c9_0 : decode cJ9_floorDiv_f86c9 0 = .ok (.lload_n 0, 1) := by decide +kernel
theorem dJ9_floorDiv_f86c9_1 : decode cJ9_floorDiv_f86c9 1 = .ok (.lload_n 2, 1) := by decide +kernel
theorem dJ9_floorDiv_f86c9_2 : decode cJ9_floorDiv_f86c9 2 = .ok (.ldiv, 1) := by decide +kernel
theorem dJ9_floorDiv_f86c9_3 : decode cJ9_floorDiv_f86c9 3 = .ok (.lstore 4, 2) := by decide +kernel
theorem dJ9_floorDiv_f86c9_5 : decode cJ9_floorDiv_f86c9 5 = .ok (.lload_n 0, 1) := by decide +kernel
theorem dJ9_floorDiv_f86c9_6 : decode cJ9_floorDiv_f86c9 6 = .ok (.lload_n 2, 1) := by decide +kernel
theorem dJ9_floorDiv_f86c9_7 : decode cJ9_floorDiv_f86c9 7 = .ok (.lxor, 1) := by decide +kernel
theorem dJ9_floorDiv_f86c9_8 : decode cJ9_floorDiv_f86c9 8 = .ok (.lconst 0, 1) := by decide +kernel
theorem dJ9_floorDiv_f86c9_9 : decode cJ9_floorDiv_f86c9 9 = .ok (.lcmp, 1) := by decide +kernel
theorem dJ9_floorDiv_f86c9_10 : decode cJ9_floorDiv_f86c9 10 = .ok (.ifCond .ge 17, 3) := by decide +kernel
theorem dJ9_floorDiv_f86c9_13 : decode cJ9_floorDiv_f86c9 13 = .ok (.lload 4, 2) := by decide +kernel
theorem dJ9_floorDiv_f86c9_15 : decode cJ9_floorDiv_f86c9 15 = .ok (.lload_n 2, 1) := by decide +kernel
theorem dJ9_floorDiv_f86c9_16 : decode cJ9_floorDiv_f86c9 16 = .ok (.lmul, 1) := by decide +kernel
theorem dJ9_floorDiv_f86c9_17 : decode cJ9_floorDiv_f86c9 17 = .ok (.lload_n 0, 1) := by decide +kernel
theorem dJ9_floorDiv_f86c9_18 : decode cJ9_floorDiv_f86c9 18 = .ok (.lcmp, 1) := by decide +kernel
theorem dJ9_floorDiv_f86c9_19 : decode cJ9_floorDiv_f86c9 19 = .ok (.ifCond .eq 8, 3) := by decide +kernel
theorem dJ9_floorDiv_f86c9_22 : decode cJ9_floorDiv_f86c9 22 = .ok (.lload 4, 2) := by decide +kernel
theorem dJ9_floorDiv_f86c9_24 : decode cJ9_floorDiv_f86c9 24 = .ok (.lconst 1, 1) := by decide +kernel
theorem dJ9_floorDiv_f86c9_25 : decode cJ9_floorDiv_f86c9 25 = .ok (.lsub, 1) := by decide +kernel
theorem dJ9_floorDiv_f86c9_26 : decode cJ9_floorDiv_f86c9 26 = .ok (.lreturn, 1) := by decide +kernel
theorem dJ9_floorDiv_f86c9_27 : decode cJ9_floorDiv_f86c9 27 = .ok (.lload 4, 2) := by decide +kernel
theorem dJ9_floorDiv_f86c9_29 : decode cJ9_floorDiv_f86c9 29 = .ok (.lreturn, 1) := by decide +kernel
theorem dJ9_abs_067f4_0 : decode cJ9_abs_067f4 0 = .ok (.lload_n 0, 1) := by decide +kernel
theorem dJ9_abs_067f4_1 : decode cJ9_abs_067f4 1 = .ok (.lconst 0, 1) := by decide +kernel
theorem dJ9_abs_067f4_2 : decode cJ9_abs_067f4 2 = .ok (.lcmp, 1) := by decide +kernel
theorem dJ9_abs_067f4_3 : decode cJ9_abs_067f4 3 = .ok (.ifCond .ge 8, 3) := by decide +kernel
theorem dJ9_abs_067f4_6 : decode cJ9_abs_067f4 6 = .ok (.lload_n 0, 1) := by decide +kernel
theorem dJ9_abs_067f4_7 : decode cJ9_abs_067f4 7 = .ok (.lneg, 1) := by decide +kernel
theorem dJ9_abs_067f4_8 : decode cJ9_abs_067f4 8 = .ok (.goto 4, 3) := by decide +kernel
theorem dJ9_abs_067f4_11 : decode cJ9_abs_067f4 11 = .ok (.lload_n 0, 1) := by decide +kernel
theorem dJ9_abs_067f4_12 : decode cJ9_abs_067f4 12 = .ok (.lreturn, 1) := by decide +kernel
theorem dJ9_max_7cf53_0 : decode cJ9_max_7cf53 0 = .ok (.iload_n 0, 1) := by decide +kernel
theorem dJ9_max_7cf53_1 : decode cJ9_max_7cf53 1 = .ok (.iload_n 1, 1) := by decide +kernel
theorem dJ9_max_7cf53_2 : decode cJ9_max_7cf53 2 = .ok (.if_icmp .lt 7, 3) := by decide +kernel
theorem dJ9_max_7cf53_5 : decode cJ9_max_7cf53 5 = .ok (.iload_n 0, 1) := by decide +kernel
theorem dJ9_max_7cf53_6 : decode cJ9_max_7cf53 6 = .ok (.goto 4, 3) := by decide +kernel
theorem dJ9_max_7cf53_9 : decode cJ9_max_7cf53 9 = .ok (.iload_n 1, 1) := by decide +kernel
theorem dJ9_max_7cf53_10 : decode cJ9_max_7cf53 10 = .ok (.ireturn, 1) := by decide +kernel
theorem dJ9_max_f86c9_0 : decode cJ9_max_f86c9 0 = .ok (.lload_n 0, 1) := by decide +kernel
theorem dJ9_max_f86c9_1 : decode cJ9_max_f86c9 1 = .ok (.lload_n 2, 1) := by decide +kernel
theorem dJ9_max_f86c9_2 : decode cJ9_max_f86c9 2 = .ok (.lcmp, 1) := by decide +kernel
theorem dJ9_max_f86c9_3 : decode cJ9_max_f86c9 3 = .ok (.ifCond .lt 7, 3) := by decide +kernel
theorem dJ9_max_f86c9_6 : decode cJ9_max_f86c9 6 = .ok (.lload_n 0, 1) := by decide +kernel
theorem dJ9_max_f86c9_7 : decode cJ9_max_f86c9 7 = .ok (.goto 4, 3) := by decide +kernel
theorem dJ9_max_f86c9_10 : decode cJ9_max_f86c9 10 = .ok (.lload_n 2, 1) := by decide +kernel
theorem dJ9_max_f86c9_11 : decode cJ9_max_f86c9 11 = .ok (.lreturn, 1) := by decide +kernel
theorem dJ9_min_7cf53_0 : decode cJ9_min_7cf53 0 = .ok (.iload_n 0, 1) := by decide +kernel
theorem dJ9_min_7cf53_1 : decode cJ9_min_7cf53 1 = .ok (.iload_n 1, 1) := by decide +kernel
theorem dJ9_min_7cf53_2 : decode cJ9_min_7cf53 2 = .ok (.if_icmp .gt 7, 3) := by decide +kernel
theorem dJ9_min_7cf53_5 : decode cJ9_min_7cf53 5 = .ok (.iload_n 0, 1) := by decide +kernel
theorem dJ9_min_7cf53_6 : decode cJ9_min_7cf53 6 = .ok (.goto 4, 3) := by decide +kernel
theorem dJ9_min_7cf53_9 : decode cJ9_min_7cf53 9 = .ok (.iload_n 1, 1) := by decide +kernel
theorem dJ9_min_7cf53_10 : decode cJ9_min_7cf53 10 = .ok (.ireturn, 1) := by decide +kernel
theorem dJ7_rangeCheck_23922_0 : decode cJ7_rangeCheck_23922 0 = .ok (.iload_n 1, 1) := by decide +kernel
theorem dJ7_rangeCheck_23922_1 : decode cJ7_rangeCheck_23922 1 = .ok (.iload_n 2, 1) := by decide +kernel
theorem dJ7_rangeCheck_23922_2 : decode cJ7_rangeCheck_23922 2 = .ok (.if_icmp .le 44, 3) := by decide +kernel
theorem dJ7_rangeCheck_23922_5 : decode cJ7_rangeCheck_23922 5 = .ok (.new 43, 3) := by decide +kernel
theorem dJ7_rangeCheck_23922_8 : decode cJ7_rangeCheck_23922 8 = .ok (.dup, 1) := by decide +kernel
theorem dJ7_rangeCheck_23922_9 : decode cJ7_rangeCheck_23922 9 = .ok (.new 45, 3) := by decide +kernel
theorem dJ7_rangeCheck_23922_12 : decode cJ7_rangeCheck_23922 12 = .ok (.dup, 1) := by decide +kernel
theorem dJ7_rangeCheck_23922_13 : decode cJ7_rangeCheck_23922 13 = .ok (.invokespecial 47, 3) := by decide +kernel
theorem dJ7_rangeCheck_23922_16 : decode cJ7_rangeCheck_23922 16 = .ok (.ldc 48, 2) := by decide +kernel
theorem dJ7_rangeCheck_23922_18 : decode cJ7_rangeCheck_23922 18 = .ok (.invokevirtual 50, 3) := by decide +kernel
theorem dJ7_rangeCheck_23922_21 : decode cJ7_rangeCheck_23922 21 = .ok (.iload_n 1, 1) := by decide +kernel
theorem dJ7_rangeCheck_23922_22 : decode cJ7_rangeCheck_23922 22 = .ok (.invokevirtual 54, 3) := by decide +kernel
theorem dJ7_rangeCheck_23922_25 : decode cJ7_rangeCheck_23922 25 = .ok (.ldc 57, 2) := by decide +kernel
theorem dJ7_rangeCheck_23922_27 : decode cJ7_rangeCheck_23922 27 = .ok (.invokevirtual 50, 3) := by decide +kernel
theorem dJ7_rangeCheck_23922_30 : decode cJ7_rangeCheck_23922 30 = .ok (.iload_n 2, 1) := by decide +kernel
theorem dJ7_rangeCheck_23922_31 : decode cJ7_rangeCheck_23922 31 = .ok (.invokevirtual 54, 3) := by decide +kernel
theorem dJ7_rangeCheck_23922_34 : decode cJ7_rangeCheck_23922 34 = .ok (.ldc 59, 2) := by decide +kernel
theorem dJ7_rangeCheck_23922_36 : decode cJ7_rangeCheck_23922 36 = .ok (.invokevirtual 50, 3) := by decide +kernel
theorem dJ7_rangeCheck_23922_39 : decode cJ7_rangeCheck_23922 39 = .ok (.invokevirtual 61, 3) := by decide +kernel
theorem dJ7_rangeCheck_23922_42 : decode cJ7_rangeCheck_23922 42 = .ok (.invokespecial 65, 3) := by decide +kernel
theorem dJ7_rangeCheck_23922_45 : decode cJ7_rangeCheck_23922 45 = .ok (.athrow, 1) := by decide +kernel
theorem dJ7_rangeCheck_23922_46 : decode cJ7_rangeCheck_23922 46 = .ok (.iload_n 1, 1) := by decide +kernel
theorem dJ7_rangeCheck_23922_47 : decode cJ7_rangeCheck_23922 47 = .ok (.ifCond .ge 12, 3) := by decide +kernel
theorem dJ7_rangeCheck_23922_50 : decode cJ7_rangeCheck_23922 50 = .ok (.new 68, 3) := by decide +kernel
theorem dJ7_rangeCheck_23922_53 : decode cJ7_rangeCheck_23922 53 = .ok (.dup, 1) := by decide +kernel
theorem dJ7_rangeCheck_23922_54 : decode cJ7_rangeCheck_23922 54 = .ok (.iload_n 1, 1) := by decide +kernel
theorem dJ7_rangeCheck_23922_55 : decode cJ7_rangeCheck_23922 55 = .ok (.invokespecial 70, 3) := by decide +kernel
theorem dJ7_rangeCheck_23922_58 : decode cJ7_rangeCheck_23922 58 = .ok (.athrow, 1) := by decide +kernel
theorem dJ7_rangeCheck_23922_59 : decode cJ7_rangeCheck_23922 59 = .ok (.iload_n 2, 1) := by decide +kernel
theorem dJ7_rangeCheck_23922_60 : decode cJ7_rangeCheck_23922 60 = .ok (.iload_n 0, 1) := by decide +kernel
theorem dJ7_rangeCheck_23922_61 : decode cJ7_rangeCheck_23922 61 = .ok (.if_icmp .le 12, 3) := by decide +kernel
theorem dJ7_rangeCheck_23922_64 : decode cJ7_rangeCheck_23922 64 = .ok (.new 68, 3) := by decide +kernel
theorem dJ7_rangeCheck_23922_67 : decode cJ7_rangeCheck_23922 67 = .ok (.dup, 1) := by decide +kernel
theorem dJ7_rangeCheck_23922_68 : decode cJ7_rangeCheck_23922 68 = .ok (.iload_n 2, 1) := by decide +kernel
theorem dJ7_rangeCheck_23922_69 : decode cJ7_rangeCheck_23922 69 = .ok (.invokespecial 70, 3) := by decide +kernel
theorem dJ7_rangeCheck_23922_72 : decode cJ7_rangeCheck_23922 72 = .ok (.athrow, 1) := by decide +kernel
theorem dJ7_rangeCheck_23922_73 : decode cJ7_rangeCheck_23922 73 = .ok (.return_, 1) := by decide +kernel
theorem dJ7_fill_d0a16_0 : decode cJ7_fill_d0a16 0 = .ok (.iconst 0, 1) := by decide +kernel
theorem dJ7_fill_d0a16_1 : decode cJ7_fill_d0a16 1 = .ok (.istore_n 3, 1) := by decide +kernel
theorem dJ7_fill_d0a16_2 : decode cJ7_fill_d0a16 2 = .ok (.aload_n 0, 1) := by decide +kernel
theorem dJ7_fill_d0a16_3 : decode cJ7_fill_d0a16 3 = .ok (.arraylength, 1) := by decide +kernel
theorem dJ7_fill_d0a16_4 : decode cJ7_fill_d0a16 4 = .ok (.istore 4, 2) := by decide +kernel
theorem dJ7_fill_d0a16_6 : decode cJ7_fill_d0a16 6 = .ok (.iload_n 3, 1) := by decide +kernel
theorem dJ7_fill_d0a16_7 : decode cJ7_fill_d0a16 7 = .ok (.iload 4, 2) := by decide +kernel
theorem dJ7_fill_d0a16_9 : decode cJ7_fill_d0a16 9 = .ok (.if_icmp .ge 13, 3) := by decide +kernel
theorem dJ7_fill_d0a16_12 : decode cJ7_fill_d0a16 12 = .ok (.aload_n 0, 1) := by decide +kernel
theorem dJ7_fill_d0a16_13 : decode cJ7_fill_d0a16 13 = .ok (.iload_n 3, 1) := by decide +kernel
theorem dJ7_fill_d0a16_14 : decode cJ7_fill_d0a16 14 = .ok (.lload_n 1, 1) := by decide +kernel
theorem dJ7_fill_d0a16_15 : decode cJ7_fill_d0a16 15 = .ok (.lastore, 1) := by decide +kernel
theorem dJ7_fill_d0a16_16 : decode cJ7_fill_d0a16 16 = .ok (.iinc 3 1, 3) := by decide +kernel
theorem dJ7_fill_d0a16_19 : decode cJ7_fill_d0a16 19 = .ok (.goto (-13), 3) := by decide +kernel
theorem dJ7_fill_d0a16_22 : decode cJ7_fill_d0a16 22 = .ok (.return_, 1) := by decide +kernel
theorem dJ7_fill_53178_0 : decode cJ7_fill_53178 0 = .ok (.iconst 0, 1) := by decide +kernel
theorem dJ7_fill_53178_1 : decode cJ7_fill_53178 1 = .ok (.istore_n 2, 1) := by decide +kernel
theorem dJ7_fill_53178_2 : decode cJ7_fill_53178 2 = .ok (.aload_n 0, 1) := by decide +kernel
theorem dJ7_fill_53178_3 : decode cJ7_fill_53178 3 = .ok (.arraylength, 1) := by decide +kernel
theorem dJ7_fill_53178_4 : decode cJ7_fill_53178 4 = .ok (.istore_n 3, 1) := by decide +kernel
theorem dJ7_fill_53178_5 : decode cJ7_fill_53178 5 = .ok (.iload_n 2, 1) := by decide +kernel
theorem dJ7_fill_53178_6 : decode cJ7_fill_53178 6 = .ok (.iload_n 3, 1) := by decide +kernel
theorem dJ7_fill_53178_7 : decode cJ7_fill_53178 7 = .ok (.if_icmp .ge 13, 3) := by decide +kernel
theorem dJ7_fill_53178_10 : decode cJ7_fill_53178 10 = .ok (.aload_n 0, 1) := by decide +kernel
theorem dJ7_fill_53178_11 : decode cJ7_fill_53178 11 = .ok (.iload_n 2, 1) := by decide +kernel
theorem dJ7_fill_53178_12 : decode cJ7_fill_53178 12 = .ok (.iload_n 1, 1) := by decide +kernel
theorem dJ7_fill_53178_13 : decode cJ7_fill_53178 13 = .ok (.iastore, 1) := by decide +kernel
theorem dJ7_fill_53178_14 : decode cJ7_fill_53178 14 = .ok (.iinc 2 1, 3) := by decide +kernel
theorem dJ7_fill_53178_17 : decode cJ7_fill_53178 17 = .ok (.goto (-12), 3) := by decide +kernel
theorem dJ7_fill_53178_20 : decode cJ7_fill_53178 20 = .ok (.return_, 1) := by decide +kernel
theorem dJ7_fill_fda19_0 : decode cJ7_fill_fda19 0 = .ok (.aload_n 0, 1) := by decide +kernel
theorem dJ7_fill_fda19_1 : decode cJ7_fill_fda19 1 = .ok (.arraylength, 1) := by decide +kernel
theorem dJ7_fill_fda19_2 : decode cJ7_fill_fda19 2 = .ok (.iload_n 1, 1) := by decide +kernel
theorem dJ7_fill_fda19_3 : decode cJ7_fill_fda19 3 = .ok (.iload_n 2, 1) := by decide +kernel
theorem dJ7_fill_fda19_4 : decode cJ7_fill_fda19 4 = .ok (.invokestatic 13, 3) := by decide +kernel
theorem dJ7_fill_fda19_7 : decode cJ7_fill_fda19 7 = .ok (.iload_n 1, 1) := by decide +kernel
theorem dJ7_fill_fda19_8 : decode cJ7_fill_fda19 8 = .ok (.istore 4, 2) := by decide +kernel
theorem dJ7_fill_fda19_10 : decode cJ7_fill_fda19 10 = .ok (.iload 4, 2) := by decide +kernel
theorem dJ7_fill_fda19_12 : decode cJ7_fill_fda19 12 = .ok (.iload_n 2, 1) := by decide +kernel
theorem dJ7_fill_fda19_13 : decode cJ7_fill_fda19 13 = .ok (.if_icmp .ge 14, 3) := by decide +kernel
theorem dJ7_fill_fda19_16 : decode cJ7_fill_fda19 16 = .ok (.aload_n 0, 1) := by decide +kernel
theorem dJ7_fill_fda19_17 : decode cJ7_fill_fda19 17 = .ok (.iload 4, 2) := by decide +kernel
theorem dJ7_fill_fda19_19 : decode cJ7_fill_fda19 19 = .ok (.iload_n 3, 1) := by decide +kernel
theorem dJ7_fill_fda19_20 : decode cJ7_fill_fda19 20 = .ok (.iastore, 1) := by decide +kernel
theorem dJ7_fill_fda19_21 : decode cJ7_fill_fda19 21 = .ok (.iinc 4 1, 3) := by decide +kernel
theorem dJ7_fill_fda19_24 : decode cJ7_fill_fda19 24 = .ok (.goto (-14), 3) := by decide +kernel
theorem dJ7_fill_fda19_27 : decode cJ7_fill_fda19 27 = .ok (.return_, 1) := by decide +kernel
theorem dL_law_0 : decode cL_law 0 = .ok (.new 7, 3) := by decide +kernel
theorem dL_law_3 : decode cL_law 3 = .ok (.dup, 1) := by decide +kernel
theorem dL_law_4 : decode cL_law 4 = .ok (.invokespecial 9, 3) := by decide +kernel
theorem dL_law_7 : decode cL_law 7 = .ok (.astore_n 1, 1) := by decide +kernel
theorem dL_law_8 : decode cL_law 8 = .ok (.new 10, 3) := by decide +kernel
theorem dL_law_11 : decode cL_law 11 = .ok (.dup, 1) := by decide +kernel
theorem dL_law_12 : decode cL_law 12 = .ok (.invokespecial 12, 3) := by decide +kernel
theorem dL_law_15 : decode cL_law 15 = .ok (.astore_n 2, 1) := by decide +kernel
theorem dL_law_16 : decode cL_law 16 = .ok (.iconst 0, 1) := by decide +kernel
theorem dL_law_17 : decode cL_law 17 = .ok (.istore_n 3, 1) := by decide +kernel
theorem dL_law_18 : decode cL_law 18 = .ok (.iload_n 3, 1) := by decide +kernel
theorem dL_law_19 : decode cL_law 19 = .ok (.aload_n 0, 1) := by decide +kernel
theorem dL_law_20 : decode cL_law 20 = .ok (.arraylength, 1) := by decide +kernel
theorem dL_law_21 : decode cL_law 21 = .ok (.bipush 7, 2) := by decide +kernel
theorem dL_law_23 : decode cL_law 23 = .ok (.isub, 1) := by decide +kernel
theorem dL_law_24 : decode cL_law 24 = .ok (.if_icmp .gt 1754, 3) := by decide +kernel
theorem dL_law_27 : decode cL_law 27 = .ok (.aload_n 0, 1) := by decide +kernel
theorem dL_law_28 : decode cL_law 28 = .ok (.iload_n 3, 1) := by decide +kernel
theorem dL_law_29 : decode cL_law 29 = .ok (.iaload, 1) := by decide +kernel
theorem dL_law_30 : decode cL_law 30 = .ok (.bipush 63, 2) := by decide +kernel
theorem dL_law_32 : decode cL_law 32 = .ok (.iand, 1) := by decide +kernel
theorem dL_law_33 : decode cL_law 33 = .ok (.tableswitch 1739 0 37 #[167, 200, 253, 286, 319, 352, 416, 469, 502, 555, 608, 651, 704, 747, 780, 844, 887, 951, 984, 1047, 1070, 1103, 1179, 1212, 1235, 1299, 1312, 1355, 1428, 1471, 1534, 1567, 1600, 1623, 1657, 1690, 1713, 1726], 167) := by decide +kernel
theorem dL_law_200 : decode cL_law 200 = .ok (.aload_n 1, 1) := by decide +kernel
theorem dL_law_201 : decode cL_law 201 = .ok (.aload_n 0, 1) := by decide +kernel
theorem dL_law_202 : decode cL_law 202 = .ok (.iload_n 3, 1) := by decide +kernel
theorem dL_law_203 : decode cL_law 203 = .ok (.iconst 1, 1) := by decide +kernel
theorem dL_law_204 : decode cL_law 204 = .ok (.iadd, 1) := by decide +kernel
theorem dL_law_205 : decode cL_law 205 = .ok (.iaload, 1) := by decide +kernel
theorem dL_law_206 : decode cL_law 206 = .ok (.aload_n 0, 1) := by decide +kernel
theorem dL_law_207 : decode cL_law 207 = .ok (.iload_n 3, 1) := by decide +kernel
theorem dL_law_208 : decode cL_law 208 = .ok (.iconst 2, 1) := by decide +kernel
theorem dL_law_209 : decode cL_law 209 = .ok (.iadd, 1) := by decide +kernel
theorem dL_law_210 : decode cL_law 210 = .ok (.iaload, 1) := by decide +kernel
theorem dL_law_211 : decode cL_law 211 = .ok (.invokevirtual 13, 3) := by decide +kernel
theorem dL_law_214 : decode cL_law 214 = .ok (.aload_n 2, 1) := by decide +kernel
theorem dL_law_215 : decode cL_law 215 = .ok (.aload_n 0, 1) := by decide +kernel
theorem dL_law_216 : decode cL_law 216 = .ok (.iload_n 3, 1) := by decide +kernel
theorem dL_law_217 : decode cL_law 217 = .ok (.iconst 1, 1) := by decide +kernel
theorem dL_law_218 : decode cL_law 218 = .ok (.iadd, 1) := by decide +kernel
theorem dL_law_219 : decode cL_law 219 = .ok (.iaload, 1) := by decide +kernel
theorem dL_law_220 : decode cL_law 220 = .ok (.aload_n 0, 1) := by decide +kernel
theorem dL_law_221 : decode cL_law 221 = .ok (.iload_n 3, 1) := by decide +kernel
theorem dL_law_222 : decode cL_law 222 = .ok (.iconst 2, 1) := by decide +kernel
theorem dL_law_223 : decode cL_law 223 = .ok (.iadd, 1) := by decide +kernel
theorem dL_law_224 : decode cL_law 224 = .ok (.iaload, 1) := by decide +kernel
theorem dL_law_225 : decode cL_law 225 = .ok (.invokevirtual 17, 3) := by decide +kernel
theorem dL_law_228 : decode cL_law 228 = .ok (.if_icmp .eq 1544, 3) := by decide +kernel
theorem dL_law_231 : decode cL_law 231 = .ok (.iconst 0, 1) := by decide +kernel
theorem dL_law_232 : decode cL_law 232 = .ok (.ireturn, 1) := by decide +kernel
theorem dL_law_233 : decode cL_law 233 = .ok (.aload_n 1, 1) := by decide +kernel
theorem dL_law_234 : decode cL_law 234 = .ok (.aload_n 0, 1) := by decide +kernel
theorem dL_law_235 : decode cL_law 235 = .ok (.iload_n 3, 1) := by decide +kernel
theorem dL_law_236 : decode cL_law 236 = .ok (.iconst 1, 1) := by decide +kernel
theorem dL_law_237 : decode cL_law 237 = .ok (.iadd, 1) := by decide +kernel
theorem dL_law_238 : decode cL_law 238 = .ok (.iaload, 1) := by decide +kernel
theorem dL_law_239 : decode cL_law 239 = .ok (.aload_n 0, 1) := by decide +kernel
theorem dL_law_240 : decode cL_law 240 = .ok (.iload_n 3, 1) := by decide +kernel
theorem dL_law_241 : decode cL_law 241 = .ok (.iconst 2, 1) := by decide +kernel
theorem dL_law_242 : decode cL_law 242 = .ok (.iadd, 1) := by decide +kernel
theorem dL_law_243 : decode cL_law 243 = .ok (.iaload, 1) := by decide +kernel
theorem dL_law_244 : decode cL_law 244 = .ok (.aload_n 0, 1) := by decide +kernel
theorem dL_law_245 : decode cL_law 245 = .ok (.iload_n 3, 1) := by decide +kernel
theorem dL_law_246 : decode cL_law 246 = .ok (.iconst 3, 1) := by decide +kernel
theorem dL_law_247 : decode cL_law 247 = .ok (.iadd, 1) := by decide +kernel
theorem dL_law_248 : decode cL_law 248 = .ok (.iaload, 1) := by decide +kernel
theorem dL_law_249 : decode cL_law 249 = .ok (.aload_n 0, 1) := by decide +kernel
theorem dL_law_250 : decode cL_law 250 = .ok (.iload_n 3, 1) := by decide +kernel
theorem dL_law_251 : decode cL_law 251 = .ok (.iconst 4, 1) := by decide +kernel
theorem dL_law_252 : decode cL_law 252 = .ok (.iadd, 1) := by decide +kernel
theorem dL_law_253 : decode cL_law 253 = .ok (.iaload, 1) := by decide +kernel
theorem dL_law_254 : decode cL_law 254 = .ok (.invokevirtual 18, 3) := by decide +kernel
theorem dL_law_257 : decode cL_law 257 = .ok (.aload_n 2, 1) := by decide +kernel
theorem dL_law_258 : decode cL_law 258 = .ok (.aload_n 0, 1) := by decide +kernel
theorem dL_law_259 : decode cL_law 259 = .ok (.iload_n 3, 1) := by decide +kernel
theorem dL_law_260 : decode cL_law 260 = .ok (.iconst 1, 1) := by decide +kernel
theorem dL_law_261 : decode cL_law 261 = .ok (.iadd, 1) := by decide +kernel
theorem dL_law_262 : decode cL_law 262 = .ok (.iaload, 1) := by decide +kernel
theorem dL_law_263 : decode cL_law 263 = .ok (.aload_n 0, 1) := by decide +kernel
theorem dL_law_264 : decode cL_law 264 = .ok (.iload_n 3, 1) := by decide +kernel
theorem dL_law_265 : decode cL_law 265 = .ok (.iconst 2, 1) := by decide +kernel
theorem dL_law_266 : decode cL_law 266 = .ok (.iadd, 1) := by decide +kernel
theorem dL_law_267 : decode cL_law 267 = .ok (.iaload, 1) := by decide +kernel
theorem dL_law_268 : decode cL_law 268 = .ok (.aload_n 0, 1) := by decide +kernel
theorem dL_law_269 : decode cL_law 269 = .ok (.iload_n 3, 1) := by decide +kernel
theorem dL_law_270 : decode cL_law 270 = .ok (.iconst 3, 1) := by decide +kernel
theorem dL_law_271 : decode cL_law 271 = .ok (.iadd, 1) := by decide +kernel
theorem dL_law_272 : decode cL_law 272 = .ok (.iaload, 1) := by decide +kernel
theorem dL_law_273 : decode cL_law 273 = .ok (.aload_n 0, 1) := by decide +kernel
theorem dL_law_274 : decode cL_law 274 = .ok (.iload_n 3, 1) := by decide +kernel
theorem dL_law_275 : decode cL_law 275 = .ok (.iconst 4, 1) := by decide +kernel
theorem dL_law_276 : decode cL_law 276 = .ok (.iadd, 1) := by decide +kernel
theorem dL_law_277 : decode cL_law 277 = .ok (.iaload, 1) := by decide +kernel
theorem dL_law_278 : decode cL_law 278 = .ok (.invokevirtual 22, 3) := by decide +kernel
theorem dL_law_281 : decode cL_law 281 = .ok (.if_icmp .eq 1491, 3) := by decide +kernel
theorem dL_law_284 : decode cL_law 284 = .ok (.iconst 0, 1) := by decide +kernel
theorem dL_law_285 : decode cL_law 285 = .ok (.ireturn, 1) := by decide +kernel
theorem dL_law_286 : decode cL_law 286 = .ok (.aload_n 1, 1) := by decide +kernel
theorem dL_law_287 : decode cL_law 287 = .ok (.aload_n 0, 1) := by decide +kernel
theorem dL_law_288 : decode cL_law 288 = .ok (.iload_n 3, 1) := by decide +kernel
theorem dL_law_289 : decode cL_law 289 = .ok (.iconst 1, 1) := by decide +kernel
theorem dL_law_290 : decode cL_law 290 = .ok (.iadd, 1) := by decide +kernel
theorem dL_law_291 : decode cL_law 291 = .ok (.iaload, 1) := by decide +kernel
theorem dL_law_292 : decode cL_law 292 = .ok (.aload_n 0, 1) := by decide +kernel
theorem dL_law_293 : decode cL_law 293 = .ok (.iload_n 3, 1) := by decide +kernel
theorem dL_law_294 : decode cL_law 294 = .ok (.iconst 2, 1) := by decide +kernel
theorem dL_law_295 : decode cL_law 295 = .ok (.iadd, 1) := by decide +kernel
theorem dL_law_296 : decode cL_law 296 = .ok (.iaload, 1) := by decide +kernel
theorem dL_law_297 : decode cL_law 297 = .ok (.invokevirtual 23, 3) := by decide +kernel
theorem dL_law_300 : decode cL_law 300 = .ok (.aload_n 2, 1) := by decide +kernel
theorem dL_law_301 : decode cL_law 301 = .ok (.aload_n 0, 1) := by decide +kernel
theorem dL_law_302 : decode cL_law 302 = .ok (.iload_n 3, 1) := by decide +kernel
theorem dL_law_303 : decode cL_law 303 = .ok (.iconst 1, 1) := by decide +kernel
theorem dL_law_304 : decode cL_law 304 = .ok (.iadd, 1) := by decide +kernel
theorem dL_law_305 : decode cL_law 305 = .ok (.iaload, 1) := by decide +kernel
theorem dL_law_306 : decode cL_law 306 = .ok (.aload_n 0, 1) := by decide +kernel
theorem dL_law_307 : decode cL_law 307 = .ok (.iload_n 3, 1) := by decide +kernel
theorem dL_law_308 : decode cL_law 308 = .ok (.iconst 2, 1) := by decide +kernel
theorem dL_law_309 : decode cL_law 309 = .ok (.iadd, 1) := by decide +kernel
theorem dL_law_310 : decode cL_law 310 = .ok (.iaload, 1) := by decide +kernel
theorem dL_law_311 : decode cL_law 311 = .ok (.invokevirtual 26, 3) := by decide +kernel
theorem dL_law_314 : decode cL_law 314 = .ok (.if_icmp .eq 1458, 3) := by decide +kernel
theorem dL_law_317 : decode cL_law 317 = .ok (.iconst 0, 1) := by decide +kernel
theorem dL_law_318 : decode cL_law 318 = .ok (.ireturn, 1) := by decide +kernel
theorem dL_law_319 : decode cL_law 319 = .ok (.aload_n 1, 1) := by decide +kernel
theorem dL_law_320 : decode cL_law 320 = .ok (.aload_n 0, 1) := by decide +kernel
theorem dL_law_321 : decode cL_law 321 = .ok (.iload_n 3, 1) := by decide +kernel
theorem dL_law_322 : decode cL_law 322 = .ok (.iconst 1, 1) := by decide +kernel
theorem dL_law_323 : decode cL_law 323 = .ok (.iadd, 1) := by decide +kernel
theorem dL_law_324 : decode cL_law 324 = .ok (.iaload, 1) := by decide +kernel
theorem dL_law_325 : decode cL_law 325 = .ok (.aload_n 0, 1) := by decide +kernel
theorem dL_law_326 : decode cL_law 326 = .ok (.iload_n 3, 1) := by decide +kernel
theorem dL_law_327 : decode cL_law 327 = .ok (.iconst 2, 1) := by decide +kernel
theorem dL_law_328 : decode cL_law 328 = .ok (.iadd, 1) := by decide +kernel
theorem dL_law_329 : decode cL_law 329 = .ok (.iaload, 1) := by decide +kernel
theorem dL_law_330 : decode cL_law 330 = .ok (.invokevirtual 27, 3) := by decide +kernel
theorem dL_law_333 : decode cL_law 333 = .ok (.aload_n 2, 1) := by decide +kernel
theorem dL_law_334 : decode cL_law 334 = .ok (.aload_n 0, 1) := by decide +kernel
theorem dL_law_335 : decode cL_law 335 = .ok (.iload_n 3, 1) := by decide +kernel
theorem dL_law_336 : decode cL_law 336 = .ok (.iconst 1, 1) := by decide +kernel
theorem dL_law_337 : decode cL_law 337 = .ok (.iadd, 1) := by decide +kernel
theorem dL_law_338 : decode cL_law 338 = .ok (.iaload, 1) := by decide +kernel
theorem dL_law_339 : decode cL_law 339 = .ok (.aload_n 0, 1) := by decide +kernel
theorem dL_law_340 : decode cL_law 340 = .ok (.iload_n 3, 1) := by decide +kernel
theorem dL_law_341 : decode cL_law 341 = .ok (.iconst 2, 1) := by decide +kernel
theorem dL_law_342 : decode cL_law 342 = .ok (.iadd, 1) := by decide +kernel
theorem dL_law_343 : decode cL_law 343 = .ok (.iaload, 1) := by decide +kernel
theorem dL_law_344 : decode cL_law 344 = .ok (.invokevirtual 30, 3) := by decide +kernel
theorem dL_law_347 : decode cL_law 347 = .ok (.if_icmp .eq 1425, 3) := by decide +kernel
theorem dL_law_350 : decode cL_law 350 = .ok (.iconst 0, 1) := by decide +kernel
theorem dL_law_351 : decode cL_law 351 = .ok (.ireturn, 1) := by decide +kernel
theorem dL_law_352 : decode cL_law 352 = .ok (.aload_n 1, 1) := by decide +kernel
theorem dL_law_353 : decode cL_law 353 = .ok (.aload_n 0, 1) := by decide +kernel
theorem dL_law_354 : decode cL_law 354 = .ok (.iload_n 3, 1) := by decide +kernel
theorem dL_law_355 : decode cL_law 355 = .ok (.iconst 1, 1) := by decide +kernel
theorem dL_law_356 : decode cL_law 356 = .ok (.iadd, 1) := by decide +kernel
theorem dL_law_357 : decode cL_law 357 = .ok (.iaload, 1) := by decide +kernel
theorem dL_law_358 : decode cL_law 358 = .ok (.aload_n 0, 1) := by decide +kernel
theorem dL_law_359 : decode cL_law 359 = .ok (.iload_n 3, 1) := by decide +kernel
theorem dL_law_360 : decode cL_law 360 = .ok (.iconst 2, 1) := by decide +kernel
theorem dL_law_361 : decode cL_law 361 = .ok (.iadd, 1) := by decide +kernel
theorem dL_law_362 : decode cL_law 362 = .ok (.iaload, 1) := by decide +kernel
theorem dL_law_363 : decode cL_law 363 = .ok (.invokevirtual 31, 3) := by decide +kernel
theorem dL_law_366 : decode cL_law 366 = .ok (.aload_n 2, 1) := by decide +kernel
theorem dL_law_367 : decode cL_law 367 = .ok (.aload_n 0, 1) := by decide +kernel
theorem dL_law_368 : decode cL_law 368 = .ok (.iload_n 3, 1) := by decide +kernel
theorem dL_law_369 : decode cL_law 369 = .ok (.iconst 1, 1) := by decide +kernel
theorem dL_law_370 : decode cL_law 370 = .ok (.iadd, 1) := by decide +kernel
theorem dL_law_371 : decode cL_law 371 = .ok (.iaload, 1) := by decide +kernel
theorem dL_law_372 : decode cL_law 372 = .ok (.aload_n 0, 1) := by decide +kernel
theorem dL_law_373 : decode cL_law 373 = .ok (.iload_n 3, 1) := by decide +kernel
theorem dL_law_374 : decode cL_law 374 = .ok (.iconst 2, 1) := by decide +kernel
theorem dL_law_375 : decode cL_law 375 = .ok (.iadd, 1) := by decide +kernel
theorem dL_law_376 : decode cL_law 376 = .ok (.iaload, 1) := by decide +kernel
theorem dL_law_377 : decode cL_law 377 = .ok (.invokevirtual 34, 3) := by decide +kernel
theorem dL_law_380 : decode cL_law 380 = .ok (.if_icmp .eq 1392, 3) := by decide +kernel
theorem dL_law_383 : decode cL_law 383 = .ok (.iconst 0, 1) := by decide +kernel
theorem dL_law_384 : decode cL_law 384 = .ok (.ireturn, 1) := by decide +kernel
theorem dL_law_385 : decode cL_law 385 = .ok (.aload_n 1, 1) := by decide +kernel
theorem dL_law_386 : decode cL_law 386 = .ok (.aload_n 0, 1) := by decide +kernel
theorem dL_law_387 : decode cL_law 387 = .ok (.iload_n 3, 1) := by decide +kernel
theorem dL_law_388 : decode cL_law 388 = .ok (.iconst 1, 1) := by decide +kernel
theorem dL_law_389 : decode cL_law 389 = .ok (.iadd, 1) := by decide +kernel
theorem dL_law_390 : decode cL_law 390 = .ok (.iaload, 1) := by decide +kernel
theorem dL_law_391 : decode cL_law 391 = .ok (.aload_n 0, 1) := by decide +kernel
theorem dL_law_392 : decode cL_law 392 = .ok (.iload_n 3, 1) := by decide +kernel
theorem dL_law_393 : decode cL_law 393 = .ok (.iconst 2, 1) := by decide +kernel
theorem dL_law_394 : decode cL_law 394 = .ok (.iadd, 1) := by decide +kernel
theorem dL_law_395 : decode cL_law 395 = .ok (.iaload, 1) := by decide +kernel
theorem dL_law_396 : decode cL_law 396 = .ok (.aload_n 0, 1) := by decide +kernel
theorem dL_law_397 : decode cL_law 397 = .ok (.iload_n 3, 1) := by decide +kernel
theorem dL_law_398 : decode cL_law 398 = .ok (.iconst 3, 1) := by decide +kernel
theorem dL_law_399 : decode cL_law 399 = .ok (.iadd, 1) := by decide +kernel
theorem dL_law_400 : decode cL_law 400 = .ok (.iaload, 1) := by decide +kernel
theorem dL_law_401 : decode cL_law 401 = .ok (.aload_n 0, 1) := by decide +kernel
theorem dL_law_402 : decode cL_law 402 = .ok (.iload_n 3, 1) := by decide +kernel
theorem dL_law_403 : decode cL_law 403 = .ok (.iconst 4, 1) := by decide +kernel
theorem dL_law_404 : decode cL_law 404 = .ok (.iadd, 1) := by decide +kernel
theorem dL_law_405 : decode cL_law 405 = .ok (.iaload, 1) := by decide +kernel
theorem dL_law_406 : decode cL_law 406 = .ok (.aload_n 0, 1) := by decide +kernel
theorem dL_law_407 : decode cL_law 407 = .ok (.iload_n 3, 1) := by decide +kernel
theorem dL_law_408 : decode cL_law 408 = .ok (.iconst 5, 1) := by decide +kernel
theorem dL_law_409 : decode cL_law 409 = .ok (.iadd, 1) := by decide +kernel
theorem dL_law_410 : decode cL_law 410 = .ok (.iaload, 1) := by decide +kernel
theorem dL_law_411 : decode cL_law 411 = .ok (.invokevirtual 35, 3) := by decide +kernel
theorem dL_law_414 : decode cL_law 414 = .ok (.aload_n 2, 1) := by decide +kernel
theorem dL_law_415 : decode cL_law 415 = .ok (.aload_n 0, 1) := by decide +kernel
theorem dL_law_416 : decode cL_law 416 = .ok (.iload_n 3, 1) := by decide +kernel
theorem dL_law_417 : decode cL_law 417 = .ok (.iconst 1, 1) := by decide +kernel
theorem dL_law_418 : decode cL_law 418 = .ok (.iadd, 1) := by decide +kernel
theorem dL_law_419 : decode cL_law 419 = .ok (.iaload, 1) := by decide +kernel
theorem dL_law_420 : decode cL_law 420 = .ok (.aload_n 0, 1) := by decide +kernel
theorem dL_law_421 : decode cL_law 421 = .ok (.iload_n 3, 1) := by decide +kernel
theorem dL_law_422 : decode cL_law 422 = .ok (.iconst 2, 1) := by decide +kernel
theorem dL_law_423 : decode cL_law 423 = .ok (.iadd, 1) := by decide +kernel
theorem dL_law_424 : decode cL_law 424 = .ok (.iaload, 1) := by decide +kernel
theorem dL_law_425 : decode cL_law 425 = .ok (.aload_n 0, 1) := by decide +kernel
theorem dL_law_426 : decode cL_law 426 = .ok (.iload_n 3, 1) := by decide +kernel
theorem dL_law_427 : decode cL_law 427 = .ok (.iconst 3, 1) := by decide +kernel
theorem dL_law_428 : decode cL_law 428 = .ok (.iadd, 1) := by decide +kernel
theorem dL_law_429 : decode cL_law 429 = .ok (.iaload, 1) := by decide +kernel
theorem dL_law_430 : decode cL_law 430 = .ok (.aload_n 0, 1) := by decide +kernel
theorem dL_law_431 : decode cL_law 431 = .ok (.iload_n 3, 1) := by decide +kernel
theorem dL_law_432 : decode cL_law 432 = .ok (.iconst 4, 1) := by decide +kernel
theorem dL_law_433 : decode cL_law 433 = .ok (.iadd, 1) := by decide +kernel
theorem dL_law_434 : decode cL_law 434 = .ok (.iaload, 1) := by decide +kernel
theorem dL_law_435 : decode cL_law 435 = .ok (.aload_n 0, 1) := by decide +kernel
theorem dL_law_436 : decode cL_law 436 = .ok (.iload_n 3, 1) := by decide +kernel
theorem dL_law_437 : decode cL_law 437 = .ok (.iconst 5, 1) := by decide +kernel
theorem dL_law_438 : decode cL_law 438 = .ok (.iadd, 1) := by decide +kernel
theorem dL_law_439 : decode cL_law 439 = .ok (.iaload, 1) := by decide +kernel
theorem dL_law_440 : decode cL_law 440 = .ok (.invokevirtual 39, 3) := by decide +kernel
theorem dL_law_443 : decode cL_law 443 = .ok (.lcmp, 1) := by decide +kernel
theorem dL_law_444 : decode cL_law 444 = .ok (.ifCond .eq 1328, 3) := by decide +kernel
theorem dL_law_447 : decode cL_law 447 = .ok (.iconst 0, 1) := by decide +kernel
theorem dL_law_448 : decode cL_law 448 = .ok (.ireturn, 1) := by decide +kernel
theorem dL_law_449 : decode cL_law 449 = .ok (.aload_n 1, 1) := by decide +kernel
theorem dL_law_450 : decode cL_law 450 = .ok (.aload_n 0, 1) := by decide +kernel
theorem dL_law_451 : decode cL_law 451 = .ok (.iload_n 3, 1) := by decide +kernel
theorem dL_law_452 : decode cL_law 452 = .ok (.iconst 1, 1) := by decide +kernel
theorem dL_law_453 : decode cL_law 453 = .ok (.iadd, 1) := by decide +kernel
theorem dL_law_454 : decode cL_law 454 = .ok (.iaload, 1) := by decide +kernel
theorem dL_law_455 : decode cL_law 455 = .ok (.aload_n 0, 1) := by decide +kernel
theorem dL_law_456 : decode cL_law 456 = .ok (.iload_n 3, 1) := by decide +kernel
theorem dL_law_457 : decode cL_law 457 = .ok (.iconst 2, 1) := by decide +kernel
theorem dL_law_458 : decode cL_law 458 = .ok (.iadd, 1) := by decide +kernel
theorem dL_law_459 : decode cL_law 459 = .ok (.iaload, 1) := by decide +kernel
theorem dL_law_460 : decode cL_law 460 = .ok (.aload_n 0, 1) := by decide +kernel
theorem dL_law_461 : decode cL_law 461 = .ok (.iload_n 3, 1) := by decide +kernel
theorem dL_law_462 : decode cL_law 462 = .ok (.iconst 3, 1) := by decide +kernel
theorem dL_law_463 : decode cL_law 463 = .ok (.iadd, 1) := by decide +kernel
theorem dL_law_464 : decode cL_law 464 = .ok (.iaload, 1) := by decide +kernel
theorem dL_law_465 : decode cL_law 465 = .ok (.aload_n 0, 1) := by decide +kernel
theorem dL_law_466 : decode cL_law 466 = .ok (.iload_n 3, 1) := by decide +kernel
theorem dL_law_467 : decode cL_law 467 = .ok (.iconst 4, 1) := by decide +kernel
theorem dL_law_468 : decode cL_law 468 = .ok (.iadd, 1) := by decide +kernel
theorem dL_law_469 : decode cL_law 469 = .ok (.iaload, 1) := by decide +kernel
theorem dL_law_470 : decode cL_law 470 = .ok (.invokevirtual 40, 3) := by decide +kernel
theorem dL_law_473 : decode cL_law 473 = .ok (.aload_n 2, 1) := by decide +kernel
theorem dL_law_474 : decode cL_law 474 = .ok (.aload_n 0, 1) := by decide +kernel
theorem dL_law_475 : decode cL_law 475 = .ok (.iload_n 3, 1) := by decide +kernel
theorem dL_law_476 : decode cL_law 476 = .ok (.iconst 1, 1) := by decide +kernel
theorem dL_law_477 : decode cL_law 477 = .ok (.iadd, 1) := by decide +kernel
theorem dL_law_478 : decode cL_law 478 = .ok (.iaload, 1) := by decide +kernel
theorem dL_law_479 : decode cL_law 479 = .ok (.aload_n 0, 1) := by decide +kernel
theorem dL_law_480 : decode cL_law 480 = .ok (.iload_n 3, 1) := by decide +kernel
theorem dL_law_481 : decode cL_law 481 = .ok (.iconst 2, 1) := by decide +kernel
theorem dL_law_482 : decode cL_law 482 = .ok (.iadd, 1) := by decide +kernel
theorem dL_law_483 : decode cL_law 483 = .ok (.iaload, 1) := by decide +kernel
theorem dL_law_484 : decode cL_law 484 = .ok (.aload_n 0, 1) := by decide +kernel
theorem dL_law_485 : decode cL_law 485 = .ok (.iload_n 3, 1) := by decide +kernel
theorem dL_law_486 : decode cL_law 486 = .ok (.iconst 3, 1) := by decide +kernel
theorem dL_law_487 : decode cL_law 487 = .ok (.iadd, 1) := by decide +kernel
theorem dL_law_488 : decode cL_law 488 = .ok (.iaload, 1) := by decide +kernel
theorem dL_law_489 : decode cL_law 489 = .ok (.aload_n 0, 1) := by decide +kernel
theorem dL_law_490 : decode cL_law 490 = .ok (.iload_n 3, 1) := by decide +kernel
theorem dL_law_491 : decode cL_law 491 = .ok (.iconst 4, 1) := by decide +kernel
theorem dL_law_492 : decode cL_law 492 = .ok (.iadd, 1) := by decide +kernel
theorem dL_law_493 : decode cL_law 493 = .ok (.iaload, 1) := by decide +kernel
theorem dL_law_494 : decode cL_law 494 = .ok (.invokevirtual 43, 3) := by decide +kernel
theorem dL_law_497 : decode cL_law 497 = .ok (.if_icmp .eq 1275, 3) := by decide +kernel
theorem dL_law_500 : decode cL_law 500 = .ok (.iconst 0, 1) := by decide +kernel
theorem dL_law_501 : decode cL_law 501 = .ok (.ireturn, 1) := by decide +kernel
theorem dL_law_502 : decode cL_law 502 = .ok (.aload_n 1, 1) := by decide +kernel
theorem dL_law_503 : decode cL_law 503 = .ok (.aload_n 0, 1) := by decide +kernel
theorem dL_law_504 : decode cL_law 504 = .ok (.iload_n 3, 1) := by decide +kernel
theorem dL_law_505 : decode cL_law 505 = .ok (.iconst 1, 1) := by decide +kernel
theorem dL_law_506 : decode cL_law 506 = .ok (.iadd, 1) := by decide +kernel
theorem dL_law_507 : decode cL_law 507 = .ok (.iaload, 1) := by decide +kernel
theorem dL_law_508 : decode cL_law 508 = .ok (.aload_n 0, 1) := by decide +kernel
theorem dL_law_509 : decode cL_law 509 = .ok (.iload_n 3, 1) := by decide +kernel
theorem dL_law_510 : decode cL_law 510 = .ok (.iconst 2, 1) := by decide +kernel
theorem dL_law_511 : decode cL_law 511 = .ok (.iadd, 1) := by decide +kernel
theorem dL_law_512 : decode cL_law 512 = .ok (.iaload, 1) := by decide +kernel
theorem dL_law_513 : decode cL_law 513 = .ok (.invokevirtual 44, 3) := by decide +kernel
theorem dL_law_516 : decode cL_law 516 = .ok (.aload_n 2, 1) := by decide +kernel
theorem dL_law_517 : decode cL_law 517 = .ok (.aload_n 0, 1) := by decide +kernel
theorem dL_law_518 : decode cL_law 518 = .ok (.iload_n 3, 1) := by decide +kernel
theorem dL_law_519 : decode cL_law 519 = .ok (.iconst 1, 1) := by decide +kernel
theorem dL_law_520 : decode cL_law 520 = .ok (.iadd, 1) := by decide +kernel
theorem dL_law_521 : decode cL_law 521 = .ok (.iaload, 1) := by decide +kernel
theorem dL_law_522 : decode cL_law 522 = .ok (.aload_n 0, 1) := by decide +kernel
theorem dL_law_523 : decode cL_law 523 = .ok (.iload_n 3, 1) := by decide +kernel
theorem dL_law_524 : decode cL_law 524 = .ok (.iconst 2, 1) := by decide +kernel
theorem dL_law_525 : decode cL_law 525 = .ok (.iadd, 1) := by decide +kernel
theorem dL_law_526 : decode cL_law 526 = .ok (.iaload, 1) := by decide +kernel
theorem dL_law_527 : decode cL_law 527 = .ok (.invokevirtual 47, 3) := by decide +kernel
theorem dL_law_530 : decode cL_law 530 = .ok (.if_icmp .eq 1242, 3) := by decide +kernel
theorem dL_law_533 : decode cL_law 533 = .ok (.iconst 0, 1) := by decide +kernel
theorem dL_law_534 : decode cL_law 534 = .ok (.ireturn, 1) := by decide +kernel
theorem dL_law_535 : decode cL_law 535 = .ok (.aload_n 1, 1) := by decide +kernel
theorem dL_law_536 : decode cL_law 536 = .ok (.aload_n 0, 1) := by decide +kernel
theorem dL_law_537 : decode cL_law 537 = .ok (.iload_n 3, 1) := by decide +kernel
theorem dL_law_538 : decode cL_law 538 = .ok (.iconst 1, 1) := by decide +kernel
theorem dL_law_539 : decode cL_law 539 = .ok (.iadd, 1) := by decide +kernel
theorem dL_law_540 : decode cL_law 540 = .ok (.iaload, 1) := by decide +kernel
theorem dL_law_541 : decode cL_law 541 = .ok (.aload_n 0, 1) := by decide +kernel
theorem dL_law_542 : decode cL_law 542 = .ok (.iload_n 3, 1) := by decide +kernel
theorem dL_law_543 : decode cL_law 543 = .ok (.iconst 2, 1) := by decide +kernel
theorem dL_law_544 : decode cL_law 544 = .ok (.iadd, 1) := by decide +kernel
theorem dL_law_545 : decode cL_law 545 = .ok (.iaload, 1) := by decide +kernel
theorem dL_law_546 : decode cL_law 546 = .ok (.aload_n 0, 1) := by decide +kernel
theorem dL_law_547 : decode cL_law 547 = .ok (.iload_n 3, 1) := by decide +kernel
theorem dL_law_548 : decode cL_law 548 = .ok (.iconst 3, 1) := by decide +kernel
theorem dL_law_549 : decode cL_law 549 = .ok (.iadd, 1) := by decide +kernel
theorem dL_law_550 : decode cL_law 550 = .ok (.iaload, 1) := by decide +kernel
theorem dL_law_551 : decode cL_law 551 = .ok (.aload_n 0, 1) := by decide +kernel
theorem dL_law_552 : decode cL_law 552 = .ok (.iload_n 3, 1) := by decide +kernel
theorem dL_law_553 : decode cL_law 553 = .ok (.iconst 4, 1) := by decide +kernel
theorem dL_law_554 : decode cL_law 554 = .ok (.iadd, 1) := by decide +kernel
theorem dL_law_555 : decode cL_law 555 = .ok (.iaload, 1) := by decide +kernel
theorem dL_law_556 : decode cL_law 556 = .ok (.invokevirtual 48, 3) := by decide +kernel
theorem dL_law_559 : decode cL_law 559 = .ok (.aload_n 2, 1) := by decide +kernel
theorem dL_law_560 : decode cL_law 560 = .ok (.aload_n 0, 1) := by decide +kernel
theorem dL_law_561 : decode cL_law 561 = .ok (.iload_n 3, 1) := by decide +kernel
theorem dL_law_562 : decode cL_law 562 = .ok (.iconst 1, 1) := by decide +kernel
theorem dL_law_563 : decode cL_law 563 = .ok (.iadd, 1) := by decide +kernel
theorem dL_law_564 : decode cL_law 564 = .ok (.iaload, 1) := by decide +kernel
theorem dL_law_565 : decode cL_law 565 = .ok (.aload_n 0, 1) := by decide +kernel
theorem dL_law_566 : decode cL_law 566 = .ok (.iload_n 3, 1) := by decide +kernel
theorem dL_law_567 : decode cL_law 567 = .ok (.iconst 2, 1) := by decide +kernel
theorem dL_law_568 : decode cL_law 568 = .ok (.iadd, 1) := by decide +kernel
theorem dL_law_569 : decode cL_law 569 = .ok (.iaload, 1) := by decide +kernel
theorem dL_law_570 : decode cL_law 570 = .ok (.aload_n 0, 1) := by decide +kernel
theorem dL_law_571 : decode cL_law 571 = .ok (.iload_n 3, 1) := by decide +kernel
theorem dL_law_572 : decode cL_law 572 = .ok (.iconst 3, 1) := by decide +kernel
theorem dL_law_573 : decode cL_law 573 = .ok (.iadd, 1) := by decide +kernel
theorem dL_law_574 : decode cL_law 574 = .ok (.iaload, 1) := by decide +kernel
theorem dL_law_575 : decode cL_law 575 = .ok (.aload_n 0, 1) := by decide +kernel
theorem dL_law_576 : decode cL_law 576 = .ok (.iload_n 3, 1) := by decide +kernel
theorem dL_law_577 : decode cL_law 577 = .ok (.iconst 4, 1) := by decide +kernel
theorem dL_law_578 : decode cL_law 578 = .ok (.iadd, 1) := by decide +kernel
theorem dL_law_579 : decode cL_law 579 = .ok (.iaload, 1) := by decide +kernel
theorem dL_law_580 : decode cL_law 580 = .ok (.invokevirtual 51, 3) := by decide +kernel
theorem dL_law_583 : decode cL_law 583 = .ok (.if_icmp .eq 1189, 3) := by decide +kernel
theorem dL_law_586 : decode cL_law 586 = .ok (.iconst 0, 1) := by decide +kernel
theorem dL_law_587 : decode cL_law 587 = .ok (.ireturn, 1) := by decide +kernel
theorem dL_law_588 : decode cL_law 588 = .ok (.aload_n 1, 1) := by decide +kernel
theorem dL_law_589 : decode cL_law 589 = .ok (.aload_n 0, 1) := by decide +kernel
theorem dL_law_590 : decode cL_law 590 = .ok (.iload_n 3, 1) := by decide +kernel
theorem dL_law_591 : decode cL_law 591 = .ok (.iconst 1, 1) := by decide +kernel
theorem dL_law_592 : decode cL_law 592 = .ok (.iadd, 1) := by decide +kernel
theorem dL_law_593 : decode cL_law 593 = .ok (.iaload, 1) := by decide +kernel
theorem dL_law_594 : decode cL_law 594 = .ok (.aload_n 0, 1) := by decide +kernel
theorem dL_law_595 : decode cL_law 595 = .ok (.iload_n 3, 1) := by decide +kernel
theorem dL_law_596 : decode cL_law 596 = .ok (.iconst 2, 1) := by decide +kernel
theorem dL_law_597 : decode cL_law 597 = .ok (.iadd, 1) := by decide +kernel
theorem dL_law_598 : decode cL_law 598 = .ok (.iaload, 1) := by decide +kernel
theorem dL_law_599 : decode cL_law 599 = .ok (.aload_n 0, 1) := by decide +kernel
theorem dL_law_600 : decode cL_law 600 = .ok (.iload_n 3, 1) := by decide +kernel
theorem dL_law_601 : decode cL_law 601 = .ok (.iconst 3, 1) := by decide +kernel
theorem dL_law_602 : decode cL_law 602 = .ok (.iadd, 1) := by decide +kernel
theorem dL_law_603 : decode cL_law 603 = .ok (.iaload, 1) := by decide +kernel
theorem dL_law_604 : decode cL_law 604 = .ok (.aload_n 0, 1) := by decide +kernel
theorem dL_law_605 : decode cL_law 605 = .ok (.iload_n 3, 1) := by decide +kernel
theorem dL_law_606 : decode cL_law 606 = .ok (.iconst 4, 1) := by decide +kernel
theorem dL_law_607 : decode cL_law 607 = .ok (.iadd, 1) := by decide +kernel
theorem dL_law_608 : decode cL_law 608 = .ok (.iaload, 1) := by decide +kernel
theorem dL_law_609 : decode cL_law 609 = .ok (.invokevirtual 52, 3) := by decide +kernel
theorem dL_law_612 : decode cL_law 612 = .ok (.aload_n 2, 1) := by decide +kernel
theorem dL_law_613 : decode cL_law 613 = .ok (.aload_n 0, 1) := by decide +kernel
theorem dL_law_614 : decode cL_law 614 = .ok (.iload_n 3, 1) := by decide +kernel
theorem dL_law_615 : decode cL_law 615 = .ok (.iconst 1, 1) := by decide +kernel
theorem dL_law_616 : decode cL_law 616 = .ok (.iadd, 1) := by decide +kernel
theorem dL_law_617 : decode cL_law 617 = .ok (.iaload, 1) := by decide +kernel
theorem dL_law_618 : decode cL_law 618 = .ok (.aload_n 0, 1) := by decide +kernel
theorem dL_law_619 : decode cL_law 619 = .ok (.iload_n 3, 1) := by decide +kernel
theorem dL_law_620 : decode cL_law 620 = .ok (.iconst 2, 1) := by decide +kernel
theorem dL_law_621 : decode cL_law 621 = .ok (.iadd, 1) := by decide +kernel
theorem dL_law_622 : decode cL_law 622 = .ok (.iaload, 1) := by decide +kernel
theorem dL_law_623 : decode cL_law 623 = .ok (.aload_n 0, 1) := by decide +kernel
theorem dL_law_624 : decode cL_law 624 = .ok (.iload_n 3, 1) := by decide +kernel
theorem dL_law_625 : decode cL_law 625 = .ok (.iconst 3, 1) := by decide +kernel
theorem dL_law_626 : decode cL_law 626 = .ok (.iadd, 1) := by decide +kernel
theorem dL_law_627 : decode cL_law 627 = .ok (.iaload, 1) := by decide +kernel
theorem dL_law_628 : decode cL_law 628 = .ok (.aload_n 0, 1) := by decide +kernel
theorem dL_law_629 : decode cL_law 629 = .ok (.iload_n 3, 1) := by decide +kernel
theorem dL_law_630 : decode cL_law 630 = .ok (.iconst 4, 1) := by decide +kernel
theorem dL_law_631 : decode cL_law 631 = .ok (.iadd, 1) := by decide +kernel
theorem dL_law_632 : decode cL_law 632 = .ok (.iaload, 1) := by decide +kernel
theorem dL_law_633 : decode cL_law 633 = .ok (.invokevirtual 55, 3) := by decide +kernel
theorem dL_law_636 : decode cL_law 636 = .ok (.if_icmp .eq 1136, 3) := by decide +kernel
theorem dL_law_639 : decode cL_law 639 = .ok (.iconst 0, 1) := by decide +kernel
theorem dL_law_640 : decode cL_law 640 = .ok (.ireturn, 1) := by decide +kernel
theorem dL_law_641 : decode cL_law 641 = .ok (.aload_n 1, 1) := by decide +kernel
theorem dL_law_642 : decode cL_law 642 = .ok (.aload_n 0, 1) := by decide +kernel
theorem dL_law_643 : decode cL_law 643 = .ok (.iload_n 3, 1) := by decide +kernel
theorem dL_law_644 : decode cL_law 644 = .ok (.iconst 1, 1) := by decide +kernel
theorem dL_law_645 : decode cL_law 645 = .ok (.iadd, 1) := by decide +kernel
theorem dL_law_646 : decode cL_law 646 = .ok (.iaload, 1) := by decide +kernel
theorem dL_law_647 : decode cL_law 647 = .ok (.aload_n 0, 1) := by decide +kernel
theorem dL_law_648 : decode cL_law 648 = .ok (.iload_n 3, 1) := by decide +kernel
theorem dL_law_649 : decode cL_law 649 = .ok (.iconst 2, 1) := by decide +kernel
theorem dL_law_650 : decode cL_law 650 = .ok (.iadd, 1) := by decide +kernel
theorem dL_law_651 : decode cL_law 651 = .ok (.iaload, 1) := by decide +kernel
theorem dL_law_652 : decode cL_law 652 = .ok (.aload_n 0, 1) := by decide +kernel
theorem dL_law_653 : decode cL_law 653 = .ok (.iload_n 3, 1) := by decide +kernel
theorem dL_law_654 : decode cL_law 654 = .ok (.iconst 3, 1) := by decide +kernel
theorem dL_law_655 : decode cL_law 655 = .ok (.iadd, 1) := by decide +kernel
theorem dL_law_656 : decode cL_law 656 = .ok (.iaload, 1) := by decide +kernel
theorem dL_law_657 : decode cL_law 657 = .ok (.invokevirtual 56, 3) := by decide +kernel
theorem dL_law_660 : decode cL_law 660 = .ok (.aload_n 2, 1) := by decide +kernel
theorem dL_law_661 : decode cL_law 661 = .ok (.aload_n 0, 1) := by decide +kernel
theorem dL_law_662 : decode cL_law 662 = .ok (.iload_n 3, 1) := by decide +kernel
theorem dL_law_663 : decode cL_law 663 = .ok (.iconst 1, 1) := by decide +kernel
theorem dL_law_664 : decode cL_law 664 = .ok (.iadd, 1) := by decide +kernel
theorem dL_law_665 : decode cL_law 665 = .ok (.iaload, 1) := by decide +kernel
theorem dL_law_666 : decode cL_law 666 = .ok (.aload_n 0, 1) := by decide +kernel
theorem dL_law_667 : decode cL_law 667 = .ok (.iload_n 3, 1) := by decide +kernel
theorem dL_law_668 : decode cL_law 668 = .ok (.iconst 2, 1) := by decide +kernel
theorem dL_law_669 : decode cL_law 669 = .ok (.iadd, 1) := by decide +kernel
theorem dL_law_670 : decode cL_law 670 = .ok (.iaload, 1) := by decide +kernel
theorem dL_law_671 : decode cL_law 671 = .ok (.aload_n 0, 1) := by decide +kernel
theorem dL_law_672 : decode cL_law 672 = .ok (.iload_n 3, 1) := by decide +kernel
theorem dL_law_673 : decode cL_law 673 = .ok (.iconst 3, 1) := by decide +kernel
theorem dL_law_674 : decode cL_law 674 = .ok (.iadd, 1) := by decide +kernel
theorem dL_law_675 : decode cL_law 675 = .ok (.iaload, 1) := by decide +kernel
theorem dL_law_676 : decode cL_law 676 = .ok (.invokevirtual 60, 3) := by decide +kernel
theorem dL_law_679 : decode cL_law 679 = .ok (.if_icmp .eq 1093, 3) := by decide +kernel
theorem dL_law_682 : decode cL_law 682 = .ok (.iconst 0, 1) := by decide +kernel
theorem dL_law_683 : decode cL_law 683 = .ok (.ireturn, 1) := by decide +kernel
theorem dL_law_684 : decode cL_law 684 = .ok (.aload_n 1, 1) := by decide +kernel
theorem dL_law_685 : decode cL_law 685 = .ok (.aload_n 0, 1) := by decide +kernel
theorem dL_law_686 : decode cL_law 686 = .ok (.iload_n 3, 1) := by decide +kernel
theorem dL_law_687 : decode cL_law 687 = .ok (.iconst 1, 1) := by decide +kernel
theorem dL_law_688 : decode cL_law 688 = .ok (.iadd, 1) := by decide +kernel
theorem dL_law_689 : decode cL_law 689 = .ok (.iaload, 1) := by decide +kernel
theorem dL_law_690 : decode cL_law 690 = .ok (.aload_n 0, 1) := by decide +kernel
theorem dL_law_691 : decode cL_law 691 = .ok (.iload_n 3, 1) := by decide +kernel
theorem dL_law_692 : decode cL_law 692 = .ok (.iconst 2, 1) := by decide +kernel
theorem dL_law_693 : decode cL_law 693 = .ok (.iadd, 1) := by decide +kernel
theorem dL_law_694 : decode cL_law 694 = .ok (.iaload, 1) := by decide +kernel
theorem dL_law_695 : decode cL_law 695 = .ok (.aload_n 0, 1) := by decide +kernel
theorem dL_law_696 : decode cL_law 696 = .ok (.iload_n 3, 1) := by decide +kernel
theorem dL_law_697 : decode cL_law 697 = .ok (.iconst 3, 1) := by decide +kernel
theorem dL_law_698 : decode cL_law 698 = .ok (.iadd, 1) := by decide +kernel
theorem dL_law_699 : decode cL_law 699 = .ok (.iaload, 1) := by decide +kernel
theorem dL_law_700 : decode cL_law 700 = .ok (.aload_n 0, 1) := by decide +kernel
theorem dL_law_701 : decode cL_law 701 = .ok (.iload_n 3, 1) := by decide +kernel
theorem dL_law_702 : decode cL_law 702 = .ok (.iconst 4, 1) := by decide +kernel
theorem dL_law_703 : decode cL_law 703 = .ok (.iadd, 1) := by decide +kernel
theorem dL_law_704 : decode cL_law 704 = .ok (.iaload, 1) := by decide +kernel
theorem dL_law_705 : decode cL_law 705 = .ok (.invokevirtual 61, 3) := by decide +kernel
theorem dL_law_708 : decode cL_law 708 = .ok (.aload_n 2, 1) := by decide +kernel
theorem dL_law_709 : decode cL_law 709 = .ok (.aload_n 0, 1) := by decide +kernel
theorem dL_law_710 : decode cL_law 710 = .ok (.iload_n 3, 1) := by decide +kernel
theorem dL_law_711 : decode cL_law 711 = .ok (.iconst 1, 1) := by decide +kernel
theorem dL_law_712 : decode cL_law 712 = .ok (.iadd, 1) := by decide +kernel
theorem dL_law_713 : decode cL_law 713 = .ok (.iaload, 1) := by decide +kernel
theorem dL_law_714 : decode cL_law 714 = .ok (.aload_n 0, 1) := by decide +kernel
theorem dL_law_715 : decode cL_law 715 = .ok (.iload_n 3, 1) := by decide +kernel
theorem dL_law_716 : decode cL_law 716 = .ok (.iconst 2, 1) := by decide +kernel
theorem dL_law_717 : decode cL_law 717 = .ok (.iadd, 1) := by decide +kernel
theorem dL_law_718 : decode cL_law 718 = .ok (.iaload, 1) := by decide +kernel
theorem dL_law_719 : decode cL_law 719 = .ok (.aload_n 0, 1) := by decide +kernel
theorem dL_law_720 : decode cL_law 720 = .ok (.iload_n 3, 1) := by decide +kernel
theorem dL_law_721 : decode cL_law 721 = .ok (.iconst 3, 1) := by decide +kernel
theorem dL_law_722 : decode cL_law 722 = .ok (.iadd, 1) := by decide +kernel
theorem dL_law_723 : decode cL_law 723 = .ok (.iaload, 1) := by decide +kernel
theorem dL_law_724 : decode cL_law 724 = .ok (.aload_n 0, 1) := by decide +kernel
theorem dL_law_725 : decode cL_law 725 = .ok (.iload_n 3, 1) := by decide +kernel
theorem dL_law_726 : decode cL_law 726 = .ok (.iconst 4, 1) := by decide +kernel
theorem dL_law_727 : decode cL_law 727 = .ok (.iadd, 1) := by decide +kernel
theorem dL_law_728 : decode cL_law 728 = .ok (.iaload, 1) := by decide +kernel
theorem dL_law_729 : decode cL_law 729 = .ok (.invokevirtual 64, 3) := by decide +kernel
theorem dL_law_732 : decode cL_law 732 = .ok (.if_icmp .eq 1040, 3) := by decide +kernel
theorem dL_law_735 : decode cL_law 735 = .ok (.iconst 0, 1) := by decide +kernel
theorem dL_law_736 : decode cL_law 736 = .ok (.ireturn, 1) := by decide +kernel
theorem dL_law_737 : decode cL_law 737 = .ok (.aload_n 1, 1) := by decide +kernel
theorem dL_law_738 : decode cL_law 738 = .ok (.aload_n 0, 1) := by decide +kernel
theorem dL_law_739 : decode cL_law 739 = .ok (.iload_n 3, 1) := by decide +kernel
theorem dL_law_740 : decode cL_law 740 = .ok (.iconst 1, 1) := by decide +kernel
theorem dL_law_741 : decode cL_law 741 = .ok (.iadd, 1) := by decide +kernel
theorem dL_law_742 : decode cL_law 742 = .ok (.iaload, 1) := by decide +kernel
theorem dL_law_743 : decode cL_law 743 = .ok (.aload_n 0, 1) := by decide +kernel
theorem dL_law_744 : decode cL_law 744 = .ok (.iload_n 3, 1) := by decide +kernel
theorem dL_law_745 : decode cL_law 745 = .ok (.iconst 2, 1) := by decide +kernel
theorem dL_law_746 : decode cL_law 746 = .ok (.iadd, 1) := by decide +kernel
theorem dL_law_747 : decode cL_law 747 = .ok (.iaload, 1) := by decide +kernel
theorem dL_law_748 : decode cL_law 748 = .ok (.aload_n 0, 1) := by decide +kernel
theorem dL_law_749 : decode cL_law 749 = .ok (.iload_n 3, 1) := by decide +kernel
theorem dL_law_750 : decode cL_law 750 = .ok (.iconst 3, 1) := by decide +kernel
theorem dL_law_751 : decode cL_law 751 = .ok (.iadd, 1) := by decide +kernel
theorem dL_law_752 : decode cL_law 752 = .ok (.iaload, 1) := by decide +kernel
theorem dL_law_753 : decode cL_law 753 = .ok (.invokevirtual 65, 3) := by decide +kernel
theorem dL_law_756 : decode cL_law 756 = .ok (.aload_n 2, 1) := by decide +kernel
theorem dL_law_757 : decode cL_law 757 = .ok (.aload_n 0, 1) := by decide +kernel
theorem dL_law_758 : decode cL_law 758 = .ok (.iload_n 3, 1) := by decide +kernel
theorem dL_law_759 : decode cL_law 759 = .ok (.iconst 1, 1) := by decide +kernel
theorem dL_law_760 : decode cL_law 760 = .ok (.iadd, 1) := by decide +kernel
theorem dL_law_761 : decode cL_law 761 = .ok (.iaload, 1) := by decide +kernel
theorem dL_law_762 : decode cL_law 762 = .ok (.aload_n 0, 1) := by decide +kernel
theorem dL_law_763 : decode cL_law 763 = .ok (.iload_n 3, 1) := by decide +kernel
theorem dL_law_764 : decode cL_law 764 = .ok (.iconst 2, 1) := by decide +kernel
theorem dL_law_765 : decode cL_law 765 = .ok (.iadd, 1) := by decide +kernel
theorem dL_law_766 : decode cL_law 766 = .ok (.iaload, 1) := by decide +kernel
theorem dL_law_767 : decode cL_law 767 = .ok (.aload_n 0, 1) := by decide +kernel
theorem dL_law_768 : decode cL_law 768 = .ok (.iload_n 3, 1) := by decide +kernel
theorem dL_law_769 : decode cL_law 769 = .ok (.iconst 3, 1) := by decide +kernel
theorem dL_law_770 : decode cL_law 770 = .ok (.iadd, 1) := by decide +kernel
theorem dL_law_771 : decode cL_law 771 = .ok (.iaload, 1) := by decide +kernel
theorem dL_law_772 : decode cL_law 772 = .ok (.invokevirtual 68, 3) := by decide +kernel
theorem dL_law_775 : decode cL_law 775 = .ok (.if_icmp .eq 997, 3) := by decide +kernel
theorem dL_law_778 : decode cL_law 778 = .ok (.iconst 0, 1) := by decide +kernel
theorem dL_law_779 : decode cL_law 779 = .ok (.ireturn, 1) := by decide +kernel
theorem dL_law_780 : decode cL_law 780 = .ok (.aload_n 1, 1) := by decide +kernel
theorem dL_law_781 : decode cL_law 781 = .ok (.aload_n 0, 1) := by decide +kernel
theorem dL_law_782 : decode cL_law 782 = .ok (.iload_n 3, 1) := by decide +kernel
theorem dL_law_783 : decode cL_law 783 = .ok (.iconst 1, 1) := by decide +kernel
theorem dL_law_784 : decode cL_law 784 = .ok (.iadd, 1) := by decide +kernel
theorem dL_law_785 : decode cL_law 785 = .ok (.iaload, 1) := by decide +kernel
theorem dL_law_786 : decode cL_law 786 = .ok (.aload_n 0, 1) := by decide +kernel
theorem dL_law_787 : decode cL_law 787 = .ok (.iload_n 3, 1) := by decide +kernel
theorem dL_law_788 : decode cL_law 788 = .ok (.iconst 2, 1) := by decide +kernel
theorem dL_law_789 : decode cL_law 789 = .ok (.iadd, 1) := by decide +kernel
theorem dL_law_790 : decode cL_law 790 = .ok (.iaload, 1) := by decide +kernel
theorem dL_law_791 : decode cL_law 791 = .ok (.invokevirtual 69, 3) := by decide +kernel
theorem dL_law_794 : decode cL_law 794 = .ok (.aload_n 2, 1) := by decide +kernel
theorem dL_law_795 : decode cL_law 795 = .ok (.aload_n 0, 1) := by decide +kernel
theorem dL_law_796 : decode cL_law 796 = .ok (.iload_n 3, 1) := by decide +kernel
theorem dL_law_797 : decode cL_law 797 = .ok (.iconst 1, 1) := by decide +kernel
theorem dL_law_798 : decode cL_law 798 = .ok (.iadd, 1) := by decide +kernel
theorem dL_law_799 : decode cL_law 799 = .ok (.iaload, 1) := by decide +kernel
theorem dL_law_800 : decode cL_law 800 = .ok (.aload_n 0, 1) := by decide +kernel
theorem dL_law_801 : decode cL_law 801 = .ok (.iload_n 3, 1) := by decide +kernel
theorem dL_law_802 : decode cL_law 802 = .ok (.iconst 2, 1) := by decide +kernel
theorem dL_law_803 : decode cL_law 803 = .ok (.iadd, 1) := by decide +kernel
theorem dL_law_804 : decode cL_law 804 = .ok (.iaload, 1) := by decide +kernel
theorem dL_law_805 : decode cL_law 805 = .ok (.invokevirtual 72, 3) := by decide +kernel
theorem dL_law_808 : decode cL_law 808 = .ok (.if_icmp .eq 964, 3) := by decide +kernel
theorem dL_law_811 : decode cL_law 811 = .ok (.iconst 0, 1) := by decide +kernel
theorem dL_law_812 : decode cL_law 812 = .ok (.ireturn, 1) := by decide +kernel
theorem dL_law_813 : decode cL_law 813 = .ok (.aload_n 1, 1) := by decide +kernel
theorem dL_law_814 : decode cL_law 814 = .ok (.aload_n 0, 1) := by decide +kernel
theorem dL_law_815 : decode cL_law 815 = .ok (.iload_n 3, 1) := by decide +kernel
theorem dL_law_816 : decode cL_law 816 = .ok (.iconst 1, 1) := by decide +kernel
theorem dL_law_817 : decode cL_law 817 = .ok (.iadd, 1) := by decide +kernel
theorem dL_law_818 : decode cL_law 818 = .ok (.iaload, 1) := by decide +kernel
theorem dL_law_819 : decode cL_law 819 = .ok (.aload_n 0, 1) := by decide +kernel
theorem dL_law_820 : decode cL_law 820 = .ok (.iload_n 3, 1) := by decide +kernel
theorem dL_law_821 : decode cL_law 821 = .ok (.iconst 2, 1) := by decide +kernel
theorem dL_law_822 : decode cL_law 822 = .ok (.iadd, 1) := by decide +kernel
theorem dL_law_823 : decode cL_law 823 = .ok (.iaload, 1) := by decide +kernel
theorem dL_law_824 : decode cL_law 824 = .ok (.aload_n 0, 1) := by decide +kernel
theorem dL_law_825 : decode cL_law 825 = .ok (.iload_n 3, 1) := by decide +kernel
theorem dL_law_826 : decode cL_law 826 = .ok (.iconst 3, 1) := by decide +kernel
theorem dL_law_827 : decode cL_law 827 = .ok (.iadd, 1) := by decide +kernel
theorem dL_law_828 : decode cL_law 828 = .ok (.iaload, 1) := by decide +kernel
theorem dL_law_829 : decode cL_law 829 = .ok (.aload_n 0, 1) := by decide +kernel
theorem dL_law_830 : decode cL_law 830 = .ok (.iload_n 3, 1) := by decide +kernel
theorem dL_law_831 : decode cL_law 831 = .ok (.iconst 4, 1) := by decide +kernel
theorem dL_law_832 : decode cL_law 832 = .ok (.iadd, 1) := by decide +kernel
theorem dL_law_833 : decode cL_law 833 = .ok (.iaload, 1) := by decide +kernel
theorem dL_law_834 : decode cL_law 834 = .ok (.aload_n 0, 1) := by decide +kernel
theorem dL_law_835 : decode cL_law 835 = .ok (.iload_n 3, 1) := by decide +kernel
theorem dL_law_836 : decode cL_law 836 = .ok (.iconst 5, 1) := by decide +kernel
theorem dL_law_837 : decode cL_law 837 = .ok (.iadd, 1) := by decide +kernel
theorem dL_law_838 : decode cL_law 838 = .ok (.iaload, 1) := by decide +kernel
theorem dL_law_839 : decode cL_law 839 = .ok (.invokevirtual 73, 3) := by decide +kernel
theorem dL_law_842 : decode cL_law 842 = .ok (.aload_n 2, 1) := by decide +kernel
theorem dL_law_843 : decode cL_law 843 = .ok (.aload_n 0, 1) := by decide +kernel
theorem dL_law_844 : decode cL_law 844 = .ok (.iload_n 3, 1) := by decide +kernel
theorem dL_law_845 : decode cL_law 845 = .ok (.iconst 1, 1) := by decide +kernel
theorem dL_law_846 : decode cL_law 846 = .ok (.iadd, 1) := by decide +kernel
theorem dL_law_847 : decode cL_law 847 = .ok (.iaload, 1) := by decide +kernel
theorem dL_law_848 : decode cL_law 848 = .ok (.aload_n 0, 1) := by decide +kernel
theorem dL_law_849 : decode cL_law 849 = .ok (.iload_n 3, 1) := by decide +kernel
theorem dL_law_850 : decode cL_law 850 = .ok (.iconst 2, 1) := by decide +kernel
theorem dL_law_851 : decode cL_law 851 = .ok (.iadd, 1) := by decide +kernel
theorem dL_law_852 : decode cL_law 852 = .ok (.iaload, 1) := by decide +kernel
theorem dL_law_853 : decode cL_law 853 = .ok (.aload_n 0, 1) := by decide +kernel
theorem dL_law_854 : decode cL_law 854 = .ok (.iload_n 3, 1) := by decide +kernel
theorem dL_law_855 : decode cL_law 855 = .ok (.iconst 3, 1) := by decide +kernel
theorem dL_law_856 : decode cL_law 856 = .ok (.iadd, 1) := by decide +kernel
theorem dL_law_857 : decode cL_law 857 = .ok (.iaload, 1) := by decide +kernel
theorem dL_law_858 : decode cL_law 858 = .ok (.aload_n 0, 1) := by decide +kernel
theorem dL_law_859 : decode cL_law 859 = .ok (.iload_n 3, 1) := by decide +kernel
theorem dL_law_860 : decode cL_law 860 = .ok (.iconst 4, 1) := by decide +kernel
theorem dL_law_861 : decode cL_law 861 = .ok (.iadd, 1) := by decide +kernel
theorem dL_law_862 : decode cL_law 862 = .ok (.iaload, 1) := by decide +kernel
theorem dL_law_863 : decode cL_law 863 = .ok (.aload_n 0, 1) := by decide +kernel
theorem dL_law_864 : decode cL_law 864 = .ok (.iload_n 3, 1) := by decide +kernel
theorem dL_law_865 : decode cL_law 865 = .ok (.iconst 5, 1) := by decide +kernel
theorem dL_law_866 : decode cL_law 866 = .ok (.iadd, 1) := by decide +kernel
theorem dL_law_867 : decode cL_law 867 = .ok (.iaload, 1) := by decide +kernel
theorem dL_law_868 : decode cL_law 868 = .ok (.invokevirtual 76, 3) := by decide +kernel
theorem dL_law_871 : decode cL_law 871 = .ok (.lcmp, 1) := by decide +kernel
theorem dL_law_872 : decode cL_law 872 = .ok (.ifCond .eq 900, 3) := by decide +kernel
theorem dL_law_875 : decode cL_law 875 = .ok (.iconst 0, 1) := by decide +kernel
theorem dL_law_876 : decode cL_law 876 = .ok (.ireturn, 1) := by decide +kernel
theorem dL_law_877 : decode cL_law 877 = .ok (.aload_n 1, 1) := by decide +kernel
theorem dL_law_878 : decode cL_law 878 = .ok (.aload_n 0, 1) := by decide +kernel
theorem dL_law_879 : decode cL_law 879 = .ok (.iload_n 3, 1) := by decide +kernel
theorem dL_law_880 : decode cL_law 880 = .ok (.iconst 1, 1) := by decide +kernel
theorem dL_law_881 : decode cL_law 881 = .ok (.iadd, 1) := by decide +kernel
theorem dL_law_882 : decode cL_law 882 = .ok (.iaload, 1) := by decide +kernel
theorem dL_law_883 : decode cL_law 883 = .ok (.aload_n 0, 1) := by decide +kernel
theorem dL_law_884 : decode cL_law 884 = .ok (.iload_n 3, 1) := by decide +kernel
theorem dL_law_885 : decode cL_law 885 = .ok (.iconst 2, 1) := by decide +kernel
theorem dL_law_886 : decode cL_law 886 = .ok (.iadd, 1) := by decide +kernel
theorem dL_law_887 : decode cL_law 887 = .ok (.iaload, 1) := by decide +kernel
theorem dL_law_888 : decode cL_law 888 = .ok (.aload_n 0, 1) := by decide +kernel
theorem dL_law_889 : decode cL_law 889 = .ok (.iload_n 3, 1) := by decide +kernel
theorem dL_law_890 : decode cL_law 890 = .ok (.iconst 3, 1) := by decide +kernel
theorem dL_law_891 : decode cL_law 891 = .ok (.iadd, 1) := by decide +kernel
theorem dL_law_892 : decode cL_law 892 = .ok (.iaload, 1) := by decide +kernel
theorem dL_law_893 : decode cL_law 893 = .ok (.invokevirtual 77, 3) := by decide +kernel
theorem dL_law_896 : decode cL_law 896 = .ok (.aload_n 2, 1) := by decide +kernel
theorem dL_law_897 : decode cL_law 897 = .ok (.aload_n 0, 1) := by decide +kernel
theorem dL_law_898 : decode cL_law 898 = .ok (.iload_n 3, 1) := by decide +kernel
theorem dL_law_899 : decode cL_law 899 = .ok (.iconst 1, 1) := by decide +kernel
theorem dL_law_900 : decode cL_law 900 = .ok (.iadd, 1) := by decide +kernel
theorem dL_law_901 : decode cL_law 901 = .ok (.iaload, 1) := by decide +kernel
theorem dL_law_902 : decode cL_law 902 = .ok (.aload_n 0, 1) := by decide +kernel
theorem dL_law_903 : decode cL_law 903 = .ok (.iload_n 3, 1) := by decide +kernel
theorem dL_law_904 : decode cL_law 904 = .ok (.iconst 2, 1) := by decide +kernel
theorem dL_law_905 : decode cL_law 905 = .ok (.iadd, 1) := by decide +kernel
theorem dL_law_906 : decode cL_law 906 = .ok (.iaload, 1) := by decide +kernel
theorem dL_law_907 : decode cL_law 907 = .ok (.aload_n 0, 1) := by decide +kernel
theorem dL_law_908 : decode cL_law 908 = .ok (.iload_n 3, 1) := by decide +kernel
theorem dL_law_909 : decode cL_law 909 = .ok (.iconst 3, 1) := by decide +kernel
theorem dL_law_910 : decode cL_law 910 = .ok (.iadd, 1) := by decide +kernel
theorem dL_law_911 : decode cL_law 911 = .ok (.iaload, 1) := by decide +kernel
theorem dL_law_912 : decode cL_law 912 = .ok (.invokevirtual 80, 3) := by decide +kernel
theorem dL_law_915 : decode cL_law 915 = .ok (.if_icmp .eq 857, 3) := by decide +kernel
theorem dL_law_918 : decode cL_law 918 = .ok (.iconst 0, 1) := by decide +kernel
theorem dL_law_919 : decode cL_law 919 = .ok (.ireturn, 1) := by decide +kernel
theorem dL_law_920 : decode cL_law 920 = .ok (.aload_n 1, 1) := by decide +kernel
theorem dL_law_921 : decode cL_law 921 = .ok (.aload_n 0, 1) := by decide +kernel
theorem dL_law_922 : decode cL_law 922 = .ok (.iload_n 3, 1) := by decide +kernel
theorem dL_law_923 : decode cL_law 923 = .ok (.iconst 1, 1) := by decide +kernel
theorem dL_law_924 : decode cL_law 924 = .ok (.iadd, 1) := by decide +kernel
theorem dL_law_925 : decode cL_law 925 = .ok (.iaload, 1) := by decide +kernel
theorem dL_law_926 : decode cL_law 926 = .ok (.aload_n 0, 1) := by decide +kernel
theorem dL_law_927 : decode cL_law 927 = .ok (.iload_n 3, 1) := by decide +kernel
theorem dL_law_928 : decode cL_law 928 = .ok (.iconst 2, 1) := by decide +kernel
theorem dL_law_929 : decode cL_law 929 = .ok (.iadd, 1) := by decide +kernel
theorem dL_law_930 : decode cL_law 930 = .ok (.iaload, 1) := by decide +kernel
theorem dL_law_931 : decode cL_law 931 = .ok (.aload_n 0, 1) := by decide +kernel
theorem dL_law_932 : decode cL_law 932 = .ok (.iload_n 3, 1) := by decide +kernel
theorem dL_law_933 : decode cL_law 933 = .ok (.iconst 3, 1) := by decide +kernel
theorem dL_law_934 : decode cL_law 934 = .ok (.iadd, 1) := by decide +kernel
theorem dL_law_935 : decode cL_law 935 = .ok (.iaload, 1) := by decide +kernel
theorem dL_law_936 : decode cL_law 936 = .ok (.aload_n 0, 1) := by decide +kernel
theorem dL_law_937 : decode cL_law 937 = .ok (.iload_n 3, 1) := by decide +kernel
theorem dL_law_938 : decode cL_law 938 = .ok (.iconst 4, 1) := by decide +kernel
theorem dL_law_939 : decode cL_law 939 = .ok (.iadd, 1) := by decide +kernel
theorem dL_law_940 : decode cL_law 940 = .ok (.iaload, 1) := by decide +kernel
theorem dL_law_941 : decode cL_law 941 = .ok (.aload_n 0, 1) := by decide +kernel
theorem dL_law_942 : decode cL_law 942 = .ok (.iload_n 3, 1) := by decide +kernel
theorem dL_law_943 : decode cL_law 943 = .ok (.iconst 5, 1) := by decide +kernel
theorem dL_law_944 : decode cL_law 944 = .ok (.iadd, 1) := by decide +kernel
theorem dL_law_945 : decode cL_law 945 = .ok (.iaload, 1) := by decide +kernel
theorem dL_law_946 : decode cL_law 946 = .ok (.invokevirtual 81, 3) := by decide +kernel
theorem dL_law_949 : decode cL_law 949 = .ok (.aload_n 2, 1) := by decide +kernel
theorem dL_law_950 : decode cL_law 950 = .ok (.aload_n 0, 1) := by decide +kernel
theorem dL_law_951 : decode cL_law 951 = .ok (.iload_n 3, 1) := by decide +kernel
theorem dL_law_952 : decode cL_law 952 = .ok (.iconst 1, 1) := by decide +kernel
theorem dL_law_953 : decode cL_law 953 = .ok (.iadd, 1) := by decide +kernel
theorem dL_law_954 : decode cL_law 954 = .ok (.iaload, 1) := by decide +kernel
theorem dL_law_955 : decode cL_law 955 = .ok (.aload_n 0, 1) := by decide +kernel
theorem dL_law_956 : decode cL_law 956 = .ok (.iload_n 3, 1) := by decide +kernel
theorem dL_law_957 : decode cL_law 957 = .ok (.iconst 2, 1) := by decide +kernel
theorem dL_law_958 : decode cL_law 958 = .ok (.iadd, 1) := by decide +kernel
theorem dL_law_959 : decode cL_law 959 = .ok (.iaload, 1) := by decide +kernel
theorem dL_law_960 : decode cL_law 960 = .ok (.aload_n 0, 1) := by decide +kernel
theorem dL_law_961 : decode cL_law 961 = .ok (.iload_n 3, 1) := by decide +kernel
theorem dL_law_962 : decode cL_law 962 = .ok (.iconst 3, 1) := by decide +kernel
theorem dL_law_963 : decode cL_law 963 = .ok (.iadd, 1) := by decide +kernel
theorem dL_law_964 : decode cL_law 964 = .ok (.iaload, 1) := by decide +kernel
theorem dL_law_965 : decode cL_law 965 = .ok (.aload_n 0, 1) := by decide +kernel
theorem dL_law_966 : decode cL_law 966 = .ok (.iload_n 3, 1) := by decide +kernel
theorem dL_law_967 : decode cL_law 967 = .ok (.iconst 4, 1) := by decide +kernel
theorem dL_law_968 : decode cL_law 968 = .ok (.iadd, 1) := by decide +kernel
theorem dL_law_969 : decode cL_law 969 = .ok (.iaload, 1) := by decide +kernel
theorem dL_law_970 : decode cL_law 970 = .ok (.aload_n 0, 1) := by decide +kernel
theorem dL_law_971 : decode cL_law 971 = .ok (.iload_n 3, 1) := by decide +kernel
theorem dL_law_972 : decode cL_law 972 = .ok (.iconst 5, 1) := by decide +kernel
theorem dL_law_973 : decode cL_law 973 = .ok (.iadd, 1) := by decide +kernel
theorem dL_law_974 : decode cL_law 974 = .ok (.iaload, 1) := by decide +kernel
theorem dL_law_975 : decode cL_law 975 = .ok (.invokevirtual 84, 3) := by decide +kernel
theorem dL_law_978 : decode cL_law 978 = .ok (.lcmp, 1) := by decide +kernel
theorem dL_law_979 : decode cL_law 979 = .ok (.ifCond .eq 793, 3) := by decide +kernel
theorem dL_law_982 : decode cL_law 982 = .ok (.iconst 0, 1) := by decide +kernel
theorem dL_law_983 : decode cL_law 983 = .ok (.ireturn, 1) := by decide +kernel
theorem dL_law_984 : decode cL_law 984 = .ok (.aload_n 1, 1) := by decide +kernel
theorem dL_law_985 : decode cL_law 985 = .ok (.aload_n 0, 1) := by decide +kernel
theorem dL_law_986 : decode cL_law 986 = .ok (.iload_n 3, 1) := by decide +kernel
theorem dL_law_987 : decode cL_law 987 = .ok (.iconst 1, 1) := by decide +kernel
theorem dL_law_988 : decode cL_law 988 = .ok (.iadd, 1) := by decide +kernel
theorem dL_law_989 : decode cL_law 989 = .ok (.iaload, 1) := by decide +kernel
theorem dL_law_990 : decode cL_law 990 = .ok (.aload_n 0, 1) := by decide +kernel
theorem dL_law_991 : decode cL_law 991 = .ok (.iload_n 3, 1) := by decide +kernel
theorem dL_law_992 : decode cL_law 992 = .ok (.iconst 2, 1) := by decide +kernel
theorem dL_law_993 : decode cL_law 993 = .ok (.iadd, 1) := by decide +kernel
theorem dL_law_994 : decode cL_law 994 = .ok (.iaload, 1) := by decide +kernel
theorem dL_law_995 : decode cL_law 995 = .ok (.invokevirtual 85, 3) := by decide +kernel
theorem dL_law_998 : decode cL_law 998 = .ok (.aload_n 2, 1) := by decide +kernel
theorem dL_law_999 : decode cL_law 999 = .ok (.aload_n 0, 1) := by decide +kernel
theorem dL_law_1000 : decode cL_law 1000 = .ok (.iload_n 3, 1) := by decide +kernel
theorem dL_law_1001 : decode cL_law 1001 = .ok (.iconst 1, 1) := by decide +kernel
theorem dL_law_1002 : decode cL_law 1002 = .ok (.iadd, 1) := by decide +kernel
theorem dL_law_1003 : decode cL_law 1003 = .ok (.iaload, 1) := by decide +kernel
theorem dL_law_1004 : decode cL_law 1004 = .ok (.aload_n 0, 1) := by decide +kernel
theorem dL_law_1005 : decode cL_law 1005 = .ok (.iload_n 3, 1) := by decide +kernel
theorem dL_law_1006 : decode cL_law 1006 = .ok (.iconst 2, 1) := by decide +kernel
theorem dL_law_1007 : decode cL_law 1007 = .ok (.iadd, 1) := by decide +kernel
theorem dL_law_1008 : decode cL_law 1008 = .ok (.iaload, 1) := by decide +kernel
theorem dL_law_1009 : decode cL_law 1009 = .ok (.invokevirtual 88, 3) := by decide +kernel
theorem dL_law_1012 : decode cL_law 1012 = .ok (.if_icmp .eq 760, 3) := by decide +kernel
theorem dL_law_1015 : decode cL_law 1015 = .ok (.iconst 0, 1) := by decide +kernel
theorem dL_law_1016 : decode cL_law 1016 = .ok (.ireturn, 1) := by decide +kernel
theorem dL_law_1017 : decode cL_law 1017 = .ok (.aload_n 1, 1) := by decide +kernel
theorem dL_law_1018 : decode cL_law 1018 = .ok (.aload_n 0, 1) := by decide +kernel
theorem dL_law_1019 : decode cL_law 1019 = .ok (.iload_n 3, 1) := by decide +kernel
theorem dL_law_1020 : decode cL_law 1020 = .ok (.iconst 1, 1) := by decide +kernel
theorem dL_law_1021 : decode cL_law 1021 = .ok (.iadd, 1) := by decide +kernel
theorem dL_law_1022 : decode cL_law 1022 = .ok (.iaload, 1) := by decide +kernel
theorem dL_law_1023 : decode cL_law 1023 = .ok (.i2l, 1) := by decide +kernel
theorem dL_law_1024 : decode cL_law 1024 = .ok (.bipush 32, 2) := by decide +kernel
theorem dL_law_1026 : decode cL_law 1026 = .ok (.lshl, 1) := by decide +kernel
theorem dL_law_1027 : decode cL_law 1027 = .ok (.aload_n 0, 1) := by decide +kernel
theorem dL_law_1028 : decode cL_law 1028 = .ok (.iload_n 3, 1) := by decide +kernel
theorem dL_law_1029 : decode cL_law 1029 = .ok (.iconst 2, 1) := by decide +kernel
theorem dL_law_1030 : decode cL_law 1030 = .ok (.iadd, 1) := by decide +kernel
theorem dL_law_1031 : decode cL_law 1031 = .ok (.iaload, 1) := by decide +kernel
theorem dL_law_1032 : decode cL_law 1032 = .ok (.i2l, 1) := by decide +kernel
theorem dL_law_1033 : decode cL_law 1033 = .ok (.ldc2_w 89, 3) := by decide +kernel
theorem dL_law_1036 : decode cL_law 1036 = .ok (.land, 1) := by decide +kernel
theorem dL_law_1037 : decode cL_law 1037 = .ok (.lor, 1) := by decide +kernel
theorem dL_law_1038 : decode cL_law 1038 = .ok (.aload_n 0, 1) := by decide +kernel
theorem dL_law_1039 : decode cL_law 1039 = .ok (.iload_n 3, 1) := by decide +kernel
theorem dL_law_1040 : decode cL_law 1040 = .ok (.iconst 3, 1) := by decide +kernel
theorem dL_law_1041 : decode cL_law 1041 = .ok (.iadd, 1) := by decide +kernel
theorem dL_law_1042 : decode cL_law 1042 = .ok (.iaload, 1) := by decide +kernel
theorem dL_law_1043 : decode cL_law 1043 = .ok (.invokevirtual 91, 3) := by decide +kernel
theorem dL_law_1046 : decode cL_law 1046 = .ok (.aload_n 2, 1) := by decide +kernel
theorem dL_law_1047 : decode cL_law 1047 = .ok (.aload_n 0, 1) := by decide +kernel
theorem dL_law_1048 : decode cL_law 1048 = .ok (.iload_n 3, 1) := by decide +kernel
theorem dL_law_1049 : decode cL_law 1049 = .ok (.iconst 1, 1) := by decide +kernel
theorem dL_law_1050 : decode cL_law 1050 = .ok (.iadd, 1) := by decide +kernel
theorem dL_law_1051 : decode cL_law 1051 = .ok (.iaload, 1) := by decide +kernel
theorem dL_law_1052 : decode cL_law 1052 = .ok (.i2l, 1) := by decide +kernel
theorem dL_law_1053 : decode cL_law 1053 = .ok (.bipush 32, 2) := by decide +kernel
theorem dL_law_1055 : decode cL_law 1055 = .ok (.lshl, 1) := by decide +kernel
theorem dL_law_1056 : decode cL_law 1056 = .ok (.aload_n 0, 1) := by decide +kernel
theorem dL_law_1057 : decode cL_law 1057 = .ok (.iload_n 3, 1) := by decide +kernel
theorem dL_law_1058 : decode cL_law 1058 = .ok (.iconst 2, 1) := by decide +kernel
theorem dL_law_1059 : decode cL_law 1059 = .ok (.iadd, 1) := by decide +kernel
theorem dL_law_1060 : decode cL_law 1060 = .ok (.iaload, 1) := by decide +kernel
theorem dL_law_1061 : decode cL_law 1061 = .ok (.i2l, 1) := by decide +kernel
theorem dL_law_1062 : decode cL_law 1062 = .ok (.ldc2_w 89, 3) := by decide +kernel
theorem dL_law_1065 : decode cL_law 1065 = .ok (.land, 1) := by decide +kernel
theorem dL_law_1066 : decode cL_law 1066 = .ok (.lor, 1) := by decide +kernel
theorem dL_law_1067 : decode cL_law 1067 = .ok (.aload_n 0, 1) := by decide +kernel
theorem dL_law_1068 : decode cL_law 1068 = .ok (.iload_n 3, 1) := by decide +kernel
theorem dL_law_1069 : decode cL_law 1069 = .ok (.iconst 3, 1) := by decide +kernel
theorem dL_law_1070 : decode cL_law 1070 = .ok (.iadd, 1) := by decide +kernel
theorem dL_law_1071 : decode cL_law 1071 = .ok (.iaload, 1) := by decide +kernel
theorem dL_law_1072 : decode cL_law 1072 = .ok (.invokevirtual 95, 3) := by decide +kernel
theorem dL_law_1075 : decode cL_law 1075 = .ok (.if_icmp .eq 697, 3) := by decide +kernel
theorem dL_law_1078 : decode cL_law 1078 = .ok (.iconst 0, 1) := by decide +kernel
theorem dL_law_1079 : decode cL_law 1079 = .ok (.ireturn, 1) := by decide +kernel
theorem dL_law_1080 : decode cL_law 1080 = .ok (.aload_n 1, 1) := by decide +kernel
theorem dL_law_1081 : decode cL_law 1081 = .ok (.aload_n 0, 1) := by decide +kernel
theorem dL_law_1082 : decode cL_law 1082 = .ok (.iload_n 3, 1) := by decide +kernel
theorem dL_law_1083 : decode cL_law 1083 = .ok (.iconst 1, 1) := by decide +kernel
theorem dL_law_1084 : decode cL_law 1084 = .ok (.iadd, 1) := by decide +kernel
theorem dL_law_1085 : decode cL_law 1085 = .ok (.iaload, 1) := by decide +kernel
theorem dL_law_1086 : decode cL_law 1086 = .ok (.invokevirtual 96, 3) := by decide +kernel
theorem dL_law_1089 : decode cL_law 1089 = .ok (.aload_n 2, 1) := by decide +kernel
theorem dL_law_1090 : decode cL_law 1090 = .ok (.aload_n 0, 1) := by decide +kernel
theorem dL_law_1091 : decode cL_law 1091 = .ok (.iload_n 3, 1) := by decide +kernel
theorem dL_law_1092 : decode cL_law 1092 = .ok (.iconst 1, 1) := by decide +kernel
theorem dL_law_1093 : decode cL_law 1093 = .ok (.iadd, 1) := by decide +kernel
theorem dL_law_1094 : decode cL_law 1094 = .ok (.iaload, 1) := by decide +kernel
theorem dL_law_1095 : decode cL_law 1095 = .ok (.invokevirtual 100, 3) := by decide +kernel
theorem dL_law_1098 : decode cL_law 1098 = .ok (.if_icmp .eq 674, 3) := by decide +kernel
theorem dL_law_1101 : decode cL_law 1101 = .ok (.iconst 0, 1) := by decide +kernel
theorem dL_law_1102 : decode cL_law 1102 = .ok (.ireturn, 1) := by decide +kernel
theorem dL_law_1103 : decode cL_law 1103 = .ok (.aload_n 1, 1) := by decide +kernel
theorem dL_law_1104 : decode cL_law 1104 = .ok (.aload_n 0, 1) := by decide +kernel
theorem dL_law_1105 : decode cL_law 1105 = .ok (.iload_n 3, 1) := by decide +kernel
theorem dL_law_1106 : decode cL_law 1106 = .ok (.iconst 1, 1) := by decide +kernel
theorem dL_law_1107 : decode cL_law 1107 = .ok (.iadd, 1) := by decide +kernel
theorem dL_law_1108 : decode cL_law 1108 = .ok (.iaload, 1) := by decide +kernel
theorem dL_law_1109 : decode cL_law 1109 = .ok (.aload_n 0, 1) := by decide +kernel
theorem dL_law_1110 : decode cL_law 1110 = .ok (.iload_n 3, 1) := by decide +kernel
theorem dL_law_1111 : decode cL_law 1111 = .ok (.iconst 2, 1) := by decide +kernel
theorem dL_law_1112 : decode cL_law 1112 = .ok (.iadd, 1) := by decide +kernel
theorem dL_law_1113 : decode cL_law 1113 = .ok (.iaload, 1) := by decide +kernel
theorem dL_law_1114 : decode cL_law 1114 = .ok (.invokevirtual 101, 3) := by decide +kernel
theorem dL_law_1117 : decode cL_law 1117 = .ok (.aload_n 2, 1) := by decide +kernel
theorem dL_law_1118 : decode cL_law 1118 = .ok (.aload_n 0, 1) := by decide +kernel
theorem dL_law_1119 : decode cL_law 1119 = .ok (.iload_n 3, 1) := by decide +kernel
theorem dL_law_1120 : decode cL_law 1120 = .ok (.iconst 1, 1) := by decide +kernel
theorem dL_law_1121 : decode cL_law 1121 = .ok (.iadd, 1) := by decide +kernel
theorem dL_law_1122 : decode cL_law 1122 = .ok (.iaload, 1) := by decide +kernel
theorem dL_law_1123 : decode cL_law 1123 = .ok (.aload_n 0, 1) := by decide +kernel
theorem dL_law_1124 : decode cL_law 1124 = .ok (.iload_n 3, 1) := by decide +kernel
theorem dL_law_1125 : decode cL_law 1125 = .ok (.iconst 2, 1) := by decide +kernel
theorem dL_law_1126 : decode cL_law 1126 = .ok (.iadd, 1) := by decide +kernel
theorem dL_law_1127 : decode cL_law 1127 = .ok (.iaload, 1) := by decide +kernel
theorem dL_law_1128 : decode cL_law 1128 = .ok (.invokevirtual 104, 3) := by decide +kernel
theorem dL_law_1131 : decode cL_law 1131 = .ok (.if_icmp .eq 641, 3) := by decide +kernel
theorem dL_law_1134 : decode cL_law 1134 = .ok (.iconst 0, 1) := by decide +kernel
theorem dL_law_1135 : decode cL_law 1135 = .ok (.ireturn, 1) := by decide +kernel
theorem dL_law_1136 : decode cL_law 1136 = .ok (.aload_n 1, 1) := by decide +kernel
theorem dL_law_1137 : decode cL_law 1137 = .ok (.aload_n 0, 1) := by decide +kernel
theorem dL_law_1138 : decode cL_law 1138 = .ok (.iload_n 3, 1) := by decide +kernel
theorem dL_law_1139 : decode cL_law 1139 = .ok (.iconst 1, 1) := by decide +kernel
theorem dL_law_1140 : decode cL_law 1140 = .ok (.iadd, 1) := by decide +kernel
theorem dL_law_1141 : decode cL_law 1141 = .ok (.iaload, 1) := by decide +kernel
theorem dL_law_1142 : decode cL_law 1142 = .ok (.aload_n 0, 1) := by decide +kernel
theorem dL_law_1143 : decode cL_law 1143 = .ok (.iload_n 3, 1) := by decide +kernel
theorem dL_law_1144 : decode cL_law 1144 = .ok (.iconst 2, 1) := by decide +kernel
theorem dL_law_1145 : decode cL_law 1145 = .ok (.iadd, 1) := by decide +kernel
theorem dL_law_1146 : decode cL_law 1146 = .ok (.iaload, 1) := by decide +kernel
theorem dL_law_1147 : decode cL_law 1147 = .ok (.aload_n 0, 1) := by decide +kernel
theorem dL_law_1148 : decode cL_law 1148 = .ok (.iload_n 3, 1) := by decide +kernel
theorem dL_law_1149 : decode cL_law 1149 = .ok (.iconst 3, 1) := by decide +kernel
theorem dL_law_1150 : decode cL_law 1150 = .ok (.iadd, 1) := by decide +kernel
theorem dL_law_1151 : decode cL_law 1151 = .ok (.iaload, 1) := by decide +kernel
theorem dL_law_1152 : decode cL_law 1152 = .ok (.aload_n 0, 1) := by decide +kernel
theorem dL_law_1153 : decode cL_law 1153 = .ok (.iload_n 3, 1) := by decide +kernel
theorem dL_law_1154 : decode cL_law 1154 = .ok (.iconst 4, 1) := by decide +kernel
theorem dL_law_1155 : decode cL_law 1155 = .ok (.iadd, 1) := by decide +kernel
theorem dL_law_1156 : decode cL_law 1156 = .ok (.iaload, 1) := by decide +kernel
theorem dL_law_1157 : decode cL_law 1157 = .ok (.aload_n 0, 1) := by decide +kernel
theorem dL_law_1158 : decode cL_law 1158 = .ok (.iload_n 3, 1) := by decide +kernel
theorem dL_law_1159 : decode cL_law 1159 = .ok (.iconst 5, 1) := by decide +kernel
theorem dL_law_1160 : decode cL_law 1160 = .ok (.iadd, 1) := by decide +kernel
theorem dL_law_1161 : decode cL_law 1161 = .ok (.iaload, 1) := by decide +kernel
theorem dL_law_1162 : decode cL_law 1162 = .ok (.aload_n 0, 1) := by decide +kernel
theorem dL_law_1163 : decode cL_law 1163 = .ok (.iload_n 3, 1) := by decide +kernel
theorem dL_law_1164 : decode cL_law 1164 = .ok (.bipush 6, 2) := by decide +kernel
theorem dL_law_1166 : decode cL_law 1166 = .ok (.iadd, 1) := by decide +kernel
theorem dL_law_1167 : decode cL_law 1167 = .ok (.iaload, 1) := by decide +kernel
theorem dL_law_1168 : decode cL_law 1168 = .ok (.invokevirtual 105, 3) := by decide +kernel
theorem dL_law_1171 : decode cL_law 1171 = .ok (.aload_n 2, 1) := by decide +kernel
theorem dL_law_1172 : decode cL_law 1172 = .ok (.aload_n 0, 1) := by decide +kernel
theorem dL_law_1173 : decode cL_law 1173 = .ok (.iload_n 3, 1) := by decide +kernel
theorem dL_law_1174 : decode cL_law 1174 = .ok (.iconst 1, 1) := by decide +kernel
theorem dL_law_1175 : decode cL_law 1175 = .ok (.iadd, 1) := by decide +kernel
theorem dL_law_1176 : decode cL_law 1176 = .ok (.iaload, 1) := by decide +kernel
theorem dL_law_1177 : decode cL_law 1177 = .ok (.aload_n 0, 1) := by decide +kernel
theorem dL_law_1178 : decode cL_law 1178 = .ok (.iload_n 3, 1) := by decide +kernel
theorem dL_law_1179 : decode cL_law 1179 = .ok (.iconst 2, 1) := by decide +kernel
theorem dL_law_1180 : decode cL_law 1180 = .ok (.iadd, 1) := by decide +kernel
theorem dL_law_1181 : decode cL_law 1181 = .ok (.iaload, 1) := by decide +kernel
theorem dL_law_1182 : decode cL_law 1182 = .ok (.aload_n 0, 1) := by decide +kernel
theorem dL_law_1183 : decode cL_law 1183 = .ok (.iload_n 3, 1) := by decide +kernel
theorem dL_law_1184 : decode cL_law 1184 = .ok (.iconst 3, 1) := by decide +kernel
theorem dL_law_1185 : decode cL_law 1185 = .ok (.iadd, 1) := by decide +kernel
theorem dL_law_1186 : decode cL_law 1186 = .ok (.iaload, 1) := by decide +kernel
theorem dL_law_1187 : decode cL_law 1187 = .ok (.aload_n 0, 1) := by decide +kernel
theorem dL_law_1188 : decode cL_law 1188 = .ok (.iload_n 3, 1) := by decide +kernel
theorem dL_law_1189 : decode cL_law 1189 = .ok (.iconst 4, 1) := by decide +kernel
theorem dL_law_1190 : decode cL_law 1190 = .ok (.iadd, 1) := by decide +kernel
theorem dL_law_1191 : decode cL_law 1191 = .ok (.iaload, 1) := by decide +kernel
theorem dL_law_1192 : decode cL_law 1192 = .ok (.aload_n 0, 1) := by decide +kernel
theorem dL_law_1193 : decode cL_law 1193 = .ok (.iload_n 3, 1) := by decide +kernel
theorem dL_law_1194 : decode cL_law 1194 = .ok (.iconst 5, 1) := by decide +kernel
theorem dL_law_1195 : decode cL_law 1195 = .ok (.iadd, 1) := by decide +kernel
theorem dL_law_1196 : decode cL_law 1196 = .ok (.iaload, 1) := by decide +kernel
theorem dL_law_1197 : decode cL_law 1197 = .ok (.aload_n 0, 1) := by decide +kernel
theorem dL_law_1198 : decode cL_law 1198 = .ok (.iload_n 3, 1) := by decide +kernel
theorem dL_law_1199 : decode cL_law 1199 = .ok (.bipush 6, 2) := by decide +kernel
theorem dL_law_1201 : decode cL_law 1201 = .ok (.iadd, 1) := by decide +kernel
theorem dL_law_1202 : decode cL_law 1202 = .ok (.iaload, 1) := by decide +kernel
theorem dL_law_1203 : decode cL_law 1203 = .ok (.invokevirtual 109, 3) := by decide +kernel
theorem dL_law_1206 : decode cL_law 1206 = .ok (.lcmp, 1) := by decide +kernel
theorem dL_law_1207 : decode cL_law 1207 = .ok (.ifCond .eq 565, 3) := by decide +kernel
theorem dL_law_1210 : decode cL_law 1210 = .ok (.iconst 0, 1) := by decide +kernel
theorem dL_law_1211 : decode cL_law 1211 = .ok (.ireturn, 1) := by decide +kernel
theorem dL_law_1212 : decode cL_law 1212 = .ok (.aload_n 1, 1) := by decide +kernel
theorem dL_law_1213 : decode cL_law 1213 = .ok (.aload_n 0, 1) := by decide +kernel
theorem dL_law_1214 : decode cL_law 1214 = .ok (.iload_n 3, 1) := by decide +kernel
theorem dL_law_1215 : decode cL_law 1215 = .ok (.iconst 1, 1) := by decide +kernel
theorem dL_law_1216 : decode cL_law 1216 = .ok (.iadd, 1) := by decide +kernel
theorem dL_law_1217 : decode cL_law 1217 = .ok (.iaload, 1) := by decide +kernel
theorem dL_law_1218 : decode cL_law 1218 = .ok (.aload_n 0, 1) := by decide +kernel
theorem dL_law_1219 : decode cL_law 1219 = .ok (.iload_n 3, 1) := by decide +kernel
theorem dL_law_1220 : decode cL_law 1220 = .ok (.iconst 2, 1) := by decide +kernel
theorem dL_law_1221 : decode cL_law 1221 = .ok (.iadd, 1) := by decide +kernel
theorem dL_law_1222 : decode cL_law 1222 = .ok (.iaload, 1) := by decide +kernel
theorem dL_law_1223 : decode cL_law 1223 = .ok (.invokevirtual 110, 3) := by decide +kernel
theorem dL_law_1226 : decode cL_law 1226 = .ok (.aload_n 2, 1) := by decide +kernel
theorem dL_law_1227 : decode cL_law 1227 = .ok (.aload_n 0, 1) := by decide +kernel
theorem dL_law_1228 : decode cL_law 1228 = .ok (.iload_n 3, 1) := by decide +kernel
theorem dL_law_1229 : decode cL_law 1229 = .ok (.iconst 1, 1) := by decide +kernel
theorem dL_law_1230 : decode cL_law 1230 = .ok (.iadd, 1) := by decide +kernel
theorem dL_law_1231 : decode cL_law 1231 = .ok (.iaload, 1) := by decide +kernel
theorem dL_law_1232 : decode cL_law 1232 = .ok (.aload_n 0, 1) := by decide +kernel
theorem dL_law_1233 : decode cL_law 1233 = .ok (.iload_n 3, 1) := by decide +kernel
theorem dL_law_1234 : decode cL_law 1234 = .ok (.iconst 2, 1) := by decide +kernel
theorem dL_law_1235 : decode cL_law 1235 = .ok (.iadd, 1) := by decide +kernel
theorem dL_law_1236 : decode cL_law 1236 = .ok (.iaload, 1) := by decide +kernel
theorem dL_law_1237 : decode cL_law 1237 = .ok (.invokevirtual 113, 3) := by decide +kernel
theorem dL_law_1240 : decode cL_law 1240 = .ok (.if_icmp .eq 532, 3) := by decide +kernel
theorem dL_law_1243 : decode cL_law 1243 = .ok (.iconst 0, 1) := by decide +kernel
theorem dL_law_1244 : decode cL_law 1244 = .ok (.ireturn, 1) := by decide +kernel
theorem dL_law_1245 : decode cL_law 1245 = .ok (.aload_n 1, 1) := by decide +kernel
theorem dL_law_1246 : decode cL_law 1246 = .ok (.aload_n 0, 1) := by decide +kernel
theorem dL_law_1247 : decode cL_law 1247 = .ok (.iload_n 3, 1) := by decide +kernel
theorem dL_law_1248 : decode cL_law 1248 = .ok (.iconst 1, 1) := by decide +kernel
theorem dL_law_1249 : decode cL_law 1249 = .ok (.iadd, 1) := by decide +kernel
theorem dL_law_1250 : decode cL_law 1250 = .ok (.iaload, 1) := by decide +kernel
theorem dL_law_1251 : decode cL_law 1251 = .ok (.invokevirtual 114, 3) := by decide +kernel
theorem dL_law_1254 : decode cL_law 1254 = .ok (.aload_n 2, 1) := by decide +kernel
theorem dL_law_1255 : decode cL_law 1255 = .ok (.aload_n 0, 1) := by decide +kernel
theorem dL_law_1256 : decode cL_law 1256 = .ok (.iload_n 3, 1) := by decide +kernel
theorem dL_law_1257 : decode cL_law 1257 = .ok (.iconst 1, 1) := by decide +kernel
theorem dL_law_1258 : decode cL_law 1258 = .ok (.iadd, 1) := by decide +kernel
theorem dL_law_1259 : decode cL_law 1259 = .ok (.iaload, 1) := by decide +kernel
theorem dL_law_1260 : decode cL_law 1260 = .ok (.invokevirtual 117, 3) := by decide +kernel
theorem dL_law_1263 : decode cL_law 1263 = .ok (.if_icmp .eq 509, 3) := by decide +kernel
theorem dL_law_1266 : decode cL_law 1266 = .ok (.iconst 0, 1) := by decide +kernel
theorem dL_law_1267 : decode cL_law 1267 = .ok (.ireturn, 1) := by decide +kernel
theorem dL_law_1268 : decode cL_law 1268 = .ok (.aload_n 1, 1) := by decide +kernel
theorem dL_law_1269 : decode cL_law 1269 = .ok (.aload_n 0, 1) := by decide +kernel
theorem dL_law_1270 : decode cL_law 1270 = .ok (.iload_n 3, 1) := by decide +kernel
theorem dL_law_1271 : decode cL_law 1271 = .ok (.iconst 1, 1) := by decide +kernel
theorem dL_law_1272 : decode cL_law 1272 = .ok (.iadd, 1) := by decide +kernel
theorem dL_law_1273 : decode cL_law 1273 = .ok (.iaload, 1) := by decide +kernel
theorem dL_law_1274 : decode cL_law 1274 = .ok (.aload_n 0, 1) := by decide +kernel
theorem dL_law_1275 : decode cL_law 1275 = .ok (.iload_n 3, 1) := by decide +kernel
theorem dL_law_1276 : decode cL_law 1276 = .ok (.iconst 2, 1) := by decide +kernel
theorem dL_law_1277 : decode cL_law 1277 = .ok (.iadd, 1) := by decide +kernel
theorem dL_law_1278 : decode cL_law 1278 = .ok (.iaload, 1) := by decide +kernel
theorem dL_law_1279 : decode cL_law 1279 = .ok (.aload_n 0, 1) := by decide +kernel
theorem dL_law_1280 : decode cL_law 1280 = .ok (.iload_n 3, 1) := by decide +kernel
theorem dL_law_1281 : decode cL_law 1281 = .ok (.iconst 3, 1) := by decide +kernel
theorem dL_law_1282 : decode cL_law 1282 = .ok (.iadd, 1) := by decide +kernel
theorem dL_law_1283 : decode cL_law 1283 = .ok (.iaload, 1) := by decide +kernel
theorem dL_law_1284 : decode cL_law 1284 = .ok (.aload_n 0, 1) := by decide +kernel
theorem dL_law_1285 : decode cL_law 1285 = .ok (.iload_n 3, 1) := by decide +kernel
theorem dL_law_1286 : decode cL_law 1286 = .ok (.iconst 4, 1) := by decide +kernel
theorem dL_law_1287 : decode cL_law 1287 = .ok (.iadd, 1) := by decide +kernel
theorem dL_law_1288 : decode cL_law 1288 = .ok (.iaload, 1) := by decide +kernel
theorem dL_law_1289 : decode cL_law 1289 = .ok (.aload_n 0, 1) := by decide +kernel
theorem dL_law_1290 : decode cL_law 1290 = .ok (.iload_n 3, 1) := by decide +kernel
theorem dL_law_1291 : decode cL_law 1291 = .ok (.iconst 5, 1) := by decide +kernel
theorem dL_law_1292 : decode cL_law 1292 = .ok (.iadd, 1) := by decide +kernel
theorem dL_law_1293 : decode cL_law 1293 = .ok (.iaload, 1) := by decide +kernel
theorem dL_law_1294 : decode cL_law 1294 = .ok (.invokevirtual 118, 3) := by decide +kernel
theorem dL_law_1297 : decode cL_law 1297 = .ok (.aload_n 2, 1) := by decide +kernel
theorem dL_law_1298 : decode cL_law 1298 = .ok (.aload_n 0, 1) := by decide +kernel
theorem dL_law_1299 : decode cL_law 1299 = .ok (.iload_n 3, 1) := by decide +kernel
theorem dL_law_1300 : decode cL_law 1300 = .ok (.iconst 1, 1) := by decide +kernel
theorem dL_law_1301 : decode cL_law 1301 = .ok (.iadd, 1) := by decide +kernel
theorem dL_law_1302 : decode cL_law 1302 = .ok (.iaload, 1) := by decide +kernel
theorem dL_law_1303 : decode cL_law 1303 = .ok (.aload_n 0, 1) := by decide +kernel
theorem dL_law_1304 : decode cL_law 1304 = .ok (.iload_n 3, 1) := by decide +kernel
theorem dL_law_1305 : decode cL_law 1305 = .ok (.iconst 2, 1) := by decide +kernel
theorem dL_law_1306 : decode cL_law 1306 = .ok (.iadd, 1) := by decide +kernel
theorem dL_law_1307 : decode cL_law 1307 = .ok (.iaload, 1) := by decide +kernel
theorem dL_law_1308 : decode cL_law 1308 = .ok (.aload_n 0, 1) := by decide +kernel
theorem dL_law_1309 : decode cL_law 1309 = .ok (.iload_n 3, 1) := by decide +kernel
theorem dL_law_1310 : decode cL_law 1310 = .ok (.iconst 3, 1) := by decide +kernel
theorem dL_law_1311 : decode cL_law 1311 = .ok (.iadd, 1) := by decide +kernel
theorem dL_law_1312 : decode cL_law 1312 = .ok (.iaload, 1) := by decide +kernel
theorem dL_law_1313 : decode cL_law 1313 = .ok (.aload_n 0, 1) := by decide +kernel
theorem dL_law_1314 : decode cL_law 1314 = .ok (.iload_n 3, 1) := by decide +kernel
theorem dL_law_1315 : decode cL_law 1315 = .ok (.iconst 4, 1) := by decide +kernel
theorem dL_law_1316 : decode cL_law 1316 = .ok (.iadd, 1) := by decide +kernel
theorem dL_law_1317 : decode cL_law 1317 = .ok (.iaload, 1) := by decide +kernel
theorem dL_law_1318 : decode cL_law 1318 = .ok (.aload_n 0, 1) := by decide +kernel
theorem dL_law_1319 : decode cL_law 1319 = .ok (.iload_n 3, 1) := by decide +kernel
theorem dL_law_1320 : decode cL_law 1320 = .ok (.iconst 5, 1) := by decide +kernel
theorem dL_law_1321 : decode cL_law 1321 = .ok (.iadd, 1) := by decide +kernel
theorem dL_law_1322 : decode cL_law 1322 = .ok (.iaload, 1) := by decide +kernel
theorem dL_law_1323 : decode cL_law 1323 = .ok (.invokevirtual 121, 3) := by decide +kernel
theorem dL_law_1326 : decode cL_law 1326 = .ok (.lcmp, 1) := by decide +kernel
theorem dL_law_1327 : decode cL_law 1327 = .ok (.ifCond .eq 445, 3) := by decide +kernel
theorem dL_law_1330 : decode cL_law 1330 = .ok (.iconst 0, 1) := by decide +kernel
theorem dL_law_1331 : decode cL_law 1331 = .ok (.ireturn, 1) := by decide +kernel
theorem dL_law_1332 : decode cL_law 1332 = .ok (.aload_n 1, 1) := by decide +kernel
theorem dL_law_1333 : decode cL_law 1333 = .ok (.invokevirtual 122, 3) := by decide +kernel
theorem dL_law_1336 : decode cL_law 1336 = .ok (.aload_n 2, 1) := by decide +kernel
theorem dL_law_1337 : decode cL_law 1337 = .ok (.invokevirtual 126, 3) := by decide +kernel
theorem dL_law_1340 : decode cL_law 1340 = .ok (.if_icmp .eq 432, 3) := by decide +kernel
theorem dL_law_1343 : decode cL_law 1343 = .ok (.iconst 0, 1) := by decide +kernel
theorem dL_law_1344 : decode cL_law 1344 = .ok (.ireturn, 1) := by decide +kernel
theorem dL_law_1345 : decode cL_law 1345 = .ok (.aload_n 1, 1) := by decide +kernel
theorem dL_law_1346 : decode cL_law 1346 = .ok (.aload_n 0, 1) := by decide +kernel
theorem dL_law_1347 : decode cL_law 1347 = .ok (.iload_n 3, 1) := by decide +kernel
theorem dL_law_1348 : decode cL_law 1348 = .ok (.iconst 1, 1) := by decide +kernel
theorem dL_law_1349 : decode cL_law 1349 = .ok (.iadd, 1) := by decide +kernel
theorem dL_law_1350 : decode cL_law 1350 = .ok (.iaload, 1) := by decide +kernel
theorem dL_law_1351 : decode cL_law 1351 = .ok (.aload_n 0, 1) := by decide +kernel
theorem dL_law_1352 : decode cL_law 1352 = .ok (.iload_n 3, 1) := by decide +kernel
theorem dL_law_1353 : decode cL_law 1353 = .ok (.iconst 2, 1) := by decide +kernel
theorem dL_law_1354 : decode cL_law 1354 = .ok (.iadd, 1) := by decide +kernel
theorem dL_law_1355 : decode cL_law 1355 = .ok (.iaload, 1) := by decide +kernel
theorem dL_law_1356 : decode cL_law 1356 = .ok (.aload_n 0, 1) := by decide +kernel
theorem dL_law_1357 : decode cL_law 1357 = .ok (.iload_n 3, 1) := by decide +kernel
theorem dL_law_1358 : decode cL_law 1358 = .ok (.iconst 3, 1) := by decide +kernel
theorem dL_law_1359 : decode cL_law 1359 = .ok (.iadd, 1) := by decide +kernel
theorem dL_law_1360 : decode cL_law 1360 = .ok (.iaload, 1) := by decide +kernel
theorem dL_law_1361 : decode cL_law 1361 = .ok (.invokevirtual 127, 3) := by decide +kernel
theorem dL_law_1364 : decode cL_law 1364 = .ok (.aload_n 2, 1) := by decide +kernel
theorem dL_law_1365 : decode cL_law 1365 = .ok (.aload_n 0, 1) := by decide +kernel
theorem dL_law_1366 : decode cL_law 1366 = .ok (.iload_n 3, 1) := by decide +kernel
theorem dL_law_1367 : decode cL_law 1367 = .ok (.iconst 1, 1) := by decide +kernel
theorem dL_law_1368 : decode cL_law 1368 = .ok (.iadd, 1) := by decide +kernel
theorem dL_law_1369 : decode cL_law 1369 = .ok (.iaload, 1) := by decide +kernel
theorem dL_law_1370 : decode cL_law 1370 = .ok (.aload_n 0, 1) := by decide +kernel
theorem dL_law_1371 : decode cL_law 1371 = .ok (.iload_n 3, 1) := by decide +kernel
theorem dL_law_1372 : decode cL_law 1372 = .ok (.iconst 2, 1) := by decide +kernel
theorem dL_law_1373 : decode cL_law 1373 = .ok (.iadd, 1) := by decide +kernel
theorem dL_law_1374 : decode cL_law 1374 = .ok (.iaload, 1) := by decide +kernel
theorem dL_law_1375 : decode cL_law 1375 = .ok (.aload_n 0, 1) := by decide +kernel
theorem dL_law_1376 : decode cL_law 1376 = .ok (.iload_n 3, 1) := by decide +kernel
theorem dL_law_1377 : decode cL_law 1377 = .ok (.iconst 3, 1) := by decide +kernel
theorem dL_law_1378 : decode cL_law 1378 = .ok (.iadd, 1) := by decide +kernel
theorem dL_law_1379 : decode cL_law 1379 = .ok (.iaload, 1) := by decide +kernel
theorem dL_law_1380 : decode cL_law 1380 = .ok (.invokevirtual 130, 3) := by decide +kernel
theorem dL_law_1383 : decode cL_law 1383 = .ok (.if_icmp .eq 389, 3) := by decide +kernel
theorem dL_law_1386 : decode cL_law 1386 = .ok (.iconst 0, 1) := by decide +kernel
theorem dL_law_1387 : decode cL_law 1387 = .ok (.ireturn, 1) := by decide +kernel
theorem dL_law_1388 : decode cL_law 1388 = .ok (.aload_n 1, 1) := by decide +kernel
theorem dL_law_1389 : decode cL_law 1389 = .ok (.aload_n 0, 1) := by decide +kernel
theorem dL_law_1390 : decode cL_law 1390 = .ok (.iload_n 3, 1) := by decide +kernel
theorem dL_law_1391 : decode cL_law 1391 = .ok (.iconst 1, 1) := by decide +kernel
theorem dL_law_1392 : decode cL_law 1392 = .ok (.iadd, 1) := by decide +kernel
theorem dL_law_1393 : decode cL_law 1393 = .ok (.iaload, 1) := by decide +kernel
theorem dL_law_1394 : decode cL_law 1394 = .ok (.aload_n 0, 1) := by decide +kernel
theorem dL_law_1395 : decode cL_law 1395 = .ok (.iload_n 3, 1) := by decide +kernel
theorem dL_law_1396 : decode cL_law 1396 = .ok (.iconst 2, 1) := by decide +kernel
theorem dL_law_1397 : decode cL_law 1397 = .ok (.iadd, 1) := by decide +kernel
theorem dL_law_1398 : decode cL_law 1398 = .ok (.iaload, 1) := by decide +kernel
theorem dL_law_1399 : decode cL_law 1399 = .ok (.aload_n 0, 1) := by decide +kernel
theorem dL_law_1400 : decode cL_law 1400 = .ok (.iload_n 3, 1) := by decide +kernel
theorem dL_law_1401 : decode cL_law 1401 = .ok (.iconst 3, 1) := by decide +kernel
theorem dL_law_1402 : decode cL_law 1402 = .ok (.iadd, 1) := by decide +kernel
theorem dL_law_1403 : decode cL_law 1403 = .ok (.iaload, 1) := by decide +kernel
theorem dL_law_1404 : decode cL_law 1404 = .ok (.i2l, 1) := by decide +kernel
theorem dL_law_1405 : decode cL_law 1405 = .ok (.bipush 32, 2) := by decide +kernel
theorem dL_law_1407 : decode cL_law 1407 = .ok (.lshl, 1) := by decide +kernel
theorem dL_law_1408 : decode cL_law 1408 = .ok (.aload_n 0, 1) := by decide +kernel
theorem dL_law_1409 : decode cL_law 1409 = .ok (.iload_n 3, 1) := by decide +kernel
theorem dL_law_1410 : decode cL_law 1410 = .ok (.iconst 4, 1) := by decide +kernel
theorem dL_law_1411 : decode cL_law 1411 = .ok (.iadd, 1) := by decide +kernel
theorem dL_law_1412 : decode cL_law 1412 = .ok (.iaload, 1) := by decide +kernel
theorem dL_law_1413 : decode cL_law 1413 = .ok (.i2l, 1) := by decide +kernel
theorem dL_law_1414 : decode cL_law 1414 = .ok (.ldc2_w 89, 3) := by decide +kernel
theorem dL_law_1417 : decode cL_law 1417 = .ok (.land, 1) := by decide +kernel
theorem dL_law_1418 : decode cL_law 1418 = .ok (.lor, 1) := by decide +kernel
theorem dL_law_1419 : decode cL_law 1419 = .ok (.invokevirtual 131, 3) := by decide +kernel
theorem dL_law_1422 : decode cL_law 1422 = .ok (.aload_n 2, 1) := by decide +kernel
theorem dL_law_1423 : decode cL_law 1423 = .ok (.aload_n 0, 1) := by decide +kernel
theorem dL_law_1424 : decode cL_law 1424 = .ok (.iload_n 3, 1) := by decide +kernel
theorem dL_law_1425 : decode cL_law 1425 = .ok (.iconst 1, 1) := by decide +kernel
theorem dL_law_1426 : decode cL_law 1426 = .ok (.iadd, 1) := by decide +kernel
theorem dL_law_1427 : decode cL_law 1427 = .ok (.iaload, 1) := by decide +kernel
theorem dL_law_1428 : decode cL_law 1428 = .ok (.aload_n 0, 1) := by decide +kernel
theorem dL_law_1429 : decode cL_law 1429 = .ok (.iload_n 3, 1) := by decide +kernel
theorem dL_law_1430 : decode cL_law 1430 = .ok (.iconst 2, 1) := by decide +kernel
theorem dL_law_1431 : decode cL_law 1431 = .ok (.iadd, 1) := by decide +kernel
theorem dL_law_1432 : decode cL_law 1432 = .ok (.iaload, 1) := by decide +kernel
theorem dL_law_1433 : decode cL_law 1433 = .ok (.aload_n 0, 1) := by decide +kernel
theorem dL_law_1434 : decode cL_law 1434 = .ok (.iload_n 3, 1) := by decide +kernel
theorem dL_law_1435 : decode cL_law 1435 = .ok (.iconst 3, 1) := by decide +kernel
theorem dL_law_1436 : decode cL_law 1436 = .ok (.iadd, 1) := by decide +kernel
theorem dL_law_1437 : decode cL_law 1437 = .ok (.iaload, 1) := by decide +kernel
theorem dL_law_1438 : decode cL_law 1438 = .ok (.i2l, 1) := by decide +kernel
theorem dL_law_1439 : decode cL_law 1439 = .ok (.bipush 32, 2) := by decide +kernel
theorem dL_law_1441 : decode cL_law 1441 = .ok (.lshl, 1) := by decide +kernel
theorem dL_law_1442 : decode cL_law 1442 = .ok (.aload_n 0, 1) := by decide +kernel
theorem dL_law_1443 : decode cL_law 1443 = .ok (.iload_n 3, 1) := by decide +kernel
theorem dL_law_1444 : decode cL_law 1444 = .ok (.iconst 4, 1) := by decide +kernel
theorem dL_law_1445 : decode cL_law 1445 = .ok (.iadd, 1) := by decide +kernel
theorem dL_law_1446 : decode cL_law 1446 = .ok (.iaload, 1) := by decide +kernel
theorem dL_law_1447 : decode cL_law 1447 = .ok (.i2l, 1) := by decide +kernel
theorem dL_law_1448 : decode cL_law 1448 = .ok (.ldc2_w 89, 3) := by decide +kernel
theorem dL_law_1451 : decode cL_law 1451 = .ok (.land, 1) := by decide +kernel
theorem dL_law_1452 : decode cL_law 1452 = .ok (.lor, 1) := by decide +kernel
theorem dL_law_1453 : decode cL_law 1453 = .ok (.invokevirtual 135, 3) := by decide +kernel
theorem dL_law_1456 : decode cL_law 1456 = .ok (.if_icmp .eq 316, 3) := by decide +kernel
theorem dL_law_1459 : decode cL_law 1459 = .ok (.iconst 0, 1) := by decide +kernel
theorem dL_law_1460 : decode cL_law 1460 = .ok (.ireturn, 1) := by decide +kernel
theorem dL_law_1461 : decode cL_law 1461 = .ok (.aload_n 1, 1) := by decide +kernel
theorem dL_law_1462 : decode cL_law 1462 = .ok (.aload_n 0, 1) := by decide +kernel
theorem dL_law_1463 : decode cL_law 1463 = .ok (.iload_n 3, 1) := by decide +kernel
theorem dL_law_1464 : decode cL_law 1464 = .ok (.iconst 1, 1) := by decide +kernel
theorem dL_law_1465 : decode cL_law 1465 = .ok (.iadd, 1) := by decide +kernel
theorem dL_law_1466 : decode cL_law 1466 = .ok (.iaload, 1) := by decide +kernel
theorem dL_law_1467 : decode cL_law 1467 = .ok (.aload_n 0, 1) := by decide +kernel
theorem dL_law_1468 : decode cL_law 1468 = .ok (.iload_n 3, 1) := by decide +kernel
theorem dL_law_1469 : decode cL_law 1469 = .ok (.iconst 2, 1) := by decide +kernel
theorem dL_law_1470 : decode cL_law 1470 = .ok (.iadd, 1) := by decide +kernel
theorem dL_law_1471 : decode cL_law 1471 = .ok (.iaload, 1) := by decide +kernel
theorem dL_law_1472 : decode cL_law 1472 = .ok (.aload_n 0, 1) := by decide +kernel
theorem dL_law_1473 : decode cL_law 1473 = .ok (.iload_n 3, 1) := by decide +kernel
theorem dL_law_1474 : decode cL_law 1474 = .ok (.iconst 3, 1) := by decide +kernel
theorem dL_law_1475 : decode cL_law 1475 = .ok (.iadd, 1) := by decide +kernel
theorem dL_law_1476 : decode cL_law 1476 = .ok (.iaload, 1) := by decide +kernel
theorem dL_law_1477 : decode cL_law 1477 = .ok (.invokevirtual 136, 3) := by decide +kernel
theorem dL_law_1480 : decode cL_law 1480 = .ok (.aload_n 2, 1) := by decide +kernel
theorem dL_law_1481 : decode cL_law 1481 = .ok (.aload_n 0, 1) := by decide +kernel
theorem dL_law_1482 : decode cL_law 1482 = .ok (.iload_n 3, 1) := by decide +kernel
theorem dL_law_1483 : decode cL_law 1483 = .ok (.iconst 1, 1) := by decide +kernel
theorem dL_law_1484 : decode cL_law 1484 = .ok (.iadd, 1) := by decide +kernel
theorem dL_law_1485 : decode cL_law 1485 = .ok (.iaload, 1) := by decide +kernel
theorem dL_law_1486 : decode cL_law 1486 = .ok (.aload_n 0, 1) := by decide +kernel
theorem dL_law_1487 : decode cL_law 1487 = .ok (.iload_n 3, 1) := by decide +kernel
theorem dL_law_1488 : decode cL_law 1488 = .ok (.iconst 2, 1) := by decide +kernel
theorem dL_law_1489 : decode cL_law 1489 = .ok (.iadd, 1) := by decide +kernel
theorem dL_law_1490 : decode cL_law 1490 = .ok (.iaload, 1) := by decide +kernel
theorem dL_law_1491 : decode cL_law 1491 = .ok (.aload_n 0, 1) := by decide +kernel
theorem dL_law_1492 : decode cL_law 1492 = .ok (.iload_n 3, 1) := by decide +kernel
theorem dL_law_1493 : decode cL_law 1493 = .ok (.iconst 3, 1) := by decide +kernel
theorem dL_law_1494 : decode cL_law 1494 = .ok (.iadd, 1) := by decide +kernel
theorem dL_law_1495 : decode cL_law 1495 = .ok (.iaload, 1) := by decide +kernel
theorem dL_law_1496 : decode cL_law 1496 = .ok (.invokevirtual 139, 3) := by decide +kernel
theorem dL_law_1499 : decode cL_law 1499 = .ok (.if_icmp .eq 273, 3) := by decide +kernel
theorem dL_law_1502 : decode cL_law 1502 = .ok (.iconst 0, 1) := by decide +kernel
theorem dL_law_1503 : decode cL_law 1503 = .ok (.ireturn, 1) := by decide +kernel
theorem dL_law_1504 : decode cL_law 1504 = .ok (.aload_n 1, 1) := by decide +kernel
theorem dL_law_1505 : decode cL_law 1505 = .ok (.aload_n 0, 1) := by decide +kernel
theorem dL_law_1506 : decode cL_law 1506 = .ok (.iload_n 3, 1) := by decide +kernel
theorem dL_law_1507 : decode cL_law 1507 = .ok (.iconst 1, 1) := by decide +kernel
theorem dL_law_1508 : decode cL_law 1508 = .ok (.iadd, 1) := by decide +kernel
theorem dL_law_1509 : decode cL_law 1509 = .ok (.iaload, 1) := by decide +kernel
theorem dL_law_1510 : decode cL_law 1510 = .ok (.aload_n 0, 1) := by decide +kernel
theorem dL_law_1511 : decode cL_law 1511 = .ok (.iload_n 3, 1) := by decide +kernel
theorem dL_law_1512 : decode cL_law 1512 = .ok (.iconst 2, 1) := by decide +kernel
theorem dL_law_1513 : decode cL_law 1513 = .ok (.iadd, 1) := by decide +kernel
theorem dL_law_1514 : decode cL_law 1514 = .ok (.iaload, 1) := by decide +kernel
theorem dL_law_1515 : decode cL_law 1515 = .ok (.aload_n 0, 1) := by decide +kernel
theorem dL_law_1516 : decode cL_law 1516 = .ok (.iload_n 3, 1) := by decide +kernel
theorem dL_law_1517 : decode cL_law 1517 = .ok (.iconst 3, 1) := by decide +kernel
theorem dL_law_1518 : decode cL_law 1518 = .ok (.iadd, 1) := by decide +kernel
theorem dL_law_1519 : decode cL_law 1519 = .ok (.iaload, 1) := by decide +kernel
theorem dL_law_1520 : decode cL_law 1520 = .ok (.aload_n 0, 1) := by decide +kernel
theorem dL_law_1521 : decode cL_law 1521 = .ok (.iload_n 3, 1) := by decide +kernel
theorem dL_law_1522 : decode cL_law 1522 = .ok (.iconst 4, 1) := by decide +kernel
theorem dL_law_1523 : decode cL_law 1523 = .ok (.iadd, 1) := by decide +kernel
theorem dL_law_1524 : decode cL_law 1524 = .ok (.iaload, 1) := by decide +kernel
theorem dL_law_1525 : decode cL_law 1525 = .ok (.aload_n 0, 1) := by decide +kernel
theorem dL_law_1526 : decode cL_law 1526 = .ok (.iload_n 3, 1) := by decide +kernel
theorem dL_law_1527 : decode cL_law 1527 = .ok (.iconst 5, 1) := by decide +kernel
theorem dL_law_1528 : decode cL_law 1528 = .ok (.iadd, 1) := by decide +kernel
theorem dL_law_1529 : decode cL_law 1529 = .ok (.iaload, 1) := by decide +kernel
theorem dL_law_1530 : decode cL_law 1530 = .ok (.invokevirtual 140, 3) := by decide +kernel
theorem dL_law_1533 : decode cL_law 1533 = .ok (.aload_n 2, 1) := by decide +kernel
theorem dL_law_1534 : decode cL_law 1534 = .ok (.aload_n 0, 1) := by decide +kernel
theorem dL_law_1535 : decode cL_law 1535 = .ok (.iload_n 3, 1) := by decide +kernel
theorem dL_law_1536 : decode cL_law 1536 = .ok (.iconst 1, 1) := by decide +kernel
theorem dL_law_1537 : decode cL_law 1537 = .ok (.iadd, 1) := by decide +kernel
theorem dL_law_1538 : decode cL_law 1538 = .ok (.iaload, 1) := by decide +kernel
theorem dL_law_1539 : decode cL_law 1539 = .ok (.aload_n 0, 1) := by decide +kernel
theorem dL_law_1540 : decode cL_law 1540 = .ok (.iload_n 3, 1) := by decide +kernel
theorem dL_law_1541 : decode cL_law 1541 = .ok (.iconst 2, 1) := by decide +kernel
theorem dL_law_1542 : decode cL_law 1542 = .ok (.iadd, 1) := by decide +kernel
theorem dL_law_1543 : decode cL_law 1543 = .ok (.iaload, 1) := by decide +kernel
theorem dL_law_1544 : decode cL_law 1544 = .ok (.aload_n 0, 1) := by decide +kernel
theorem dL_law_1545 : decode cL_law 1545 = .ok (.iload_n 3, 1) := by decide +kernel
theorem dL_law_1546 : decode cL_law 1546 = .ok (.iconst 3, 1) := by decide +kernel
theorem dL_law_1547 : decode cL_law 1547 = .ok (.iadd, 1) := by decide +kernel
theorem dL_law_1548 : decode cL_law 1548 = .ok (.iaload, 1) := by decide +kernel
theorem dL_law_1549 : decode cL_law 1549 = .ok (.aload_n 0, 1) := by decide +kernel
theorem dL_law_1550 : decode cL_law 1550 = .ok (.iload_n 3, 1) := by decide +kernel
theorem dL_law_1551 : decode cL_law 1551 = .ok (.iconst 4, 1) := by decide +kernel
theorem dL_law_1552 : decode cL_law 1552 = .ok (.iadd, 1) := by decide +kernel
theorem dL_law_1553 : decode cL_law 1553 = .ok (.iaload, 1) := by decide +kernel
theorem dL_law_1554 : decode cL_law 1554 = .ok (.aload_n 0, 1) := by decide +kernel
theorem dL_law_1555 : decode cL_law 1555 = .ok (.iload_n 3, 1) := by decide +kernel
theorem dL_law_1556 : decode cL_law 1556 = .ok (.iconst 5, 1) := by decide +kernel
theorem dL_law_1557 : decode cL_law 1557 = .ok (.iadd, 1) := by decide +kernel
theorem dL_law_1558 : decode cL_law 1558 = .ok (.iaload, 1) := by decide +kernel
theorem dL_law_1559 : decode cL_law 1559 = .ok (.invokevirtual 144, 3) := by decide +kernel
theorem dL_law_1562 : decode cL_law 1562 = .ok (.if_icmp .eq 210, 3) := by decide +kernel
theorem dL_law_1565 : decode cL_law 1565 = .ok (.iconst 0, 1) := by decide +kernel
theorem dL_law_1566 : decode cL_law 1566 = .ok (.ireturn, 1) := by decide +kernel
theorem dL_law_1567 : decode cL_law 1567 = .ok (.aload_n 1, 1) := by decide +kernel
theorem dL_law_1568 : decode cL_law 1568 = .ok (.aload_n 0, 1) := by decide +kernel
theorem dL_law_1569 : decode cL_law 1569 = .ok (.iload_n 3, 1) := by decide +kernel
theorem dL_law_1570 : decode cL_law 1570 = .ok (.iconst 1, 1) := by decide +kernel
theorem dL_law_1571 : decode cL_law 1571 = .ok (.iadd, 1) := by decide +kernel
theorem dL_law_1572 : decode cL_law 1572 = .ok (.iaload, 1) := by decide +kernel
theorem dL_law_1573 : decode cL_law 1573 = .ok (.aload_n 0, 1) := by decide +kernel
theorem dL_law_1574 : decode cL_law 1574 = .ok (.iload_n 3, 1) := by decide +kernel
theorem dL_law_1575 : decode cL_law 1575 = .ok (.iconst 2, 1) := by decide +kernel
theorem dL_law_1576 : decode cL_law 1576 = .ok (.iadd, 1) := by decide +kernel
theorem dL_law_1577 : decode cL_law 1577 = .ok (.iaload, 1) := by decide +kernel
theorem dL_law_1578 : decode cL_law 1578 = .ok (.invokevirtual 145, 3) := by decide +kernel
theorem dL_law_1581 : decode cL_law 1581 = .ok (.aload_n 2, 1) := by decide +kernel
theorem dL_law_1582 : decode cL_law 1582 = .ok (.aload_n 0, 1) := by decide +kernel
theorem dL_law_1583 : decode cL_law 1583 = .ok (.iload_n 3, 1) := by decide +kernel
theorem dL_law_1584 : decode cL_law 1584 = .ok (.iconst 1, 1) := by decide +kernel
theorem dL_law_1585 : decode cL_law 1585 = .ok (.iadd, 1) := by decide +kernel
theorem dL_law_1586 : decode cL_law 1586 = .ok (.iaload, 1) := by decide +kernel
theorem dL_law_1587 : decode cL_law 1587 = .ok (.aload_n 0, 1) := by decide +kernel
theorem dL_law_1588 : decode cL_law 1588 = .ok (.iload_n 3, 1) := by decide +kernel
theorem dL_law_1589 : decode cL_law 1589 = .ok (.iconst 2, 1) := by decide +kernel
theorem dL_law_1590 : decode cL_law 1590 = .ok (.iadd, 1) := by decide +kernel
theorem dL_law_1591 : decode cL_law 1591 = .ok (.iaload, 1) := by decide +kernel
theorem dL_law_1592 : decode cL_law 1592 = .ok (.invokevirtual 148, 3) := by decide +kernel
theorem dL_law_1595 : decode cL_law 1595 = .ok (.if_icmp .eq 177, 3) := by decide +kernel
theorem dL_law_1598 : decode cL_law 1598 = .ok (.iconst 0, 1) := by decide +kernel
theorem dL_law_1599 : decode cL_law 1599 = .ok (.ireturn, 1) := by decide +kernel
theorem dL_law_1600 : decode cL_law 1600 = .ok (.aload_n 1, 1) := by decide +kernel
theorem dL_law_1601 : decode cL_law 1601 = .ok (.aload_n 0, 1) := by decide +kernel
theorem dL_law_1602 : decode cL_law 1602 = .ok (.iload_n 3, 1) := by decide +kernel
theorem dL_law_1603 : decode cL_law 1603 = .ok (.iconst 1, 1) := by decide +kernel
theorem dL_law_1604 : decode cL_law 1604 = .ok (.iadd, 1) := by decide +kernel
theorem dL_law_1605 : decode cL_law 1605 = .ok (.iaload, 1) := by decide +kernel
theorem dL_law_1606 : decode cL_law 1606 = .ok (.aload_n 0, 1) := by decide +kernel
theorem dL_law_1607 : decode cL_law 1607 = .ok (.iload_n 3, 1) := by decide +kernel
theorem dL_law_1608 : decode cL_law 1608 = .ok (.iconst 2, 1) := by decide +kernel
theorem dL_law_1609 : decode cL_law 1609 = .ok (.iadd, 1) := by decide +kernel
theorem dL_law_1610 : decode cL_law 1610 = .ok (.iaload, 1) := by decide +kernel
theorem dL_law_1611 : decode cL_law 1611 = .ok (.invokevirtual 149, 3) := by decide +kernel
theorem dL_law_1614 : decode cL_law 1614 = .ok (.aload_n 2, 1) := by decide +kernel
theorem dL_law_1615 : decode cL_law 1615 = .ok (.aload_n 0, 1) := by decide +kernel
theorem dL_law_1616 : decode cL_law 1616 = .ok (.iload_n 3, 1) := by decide +kernel
theorem dL_law_1617 : decode cL_law 1617 = .ok (.iconst 1, 1) := by decide +kernel
theorem dL_law_1618 : decode cL_law 1618 = .ok (.iadd, 1) := by decide +kernel
theorem dL_law_1619 : decode cL_law 1619 = .ok (.iaload, 1) := by decide +kernel
theorem dL_law_1620 : decode cL_law 1620 = .ok (.aload_n 0, 1) := by decide +kernel
theorem dL_law_1621 : decode cL_law 1621 = .ok (.iload_n 3, 1) := by decide +kernel
theorem dL_law_1622 : decode cL_law 1622 = .ok (.iconst 2, 1) := by decide +kernel
theorem dL_law_1623 : decode cL_law 1623 = .ok (.iadd, 1) := by decide +kernel
theorem dL_law_1624 : decode cL_law 1624 = .ok (.iaload, 1) := by decide +kernel
theorem dL_law_1625 : decode cL_law 1625 = .ok (.invokevirtual 152, 3) := by decide +kernel
theorem dL_law_1628 : decode cL_law 1628 = .ok (.if_icmp .eq 144, 3) := by decide +kernel
theorem dL_law_1631 : decode cL_law 1631 = .ok (.iconst 0, 1) := by decide +kernel
theorem dL_law_1632 : decode cL_law 1632 = .ok (.ireturn, 1) := by decide +kernel
theorem dL_law_1633 : decode cL_law 1633 = .ok (.aload_n 1, 1) := by decide +kernel
theorem dL_law_1634 : decode cL_law 1634 = .ok (.aload_n 0, 1) := by decide +kernel
theorem dL_law_1635 : decode cL_law 1635 = .ok (.iload_n 3, 1) := by decide +kernel
theorem dL_law_1636 : decode cL_law 1636 = .ok (.iconst 1, 1) := by decide +kernel
theorem dL_law_1637 : decode cL_law 1637 = .ok (.iadd, 1) := by decide +kernel
theorem dL_law_1638 : decode cL_law 1638 = .ok (.iaload, 1) := by decide +kernel
theorem dL_law_1639 : decode cL_law 1639 = .ok (.invokevirtual 153, 3) := by decide +kernel
theorem dL_law_1642 : decode cL_law 1642 = .ok (.aload_n 2, 1) := by decide +kernel
theorem dL_law_1643 : decode cL_law 1643 = .ok (.aload_n 0, 1) := by decide +kernel
theorem dL_law_1644 : decode cL_law 1644 = .ok (.iload_n 3, 1) := by decide +kernel
theorem dL_law_1645 : decode cL_law 1645 = .ok (.iconst 1, 1) := by decide +kernel
theorem dL_law_1646 : decode cL_law 1646 = .ok (.iadd, 1) := by decide +kernel
theorem dL_law_1647 : decode cL_law 1647 = .ok (.iaload, 1) := by decide +kernel
theorem dL_law_1648 : decode cL_law 1648 = .ok (.invokevirtual 156, 3) := by decide +kernel
theorem dL_law_1651 : decode cL_law 1651 = .ok (.if_icmp .eq 121, 3) := by decide +kernel
theorem dL_law_1654 : decode cL_law 1654 = .ok (.iconst 0, 1) := by decide +kernel
theorem dL_law_1655 : decode cL_law 1655 = .ok (.ireturn, 1) := by decide +kernel
theorem dL_law_1656 : decode cL_law 1656 = .ok (.aload_n 1, 1) := by decide +kernel
theorem dL_law_1657 : decode cL_law 1657 = .ok (.aload_n 0, 1) := by decide +kernel
theorem dL_law_1658 : decode cL_law 1658 = .ok (.iload_n 3, 1) := by decide +kernel
theorem dL_law_1659 : decode cL_law 1659 = .ok (.iconst 1, 1) := by decide +kernel
theorem dL_law_1660 : decode cL_law 1660 = .ok (.iadd, 1) := by decide +kernel
theorem dL_law_1661 : decode cL_law 1661 = .ok (.iaload, 1) := by decide +kernel
theorem dL_law_1662 : decode cL_law 1662 = .ok (.aload_n 0, 1) := by decide +kernel
theorem dL_law_1663 : decode cL_law 1663 = .ok (.iload_n 3, 1) := by decide +kernel
theorem dL_law_1664 : decode cL_law 1664 = .ok (.iconst 2, 1) := by decide +kernel
theorem dL_law_1665 : decode cL_law 1665 = .ok (.iadd, 1) := by decide +kernel
theorem dL_law_1666 : decode cL_law 1666 = .ok (.iaload, 1) := by decide +kernel
theorem dL_law_1667 : decode cL_law 1667 = .ok (.invokevirtual 157, 3) := by decide +kernel
theorem dL_law_1670 : decode cL_law 1670 = .ok (.aload_n 2, 1) := by decide +kernel
theorem dL_law_1671 : decode cL_law 1671 = .ok (.aload_n 0, 1) := by decide +kernel
theorem dL_law_1672 : decode cL_law 1672 = .ok (.iload_n 3, 1) := by decide +kernel
theorem dL_law_1673 : decode cL_law 1673 = .ok (.iconst 1, 1) := by decide +kernel
theorem dL_law_1674 : decode cL_law 1674 = .ok (.iadd, 1) := by decide +kernel
theorem dL_law_1675 : decode cL_law 1675 = .ok (.iaload, 1) := by decide +kernel
theorem dL_law_1676 : decode cL_law 1676 = .ok (.aload_n 0, 1) := by decide +kernel
theorem dL_law_1677 : decode cL_law 1677 = .ok (.iload_n 3, 1) := by decide +kernel
theorem dL_law_1678 : decode cL_law 1678 = .ok (.iconst 2, 1) := by decide +kernel
theorem dL_law_1679 : decode cL_law 1679 = .ok (.iadd, 1) := by decide +kernel
theorem dL_law_1680 : decode cL_law 1680 = .ok (.iaload, 1) := by decide +kernel
theorem dL_law_1681 : decode cL_law 1681 = .ok (.invokevirtual 161, 3) := by decide +kernel
theorem dL_law_1684 : decode cL_law 1684 = .ok (.lcmp, 1) := by decide +kernel
theorem dL_law_1685 : decode cL_law 1685 = .ok (.ifCond .eq 87, 3) := by decide +kernel
theorem dL_law_1688 : decode cL_law 1688 = .ok (.iconst 0, 1) := by decide +kernel
theorem dL_law_1689 : decode cL_law 1689 = .ok (.ireturn, 1) := by decide +kernel
theorem dL_law_1690 : decode cL_law 1690 = .ok (.aload_n 1, 1) := by decide +kernel
theorem dL_law_1691 : decode cL_law 1691 = .ok (.aload_n 0, 1) := by decide +kernel
theorem dL_law_1692 : decode cL_law 1692 = .ok (.iload_n 3, 1) := by decide +kernel
theorem dL_law_1693 : decode cL_law 1693 = .ok (.iconst 1, 1) := by decide +kernel
theorem dL_law_1694 : decode cL_law 1694 = .ok (.iadd, 1) := by decide +kernel
theorem dL_law_1695 : decode cL_law 1695 = .ok (.iaload, 1) := by decide +kernel
theorem dL_law_1696 : decode cL_law 1696 = .ok (.aload_n 0, 1) := by decide +kernel
theorem dL_law_1697 : decode cL_law 1697 = .ok (.iload_n 3, 1) := by decide +kernel
theorem dL_law_1698 : decode cL_law 1698 = .ok (.iconst 2, 1) := by decide +kernel
theorem dL_law_1699 : decode cL_law 1699 = .ok (.iadd, 1) := by decide +kernel
theorem dL_law_1700 : decode cL_law 1700 = .ok (.iaload, 1) := by decide +kernel
theorem dL_law_1701 : decode cL_law 1701 = .ok (.invokevirtual 162, 3) := by decide +kernel
theorem dL_law_1704 : decode cL_law 1704 = .ok (.aload_n 2, 1) := by decide +kernel
theorem dL_law_1705 : decode cL_law 1705 = .ok (.aload_n 0, 1) := by decide +kernel
theorem dL_law_1706 : decode cL_law 1706 = .ok (.iload_n 3, 1) := by decide +kernel
theorem dL_law_1707 : decode cL_law 1707 = .ok (.iconst 1, 1) := by decide +kernel
theorem dL_law_1708 : decode cL_law 1708 = .ok (.iadd, 1) := by decide +kernel
theorem dL_law_1709 : decode cL_law 1709 = .ok (.iaload, 1) := by decide +kernel
theorem dL_law_1710 : decode cL_law 1710 = .ok (.aload_n 0, 1) := by decide +kernel
theorem dL_law_1711 : decode cL_law 1711 = .ok (.iload_n 3, 1) := by decide +kernel
theorem dL_law_1712 : decode cL_law 1712 = .ok (.iconst 2, 1) := by decide +kernel
theorem dL_law_1713 : decode cL_law 1713 = .ok (.iadd, 1) := by decide +kernel
theorem dL_law_1714 : decode cL_law 1714 = .ok (.iaload, 1) := by decide +kernel
theorem dL_law_1715 : decode cL_law 1715 = .ok (.invokevirtual 165, 3) := by decide +kernel
theorem dL_law_1718 : decode cL_law 1718 = .ok (.if_icmp .eq 54, 3) := by decide +kernel
theorem dL_law_1721 : decode cL_law 1721 = .ok (.iconst 0, 1) := by decide +kernel
theorem dL_law_1722 : decode cL_law 1722 = .ok (.ireturn, 1) := by decide +kernel
theorem dL_law_1723 : decode cL_law 1723 = .ok (.aload_n 1, 1) := by decide +kernel
theorem dL_law_1724 : decode cL_law 1724 = .ok (.aload_n 0, 1) := by decide +kernel
theorem dL_law_1725 : decode cL_law 1725 = .ok (.iload_n 3, 1) := by decide +kernel
theorem dL_law_1726 : decode cL_law 1726 = .ok (.iconst 1, 1) := by decide +kernel
theorem dL_law_1727 : decode cL_law 1727 = .ok (.iadd, 1) := by decide +kernel
theorem dL_law_1728 : decode cL_law 1728 = .ok (.iaload, 1) := by decide +kernel
theorem dL_law_1729 : decode cL_law 1729 = .ok (.invokevirtual 166, 3) := by decide +kernel
theorem dL_law_1732 : decode cL_law 1732 = .ok (.aload_n 2, 1) := by decide +kernel
theorem dL_law_1733 : decode cL_law 1733 = .ok (.aload_n 0, 1) := by decide +kernel
theorem dL_law_1734 : decode cL_law 1734 = .ok (.iload_n 3, 1) := by decide +kernel
theorem dL_law_1735 : decode cL_law 1735 = .ok (.iconst 1, 1) := by decide +kernel
theorem dL_law_1736 : decode cL_law 1736 = .ok (.iadd, 1) := by decide +kernel
theorem dL_law_1737 : decode cL_law 1737 = .ok (.iaload, 1) := by decide +kernel
theorem dL_law_1738 : decode cL_law 1738 = .ok (.invokevirtual 169, 3) := by decide +kernel
theorem dL_law_1741 : decode cL_law 1741 = .ok (.if_icmp .eq 31, 3) := by decide +kernel
theorem dL_law_1744 : decode cL_law 1744 = .ok (.iconst 0, 1) := by decide +kernel
theorem dL_law_1745 : decode cL_law 1745 = .ok (.ireturn, 1) := by decide +kernel
theorem dL_law_1746 : decode cL_law 1746 = .ok (.aload_n 1, 1) := by decide +kernel
theorem dL_law_1747 : decode cL_law 1747 = .ok (.invokevirtual 170, 3) := by decide +kernel
theorem dL_law_1750 : decode cL_law 1750 = .ok (.aload_n 2, 1) := by decide +kernel
theorem dL_law_1751 : decode cL_law 1751 = .ok (.invokevirtual 173, 3) := by decide +kernel
theorem dL_law_1754 : decode cL_law 1754 = .ok (.if_icmp .eq 18, 3) := by decide +kernel
theorem dL_law_1757 : decode cL_law 1757 = .ok (.iconst 0, 1) := by decide +kernel
theorem dL_law_1758 : decode cL_law 1758 = .ok (.ireturn, 1) := by decide +kernel
theorem dL_law_1759 : decode cL_law 1759 = .ok (.aload_n 1, 1) := by decide +kernel
theorem dL_law_1760 : decode cL_law 1760 = .ok (.invokevirtual 174, 3) := by decide +kernel
theorem dL_law_1763 : decode cL_law 1763 = .ok (.aload_n 2, 1) := by decide +kernel
theorem dL_law_1764 : decode cL_law 1764 = .ok (.invokevirtual 177, 3) := by decide +kernel
theorem dL_law_1767 : decode cL_law 1767 = .ok (.if_icmp .eq 5, 3) := by decide +kernel
theorem dL_law_1770 : decode cL_law 1770 = .ok (.iconst 0, 1) := by decide +kernel
theorem dL_law_1771 : decode cL_law 1771 = .ok (.ireturn, 1) := by decide +kernel
theorem dL_law_1772 : decode cL_law 1772 = .ok (.iinc 3 7, 3) := by decide +kernel
theorem dL_law_1775 : decode cL_law 1775 = .ok (.goto (-1757), 3) := by decide +kernel
theorem dL_law_1778 : decode cL_law 1778 = .ok (.iconst 1, 1) := by decide +kernel
theorem dL_law_1779 : decode cL_law 1779 = .ok (.ireturn, 1) := by decide +kernel
