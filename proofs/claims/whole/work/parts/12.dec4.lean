theorem d_Md_init_0 : decode m_Md_init.2.1 0 = .ok (.aload_n 0, 1) := by decide +kernel
theorem d_Md_init_1 : decode m_Md_init.2.1 1 = .ok (.invokespecial 1, 3) := by decide +kernel
theorem d_Md_init_4 : decode m_Md_init.2.1 4 = .ok (.aload_n 0, 1) := by decide +kernel
theorem d_Md_init_5 : decode m_Md_init.2.1 5 = .ok (.sipush 1116, 3) := by decide +kernel
theorem d_Md_init_8 : decode m_Md_init.2.1 8 = .ok (.newarray .int, 2) := by decide +kernel
theorem d_Md_init_10 : decode m_Md_init.2.1 10 = .ok (.putfield 7, 3) := by decide +kernel
theorem d_Md_init_13 : decode m_Md_init.2.1 13 = .ok (.aload_n 0, 1) := by decide +kernel
theorem d_Md_init_14 : decode m_Md_init.2.1 14 = .ok (.iconst 2, 1) := by decide +kernel
theorem d_Md_init_15 : decode m_Md_init.2.1 15 = .ok (.newarray .boolean, 2) := by decide +kernel
theorem d_Md_init_17 : decode m_Md_init.2.1 17 = .ok (.putfield 13, 3) := by decide +kernel
theorem d_Md_init_20 : decode m_Md_init.2.1 20 = .ok (.aload_n 0, 1) := by decide +kernel
theorem d_Md_init_21 : decode m_Md_init.2.1 21 = .ok (.iconst 5, 1) := by decide +kernel
theorem d_Md_init_22 : decode m_Md_init.2.1 22 = .ok (.newarray .int, 2) := by decide +kernel
theorem d_Md_init_24 : decode m_Md_init.2.1 24 = .ok (.putfield 17, 3) := by decide +kernel
theorem d_Md_init_27 : decode m_Md_init.2.1 27 = .ok (.aload_n 0, 1) := by decide +kernel
theorem d_Md_init_28 : decode m_Md_init.2.1 28 = .ok (.iconst 5, 1) := by decide +kernel
theorem d_Md_init_29 : decode m_Md_init.2.1 29 = .ok (.newarray .int, 2) := by decide +kernel
theorem d_Md_init_31 : decode m_Md_init.2.1 31 = .ok (.putfield 20, 3) := by decide +kernel
theorem d_Md_init_34 : decode m_Md_init.2.1 34 = .ok (.aload_n 0, 1) := by decide +kernel
theorem d_Md_init_35 : decode m_Md_init.2.1 35 = .ok (.iconst 5, 1) := by decide +kernel
theorem d_Md_init_36 : decode m_Md_init.2.1 36 = .ok (.newarray .int, 2) := by decide +kernel
theorem d_Md_init_38 : decode m_Md_init.2.1 38 = .ok (.putfield 23, 3) := by decide +kernel
theorem d_Md_init_41 : decode m_Md_init.2.1 41 = .ok (.aload_n 0, 1) := by decide +kernel
theorem d_Md_init_42 : decode m_Md_init.2.1 42 = .ok (.bipush 10, 2) := by decide +kernel
theorem d_Md_init_44 : decode m_Md_init.2.1 44 = .ok (.newarray .int, 2) := by decide +kernel
theorem d_Md_init_46 : decode m_Md_init.2.1 46 = .ok (.putfield 26, 3) := by decide +kernel
theorem d_Md_init_49 : decode m_Md_init.2.1 49 = .ok (.aload_n 0, 1) := by decide +kernel
theorem d_Md_init_50 : decode m_Md_init.2.1 50 = .ok (.bipush 10, 2) := by decide +kernel
theorem d_Md_init_52 : decode m_Md_init.2.1 52 = .ok (.newarray .int, 2) := by decide +kernel
theorem d_Md_init_54 : decode m_Md_init.2.1 54 = .ok (.putfield 29, 3) := by decide +kernel
theorem d_Md_init_57 : decode m_Md_init.2.1 57 = .ok (.aload_n 0, 1) := by decide +kernel
theorem d_Md_init_58 : decode m_Md_init.2.1 58 = .ok (.bipush 10, 2) := by decide +kernel
theorem d_Md_init_60 : decode m_Md_init.2.1 60 = .ok (.newarray .int, 2) := by decide +kernel
theorem d_Md_init_62 : decode m_Md_init.2.1 62 = .ok (.putfield 32, 3) := by decide +kernel
theorem d_Md_init_65 : decode m_Md_init.2.1 65 = .ok (.aload_n 0, 1) := by decide +kernel
theorem d_Md_init_66 : decode m_Md_init.2.1 66 = .ok (.bipush 10, 2) := by decide +kernel
theorem d_Md_init_68 : decode m_Md_init.2.1 68 = .ok (.newarray .int, 2) := by decide +kernel
theorem d_Md_init_70 : decode m_Md_init.2.1 70 = .ok (.putfield 35, 3) := by decide +kernel
theorem d_Md_init_73 : decode m_Md_init.2.1 73 = .ok (.aload_n 0, 1) := by decide +kernel
theorem d_Md_init_74 : decode m_Md_init.2.1 74 = .ok (.bipush 10, 2) := by decide +kernel
theorem d_Md_init_76 : decode m_Md_init.2.1 76 = .ok (.newarray .int, 2) := by decide +kernel
theorem d_Md_init_78 : decode m_Md_init.2.1 78 = .ok (.putfield 38, 3) := by decide +kernel
theorem d_Md_init_81 : decode m_Md_init.2.1 81 = .ok (.aload_n 0, 1) := by decide +kernel
theorem d_Md_init_82 : decode m_Md_init.2.1 82 = .ok (.sipush 200, 3) := by decide +kernel
theorem d_Md_init_85 : decode m_Md_init.2.1 85 = .ok (.newarray .int, 2) := by decide +kernel
theorem d_Md_init_87 : decode m_Md_init.2.1 87 = .ok (.putfield 41, 3) := by decide +kernel
theorem d_Md_init_90 : decode m_Md_init.2.1 90 = .ok (.aload_n 0, 1) := by decide +kernel
theorem d_Md_init_91 : decode m_Md_init.2.1 91 = .ok (.iconst 5, 1) := by decide +kernel
theorem d_Md_init_92 : decode m_Md_init.2.1 92 = .ok (.newarray .int, 2) := by decide +kernel
theorem d_Md_init_94 : decode m_Md_init.2.1 94 = .ok (.putfield 44, 3) := by decide +kernel
theorem d_Md_init_97 : decode m_Md_init.2.1 97 = .ok (.aload_n 0, 1) := by decide +kernel
theorem d_Md_init_98 : decode m_Md_init.2.1 98 = .ok (.iconst 5, 1) := by decide +kernel
theorem d_Md_init_99 : decode m_Md_init.2.1 99 = .ok (.newarray .int, 2) := by decide +kernel
theorem d_Md_init_101 : decode m_Md_init.2.1 101 = .ok (.putfield 47, 3) := by decide +kernel
theorem d_Md_init_104 : decode m_Md_init.2.1 104 = .ok (.aload_n 0, 1) := by decide +kernel
theorem d_Md_init_105 : decode m_Md_init.2.1 105 = .ok (.iconst 5, 1) := by decide +kernel
theorem d_Md_init_106 : decode m_Md_init.2.1 106 = .ok (.newarray .int, 2) := by decide +kernel
theorem d_Md_init_108 : decode m_Md_init.2.1 108 = .ok (.putfield 50, 3) := by decide +kernel
theorem d_Md_init_111 : decode m_Md_init.2.1 111 = .ok (.aload_n 0, 1) := by decide +kernel
theorem d_Md_init_112 : decode m_Md_init.2.1 112 = .ok (.bipush 10, 2) := by decide +kernel
theorem d_Md_init_114 : decode m_Md_init.2.1 114 = .ok (.newarray .int, 2) := by decide +kernel
theorem d_Md_init_116 : decode m_Md_init.2.1 116 = .ok (.putfield 53, 3) := by decide +kernel
theorem d_Md_init_119 : decode m_Md_init.2.1 119 = .ok (.aload_n 0, 1) := by decide +kernel
theorem d_Md_init_120 : decode m_Md_init.2.1 120 = .ok (.bipush 10, 2) := by decide +kernel
theorem d_Md_init_122 : decode m_Md_init.2.1 122 = .ok (.newarray .int, 2) := by decide +kernel
theorem d_Md_init_124 : decode m_Md_init.2.1 124 = .ok (.putfield 56, 3) := by decide +kernel
theorem d_Md_init_127 : decode m_Md_init.2.1 127 = .ok (.aload_n 0, 1) := by decide +kernel
theorem d_Md_init_128 : decode m_Md_init.2.1 128 = .ok (.bipush 10, 2) := by decide +kernel
theorem d_Md_init_130 : decode m_Md_init.2.1 130 = .ok (.newarray .int, 2) := by decide +kernel
theorem d_Md_init_132 : decode m_Md_init.2.1 132 = .ok (.putfield 59, 3) := by decide +kernel
theorem d_Md_init_135 : decode m_Md_init.2.1 135 = .ok (.aload_n 0, 1) := by decide +kernel
theorem d_Md_init_136 : decode m_Md_init.2.1 136 = .ok (.bipush 10, 2) := by decide +kernel
theorem d_Md_init_138 : decode m_Md_init.2.1 138 = .ok (.newarray .int, 2) := by decide +kernel
theorem d_Md_init_140 : decode m_Md_init.2.1 140 = .ok (.putfield 62, 3) := by decide +kernel
theorem d_Md_init_143 : decode m_Md_init.2.1 143 = .ok (.aload_n 0, 1) := by decide +kernel
theorem d_Md_init_144 : decode m_Md_init.2.1 144 = .ok (.bipush 10, 2) := by decide +kernel
theorem d_Md_init_146 : decode m_Md_init.2.1 146 = .ok (.newarray .int, 2) := by decide +kernel
theorem d_Md_init_148 : decode m_Md_init.2.1 148 = .ok (.putfield 65, 3) := by decide +kernel
theorem d_Md_init_151 : decode m_Md_init.2.1 151 = .ok (.aload_n 0, 1) := by decide +kernel
theorem d_Md_init_152 : decode m_Md_init.2.1 152 = .ok (.iconst 5, 1) := by decide +kernel
theorem d_Md_init_153 : decode m_Md_init.2.1 153 = .ok (.newarray .int, 2) := by decide +kernel
theorem d_Md_init_155 : decode m_Md_init.2.1 155 = .ok (.putfield 68, 3) := by decide +kernel
theorem d_Md_init_158 : decode m_Md_init.2.1 158 = .ok (.aload_n 0, 1) := by decide +kernel
theorem d_Md_init_159 : decode m_Md_init.2.1 159 = .ok (.bipush 6, 2) := by decide +kernel
theorem d_Md_init_161 : decode m_Md_init.2.1 161 = .ok (.newarray .int, 2) := by decide +kernel
theorem d_Md_init_163 : decode m_Md_init.2.1 163 = .ok (.putfield 71, 3) := by decide +kernel
theorem d_Md_init_166 : decode m_Md_init.2.1 166 = .ok (.aload_n 0, 1) := by decide +kernel
theorem d_Md_init_167 : decode m_Md_init.2.1 167 = .ok (.iconst 5, 1) := by decide +kernel
theorem d_Md_init_168 : decode m_Md_init.2.1 168 = .ok (.newarray .int, 2) := by decide +kernel
theorem d_Md_init_170 : decode m_Md_init.2.1 170 = .ok (.putfield 74, 3) := by decide +kernel
theorem d_Md_init_173 : decode m_Md_init.2.1 173 = .ok (.aload_n 0, 1) := by decide +kernel
theorem d_Md_init_174 : decode m_Md_init.2.1 174 = .ok (.iconst 3, 1) := by decide +kernel
theorem d_Md_init_175 : decode m_Md_init.2.1 175 = .ok (.newarray .int, 2) := by decide +kernel
theorem d_Md_init_177 : decode m_Md_init.2.1 177 = .ok (.putfield 77, 3) := by decide +kernel
theorem d_Md_init_180 : decode m_Md_init.2.1 180 = .ok (.aload_n 0, 1) := by decide +kernel
theorem d_Md_init_181 : decode m_Md_init.2.1 181 = .ok (.iconst 3, 1) := by decide +kernel
theorem d_Md_init_182 : decode m_Md_init.2.1 182 = .ok (.newarray .int, 2) := by decide +kernel
theorem d_Md_init_184 : decode m_Md_init.2.1 184 = .ok (.putfield 80, 3) := by decide +kernel
theorem d_Md_init_187 : decode m_Md_init.2.1 187 = .ok (.aload_n 0, 1) := by decide +kernel
theorem d_Md_init_188 : decode m_Md_init.2.1 188 = .ok (.bipush 6, 2) := by decide +kernel
theorem d_Md_init_190 : decode m_Md_init.2.1 190 = .ok (.newarray .int, 2) := by decide +kernel
theorem d_Md_init_192 : decode m_Md_init.2.1 192 = .ok (.putfield 83, 3) := by decide +kernel
theorem d_Md_init_195 : decode m_Md_init.2.1 195 = .ok (.aload_n 0, 1) := by decide +kernel
theorem d_Md_init_196 : decode m_Md_init.2.1 196 = .ok (.bipush 6, 2) := by decide +kernel
theorem d_Md_init_198 : decode m_Md_init.2.1 198 = .ok (.newarray .int, 2) := by decide +kernel
theorem d_Md_init_200 : decode m_Md_init.2.1 200 = .ok (.putfield 86, 3) := by decide +kernel
theorem d_Md_init_203 : decode m_Md_init.2.1 203 = .ok (.aload_n 0, 1) := by decide +kernel
theorem d_Md_init_204 : decode m_Md_init.2.1 204 = .ok (.bipush 6, 2) := by decide +kernel
theorem d_Md_init_206 : decode m_Md_init.2.1 206 = .ok (.newarray .int, 2) := by decide +kernel
theorem d_Md_init_208 : decode m_Md_init.2.1 208 = .ok (.putfield 89, 3) := by decide +kernel
theorem d_Md_init_211 : decode m_Md_init.2.1 211 = .ok (.aload_n 0, 1) := by decide +kernel
theorem d_Md_init_212 : decode m_Md_init.2.1 212 = .ok (.iconst 3, 1) := by decide +kernel
theorem d_Md_init_213 : decode m_Md_init.2.1 213 = .ok (.newarray .int, 2) := by decide +kernel
theorem d_Md_init_215 : decode m_Md_init.2.1 215 = .ok (.putfield 92, 3) := by decide +kernel
theorem d_Md_init_218 : decode m_Md_init.2.1 218 = .ok (.aload_n 0, 1) := by decide +kernel
theorem d_Md_init_219 : decode m_Md_init.2.1 219 = .ok (.bipush 15, 2) := by decide +kernel
theorem d_Md_init_221 : decode m_Md_init.2.1 221 = .ok (.newarray .int, 2) := by decide +kernel
theorem d_Md_init_223 : decode m_Md_init.2.1 223 = .ok (.putfield 95, 3) := by decide +kernel
theorem d_Md_init_226 : decode m_Md_init.2.1 226 = .ok (.aload_n 0, 1) := by decide +kernel
theorem d_Md_init_227 : decode m_Md_init.2.1 227 = .ok (.bipush 16, 2) := by decide +kernel
theorem d_Md_init_229 : decode m_Md_init.2.1 229 = .ok (.newarray .int, 2) := by decide +kernel
theorem d_Md_init_231 : decode m_Md_init.2.1 231 = .ok (.putfield 98, 3) := by decide +kernel
theorem d_Md_init_234 : decode m_Md_init.2.1 234 = .ok (.aload_n 0, 1) := by decide +kernel
theorem d_Md_init_235 : decode m_Md_init.2.1 235 = .ok (.bipush 96, 2) := by decide +kernel
theorem d_Md_init_237 : decode m_Md_init.2.1 237 = .ok (.newarray .int, 2) := by decide +kernel
theorem d_Md_init_239 : decode m_Md_init.2.1 239 = .ok (.putfield 101, 3) := by decide +kernel
theorem d_Md_init_242 : decode m_Md_init.2.1 242 = .ok (.aload_n 0, 1) := by decide +kernel
theorem d_Md_init_243 : decode m_Md_init.2.1 243 = .ok (.bipush 96, 2) := by decide +kernel
theorem d_Md_init_245 : decode m_Md_init.2.1 245 = .ok (.newarray .int, 2) := by decide +kernel
theorem d_Md_init_247 : decode m_Md_init.2.1 247 = .ok (.putfield 104, 3) := by decide +kernel
theorem d_Md_init_250 : decode m_Md_init.2.1 250 = .ok (.iconst 0, 1) := by decide +kernel
theorem d_Md_init_251 : decode m_Md_init.2.1 251 = .ok (.istore_n 1, 1) := by decide +kernel
theorem d_Md_init_252 : decode m_Md_init.2.1 252 = .ok (.iload_n 1, 1) := by decide +kernel
theorem d_Md_init_253 : decode m_Md_init.2.1 253 = .ok (.iconst 3, 1) := by decide +kernel
theorem d_Md_init_254 : decode m_Md_init.2.1 254 = .ok (.if_icmp .ge 16, 3) := by decide +kernel
theorem d_Md_init_257 : decode m_Md_init.2.1 257 = .ok (.aload_n 0, 1) := by decide +kernel
theorem d_Md_init_258 : decode m_Md_init.2.1 258 = .ok (.getfield 92, 3) := by decide +kernel
theorem d_Md_init_261 : decode m_Md_init.2.1 261 = .ok (.iload_n 1, 1) := by decide +kernel
theorem d_Md_init_262 : decode m_Md_init.2.1 262 = .ok (.iconst (-1), 1) := by decide +kernel
theorem d_Md_init_263 : decode m_Md_init.2.1 263 = .ok (.iastore, 1) := by decide +kernel
theorem d_Md_init_264 : decode m_Md_init.2.1 264 = .ok (.iinc 1 1, 3) := by decide +kernel
theorem d_Md_init_267 : decode m_Md_init.2.1 267 = .ok (.goto (-15), 3) := by decide +kernel
theorem d_Md_init_270 : decode m_Md_init.2.1 270 = .ok (.return_, 1) := by decide +kernel
theorem d_Md_fault_0 : decode m_Md_fault.2.1 0 = .ok (.aload_n 0, 1) := by decide +kernel
theorem d_Md_fault_1 : decode m_Md_fault.2.1 1 = .ok (.invokevirtual 216, 3) := by decide +kernel
theorem d_Md_fault_4 : decode m_Md_fault.2.1 4 = .ok (.ireturn, 1) := by decide +kernel
theorem d_Md_sortOf_0 : decode m_Md_sortOf.2.1 0 = .ok (.iload_n 0, 1) := by decide +kernel
theorem d_Md_sortOf_1 : decode m_Md_sortOf.2.1 1 = .ok (.i2l, 1) := by decide +kernel
theorem d_Md_sortOf_2 : decode m_Md_sortOf.2.1 2 = .ok (.ldc2_w 123, 3) := by decide +kernel
theorem d_Md_sortOf_5 : decode m_Md_sortOf.2.1 5 = .ok (.ldc2_w 125, 3) := by decide +kernel
theorem d_Md_sortOf_8 : decode m_Md_sortOf.2.1 8 = .ok (.invokestatic 111, 3) := by decide +kernel
theorem d_Md_sortOf_11 : decode m_Md_sortOf.2.1 11 = .ok (.ifCond .eq 7, 3) := by decide +kernel
theorem d_Md_sortOf_14 : decode m_Md_sortOf.2.1 14 = .ok (.iconst 1, 1) := by decide +kernel
theorem d_Md_sortOf_15 : decode m_Md_sortOf.2.1 15 = .ok (.goto 22, 3) := by decide +kernel
theorem d_Md_sortOf_18 : decode m_Md_sortOf.2.1 18 = .ok (.iload_n 0, 1) := by decide +kernel
theorem d_Md_sortOf_19 : decode m_Md_sortOf.2.1 19 = .ok (.i2l, 1) := by decide +kernel
theorem d_Md_sortOf_20 : decode m_Md_sortOf.2.1 20 = .ok (.ldc2_w 127, 3) := by decide +kernel
theorem d_Md_sortOf_23 : decode m_Md_sortOf.2.1 23 = .ok (.ldc2_w 129, 3) := by decide +kernel
theorem d_Md_sortOf_26 : decode m_Md_sortOf.2.1 26 = .ok (.invokestatic 111, 3) := by decide +kernel
theorem d_Md_sortOf_29 : decode m_Md_sortOf.2.1 29 = .ok (.ifCond .eq 7, 3) := by decide +kernel
theorem d_Md_sortOf_32 : decode m_Md_sortOf.2.1 32 = .ok (.iconst 2, 1) := by decide +kernel
theorem d_Md_sortOf_33 : decode m_Md_sortOf.2.1 33 = .ok (.goto 4, 3) := by decide +kernel
theorem d_Md_sortOf_36 : decode m_Md_sortOf.2.1 36 = .ok (.iconst 3, 1) := by decide +kernel
theorem d_Md_sortOf_37 : decode m_Md_sortOf.2.1 37 = .ok (.ireturn, 1) := by decide +kernel
theorem d_Md_takesPromise_0 : decode m_Md_takesPromise.2.1 0 = .ok (.aload_n 0, 1) := by decide +kernel
theorem d_Md_takesPromise_1 : decode m_Md_takesPromise.2.1 1 = .ok (.getfield 183, 3) := by decide +kernel
theorem d_Md_takesPromise_4 : decode m_Md_takesPromise.2.1 4 = .ok (.bipush 10, 2) := by decide +kernel
theorem d_Md_takesPromise_6 : decode m_Md_takesPromise.2.1 6 = .ok (.if_icmp .ne 5, 3) := by decide +kernel
theorem d_Md_takesPromise_9 : decode m_Md_takesPromise.2.1 9 = .ok (.iconst 0, 1) := by decide +kernel
theorem d_Md_takesPromise_10 : decode m_Md_takesPromise.2.1 10 = .ok (.ireturn, 1) := by decide +kernel
theorem d_Md_takesPromise_11 : decode m_Md_takesPromise.2.1 11 = .ok (.aload_n 0, 1) := by decide +kernel
theorem d_Md_takesPromise_12 : decode m_Md_takesPromise.2.1 12 = .ok (.invokevirtual 153, 3) := by decide +kernel
theorem d_Md_takesPromise_15 : decode m_Md_takesPromise.2.1 15 = .ok (.aload_n 0, 1) := by decide +kernel
theorem d_Md_takesPromise_16 : decode m_Md_takesPromise.2.1 16 = .ok (.iconst 0, 1) := by decide +kernel
theorem d_Md_takesPromise_17 : decode m_Md_takesPromise.2.1 17 = .ok (.aload_n 0, 1) := by decide +kernel
theorem d_Md_takesPromise_18 : decode m_Md_takesPromise.2.1 18 = .ok (.getfield 176, 3) := by decide +kernel
theorem d_Md_takesPromise_21 : decode m_Md_takesPromise.2.1 21 = .ok (.iconst 1, 1) := by decide +kernel
theorem d_Md_takesPromise_22 : decode m_Md_takesPromise.2.1 22 = .ok (.isub, 1) := by decide +kernel
theorem d_Md_takesPromise_23 : decode m_Md_takesPromise.2.1 23 = .ok (.invokevirtual 179, 3) := by decide +kernel
theorem d_Md_takesPromise_26 : decode m_Md_takesPromise.2.1 26 = .ok (.ifCond .ne 5, 3) := by decide +kernel
theorem d_Md_takesPromise_29 : decode m_Md_takesPromise.2.1 29 = .ok (.iconst 0, 1) := by decide +kernel
theorem d_Md_takesPromise_30 : decode m_Md_takesPromise.2.1 30 = .ok (.ireturn, 1) := by decide +kernel
theorem d_Md_takesPromise_31 : decode m_Md_takesPromise.2.1 31 = .ok (.aload_n 0, 1) := by decide +kernel
theorem d_Md_takesPromise_32 : decode m_Md_takesPromise.2.1 32 = .ok (.getfield 150, 3) := by decide +kernel
theorem d_Md_takesPromise_35 : decode m_Md_takesPromise.2.1 35 = .ok (.istore_n 2, 1) := by decide +kernel
theorem d_Md_takesPromise_36 : decode m_Md_takesPromise.2.1 36 = .ok (.aload_n 0, 1) := by decide +kernel
theorem d_Md_takesPromise_37 : decode m_Md_takesPromise.2.1 37 = .ok (.iconst 1, 1) := by decide +kernel
theorem d_Md_takesPromise_38 : decode m_Md_takesPromise.2.1 38 = .ok (.bipush 40, 2) := by decide +kernel
theorem d_Md_takesPromise_40 : decode m_Md_takesPromise.2.1 40 = .ok (.invokevirtual 179, 3) := by decide +kernel
theorem d_Md_takesPromise_43 : decode m_Md_takesPromise.2.1 43 = .ok (.ifCond .ne 5, 3) := by decide +kernel
theorem d_Md_takesPromise_46 : decode m_Md_takesPromise.2.1 46 = .ok (.iconst 0, 1) := by decide +kernel
theorem d_Md_takesPromise_47 : decode m_Md_takesPromise.2.1 47 = .ok (.ireturn, 1) := by decide +kernel
theorem d_Md_takesPromise_48 : decode m_Md_takesPromise.2.1 48 = .ok (.aload_n 0, 1) := by decide +kernel
theorem d_Md_takesPromise_49 : decode m_Md_takesPromise.2.1 49 = .ok (.getfield 150, 3) := by decide +kernel
theorem d_Md_takesPromise_52 : decode m_Md_takesPromise.2.1 52 = .ok (.istore_n 3, 1) := by decide +kernel
theorem d_Md_takesPromise_53 : decode m_Md_takesPromise.2.1 53 = .ok (.aload_n 0, 1) := by decide +kernel
theorem d_Md_takesPromise_54 : decode m_Md_takesPromise.2.1 54 = .ok (.iconst 0, 1) := by decide +kernel
theorem d_Md_takesPromise_55 : decode m_Md_takesPromise.2.1 55 = .ok (.putfield 150, 3) := by decide +kernel
theorem d_Md_takesPromise_58 : decode m_Md_takesPromise.2.1 58 = .ok (.aload_n 0, 1) := by decide +kernel
theorem d_Md_takesPromise_59 : decode m_Md_takesPromise.2.1 59 = .ok (.getfield 140, 3) := by decide +kernel
theorem d_Md_takesPromise_62 : decode m_Md_takesPromise.2.1 62 = .ok (.iconst 1, 1) := by decide +kernel
theorem d_Md_takesPromise_63 : decode m_Md_takesPromise.2.1 63 = .ok (.if_icmp .ne 12, 3) := by decide +kernel
theorem d_Md_takesPromise_66 : decode m_Md_takesPromise.2.1 66 = .ok (.aload_n 0, 1) := by decide +kernel
theorem d_Md_takesPromise_67 : decode m_Md_takesPromise.2.1 67 = .ok (.invokevirtual 186, 3) := by decide +kernel
theorem d_Md_takesPromise_70 : decode m_Md_takesPromise.2.1 70 = .ok (.ifCond .ne 5, 3) := by decide +kernel
theorem d_Md_takesPromise_73 : decode m_Md_takesPromise.2.1 73 = .ok (.iconst 0, 1) := by decide +kernel
theorem d_Md_takesPromise_74 : decode m_Md_takesPromise.2.1 74 = .ok (.ireturn, 1) := by decide +kernel
theorem d_Md_takesPromise_75 : decode m_Md_takesPromise.2.1 75 = .ok (.aload_n 0, 1) := by decide +kernel
theorem d_Md_takesPromise_76 : decode m_Md_takesPromise.2.1 76 = .ok (.getfield 53, 3) := by decide +kernel
theorem d_Md_takesPromise_79 : decode m_Md_takesPromise.2.1 79 = .ok (.aload_n 0, 1) := by decide +kernel
theorem d_Md_takesPromise_80 : decode m_Md_takesPromise.2.1 80 = .ok (.getfield 183, 3) := by decide +kernel
theorem d_Md_takesPromise_83 : decode m_Md_takesPromise.2.1 83 = .ok (.iload_n 1, 1) := by decide +kernel
theorem d_Md_takesPromise_84 : decode m_Md_takesPromise.2.1 84 = .ok (.iastore, 1) := by decide +kernel
theorem d_Md_takesPromise_85 : decode m_Md_takesPromise.2.1 85 = .ok (.aload_n 0, 1) := by decide +kernel
theorem d_Md_takesPromise_86 : decode m_Md_takesPromise.2.1 86 = .ok (.getfield 56, 3) := by decide +kernel
theorem d_Md_takesPromise_89 : decode m_Md_takesPromise.2.1 89 = .ok (.aload_n 0, 1) := by decide +kernel
theorem d_Md_takesPromise_90 : decode m_Md_takesPromise.2.1 90 = .ok (.getfield 183, 3) := by decide +kernel
theorem d_Md_takesPromise_93 : decode m_Md_takesPromise.2.1 93 = .ok (.iload_n 3, 1) := by decide +kernel
theorem d_Md_takesPromise_94 : decode m_Md_takesPromise.2.1 94 = .ok (.iastore, 1) := by decide +kernel
theorem d_Md_takesPromise_95 : decode m_Md_takesPromise.2.1 95 = .ok (.aload_n 0, 1) := by decide +kernel
theorem d_Md_takesPromise_96 : decode m_Md_takesPromise.2.1 96 = .ok (.getfield 59, 3) := by decide +kernel
theorem d_Md_takesPromise_99 : decode m_Md_takesPromise.2.1 99 = .ok (.aload_n 0, 1) := by decide +kernel
theorem d_Md_takesPromise_100 : decode m_Md_takesPromise.2.1 100 = .ok (.getfield 183, 3) := by decide +kernel
theorem d_Md_takesPromise_103 : decode m_Md_takesPromise.2.1 103 = .ok (.aload_n 0, 1) := by decide +kernel
theorem d_Md_takesPromise_104 : decode m_Md_takesPromise.2.1 104 = .ok (.getfield 150, 3) := by decide +kernel
theorem d_Md_takesPromise_107 : decode m_Md_takesPromise.2.1 107 = .ok (.iastore, 1) := by decide +kernel
theorem d_Md_takesPromise_108 : decode m_Md_takesPromise.2.1 108 = .ok (.aload_n 0, 1) := by decide +kernel
theorem d_Md_takesPromise_109 : decode m_Md_takesPromise.2.1 109 = .ok (.getfield 62, 3) := by decide +kernel
theorem d_Md_takesPromise_112 : decode m_Md_takesPromise.2.1 112 = .ok (.aload_n 0, 1) := by decide +kernel
theorem d_Md_takesPromise_113 : decode m_Md_takesPromise.2.1 113 = .ok (.getfield 183, 3) := by decide +kernel
theorem d_Md_takesPromise_116 : decode m_Md_takesPromise.2.1 116 = .ok (.iload_n 2, 1) := by decide +kernel
theorem d_Md_takesPromise_117 : decode m_Md_takesPromise.2.1 117 = .ok (.iastore, 1) := by decide +kernel
theorem d_Md_takesPromise_118 : decode m_Md_takesPromise.2.1 118 = .ok (.aload_n 0, 1) := by decide +kernel
theorem d_Md_takesPromise_119 : decode m_Md_takesPromise.2.1 119 = .ok (.dup, 1) := by decide +kernel
theorem d_Md_takesPromise_120 : decode m_Md_takesPromise.2.1 120 = .ok (.getfield 183, 3) := by decide +kernel
theorem d_Md_takesPromise_123 : decode m_Md_takesPromise.2.1 123 = .ok (.iconst 1, 1) := by decide +kernel
theorem d_Md_takesPromise_124 : decode m_Md_takesPromise.2.1 124 = .ok (.iadd, 1) := by decide +kernel
theorem d_Md_takesPromise_125 : decode m_Md_takesPromise.2.1 125 = .ok (.putfield 183, 3) := by decide +kernel
theorem d_Md_takesPromise_128 : decode m_Md_takesPromise.2.1 128 = .ok (.iconst 1, 1) := by decide +kernel
theorem d_Md_takesPromise_129 : decode m_Md_takesPromise.2.1 129 = .ok (.ireturn, 1) := by decide +kernel
theorem d_Md_takesMan_0 : decode m_Md_takesMan.2.1 0 = .ok (.aload_n 0, 1) := by decide +kernel
theorem d_Md_takesMan_1 : decode m_Md_takesMan.2.1 1 = .ok (.getfield 176, 3) := by decide +kernel
theorem d_Md_takesMan_4 : decode m_Md_takesMan.2.1 4 = .ok (.iconst 5, 1) := by decide +kernel
theorem d_Md_takesMan_5 : decode m_Md_takesMan.2.1 5 = .ok (.if_icmp .ne 5, 3) := by decide +kernel
theorem d_Md_takesMan_8 : decode m_Md_takesMan.2.1 8 = .ok (.iconst 0, 1) := by decide +kernel
theorem d_Md_takesMan_9 : decode m_Md_takesMan.2.1 9 = .ok (.ireturn, 1) := by decide +kernel
theorem d_Md_takesMan_10 : decode m_Md_takesMan.2.1 10 = .ok (.aload_n 0, 1) := by decide +kernel
theorem d_Md_takesMan_11 : decode m_Md_takesMan.2.1 11 = .ok (.invokevirtual 153, 3) := by decide +kernel
theorem d_Md_takesMan_14 : decode m_Md_takesMan.2.1 14 = .ok (.aload_n 0, 1) := by decide +kernel
theorem d_Md_takesMan_15 : decode m_Md_takesMan.2.1 15 = .ok (.iconst 1, 1) := by decide +kernel
theorem d_Md_takesMan_16 : decode m_Md_takesMan.2.1 16 = .ok (.bipush 9, 2) := by decide +kernel
theorem d_Md_takesMan_18 : decode m_Md_takesMan.2.1 18 = .ok (.invokevirtual 179, 3) := by decide +kernel
theorem d_Md_takesMan_21 : decode m_Md_takesMan.2.1 21 = .ok (.ifCond .ne 5, 3) := by decide +kernel
theorem d_Md_takesMan_24 : decode m_Md_takesMan.2.1 24 = .ok (.iconst 0, 1) := by decide +kernel
theorem d_Md_takesMan_25 : decode m_Md_takesMan.2.1 25 = .ok (.ireturn, 1) := by decide +kernel
theorem d_Md_takesMan_26 : decode m_Md_takesMan.2.1 26 = .ok (.aload_n 0, 1) := by decide +kernel
theorem d_Md_takesMan_27 : decode m_Md_takesMan.2.1 27 = .ok (.getfield 150, 3) := by decide +kernel
theorem d_Md_takesMan_30 : decode m_Md_takesMan.2.1 30 = .ok (.istore_n 1, 1) := by decide +kernel
theorem d_Md_takesMan_31 : decode m_Md_takesMan.2.1 31 = .ok (.aload_n 0, 1) := by decide +kernel
theorem d_Md_takesMan_32 : decode m_Md_takesMan.2.1 32 = .ok (.iconst 1, 1) := by decide +kernel
theorem d_Md_takesMan_33 : decode m_Md_takesMan.2.1 33 = .ok (.bipush 60, 2) := by decide +kernel
theorem d_Md_takesMan_35 : decode m_Md_takesMan.2.1 35 = .ok (.invokevirtual 179, 3) := by decide +kernel
theorem d_Md_takesMan_38 : decode m_Md_takesMan.2.1 38 = .ok (.ifCond .ne 5, 3) := by decide +kernel
theorem d_Md_takesMan_41 : decode m_Md_takesMan.2.1 41 = .ok (.iconst 0, 1) := by decide +kernel
theorem d_Md_takesMan_42 : decode m_Md_takesMan.2.1 42 = .ok (.ireturn, 1) := by decide +kernel
theorem d_Md_takesMan_43 : decode m_Md_takesMan.2.1 43 = .ok (.aload_n 0, 1) := by decide +kernel
theorem d_Md_takesMan_44 : decode m_Md_takesMan.2.1 44 = .ok (.getfield 150, 3) := by decide +kernel
theorem d_Md_takesMan_47 : decode m_Md_takesMan.2.1 47 = .ok (.istore_n 2, 1) := by decide +kernel
theorem d_Md_takesMan_48 : decode m_Md_takesMan.2.1 48 = .ok (.iconst (-1), 1) := by decide +kernel
theorem d_Md_takesMan_49 : decode m_Md_takesMan.2.1 49 = .ok (.istore_n 3, 1) := by decide +kernel
theorem d_Md_takesMan_50 : decode m_Md_takesMan.2.1 50 = .ok (.aload_n 0, 1) := by decide +kernel
theorem d_Md_takesMan_51 : decode m_Md_takesMan.2.1 51 = .ok (.getfield 140, 3) := by decide +kernel
theorem d_Md_takesMan_54 : decode m_Md_takesMan.2.1 54 = .ok (.iconst 2, 1) := by decide +kernel
theorem d_Md_takesMan_55 : decode m_Md_takesMan.2.1 55 = .ok (.if_icmp .ne 24, 3) := by decide +kernel
theorem d_Md_takesMan_58 : decode m_Md_takesMan.2.1 58 = .ok (.aload_n 0, 1) := by decide +kernel
theorem d_Md_takesMan_59 : decode m_Md_takesMan.2.1 59 = .ok (.iconst 0, 1) := by decide +kernel
theorem d_Md_takesMan_60 : decode m_Md_takesMan.2.1 60 = .ok (.aload_n 0, 1) := by decide +kernel
theorem d_Md_takesMan_61 : decode m_Md_takesMan.2.1 61 = .ok (.getfield 176, 3) := by decide +kernel
theorem d_Md_takesMan_64 : decode m_Md_takesMan.2.1 64 = .ok (.iconst 1, 1) := by decide +kernel
theorem d_Md_takesMan_65 : decode m_Md_takesMan.2.1 65 = .ok (.isub, 1) := by decide +kernel
theorem d_Md_takesMan_66 : decode m_Md_takesMan.2.1 66 = .ok (.invokevirtual 179, 3) := by decide +kernel
theorem d_Md_takesMan_69 : decode m_Md_takesMan.2.1 69 = .ok (.ifCond .ne 5, 3) := by decide +kernel
theorem d_Md_takesMan_72 : decode m_Md_takesMan.2.1 72 = .ok (.iconst 0, 1) := by decide +kernel
theorem d_Md_takesMan_73 : decode m_Md_takesMan.2.1 73 = .ok (.ireturn, 1) := by decide +kernel
theorem d_Md_takesMan_74 : decode m_Md_takesMan.2.1 74 = .ok (.aload_n 0, 1) := by decide +kernel
theorem d_Md_takesMan_75 : decode m_Md_takesMan.2.1 75 = .ok (.getfield 150, 3) := by decide +kernel
theorem d_Md_takesMan_78 : decode m_Md_takesMan.2.1 78 = .ok (.istore_n 3, 1) := by decide +kernel
theorem d_Md_takesMan_79 : decode m_Md_takesMan.2.1 79 = .ok (.aload_n 0, 1) := by decide +kernel
theorem d_Md_takesMan_80 : decode m_Md_takesMan.2.1 80 = .ok (.getfield 44, 3) := by decide +kernel
theorem d_Md_takesMan_83 : decode m_Md_takesMan.2.1 83 = .ok (.aload_n 0, 1) := by decide +kernel
theorem d_Md_takesMan_84 : decode m_Md_takesMan.2.1 84 = .ok (.getfield 176, 3) := by decide +kernel
theorem d_Md_takesMan_87 : decode m_Md_takesMan.2.1 87 = .ok (.iload_n 1, 1) := by decide +kernel
theorem d_Md_takesMan_88 : decode m_Md_takesMan.2.1 88 = .ok (.iastore, 1) := by decide +kernel
theorem d_Md_takesMan_89 : decode m_Md_takesMan.2.1 89 = .ok (.aload_n 0, 1) := by decide +kernel
theorem d_Md_takesMan_90 : decode m_Md_takesMan.2.1 90 = .ok (.getfield 47, 3) := by decide +kernel
theorem d_Md_takesMan_93 : decode m_Md_takesMan.2.1 93 = .ok (.aload_n 0, 1) := by decide +kernel
theorem d_Md_takesMan_94 : decode m_Md_takesMan.2.1 94 = .ok (.getfield 176, 3) := by decide +kernel
theorem d_Md_takesMan_97 : decode m_Md_takesMan.2.1 97 = .ok (.iload_n 2, 1) := by decide +kernel
theorem d_Md_takesMan_98 : decode m_Md_takesMan.2.1 98 = .ok (.iastore, 1) := by decide +kernel
theorem d_Md_takesMan_99 : decode m_Md_takesMan.2.1 99 = .ok (.aload_n 0, 1) := by decide +kernel
theorem d_Md_takesMan_100 : decode m_Md_takesMan.2.1 100 = .ok (.getfield 50, 3) := by decide +kernel
theorem d_Md_takesMan_103 : decode m_Md_takesMan.2.1 103 = .ok (.aload_n 0, 1) := by decide +kernel
theorem d_Md_takesMan_104 : decode m_Md_takesMan.2.1 104 = .ok (.getfield 176, 3) := by decide +kernel
theorem d_Md_takesMan_107 : decode m_Md_takesMan.2.1 107 = .ok (.iload_n 3, 1) := by decide +kernel
theorem d_Md_takesMan_108 : decode m_Md_takesMan.2.1 108 = .ok (.iastore, 1) := by decide +kernel
theorem d_Md_takesMan_109 : decode m_Md_takesMan.2.1 109 = .ok (.aload_n 0, 1) := by decide +kernel
theorem d_Md_takesMan_110 : decode m_Md_takesMan.2.1 110 = .ok (.dup, 1) := by decide +kernel
theorem d_Md_takesMan_111 : decode m_Md_takesMan.2.1 111 = .ok (.getfield 176, 3) := by decide +kernel
theorem d_Md_takesMan_114 : decode m_Md_takesMan.2.1 114 = .ok (.iconst 1, 1) := by decide +kernel
theorem d_Md_takesMan_115 : decode m_Md_takesMan.2.1 115 = .ok (.iadd, 1) := by decide +kernel
theorem d_Md_takesMan_116 : decode m_Md_takesMan.2.1 116 = .ok (.putfield 176, 3) := by decide +kernel
theorem d_Md_takesMan_119 : decode m_Md_takesMan.2.1 119 = .ok (.iconst 1, 1) := by decide +kernel
theorem d_Md_takesMan_120 : decode m_Md_takesMan.2.1 120 = .ok (.ireturn, 1) := by decide +kernel
theorem d_Md_begins_0 : decode m_Md_begins.2.1 0 = .ok (.iconst 0, 1) := by decide +kernel
theorem d_Md_begins_1 : decode m_Md_begins.2.1 1 = .ok (.istore_n 1, 1) := by decide +kernel
theorem d_Md_begins_2 : decode m_Md_begins.2.1 2 = .ok (.iload_n 1, 1) := by decide +kernel
theorem d_Md_begins_3 : decode m_Md_begins.2.1 3 = .ok (.bipush 93, 2) := by decide +kernel
theorem d_Md_begins_5 : decode m_Md_begins.2.1 5 = .ok (.if_icmp .ge 16, 3) := by decide +kernel
theorem d_Md_begins_8 : decode m_Md_begins.2.1 8 = .ok (.aload_n 0, 1) := by decide +kernel
theorem d_Md_begins_9 : decode m_Md_begins.2.1 9 = .ok (.getfield 7, 3) := by decide +kernel
theorem d_Md_begins_12 : decode m_Md_begins.2.1 12 = .ok (.iload_n 1, 1) := by decide +kernel
theorem d_Md_begins_13 : decode m_Md_begins.2.1 13 = .ok (.iconst 0, 1) := by decide +kernel
theorem d_Md_begins_14 : decode m_Md_begins.2.1 14 = .ok (.iastore, 1) := by decide +kernel
theorem d_Md_begins_15 : decode m_Md_begins.2.1 15 = .ok (.iinc 1 1, 3) := by decide +kernel
theorem d_Md_begins_18 : decode m_Md_begins.2.1 18 = .ok (.goto (-16), 3) := by decide +kernel
theorem d_Md_begins_21 : decode m_Md_begins.2.1 21 = .ok (.iconst 0, 1) := by decide +kernel
theorem d_Md_begins_22 : decode m_Md_begins.2.1 22 = .ok (.istore_n 1, 1) := by decide +kernel
theorem d_Md_begins_23 : decode m_Md_begins.2.1 23 = .ok (.iload_n 1, 1) := by decide +kernel
theorem d_Md_begins_24 : decode m_Md_begins.2.1 24 = .ok (.aload_n 0, 1) := by decide +kernel
theorem d_Md_begins_25 : decode m_Md_begins.2.1 25 = .ok (.getfield 107, 3) := by decide +kernel
theorem d_Md_begins_28 : decode m_Md_begins.2.1 28 = .ok (.if_icmp .ge 23, 3) := by decide +kernel
theorem d_Md_begins_31 : decode m_Md_begins.2.1 31 = .ok (.aload_n 0, 1) := by decide +kernel
theorem d_Md_begins_32 : decode m_Md_begins.2.1 32 = .ok (.getfield 7, 3) := by decide +kernel
theorem d_Md_begins_35 : decode m_Md_begins.2.1 35 = .ok (.iconst 1, 1) := by decide +kernel
theorem d_Md_begins_36 : decode m_Md_begins.2.1 36 = .ok (.iload_n 1, 1) := by decide +kernel
theorem d_Md_begins_37 : decode m_Md_begins.2.1 37 = .ok (.iadd, 1) := by decide +kernel
theorem d_Md_begins_38 : decode m_Md_begins.2.1 38 = .ok (.aload_n 0, 1) := by decide +kernel
theorem d_Md_begins_39 : decode m_Md_begins.2.1 39 = .ok (.getfield 20, 3) := by decide +kernel
theorem d_Md_begins_42 : decode m_Md_begins.2.1 42 = .ok (.iload_n 1, 1) := by decide +kernel
theorem d_Md_begins_43 : decode m_Md_begins.2.1 43 = .ok (.iaload, 1) := by decide +kernel
theorem d_Md_begins_44 : decode m_Md_begins.2.1 44 = .ok (.iastore, 1) := by decide +kernel
theorem d_Md_begins_45 : decode m_Md_begins.2.1 45 = .ok (.iinc 1 1, 3) := by decide +kernel
theorem d_Md_begins_48 : decode m_Md_begins.2.1 48 = .ok (.goto (-25), 3) := by decide +kernel
theorem d_Md_begins_51 : decode m_Md_begins.2.1 51 = .ok (.iconst 0, 1) := by decide +kernel
theorem d_Md_begins_52 : decode m_Md_begins.2.1 52 = .ok (.istore_n 1, 1) := by decide +kernel
theorem d_Md_begins_53 : decode m_Md_begins.2.1 53 = .ok (.iload_n 1, 1) := by decide +kernel
theorem d_Md_begins_54 : decode m_Md_begins.2.1 54 = .ok (.aload_n 0, 1) := by decide +kernel
theorem d_Md_begins_55 : decode m_Md_begins.2.1 55 = .ok (.getfield 115, 3) := by decide +kernel
theorem d_Md_begins_58 : decode m_Md_begins.2.1 58 = .ok (.if_icmp .ge 36, 3) := by decide +kernel
theorem d_Md_begins_61 : decode m_Md_begins.2.1 61 = .ok (.aload_n 0, 1) := by decide +kernel
theorem d_Md_begins_62 : decode m_Md_begins.2.1 62 = .ok (.getfield 7, 3) := by decide +kernel
theorem d_Md_begins_65 : decode m_Md_begins.2.1 65 = .ok (.bipush 6, 2) := by decide +kernel
theorem d_Md_begins_67 : decode m_Md_begins.2.1 67 = .ok (.iload_n 1, 1) := by decide +kernel
theorem d_Md_begins_68 : decode m_Md_begins.2.1 68 = .ok (.iadd, 1) := by decide +kernel
theorem d_Md_begins_69 : decode m_Md_begins.2.1 69 = .ok (.aload_n 0, 1) := by decide +kernel
theorem d_Md_begins_70 : decode m_Md_begins.2.1 70 = .ok (.getfield 29, 3) := by decide +kernel
theorem d_Md_begins_73 : decode m_Md_begins.2.1 73 = .ok (.iload_n 1, 1) := by decide +kernel
theorem d_Md_begins_74 : decode m_Md_begins.2.1 74 = .ok (.iaload, 1) := by decide +kernel
theorem d_Md_begins_75 : decode m_Md_begins.2.1 75 = .ok (.iastore, 1) := by decide +kernel
theorem d_Md_begins_76 : decode m_Md_begins.2.1 76 = .ok (.aload_n 0, 1) := by decide +kernel
theorem d_Md_begins_77 : decode m_Md_begins.2.1 77 = .ok (.iconst 0, 1) := by decide +kernel
theorem d_Md_begins_78 : decode m_Md_begins.2.1 78 = .ok (.iload_n 1, 1) := by decide +kernel
theorem d_Md_begins_79 : decode m_Md_begins.2.1 79 = .ok (.aload_n 0, 1) := by decide +kernel
theorem d_Md_begins_80 : decode m_Md_begins.2.1 80 = .ok (.getfield 35, 3) := by decide +kernel
theorem d_Md_begins_83 : decode m_Md_begins.2.1 83 = .ok (.iload_n 1, 1) := by decide +kernel
theorem d_Md_begins_84 : decode m_Md_begins.2.1 84 = .ok (.iaload, 1) := by decide +kernel
theorem d_Md_begins_85 : decode m_Md_begins.2.1 85 = .ok (.invokevirtual 219, 3) := by decide +kernel
theorem d_Md_begins_88 : decode m_Md_begins.2.1 88 = .ok (.iinc 1 1, 3) := by decide +kernel
theorem d_Md_begins_91 : decode m_Md_begins.2.1 91 = .ok (.goto (-38), 3) := by decide +kernel
theorem d_Md_begins_94 : decode m_Md_begins.2.1 94 = .ok (.return_, 1) := by decide +kernel
theorem d_Md_holds_0 : decode m_Md_holds.2.1 0 = .ok (.iload_n 1, 1) := by decide +kernel
theorem d_Md_holds_1 : decode m_Md_holds.2.1 1 = .ok (.iconst (-1), 1) := by decide +kernel
theorem d_Md_holds_2 : decode m_Md_holds.2.1 2 = .ok (.if_icmp .eq 14, 3) := by decide +kernel
theorem d_Md_holds_5 : decode m_Md_holds.2.1 5 = .ok (.aload_n 0, 1) := by decide +kernel
theorem d_Md_holds_6 : decode m_Md_holds.2.1 6 = .ok (.iload_n 1, 1) := by decide +kernel
theorem d_Md_holds_7 : decode m_Md_holds.2.1 7 = .ok (.invokevirtual 256, 3) := by decide +kernel
theorem d_Md_holds_10 : decode m_Md_holds.2.1 10 = .ok (.ifCond .ne 6, 3) := by decide +kernel
theorem d_Md_holds_13 : decode m_Md_holds.2.1 13 = .ok (.bipush (-2), 2) := by decide +kernel
theorem d_Md_holds_15 : decode m_Md_holds.2.1 15 = .ok (.ireturn, 1) := by decide +kernel
theorem d_Md_holds_16 : decode m_Md_holds.2.1 16 = .ok (.iload_n 2, 1) := by decide +kernel
theorem d_Md_holds_17 : decode m_Md_holds.2.1 17 = .ok (.ifCond .ge 6, 3) := by decide +kernel
theorem d_Md_holds_20 : decode m_Md_holds.2.1 20 = .ok (.bipush (-3), 2) := by decide +kernel
theorem d_Md_holds_22 : decode m_Md_holds.2.1 22 = .ok (.ireturn, 1) := by decide +kernel
theorem d_Md_holds_23 : decode m_Md_holds.2.1 23 = .ok (.iload_n 1, 1) := by decide +kernel
theorem d_Md_holds_24 : decode m_Md_holds.2.1 24 = .ok (.iconst (-1), 1) := by decide +kernel
theorem d_Md_holds_25 : decode m_Md_holds.2.1 25 = .ok (.if_icmp .ne 7, 3) := by decide +kernel
theorem d_Md_holds_28 : decode m_Md_holds.2.1 28 = .ok (.iconst 5, 1) := by decide +kernel
theorem d_Md_holds_29 : decode m_Md_holds.2.1 29 = .ok (.goto 4, 3) := by decide +kernel
theorem d_Md_holds_32 : decode m_Md_holds.2.1 32 = .ok (.iload_n 1, 1) := by decide +kernel
theorem d_Md_holds_33 : decode m_Md_holds.2.1 33 = .ok (.istore_n 3, 1) := by decide +kernel
theorem d_Md_holds_34 : decode m_Md_holds.2.1 34 = .ok (.iload_n 2, 1) := by decide +kernel
theorem d_Md_holds_35 : decode m_Md_holds.2.1 35 = .ok (.aload_n 0, 1) := by decide +kernel
theorem d_Md_holds_36 : decode m_Md_holds.2.1 36 = .ok (.getfield 7, 3) := by decide +kernel
theorem d_Md_holds_39 : decode m_Md_holds.2.1 39 = .ok (.bipush 27, 2) := by decide +kernel
theorem d_Md_holds_41 : decode m_Md_holds.2.1 41 = .ok (.iload_n 3, 1) := by decide +kernel
theorem d_Md_holds_42 : decode m_Md_holds.2.1 42 = .ok (.iadd, 1) := by decide +kernel
theorem d_Md_holds_43 : decode m_Md_holds.2.1 43 = .ok (.iaload, 1) := by decide +kernel
theorem d_Md_holds_44 : decode m_Md_holds.2.1 44 = .ok (.if_icmp .ge 20, 3) := by decide +kernel
theorem d_Md_holds_47 : decode m_Md_holds.2.1 47 = .ok (.aload_n 0, 1) := by decide +kernel
theorem d_Md_holds_48 : decode m_Md_holds.2.1 48 = .ok (.getfield 7, 3) := by decide +kernel
theorem d_Md_holds_51 : decode m_Md_holds.2.1 51 = .ok (.bipush 33, 2) := by decide +kernel
theorem d_Md_holds_53 : decode m_Md_holds.2.1 53 = .ok (.bipush 10, 2) := by decide +kernel
theorem d_Md_holds_55 : decode m_Md_holds.2.1 55 = .ok (.iload_n 3, 1) := by decide +kernel
theorem d_Md_holds_56 : decode m_Md_holds.2.1 56 = .ok (.imul, 1) := by decide +kernel
theorem d_Md_holds_57 : decode m_Md_holds.2.1 57 = .ok (.iadd, 1) := by decide +kernel
theorem d_Md_holds_58 : decode m_Md_holds.2.1 58 = .ok (.iload_n 2, 1) := by decide +kernel
theorem d_Md_holds_59 : decode m_Md_holds.2.1 59 = .ok (.iadd, 1) := by decide +kernel
theorem d_Md_holds_60 : decode m_Md_holds.2.1 60 = .ok (.iaload, 1) := by decide +kernel
theorem d_Md_holds_61 : decode m_Md_holds.2.1 61 = .ok (.goto 4, 3) := by decide +kernel
theorem d_Md_holds_64 : decode m_Md_holds.2.1 64 = .ok (.iconst (-1), 1) := by decide +kernel
theorem d_Md_holds_65 : decode m_Md_holds.2.1 65 = .ok (.ireturn, 1) := by decide +kernel
theorem d_Md_placeIn_0 : decode m_Md_placeIn.2.1 0 = .ok (.iconst 0, 1) := by decide +kernel
theorem d_Md_placeIn_1 : decode m_Md_placeIn.2.1 1 = .ok (.istore 4, 2) := by decide +kernel
theorem d_Md_placeIn_3 : decode m_Md_placeIn.2.1 3 = .ok (.iload 4, 2) := by decide +kernel
theorem d_Md_placeIn_5 : decode m_Md_placeIn.2.1 5 = .ok (.aload_n 0, 1) := by decide +kernel
theorem d_Md_placeIn_6 : decode m_Md_placeIn.2.1 6 = .ok (.getfield 7, 3) := by decide +kernel
theorem d_Md_placeIn_9 : decode m_Md_placeIn.2.1 9 = .ok (.iload_n 1, 1) := by decide +kernel
theorem d_Md_placeIn_10 : decode m_Md_placeIn.2.1 10 = .ok (.bipush 27, 2) := by decide +kernel
theorem d_Md_placeIn_12 : decode m_Md_placeIn.2.1 12 = .ok (.iadd, 1) := by decide +kernel
theorem d_Md_placeIn_13 : decode m_Md_placeIn.2.1 13 = .ok (.iload_n 3, 1) := by decide +kernel
theorem d_Md_placeIn_14 : decode m_Md_placeIn.2.1 14 = .ok (.iadd, 1) := by decide +kernel
theorem d_Md_placeIn_15 : decode m_Md_placeIn.2.1 15 = .ok (.iaload, 1) := by decide +kernel
theorem d_Md_placeIn_16 : decode m_Md_placeIn.2.1 16 = .ok (.if_icmp .ge 30, 3) := by decide +kernel
theorem d_Md_placeIn_19 : decode m_Md_placeIn.2.1 19 = .ok (.aload_n 0, 1) := by decide +kernel
theorem d_Md_placeIn_20 : decode m_Md_placeIn.2.1 20 = .ok (.getfield 7, 3) := by decide +kernel
theorem d_Md_placeIn_23 : decode m_Md_placeIn.2.1 23 = .ok (.iload_n 1, 1) := by decide +kernel
theorem d_Md_placeIn_24 : decode m_Md_placeIn.2.1 24 = .ok (.bipush 33, 2) := by decide +kernel
theorem d_Md_placeIn_26 : decode m_Md_placeIn.2.1 26 = .ok (.iadd, 1) := by decide +kernel
theorem d_Md_placeIn_27 : decode m_Md_placeIn.2.1 27 = .ok (.bipush 10, 2) := by decide +kernel
theorem d_Md_placeIn_29 : decode m_Md_placeIn.2.1 29 = .ok (.iload_n 3, 1) := by decide +kernel
theorem d_Md_placeIn_30 : decode m_Md_placeIn.2.1 30 = .ok (.imul, 1) := by decide +kernel
theorem d_Md_placeIn_31 : decode m_Md_placeIn.2.1 31 = .ok (.iadd, 1) := by decide +kernel
theorem d_Md_placeIn_32 : decode m_Md_placeIn.2.1 32 = .ok (.iload 4, 2) := by decide +kernel
theorem d_Md_placeIn_34 : decode m_Md_placeIn.2.1 34 = .ok (.iadd, 1) := by decide +kernel
theorem d_Md_placeIn_35 : decode m_Md_placeIn.2.1 35 = .ok (.iaload, 1) := by decide +kernel
theorem d_Md_placeIn_36 : decode m_Md_placeIn.2.1 36 = .ok (.iload_n 2, 1) := by decide +kernel
theorem d_Md_placeIn_37 : decode m_Md_placeIn.2.1 37 = .ok (.if_icmp .eq 9, 3) := by decide +kernel
theorem d_Md_placeIn_40 : decode m_Md_placeIn.2.1 40 = .ok (.iinc 4 1, 3) := by decide +kernel
theorem d_Md_placeIn_43 : decode m_Md_placeIn.2.1 43 = .ok (.goto (-40), 3) := by decide +kernel
theorem d_Md_placeIn_46 : decode m_Md_placeIn.2.1 46 = .ok (.iload 4, 2) := by decide +kernel
theorem d_Md_placeIn_48 : decode m_Md_placeIn.2.1 48 = .ok (.aload_n 0, 1) := by decide +kernel
theorem d_Md_placeIn_49 : decode m_Md_placeIn.2.1 49 = .ok (.getfield 7, 3) := by decide +kernel
theorem d_Md_placeIn_52 : decode m_Md_placeIn.2.1 52 = .ok (.iload_n 1, 1) := by decide +kernel
theorem d_Md_placeIn_53 : decode m_Md_placeIn.2.1 53 = .ok (.bipush 27, 2) := by decide +kernel
theorem d_Md_placeIn_55 : decode m_Md_placeIn.2.1 55 = .ok (.iadd, 1) := by decide +kernel
theorem d_Md_placeIn_56 : decode m_Md_placeIn.2.1 56 = .ok (.iload_n 3, 1) := by decide +kernel
theorem d_Md_placeIn_57 : decode m_Md_placeIn.2.1 57 = .ok (.iadd, 1) := by decide +kernel
theorem d_Md_placeIn_58 : decode m_Md_placeIn.2.1 58 = .ok (.iaload, 1) := by decide +kernel
theorem d_Md_placeIn_59 : decode m_Md_placeIn.2.1 59 = .ok (.if_icmp .ge 8, 3) := by decide +kernel
theorem d_Md_placeIn_62 : decode m_Md_placeIn.2.1 62 = .ok (.iload 4, 2) := by decide +kernel
theorem d_Md_placeIn_64 : decode m_Md_placeIn.2.1 64 = .ok (.goto 4, 3) := by decide +kernel
theorem d_Md_placeIn_67 : decode m_Md_placeIn.2.1 67 = .ok (.iconst (-1), 1) := by decide +kernel
theorem d_Md_placeIn_68 : decode m_Md_placeIn.2.1 68 = .ok (.ireturn, 1) := by decide +kernel
theorem d_Md_isA_0 : decode m_Md_isA.2.1 0 = .ok (.iload_n 1, 1) := by decide +kernel
theorem d_Md_isA_1 : decode m_Md_isA.2.1 1 = .ok (.ifCond .eq 30, 3) := by decide +kernel
theorem d_Md_isA_4 : decode m_Md_isA.2.1 4 = .ok (.iload_n 1, 1) := by decide +kernel
theorem d_Md_isA_5 : decode m_Md_isA.2.1 5 = .ok (.iload_n 0, 1) := by decide +kernel
theorem d_Md_isA_6 : decode m_Md_isA.2.1 6 = .ok (.iconst 1, 1) := by decide +kernel
theorem d_Md_isA_7 : decode m_Md_isA.2.1 7 = .ok (.iadd, 1) := by decide +kernel
theorem d_Md_isA_8 : decode m_Md_isA.2.1 8 = .ok (.if_icmp .eq 23, 3) := by decide +kernel
theorem d_Md_isA_11 : decode m_Md_isA.2.1 11 = .ok (.iload_n 1, 1) := by decide +kernel
theorem d_Md_isA_12 : decode m_Md_isA.2.1 12 = .ok (.iconst 1, 1) := by decide +kernel
theorem d_Md_isA_13 : decode m_Md_isA.2.1 13 = .ok (.if_icmp .ne 8, 3) := by decide +kernel
theorem d_Md_isA_16 : decode m_Md_isA.2.1 16 = .ok (.iload_n 0, 1) := by decide +kernel
theorem d_Md_isA_17 : decode m_Md_isA.2.1 17 = .ok (.iconst 2, 1) := by decide +kernel
theorem d_Md_isA_18 : decode m_Md_isA.2.1 18 = .ok (.if_icmp .le 13, 3) := by decide +kernel
theorem d_Md_isA_21 : decode m_Md_isA.2.1 21 = .ok (.iload_n 1, 1) := by decide +kernel
theorem d_Md_isA_22 : decode m_Md_isA.2.1 22 = .ok (.iconst 4, 1) := by decide +kernel
theorem d_Md_isA_23 : decode m_Md_isA.2.1 23 = .ok (.if_icmp .ne 12, 3) := by decide +kernel
theorem d_Md_isA_26 : decode m_Md_isA.2.1 26 = .ok (.iload_n 0, 1) := by decide +kernel
theorem d_Md_isA_27 : decode m_Md_isA.2.1 27 = .ok (.iconst 4, 1) := by decide +kernel
theorem d_Md_isA_28 : decode m_Md_isA.2.1 28 = .ok (.if_icmp .ne 7, 3) := by decide +kernel
theorem d_Md_isA_31 : decode m_Md_isA.2.1 31 = .ok (.iconst 1, 1) := by decide +kernel
theorem d_Md_isA_32 : decode m_Md_isA.2.1 32 = .ok (.goto 4, 3) := by decide +kernel
theorem d_Md_isA_35 : decode m_Md_isA.2.1 35 = .ok (.iconst 0, 1) := by decide +kernel
theorem d_Md_isA_36 : decode m_Md_isA.2.1 36 = .ok (.ireturn, 1) := by decide +kernel
theorem d_Md_bring_0 : decode m_Md_bring.2.1 0 = .ok (.iconst 0, 1) := by decide +kernel
theorem d_Md_bring_1 : decode m_Md_bring.2.1 1 = .ok (.istore_n 3, 1) := by decide +kernel
theorem d_Md_bring_2 : decode m_Md_bring.2.1 2 = .ok (.iload_n 3, 1) := by decide +kernel
theorem d_Md_bring_3 : decode m_Md_bring.2.1 3 = .ok (.bipush 93, 2) := by decide +kernel
theorem d_Md_bring_5 : decode m_Md_bring.2.1 5 = .ok (.if_icmp .ge 25, 3) := by decide +kernel
theorem d_Md_bring_8 : decode m_Md_bring.2.1 8 = .ok (.aload_n 0, 1) := by decide +kernel
theorem d_Md_bring_9 : decode m_Md_bring.2.1 9 = .ok (.getfield 7, 3) := by decide +kernel
theorem d_Md_bring_12 : decode m_Md_bring.2.1 12 = .ok (.iload_n 2, 1) := by decide +kernel
theorem d_Md_bring_13 : decode m_Md_bring.2.1 13 = .ok (.iload_n 3, 1) := by decide +kernel
theorem d_Md_bring_14 : decode m_Md_bring.2.1 14 = .ok (.iadd, 1) := by decide +kernel
theorem d_Md_bring_15 : decode m_Md_bring.2.1 15 = .ok (.aload_n 0, 1) := by decide +kernel
theorem d_Md_bring_16 : decode m_Md_bring.2.1 16 = .ok (.getfield 7, 3) := by decide +kernel
theorem d_Md_bring_19 : decode m_Md_bring.2.1 19 = .ok (.iload_n 1, 1) := by decide +kernel
theorem d_Md_bring_20 : decode m_Md_bring.2.1 20 = .ok (.iload_n 3, 1) := by decide +kernel
theorem d_Md_bring_21 : decode m_Md_bring.2.1 21 = .ok (.iadd, 1) := by decide +kernel
theorem d_Md_bring_22 : decode m_Md_bring.2.1 22 = .ok (.iaload, 1) := by decide +kernel
theorem d_Md_bring_23 : decode m_Md_bring.2.1 23 = .ok (.iastore, 1) := by decide +kernel
theorem d_Md_bring_24 : decode m_Md_bring.2.1 24 = .ok (.iinc 3 1, 3) := by decide +kernel
theorem d_Md_bring_27 : decode m_Md_bring.2.1 27 = .ok (.goto (-25), 3) := by decide +kernel
theorem d_Md_bring_30 : decode m_Md_bring.2.1 30 = .ok (.return_, 1) := by decide +kernel
theorem d_Md_dies_0 : decode m_Md_dies.2.1 0 = .ok (.aload_n 0, 1) := by decide +kernel
theorem d_Md_dies_1 : decode m_Md_dies.2.1 1 = .ok (.getfield 23, 3) := by decide +kernel
theorem d_Md_dies_4 : decode m_Md_dies.2.1 4 = .ok (.iload_n 2, 1) := by decide +kernel
theorem d_Md_dies_5 : decode m_Md_dies.2.1 5 = .ok (.iaload, 1) := by decide +kernel
theorem d_Md_dies_6 : decode m_Md_dies.2.1 6 = .ok (.ifCond .lt 30, 3) := by decide +kernel
theorem d_Md_dies_9 : decode m_Md_dies.2.1 9 = .ok (.aload_n 0, 1) := by decide +kernel
theorem d_Md_dies_10 : decode m_Md_dies.2.1 10 = .ok (.getfield 7, 3) := by decide +kernel
theorem d_Md_dies_13 : decode m_Md_dies.2.1 13 = .ok (.iload_n 1, 1) := by decide +kernel
theorem d_Md_dies_14 : decode m_Md_dies.2.1 14 = .ok (.iconst 1, 1) := by decide +kernel
theorem d_Md_dies_15 : decode m_Md_dies.2.1 15 = .ok (.iadd, 1) := by decide +kernel
theorem d_Md_dies_16 : decode m_Md_dies.2.1 16 = .ok (.aload_n 0, 1) := by decide +kernel
theorem d_Md_dies_17 : decode m_Md_dies.2.1 17 = .ok (.getfield 23, 3) := by decide +kernel
theorem d_Md_dies_20 : decode m_Md_dies.2.1 20 = .ok (.iload_n 2, 1) := by decide +kernel
theorem d_Md_dies_21 : decode m_Md_dies.2.1 21 = .ok (.iaload, 1) := by decide +kernel
theorem d_Md_dies_22 : decode m_Md_dies.2.1 22 = .ok (.iadd, 1) := by decide +kernel
theorem d_Md_dies_23 : decode m_Md_dies.2.1 23 = .ok (.iaload, 1) := by decide +kernel
theorem d_Md_dies_24 : decode m_Md_dies.2.1 24 = .ok (.ifCond .le 12, 3) := by decide +kernel
theorem d_Md_dies_27 : decode m_Md_dies.2.1 27 = .ok (.aload_n 0, 1) := by decide +kernel
theorem d_Md_dies_28 : decode m_Md_dies.2.1 28 = .ok (.getfield 23, 3) := by decide +kernel
theorem d_Md_dies_31 : decode m_Md_dies.2.1 31 = .ok (.iload_n 2, 1) := by decide +kernel
theorem d_Md_dies_32 : decode m_Md_dies.2.1 32 = .ok (.iaload, 1) := by decide +kernel
theorem d_Md_dies_33 : decode m_Md_dies.2.1 33 = .ok (.goto 4, 3) := by decide +kernel
theorem d_Md_dies_36 : decode m_Md_dies.2.1 36 = .ok (.iconst 5, 1) := by decide +kernel
theorem d_Md_dies_37 : decode m_Md_dies.2.1 37 = .ok (.istore_n 3, 1) := by decide +kernel
theorem d_Md_dies_38 : decode m_Md_dies.2.1 38 = .ok (.aload_n 0, 1) := by decide +kernel
theorem d_Md_dies_39 : decode m_Md_dies.2.1 39 = .ok (.getfield 7, 3) := by decide +kernel
theorem d_Md_dies_42 : decode m_Md_dies.2.1 42 = .ok (.iload_n 1, 1) := by decide +kernel
theorem d_Md_dies_43 : decode m_Md_dies.2.1 43 = .ok (.bipush 27, 2) := by decide +kernel
theorem d_Md_dies_45 : decode m_Md_dies.2.1 45 = .ok (.iadd, 1) := by decide +kernel
theorem d_Md_dies_46 : decode m_Md_dies.2.1 46 = .ok (.iload_n 2, 1) := by decide +kernel
theorem d_Md_dies_47 : decode m_Md_dies.2.1 47 = .ok (.iadd, 1) := by decide +kernel
theorem d_Md_dies_48 : decode m_Md_dies.2.1 48 = .ok (.iaload, 1) := by decide +kernel
theorem d_Md_dies_49 : decode m_Md_dies.2.1 49 = .ok (.ifCond .le 60, 3) := by decide +kernel
theorem d_Md_dies_52 : decode m_Md_dies.2.1 52 = .ok (.aload_n 0, 1) := by decide +kernel
theorem d_Md_dies_53 : decode m_Md_dies.2.1 53 = .ok (.getfield 7, 3) := by decide +kernel
theorem d_Md_dies_56 : decode m_Md_dies.2.1 56 = .ok (.iload_n 1, 1) := by decide +kernel
theorem d_Md_dies_57 : decode m_Md_dies.2.1 57 = .ok (.bipush 33, 2) := by decide +kernel
theorem d_Md_dies_59 : decode m_Md_dies.2.1 59 = .ok (.iadd, 1) := by decide +kernel
theorem d_Md_dies_60 : decode m_Md_dies.2.1 60 = .ok (.bipush 10, 2) := by decide +kernel
theorem d_Md_dies_62 : decode m_Md_dies.2.1 62 = .ok (.iload_n 2, 1) := by decide +kernel
theorem d_Md_dies_63 : decode m_Md_dies.2.1 63 = .ok (.imul, 1) := by decide +kernel
theorem d_Md_dies_64 : decode m_Md_dies.2.1 64 = .ok (.iadd, 1) := by decide +kernel
theorem d_Md_dies_65 : decode m_Md_dies.2.1 65 = .ok (.iaload, 1) := by decide +kernel
theorem d_Md_dies_66 : decode m_Md_dies.2.1 66 = .ok (.istore 4, 2) := by decide +kernel
theorem d_Md_dies_68 : decode m_Md_dies.2.1 68 = .ok (.aload_n 0, 1) := by decide +kernel
theorem d_Md_dies_69 : decode m_Md_dies.2.1 69 = .ok (.getfield 26, 3) := by decide +kernel
theorem d_Md_dies_72 : decode m_Md_dies.2.1 72 = .ok (.iload 4, 2) := by decide +kernel
theorem d_Md_dies_74 : decode m_Md_dies.2.1 74 = .ok (.iaload, 1) := by decide +kernel
theorem d_Md_dies_75 : decode m_Md_dies.2.1 75 = .ok (.iconst 3, 1) := by decide +kernel
theorem d_Md_dies_76 : decode m_Md_dies.2.1 76 = .ok (.if_icmp .ne 14, 3) := by decide +kernel
theorem d_Md_dies_79 : decode m_Md_dies.2.1 79 = .ok (.aload_n 0, 1) := by decide +kernel
theorem d_Md_dies_80 : decode m_Md_dies.2.1 80 = .ok (.iload_n 1, 1) := by decide +kernel
theorem d_Md_dies_81 : decode m_Md_dies.2.1 81 = .ok (.iload 4, 2) := by decide +kernel
theorem d_Md_dies_83 : decode m_Md_dies.2.1 83 = .ok (.iload_n 2, 1) := by decide +kernel
theorem d_Md_dies_84 : decode m_Md_dies.2.1 84 = .ok (.invokevirtual 242, 3) := by decide +kernel
theorem d_Md_dies_87 : decode m_Md_dies.2.1 87 = .ok (.goto 19, 3) := by decide +kernel
theorem d_Md_dies_90 : decode m_Md_dies.2.1 90 = .ok (.aload_n 0, 1) := by decide +kernel
theorem d_Md_dies_91 : decode m_Md_dies.2.1 91 = .ok (.iload_n 1, 1) := by decide +kernel
theorem d_Md_dies_92 : decode m_Md_dies.2.1 92 = .ok (.iload 4, 2) := by decide +kernel
theorem d_Md_dies_94 : decode m_Md_dies.2.1 94 = .ok (.iload_n 2, 1) := by decide +kernel
theorem d_Md_dies_95 : decode m_Md_dies.2.1 95 = .ok (.invokevirtual 239, 3) := by decide +kernel
theorem d_Md_dies_98 : decode m_Md_dies.2.1 98 = .ok (.aload_n 0, 1) := by decide +kernel
theorem d_Md_dies_99 : decode m_Md_dies.2.1 99 = .ok (.iload_n 1, 1) := by decide +kernel
theorem d_Md_dies_100 : decode m_Md_dies.2.1 100 = .ok (.iload 4, 2) := by decide +kernel
theorem d_Md_dies_102 : decode m_Md_dies.2.1 102 = .ok (.iload_n 3, 1) := by decide +kernel
theorem d_Md_dies_103 : decode m_Md_dies.2.1 103 = .ok (.invokevirtual 219, 3) := by decide +kernel
theorem d_Md_dies_106 : decode m_Md_dies.2.1 106 = .ok (.goto (-68), 3) := by decide +kernel
theorem d_Md_dies_109 : decode m_Md_dies.2.1 109 = .ok (.return_, 1) := by decide +kernel
theorem d_Md_undo_0 : decode m_Md_undo.2.1 0 = .ok (.aload_n 0, 1) := by decide +kernel
theorem d_Md_undo_1 : decode m_Md_undo.2.1 1 = .ok (.getfield 226, 3) := by decide +kernel
theorem d_Md_undo_4 : decode m_Md_undo.2.1 4 = .ok (.ifCond .ne 6, 3) := by decide +kernel
theorem d_Md_undo_7 : decode m_Md_undo.2.1 7 = .ok (.bipush (-4), 2) := by decide +kernel
theorem d_Md_undo_9 : decode m_Md_undo.2.1 9 = .ok (.ireturn, 1) := by decide +kernel
theorem d_Md_undo_10 : decode m_Md_undo.2.1 10 = .ok (.aload_n 0, 1) := by decide +kernel
theorem d_Md_undo_11 : decode m_Md_undo.2.1 11 = .ok (.dup, 1) := by decide +kernel
theorem d_Md_undo_12 : decode m_Md_undo.2.1 12 = .ok (.getfield 226, 3) := by decide +kernel
theorem d_Md_undo_15 : decode m_Md_undo.2.1 15 = .ok (.iconst 1, 1) := by decide +kernel
theorem d_Md_undo_16 : decode m_Md_undo.2.1 16 = .ok (.isub, 1) := by decide +kernel
theorem d_Md_undo_17 : decode m_Md_undo.2.1 17 = .ok (.putfield 226, 3) := by decide +kernel
theorem d_Md_undo_20 : decode m_Md_undo.2.1 20 = .ok (.aload_n 0, 1) := by decide +kernel
theorem d_Md_undo_21 : decode m_Md_undo.2.1 21 = .ok (.sipush 372, 3) := by decide +kernel
theorem d_Md_undo_24 : decode m_Md_undo.2.1 24 = .ok (.bipush 93, 2) := by decide +kernel
theorem d_Md_undo_26 : decode m_Md_undo.2.1 26 = .ok (.aload_n 0, 1) := by decide +kernel
theorem d_Md_undo_27 : decode m_Md_undo.2.1 27 = .ok (.getfield 226, 3) := by decide +kernel
theorem d_Md_undo_30 : decode m_Md_undo.2.1 30 = .ok (.imul, 1) := by decide +kernel
theorem d_Md_undo_31 : decode m_Md_undo.2.1 31 = .ok (.iadd, 1) := by decide +kernel
theorem d_Md_undo_32 : decode m_Md_undo.2.1 32 = .ok (.iconst 0, 1) := by decide +kernel
theorem d_Md_undo_33 : decode m_Md_undo.2.1 33 = .ok (.invokevirtual 270, 3) := by decide +kernel
theorem d_Md_undo_36 : decode m_Md_undo.2.1 36 = .ok (.aload_n 0, 1) := by decide +kernel
theorem d_Md_undo_37 : decode m_Md_undo.2.1 37 = .ok (.getfield 226, 3) := by decide +kernel
theorem d_Md_undo_40 : decode m_Md_undo.2.1 40 = .ok (.ireturn, 1) := by decide +kernel
theorem d_Md_tries_0 : decode m_Md_tries.2.1 0 = .ok (.aload_n 0, 1) := by decide +kernel
theorem d_Md_tries_1 : decode m_Md_tries.2.1 1 = .ok (.iconst 0, 1) := by decide +kernel
theorem d_Md_tries_2 : decode m_Md_tries.2.1 2 = .ok (.bipush 93, 2) := by decide +kernel
theorem d_Md_tries_4 : decode m_Md_tries.2.1 4 = .ok (.invokevirtual 270, 3) := by decide +kernel
theorem d_Md_tries_7 : decode m_Md_tries.2.1 7 = .ok (.return_, 1) := by decide +kernel
theorem d_Md_stuck_0 : decode m_Md_stuck.2.1 0 = .ok (.iconst 0, 1) := by decide +kernel
theorem d_Md_stuck_1 : decode m_Md_stuck.2.1 1 = .ok (.istore_n 1, 1) := by decide +kernel
theorem d_Md_stuck_2 : decode m_Md_stuck.2.1 2 = .ok (.iconst 1, 1) := by decide +kernel
theorem d_Md_stuck_3 : decode m_Md_stuck.2.1 3 = .ok (.istore_n 2, 1) := by decide +kernel
theorem d_Md_stuck_4 : decode m_Md_stuck.2.1 4 = .ok (.iload_n 2, 1) := by decide +kernel
theorem d_Md_stuck_5 : decode m_Md_stuck.2.1 5 = .ok (.ifCond .eq 97, 3) := by decide +kernel
theorem d_Md_stuck_8 : decode m_Md_stuck.2.1 8 = .ok (.iconst 0, 1) := by decide +kernel
theorem d_Md_stuck_9 : decode m_Md_stuck.2.1 9 = .ok (.istore_n 2, 1) := by decide +kernel
theorem d_Md_stuck_10 : decode m_Md_stuck.2.1 10 = .ok (.iconst 0, 1) := by decide +kernel
theorem d_Md_stuck_11 : decode m_Md_stuck.2.1 11 = .ok (.istore_n 3, 1) := by decide +kernel
theorem d_Md_stuck_12 : decode m_Md_stuck.2.1 12 = .ok (.iload_n 3, 1) := by decide +kernel
theorem d_Md_stuck_13 : decode m_Md_stuck.2.1 13 = .ok (.aload_n 0, 1) := by decide +kernel
theorem d_Md_stuck_14 : decode m_Md_stuck.2.1 14 = .ok (.getfield 115, 3) := by decide +kernel
theorem d_Md_stuck_17 : decode m_Md_stuck.2.1 17 = .ok (.if_icmp .ge 82, 3) := by decide +kernel
theorem d_Md_stuck_20 : decode m_Md_stuck.2.1 20 = .ok (.aload_n 0, 1) := by decide +kernel
theorem d_Md_stuck_21 : decode m_Md_stuck.2.1 21 = .ok (.getfield 26, 3) := by decide +kernel
theorem d_Md_stuck_24 : decode m_Md_stuck.2.1 24 = .ok (.iload_n 3, 1) := by decide +kernel
theorem d_Md_stuck_25 : decode m_Md_stuck.2.1 25 = .ok (.iaload, 1) := by decide +kernel
theorem d_Md_stuck_26 : decode m_Md_stuck.2.1 26 = .ok (.iconst 4, 1) := by decide +kernel
theorem d_Md_stuck_27 : decode m_Md_stuck.2.1 27 = .ok (.if_icmp .eq 24, 3) := by decide +kernel
theorem d_Md_stuck_30 : decode m_Md_stuck.2.1 30 = .ok (.aload_n 0, 1) := by decide +kernel
theorem d_Md_stuck_31 : decode m_Md_stuck.2.1 31 = .ok (.getfield 26, 3) := by decide +kernel
theorem d_Md_stuck_34 : decode m_Md_stuck.2.1 34 = .ok (.iload_n 3, 1) := by decide +kernel
theorem d_Md_stuck_35 : decode m_Md_stuck.2.1 35 = .ok (.iaload, 1) := by decide +kernel
theorem d_Md_stuck_36 : decode m_Md_stuck.2.1 36 = .ok (.iconst 2, 1) := by decide +kernel
theorem d_Md_stuck_37 : decode m_Md_stuck.2.1 37 = .ok (.if_icmp .gt 18, 3) := by decide +kernel
theorem d_Md_stuck_40 : decode m_Md_stuck.2.1 40 = .ok (.aload_n 0, 1) := by decide +kernel
theorem d_Md_stuck_41 : decode m_Md_stuck.2.1 41 = .ok (.getfield 32, 3) := by decide +kernel
theorem d_Md_stuck_44 : decode m_Md_stuck.2.1 44 = .ok (.iload_n 3, 1) := by decide +kernel
theorem d_Md_stuck_45 : decode m_Md_stuck.2.1 45 = .ok (.iaload, 1) := by decide +kernel
theorem d_Md_stuck_46 : decode m_Md_stuck.2.1 46 = .ok (.iload_n 1, 1) := by decide +kernel
theorem d_Md_stuck_47 : decode m_Md_stuck.2.1 47 = .ok (.iand, 1) := by decide +kernel
theorem d_Md_stuck_48 : decode m_Md_stuck.2.1 48 = .ok (.ifCond .eq 7, 3) := by decide +kernel
theorem d_Md_stuck_51 : decode m_Md_stuck.2.1 51 = .ok (.iconst 1, 1) := by decide +kernel
theorem d_Md_stuck_52 : decode m_Md_stuck.2.1 52 = .ok (.goto 4, 3) := by decide +kernel
theorem d_Md_stuck_55 : decode m_Md_stuck.2.1 55 = .ok (.iconst 0, 1) := by decide +kernel
theorem d_Md_stuck_56 : decode m_Md_stuck.2.1 56 = .ok (.istore 4, 2) := by decide +kernel
theorem d_Md_stuck_58 : decode m_Md_stuck.2.1 58 = .ok (.iload 4, 2) := by decide +kernel
theorem d_Md_stuck_60 : decode m_Md_stuck.2.1 60 = .ok (.ifCond .eq 33, 3) := by decide +kernel
theorem d_Md_stuck_63 : decode m_Md_stuck.2.1 63 = .ok (.aload_n 0, 1) := by decide +kernel
theorem d_Md_stuck_64 : decode m_Md_stuck.2.1 64 = .ok (.getfield 7, 3) := by decide +kernel
theorem d_Md_stuck_67 : decode m_Md_stuck.2.1 67 = .ok (.bipush 26, 2) := by decide +kernel
theorem d_Md_stuck_69 : decode m_Md_stuck.2.1 69 = .ok (.iaload, 1) := by decide +kernel
theorem d_Md_stuck_70 : decode m_Md_stuck.2.1 70 = .ok (.iload_n 3, 1) := by decide +kernel
theorem d_Md_stuck_71 : decode m_Md_stuck.2.1 71 = .ok (.invokestatic 236, 3) := by decide +kernel
theorem d_Md_stuck_74 : decode m_Md_stuck.2.1 74 = .ok (.ifCond .ne 19, 3) := by decide +kernel
theorem d_Md_stuck_77 : decode m_Md_stuck.2.1 77 = .ok (.iload_n 1, 1) := by decide +kernel
theorem d_Md_stuck_78 : decode m_Md_stuck.2.1 78 = .ok (.iload_n 3, 1) := by decide +kernel
theorem d_Md_stuck_79 : decode m_Md_stuck.2.1 79 = .ok (.invokestatic 236, 3) := by decide +kernel
theorem d_Md_stuck_82 : decode m_Md_stuck.2.1 82 = .ok (.ifCond .ne 11, 3) := by decide +kernel
theorem d_Md_stuck_85 : decode m_Md_stuck.2.1 85 = .ok (.iload_n 1, 1) := by decide +kernel
theorem d_Md_stuck_86 : decode m_Md_stuck.2.1 86 = .ok (.iconst 1, 1) := by decide +kernel
theorem d_Md_stuck_87 : decode m_Md_stuck.2.1 87 = .ok (.iload_n 3, 1) := by decide +kernel
theorem d_Md_stuck_88 : decode m_Md_stuck.2.1 88 = .ok (.ishl, 1) := by decide +kernel
theorem d_Md_stuck_89 : decode m_Md_stuck.2.1 89 = .ok (.ior, 1) := by decide +kernel
theorem d_Md_stuck_90 : decode m_Md_stuck.2.1 90 = .ok (.istore_n 1, 1) := by decide +kernel
theorem d_Md_stuck_91 : decode m_Md_stuck.2.1 91 = .ok (.iconst 1, 1) := by decide +kernel
theorem d_Md_stuck_92 : decode m_Md_stuck.2.1 92 = .ok (.istore_n 2, 1) := by decide +kernel
theorem d_Md_stuck_93 : decode m_Md_stuck.2.1 93 = .ok (.iinc 3 1, 3) := by decide +kernel
theorem d_Md_stuck_96 : decode m_Md_stuck.2.1 96 = .ok (.goto (-84), 3) := by decide +kernel
theorem d_Md_stuck_99 : decode m_Md_stuck.2.1 99 = .ok (.goto (-95), 3) := by decide +kernel
theorem d_Md_stuck_102 : decode m_Md_stuck.2.1 102 = .ok (.iload_n 1, 1) := by decide +kernel
theorem d_Md_stuck_103 : decode m_Md_stuck.2.1 103 = .ok (.ireturn, 1) := by decide +kernel
theorem d_Md_godfathers_0 : decode m_Md_godfathers.2.1 0 = .ok (.iload_n 1, 1) := by decide +kernel
theorem d_Md_godfathers_1 : decode m_Md_godfathers.2.1 1 = .ok (.i2l, 1) := by decide +kernel
theorem d_Md_godfathers_2 : decode m_Md_godfathers.2.1 2 = .ok (.lconst 0, 1) := by decide +kernel
theorem d_Md_godfathers_3 : decode m_Md_godfathers.2.1 3 = .ok (.ldc2_w 293, 3) := by decide +kernel
theorem d_Md_godfathers_6 : decode m_Md_godfathers.2.1 6 = .ok (.invokestatic 111, 3) := by decide +kernel
theorem d_Md_godfathers_9 : decode m_Md_godfathers.2.1 9 = .ok (.ifCond .eq 17, 3) := by decide +kernel
theorem d_Md_godfathers_12 : decode m_Md_godfathers.2.1 12 = .ok (.iload_n 2, 1) := by decide +kernel
theorem d_Md_godfathers_13 : decode m_Md_godfathers.2.1 13 = .ok (.i2l, 1) := by decide +kernel
theorem d_Md_godfathers_14 : decode m_Md_godfathers.2.1 14 = .ok (.ldc2_w 298, 3) := by decide +kernel
theorem d_Md_godfathers_17 : decode m_Md_godfathers.2.1 17 = .ok (.ldc2_w 300, 3) := by decide +kernel
theorem d_Md_godfathers_20 : decode m_Md_godfathers.2.1 20 = .ok (.invokestatic 111, 3) := by decide +kernel
theorem d_Md_godfathers_23 : decode m_Md_godfathers.2.1 23 = .ok (.ifCond .ne 6, 3) := by decide +kernel
theorem d_Md_godfathers_26 : decode m_Md_godfathers.2.1 26 = .ok (.bipush (-3), 2) := by decide +kernel
theorem d_Md_godfathers_28 : decode m_Md_godfathers.2.1 28 = .ok (.ireturn, 1) := by decide +kernel
theorem d_Md_godfathers_29 : decode m_Md_godfathers.2.1 29 = .ok (.aload_n 0, 1) := by decide +kernel
theorem d_Md_godfathers_30 : decode m_Md_godfathers.2.1 30 = .ok (.getfield 7, 3) := by decide +kernel
theorem d_Md_godfathers_33 : decode m_Md_godfathers.2.1 33 = .ok (.bipush 32, 2) := by decide +kernel
theorem d_Md_godfathers_35 : decode m_Md_godfathers.2.1 35 = .ok (.iaload, 1) := by decide +kernel
theorem d_Md_godfathers_36 : decode m_Md_godfathers.2.1 36 = .ok (.iconst 3, 1) := by decide +kernel
theorem d_Md_godfathers_37 : decode m_Md_godfathers.2.1 37 = .ok (.if_icmp .ge 13, 3) := by decide +kernel
theorem d_Md_godfathers_40 : decode m_Md_godfathers.2.1 40 = .ok (.aload_n 0, 1) := by decide +kernel
theorem d_Md_godfathers_41 : decode m_Md_godfathers.2.1 41 = .ok (.getfield 7, 3) := by decide +kernel
theorem d_Md_godfathers_44 : decode m_Md_godfathers.2.1 44 = .ok (.bipush 32, 2) := by decide +kernel
theorem d_Md_godfathers_46 : decode m_Md_godfathers.2.1 46 = .ok (.iaload, 1) := by decide +kernel
theorem d_Md_godfathers_47 : decode m_Md_godfathers.2.1 47 = .ok (.goto 4, 3) := by decide +kernel
theorem d_Md_godfathers_50 : decode m_Md_godfathers.2.1 50 = .ok (.iconst 3, 1) := by decide +kernel
theorem d_Md_godfathers_51 : decode m_Md_godfathers.2.1 51 = .ok (.istore_n 3, 1) := by decide +kernel
theorem d_Md_godfathers_52 : decode m_Md_godfathers.2.1 52 = .ok (.iconst 1, 1) := by decide +kernel
theorem d_Md_godfathers_53 : decode m_Md_godfathers.2.1 53 = .ok (.istore 4, 2) := by decide +kernel
theorem d_Md_godfathers_55 : decode m_Md_godfathers.2.1 55 = .ok (.iconst 0, 1) := by decide +kernel
theorem d_Md_godfathers_56 : decode m_Md_godfathers.2.1 56 = .ok (.istore 5, 2) := by decide +kernel
theorem d_Md_godfathers_58 : decode m_Md_godfathers.2.1 58 = .ok (.iload 5, 2) := by decide +kernel
theorem d_Md_godfathers_60 : decode m_Md_godfathers.2.1 60 = .ok (.iload_n 3, 1) := by decide +kernel
theorem d_Md_godfathers_61 : decode m_Md_godfathers.2.1 61 = .ok (.if_icmp .ge 20, 3) := by decide +kernel
theorem d_Md_godfathers_64 : decode m_Md_godfathers.2.1 64 = .ok (.iload 4, 2) := by decide +kernel
theorem d_Md_godfathers_66 : decode m_Md_godfathers.2.1 66 = .ok (.aload_n 0, 1) := by decide +kernel
theorem d_Md_godfathers_67 : decode m_Md_godfathers.2.1 67 = .ok (.getfield 107, 3) := by decide +kernel
theorem d_Md_godfathers_70 : decode m_Md_godfathers.2.1 70 = .ok (.iconst 1, 1) := by decide +kernel
theorem d_Md_godfathers_71 : decode m_Md_godfathers.2.1 71 = .ok (.iadd, 1) := by decide +kernel
theorem d_Md_godfathers_72 : decode m_Md_godfathers.2.1 72 = .ok (.imul, 1) := by decide +kernel
theorem d_Md_godfathers_73 : decode m_Md_godfathers.2.1 73 = .ok (.istore 4, 2) := by decide +kernel
theorem d_Md_godfathers_75 : decode m_Md_godfathers.2.1 75 = .ok (.iinc 5 1, 3) := by decide +kernel
theorem d_Md_godfathers_78 : decode m_Md_godfathers.2.1 78 = .ok (.goto (-20), 3) := by decide +kernel
theorem d_Md_godfathers_81 : decode m_Md_godfathers.2.1 81 = .ok (.iconst (-1), 1) := by decide +kernel
theorem d_Md_godfathers_82 : decode m_Md_godfathers.2.1 82 = .ok (.istore 5, 2) := by decide +kernel
theorem d_Md_godfathers_84 : decode m_Md_godfathers.2.1 84 = .ok (.iconst 0, 1) := by decide +kernel
theorem d_Md_godfathers_85 : decode m_Md_godfathers.2.1 85 = .ok (.istore 6, 2) := by decide +kernel
theorem d_Md_godfathers_87 : decode m_Md_godfathers.2.1 87 = .ok (.iload 6, 2) := by decide +kernel
theorem d_Md_godfathers_89 : decode m_Md_godfathers.2.1 89 = .ok (.iload 4, 2) := by decide +kernel
theorem d_Md_godfathers_91 : decode m_Md_godfathers.2.1 91 = .ok (.if_icmp .ge 221, 3) := by decide +kernel
theorem d_Md_godfathers_94 : decode m_Md_godfathers.2.1 94 = .ok (.iload 6, 2) := by decide +kernel
theorem d_Md_godfathers_96 : decode m_Md_godfathers.2.1 96 = .ok (.istore 7, 2) := by decide +kernel
theorem d_Md_godfathers_98 : decode m_Md_godfathers.2.1 98 = .ok (.iload_n 3, 1) := by decide +kernel
theorem d_Md_godfathers_99 : decode m_Md_godfathers.2.1 99 = .ok (.iconst 1, 1) := by decide +kernel
theorem d_Md_godfathers_100 : decode m_Md_godfathers.2.1 100 = .ok (.isub, 1) := by decide +kernel
theorem d_Md_godfathers_101 : decode m_Md_godfathers.2.1 101 = .ok (.istore 8, 2) := by decide +kernel
theorem d_Md_godfathers_103 : decode m_Md_godfathers.2.1 103 = .ok (.iload 8, 2) := by decide +kernel
theorem d_Md_godfathers_105 : decode m_Md_godfathers.2.1 105 = .ok (.ifCond .lt 38, 3) := by decide +kernel
theorem d_Md_godfathers_108 : decode m_Md_godfathers.2.1 108 = .ok (.aload_n 0, 1) := by decide +kernel
theorem d_Md_godfathers_109 : decode m_Md_godfathers.2.1 109 = .ok (.getfield 77, 3) := by decide +kernel
theorem d_Md_godfathers_112 : decode m_Md_godfathers.2.1 112 = .ok (.iload 8, 2) := by decide +kernel
theorem d_Md_godfathers_114 : decode m_Md_godfathers.2.1 114 = .ok (.iload 7, 2) := by decide +kernel
theorem d_Md_godfathers_116 : decode m_Md_godfathers.2.1 116 = .ok (.aload_n 0, 1) := by decide +kernel
theorem d_Md_godfathers_117 : decode m_Md_godfathers.2.1 117 = .ok (.getfield 107, 3) := by decide +kernel
theorem d_Md_godfathers_120 : decode m_Md_godfathers.2.1 120 = .ok (.iconst 1, 1) := by decide +kernel
theorem d_Md_godfathers_121 : decode m_Md_godfathers.2.1 121 = .ok (.iadd, 1) := by decide +kernel
theorem d_Md_godfathers_122 : decode m_Md_godfathers.2.1 122 = .ok (.irem, 1) := by decide +kernel
theorem d_Md_godfathers_123 : decode m_Md_godfathers.2.1 123 = .ok (.iconst 1, 1) := by decide +kernel
theorem d_Md_godfathers_124 : decode m_Md_godfathers.2.1 124 = .ok (.isub, 1) := by decide +kernel
theorem d_Md_godfathers_125 : decode m_Md_godfathers.2.1 125 = .ok (.iastore, 1) := by decide +kernel
theorem d_Md_godfathers_126 : decode m_Md_godfathers.2.1 126 = .ok (.iload 7, 2) := by decide +kernel
theorem d_Md_godfathers_128 : decode m_Md_godfathers.2.1 128 = .ok (.aload_n 0, 1) := by decide +kernel
theorem d_Md_godfathers_129 : decode m_Md_godfathers.2.1 129 = .ok (.getfield 107, 3) := by decide +kernel
theorem d_Md_godfathers_132 : decode m_Md_godfathers.2.1 132 = .ok (.iconst 1, 1) := by decide +kernel
theorem d_Md_godfathers_133 : decode m_Md_godfathers.2.1 133 = .ok (.iadd, 1) := by decide +kernel
theorem d_Md_godfathers_134 : decode m_Md_godfathers.2.1 134 = .ok (.idiv, 1) := by decide +kernel
theorem d_Md_godfathers_135 : decode m_Md_godfathers.2.1 135 = .ok (.istore 7, 2) := by decide +kernel
theorem d_Md_godfathers_137 : decode m_Md_godfathers.2.1 137 = .ok (.iinc 8 (-1), 3) := by decide +kernel
theorem d_Md_godfathers_140 : decode m_Md_godfathers.2.1 140 = .ok (.goto (-37), 3) := by decide +kernel
theorem d_Md_godfathers_143 : decode m_Md_godfathers.2.1 143 = .ok (.iconst 1, 1) := by decide +kernel
theorem d_Md_godfathers_144 : decode m_Md_godfathers.2.1 144 = .ok (.istore 8, 2) := by decide +kernel
theorem d_Md_godfathers_146 : decode m_Md_godfathers.2.1 146 = .ok (.aload_n 0, 1) := by decide +kernel
theorem d_Md_godfathers_147 : decode m_Md_godfathers.2.1 147 = .ok (.invokevirtual 284, 3) := by decide +kernel
theorem d_Md_godfathers_150 : decode m_Md_godfathers.2.1 150 = .ok (.iconst 0, 1) := by decide +kernel
theorem d_Md_godfathers_151 : decode m_Md_godfathers.2.1 151 = .ok (.istore 9, 2) := by decide +kernel
theorem d_Md_godfathers_153 : decode m_Md_godfathers.2.1 153 = .ok (.iload 9, 2) := by decide +kernel
theorem d_Md_godfathers_155 : decode m_Md_godfathers.2.1 155 = .ok (.iload_n 3, 1) := by decide +kernel
theorem d_Md_godfathers_156 : decode m_Md_godfathers.2.1 156 = .ok (.if_icmp .ge 88, 3) := by decide +kernel
theorem d_Md_godfathers_159 : decode m_Md_godfathers.2.1 159 = .ok (.aload_n 0, 1) := by decide +kernel
theorem d_Md_godfathers_160 : decode m_Md_godfathers.2.1 160 = .ok (.getfield 77, 3) := by decide +kernel
theorem d_Md_godfathers_163 : decode m_Md_godfathers.2.1 163 = .ok (.iload 9, 2) := by decide +kernel
theorem d_Md_godfathers_165 : decode m_Md_godfathers.2.1 165 = .ok (.iaload, 1) := by decide +kernel
theorem d_Md_godfathers_166 : decode m_Md_godfathers.2.1 166 = .ok (.istore 10, 2) := by decide +kernel
theorem d_Md_godfathers_168 : decode m_Md_godfathers.2.1 168 = .ok (.aload_n 0, 1) := by decide +kernel
theorem d_Md_godfathers_169 : decode m_Md_godfathers.2.1 169 = .ok (.getfield 7, 3) := by decide +kernel
theorem d_Md_godfathers_172 : decode m_Md_godfathers.2.1 172 = .ok (.bipush 83, 2) := by decide +kernel
theorem d_Md_godfathers_174 : decode m_Md_godfathers.2.1 174 = .ok (.iload 9, 2) := by decide +kernel
theorem d_Md_godfathers_176 : decode m_Md_godfathers.2.1 176 = .ok (.iadd, 1) := by decide +kernel
theorem d_Md_godfathers_177 : decode m_Md_godfathers.2.1 177 = .ok (.iaload, 1) := by decide +kernel
theorem d_Md_godfathers_178 : decode m_Md_godfathers.2.1 178 = .ok (.istore 11, 2) := by decide +kernel
theorem d_Md_godfathers_180 : decode m_Md_godfathers.2.1 180 = .ok (.iload 8, 2) := by decide +kernel
theorem d_Md_godfathers_182 : decode m_Md_godfathers.2.1 182 = .ok (.ifCond .eq 24, 3) := by decide +kernel
theorem d_Md_godfathers_185 : decode m_Md_godfathers.2.1 185 = .ok (.iload 10, 2) := by decide +kernel
theorem d_Md_godfathers_187 : decode m_Md_godfathers.2.1 187 = .ok (.ifCond .lt 15, 3) := by decide +kernel
theorem d_Md_godfathers_190 : decode m_Md_godfathers.2.1 190 = .ok (.aload_n 0, 1) := by decide +kernel
theorem d_Md_godfathers_191 : decode m_Md_godfathers.2.1 191 = .ok (.getfield 7, 3) := by decide +kernel
theorem d_Md_godfathers_194 : decode m_Md_godfathers.2.1 194 = .ok (.iconst 1, 1) := by decide +kernel
theorem d_Md_godfathers_195 : decode m_Md_godfathers.2.1 195 = .ok (.iload 10, 2) := by decide +kernel
theorem d_Md_godfathers_197 : decode m_Md_godfathers.2.1 197 = .ok (.iadd, 1) := by decide +kernel
theorem d_Md_godfathers_198 : decode m_Md_godfathers.2.1 198 = .ok (.iaload, 1) := by decide +kernel
theorem d_Md_godfathers_199 : decode m_Md_godfathers.2.1 199 = .ok (.ifCond .le 7, 3) := by decide +kernel
theorem d_Md_godfathers_202 : decode m_Md_godfathers.2.1 202 = .ok (.iconst 1, 1) := by decide +kernel
theorem d_Md_godfathers_203 : decode m_Md_godfathers.2.1 203 = .ok (.goto 4, 3) := by decide +kernel
theorem d_Md_godfathers_206 : decode m_Md_godfathers.2.1 206 = .ok (.iconst 0, 1) := by decide +kernel
theorem d_Md_godfathers_207 : decode m_Md_godfathers.2.1 207 = .ok (.istore 8, 2) := by decide +kernel
theorem d_Md_godfathers_209 : decode m_Md_godfathers.2.1 209 = .ok (.iload 8, 2) := by decide +kernel
theorem d_Md_godfathers_211 : decode m_Md_godfathers.2.1 211 = .ok (.ifCond .eq 27, 3) := by decide +kernel
theorem d_Md_godfathers_214 : decode m_Md_godfathers.2.1 214 = .ok (.iload 10, 2) := by decide +kernel
theorem d_Md_godfathers_216 : decode m_Md_godfathers.2.1 216 = .ok (.ifCond .lt 22, 3) := by decide +kernel
theorem d_Md_godfathers_219 : decode m_Md_godfathers.2.1 219 = .ok (.aload_n 0, 1) := by decide +kernel
theorem d_Md_godfathers_220 : decode m_Md_godfathers.2.1 220 = .ok (.bipush 93, 2) := by decide +kernel
theorem d_Md_godfathers_222 : decode m_Md_godfathers.2.1 222 = .ok (.iload 11, 2) := by decide +kernel
theorem d_Md_godfathers_224 : decode m_Md_godfathers.2.1 224 = .ok (.iconst 5, 1) := by decide +kernel
theorem d_Md_godfathers_225 : decode m_Md_godfathers.2.1 225 = .ok (.invokevirtual 239, 3) := by decide +kernel
theorem d_Md_godfathers_228 : decode m_Md_godfathers.2.1 228 = .ok (.aload_n 0, 1) := by decide +kernel
theorem d_Md_godfathers_229 : decode m_Md_godfathers.2.1 229 = .ok (.bipush 93, 2) := by decide +kernel
theorem d_Md_godfathers_231 : decode m_Md_godfathers.2.1 231 = .ok (.iload 11, 2) := by decide +kernel
theorem d_Md_godfathers_233 : decode m_Md_godfathers.2.1 233 = .ok (.iload 10, 2) := by decide +kernel
theorem d_Md_godfathers_235 : decode m_Md_godfathers.2.1 235 = .ok (.invokevirtual 219, 3) := by decide +kernel
theorem d_Md_godfathers_238 : decode m_Md_godfathers.2.1 238 = .ok (.iinc 9 1, 3) := by decide +kernel
theorem d_Md_godfathers_241 : decode m_Md_godfathers.2.1 241 = .ok (.goto (-88), 3) := by decide +kernel
theorem d_Md_godfathers_244 : decode m_Md_godfathers.2.1 244 = .ok (.iload 8, 2) := by decide +kernel
theorem d_Md_godfathers_246 : decode m_Md_godfathers.2.1 246 = .ok (.ifCond .eq 60, 3) := by decide +kernel
theorem d_Md_godfathers_249 : decode m_Md_godfathers.2.1 249 = .ok (.aload_n 0, 1) := by decide +kernel
theorem d_Md_godfathers_250 : decode m_Md_godfathers.2.1 250 = .ok (.iload_n 1, 1) := by decide +kernel
theorem d_Md_godfathers_251 : decode m_Md_godfathers.2.1 251 = .ok (.invokevirtual 287, 3) := by decide +kernel
theorem d_Md_godfathers_254 : decode m_Md_godfathers.2.1 254 = .ok (.aload_n 0, 1) := by decide +kernel
theorem d_Md_godfathers_255 : decode m_Md_godfathers.2.1 255 = .ok (.getfield 7, 3) := by decide +kernel
theorem d_Md_godfathers_258 : decode m_Md_godfathers.2.1 258 = .ok (.bipush 119, 2) := by decide +kernel
theorem d_Md_godfathers_260 : decode m_Md_godfathers.2.1 260 = .ok (.iaload, 1) := by decide +kernel
theorem d_Md_godfathers_261 : decode m_Md_godfathers.2.1 261 = .ok (.invokestatic 290, 3) := by decide +kernel
theorem d_Md_godfathers_264 : decode m_Md_godfathers.2.1 264 = .ok (.istore 9, 2) := by decide +kernel
theorem d_Md_godfathers_266 : decode m_Md_godfathers.2.1 266 = .ok (.iload 9, 2) := by decide +kernel
theorem d_Md_godfathers_268 : decode m_Md_godfathers.2.1 268 = .ok (.iload 5, 2) := by decide +kernel
theorem d_Md_godfathers_270 : decode m_Md_godfathers.2.1 270 = .ok (.if_icmp .le 36, 3) := by decide +kernel
theorem d_Md_godfathers_273 : decode m_Md_godfathers.2.1 273 = .ok (.iload 9, 2) := by decide +kernel
theorem d_Md_godfathers_275 : decode m_Md_godfathers.2.1 275 = .ok (.istore 5, 2) := by decide +kernel
theorem d_Md_godfathers_277 : decode m_Md_godfathers.2.1 277 = .ok (.iconst 0, 1) := by decide +kernel
theorem d_Md_godfathers_278 : decode m_Md_godfathers.2.1 278 = .ok (.istore 10, 2) := by decide +kernel
theorem d_Md_godfathers_280 : decode m_Md_godfathers.2.1 280 = .ok (.iload 10, 2) := by decide +kernel
theorem d_Md_godfathers_282 : decode m_Md_godfathers.2.1 282 = .ok (.iload_n 3, 1) := by decide +kernel
theorem d_Md_godfathers_283 : decode m_Md_godfathers.2.1 283 = .ok (.if_icmp .ge 23, 3) := by decide +kernel
theorem d_Md_godfathers_286 : decode m_Md_godfathers.2.1 286 = .ok (.aload_n 0, 1) := by decide +kernel
theorem d_Md_godfathers_287 : decode m_Md_godfathers.2.1 287 = .ok (.getfield 80, 3) := by decide +kernel
theorem d_Md_godfathers_290 : decode m_Md_godfathers.2.1 290 = .ok (.iload 10, 2) := by decide +kernel
theorem d_Md_godfathers_292 : decode m_Md_godfathers.2.1 292 = .ok (.aload_n 0, 1) := by decide +kernel
theorem d_Md_godfathers_293 : decode m_Md_godfathers.2.1 293 = .ok (.getfield 77, 3) := by decide +kernel
theorem d_Md_godfathers_296 : decode m_Md_godfathers.2.1 296 = .ok (.iload 10, 2) := by decide +kernel
theorem d_Md_godfathers_298 : decode m_Md_godfathers.2.1 298 = .ok (.iaload, 1) := by decide +kernel
theorem d_Md_godfathers_299 : decode m_Md_godfathers.2.1 299 = .ok (.iastore, 1) := by decide +kernel
theorem d_Md_godfathers_300 : decode m_Md_godfathers.2.1 300 = .ok (.iinc 10 1, 3) := by decide +kernel
theorem d_Md_godfathers_303 : decode m_Md_godfathers.2.1 303 = .ok (.goto (-23), 3) := by decide +kernel
theorem d_Md_godfathers_306 : decode m_Md_godfathers.2.1 306 = .ok (.iinc 6 1, 3) := by decide +kernel
theorem d_Md_godfathers_309 : decode m_Md_godfathers.2.1 309 = .ok (.goto (-222), 3) := by decide +kernel
theorem d_Md_godfathers_312 : decode m_Md_godfathers.2.1 312 = .ok (.iload_n 2, 1) := by decide +kernel
theorem d_Md_godfathers_313 : decode m_Md_godfathers.2.1 313 = .ok (.iconst (-1), 1) := by decide +kernel
theorem d_Md_godfathers_314 : decode m_Md_godfathers.2.1 314 = .ok (.if_icmp .ne 8, 3) := by decide +kernel
theorem d_Md_godfathers_317 : decode m_Md_godfathers.2.1 317 = .ok (.iload 5, 2) := by decide +kernel
theorem d_Md_godfathers_319 : decode m_Md_godfathers.2.1 319 = .ok (.goto 18, 3) := by decide +kernel
theorem d_Md_godfathers_322 : decode m_Md_godfathers.2.1 322 = .ok (.iload_n 2, 1) := by decide +kernel
theorem d_Md_godfathers_323 : decode m_Md_godfathers.2.1 323 = .ok (.iload_n 3, 1) := by decide +kernel
theorem d_Md_godfathers_324 : decode m_Md_godfathers.2.1 324 = .ok (.if_icmp .ge 12, 3) := by decide +kernel
theorem d_Md_godfathers_327 : decode m_Md_godfathers.2.1 327 = .ok (.aload_n 0, 1) := by decide +kernel
theorem d_Md_godfathers_328 : decode m_Md_godfathers.2.1 328 = .ok (.getfield 80, 3) := by decide +kernel
theorem d_Md_godfathers_331 : decode m_Md_godfathers.2.1 331 = .ok (.iload_n 2, 1) := by decide +kernel
theorem d_Md_godfathers_332 : decode m_Md_godfathers.2.1 332 = .ok (.iaload, 1) := by decide +kernel
theorem d_Md_godfathers_333 : decode m_Md_godfathers.2.1 333 = .ok (.goto 4, 3) := by decide +kernel
theorem d_Md_godfathers_336 : decode m_Md_godfathers.2.1 336 = .ok (.iconst (-1), 1) := by decide +kernel
theorem d_Md_godfathers_337 : decode m_Md_godfathers.2.1 337 = .ok (.ireturn, 1) := by decide +kernel
theorem d_Md_forget_0 : decode m_Md_forget.2.1 0 = .ok (.aload_n 0, 1) := by decide +kernel
theorem d_Md_forget_1 : decode m_Md_forget.2.1 1 = .ok (.getfield 229, 3) := by decide +kernel
theorem d_Md_forget_4 : decode m_Md_forget.2.1 4 = .ok (.istore_n 1, 1) := by decide +kernel
theorem d_Md_forget_5 : decode m_Md_forget.2.1 5 = .ok (.aload_n 0, 1) := by decide +kernel
theorem d_Md_forget_6 : decode m_Md_forget.2.1 6 = .ok (.iconst 0, 1) := by decide +kernel
theorem d_Md_forget_7 : decode m_Md_forget.2.1 7 = .ok (.putfield 229, 3) := by decide +kernel
theorem d_Md_forget_10 : decode m_Md_forget.2.1 10 = .ok (.iload_n 1, 1) := by decide +kernel
theorem d_Md_forget_11 : decode m_Md_forget.2.1 11 = .ok (.ireturn, 1) := by decide +kernel
theorem d_Md_isRegister_0 : decode m_Md_isRegister.2.1 0 = .ok (.iload_n 0, 1) := by decide +kernel
theorem d_Md_isRegister_1 : decode m_Md_isRegister.2.1 1 = .ok (.i2l, 1) := by decide +kernel
theorem d_Md_isRegister_2 : decode m_Md_isRegister.2.1 2 = .ok (.lconst 0, 1) := by decide +kernel
theorem d_Md_isRegister_3 : decode m_Md_isRegister.2.1 3 = .ok (.ldc2_w 300, 3) := by decide +kernel
theorem d_Md_isRegister_6 : decode m_Md_isRegister.2.1 6 = .ok (.invokestatic 111, 3) := by decide +kernel
theorem d_Md_isRegister_9 : decode m_Md_isRegister.2.1 9 = .ok (.ireturn, 1) := by decide +kernel
theorem d_Md_againstTwo_0 : decode m_Md_againstTwo.2.1 0 = .ok (.iload_n 1, 1) := by decide +kernel
theorem d_Md_againstTwo_1 : decode m_Md_againstTwo.2.1 1 = .ok (.invokestatic 311, 3) := by decide +kernel
theorem d_Md_againstTwo_4 : decode m_Md_againstTwo.2.1 4 = .ok (.ifCond .eq 10, 3) := by decide +kernel
theorem d_Md_againstTwo_7 : decode m_Md_againstTwo.2.1 7 = .ok (.iload_n 3, 1) := by decide +kernel
theorem d_Md_againstTwo_8 : decode m_Md_againstTwo.2.1 8 = .ok (.invokestatic 311, 3) := by decide +kernel
theorem d_Md_againstTwo_11 : decode m_Md_againstTwo.2.1 11 = .ok (.ifCond .ne 6, 3) := by decide +kernel
theorem d_Md_againstTwo_14 : decode m_Md_againstTwo.2.1 14 = .ok (.bipush (-2), 2) := by decide +kernel
theorem d_Md_againstTwo_16 : decode m_Md_againstTwo.2.1 16 = .ok (.ireturn, 1) := by decide +kernel
theorem d_Md_againstTwo_17 : decode m_Md_againstTwo.2.1 17 = .ok (.aload_n 0, 1) := by decide +kernel
theorem d_Md_againstTwo_18 : decode m_Md_againstTwo.2.1 18 = .ok (.getfield 92, 3) := by decide +kernel
theorem d_Md_againstTwo_21 : decode m_Md_againstTwo.2.1 21 = .ok (.iload_n 1, 1) := by decide +kernel
theorem d_Md_againstTwo_22 : decode m_Md_againstTwo.2.1 22 = .ok (.iaload, 1) := by decide +kernel
theorem d_Md_againstTwo_23 : decode m_Md_againstTwo.2.1 23 = .ok (.ifCond .lt 12, 3) := by decide +kernel
theorem d_Md_againstTwo_26 : decode m_Md_againstTwo.2.1 26 = .ok (.aload_n 0, 1) := by decide +kernel
theorem d_Md_againstTwo_27 : decode m_Md_againstTwo.2.1 27 = .ok (.getfield 92, 3) := by decide +kernel
theorem d_Md_againstTwo_30 : decode m_Md_againstTwo.2.1 30 = .ok (.iload_n 3, 1) := by decide +kernel
theorem d_Md_againstTwo_31 : decode m_Md_againstTwo.2.1 31 = .ok (.iaload, 1) := by decide +kernel
theorem d_Md_againstTwo_32 : decode m_Md_againstTwo.2.1 32 = .ok (.ifCond .ge 6, 3) := by decide +kernel
theorem d_Md_againstTwo_35 : decode m_Md_againstTwo.2.1 35 = .ok (.bipush (-11), 2) := by decide +kernel
theorem d_Md_againstTwo_37 : decode m_Md_againstTwo.2.1 37 = .ok (.ireturn, 1) := by decide +kernel
theorem d_Md_againstTwo_38 : decode m_Md_againstTwo.2.1 38 = .ok (.iload_n 2, 1) := by decide +kernel
theorem d_Md_againstTwo_39 : decode m_Md_againstTwo.2.1 39 = .ok (.i2l, 1) := by decide +kernel
theorem d_Md_againstTwo_40 : decode m_Md_againstTwo.2.1 40 = .ok (.lconst 0, 1) := by decide +kernel
theorem d_Md_againstTwo_41 : decode m_Md_againstTwo.2.1 41 = .ok (.aload_n 0, 1) := by decide +kernel
theorem d_Md_againstTwo_42 : decode m_Md_againstTwo.2.1 42 = .ok (.getfield 92, 3) := by decide +kernel
theorem d_Md_againstTwo_45 : decode m_Md_againstTwo.2.1 45 = .ok (.iload_n 1, 1) := by decide +kernel
theorem d_Md_againstTwo_46 : decode m_Md_againstTwo.2.1 46 = .ok (.iaload, 1) := by decide +kernel
theorem d_Md_againstTwo_47 : decode m_Md_againstTwo.2.1 47 = .ok (.iconst 1, 1) := by decide +kernel
theorem d_Md_againstTwo_48 : decode m_Md_againstTwo.2.1 48 = .ok (.isub, 1) := by decide +kernel
theorem d_Md_againstTwo_49 : decode m_Md_againstTwo.2.1 49 = .ok (.i2l, 1) := by decide +kernel
theorem d_Md_againstTwo_50 : decode m_Md_againstTwo.2.1 50 = .ok (.invokestatic 111, 3) := by decide +kernel
theorem d_Md_againstTwo_53 : decode m_Md_againstTwo.2.1 53 = .ok (.ifCond .eq 26, 3) := by decide +kernel
theorem d_Md_againstTwo_56 : decode m_Md_againstTwo.2.1 56 = .ok (.iload 4, 2) := by decide +kernel
theorem d_Md_againstTwo_58 : decode m_Md_againstTwo.2.1 58 = .ok (.i2l, 1) := by decide +kernel
theorem d_Md_againstTwo_59 : decode m_Md_againstTwo.2.1 59 = .ok (.lconst 0, 1) := by decide +kernel
theorem d_Md_againstTwo_60 : decode m_Md_againstTwo.2.1 60 = .ok (.aload_n 0, 1) := by decide +kernel
theorem d_Md_againstTwo_61 : decode m_Md_againstTwo.2.1 61 = .ok (.getfield 92, 3) := by decide +kernel
theorem d_Md_againstTwo_64 : decode m_Md_againstTwo.2.1 64 = .ok (.iload_n 3, 1) := by decide +kernel
theorem d_Md_againstTwo_65 : decode m_Md_againstTwo.2.1 65 = .ok (.iaload, 1) := by decide +kernel
theorem d_Md_againstTwo_66 : decode m_Md_againstTwo.2.1 66 = .ok (.iconst 1, 1) := by decide +kernel
theorem d_Md_againstTwo_67 : decode m_Md_againstTwo.2.1 67 = .ok (.isub, 1) := by decide +kernel
theorem d_Md_againstTwo_68 : decode m_Md_againstTwo.2.1 68 = .ok (.i2l, 1) := by decide +kernel
theorem d_Md_againstTwo_69 : decode m_Md_againstTwo.2.1 69 = .ok (.invokestatic 111, 3) := by decide +kernel
theorem d_Md_againstTwo_72 : decode m_Md_againstTwo.2.1 72 = .ok (.ifCond .eq 7, 3) := by decide +kernel
theorem d_Md_againstTwo_75 : decode m_Md_againstTwo.2.1 75 = .ok (.iconst 0, 1) := by decide +kernel
theorem d_Md_againstTwo_76 : decode m_Md_againstTwo.2.1 76 = .ok (.goto 5, 3) := by decide +kernel
theorem d_Md_againstTwo_79 : decode m_Md_againstTwo.2.1 79 = .ok (.bipush (-12), 2) := by decide +kernel
theorem d_Md_againstTwo_81 : decode m_Md_againstTwo.2.1 81 = .ok (.ireturn, 1) := by decide +kernel
theorem d_Md_read_0 : decode m_Md_read.2.1 0 = .ok (.iload_n 1, 1) := by decide +kernel
theorem d_Md_read_1 : decode m_Md_read.2.1 1 = .ok (.invokestatic 311, 3) := by decide +kernel
theorem d_Md_read_4 : decode m_Md_read.2.1 4 = .ok (.ifCond .ne 6, 3) := by decide +kernel
theorem d_Md_read_7 : decode m_Md_read.2.1 7 = .ok (.bipush (-2), 2) := by decide +kernel
theorem d_Md_read_9 : decode m_Md_read.2.1 9 = .ok (.ireturn, 1) := by decide +kernel
theorem d_Md_read_10 : decode m_Md_read.2.1 10 = .ok (.iload 4, 2) := by decide +kernel
theorem d_Md_read_12 : decode m_Md_read.2.1 12 = .ok (.i2l, 1) := by decide +kernel
theorem d_Md_read_13 : decode m_Md_read.2.1 13 = .ok (.lconst 0, 1) := by decide +kernel
theorem d_Md_read_14 : decode m_Md_read.2.1 14 = .ok (.lconst 1, 1) := by decide +kernel
theorem d_Md_read_15 : decode m_Md_read.2.1 15 = .ok (.invokestatic 111, 3) := by decide +kernel
theorem d_Md_read_18 : decode m_Md_read.2.1 18 = .ok (.ifCond .ne 6, 3) := by decide +kernel
theorem d_Md_read_21 : decode m_Md_read.2.1 21 = .ok (.bipush (-3), 2) := by decide +kernel
theorem d_Md_read_23 : decode m_Md_read.2.1 23 = .ok (.ireturn, 1) := by decide +kernel
theorem d_Md_read_24 : decode m_Md_read.2.1 24 = .ok (.aload_n 0, 1) := by decide +kernel
theorem d_Md_read_25 : decode m_Md_read.2.1 25 = .ok (.iload_n 1, 1) := by decide +kernel
theorem d_Md_read_26 : decode m_Md_read.2.1 26 = .ok (.iload_n 2, 1) := by decide +kernel
theorem d_Md_read_27 : decode m_Md_read.2.1 27 = .ok (.iload_n 3, 1) := by decide +kernel
theorem d_Md_read_28 : decode m_Md_read.2.1 28 = .ok (.invokevirtual 325, 3) := by decide +kernel
theorem d_Md_read_31 : decode m_Md_read.2.1 31 = .ok (.istore 5, 2) := by decide +kernel
theorem d_Md_read_33 : decode m_Md_read.2.1 33 = .ok (.iload 5, 2) := by decide +kernel
theorem d_Md_read_35 : decode m_Md_read.2.1 35 = .ok (.ifCond .ge 6, 3) := by decide +kernel
theorem d_Md_read_38 : decode m_Md_read.2.1 38 = .ok (.iload 5, 2) := by decide +kernel
theorem d_Md_read_40 : decode m_Md_read.2.1 40 = .ok (.ireturn, 1) := by decide +kernel
theorem d_Md_read_41 : decode m_Md_read.2.1 41 = .ok (.bipush 6, 2) := by decide +kernel
theorem d_Md_read_43 : decode m_Md_read.2.1 43 = .ok (.aload_n 0, 1) := by decide +kernel
theorem d_Md_read_44 : decode m_Md_read.2.1 44 = .ok (.getfield 95, 3) := by decide +kernel
theorem d_Md_read_47 : decode m_Md_read.2.1 47 = .ok (.iconst 5, 1) := by decide +kernel
theorem d_Md_read_48 : decode m_Md_read.2.1 48 = .ok (.iload_n 1, 1) := by decide +kernel
theorem d_Md_read_49 : decode m_Md_read.2.1 49 = .ok (.imul, 1) := by decide +kernel
theorem d_Md_read_50 : decode m_Md_read.2.1 50 = .ok (.iload_n 2, 1) := by decide +kernel
theorem d_Md_read_51 : decode m_Md_read.2.1 51 = .ok (.iadd, 1) := by decide +kernel
theorem d_Md_read_52 : decode m_Md_read.2.1 52 = .ok (.iaload, 1) := by decide +kernel
theorem d_Md_read_53 : decode m_Md_read.2.1 53 = .ok (.imul, 1) := by decide +kernel
theorem d_Md_read_54 : decode m_Md_read.2.1 54 = .ok (.iload_n 3, 1) := by decide +kernel
theorem d_Md_read_55 : decode m_Md_read.2.1 55 = .ok (.iadd, 1) := by decide +kernel
theorem d_Md_read_56 : decode m_Md_read.2.1 56 = .ok (.istore 6, 2) := by decide +kernel
theorem d_Md_read_58 : decode m_Md_read.2.1 58 = .ok (.aload_n 0, 1) := by decide +kernel
theorem d_Md_read_59 : decode m_Md_read.2.1 59 = .ok (.getfield 101, 3) := by decide +kernel
theorem d_Md_read_62 : decode m_Md_read.2.1 62 = .ok (.iload 6, 2) := by decide +kernel
theorem d_Md_read_64 : decode m_Md_read.2.1 64 = .ok (.iaload, 1) := by decide +kernel
theorem d_Md_read_65 : decode m_Md_read.2.1 65 = .ok (.ifCond .ne 6, 3) := by decide +kernel
theorem d_Md_read_68 : decode m_Md_read.2.1 68 = .ok (.bipush (-15), 2) := by decide +kernel
theorem d_Md_read_70 : decode m_Md_read.2.1 70 = .ok (.ireturn, 1) := by decide +kernel
theorem d_Md_read_71 : decode m_Md_read.2.1 71 = .ok (.aload_n 0, 1) := by decide +kernel
theorem d_Md_read_72 : decode m_Md_read.2.1 72 = .ok (.getfield 101, 3) := by decide +kernel
theorem d_Md_read_75 : decode m_Md_read.2.1 75 = .ok (.iload 6, 2) := by decide +kernel
theorem d_Md_read_77 : decode m_Md_read.2.1 77 = .ok (.iaload, 1) := by decide +kernel
theorem d_Md_read_78 : decode m_Md_read.2.1 78 = .ok (.iload 4, 2) := by decide +kernel
theorem d_Md_read_80 : decode m_Md_read.2.1 80 = .ok (.iconst 1, 1) := by decide +kernel
theorem d_Md_read_81 : decode m_Md_read.2.1 81 = .ok (.iadd, 1) := by decide +kernel
theorem d_Md_read_82 : decode m_Md_read.2.1 82 = .ok (.if_icmp .eq 6, 3) := by decide +kernel
theorem d_Md_read_85 : decode m_Md_read.2.1 85 = .ok (.bipush (-16), 2) := by decide +kernel
theorem d_Md_read_87 : decode m_Md_read.2.1 87 = .ok (.ireturn, 1) := by decide +kernel
theorem d_Md_read_88 : decode m_Md_read.2.1 88 = .ok (.iload 4, 2) := by decide +kernel
theorem d_Md_read_90 : decode m_Md_read.2.1 90 = .ok (.ifCond .ne 17, 3) := by decide +kernel
theorem d_Md_read_93 : decode m_Md_read.2.1 93 = .ok (.aload_n 0, 1) := by decide +kernel
theorem d_Md_read_94 : decode m_Md_read.2.1 94 = .ok (.getfield 104, 3) := by decide +kernel
theorem d_Md_read_97 : decode m_Md_read.2.1 97 = .ok (.iload 6, 2) := by decide +kernel
theorem d_Md_read_99 : decode m_Md_read.2.1 99 = .ok (.iaload, 1) := by decide +kernel
theorem d_Md_read_100 : decode m_Md_read.2.1 100 = .ok (.ldc_w 328, 3) := by decide +kernel
theorem d_Md_read_103 : decode m_Md_read.2.1 103 = .ok (.iadd, 1) := by decide +kernel
theorem d_Md_read_104 : decode m_Md_read.2.1 104 = .ok (.goto 10, 3) := by decide +kernel
theorem d_Md_read_107 : decode m_Md_read.2.1 107 = .ok (.aload_n 0, 1) := by decide +kernel
theorem d_Md_read_108 : decode m_Md_read.2.1 108 = .ok (.getfield 104, 3) := by decide +kernel
theorem d_Md_read_111 : decode m_Md_read.2.1 111 = .ok (.iload 6, 2) := by decide +kernel
theorem d_Md_read_113 : decode m_Md_read.2.1 113 = .ok (.iaload, 1) := by decide +kernel
theorem d_Md_read_114 : decode m_Md_read.2.1 114 = .ok (.ireturn, 1) := by decide +kernel
theorem d_Md_dead_0 : decode m_Md_dead.2.1 0 = .ok (.iconst 0, 1) := by decide +kernel
theorem d_Md_dead_1 : decode m_Md_dead.2.1 1 = .ok (.istore_n 1, 1) := by decide +kernel
theorem d_Md_dead_2 : decode m_Md_dead.2.1 2 = .ok (.iconst 0, 1) := by decide +kernel
theorem d_Md_dead_3 : decode m_Md_dead.2.1 3 = .ok (.istore_n 2, 1) := by decide +kernel
theorem d_Md_dead_4 : decode m_Md_dead.2.1 4 = .ok (.iload_n 2, 1) := by decide +kernel
theorem d_Md_dead_5 : decode m_Md_dead.2.1 5 = .ok (.aload_n 0, 1) := by decide +kernel
theorem d_Md_dead_6 : decode m_Md_dead.2.1 6 = .ok (.getfield 107, 3) := by decide +kernel
theorem d_Md_dead_9 : decode m_Md_dead.2.1 9 = .ok (.if_icmp .ge 30, 3) := by decide +kernel
theorem d_Md_dead_12 : decode m_Md_dead.2.1 12 = .ok (.iload_n 1, 1) := by decide +kernel
theorem d_Md_dead_13 : decode m_Md_dead.2.1 13 = .ok (.aload_n 0, 1) := by decide +kernel
theorem d_Md_dead_14 : decode m_Md_dead.2.1 14 = .ok (.getfield 7, 3) := by decide +kernel
theorem d_Md_dead_17 : decode m_Md_dead.2.1 17 = .ok (.iconst 1, 1) := by decide +kernel
theorem d_Md_dead_18 : decode m_Md_dead.2.1 18 = .ok (.iload_n 2, 1) := by decide +kernel
theorem d_Md_dead_19 : decode m_Md_dead.2.1 19 = .ok (.iadd, 1) := by decide +kernel
theorem d_Md_dead_20 : decode m_Md_dead.2.1 20 = .ok (.iaload, 1) := by decide +kernel
theorem d_Md_dead_21 : decode m_Md_dead.2.1 21 = .ok (.ifCond .ne 9, 3) := by decide +kernel
theorem d_Md_dead_24 : decode m_Md_dead.2.1 24 = .ok (.iconst 1, 1) := by decide +kernel
theorem d_Md_dead_25 : decode m_Md_dead.2.1 25 = .ok (.iload_n 2, 1) := by decide +kernel
theorem d_Md_dead_26 : decode m_Md_dead.2.1 26 = .ok (.ishl, 1) := by decide +kernel
theorem d_Md_dead_27 : decode m_Md_dead.2.1 27 = .ok (.goto 4, 3) := by decide +kernel
theorem d_Md_dead_30 : decode m_Md_dead.2.1 30 = .ok (.iconst 0, 1) := by decide +kernel
theorem d_Md_dead_31 : decode m_Md_dead.2.1 31 = .ok (.ior, 1) := by decide +kernel
theorem d_Md_dead_32 : decode m_Md_dead.2.1 32 = .ok (.istore_n 1, 1) := by decide +kernel
theorem d_Md_dead_33 : decode m_Md_dead.2.1 33 = .ok (.iinc 2 1, 3) := by decide +kernel
theorem d_Md_dead_36 : decode m_Md_dead.2.1 36 = .ok (.goto (-32), 3) := by decide +kernel
theorem d_Md_dead_39 : decode m_Md_dead.2.1 39 = .ok (.iload_n 1, 1) := by decide +kernel
theorem d_Md_dead_40 : decode m_Md_dead.2.1 40 = .ok (.ireturn, 1) := by decide +kernel
