def M_Mod_letterOf : XM := (⟨"HandshakeBindsModel", "letterOf", "(IIIII)I"⟩, prog_11_method_27_code, 6, (some .int))
theorem d_Mod_letterOf_0 : decode M_Mod_letterOf.2.1 0 = .ok (.iload 5, 2) := by decide +kernel
theorem d_Mod_letterOf_2 : decode M_Mod_letterOf.2.1 2 = .ok (.tableswitch 57 0 4 #[34, 36, 38, 45, 52], 34) := by decide +kernel
theorem d_Mod_letterOf_36 : decode M_Mod_letterOf.2.1 36 = .ok (.iload_n 1, 1) := by decide +kernel
theorem d_Mod_letterOf_37 : decode M_Mod_letterOf.2.1 37 = .ok (.ireturn, 1) := by decide +kernel
theorem d_Mod_letterOf_38 : decode M_Mod_letterOf.2.1 38 = .ok (.iload_n 2, 1) := by decide +kernel
theorem d_Mod_letterOf_39 : decode M_Mod_letterOf.2.1 39 = .ok (.ireturn, 1) := by decide +kernel
theorem d_Mod_letterOf_40 : decode M_Mod_letterOf.2.1 40 = .ok (.aload_n 0, 1) := by decide +kernel
theorem d_Mod_letterOf_41 : decode M_Mod_letterOf.2.1 41 = .ok (.getfield 9, 3) := by decide +kernel
theorem d_Mod_letterOf_44 : decode M_Mod_letterOf.2.1 44 = .ok (.iload_n 1, 1) := by decide +kernel
theorem d_Mod_letterOf_45 : decode M_Mod_letterOf.2.1 45 = .ok (.iaload, 1) := by decide +kernel
theorem d_Mod_letterOf_46 : decode M_Mod_letterOf.2.1 46 = .ok (.ireturn, 1) := by decide +kernel
theorem d_Mod_letterOf_47 : decode M_Mod_letterOf.2.1 47 = .ok (.aload_n 0, 1) := by decide +kernel
theorem d_Mod_letterOf_48 : decode M_Mod_letterOf.2.1 48 = .ok (.getfield 15, 3) := by decide +kernel
theorem d_Mod_letterOf_51 : decode M_Mod_letterOf.2.1 51 = .ok (.iload_n 1, 1) := by decide +kernel
theorem d_Mod_letterOf_52 : decode M_Mod_letterOf.2.1 52 = .ok (.iaload, 1) := by decide +kernel
theorem d_Mod_letterOf_53 : decode M_Mod_letterOf.2.1 53 = .ok (.ireturn, 1) := by decide +kernel
theorem d_Mod_letterOf_54 : decode M_Mod_letterOf.2.1 54 = .ok (.iload_n 3, 1) := by decide +kernel
theorem d_Mod_letterOf_55 : decode M_Mod_letterOf.2.1 55 = .ok (.bipush 10, 2) := by decide +kernel
theorem d_Mod_letterOf_57 : decode M_Mod_letterOf.2.1 57 = .ok (.idiv, 1) := by decide +kernel
theorem d_Mod_letterOf_58 : decode M_Mod_letterOf.2.1 58 = .ok (.ireturn, 1) := by decide +kernel
theorem d_Mod_letterOf_59 : decode M_Mod_letterOf.2.1 59 = .ok (.iload 4, 2) := by decide +kernel
theorem d_Mod_letterOf_61 : decode M_Mod_letterOf.2.1 61 = .ok (.bipush 10, 2) := by decide +kernel
theorem d_Mod_letterOf_63 : decode M_Mod_letterOf.2.1 63 = .ok (.irem, 1) := by decide +kernel
theorem d_Mod_letterOf_64 : decode M_Mod_letterOf.2.1 64 = .ok (.ireturn, 1) := by decide +kernel
def M_Mod_isTrue : XM := (⟨"HandshakeBindsModel", "isTrue", "(IIIII)Z"⟩, prog_11_method_28_code, 12, (some .boolean))
theorem d_Mod_isTrue_0 : decode M_Mod_isTrue.2.1 0 = .ok (.iconst 0, 1) := by decide +kernel
theorem d_Mod_isTrue_1 : decode M_Mod_isTrue.2.1 1 = .ok (.istore 6, 2) := by decide +kernel
theorem d_Mod_isTrue_3 : decode M_Mod_isTrue.2.1 3 = .ok (.aload_n 0, 1) := by decide +kernel
theorem d_Mod_isTrue_4 : decode M_Mod_isTrue.2.1 4 = .ok (.getfield 39, 3) := by decide +kernel
theorem gf_Mod_39 : GF "HandshakeBindsModel" 39 9 18 := ⟨_, _, _, rfl, by decide, i_Mod, inTB 868 (by decide +kernel) rfl⟩
theorem d_Mod_isTrue_7 : decode M_Mod_isTrue.2.1 7 = .ok (.iload 5, 2) := by decide +kernel
theorem d_Mod_isTrue_9 : decode M_Mod_isTrue.2.1 9 = .ok (.iaload, 1) := by decide +kernel
theorem d_Mod_isTrue_10 : decode M_Mod_isTrue.2.1 10 = .ok (.istore 7, 2) := by decide +kernel
theorem d_Mod_isTrue_12 : decode M_Mod_isTrue.2.1 12 = .ok (.iload 7, 2) := by decide +kernel
theorem d_Mod_isTrue_14 : decode M_Mod_isTrue.2.1 14 = .ok (.aload_n 0, 1) := by decide +kernel
theorem d_Mod_isTrue_15 : decode M_Mod_isTrue.2.1 15 = .ok (.getfield 39, 3) := by decide +kernel
theorem d_Mod_isTrue_18 : decode M_Mod_isTrue.2.1 18 = .ok (.iload 5, 2) := by decide +kernel
theorem d_Mod_isTrue_20 : decode M_Mod_isTrue.2.1 20 = .ok (.iaload, 1) := by decide +kernel
theorem d_Mod_isTrue_21 : decode M_Mod_isTrue.2.1 21 = .ok (.aload_n 0, 1) := by decide +kernel
theorem d_Mod_isTrue_22 : decode M_Mod_isTrue.2.1 22 = .ok (.getfield 42, 3) := by decide +kernel
theorem gf_Mod_42 : GF "HandshakeBindsModel" 42 9 19 := ⟨_, _, _, rfl, by decide, i_Mod, inTB 869 (by decide +kernel) rfl⟩
theorem d_Mod_isTrue_25 : decode M_Mod_isTrue.2.1 25 = .ok (.iload 5, 2) := by decide +kernel
theorem d_Mod_isTrue_27 : decode M_Mod_isTrue.2.1 27 = .ok (.iaload, 1) := by decide +kernel
theorem d_Mod_isTrue_28 : decode M_Mod_isTrue.2.1 28 = .ok (.iadd, 1) := by decide +kernel
theorem d_Mod_isTrue_29 : decode M_Mod_isTrue.2.1 29 = .ok (.if_icmp .ge 238, 3) := by decide +kernel
theorem d_Mod_isTrue_267 : decode M_Mod_isTrue.2.1 267 = .ok (.aload_n 0, 1) := by decide +kernel
theorem d_Mod_isTrue_268 : decode M_Mod_isTrue.2.1 268 = .ok (.getfield 48, 3) := by decide +kernel
theorem gf_Mod_48 : GF "HandshakeBindsModel" 48 9 22 := ⟨_, _, _, rfl, by decide, i_Mod, inTB 872 (by decide +kernel) rfl⟩
theorem d_Mod_isTrue_271 : decode M_Mod_isTrue.2.1 271 = .ok (.iconst 0, 1) := by decide +kernel
theorem d_Mod_isTrue_272 : decode M_Mod_isTrue.2.1 272 = .ok (.baload, 1) := by decide +kernel
theorem d_Mod_isTrue_273 : decode M_Mod_isTrue.2.1 273 = .ok (.ireturn, 1) := by decide +kernel
theorem d_Mod_isTrue_32 : decode M_Mod_isTrue.2.1 32 = .ok (.aload_n 0, 1) := by decide +kernel
theorem d_Mod_isTrue_33 : decode M_Mod_isTrue.2.1 33 = .ok (.getfield 45, 3) := by decide +kernel
theorem gf_Mod_45 : GF "HandshakeBindsModel" 45 9 20 := ⟨_, _, _, rfl, by decide, i_Mod, inTB 870 (by decide +kernel) rfl⟩
theorem d_Mod_isTrue_36 : decode M_Mod_isTrue.2.1 36 = .ok (.iload 7, 2) := by decide +kernel
theorem d_Mod_isTrue_38 : decode M_Mod_isTrue.2.1 38 = .ok (.iaload, 1) := by decide +kernel
theorem d_Mod_isTrue_39 : decode M_Mod_isTrue.2.1 39 = .ok (.istore 8, 2) := by decide +kernel
theorem d_Mod_isTrue_41 : decode M_Mod_isTrue.2.1 41 = .ok (.iload 8, 2) := by decide +kernel
theorem d_Mod_isTrue_43 : decode M_Mod_isTrue.2.1 43 = .ok (.iconst 3, 1) := by decide +kernel
theorem d_Mod_isTrue_44 : decode M_Mod_isTrue.2.1 44 = .ok (.if_icmp .lt 108, 3) := by decide +kernel
theorem d_Mod_isTrue_152 : decode M_Mod_isTrue.2.1 152 = .ok (.iload 8, 2) := by decide +kernel
theorem d_Mod_isTrue_154 : decode M_Mod_isTrue.2.1 154 = .ok (.ifCond .ne 32, 3) := by decide +kernel
theorem d_Mod_isTrue_186 : decode M_Mod_isTrue.2.1 186 = .ok (.iinc 6 (-1), 3) := by decide +kernel
theorem d_Mod_isTrue_189 : decode M_Mod_isTrue.2.1 189 = .ok (.aload_n 0, 1) := by decide +kernel
theorem d_Mod_isTrue_190 : decode M_Mod_isTrue.2.1 190 = .ok (.getfield 48, 3) := by decide +kernel
theorem d_Mod_isTrue_193 : decode M_Mod_isTrue.2.1 193 = .ok (.iload 6, 2) := by decide +kernel
theorem d_Mod_isTrue_195 : decode M_Mod_isTrue.2.1 195 = .ok (.iconst 1, 1) := by decide +kernel
theorem d_Mod_isTrue_196 : decode M_Mod_isTrue.2.1 196 = .ok (.isub, 1) := by decide +kernel
theorem d_Mod_isTrue_197 : decode M_Mod_isTrue.2.1 197 = .ok (.iload 8, 2) := by decide +kernel
theorem d_Mod_isTrue_199 : decode M_Mod_isTrue.2.1 199 = .ok (.iconst 1, 1) := by decide +kernel
theorem d_Mod_isTrue_200 : decode M_Mod_isTrue.2.1 200 = .ok (.if_icmp .ne 33, 3) := by decide +kernel
theorem d_Mod_isTrue_233 : decode M_Mod_isTrue.2.1 233 = .ok (.aload_n 0, 1) := by decide +kernel
theorem d_Mod_isTrue_234 : decode M_Mod_isTrue.2.1 234 = .ok (.getfield 48, 3) := by decide +kernel
theorem d_Mod_isTrue_237 : decode M_Mod_isTrue.2.1 237 = .ok (.iload 6, 2) := by decide +kernel
theorem d_Mod_isTrue_239 : decode M_Mod_isTrue.2.1 239 = .ok (.iconst 1, 1) := by decide +kernel
theorem d_Mod_isTrue_240 : decode M_Mod_isTrue.2.1 240 = .ok (.isub, 1) := by decide +kernel
theorem d_Mod_isTrue_241 : decode M_Mod_isTrue.2.1 241 = .ok (.baload, 1) := by decide +kernel
theorem d_Mod_isTrue_242 : decode M_Mod_isTrue.2.1 242 = .ok (.ifCond .ne 13, 3) := by decide +kernel
theorem d_Mod_isTrue_255 : decode M_Mod_isTrue.2.1 255 = .ok (.iconst 1, 1) := by decide +kernel
theorem d_Mod_isTrue_256 : decode M_Mod_isTrue.2.1 256 = .ok (.goto 4, 3) := by decide +kernel
theorem d_Mod_isTrue_260 : decode M_Mod_isTrue.2.1 260 = .ok (.bastore, 1) := by decide +kernel
theorem d_Mod_isTrue_261 : decode M_Mod_isTrue.2.1 261 = .ok (.iinc 7 1, 3) := by decide +kernel
theorem d_Mod_isTrue_264 : decode M_Mod_isTrue.2.1 264 = .ok (.goto (-252), 3) := by decide +kernel
theorem d_Mod_isTrue_245 : decode M_Mod_isTrue.2.1 245 = .ok (.aload_n 0, 1) := by decide +kernel
theorem d_Mod_isTrue_246 : decode M_Mod_isTrue.2.1 246 = .ok (.getfield 48, 3) := by decide +kernel
theorem d_Mod_isTrue_249 : decode M_Mod_isTrue.2.1 249 = .ok (.iload 6, 2) := by decide +kernel
theorem d_Mod_isTrue_251 : decode M_Mod_isTrue.2.1 251 = .ok (.baload, 1) := by decide +kernel
theorem d_Mod_isTrue_252 : decode M_Mod_isTrue.2.1 252 = .ok (.ifCond .eq 7, 3) := by decide +kernel
theorem d_Mod_isTrue_259 : decode M_Mod_isTrue.2.1 259 = .ok (.iconst 0, 1) := by decide +kernel
theorem d_Mod_isTrue_203 : decode M_Mod_isTrue.2.1 203 = .ok (.aload_n 0, 1) := by decide +kernel
theorem d_Mod_isTrue_204 : decode M_Mod_isTrue.2.1 204 = .ok (.getfield 48, 3) := by decide +kernel
theorem d_Mod_isTrue_207 : decode M_Mod_isTrue.2.1 207 = .ok (.iload 6, 2) := by decide +kernel
theorem d_Mod_isTrue_209 : decode M_Mod_isTrue.2.1 209 = .ok (.iconst 1, 1) := by decide +kernel
theorem d_Mod_isTrue_210 : decode M_Mod_isTrue.2.1 210 = .ok (.isub, 1) := by decide +kernel
theorem d_Mod_isTrue_211 : decode M_Mod_isTrue.2.1 211 = .ok (.baload, 1) := by decide +kernel
theorem d_Mod_isTrue_212 : decode M_Mod_isTrue.2.1 212 = .ok (.ifCond .eq 17, 3) := by decide +kernel
theorem d_Mod_isTrue_229 : decode M_Mod_isTrue.2.1 229 = .ok (.iconst 0, 1) := by decide +kernel
theorem d_Mod_isTrue_230 : decode M_Mod_isTrue.2.1 230 = .ok (.goto 30, 3) := by decide +kernel
theorem d_Mod_isTrue_215 : decode M_Mod_isTrue.2.1 215 = .ok (.aload_n 0, 1) := by decide +kernel
theorem d_Mod_isTrue_216 : decode M_Mod_isTrue.2.1 216 = .ok (.getfield 48, 3) := by decide +kernel
theorem d_Mod_isTrue_219 : decode M_Mod_isTrue.2.1 219 = .ok (.iload 6, 2) := by decide +kernel
theorem d_Mod_isTrue_221 : decode M_Mod_isTrue.2.1 221 = .ok (.baload, 1) := by decide +kernel
theorem d_Mod_isTrue_222 : decode M_Mod_isTrue.2.1 222 = .ok (.ifCond .eq 7, 3) := by decide +kernel
theorem d_Mod_isTrue_225 : decode M_Mod_isTrue.2.1 225 = .ok (.iconst 1, 1) := by decide +kernel
theorem d_Mod_isTrue_226 : decode M_Mod_isTrue.2.1 226 = .ok (.goto 34, 3) := by decide +kernel
theorem d_Mod_isTrue_157 : decode M_Mod_isTrue.2.1 157 = .ok (.aload_n 0, 1) := by decide +kernel
theorem d_Mod_isTrue_158 : decode M_Mod_isTrue.2.1 158 = .ok (.getfield 48, 3) := by decide +kernel
theorem d_Mod_isTrue_161 : decode M_Mod_isTrue.2.1 161 = .ok (.iload 6, 2) := by decide +kernel
theorem d_Mod_isTrue_163 : decode M_Mod_isTrue.2.1 163 = .ok (.iconst 1, 1) := by decide +kernel
theorem d_Mod_isTrue_164 : decode M_Mod_isTrue.2.1 164 = .ok (.isub, 1) := by decide +kernel
theorem d_Mod_isTrue_165 : decode M_Mod_isTrue.2.1 165 = .ok (.aload_n 0, 1) := by decide +kernel
theorem d_Mod_isTrue_166 : decode M_Mod_isTrue.2.1 166 = .ok (.getfield 48, 3) := by decide +kernel
theorem d_Mod_isTrue_169 : decode M_Mod_isTrue.2.1 169 = .ok (.iload 6, 2) := by decide +kernel
theorem d_Mod_isTrue_171 : decode M_Mod_isTrue.2.1 171 = .ok (.iconst 1, 1) := by decide +kernel
theorem d_Mod_isTrue_172 : decode M_Mod_isTrue.2.1 172 = .ok (.isub, 1) := by decide +kernel
theorem d_Mod_isTrue_173 : decode M_Mod_isTrue.2.1 173 = .ok (.baload, 1) := by decide +kernel
theorem d_Mod_isTrue_174 : decode M_Mod_isTrue.2.1 174 = .ok (.ifCond .ne 7, 3) := by decide +kernel
theorem d_Mod_isTrue_181 : decode M_Mod_isTrue.2.1 181 = .ok (.iconst 0, 1) := by decide +kernel
theorem d_Mod_isTrue_182 : decode M_Mod_isTrue.2.1 182 = .ok (.bastore, 1) := by decide +kernel
theorem d_Mod_isTrue_183 : decode M_Mod_isTrue.2.1 183 = .ok (.goto 78, 3) := by decide +kernel
theorem d_Mod_isTrue_177 : decode M_Mod_isTrue.2.1 177 = .ok (.iconst 1, 1) := by decide +kernel
theorem d_Mod_isTrue_178 : decode M_Mod_isTrue.2.1 178 = .ok (.goto 4, 3) := by decide +kernel
theorem d_Mod_isTrue_47 : decode M_Mod_isTrue.2.1 47 = .ok (.aload_n 0, 1) := by decide +kernel
theorem d_Mod_isTrue_48 : decode M_Mod_isTrue.2.1 48 = .ok (.iload_n 1, 1) := by decide +kernel
theorem d_Mod_isTrue_49 : decode M_Mod_isTrue.2.1 49 = .ok (.iload_n 2, 1) := by decide +kernel
theorem d_Mod_isTrue_50 : decode M_Mod_isTrue.2.1 50 = .ok (.iload_n 3, 1) := by decide +kernel
theorem d_Mod_isTrue_51 : decode M_Mod_isTrue.2.1 51 = .ok (.iload 4, 2) := by decide +kernel
theorem d_Mod_isTrue_53 : decode M_Mod_isTrue.2.1 53 = .ok (.iload 8, 2) := by decide +kernel
theorem d_Mod_isTrue_55 : decode M_Mod_isTrue.2.1 55 = .ok (.iconst 3, 1) := by decide +kernel
theorem d_Mod_isTrue_56 : decode M_Mod_isTrue.2.1 56 = .ok (.isub, 1) := by decide +kernel
theorem d_Mod_isTrue_57 : decode M_Mod_isTrue.2.1 57 = .ok (.sipush 300, 3) := by decide +kernel
theorem d_Mod_isTrue_60 : decode M_Mod_isTrue.2.1 60 = .ok (.idiv, 1) := by decide +kernel
theorem d_Mod_isTrue_61 : decode M_Mod_isTrue.2.1 61 = .ok (.invokevirtual 222, 3) := by decide +kernel
theorem ln_Mod_222 : Cond.methodLink "HandshakeBindsModel" 222 M_Mod_letterOf.1 ∈ TB := inTB 1175 (by decide +kernel) rfl
theorem lk_Mod_letterOf : LVt M_Mod_letterOf 5 := ⟨⟨inTB 72 (by decide +kernel) rfl, inTB 1178 (by decide +kernel) rfl, ⟨by decide, by decide, by decide +kernel⟩, by decide⟩, inTB 1177 (by decide +kernel) rfl, inTB 41 (by decide +kernel) rfl⟩
theorem d_Mod_isTrue_64 : decode M_Mod_isTrue.2.1 64 = .ok (.istore 9, 2) := by decide +kernel
theorem d_Mod_isTrue_66 : decode M_Mod_isTrue.2.1 66 = .ok (.iload 8, 2) := by decide +kernel
theorem d_Mod_isTrue_68 : decode M_Mod_isTrue.2.1 68 = .ok (.iconst 3, 1) := by decide +kernel
theorem d_Mod_isTrue_69 : decode M_Mod_isTrue.2.1 69 = .ok (.isub, 1) := by decide +kernel
theorem d_Mod_isTrue_70 : decode M_Mod_isTrue.2.1 70 = .ok (.bipush 100, 2) := by decide +kernel
theorem d_Mod_isTrue_72 : decode M_Mod_isTrue.2.1 72 = .ok (.irem, 1) := by decide +kernel
theorem d_Mod_isTrue_73 : decode M_Mod_isTrue.2.1 73 = .ok (.istore 10, 2) := by decide +kernel
theorem d_Mod_isTrue_75 : decode M_Mod_isTrue.2.1 75 = .ok (.iload 8, 2) := by decide +kernel
theorem d_Mod_isTrue_77 : decode M_Mod_isTrue.2.1 77 = .ok (.iconst 3, 1) := by decide +kernel
theorem d_Mod_isTrue_78 : decode M_Mod_isTrue.2.1 78 = .ok (.isub, 1) := by decide +kernel
theorem d_Mod_isTrue_79 : decode M_Mod_isTrue.2.1 79 = .ok (.bipush 100, 2) := by decide +kernel
theorem d_Mod_isTrue_81 : decode M_Mod_isTrue.2.1 81 = .ok (.idiv, 1) := by decide +kernel
theorem d_Mod_isTrue_82 : decode M_Mod_isTrue.2.1 82 = .ok (.iconst 3, 1) := by decide +kernel
theorem d_Mod_isTrue_83 : decode M_Mod_isTrue.2.1 83 = .ok (.irem, 1) := by decide +kernel
theorem d_Mod_isTrue_84 : decode M_Mod_isTrue.2.1 84 = .ok (.istore 11, 2) := by decide +kernel
theorem d_Mod_isTrue_148 : decode M_Mod_isTrue.2.1 148 = .ok (.bastore, 1) := by decide +kernel
theorem d_Mod_isTrue_149 : decode M_Mod_isTrue.2.1 149 = .ok (.goto 112, 3) := by decide +kernel
theorem d_Mod_isTrue_86 : decode M_Mod_isTrue.2.1 86 = .ok (.aload_n 0, 1) := by decide +kernel
theorem d_Mod_isTrue_87 : decode M_Mod_isTrue.2.1 87 = .ok (.getfield 48, 3) := by decide +kernel
theorem d_Mod_isTrue_90 : decode M_Mod_isTrue.2.1 90 = .ok (.iload 6, 2) := by decide +kernel
theorem d_Mod_isTrue_92 : decode M_Mod_isTrue.2.1 92 = .ok (.iinc 6 1, 3) := by decide +kernel
theorem d_Mod_isTrue_95 : decode M_Mod_isTrue.2.1 95 = .ok (.iload 11, 2) := by decide +kernel
theorem d_Mod_isTrue_97 : decode M_Mod_isTrue.2.1 97 = .ok (.ifCond .ne 18, 3) := by decide +kernel
theorem d_Mod_isTrue_115 : decode M_Mod_isTrue.2.1 115 = .ok (.iload 11, 2) := by decide +kernel
theorem d_Mod_isTrue_117 : decode M_Mod_isTrue.2.1 117 = .ok (.iconst 1, 1) := by decide +kernel
theorem d_Mod_isTrue_118 : decode M_Mod_isTrue.2.1 118 = .ok (.if_icmp .ne 18, 3) := by decide +kernel
theorem d_Mod_isTrue_136 : decode M_Mod_isTrue.2.1 136 = .ok (.iload 9, 2) := by decide +kernel
theorem d_Mod_isTrue_138 : decode M_Mod_isTrue.2.1 138 = .ok (.iload 10, 2) := by decide +kernel
theorem d_Mod_isTrue_140 : decode M_Mod_isTrue.2.1 140 = .ok (.if_icmp .le 7, 3) := by decide +kernel
theorem d_Mod_isTrue_147 : decode M_Mod_isTrue.2.1 147 = .ok (.iconst 0, 1) := by decide +kernel
theorem d_Mod_isTrue_143 : decode M_Mod_isTrue.2.1 143 = .ok (.iconst 1, 1) := by decide +kernel
theorem d_Mod_isTrue_144 : decode M_Mod_isTrue.2.1 144 = .ok (.goto 4, 3) := by decide +kernel
theorem d_Mod_isTrue_121 : decode M_Mod_isTrue.2.1 121 = .ok (.iload 9, 2) := by decide +kernel
theorem d_Mod_isTrue_123 : decode M_Mod_isTrue.2.1 123 = .ok (.iload 10, 2) := by decide +kernel
theorem d_Mod_isTrue_125 : decode M_Mod_isTrue.2.1 125 = .ok (.if_icmp .ne 7, 3) := by decide +kernel
theorem d_Mod_isTrue_132 : decode M_Mod_isTrue.2.1 132 = .ok (.iconst 0, 1) := by decide +kernel
theorem d_Mod_isTrue_133 : decode M_Mod_isTrue.2.1 133 = .ok (.goto 15, 3) := by decide +kernel
theorem d_Mod_isTrue_128 : decode M_Mod_isTrue.2.1 128 = .ok (.iconst 1, 1) := by decide +kernel
theorem d_Mod_isTrue_129 : decode M_Mod_isTrue.2.1 129 = .ok (.goto 19, 3) := by decide +kernel
theorem d_Mod_isTrue_100 : decode M_Mod_isTrue.2.1 100 = .ok (.iload 9, 2) := by decide +kernel
theorem d_Mod_isTrue_102 : decode M_Mod_isTrue.2.1 102 = .ok (.iload 10, 2) := by decide +kernel
theorem d_Mod_isTrue_104 : decode M_Mod_isTrue.2.1 104 = .ok (.if_icmp .ge 7, 3) := by decide +kernel
theorem d_Mod_isTrue_111 : decode M_Mod_isTrue.2.1 111 = .ok (.iconst 0, 1) := by decide +kernel
theorem d_Mod_isTrue_112 : decode M_Mod_isTrue.2.1 112 = .ok (.goto 36, 3) := by decide +kernel
theorem d_Mod_isTrue_107 : decode M_Mod_isTrue.2.1 107 = .ok (.iconst 1, 1) := by decide +kernel
theorem d_Mod_isTrue_108 : decode M_Mod_isTrue.2.1 108 = .ok (.goto 40, 3) := by decide +kernel
theorem c_Mod_letterOf (X : Xn) (a ν : Nat → Nat) (σ : Nat → Nat → Int32) (τ : Nat → Int64) (p q s d : Nat) (hp : p < 6) (hq : q < 6) (hs : s ≤ 99) (hd : d < 100000) (l : Nat) (hl : l ≤ 5) : Does X 1 M_Mod_letterOf [.ref (a 0), .int (nI p), .int (nI q), .int (nI s), .int (nI d), .int (nI l)] (MW X a ν σ τ) 0 0 (fun (vv : Option Value) (ww : va_W) => vv = some (.int (letV p q (σ 1 p) (σ 2 p) s d l)) ∧ ww = MW X a ν σ τ) := by
  generalize hQ : (fun (vv : Option Value) (ww : va_W) => vv = some (.int (letV p q (σ 1 p) (σ 2 p) s d l)) ∧ ww = MW X a ν σ τ) = Q
  refine Does.go rfl (Nat.le_of_ble_eq_true rfl) [some (.ref (a 0)), some (.int (nI p)), some (.int (nI q)), some (.int (nI s)), some (.int (nI d)), some (.int (nI l))] 0 rfl ?_
  refine r_iload rfl 2 rfl d_Mod_letterOf_0 ?_
  by_cases h2_0 : nI l = 0
  · refine r_tableIn 36 d_Mod_letterOf_2 (by rw [h2_0]; decide) (by rw [h2_0]; decide) (by rw [h2_0]; try rfl) rfl ?_
    obtain rfl : l = 0 := (nI_eq (by omega) (by decide)).mp h2_0
    refine r_iload_n rfl 37 rfl d_Mod_letterOf_36 ?_
    exact r_iret rfl (Nat.zero_le _) (Nat.zero_le _) d_Mod_letterOf_37 (by rw [← hQ]; exact ⟨rfl, rfl⟩)
  by_cases h2_1 : nI l = 1
  · refine r_tableIn 38 d_Mod_letterOf_2 (by rw [h2_1]; decide) (by rw [h2_1]; decide) (by rw [h2_1]; try rfl) rfl ?_
    obtain rfl : l = 1 := (nI_eq (by omega) (by decide)).mp h2_1
    refine r_iload_n rfl 39 rfl d_Mod_letterOf_38 ?_
    exact r_iret rfl (Nat.zero_le _) (Nat.zero_le _) d_Mod_letterOf_39 (by rw [← hQ]; exact ⟨rfl, rfl⟩)
  by_cases h2_2 : nI l = 2
  · refine r_tableIn 40 d_Mod_letterOf_2 (by rw [h2_2]; decide) (by rw [h2_2]; decide) (by rw [h2_2]; try rfl) rfl ?_
    obtain rfl : l = 2 := (nI_eq (by omega) (by decide)).mp h2_2
    refine r_aload_n rfl 41 rfl d_Mod_letterOf_40 ?_
    refine r_getf (v := .ref (a 1)) gf_Mod_9 0 rfl rfl 44 rfl d_Mod_letterOf_41 ?_
    refine r_iload_n rfl 45 rfl d_Mod_letterOf_44 ?_
    refine r_iald 1 rfl p rfl (by omega) (by omega) 46 rfl d_Mod_letterOf_45 ?_
    exact r_iret rfl (Nat.zero_le _) (Nat.zero_le _) d_Mod_letterOf_46 (by rw [← hQ]; exact ⟨rfl, rfl⟩)
  by_cases h2_3 : nI l = 3
  · refine r_tableIn 47 d_Mod_letterOf_2 (by rw [h2_3]; decide) (by rw [h2_3]; decide) (by rw [h2_3]; try rfl) rfl ?_
    obtain rfl : l = 3 := (nI_eq (by omega) (by decide)).mp h2_3
    refine r_aload_n rfl 48 rfl d_Mod_letterOf_47 ?_
    refine r_getf (v := .ref (a 2)) gf_Mod_15 0 rfl rfl 51 rfl d_Mod_letterOf_48 ?_
    refine r_iload_n rfl 52 rfl d_Mod_letterOf_51 ?_
    refine r_iald 2 rfl p rfl (by omega) (by omega) 53 rfl d_Mod_letterOf_52 ?_
    exact r_iret rfl (Nat.zero_le _) (Nat.zero_le _) d_Mod_letterOf_53 (by rw [← hQ]; exact ⟨rfl, rfl⟩)
  by_cases h2_4 : nI l = 4
  · refine r_tableIn 54 d_Mod_letterOf_2 (by rw [h2_4]; decide) (by rw [h2_4]; decide) (by rw [h2_4]; try rfl) rfl ?_
    obtain rfl : l = 4 := (nI_eq (by omega) (by decide)).mp h2_4
    refine r_iload_n rfl 55 rfl d_Mod_letterOf_54 ?_
    refine r_bipush (nI 10) rfl 57 rfl d_Mod_letterOf_55 ?_
    refine r_idiv (by decide) 58 rfl d_Mod_letterOf_57 ?_
    refine r_topi (nI (s / 10)) (pk_div (by omega) (by omega) (by omega)) ?_
    exact r_iret rfl (Nat.zero_le _) (Nat.zero_le _) d_Mod_letterOf_58 (by rw [← hQ]; exact ⟨rfl, rfl⟩)
  have t2_0 : ¬ (nI l).toInt = 0 := lv_neT h2_0 (by decide)
  have t2_1 : ¬ (nI l).toInt = 1 := lv_neT h2_1 (by decide)
  have t2_2 : ¬ (nI l).toInt = 2 := lv_neT h2_2 (by decide)
  have t2_3 : ¬ (nI l).toInt = 3 := lv_neT h2_3 (by decide)
  have t2_4 : ¬ (nI l).toInt = 4 := lv_neT h2_4 (by decide)
  refine r_tableOut 59 d_Mod_letterOf_2 (by omega) rfl ?_
  have z0 : ¬ l = 0 := fun z => h2_0 (by rw [z]; rfl)
  have z1 : ¬ l = 1 := fun z => h2_1 (by rw [z]; rfl)
  have z2 : ¬ l = 2 := fun z => h2_2 (by rw [z]; rfl)
  have z3 : ¬ l = 3 := fun z => h2_3 (by rw [z]; rfl)
  have z4 : ¬ l = 4 := fun z => h2_4 (by rw [z]; rfl)
  refine r_iload rfl 61 rfl d_Mod_letterOf_59 ?_
  refine r_bipush (nI 10) rfl 63 rfl d_Mod_letterOf_61 ?_
  refine r_irem (by decide) 64 rfl d_Mod_letterOf_63 ?_
  refine r_topi (nI (d % 10)) (pk_rem (by omega) (by omega) (by omega)) ?_
  exact r_iret rfl (Nat.zero_le _) (Nat.zero_le _) d_Mod_letterOf_64 (by rw [← hQ]; exact ⟨by rw [letV, if_neg z0, if_neg z1, if_neg z2, if_neg z3, if_neg z4], rfl⟩)
theorem c_Mod_isTrue (X : Xn) (a ν : Nat → Nat) (σ : Nat → Nat → Int32) (τ : Nat → Int64) (p q s d : Nat) (hp : p < 6) (hq : q < 6) (hs : s ≤ 99) (hd : d < 100000) (c b len : Nat) (tk : Nat → Nat) (hc : c < 60) (eb : σ 18 c = nI b) (el : σ 19 c = nI len) (hbl : b + len ≤ 800) (htk : ∀ j, j < len → σ 20 (b + j) = nI (tk j)) (hok : okT tk len) : Does X 2 M_Mod_isTrue [.ref (a 0), .int (nI p), .int (nI q), .int (nI s), .int (nI d), .int (nI c)] (MW X a ν σ τ) 0 0 (fun (vv : Option Value) (ww : va_W) => ∃ t : Nat → Int32, vv = some (.int (bI (evS (tvF p q (σ 1 p) (σ 2 p) s d) tk len 0))) ∧ ww = MW X a ν (u2 σ 22 t) τ) := by
  generalize hQ : (fun (vv : Option Value) (ww : va_W) => ∃ t : Nat → Int32, vv = some (.int (bI (evS (tvF p q (σ 1 p) (σ 2 p) s d) tk len 0))) ∧ ww = MW X a ν (u2 σ 22 t) τ) = Q
  refine Does.go rfl (Nat.le_of_ble_eq_true rfl) [some (.ref (a 0)), some (.int (nI p)), some (.int (nI q)), some (.int (nI s)), some (.int (nI d)), some (.int (nI c)), none, none, none, none, none, none] 6 rfl ?_
  refine r_iconst (nI 0) rfl 1 rfl d_Mod_isTrue_0 ?_
  refine r_istore (ls2 := [some (.ref (a 0)), some (.int (nI p)), some (.int (nI q)), some (.int (nI s)), some (.int (nI d)), some (.int (nI c)), some (.int (nI 0)), none, none, none, none, none]) 3 rfl d_Mod_isTrue_1 (by decide) rfl rfl ?_
  refine r_aload_n rfl 4 rfl d_Mod_isTrue_3 ?_
  refine r_getf (v := .ref (a 18)) gf_Mod_39 0 rfl rfl 7 rfl d_Mod_isTrue_4 ?_
  refine r_iload rfl 9 rfl d_Mod_isTrue_7 ?_
  refine r_iald 10 rfl c rfl (by omega) (by omega) 10 rfl d_Mod_isTrue_9 ?_
  refine r_topi (nI b) (eb) ?_
  refine r_istore (ls2 := [some (.ref (a 0)), some (.int (nI p)), some (.int (nI q)), some (.int (nI s)), some (.int (nI d)), some (.int (nI c)), some (.int (nI 0)), some (.int (nI b)), none, none, none, none]) 12 rfl d_Mod_isTrue_10 (by decide) rfl rfl ?_
  have L12_1 : ∀ (f : Nat) (j : Nat) (st : Nat → Int32), (j ≤ len) → (hold st (evS (tvF p q (σ 1 p) (σ 2 p) s d) tk j) (dp tk j)) → len - j < f → Runs X 2 M_Mod_isTrue 0 0 Q 12 [some (.ref (a 0)), some (.int (nI p)), some (.int (nI q)), some (.int (nI s)), some (.int (nI d)), some (.int (nI c)), some (.int (nI (dp tk j))), some (.int (nI (b + j))), none, none, none, none] [] 0 0 (MW X a ν (u2 σ 22 (st)) τ) := by
    intro f
    induction f with
    | zero => intro j st hj hst hmu; exact absurd hmu (Nat.not_lt_zero _)
    | succ f ih2 =>
      intro j st hj hst hmu
      refine r_iload rfl 14 rfl d_Mod_isTrue_12 ?_
      refine r_aload_n rfl 15 rfl d_Mod_isTrue_14 ?_
      refine r_getf (v := .ref (a 18)) gf_Mod_39 0 rfl rfl 18 rfl d_Mod_isTrue_15 ?_
      refine r_iload rfl 20 rfl d_Mod_isTrue_18 ?_
      refine r_iald 10 rfl c rfl (by omega) (by omega) 21 rfl d_Mod_isTrue_20 ?_
      refine r_topi (nI b) (eb) ?_
      refine r_aload_n rfl 22 rfl d_Mod_isTrue_21 ?_
      refine r_getf (v := .ref (a 19)) gf_Mod_42 0 rfl rfl 25 rfl d_Mod_isTrue_22 ?_
      refine r_iload rfl 27 rfl d_Mod_isTrue_25 ?_
      refine r_iald 11 rfl c rfl (by omega) (by omega) 28 rfl d_Mod_isTrue_27 ?_
      refine r_topi (nI len) (el) ?_
      refine r_iadd 29 rfl d_Mod_isTrue_28 ?_
      refine r_topi (nI (b + len)) (nI_add _ _) ?_
      refine r_icmp_geN (b + j) (b + len) (by omega) (by omega) 32 267 rfl rfl d_Mod_isTrue_29 (fun h29 => ?_) (fun h29 => ?_)
      · refine r_aload_n rfl 268 rfl d_Mod_isTrue_267 ?_
        refine r_getf (v := .ref (a 22)) gf_Mod_48 0 rfl rfl 271 rfl d_Mod_isTrue_268 ?_
        refine r_iconst (nI 0) rfl 272 rfl d_Mod_isTrue_271 ?_
        have ej : j = len := by omega
        subst ej
        have h00 := hst 0 (by rw [hok.2]; omega)
        refine r_zald 13 rfl 0 rfl (by omega) (by omega) 273 rfl d_Mod_isTrue_272 ?_
        refine r_topi (bI (evS (tvF p q (σ 1 p) (σ 2 p) s d) tk j 0)) (h00) ?_
        exact r_zret rfl (bI_nar _) (Nat.zero_le _) (Nat.zero_le _) d_Mod_isTrue_273 (by rw [← hQ]; exact ⟨_, rfl, rfl⟩)
      · have okj := hok.1 j (by omega)
        refine r_aload_n rfl 33 rfl d_Mod_isTrue_32 ?_
        refine r_getf (v := .ref (a 20)) gf_Mod_45 0 rfl rfl 36 rfl d_Mod_isTrue_33 ?_
        refine r_iload rfl 38 rfl d_Mod_isTrue_36 ?_
        refine r_iald 12 rfl (b + j) rfl (by omega) (by omega) 39 rfl d_Mod_isTrue_38 ?_
        refine r_topi (nI (tk j)) (htk j (by omega)) ?_
        refine r_istore (ls2 := [some (.ref (a 0)), some (.int (nI p)), some (.int (nI q)), some (.int (nI s)), some (.int (nI d)), some (.int (nI c)), some (.int (nI (dp tk j))), some (.int (nI (b + j))), some (.int (nI (tk j))), none, none, none]) 41 rfl d_Mod_isTrue_39 (by decide) rfl rfl ?_
        refine r_iload rfl 43 rfl d_Mod_isTrue_41 ?_
        refine r_iconst (nI 3) rfl 44 rfl d_Mod_isTrue_43 ?_
        refine r_icmp_ltN (tk j) 3 (by omega) (by omega) 47 152 rfl rfl d_Mod_isTrue_44 (fun h44 => ?_) (fun h44 => ?_)
        · refine r_iload rfl 154 rfl d_Mod_isTrue_152 ?_
          refine r_if_neN (tk j) (by omega) 157 186 rfl rfl d_Mod_isTrue_154 (fun h154 => ?_) (fun h154 => ?_)
          · have dp2 := okj.2.2.2 (by omega)
            refine r_iinc (ls2 := [some (.ref (a 0)), some (.int (nI p)), some (.int (nI q)), some (.int (nI s)), some (.int (nI d)), some (.int (nI c)), some (.int ((nI (dp tk j)) + Int32.ofInt (-1))), some (.int (nI (b + j))), some (.int (nI (tk j))), none, none, none]) ((nI (dp tk j)) + Int32.ofInt (-1)) rfl (rfl) 189 rfl d_Mod_isTrue_186 (by decide) rfl rfl ?_
            refine Runs.cast (ls' := [some (.ref (a 0)), some (.int (nI p)), some (.int (nI q)), some (.int (nI s)), some (.int (nI d)), some (.int (nI c)), some (.int (nI (dp tk j - 1))), some (.int (nI (b + j))), some (.int (nI (tk j))), none, none, none]) ?_ (by rw [dec1, pk_sub (by omega)]) rfl rfl
            refine r_aload_n rfl 190 rfl d_Mod_isTrue_189 ?_
            refine r_getf (v := .ref (a 22)) gf_Mod_48 0 rfl rfl 193 rfl d_Mod_isTrue_190 ?_
            refine r_iload rfl 195 rfl d_Mod_isTrue_193 ?_
            refine r_iconst (nI 1) rfl 196 rfl d_Mod_isTrue_195 ?_
            refine r_isub 197 rfl d_Mod_isTrue_196 ?_
            refine r_topi (nI (dp tk j - 2)) (pk_sub (a := dp tk j - 1) (b := 1) (by omega)) ?_
            refine r_iload rfl 199 rfl d_Mod_isTrue_197 ?_
            refine r_iconst (nI 1) rfl 200 rfl d_Mod_isTrue_199 ?_
            refine r_icmp_neN (tk j) 1 (by omega) (by omega) 203 233 rfl rfl d_Mod_isTrue_200 (fun h200 => ?_) (fun h200 => ?_)
            · refine r_aload_n rfl 234 rfl d_Mod_isTrue_233 ?_
              refine r_getf (v := .ref (a 22)) gf_Mod_48 0 rfl rfl 237 rfl d_Mod_isTrue_234 ?_
              refine r_iload rfl 239 rfl d_Mod_isTrue_237 ?_
              refine r_iconst (nI 1) rfl 240 rfl d_Mod_isTrue_239 ?_
              refine r_isub 241 rfl d_Mod_isTrue_240 ?_
              refine r_topi (nI (dp tk j - 2)) (pk_sub (a := dp tk j - 1) (b := 1) (by omega)) ?_
              refine r_zald 13 rfl (dp tk j - 2) rfl (by omega) (by omega) 242 rfl d_Mod_isTrue_241 ?_
              refine r_topi (bI (evS (tvF p q (σ 1 p) (σ 2 p) s d) tk j (dp tk j - 2))) (hst _ (by omega)) ?_
              refine r_if_neB 245 255 rfl rfl d_Mod_isTrue_242 (fun h242 => ?_) (fun h242 => ?_)
              · refine r_iconst (nI 1) rfl 256 rfl d_Mod_isTrue_255 ?_
                refine r_goto 260 rfl d_Mod_isTrue_256 ?_
                have hb : true = (if tk j = 1 then evS (tvF p q (σ 1 p) (σ 2 p) s d) tk j (dp tk j - 2) && evS (tvF p q (σ 1 p) (σ 2 p) s d) tk j (dp tk j - 1) else evS (tvF p q (σ 1 p) (σ 2 p) s d) tk j (dp tk j - 2) || evS (tvF p q (σ 1 p) (σ 2 p) s d) tk j (dp tk j - 1)) := by rw [if_neg h200]; simp [h242]
                refine r_topi (bI true) rfl ?_
                refine r_zast (w2 := MW X a ν (u2 (u2 σ 22 (st)) 22 (upd (st) (dp tk j - 2) (bI true))) τ) 13 rfl (dp tk j - 2) rfl (by omega) (by omega) (bI_01 _) rfl 261 rfl d_Mod_isTrue_260 ?_
                refine r_iinc (ls2 := [some (.ref (a 0)), some (.int (nI p)), some (.int (nI q)), some (.int (nI s)), some (.int (nI d)), some (.int (nI c)), some (.int (nI (dp tk j - 1))), some (.int (nI ((b + j) + 1))), some (.int (nI (tk j))), none, none, none]) (nI ((b + j) + 1)) rfl (nI_1 _) 264 rfl d_Mod_isTrue_261 (by decide) rfl rfl ?_
                refine r_goto 12 rfl d_Mod_isTrue_264 ?_
                refine r_forget (ls2 := [some (.ref (a 0)), some (.int (nI p)), some (.int (nI q)), some (.int (nI s)), some (.int (nI d)), some (.int (nI c)), some (.int (nI (dp tk j - 1))), some (.int (nI ((b + j) + 1))), none, none, none, none]) 8 rfl ?_
                refine Runs.cast (ih2 (j + 1) (upd (st) (dp tk j - 2) (bI true)) (by omega) (hold_a hst h44 h154 (okj.2.2.2 (by omega)) hb) (by omega)) (by rw [dp_a h44 h154]; try rfl) rfl (rfl)
              · refine r_aload_n rfl 246 rfl d_Mod_isTrue_245 ?_
                refine r_getf (v := .ref (a 22)) gf_Mod_48 0 rfl rfl 249 rfl d_Mod_isTrue_246 ?_
                refine r_iload rfl 251 rfl d_Mod_isTrue_249 ?_
                refine r_zald 13 rfl (dp tk j - 1) rfl (by omega) (by omega) 252 rfl d_Mod_isTrue_251 ?_
                refine r_topi (bI (evS (tvF p q (σ 1 p) (σ 2 p) s d) tk j (dp tk j - 1))) (hst _ (by omega)) ?_
                refine r_if_eqB 255 259 rfl rfl d_Mod_isTrue_252 (fun h252 => ?_) (fun h252 => ?_)
                · refine r_iconst (nI 0) rfl 260 rfl d_Mod_isTrue_259 ?_
                  have hb : false = (if tk j = 1 then evS (tvF p q (σ 1 p) (σ 2 p) s d) tk j (dp tk j - 2) && evS (tvF p q (σ 1 p) (σ 2 p) s d) tk j (dp tk j - 1) else evS (tvF p q (σ 1 p) (σ 2 p) s d) tk j (dp tk j - 2) || evS (tvF p q (σ 1 p) (σ 2 p) s d) tk j (dp tk j - 1)) := by rw [if_neg h200]; simp [h242, h252]
                  refine r_topi (bI false) rfl ?_
                  refine r_zast (w2 := MW X a ν (u2 (u2 σ 22 (st)) 22 (upd (st) (dp tk j - 2) (bI false))) τ) 13 rfl (dp tk j - 2) rfl (by omega) (by omega) (bI_01 _) rfl 261 rfl d_Mod_isTrue_260 ?_
                  refine r_iinc (ls2 := [some (.ref (a 0)), some (.int (nI p)), some (.int (nI q)), some (.int (nI s)), some (.int (nI d)), some (.int (nI c)), some (.int (nI (dp tk j - 1))), some (.int (nI ((b + j) + 1))), some (.int (nI (tk j))), none, none, none]) (nI ((b + j) + 1)) rfl (nI_1 _) 264 rfl d_Mod_isTrue_261 (by decide) rfl rfl ?_
                  refine r_goto 12 rfl d_Mod_isTrue_264 ?_
                  refine r_forget (ls2 := [some (.ref (a 0)), some (.int (nI p)), some (.int (nI q)), some (.int (nI s)), some (.int (nI d)), some (.int (nI c)), some (.int (nI (dp tk j - 1))), some (.int (nI ((b + j) + 1))), none, none, none, none]) 8 rfl ?_
                  refine Runs.cast (ih2 (j + 1) (upd (st) (dp tk j - 2) (bI false)) (by omega) (hold_a hst h44 h154 (okj.2.2.2 (by omega)) hb) (by omega)) (by rw [dp_a h44 h154]; try rfl) rfl (rfl)
                · refine r_iconst (nI 1) rfl 256 rfl d_Mod_isTrue_255 ?_
                  refine r_goto 260 rfl d_Mod_isTrue_256 ?_
                  have hb : true = (if tk j = 1 then evS (tvF p q (σ 1 p) (σ 2 p) s d) tk j (dp tk j - 2) && evS (tvF p q (σ 1 p) (σ 2 p) s d) tk j (dp tk j - 1) else evS (tvF p q (σ 1 p) (σ 2 p) s d) tk j (dp tk j - 2) || evS (tvF p q (σ 1 p) (σ 2 p) s d) tk j (dp tk j - 1)) := by rw [if_neg h200]; simp [h242, h252]
                  refine r_topi (bI true) rfl ?_
                  refine r_zast (w2 := MW X a ν (u2 (u2 σ 22 (st)) 22 (upd (st) (dp tk j - 2) (bI true))) τ) 13 rfl (dp tk j - 2) rfl (by omega) (by omega) (bI_01 _) rfl 261 rfl d_Mod_isTrue_260 ?_
                  refine r_iinc (ls2 := [some (.ref (a 0)), some (.int (nI p)), some (.int (nI q)), some (.int (nI s)), some (.int (nI d)), some (.int (nI c)), some (.int (nI (dp tk j - 1))), some (.int (nI ((b + j) + 1))), some (.int (nI (tk j))), none, none, none]) (nI ((b + j) + 1)) rfl (nI_1 _) 264 rfl d_Mod_isTrue_261 (by decide) rfl rfl ?_
                  refine r_goto 12 rfl d_Mod_isTrue_264 ?_
                  refine r_forget (ls2 := [some (.ref (a 0)), some (.int (nI p)), some (.int (nI q)), some (.int (nI s)), some (.int (nI d)), some (.int (nI c)), some (.int (nI (dp tk j - 1))), some (.int (nI ((b + j) + 1))), none, none, none, none]) 8 rfl ?_
                  refine Runs.cast (ih2 (j + 1) (upd (st) (dp tk j - 2) (bI true)) (by omega) (hold_a hst h44 h154 (okj.2.2.2 (by omega)) hb) (by omega)) (by rw [dp_a h44 h154]; try rfl) rfl (rfl)
            · refine r_aload_n rfl 204 rfl d_Mod_isTrue_203 ?_
              refine r_getf (v := .ref (a 22)) gf_Mod_48 0 rfl rfl 207 rfl d_Mod_isTrue_204 ?_
              refine r_iload rfl 209 rfl d_Mod_isTrue_207 ?_
              refine r_iconst (nI 1) rfl 210 rfl d_Mod_isTrue_209 ?_
              refine r_isub 211 rfl d_Mod_isTrue_210 ?_
              refine r_topi (nI (dp tk j - 2)) (pk_sub (a := dp tk j - 1) (b := 1) (by omega)) ?_
              refine r_zald 13 rfl (dp tk j - 2) rfl (by omega) (by omega) 212 rfl d_Mod_isTrue_211 ?_
              refine r_topi (bI (evS (tvF p q (σ 1 p) (σ 2 p) s d) tk j (dp tk j - 2))) (hst _ (by omega)) ?_
              refine r_if_eqB 215 229 rfl rfl d_Mod_isTrue_212 (fun h212 => ?_) (fun h212 => ?_)
              · refine r_iconst (nI 0) rfl 230 rfl d_Mod_isTrue_229 ?_
                refine r_goto 260 rfl d_Mod_isTrue_230 ?_
                have hb : false = (if tk j = 1 then evS (tvF p q (σ 1 p) (σ 2 p) s d) tk j (dp tk j - 2) && evS (tvF p q (σ 1 p) (σ 2 p) s d) tk j (dp tk j - 1) else evS (tvF p q (σ 1 p) (σ 2 p) s d) tk j (dp tk j - 2) || evS (tvF p q (σ 1 p) (σ 2 p) s d) tk j (dp tk j - 1)) := by rw [if_pos h200]; simp [h212]
                refine r_topi (bI false) rfl ?_
                refine r_zast (w2 := MW X a ν (u2 (u2 σ 22 (st)) 22 (upd (st) (dp tk j - 2) (bI false))) τ) 13 rfl (dp tk j - 2) rfl (by omega) (by omega) (bI_01 _) rfl 261 rfl d_Mod_isTrue_260 ?_
                refine r_iinc (ls2 := [some (.ref (a 0)), some (.int (nI p)), some (.int (nI q)), some (.int (nI s)), some (.int (nI d)), some (.int (nI c)), some (.int (nI (dp tk j - 1))), some (.int (nI ((b + j) + 1))), some (.int (nI (tk j))), none, none, none]) (nI ((b + j) + 1)) rfl (nI_1 _) 264 rfl d_Mod_isTrue_261 (by decide) rfl rfl ?_
                refine r_goto 12 rfl d_Mod_isTrue_264 ?_
                refine r_forget (ls2 := [some (.ref (a 0)), some (.int (nI p)), some (.int (nI q)), some (.int (nI s)), some (.int (nI d)), some (.int (nI c)), some (.int (nI (dp tk j - 1))), some (.int (nI ((b + j) + 1))), none, none, none, none]) 8 rfl ?_
                refine Runs.cast (ih2 (j + 1) (upd (st) (dp tk j - 2) (bI false)) (by omega) (hold_a hst h44 h154 (okj.2.2.2 (by omega)) hb) (by omega)) (by rw [dp_a h44 h154]; try rfl) rfl (rfl)
              · refine r_aload_n rfl 216 rfl d_Mod_isTrue_215 ?_
                refine r_getf (v := .ref (a 22)) gf_Mod_48 0 rfl rfl 219 rfl d_Mod_isTrue_216 ?_
                refine r_iload rfl 221 rfl d_Mod_isTrue_219 ?_
                refine r_zald 13 rfl (dp tk j - 1) rfl (by omega) (by omega) 222 rfl d_Mod_isTrue_221 ?_
                refine r_topi (bI (evS (tvF p q (σ 1 p) (σ 2 p) s d) tk j (dp tk j - 1))) (hst _ (by omega)) ?_
                refine r_if_eqB 225 229 rfl rfl d_Mod_isTrue_222 (fun h222 => ?_) (fun h222 => ?_)
                · refine r_iconst (nI 0) rfl 230 rfl d_Mod_isTrue_229 ?_
                  refine r_goto 260 rfl d_Mod_isTrue_230 ?_
                  have hb : false = (if tk j = 1 then evS (tvF p q (σ 1 p) (σ 2 p) s d) tk j (dp tk j - 2) && evS (tvF p q (σ 1 p) (σ 2 p) s d) tk j (dp tk j - 1) else evS (tvF p q (σ 1 p) (σ 2 p) s d) tk j (dp tk j - 2) || evS (tvF p q (σ 1 p) (σ 2 p) s d) tk j (dp tk j - 1)) := by rw [if_pos h200]; simp [h212, h222]
                  refine r_topi (bI false) rfl ?_
                  refine r_zast (w2 := MW X a ν (u2 (u2 σ 22 (st)) 22 (upd (st) (dp tk j - 2) (bI false))) τ) 13 rfl (dp tk j - 2) rfl (by omega) (by omega) (bI_01 _) rfl 261 rfl d_Mod_isTrue_260 ?_
                  refine r_iinc (ls2 := [some (.ref (a 0)), some (.int (nI p)), some (.int (nI q)), some (.int (nI s)), some (.int (nI d)), some (.int (nI c)), some (.int (nI (dp tk j - 1))), some (.int (nI ((b + j) + 1))), some (.int (nI (tk j))), none, none, none]) (nI ((b + j) + 1)) rfl (nI_1 _) 264 rfl d_Mod_isTrue_261 (by decide) rfl rfl ?_
                  refine r_goto 12 rfl d_Mod_isTrue_264 ?_
                  refine r_forget (ls2 := [some (.ref (a 0)), some (.int (nI p)), some (.int (nI q)), some (.int (nI s)), some (.int (nI d)), some (.int (nI c)), some (.int (nI (dp tk j - 1))), some (.int (nI ((b + j) + 1))), none, none, none, none]) 8 rfl ?_
                  refine Runs.cast (ih2 (j + 1) (upd (st) (dp tk j - 2) (bI false)) (by omega) (hold_a hst h44 h154 (okj.2.2.2 (by omega)) hb) (by omega)) (by rw [dp_a h44 h154]; try rfl) rfl (rfl)
                · refine r_iconst (nI 1) rfl 226 rfl d_Mod_isTrue_225 ?_
                  refine r_goto 260 rfl d_Mod_isTrue_226 ?_
                  have hb : true = (if tk j = 1 then evS (tvF p q (σ 1 p) (σ 2 p) s d) tk j (dp tk j - 2) && evS (tvF p q (σ 1 p) (σ 2 p) s d) tk j (dp tk j - 1) else evS (tvF p q (σ 1 p) (σ 2 p) s d) tk j (dp tk j - 2) || evS (tvF p q (σ 1 p) (σ 2 p) s d) tk j (dp tk j - 1)) := by rw [if_pos h200]; simp [h212, h222]
                  refine r_topi (bI true) rfl ?_
                  refine r_zast (w2 := MW X a ν (u2 (u2 σ 22 (st)) 22 (upd (st) (dp tk j - 2) (bI true))) τ) 13 rfl (dp tk j - 2) rfl (by omega) (by omega) (bI_01 _) rfl 261 rfl d_Mod_isTrue_260 ?_
                  refine r_iinc (ls2 := [some (.ref (a 0)), some (.int (nI p)), some (.int (nI q)), some (.int (nI s)), some (.int (nI d)), some (.int (nI c)), some (.int (nI (dp tk j - 1))), some (.int (nI ((b + j) + 1))), some (.int (nI (tk j))), none, none, none]) (nI ((b + j) + 1)) rfl (nI_1 _) 264 rfl d_Mod_isTrue_261 (by decide) rfl rfl ?_
                  refine r_goto 12 rfl d_Mod_isTrue_264 ?_
                  refine r_forget (ls2 := [some (.ref (a 0)), some (.int (nI p)), some (.int (nI q)), some (.int (nI s)), some (.int (nI d)), some (.int (nI c)), some (.int (nI (dp tk j - 1))), some (.int (nI ((b + j) + 1))), none, none, none, none]) 8 rfl ?_
                  refine Runs.cast (ih2 (j + 1) (upd (st) (dp tk j - 2) (bI true)) (by omega) (hold_a hst h44 h154 (okj.2.2.2 (by omega)) hb) (by omega)) (by rw [dp_a h44 h154]; try rfl) rfl (rfl)
          · refine r_aload_n rfl 158 rfl d_Mod_isTrue_157 ?_
            refine r_getf (v := .ref (a 22)) gf_Mod_48 0 rfl rfl 161 rfl d_Mod_isTrue_158 ?_
            refine r_iload rfl 163 rfl d_Mod_isTrue_161 ?_
            refine r_iconst (nI 1) rfl 164 rfl d_Mod_isTrue_163 ?_
            refine r_isub 165 rfl d_Mod_isTrue_164 ?_
            have dp1 := okj.2.2.1 h154
            refine r_topi (nI (dp tk j - 1)) (pk_sub dp1) ?_
            refine r_aload_n rfl 166 rfl d_Mod_isTrue_165 ?_
            refine r_getf (v := .ref (a 22)) gf_Mod_48 0 rfl rfl 169 rfl d_Mod_isTrue_166 ?_
            refine r_iload rfl 171 rfl d_Mod_isTrue_169 ?_
            refine r_iconst (nI 1) rfl 172 rfl d_Mod_isTrue_171 ?_
            refine r_isub 173 rfl d_Mod_isTrue_172 ?_
            refine r_topi (nI (dp tk j - 1)) (pk_sub dp1) ?_
            refine r_zald 13 rfl (dp tk j - 1) rfl (by omega) (by omega) 174 rfl d_Mod_isTrue_173 ?_
            refine r_topi (bI (evS (tvF p q (σ 1 p) (σ 2 p) s d) tk j (dp tk j - 1))) (hst _ (by omega)) ?_
            refine r_if_neB 177 181 rfl rfl d_Mod_isTrue_174 (fun h174 => ?_) (fun h174 => ?_)
            · refine r_iconst (nI 0) rfl 182 rfl d_Mod_isTrue_181 ?_
              refine r_topi (bI (!evS (tvF p q (σ 1 p) (σ 2 p) s d) tk j (dp tk j - 1))) (by rw [h174]; rfl) ?_
              refine r_zast (w2 := MW X a ν (u2 (u2 σ 22 (st)) 22 (upd (st) (dp tk j - 1) (bI (!evS (tvF p q (σ 1 p) (σ 2 p) s d) tk j (dp tk j - 1))))) τ) 13 rfl (dp tk j - 1) rfl (by omega) (by omega) (bI_01 _) rfl 183 rfl d_Mod_isTrue_182 ?_
              refine r_goto 261 rfl d_Mod_isTrue_183 ?_
              refine r_iinc (ls2 := [some (.ref (a 0)), some (.int (nI p)), some (.int (nI q)), some (.int (nI s)), some (.int (nI d)), some (.int (nI c)), some (.int (nI (dp tk j))), some (.int (nI ((b + j) + 1))), some (.int (nI (tk j))), none, none, none]) (nI ((b + j) + 1)) rfl (nI_1 _) 264 rfl d_Mod_isTrue_261 (by decide) rfl rfl ?_
              refine r_goto 12 rfl d_Mod_isTrue_264 ?_
              refine r_forget (ls2 := [some (.ref (a 0)), some (.int (nI p)), some (.int (nI q)), some (.int (nI s)), some (.int (nI d)), some (.int (nI c)), some (.int (nI (dp tk j))), some (.int (nI ((b + j) + 1))), none, none, none, none]) 8 rfl ?_
              refine Runs.cast (ih2 (j + 1) (upd (st) (dp tk j - 1) (bI (!evS (tvF p q (σ 1 p) (σ 2 p) s d) tk j (dp tk j - 1)))) (by omega) (hold_n hst h154) (by omega)) (by rw [dp_n h154]; try rfl) rfl (by rw [u2_u2]; try rfl)
            · refine r_iconst (nI 1) rfl 178 rfl d_Mod_isTrue_177 ?_
              refine r_goto 182 rfl d_Mod_isTrue_178 ?_
              refine r_topi (bI (!evS (tvF p q (σ 1 p) (σ 2 p) s d) tk j (dp tk j - 1))) (by rw [h174]; rfl) ?_
              refine r_zast (w2 := MW X a ν (u2 (u2 σ 22 (st)) 22 (upd (st) (dp tk j - 1) (bI (!evS (tvF p q (σ 1 p) (σ 2 p) s d) tk j (dp tk j - 1))))) τ) 13 rfl (dp tk j - 1) rfl (by omega) (by omega) (bI_01 _) rfl 183 rfl d_Mod_isTrue_182 ?_
              refine r_goto 261 rfl d_Mod_isTrue_183 ?_
              refine r_iinc (ls2 := [some (.ref (a 0)), some (.int (nI p)), some (.int (nI q)), some (.int (nI s)), some (.int (nI d)), some (.int (nI c)), some (.int (nI (dp tk j))), some (.int (nI ((b + j) + 1))), some (.int (nI (tk j))), none, none, none]) (nI ((b + j) + 1)) rfl (nI_1 _) 264 rfl d_Mod_isTrue_261 (by decide) rfl rfl ?_
              refine r_goto 12 rfl d_Mod_isTrue_264 ?_
              refine r_forget (ls2 := [some (.ref (a 0)), some (.int (nI p)), some (.int (nI q)), some (.int (nI s)), some (.int (nI d)), some (.int (nI c)), some (.int (nI (dp tk j))), some (.int (nI ((b + j) + 1))), none, none, none, none]) 8 rfl ?_
              refine Runs.cast (ih2 (j + 1) (upd (st) (dp tk j - 1) (bI (!evS (tvF p q (σ 1 p) (σ 2 p) s d) tk j (dp tk j - 1)))) (by omega) (hold_n hst h154) (by omega)) (by rw [dp_n h154]; try rfl) rfl (by rw [u2_u2]; try rfl)
        · refine r_aload_n rfl 48 rfl d_Mod_isTrue_47 ?_
          refine r_iload_n rfl 49 rfl d_Mod_isTrue_48 ?_
          refine r_iload_n rfl 50 rfl d_Mod_isTrue_49 ?_
          refine r_iload_n rfl 51 rfl d_Mod_isTrue_50 ?_
          refine r_iload rfl 53 rfl d_Mod_isTrue_51 ?_
          refine r_iload rfl 55 rfl d_Mod_isTrue_53 ?_
          refine r_iconst (nI 3) rfl 56 rfl d_Mod_isTrue_55 ?_
          refine r_isub 57 rfl d_Mod_isTrue_56 ?_
          refine r_topi (nI (tk j - 3)) (pk_sub h44) ?_
          refine r_sipush (nI 300) rfl 60 rfl d_Mod_isTrue_57 ?_
          refine r_idiv (by decide) 61 rfl d_Mod_isTrue_60 ?_
          refine r_topi (nI ((tk j - 3) / 300)) (pk_div (by omega) (by omega) (by omega)) ?_
          refine r_callVA1 (st2 := [.int (letV p q (σ 1 p) (σ 2 p) s d ((tk j - 3) / 300))]) (w2 := MW X a ν (u2 σ 22 (st)) τ) lk_Mod_letterOf ln_Mod_222 (c_Mod_letterOf X a ν (u2 σ 22 (st)) τ p q s d hp hq hs hd ((tk j - 3) / 300) (by omega)) (by first | decide | omega) rfl rfl (Nat.le_of_ble_eq_true rfl) (Nat.le_of_ble_eq_true rfl) (Nat.le_of_ble_eq_true rfl) 0 rfl rfl rfl rfl 64 rfl d_Mod_isTrue_61 ?_
          refine r_istore (ls2 := [some (.ref (a 0)), some (.int (nI p)), some (.int (nI q)), some (.int (nI s)), some (.int (nI d)), some (.int (nI c)), some (.int (nI (dp tk j))), some (.int (nI (b + j))), some (.int (nI (tk j))), some (.int (letV p q (σ 1 p) (σ 2 p) s d ((tk j - 3) / 300))), none, none]) 66 rfl d_Mod_isTrue_64 (by decide) rfl rfl ?_
          refine r_iload rfl 68 rfl d_Mod_isTrue_66 ?_
          refine r_iconst (nI 3) rfl 69 rfl d_Mod_isTrue_68 ?_
          refine r_isub 70 rfl d_Mod_isTrue_69 ?_
          refine r_topi (nI (tk j - 3)) (pk_sub h44) ?_
          refine r_bipush (nI 100) rfl 72 rfl d_Mod_isTrue_70 ?_
          refine r_irem (by decide) 73 rfl d_Mod_isTrue_72 ?_
          refine r_topi (nI ((tk j - 3) % 100)) (pk_rem (by omega) (by omega) (by omega)) ?_
          refine r_istore (ls2 := [some (.ref (a 0)), some (.int (nI p)), some (.int (nI q)), some (.int (nI s)), some (.int (nI d)), some (.int (nI c)), some (.int (nI (dp tk j))), some (.int (nI (b + j))), some (.int (nI (tk j))), some (.int (letV p q (σ 1 p) (σ 2 p) s d ((tk j - 3) / 300))), some (.int (nI ((tk j - 3) % 100))), none]) 75 rfl d_Mod_isTrue_73 (by decide) rfl rfl ?_
          refine r_iload rfl 77 rfl d_Mod_isTrue_75 ?_
          refine r_iconst (nI 3) rfl 78 rfl d_Mod_isTrue_77 ?_
          refine r_isub 79 rfl d_Mod_isTrue_78 ?_
          refine r_topi (nI (tk j - 3)) (pk_sub h44) ?_
          refine r_bipush (nI 100) rfl 81 rfl d_Mod_isTrue_79 ?_
          refine r_idiv (by decide) 82 rfl d_Mod_isTrue_81 ?_
          refine r_topi (nI ((tk j - 3) / 100)) (pk_div (by omega) (by omega) (by omega)) ?_
          refine r_iconst (nI 3) rfl 83 rfl d_Mod_isTrue_82 ?_
          refine r_irem (by decide) 84 rfl d_Mod_isTrue_83 ?_
          refine r_topi (nI ((tk j - 3) / 100 % 3)) (pk_rem (by omega) (by omega) (by omega)) ?_
          refine r_istore (ls2 := [some (.ref (a 0)), some (.int (nI p)), some (.int (nI q)), some (.int (nI s)), some (.int (nI d)), some (.int (nI c)), some (.int (nI (dp tk j))), some (.int (nI (b + j))), some (.int (nI (tk j))), some (.int (letV p q (σ 1 p) (σ 2 p) s d ((tk j - 3) / 300))), some (.int (nI ((tk j - 3) % 100))), some (.int (nI ((tk j - 3) / 100 % 3)))]) 86 rfl d_Mod_isTrue_84 (by decide) rfl rfl ?_
          have J148_3 : Runs X 2 M_Mod_isTrue 0 0 Q 148 [some (.ref (a 0)), some (.int (nI p)), some (.int (nI q)), some (.int (nI s)), some (.int (nI d)), some (.int (nI c)), some (.int (nI (dp tk j + 1))), some (.int (nI (b + j))), some (.int (nI (tk j))), some (.int (letV p q (σ 1 p) (σ 2 p) s d ((tk j - 3) / 300))), some (.int (nI ((tk j - 3) % 100))), some (.int (nI ((tk j - 3) / 100 % 3)))] [.int (bI ((tvF p q (σ 1 p) (σ 2 p) s d) (tk j))), .int (nI (dp tk j)), .ref (a 22)] 0 0 (MW X a ν (u2 σ 22 (st)) τ) := by
            refine r_zast (w2 := MW X a ν (u2 (u2 σ 22 (st)) 22 (upd (st) (dp tk j) (bI ((tvF p q (σ 1 p) (σ 2 p) s d) (tk j))))) τ) 13 rfl (dp tk j) rfl (by omega) (by omega) (bI_01 _) rfl 149 rfl d_Mod_isTrue_148 ?_
            refine r_goto 261 rfl d_Mod_isTrue_149 ?_
            refine r_iinc (ls2 := [some (.ref (a 0)), some (.int (nI p)), some (.int (nI q)), some (.int (nI s)), some (.int (nI d)), some (.int (nI c)), some (.int (nI (dp tk j + 1))), some (.int (nI ((b + j) + 1))), some (.int (nI (tk j))), some (.int (letV p q (σ 1 p) (σ 2 p) s d ((tk j - 3) / 300))), some (.int (nI ((tk j - 3) % 100))), some (.int (nI ((tk j - 3) / 100 % 3)))]) (nI ((b + j) + 1)) rfl (nI_1 _) 264 rfl d_Mod_isTrue_261 (by decide) rfl rfl ?_
            refine r_goto 12 rfl d_Mod_isTrue_264 ?_
            refine r_forget (ls2 := [some (.ref (a 0)), some (.int (nI p)), some (.int (nI q)), some (.int (nI s)), some (.int (nI d)), some (.int (nI c)), some (.int (nI (dp tk j + 1))), some (.int (nI ((b + j) + 1))), none, some (.int (letV p q (σ 1 p) (σ 2 p) s d ((tk j - 3) / 300))), some (.int (nI ((tk j - 3) % 100))), some (.int (nI ((tk j - 3) / 100 % 3)))]) 8 rfl ?_
            refine r_forget (ls2 := [some (.ref (a 0)), some (.int (nI p)), some (.int (nI q)), some (.int (nI s)), some (.int (nI d)), some (.int (nI c)), some (.int (nI (dp tk j + 1))), some (.int (nI ((b + j) + 1))), none, none, some (.int (nI ((tk j - 3) % 100))), some (.int (nI ((tk j - 3) / 100 % 3)))]) 9 rfl ?_
            refine r_forget (ls2 := [some (.ref (a 0)), some (.int (nI p)), some (.int (nI q)), some (.int (nI s)), some (.int (nI d)), some (.int (nI c)), some (.int (nI (dp tk j + 1))), some (.int (nI ((b + j) + 1))), none, none, none, some (.int (nI ((tk j - 3) / 100 % 3)))]) 10 rfl ?_
            refine r_forget (ls2 := [some (.ref (a 0)), some (.int (nI p)), some (.int (nI q)), some (.int (nI s)), some (.int (nI d)), some (.int (nI c)), some (.int (nI (dp tk j + 1))), some (.int (nI ((b + j) + 1))), none, none, none, none]) 11 rfl ?_
            refine Runs.cast (ih2 (j + 1) (upd (st) (dp tk j) (bI ((tvF p q (σ 1 p) (σ 2 p) s d) (tk j)))) (by omega) (hold_t hst h44) (by omega)) (by rw [dp_t h44]; try rfl) rfl (by rw [u2_u2]; try rfl)
          refine r_aload_n rfl 87 rfl d_Mod_isTrue_86 ?_
          refine r_getf (v := .ref (a 22)) gf_Mod_48 0 rfl rfl 90 rfl d_Mod_isTrue_87 ?_
          refine r_iload rfl 92 rfl d_Mod_isTrue_90 ?_
          refine r_iinc (ls2 := [some (.ref (a 0)), some (.int (nI p)), some (.int (nI q)), some (.int (nI s)), some (.int (nI d)), some (.int (nI c)), some (.int (nI ((dp tk j) + 1))), some (.int (nI (b + j))), some (.int (nI (tk j))), some (.int (letV p q (σ 1 p) (σ 2 p) s d ((tk j - 3) / 300))), some (.int (nI ((tk j - 3) % 100))), some (.int (nI ((tk j - 3) / 100 % 3)))]) (nI ((dp tk j) + 1)) rfl (nI_1 _) 95 rfl d_Mod_isTrue_92 (by decide) rfl rfl ?_
          refine r_iload rfl 97 rfl d_Mod_isTrue_95 ?_
          refine r_if_neN ((tk j - 3) / 100 % 3) (by omega) 100 115 rfl rfl d_Mod_isTrue_97 (fun h97 => ?_) (fun h97 => ?_)
          · refine r_iload rfl 117 rfl d_Mod_isTrue_115 ?_
            refine r_iconst (nI 1) rfl 118 rfl d_Mod_isTrue_117 ?_
            refine r_icmp_neN ((tk j - 3) / 100 % 3) 1 (by omega) (by omega) 121 136 rfl rfl d_Mod_isTrue_118 (fun h118 => ?_) (fun h118 => ?_)
            · refine r_iload rfl 138 rfl d_Mod_isTrue_136 ?_
              refine r_iload rfl 140 rfl d_Mod_isTrue_138 ?_
              refine r_icmp_le 143 147 rfl rfl d_Mod_isTrue_140 (fun h140 => ?_) (fun h140 => ?_)
              · refine r_iconst (nI 0) rfl 148 rfl d_Mod_isTrue_147 ?_
                refine r_topi (bI ((tvF p q (σ 1 p) (σ 2 p) s d) (tk j))) (by rw [show (tvF p q (σ 1 p) (σ 2 p) s d) (tk j) = false from by rw [tvF, if_neg h97, if_neg h118]; simp only [decide_eq_false_iff_not]; exact Int32.not_lt.mpr h140]; rfl) ?_
                exact J148_3  
              · refine r_iconst (nI 1) rfl 144 rfl d_Mod_isTrue_143 ?_
                refine r_goto 148 rfl d_Mod_isTrue_144 ?_
                refine r_topi (bI ((tvF p q (σ 1 p) (σ 2 p) s d) (tk j))) (by rw [show (tvF p q (σ 1 p) (σ 2 p) s d) (tk j) = true from by rw [tvF, if_neg h97, if_neg h118]; simp only [decide_eq_true_eq]; exact Int32.not_le.mp h140]; rfl) ?_
                exact J148_3  
            · refine r_iload rfl 123 rfl d_Mod_isTrue_121 ?_
              refine r_iload rfl 125 rfl d_Mod_isTrue_123 ?_
              refine r_icmp_ne 128 132 rfl rfl d_Mod_isTrue_125 (fun h125 => ?_) (fun h125 => ?_)
              · refine r_iconst (nI 0) rfl 133 rfl d_Mod_isTrue_132 ?_
                refine r_goto 148 rfl d_Mod_isTrue_133 ?_
                refine r_topi (bI ((tvF p q (σ 1 p) (σ 2 p) s d) (tk j))) (by rw [show (tvF p q (σ 1 p) (σ 2 p) s d) (tk j) = false from by rw [tvF, if_neg h97, if_pos h118]; simp only [decide_eq_false_iff_not]; exact h125]; rfl) ?_
                exact J148_3  
              · refine r_iconst (nI 1) rfl 129 rfl d_Mod_isTrue_128 ?_
                refine r_goto 148 rfl d_Mod_isTrue_129 ?_
                refine r_topi (bI ((tvF p q (σ 1 p) (σ 2 p) s d) (tk j))) (by rw [show (tvF p q (σ 1 p) (σ 2 p) s d) (tk j) = true from by rw [tvF, if_neg h97, if_pos h118]; simp only [decide_eq_true_eq]; exact h125]; rfl) ?_
                exact J148_3  
          · refine r_iload rfl 102 rfl d_Mod_isTrue_100 ?_
            refine r_iload rfl 104 rfl d_Mod_isTrue_102 ?_
            refine r_icmp_ge 107 111 rfl rfl d_Mod_isTrue_104 (fun h104 => ?_) (fun h104 => ?_)
            · refine r_iconst (nI 0) rfl 112 rfl d_Mod_isTrue_111 ?_
              refine r_goto 148 rfl d_Mod_isTrue_112 ?_
              refine r_topi (bI ((tvF p q (σ 1 p) (σ 2 p) s d) (tk j))) (by rw [show (tvF p q (σ 1 p) (σ 2 p) s d) (tk j) = false from by rw [tvF, if_pos h97]; simp only [decide_eq_false_iff_not]; exact Int32.not_lt.mpr h104]; rfl) ?_
              exact J148_3  
            · refine r_iconst (nI 1) rfl 108 rfl d_Mod_isTrue_107 ?_
              refine r_goto 148 rfl d_Mod_isTrue_108 ?_
              refine r_topi (bI ((tvF p q (σ 1 p) (σ 2 p) s d) (tk j))) (by rw [show (tvF p q (σ 1 p) (σ 2 p) s d) (tk j) = true from by rw [tvF, if_pos h97]; simp only [decide_eq_true_eq]; exact Int32.not_le.mp h104]; rfl) ?_
              exact J148_3  
  refine Runs.cast (L12_1 _ 0 (σ 22) (Nat.zero_le _) (fun k hk => absurd hk (Nat.not_lt_zero _)) (Nat.lt_succ_self _)) (rfl) rfl (by rw [u2_self])
