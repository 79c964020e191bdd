def M_Mod_keep : XM := (⟨"HandshakeBindsModel", "keep", "([I)V"⟩, prog_11_method_63_code, 3, none)
theorem d_Mod_keep_0 : decode M_Mod_keep.2.1 0 = .ok (.iconst 0, 1) := by decide +kernel
theorem d_Mod_keep_1 : decode M_Mod_keep.2.1 1 = .ok (.istore_n 2, 1) := by decide +kernel
theorem d_Mod_keep_2 : decode M_Mod_keep.2.1 2 = .ok (.iload_n 2, 1) := by decide +kernel
theorem d_Mod_keep_3 : decode M_Mod_keep.2.1 3 = .ok (.bipush 6, 2) := by decide +kernel
theorem d_Mod_keep_5 : decode M_Mod_keep.2.1 5 = .ok (.if_icmp .ge 42, 3) := by decide +kernel
theorem d_Mod_keep_47 : decode M_Mod_keep.2.1 47 = .ok (.iconst 0, 1) := by decide +kernel
theorem d_Mod_keep_48 : decode M_Mod_keep.2.1 48 = .ok (.istore_n 2, 1) := by decide +kernel
theorem d_Mod_keep_49 : decode M_Mod_keep.2.1 49 = .ok (.iload_n 2, 1) := by decide +kernel
theorem d_Mod_keep_50 : decode M_Mod_keep.2.1 50 = .ok (.bipush 24, 2) := by decide +kernel
theorem d_Mod_keep_52 : decode M_Mod_keep.2.1 52 = .ok (.if_icmp .ge 21, 3) := by decide +kernel
theorem d_Mod_keep_73 : decode M_Mod_keep.2.1 73 = .ok (.iconst 0, 1) := by decide +kernel
theorem d_Mod_keep_74 : decode M_Mod_keep.2.1 74 = .ok (.istore_n 2, 1) := by decide +kernel
theorem d_Mod_keep_75 : decode M_Mod_keep.2.1 75 = .ok (.iload_n 2, 1) := by decide +kernel
theorem d_Mod_keep_76 : decode M_Mod_keep.2.1 76 = .ok (.bipush 36, 2) := by decide +kernel
theorem d_Mod_keep_78 : decode M_Mod_keep.2.1 78 = .ok (.if_icmp .ge 21, 3) := by decide +kernel
theorem d_Mod_keep_99 : decode M_Mod_keep.2.1 99 = .ok (.iconst 0, 1) := by decide +kernel
theorem d_Mod_keep_100 : decode M_Mod_keep.2.1 100 = .ok (.istore_n 2, 1) := by decide +kernel
theorem d_Mod_keep_101 : decode M_Mod_keep.2.1 101 = .ok (.iload_n 2, 1) := by decide +kernel
theorem d_Mod_keep_102 : decode M_Mod_keep.2.1 102 = .ok (.iconst 5, 1) := by decide +kernel
theorem d_Mod_keep_103 : decode M_Mod_keep.2.1 103 = .ok (.if_icmp .ge 69, 3) := by decide +kernel
theorem d_Mod_keep_172 : decode M_Mod_keep.2.1 172 = .ok (.iconst 0, 1) := by decide +kernel
theorem d_Mod_keep_173 : decode M_Mod_keep.2.1 173 = .ok (.istore_n 2, 1) := by decide +kernel
theorem d_Mod_keep_174 : decode M_Mod_keep.2.1 174 = .ok (.iload_n 2, 1) := by decide +kernel
theorem d_Mod_keep_175 : decode M_Mod_keep.2.1 175 = .ok (.bipush 10, 2) := by decide +kernel
theorem d_Mod_keep_177 : decode M_Mod_keep.2.1 177 = .ok (.if_icmp .ge 33, 3) := by decide +kernel
theorem d_Mod_keep_210 : decode M_Mod_keep.2.1 210 = .ok (.iconst 0, 1) := by decide +kernel
theorem d_Mod_keep_211 : decode M_Mod_keep.2.1 211 = .ok (.istore_n 2, 1) := by decide +kernel
theorem d_Mod_keep_212 : decode M_Mod_keep.2.1 212 = .ok (.iload_n 2, 1) := by decide +kernel
theorem d_Mod_keep_213 : decode M_Mod_keep.2.1 213 = .ok (.bipush 8, 2) := by decide +kernel
theorem d_Mod_keep_215 : decode M_Mod_keep.2.1 215 = .ok (.if_icmp .ge 47, 3) := by decide +kernel
theorem d_Mod_keep_262 : decode M_Mod_keep.2.1 262 = .ok (.aload_n 1, 1) := by decide +kernel
theorem d_Mod_keep_263 : decode M_Mod_keep.2.1 263 = .ok (.sipush 147, 3) := by decide +kernel
theorem d_Mod_keep_266 : decode M_Mod_keep.2.1 266 = .ok (.aload_n 0, 1) := by decide +kernel
theorem d_Mod_keep_267 : decode M_Mod_keep.2.1 267 = .ok (.getfield 111, 3) := by decide +kernel
theorem d_Mod_keep_270 : decode M_Mod_keep.2.1 270 = .ok (.iastore, 1) := by decide +kernel
theorem d_Mod_keep_271 : decode M_Mod_keep.2.1 271 = .ok (.aload_n 1, 1) := by decide +kernel
theorem d_Mod_keep_272 : decode M_Mod_keep.2.1 272 = .ok (.sipush 148, 3) := by decide +kernel
theorem d_Mod_keep_275 : decode M_Mod_keep.2.1 275 = .ok (.aload_n 0, 1) := by decide +kernel
theorem d_Mod_keep_276 : decode M_Mod_keep.2.1 276 = .ok (.getfield 240, 3) := by decide +kernel
theorem gf_Mod_240 : GF "HandshakeBindsModel" 240 9 6 := ⟨_, _, _, rfl, by decide, i_Mod, inTB 856 (by decide +kernel) rfl⟩
theorem d_Mod_keep_279 : decode M_Mod_keep.2.1 279 = .ok (.iastore, 1) := by decide +kernel
theorem d_Mod_keep_280 : decode M_Mod_keep.2.1 280 = .ok (.aload_n 1, 1) := by decide +kernel
theorem d_Mod_keep_281 : decode M_Mod_keep.2.1 281 = .ok (.sipush 149, 3) := by decide +kernel
theorem d_Mod_keep_284 : decode M_Mod_keep.2.1 284 = .ok (.aload_n 0, 1) := by decide +kernel
theorem d_Mod_keep_285 : decode M_Mod_keep.2.1 285 = .ok (.getfield 297, 3) := by decide +kernel
theorem gf_Mod_297 : GF "HandshakeBindsModel" 297 9 23 := ⟨_, _, _, rfl, by decide, i_Mod, inTB 873 (by decide +kernel) rfl⟩
theorem d_Mod_keep_288 : decode M_Mod_keep.2.1 288 = .ok (.iastore, 1) := by decide +kernel
theorem d_Mod_keep_289 : decode M_Mod_keep.2.1 289 = .ok (.aload_n 1, 1) := by decide +kernel
theorem d_Mod_keep_290 : decode M_Mod_keep.2.1 290 = .ok (.sipush 150, 3) := by decide +kernel
theorem d_Mod_keep_293 : decode M_Mod_keep.2.1 293 = .ok (.aload_n 0, 1) := by decide +kernel
theorem d_Mod_keep_294 : decode M_Mod_keep.2.1 294 = .ok (.getfield 312, 3) := by decide +kernel
theorem gf_Mod_312 : GF "HandshakeBindsModel" 312 9 29 := ⟨_, _, _, rfl, by decide, i_Mod, inTB 879 (by decide +kernel) rfl⟩
theorem d_Mod_keep_297 : decode M_Mod_keep.2.1 297 = .ok (.iastore, 1) := by decide +kernel
theorem d_Mod_keep_298 : decode M_Mod_keep.2.1 298 = .ok (.aload_n 1, 1) := by decide +kernel
theorem d_Mod_keep_299 : decode M_Mod_keep.2.1 299 = .ok (.sipush 151, 3) := by decide +kernel
theorem d_Mod_keep_302 : decode M_Mod_keep.2.1 302 = .ok (.aload_n 0, 1) := by decide +kernel
theorem d_Mod_keep_303 : decode M_Mod_keep.2.1 303 = .ok (.getfield 319, 3) := by decide +kernel
theorem gf_Mod_319 : GF "HandshakeBindsModel" 319 9 32 := ⟨_, _, _, rfl, by decide, i_Mod, inTB 882 (by decide +kernel) rfl⟩
theorem d_Mod_keep_306 : decode M_Mod_keep.2.1 306 = .ok (.iastore, 1) := by decide +kernel
theorem d_Mod_keep_307 : decode M_Mod_keep.2.1 307 = .ok (.aload_n 1, 1) := by decide +kernel
theorem d_Mod_keep_308 : decode M_Mod_keep.2.1 308 = .ok (.sipush 152, 3) := by decide +kernel
theorem d_Mod_keep_311 : decode M_Mod_keep.2.1 311 = .ok (.aload_n 0, 1) := by decide +kernel
theorem d_Mod_keep_312 : decode M_Mod_keep.2.1 312 = .ok (.getfield 107, 3) := by decide +kernel
theorem gf_Mod_107 : GF "HandshakeBindsModel" 107 9 14 := ⟨_, _, _, rfl, by decide, i_Mod, inTB 864 (by decide +kernel) rfl⟩
theorem d_Mod_keep_315 : decode M_Mod_keep.2.1 315 = .ok (.iastore, 1) := by decide +kernel
theorem d_Mod_keep_316 : decode M_Mod_keep.2.1 316 = .ok (.return_, 1) := by decide +kernel
theorem d_Mod_keep_218 : decode M_Mod_keep.2.1 218 = .ok (.aload_n 1, 1) := by decide +kernel
theorem d_Mod_keep_219 : decode M_Mod_keep.2.1 219 = .ok (.bipush 123, 2) := by decide +kernel
theorem d_Mod_keep_221 : decode M_Mod_keep.2.1 221 = .ok (.iload_n 2, 1) := by decide +kernel
theorem d_Mod_keep_222 : decode M_Mod_keep.2.1 222 = .ok (.iadd, 1) := by decide +kernel
theorem d_Mod_keep_223 : decode M_Mod_keep.2.1 223 = .ok (.aload_n 0, 1) := by decide +kernel
theorem d_Mod_keep_224 : decode M_Mod_keep.2.1 224 = .ok (.getfield 73, 3) := by decide +kernel
theorem gf_Mod_73 : GF "HandshakeBindsModel" 73 9 33 := ⟨_, _, _, rfl, by decide, i_Mod, inTB 883 (by decide +kernel) rfl⟩
theorem d_Mod_keep_227 : decode M_Mod_keep.2.1 227 = .ok (.iload_n 2, 1) := by decide +kernel
theorem d_Mod_keep_228 : decode M_Mod_keep.2.1 228 = .ok (.iaload, 1) := by decide +kernel
theorem d_Mod_keep_229 : decode M_Mod_keep.2.1 229 = .ok (.iastore, 1) := by decide +kernel
theorem d_Mod_keep_230 : decode M_Mod_keep.2.1 230 = .ok (.aload_n 1, 1) := by decide +kernel
theorem d_Mod_keep_231 : decode M_Mod_keep.2.1 231 = .ok (.sipush 131, 3) := by decide +kernel
theorem d_Mod_keep_234 : decode M_Mod_keep.2.1 234 = .ok (.iload_n 2, 1) := by decide +kernel
theorem d_Mod_keep_235 : decode M_Mod_keep.2.1 235 = .ok (.iadd, 1) := by decide +kernel
theorem d_Mod_keep_236 : decode M_Mod_keep.2.1 236 = .ok (.aload_n 0, 1) := by decide +kernel
theorem d_Mod_keep_237 : decode M_Mod_keep.2.1 237 = .ok (.getfield 76, 3) := by decide +kernel
theorem gf_Mod_76 : GF "HandshakeBindsModel" 76 9 34 := ⟨_, _, _, rfl, by decide, i_Mod, inTB 884 (by decide +kernel) rfl⟩
theorem d_Mod_keep_240 : decode M_Mod_keep.2.1 240 = .ok (.iload_n 2, 1) := by decide +kernel
theorem d_Mod_keep_241 : decode M_Mod_keep.2.1 241 = .ok (.iaload, 1) := by decide +kernel
theorem d_Mod_keep_242 : decode M_Mod_keep.2.1 242 = .ok (.iastore, 1) := by decide +kernel
theorem d_Mod_keep_243 : decode M_Mod_keep.2.1 243 = .ok (.aload_n 1, 1) := by decide +kernel
theorem d_Mod_keep_244 : decode M_Mod_keep.2.1 244 = .ok (.sipush 139, 3) := by decide +kernel
theorem d_Mod_keep_247 : decode M_Mod_keep.2.1 247 = .ok (.iload_n 2, 1) := by decide +kernel
theorem d_Mod_keep_248 : decode M_Mod_keep.2.1 248 = .ok (.iadd, 1) := by decide +kernel
theorem d_Mod_keep_249 : decode M_Mod_keep.2.1 249 = .ok (.aload_n 0, 1) := by decide +kernel
theorem d_Mod_keep_250 : decode M_Mod_keep.2.1 250 = .ok (.getfield 79, 3) := by decide +kernel
theorem gf_Mod_79 : GF "HandshakeBindsModel" 79 9 35 := ⟨_, _, _, rfl, by decide, i_Mod, inTB 885 (by decide +kernel) rfl⟩
theorem d_Mod_keep_253 : decode M_Mod_keep.2.1 253 = .ok (.iload_n 2, 1) := by decide +kernel
theorem d_Mod_keep_254 : decode M_Mod_keep.2.1 254 = .ok (.iaload, 1) := by decide +kernel
theorem d_Mod_keep_255 : decode M_Mod_keep.2.1 255 = .ok (.iastore, 1) := by decide +kernel
theorem d_Mod_keep_256 : decode M_Mod_keep.2.1 256 = .ok (.iinc 2 1, 3) := by decide +kernel
theorem d_Mod_keep_259 : decode M_Mod_keep.2.1 259 = .ok (.goto (-47), 3) := by decide +kernel
theorem d_Mod_keep_180 : decode M_Mod_keep.2.1 180 = .ok (.aload_n 1, 1) := by decide +kernel
theorem d_Mod_keep_181 : decode M_Mod_keep.2.1 181 = .ok (.bipush 103, 2) := by decide +kernel
theorem d_Mod_keep_183 : decode M_Mod_keep.2.1 183 = .ok (.iload_n 2, 1) := by decide +kernel
theorem d_Mod_keep_184 : decode M_Mod_keep.2.1 184 = .ok (.iadd, 1) := by decide +kernel
theorem d_Mod_keep_185 : decode M_Mod_keep.2.1 185 = .ok (.aload_n 0, 1) := by decide +kernel
theorem d_Mod_keep_186 : decode M_Mod_keep.2.1 186 = .ok (.getfield 67, 3) := by decide +kernel
theorem gf_Mod_67 : GF "HandshakeBindsModel" 67 9 30 := ⟨_, _, _, rfl, by decide, i_Mod, inTB 880 (by decide +kernel) rfl⟩
theorem d_Mod_keep_189 : decode M_Mod_keep.2.1 189 = .ok (.iload_n 2, 1) := by decide +kernel
theorem d_Mod_keep_190 : decode M_Mod_keep.2.1 190 = .ok (.iaload, 1) := by decide +kernel
theorem d_Mod_keep_191 : decode M_Mod_keep.2.1 191 = .ok (.iastore, 1) := by decide +kernel
theorem d_Mod_keep_192 : decode M_Mod_keep.2.1 192 = .ok (.aload_n 1, 1) := by decide +kernel
theorem d_Mod_keep_193 : decode M_Mod_keep.2.1 193 = .ok (.bipush 113, 2) := by decide +kernel
theorem d_Mod_keep_195 : decode M_Mod_keep.2.1 195 = .ok (.iload_n 2, 1) := by decide +kernel
theorem d_Mod_keep_196 : decode M_Mod_keep.2.1 196 = .ok (.iadd, 1) := by decide +kernel
theorem d_Mod_keep_197 : decode M_Mod_keep.2.1 197 = .ok (.aload_n 0, 1) := by decide +kernel
theorem d_Mod_keep_198 : decode M_Mod_keep.2.1 198 = .ok (.getfield 70, 3) := by decide +kernel
theorem gf_Mod_70 : GF "HandshakeBindsModel" 70 9 31 := ⟨_, _, _, rfl, by decide, i_Mod, inTB 881 (by decide +kernel) rfl⟩
theorem d_Mod_keep_201 : decode M_Mod_keep.2.1 201 = .ok (.iload_n 2, 1) := by decide +kernel
theorem d_Mod_keep_202 : decode M_Mod_keep.2.1 202 = .ok (.iaload, 1) := by decide +kernel
theorem d_Mod_keep_203 : decode M_Mod_keep.2.1 203 = .ok (.iastore, 1) := by decide +kernel
theorem d_Mod_keep_204 : decode M_Mod_keep.2.1 204 = .ok (.iinc 2 1, 3) := by decide +kernel
theorem d_Mod_keep_207 : decode M_Mod_keep.2.1 207 = .ok (.goto (-33), 3) := by decide +kernel
theorem d_Mod_keep_106 : decode M_Mod_keep.2.1 106 = .ok (.aload_n 1, 1) := by decide +kernel
theorem d_Mod_keep_107 : decode M_Mod_keep.2.1 107 = .ok (.bipush 78, 2) := by decide +kernel
theorem d_Mod_keep_109 : decode M_Mod_keep.2.1 109 = .ok (.iload_n 2, 1) := by decide +kernel
theorem d_Mod_keep_110 : decode M_Mod_keep.2.1 110 = .ok (.iadd, 1) := by decide +kernel
theorem d_Mod_keep_111 : decode M_Mod_keep.2.1 111 = .ok (.aload_n 0, 1) := by decide +kernel
theorem d_Mod_keep_112 : decode M_Mod_keep.2.1 112 = .ok (.getfield 52, 3) := by decide +kernel
theorem gf_Mod_52 : GF "HandshakeBindsModel" 52 9 24 := ⟨_, _, _, rfl, by decide, i_Mod, inTB 874 (by decide +kernel) rfl⟩
theorem d_Mod_keep_115 : decode M_Mod_keep.2.1 115 = .ok (.iload_n 2, 1) := by decide +kernel
theorem d_Mod_keep_116 : decode M_Mod_keep.2.1 116 = .ok (.iaload, 1) := by decide +kernel
theorem d_Mod_keep_117 : decode M_Mod_keep.2.1 117 = .ok (.iastore, 1) := by decide +kernel
theorem d_Mod_keep_118 : decode M_Mod_keep.2.1 118 = .ok (.aload_n 1, 1) := by decide +kernel
theorem d_Mod_keep_119 : decode M_Mod_keep.2.1 119 = .ok (.bipush 83, 2) := by decide +kernel
theorem d_Mod_keep_121 : decode M_Mod_keep.2.1 121 = .ok (.iload_n 2, 1) := by decide +kernel
theorem d_Mod_keep_122 : decode M_Mod_keep.2.1 122 = .ok (.iadd, 1) := by decide +kernel
theorem d_Mod_keep_123 : decode M_Mod_keep.2.1 123 = .ok (.aload_n 0, 1) := by decide +kernel
theorem d_Mod_keep_124 : decode M_Mod_keep.2.1 124 = .ok (.getfield 55, 3) := by decide +kernel
theorem gf_Mod_55 : GF "HandshakeBindsModel" 55 9 25 := ⟨_, _, _, rfl, by decide, i_Mod, inTB 875 (by decide +kernel) rfl⟩
theorem d_Mod_keep_127 : decode M_Mod_keep.2.1 127 = .ok (.iload_n 2, 1) := by decide +kernel
theorem d_Mod_keep_128 : decode M_Mod_keep.2.1 128 = .ok (.iaload, 1) := by decide +kernel
theorem d_Mod_keep_129 : decode M_Mod_keep.2.1 129 = .ok (.iastore, 1) := by decide +kernel
theorem d_Mod_keep_130 : decode M_Mod_keep.2.1 130 = .ok (.aload_n 1, 1) := by decide +kernel
theorem d_Mod_keep_131 : decode M_Mod_keep.2.1 131 = .ok (.bipush 88, 2) := by decide +kernel
theorem d_Mod_keep_133 : decode M_Mod_keep.2.1 133 = .ok (.iload_n 2, 1) := by decide +kernel
theorem d_Mod_keep_134 : decode M_Mod_keep.2.1 134 = .ok (.iadd, 1) := by decide +kernel
theorem d_Mod_keep_135 : decode M_Mod_keep.2.1 135 = .ok (.aload_n 0, 1) := by decide +kernel
theorem d_Mod_keep_136 : decode M_Mod_keep.2.1 136 = .ok (.getfield 58, 3) := by decide +kernel
theorem gf_Mod_58 : GF "HandshakeBindsModel" 58 9 26 := ⟨_, _, _, rfl, by decide, i_Mod, inTB 876 (by decide +kernel) rfl⟩
theorem d_Mod_keep_139 : decode M_Mod_keep.2.1 139 = .ok (.iload_n 2, 1) := by decide +kernel
theorem d_Mod_keep_140 : decode M_Mod_keep.2.1 140 = .ok (.iaload, 1) := by decide +kernel
theorem d_Mod_keep_141 : decode M_Mod_keep.2.1 141 = .ok (.iastore, 1) := by decide +kernel
theorem d_Mod_keep_142 : decode M_Mod_keep.2.1 142 = .ok (.aload_n 1, 1) := by decide +kernel
theorem d_Mod_keep_143 : decode M_Mod_keep.2.1 143 = .ok (.bipush 93, 2) := by decide +kernel
theorem d_Mod_keep_145 : decode M_Mod_keep.2.1 145 = .ok (.iload_n 2, 1) := by decide +kernel
theorem d_Mod_keep_146 : decode M_Mod_keep.2.1 146 = .ok (.iadd, 1) := by decide +kernel
theorem d_Mod_keep_147 : decode M_Mod_keep.2.1 147 = .ok (.aload_n 0, 1) := by decide +kernel
theorem d_Mod_keep_148 : decode M_Mod_keep.2.1 148 = .ok (.getfield 61, 3) := by decide +kernel
theorem gf_Mod_61 : GF "HandshakeBindsModel" 61 9 27 := ⟨_, _, _, rfl, by decide, i_Mod, inTB 877 (by decide +kernel) rfl⟩
theorem d_Mod_keep_151 : decode M_Mod_keep.2.1 151 = .ok (.iload_n 2, 1) := by decide +kernel
theorem d_Mod_keep_152 : decode M_Mod_keep.2.1 152 = .ok (.iaload, 1) := by decide +kernel
theorem d_Mod_keep_153 : decode M_Mod_keep.2.1 153 = .ok (.iastore, 1) := by decide +kernel
theorem d_Mod_keep_154 : decode M_Mod_keep.2.1 154 = .ok (.aload_n 1, 1) := by decide +kernel
theorem d_Mod_keep_155 : decode M_Mod_keep.2.1 155 = .ok (.bipush 98, 2) := by decide +kernel
theorem d_Mod_keep_157 : decode M_Mod_keep.2.1 157 = .ok (.iload_n 2, 1) := by decide +kernel
theorem d_Mod_keep_158 : decode M_Mod_keep.2.1 158 = .ok (.iadd, 1) := by decide +kernel
theorem d_Mod_keep_159 : decode M_Mod_keep.2.1 159 = .ok (.aload_n 0, 1) := by decide +kernel
theorem d_Mod_keep_160 : decode M_Mod_keep.2.1 160 = .ok (.getfield 64, 3) := by decide +kernel
theorem gf_Mod_64 : GF "HandshakeBindsModel" 64 9 28 := ⟨_, _, _, rfl, by decide, i_Mod, inTB 878 (by decide +kernel) rfl⟩
theorem d_Mod_keep_163 : decode M_Mod_keep.2.1 163 = .ok (.iload_n 2, 1) := by decide +kernel
theorem d_Mod_keep_164 : decode M_Mod_keep.2.1 164 = .ok (.iaload, 1) := by decide +kernel
theorem d_Mod_keep_165 : decode M_Mod_keep.2.1 165 = .ok (.iastore, 1) := by decide +kernel
theorem d_Mod_keep_166 : decode M_Mod_keep.2.1 166 = .ok (.iinc 2 1, 3) := by decide +kernel
theorem d_Mod_keep_169 : decode M_Mod_keep.2.1 169 = .ok (.goto (-68), 3) := by decide +kernel
theorem d_Mod_keep_81 : decode M_Mod_keep.2.1 81 = .ok (.aload_n 1, 1) := by decide +kernel
theorem d_Mod_keep_82 : decode M_Mod_keep.2.1 82 = .ok (.bipush 42, 2) := by decide +kernel
theorem d_Mod_keep_84 : decode M_Mod_keep.2.1 84 = .ok (.iload_n 2, 1) := by decide +kernel
theorem d_Mod_keep_85 : decode M_Mod_keep.2.1 85 = .ok (.iadd, 1) := by decide +kernel
theorem d_Mod_keep_86 : decode M_Mod_keep.2.1 86 = .ok (.aload_n 0, 1) := by decide +kernel
theorem d_Mod_keep_87 : decode M_Mod_keep.2.1 87 = .ok (.getfield 24, 3) := by decide +kernel
theorem d_Mod_keep_90 : decode M_Mod_keep.2.1 90 = .ok (.iload_n 2, 1) := by decide +kernel
theorem d_Mod_keep_91 : decode M_Mod_keep.2.1 91 = .ok (.iaload, 1) := by decide +kernel
theorem d_Mod_keep_92 : decode M_Mod_keep.2.1 92 = .ok (.iastore, 1) := by decide +kernel
theorem d_Mod_keep_93 : decode M_Mod_keep.2.1 93 = .ok (.iinc 2 1, 3) := by decide +kernel
theorem d_Mod_keep_96 : decode M_Mod_keep.2.1 96 = .ok (.goto (-21), 3) := by decide +kernel
theorem d_Mod_keep_55 : decode M_Mod_keep.2.1 55 = .ok (.aload_n 1, 1) := by decide +kernel
theorem d_Mod_keep_56 : decode M_Mod_keep.2.1 56 = .ok (.bipush 18, 2) := by decide +kernel
theorem d_Mod_keep_58 : decode M_Mod_keep.2.1 58 = .ok (.iload_n 2, 1) := by decide +kernel
theorem d_Mod_keep_59 : decode M_Mod_keep.2.1 59 = .ok (.iadd, 1) := by decide +kernel
theorem d_Mod_keep_60 : decode M_Mod_keep.2.1 60 = .ok (.aload_n 0, 1) := by decide +kernel
theorem d_Mod_keep_61 : decode M_Mod_keep.2.1 61 = .ok (.getfield 21, 3) := by decide +kernel
theorem gf_Mod_21 : GF "HandshakeBindsModel" 21 9 4 := ⟨_, _, _, rfl, by decide, i_Mod, inTB 854 (by decide +kernel) rfl⟩
theorem d_Mod_keep_64 : decode M_Mod_keep.2.1 64 = .ok (.iload_n 2, 1) := by decide +kernel
theorem d_Mod_keep_65 : decode M_Mod_keep.2.1 65 = .ok (.iaload, 1) := by decide +kernel
theorem d_Mod_keep_66 : decode M_Mod_keep.2.1 66 = .ok (.iastore, 1) := by decide +kernel
theorem d_Mod_keep_67 : decode M_Mod_keep.2.1 67 = .ok (.iinc 2 1, 3) := by decide +kernel
theorem d_Mod_keep_70 : decode M_Mod_keep.2.1 70 = .ok (.goto (-21), 3) := by decide +kernel
theorem d_Mod_keep_8 : decode M_Mod_keep.2.1 8 = .ok (.aload_n 1, 1) := by decide +kernel
theorem d_Mod_keep_9 : decode M_Mod_keep.2.1 9 = .ok (.iload_n 2, 1) := by decide +kernel
theorem d_Mod_keep_10 : decode M_Mod_keep.2.1 10 = .ok (.aload_n 0, 1) := by decide +kernel
theorem d_Mod_keep_11 : decode M_Mod_keep.2.1 11 = .ok (.getfield 9, 3) := by decide +kernel
theorem gf_Mod_9 : GF "HandshakeBindsModel" 9 9 1 := ⟨_, _, _, rfl, by decide, i_Mod, inTB 851 (by decide +kernel) rfl⟩
theorem d_Mod_keep_14 : decode M_Mod_keep.2.1 14 = .ok (.iload_n 2, 1) := by decide +kernel
theorem d_Mod_keep_15 : decode M_Mod_keep.2.1 15 = .ok (.iaload, 1) := by decide +kernel
theorem d_Mod_keep_16 : decode M_Mod_keep.2.1 16 = .ok (.iastore, 1) := by decide +kernel
theorem d_Mod_keep_17 : decode M_Mod_keep.2.1 17 = .ok (.aload_n 1, 1) := by decide +kernel
theorem d_Mod_keep_18 : decode M_Mod_keep.2.1 18 = .ok (.bipush 6, 2) := by decide +kernel
theorem d_Mod_keep_20 : decode M_Mod_keep.2.1 20 = .ok (.iload_n 2, 1) := by decide +kernel
theorem d_Mod_keep_21 : decode M_Mod_keep.2.1 21 = .ok (.iadd, 1) := by decide +kernel
theorem d_Mod_keep_22 : decode M_Mod_keep.2.1 22 = .ok (.aload_n 0, 1) := by decide +kernel
theorem d_Mod_keep_23 : decode M_Mod_keep.2.1 23 = .ok (.getfield 15, 3) := by decide +kernel
theorem gf_Mod_15 : GF "HandshakeBindsModel" 15 9 2 := ⟨_, _, _, rfl, by decide, i_Mod, inTB 852 (by decide +kernel) rfl⟩
theorem d_Mod_keep_26 : decode M_Mod_keep.2.1 26 = .ok (.iload_n 2, 1) := by decide +kernel
theorem d_Mod_keep_27 : decode M_Mod_keep.2.1 27 = .ok (.iaload, 1) := by decide +kernel
theorem d_Mod_keep_28 : decode M_Mod_keep.2.1 28 = .ok (.iastore, 1) := by decide +kernel
theorem d_Mod_keep_29 : decode M_Mod_keep.2.1 29 = .ok (.aload_n 1, 1) := by decide +kernel
theorem d_Mod_keep_30 : decode M_Mod_keep.2.1 30 = .ok (.bipush 12, 2) := by decide +kernel
theorem d_Mod_keep_32 : decode M_Mod_keep.2.1 32 = .ok (.iload_n 2, 1) := by decide +kernel
theorem d_Mod_keep_33 : decode M_Mod_keep.2.1 33 = .ok (.iadd, 1) := by decide +kernel
theorem d_Mod_keep_34 : decode M_Mod_keep.2.1 34 = .ok (.aload_n 0, 1) := by decide +kernel
theorem d_Mod_keep_35 : decode M_Mod_keep.2.1 35 = .ok (.getfield 18, 3) := by decide +kernel
theorem d_Mod_keep_38 : decode M_Mod_keep.2.1 38 = .ok (.iload_n 2, 1) := by decide +kernel
theorem d_Mod_keep_39 : decode M_Mod_keep.2.1 39 = .ok (.iaload, 1) := by decide +kernel
theorem d_Mod_keep_40 : decode M_Mod_keep.2.1 40 = .ok (.iastore, 1) := by decide +kernel
theorem d_Mod_keep_41 : decode M_Mod_keep.2.1 41 = .ok (.iinc 2 1, 3) := by decide +kernel
theorem d_Mod_keep_44 : decode M_Mod_keep.2.1 44 = .ok (.goto (-42), 3) := by decide +kernel
def M_Mod_again : XM := (⟨"HandshakeBindsModel", "again", "([I)V"⟩, prog_11_method_64_code, 3, none)
theorem d_Mod_again_0 : decode M_Mod_again.2.1 0 = .ok (.iconst 0, 1) := by decide +kernel
theorem d_Mod_again_1 : decode M_Mod_again.2.1 1 = .ok (.istore_n 2, 1) := by decide +kernel
theorem d_Mod_again_2 : decode M_Mod_again.2.1 2 = .ok (.iload_n 2, 1) := by decide +kernel
theorem d_Mod_again_3 : decode M_Mod_again.2.1 3 = .ok (.bipush 6, 2) := by decide +kernel
theorem d_Mod_again_5 : decode M_Mod_again.2.1 5 = .ok (.if_icmp .ge 42, 3) := by decide +kernel
theorem d_Mod_again_47 : decode M_Mod_again.2.1 47 = .ok (.iconst 0, 1) := by decide +kernel
theorem d_Mod_again_48 : decode M_Mod_again.2.1 48 = .ok (.istore_n 2, 1) := by decide +kernel
theorem d_Mod_again_49 : decode M_Mod_again.2.1 49 = .ok (.iload_n 2, 1) := by decide +kernel
theorem d_Mod_again_50 : decode M_Mod_again.2.1 50 = .ok (.bipush 24, 2) := by decide +kernel
theorem d_Mod_again_52 : decode M_Mod_again.2.1 52 = .ok (.if_icmp .ge 21, 3) := by decide +kernel
theorem d_Mod_again_73 : decode M_Mod_again.2.1 73 = .ok (.iconst 0, 1) := by decide +kernel
theorem d_Mod_again_74 : decode M_Mod_again.2.1 74 = .ok (.istore_n 2, 1) := by decide +kernel
theorem d_Mod_again_75 : decode M_Mod_again.2.1 75 = .ok (.iload_n 2, 1) := by decide +kernel
theorem d_Mod_again_76 : decode M_Mod_again.2.1 76 = .ok (.bipush 36, 2) := by decide +kernel
theorem d_Mod_again_78 : decode M_Mod_again.2.1 78 = .ok (.if_icmp .ge 21, 3) := by decide +kernel
theorem d_Mod_again_99 : decode M_Mod_again.2.1 99 = .ok (.iconst 0, 1) := by decide +kernel
theorem d_Mod_again_100 : decode M_Mod_again.2.1 100 = .ok (.istore_n 2, 1) := by decide +kernel
theorem d_Mod_again_101 : decode M_Mod_again.2.1 101 = .ok (.iload_n 2, 1) := by decide +kernel
theorem d_Mod_again_102 : decode M_Mod_again.2.1 102 = .ok (.iconst 5, 1) := by decide +kernel
theorem d_Mod_again_103 : decode M_Mod_again.2.1 103 = .ok (.if_icmp .ge 69, 3) := by decide +kernel
theorem d_Mod_again_172 : decode M_Mod_again.2.1 172 = .ok (.iconst 0, 1) := by decide +kernel
theorem d_Mod_again_173 : decode M_Mod_again.2.1 173 = .ok (.istore_n 2, 1) := by decide +kernel
theorem d_Mod_again_174 : decode M_Mod_again.2.1 174 = .ok (.iload_n 2, 1) := by decide +kernel
theorem d_Mod_again_175 : decode M_Mod_again.2.1 175 = .ok (.bipush 10, 2) := by decide +kernel
theorem d_Mod_again_177 : decode M_Mod_again.2.1 177 = .ok (.if_icmp .ge 33, 3) := by decide +kernel
theorem d_Mod_again_210 : decode M_Mod_again.2.1 210 = .ok (.iconst 0, 1) := by decide +kernel
theorem d_Mod_again_211 : decode M_Mod_again.2.1 211 = .ok (.istore_n 2, 1) := by decide +kernel
theorem d_Mod_again_212 : decode M_Mod_again.2.1 212 = .ok (.iload_n 2, 1) := by decide +kernel
theorem d_Mod_again_213 : decode M_Mod_again.2.1 213 = .ok (.bipush 8, 2) := by decide +kernel
theorem d_Mod_again_215 : decode M_Mod_again.2.1 215 = .ok (.if_icmp .ge 47, 3) := by decide +kernel
theorem d_Mod_again_262 : decode M_Mod_again.2.1 262 = .ok (.aload_n 0, 1) := by decide +kernel
theorem d_Mod_again_263 : decode M_Mod_again.2.1 263 = .ok (.aload_n 1, 1) := by decide +kernel
theorem d_Mod_again_264 : decode M_Mod_again.2.1 264 = .ok (.sipush 147, 3) := by decide +kernel
theorem d_Mod_again_267 : decode M_Mod_again.2.1 267 = .ok (.iaload, 1) := by decide +kernel
theorem d_Mod_again_268 : decode M_Mod_again.2.1 268 = .ok (.putfield 111, 3) := by decide +kernel
theorem pf_Mod_111 : PF "HandshakeBindsModel" 111 9 0 (.int) false := ⟨_, _, _, t_Mod, rfl, by decide, i_Mod, t_Mod_ok, n_Mod, inTB 850 (by decide +kernel) rfl, rfl, t_Mod_ok 0 (by decide), fun _ => rfl⟩
theorem d_Mod_again_271 : decode M_Mod_again.2.1 271 = .ok (.aload_n 0, 1) := by decide +kernel
theorem d_Mod_again_272 : decode M_Mod_again.2.1 272 = .ok (.aload_n 1, 1) := by decide +kernel
theorem d_Mod_again_273 : decode M_Mod_again.2.1 273 = .ok (.sipush 148, 3) := by decide +kernel
theorem d_Mod_again_276 : decode M_Mod_again.2.1 276 = .ok (.iaload, 1) := by decide +kernel
theorem d_Mod_again_277 : decode M_Mod_again.2.1 277 = .ok (.putfield 240, 3) := by decide +kernel
theorem pf_Mod_240 : PF "HandshakeBindsModel" 240 9 6 (.int) false := ⟨_, _, _, t_Mod, rfl, by decide, i_Mod, t_Mod_ok, n_Mod, inTB 856 (by decide +kernel) rfl, rfl, t_Mod_ok 6 (by decide), fun _ => rfl⟩
theorem d_Mod_again_280 : decode M_Mod_again.2.1 280 = .ok (.aload_n 0, 1) := by decide +kernel
theorem d_Mod_again_281 : decode M_Mod_again.2.1 281 = .ok (.aload_n 1, 1) := by decide +kernel
theorem d_Mod_again_282 : decode M_Mod_again.2.1 282 = .ok (.sipush 149, 3) := by decide +kernel
theorem d_Mod_again_285 : decode M_Mod_again.2.1 285 = .ok (.iaload, 1) := by decide +kernel
theorem d_Mod_again_286 : decode M_Mod_again.2.1 286 = .ok (.putfield 297, 3) := by decide +kernel
theorem pf_Mod_297 : PF "HandshakeBindsModel" 297 9 23 (.int) false := ⟨_, _, _, t_Mod, rfl, by decide, i_Mod, t_Mod_ok, n_Mod, inTB 873 (by decide +kernel) rfl, rfl, t_Mod_ok 23 (by decide), fun _ => rfl⟩
theorem d_Mod_again_289 : decode M_Mod_again.2.1 289 = .ok (.aload_n 0, 1) := by decide +kernel
theorem d_Mod_again_290 : decode M_Mod_again.2.1 290 = .ok (.aload_n 1, 1) := by decide +kernel
theorem d_Mod_again_291 : decode M_Mod_again.2.1 291 = .ok (.sipush 150, 3) := by decide +kernel
theorem d_Mod_again_294 : decode M_Mod_again.2.1 294 = .ok (.iaload, 1) := by decide +kernel
theorem d_Mod_again_295 : decode M_Mod_again.2.1 295 = .ok (.putfield 312, 3) := by decide +kernel
theorem pf_Mod_312 : PF "HandshakeBindsModel" 312 9 29 (.int) false := ⟨_, _, _, t_Mod, rfl, by decide, i_Mod, t_Mod_ok, n_Mod, inTB 879 (by decide +kernel) rfl, rfl, t_Mod_ok 29 (by decide), fun _ => rfl⟩
theorem d_Mod_again_298 : decode M_Mod_again.2.1 298 = .ok (.aload_n 0, 1) := by decide +kernel
theorem d_Mod_again_299 : decode M_Mod_again.2.1 299 = .ok (.aload_n 1, 1) := by decide +kernel
theorem d_Mod_again_300 : decode M_Mod_again.2.1 300 = .ok (.sipush 151, 3) := by decide +kernel
theorem d_Mod_again_303 : decode M_Mod_again.2.1 303 = .ok (.iaload, 1) := by decide +kernel
theorem d_Mod_again_304 : decode M_Mod_again.2.1 304 = .ok (.putfield 319, 3) := by decide +kernel
theorem pf_Mod_319 : PF "HandshakeBindsModel" 319 9 32 (.int) false := ⟨_, _, _, t_Mod, rfl, by decide, i_Mod, t_Mod_ok, n_Mod, inTB 882 (by decide +kernel) rfl, rfl, t_Mod_ok 32 (by decide), fun _ => rfl⟩
theorem d_Mod_again_307 : decode M_Mod_again.2.1 307 = .ok (.aload_n 0, 1) := by decide +kernel
theorem d_Mod_again_308 : decode M_Mod_again.2.1 308 = .ok (.aload_n 1, 1) := by decide +kernel
theorem d_Mod_again_309 : decode M_Mod_again.2.1 309 = .ok (.sipush 152, 3) := by decide +kernel
theorem d_Mod_again_312 : decode M_Mod_again.2.1 312 = .ok (.iaload, 1) := by decide +kernel
theorem d_Mod_again_313 : decode M_Mod_again.2.1 313 = .ok (.putfield 107, 3) := by decide +kernel
theorem pf_Mod_107 : PF "HandshakeBindsModel" 107 9 14 (.int) false := ⟨_, _, _, t_Mod, rfl, by decide, i_Mod, t_Mod_ok, n_Mod, inTB 864 (by decide +kernel) rfl, rfl, t_Mod_ok 14 (by decide), fun _ => rfl⟩
theorem d_Mod_again_316 : decode M_Mod_again.2.1 316 = .ok (.return_, 1) := by decide +kernel
theorem d_Mod_again_218 : decode M_Mod_again.2.1 218 = .ok (.aload_n 0, 1) := by decide +kernel
theorem d_Mod_again_219 : decode M_Mod_again.2.1 219 = .ok (.getfield 73, 3) := by decide +kernel
theorem d_Mod_again_222 : decode M_Mod_again.2.1 222 = .ok (.iload_n 2, 1) := by decide +kernel
theorem d_Mod_again_223 : decode M_Mod_again.2.1 223 = .ok (.aload_n 1, 1) := by decide +kernel
theorem d_Mod_again_224 : decode M_Mod_again.2.1 224 = .ok (.bipush 123, 2) := by decide +kernel
theorem d_Mod_again_226 : decode M_Mod_again.2.1 226 = .ok (.iload_n 2, 1) := by decide +kernel
theorem d_Mod_again_227 : decode M_Mod_again.2.1 227 = .ok (.iadd, 1) := by decide +kernel
theorem d_Mod_again_228 : decode M_Mod_again.2.1 228 = .ok (.iaload, 1) := by decide +kernel
theorem d_Mod_again_229 : decode M_Mod_again.2.1 229 = .ok (.iastore, 1) := by decide +kernel
theorem d_Mod_again_230 : decode M_Mod_again.2.1 230 = .ok (.aload_n 0, 1) := by decide +kernel
theorem d_Mod_again_231 : decode M_Mod_again.2.1 231 = .ok (.getfield 76, 3) := by decide +kernel
theorem d_Mod_again_234 : decode M_Mod_again.2.1 234 = .ok (.iload_n 2, 1) := by decide +kernel
theorem d_Mod_again_235 : decode M_Mod_again.2.1 235 = .ok (.aload_n 1, 1) := by decide +kernel
theorem d_Mod_again_236 : decode M_Mod_again.2.1 236 = .ok (.sipush 131, 3) := by decide +kernel
theorem d_Mod_again_239 : decode M_Mod_again.2.1 239 = .ok (.iload_n 2, 1) := by decide +kernel
theorem d_Mod_again_240 : decode M_Mod_again.2.1 240 = .ok (.iadd, 1) := by decide +kernel
theorem d_Mod_again_241 : decode M_Mod_again.2.1 241 = .ok (.iaload, 1) := by decide +kernel
theorem d_Mod_again_242 : decode M_Mod_again.2.1 242 = .ok (.iastore, 1) := by decide +kernel
theorem d_Mod_again_243 : decode M_Mod_again.2.1 243 = .ok (.aload_n 0, 1) := by decide +kernel
theorem d_Mod_again_244 : decode M_Mod_again.2.1 244 = .ok (.getfield 79, 3) := by decide +kernel
theorem d_Mod_again_247 : decode M_Mod_again.2.1 247 = .ok (.iload_n 2, 1) := by decide +kernel
theorem d_Mod_again_248 : decode M_Mod_again.2.1 248 = .ok (.aload_n 1, 1) := by decide +kernel
theorem d_Mod_again_249 : decode M_Mod_again.2.1 249 = .ok (.sipush 139, 3) := by decide +kernel
theorem d_Mod_again_252 : decode M_Mod_again.2.1 252 = .ok (.iload_n 2, 1) := by decide +kernel
theorem d_Mod_again_253 : decode M_Mod_again.2.1 253 = .ok (.iadd, 1) := by decide +kernel
theorem d_Mod_again_254 : decode M_Mod_again.2.1 254 = .ok (.iaload, 1) := by decide +kernel
theorem d_Mod_again_255 : decode M_Mod_again.2.1 255 = .ok (.iastore, 1) := by decide +kernel
theorem d_Mod_again_256 : decode M_Mod_again.2.1 256 = .ok (.iinc 2 1, 3) := by decide +kernel
theorem d_Mod_again_259 : decode M_Mod_again.2.1 259 = .ok (.goto (-47), 3) := by decide +kernel
theorem d_Mod_again_180 : decode M_Mod_again.2.1 180 = .ok (.aload_n 0, 1) := by decide +kernel
theorem d_Mod_again_181 : decode M_Mod_again.2.1 181 = .ok (.getfield 67, 3) := by decide +kernel
theorem d_Mod_again_184 : decode M_Mod_again.2.1 184 = .ok (.iload_n 2, 1) := by decide +kernel
theorem d_Mod_again_185 : decode M_Mod_again.2.1 185 = .ok (.aload_n 1, 1) := by decide +kernel
theorem d_Mod_again_186 : decode M_Mod_again.2.1 186 = .ok (.bipush 103, 2) := by decide +kernel
theorem d_Mod_again_188 : decode M_Mod_again.2.1 188 = .ok (.iload_n 2, 1) := by decide +kernel
theorem d_Mod_again_189 : decode M_Mod_again.2.1 189 = .ok (.iadd, 1) := by decide +kernel
theorem d_Mod_again_190 : decode M_Mod_again.2.1 190 = .ok (.iaload, 1) := by decide +kernel
theorem d_Mod_again_191 : decode M_Mod_again.2.1 191 = .ok (.iastore, 1) := by decide +kernel
theorem d_Mod_again_192 : decode M_Mod_again.2.1 192 = .ok (.aload_n 0, 1) := by decide +kernel
theorem d_Mod_again_193 : decode M_Mod_again.2.1 193 = .ok (.getfield 70, 3) := by decide +kernel
theorem d_Mod_again_196 : decode M_Mod_again.2.1 196 = .ok (.iload_n 2, 1) := by decide +kernel
theorem d_Mod_again_197 : decode M_Mod_again.2.1 197 = .ok (.aload_n 1, 1) := by decide +kernel
theorem d_Mod_again_198 : decode M_Mod_again.2.1 198 = .ok (.bipush 113, 2) := by decide +kernel
theorem d_Mod_again_200 : decode M_Mod_again.2.1 200 = .ok (.iload_n 2, 1) := by decide +kernel
theorem d_Mod_again_201 : decode M_Mod_again.2.1 201 = .ok (.iadd, 1) := by decide +kernel
theorem d_Mod_again_202 : decode M_Mod_again.2.1 202 = .ok (.iaload, 1) := by decide +kernel
theorem d_Mod_again_203 : decode M_Mod_again.2.1 203 = .ok (.iastore, 1) := by decide +kernel
theorem d_Mod_again_204 : decode M_Mod_again.2.1 204 = .ok (.iinc 2 1, 3) := by decide +kernel
theorem d_Mod_again_207 : decode M_Mod_again.2.1 207 = .ok (.goto (-33), 3) := by decide +kernel
theorem d_Mod_again_106 : decode M_Mod_again.2.1 106 = .ok (.aload_n 0, 1) := by decide +kernel
theorem d_Mod_again_107 : decode M_Mod_again.2.1 107 = .ok (.getfield 52, 3) := by decide +kernel
theorem d_Mod_again_110 : decode M_Mod_again.2.1 110 = .ok (.iload_n 2, 1) := by decide +kernel
theorem d_Mod_again_111 : decode M_Mod_again.2.1 111 = .ok (.aload_n 1, 1) := by decide +kernel
theorem d_Mod_again_112 : decode M_Mod_again.2.1 112 = .ok (.bipush 78, 2) := by decide +kernel
theorem d_Mod_again_114 : decode M_Mod_again.2.1 114 = .ok (.iload_n 2, 1) := by decide +kernel
theorem d_Mod_again_115 : decode M_Mod_again.2.1 115 = .ok (.iadd, 1) := by decide +kernel
theorem d_Mod_again_116 : decode M_Mod_again.2.1 116 = .ok (.iaload, 1) := by decide +kernel
theorem d_Mod_again_117 : decode M_Mod_again.2.1 117 = .ok (.iastore, 1) := by decide +kernel
theorem d_Mod_again_118 : decode M_Mod_again.2.1 118 = .ok (.aload_n 0, 1) := by decide +kernel
theorem d_Mod_again_119 : decode M_Mod_again.2.1 119 = .ok (.getfield 55, 3) := by decide +kernel
theorem d_Mod_again_122 : decode M_Mod_again.2.1 122 = .ok (.iload_n 2, 1) := by decide +kernel
theorem d_Mod_again_123 : decode M_Mod_again.2.1 123 = .ok (.aload_n 1, 1) := by decide +kernel
theorem d_Mod_again_124 : decode M_Mod_again.2.1 124 = .ok (.bipush 83, 2) := by decide +kernel
theorem d_Mod_again_126 : decode M_Mod_again.2.1 126 = .ok (.iload_n 2, 1) := by decide +kernel
theorem d_Mod_again_127 : decode M_Mod_again.2.1 127 = .ok (.iadd, 1) := by decide +kernel
theorem d_Mod_again_128 : decode M_Mod_again.2.1 128 = .ok (.iaload, 1) := by decide +kernel
theorem d_Mod_again_129 : decode M_Mod_again.2.1 129 = .ok (.iastore, 1) := by decide +kernel
theorem d_Mod_again_130 : decode M_Mod_again.2.1 130 = .ok (.aload_n 0, 1) := by decide +kernel
theorem d_Mod_again_131 : decode M_Mod_again.2.1 131 = .ok (.getfield 58, 3) := by decide +kernel
theorem d_Mod_again_134 : decode M_Mod_again.2.1 134 = .ok (.iload_n 2, 1) := by decide +kernel
theorem d_Mod_again_135 : decode M_Mod_again.2.1 135 = .ok (.aload_n 1, 1) := by decide +kernel
theorem d_Mod_again_136 : decode M_Mod_again.2.1 136 = .ok (.bipush 88, 2) := by decide +kernel
theorem d_Mod_again_138 : decode M_Mod_again.2.1 138 = .ok (.iload_n 2, 1) := by decide +kernel
theorem d_Mod_again_139 : decode M_Mod_again.2.1 139 = .ok (.iadd, 1) := by decide +kernel
theorem d_Mod_again_140 : decode M_Mod_again.2.1 140 = .ok (.iaload, 1) := by decide +kernel
theorem d_Mod_again_141 : decode M_Mod_again.2.1 141 = .ok (.iastore, 1) := by decide +kernel
theorem d_Mod_again_142 : decode M_Mod_again.2.1 142 = .ok (.aload_n 0, 1) := by decide +kernel
theorem d_Mod_again_143 : decode M_Mod_again.2.1 143 = .ok (.getfield 61, 3) := by decide +kernel
theorem d_Mod_again_146 : decode M_Mod_again.2.1 146 = .ok (.iload_n 2, 1) := by decide +kernel
theorem d_Mod_again_147 : decode M_Mod_again.2.1 147 = .ok (.aload_n 1, 1) := by decide +kernel
theorem d_Mod_again_148 : decode M_Mod_again.2.1 148 = .ok (.bipush 93, 2) := by decide +kernel
theorem d_Mod_again_150 : decode M_Mod_again.2.1 150 = .ok (.iload_n 2, 1) := by decide +kernel
theorem d_Mod_again_151 : decode M_Mod_again.2.1 151 = .ok (.iadd, 1) := by decide +kernel
theorem d_Mod_again_152 : decode M_Mod_again.2.1 152 = .ok (.iaload, 1) := by decide +kernel
theorem d_Mod_again_153 : decode M_Mod_again.2.1 153 = .ok (.iastore, 1) := by decide +kernel
theorem d_Mod_again_154 : decode M_Mod_again.2.1 154 = .ok (.aload_n 0, 1) := by decide +kernel
theorem d_Mod_again_155 : decode M_Mod_again.2.1 155 = .ok (.getfield 64, 3) := by decide +kernel
theorem d_Mod_again_158 : decode M_Mod_again.2.1 158 = .ok (.iload_n 2, 1) := by decide +kernel
theorem d_Mod_again_159 : decode M_Mod_again.2.1 159 = .ok (.aload_n 1, 1) := by decide +kernel
theorem d_Mod_again_160 : decode M_Mod_again.2.1 160 = .ok (.bipush 98, 2) := by decide +kernel
theorem d_Mod_again_162 : decode M_Mod_again.2.1 162 = .ok (.iload_n 2, 1) := by decide +kernel
theorem d_Mod_again_163 : decode M_Mod_again.2.1 163 = .ok (.iadd, 1) := by decide +kernel
theorem d_Mod_again_164 : decode M_Mod_again.2.1 164 = .ok (.iaload, 1) := by decide +kernel
theorem d_Mod_again_165 : decode M_Mod_again.2.1 165 = .ok (.iastore, 1) := by decide +kernel
theorem d_Mod_again_166 : decode M_Mod_again.2.1 166 = .ok (.iinc 2 1, 3) := by decide +kernel
theorem d_Mod_again_169 : decode M_Mod_again.2.1 169 = .ok (.goto (-68), 3) := by decide +kernel
theorem d_Mod_again_81 : decode M_Mod_again.2.1 81 = .ok (.aload_n 0, 1) := by decide +kernel
theorem d_Mod_again_82 : decode M_Mod_again.2.1 82 = .ok (.getfield 24, 3) := by decide +kernel
theorem d_Mod_again_85 : decode M_Mod_again.2.1 85 = .ok (.iload_n 2, 1) := by decide +kernel
theorem d_Mod_again_86 : decode M_Mod_again.2.1 86 = .ok (.aload_n 1, 1) := by decide +kernel
theorem d_Mod_again_87 : decode M_Mod_again.2.1 87 = .ok (.bipush 42, 2) := by decide +kernel
theorem d_Mod_again_89 : decode M_Mod_again.2.1 89 = .ok (.iload_n 2, 1) := by decide +kernel
theorem d_Mod_again_90 : decode M_Mod_again.2.1 90 = .ok (.iadd, 1) := by decide +kernel
theorem d_Mod_again_91 : decode M_Mod_again.2.1 91 = .ok (.iaload, 1) := by decide +kernel
theorem d_Mod_again_92 : decode M_Mod_again.2.1 92 = .ok (.iastore, 1) := by decide +kernel
theorem d_Mod_again_93 : decode M_Mod_again.2.1 93 = .ok (.iinc 2 1, 3) := by decide +kernel
theorem d_Mod_again_96 : decode M_Mod_again.2.1 96 = .ok (.goto (-21), 3) := by decide +kernel
theorem d_Mod_again_55 : decode M_Mod_again.2.1 55 = .ok (.aload_n 0, 1) := by decide +kernel
theorem d_Mod_again_56 : decode M_Mod_again.2.1 56 = .ok (.getfield 21, 3) := by decide +kernel
theorem d_Mod_again_59 : decode M_Mod_again.2.1 59 = .ok (.iload_n 2, 1) := by decide +kernel
theorem d_Mod_again_60 : decode M_Mod_again.2.1 60 = .ok (.aload_n 1, 1) := by decide +kernel
theorem d_Mod_again_61 : decode M_Mod_again.2.1 61 = .ok (.bipush 18, 2) := by decide +kernel
theorem d_Mod_again_63 : decode M_Mod_again.2.1 63 = .ok (.iload_n 2, 1) := by decide +kernel
theorem d_Mod_again_64 : decode M_Mod_again.2.1 64 = .ok (.iadd, 1) := by decide +kernel
theorem d_Mod_again_65 : decode M_Mod_again.2.1 65 = .ok (.iaload, 1) := by decide +kernel
theorem d_Mod_again_66 : decode M_Mod_again.2.1 66 = .ok (.iastore, 1) := by decide +kernel
theorem d_Mod_again_67 : decode M_Mod_again.2.1 67 = .ok (.iinc 2 1, 3) := by decide +kernel
theorem d_Mod_again_70 : decode M_Mod_again.2.1 70 = .ok (.goto (-21), 3) := by decide +kernel
theorem d_Mod_again_8 : decode M_Mod_again.2.1 8 = .ok (.aload_n 0, 1) := by decide +kernel
theorem d_Mod_again_9 : decode M_Mod_again.2.1 9 = .ok (.getfield 9, 3) := by decide +kernel
theorem d_Mod_again_12 : decode M_Mod_again.2.1 12 = .ok (.iload_n 2, 1) := by decide +kernel
theorem d_Mod_again_13 : decode M_Mod_again.2.1 13 = .ok (.aload_n 1, 1) := by decide +kernel
theorem d_Mod_again_14 : decode M_Mod_again.2.1 14 = .ok (.iload_n 2, 1) := by decide +kernel
theorem d_Mod_again_15 : decode M_Mod_again.2.1 15 = .ok (.iaload, 1) := by decide +kernel
theorem d_Mod_again_16 : decode M_Mod_again.2.1 16 = .ok (.iastore, 1) := by decide +kernel
theorem d_Mod_again_17 : decode M_Mod_again.2.1 17 = .ok (.aload_n 0, 1) := by decide +kernel
theorem d_Mod_again_18 : decode M_Mod_again.2.1 18 = .ok (.getfield 15, 3) := by decide +kernel
theorem d_Mod_again_21 : decode M_Mod_again.2.1 21 = .ok (.iload_n 2, 1) := by decide +kernel
theorem d_Mod_again_22 : decode M_Mod_again.2.1 22 = .ok (.aload_n 1, 1) := by decide +kernel
theorem d_Mod_again_23 : decode M_Mod_again.2.1 23 = .ok (.bipush 6, 2) := by decide +kernel
theorem d_Mod_again_25 : decode M_Mod_again.2.1 25 = .ok (.iload_n 2, 1) := by decide +kernel
theorem d_Mod_again_26 : decode M_Mod_again.2.1 26 = .ok (.iadd, 1) := by decide +kernel
theorem d_Mod_again_27 : decode M_Mod_again.2.1 27 = .ok (.iaload, 1) := by decide +kernel
theorem d_Mod_again_28 : decode M_Mod_again.2.1 28 = .ok (.iastore, 1) := by decide +kernel
theorem d_Mod_again_29 : decode M_Mod_again.2.1 29 = .ok (.aload_n 0, 1) := by decide +kernel
theorem d_Mod_again_30 : decode M_Mod_again.2.1 30 = .ok (.getfield 18, 3) := by decide +kernel
theorem d_Mod_again_33 : decode M_Mod_again.2.1 33 = .ok (.iload_n 2, 1) := by decide +kernel
theorem d_Mod_again_34 : decode M_Mod_again.2.1 34 = .ok (.aload_n 1, 1) := by decide +kernel
theorem d_Mod_again_35 : decode M_Mod_again.2.1 35 = .ok (.bipush 12, 2) := by decide +kernel
theorem d_Mod_again_37 : decode M_Mod_again.2.1 37 = .ok (.iload_n 2, 1) := by decide +kernel
theorem d_Mod_again_38 : decode M_Mod_again.2.1 38 = .ok (.iadd, 1) := by decide +kernel
theorem d_Mod_again_39 : decode M_Mod_again.2.1 39 = .ok (.iaload, 1) := by decide +kernel
theorem d_Mod_again_40 : decode M_Mod_again.2.1 40 = .ok (.iastore, 1) := by decide +kernel
theorem d_Mod_again_41 : decode M_Mod_again.2.1 41 = .ok (.iinc 2 1, 3) := by decide +kernel
theorem d_Mod_again_44 : decode M_Mod_again.2.1 44 = .ok (.goto (-42), 3) := by decide +kernel
def M_JInt_bitCount : XM := (⟨"java/lang/Integer", "bitCount", "(I)I"⟩, prog_13_method_49_code, 1, (some .int))
theorem d_JInt_bitCount_0 : decode M_JInt_bitCount.2.1 0 = .ok (.iload_n 0, 1) := by decide +kernel
theorem d_JInt_bitCount_1 : decode M_JInt_bitCount.2.1 1 = .ok (.iload_n 0, 1) := by decide +kernel
theorem d_JInt_bitCount_2 : decode M_JInt_bitCount.2.1 2 = .ok (.iconst 1, 1) := by decide +kernel
theorem d_JInt_bitCount_3 : decode M_JInt_bitCount.2.1 3 = .ok (.iushr, 1) := by decide +kernel
theorem d_JInt_bitCount_4 : decode M_JInt_bitCount.2.1 4 = .ok (.ldc_w 265, 3) := by decide +kernel
theorem d_JInt_bitCount_7 : decode M_JInt_bitCount.2.1 7 = .ok (.iand, 1) := by decide +kernel
theorem d_JInt_bitCount_8 : decode M_JInt_bitCount.2.1 8 = .ok (.isub, 1) := by decide +kernel
theorem d_JInt_bitCount_9 : decode M_JInt_bitCount.2.1 9 = .ok (.istore_n 0, 1) := by decide +kernel
theorem d_JInt_bitCount_10 : decode M_JInt_bitCount.2.1 10 = .ok (.iload_n 0, 1) := by decide +kernel
theorem d_JInt_bitCount_11 : decode M_JInt_bitCount.2.1 11 = .ok (.ldc_w 266, 3) := by decide +kernel
theorem d_JInt_bitCount_14 : decode M_JInt_bitCount.2.1 14 = .ok (.iand, 1) := by decide +kernel
theorem d_JInt_bitCount_15 : decode M_JInt_bitCount.2.1 15 = .ok (.iload_n 0, 1) := by decide +kernel
theorem d_JInt_bitCount_16 : decode M_JInt_bitCount.2.1 16 = .ok (.iconst 2, 1) := by decide +kernel
theorem d_JInt_bitCount_17 : decode M_JInt_bitCount.2.1 17 = .ok (.iushr, 1) := by decide +kernel
theorem d_JInt_bitCount_18 : decode M_JInt_bitCount.2.1 18 = .ok (.ldc_w 266, 3) := by decide +kernel
theorem d_JInt_bitCount_21 : decode M_JInt_bitCount.2.1 21 = .ok (.iand, 1) := by decide +kernel
theorem d_JInt_bitCount_22 : decode M_JInt_bitCount.2.1 22 = .ok (.iadd, 1) := by decide +kernel
theorem d_JInt_bitCount_23 : decode M_JInt_bitCount.2.1 23 = .ok (.istore_n 0, 1) := by decide +kernel
theorem d_JInt_bitCount_24 : decode M_JInt_bitCount.2.1 24 = .ok (.iload_n 0, 1) := by decide +kernel
theorem d_JInt_bitCount_25 : decode M_JInt_bitCount.2.1 25 = .ok (.iload_n 0, 1) := by decide +kernel
theorem d_JInt_bitCount_26 : decode M_JInt_bitCount.2.1 26 = .ok (.iconst 4, 1) := by decide +kernel
theorem d_JInt_bitCount_27 : decode M_JInt_bitCount.2.1 27 = .ok (.iushr, 1) := by decide +kernel
theorem d_JInt_bitCount_28 : decode M_JInt_bitCount.2.1 28 = .ok (.iadd, 1) := by decide +kernel
theorem d_JInt_bitCount_29 : decode M_JInt_bitCount.2.1 29 = .ok (.ldc_w 267, 3) := by decide +kernel
theorem d_JInt_bitCount_32 : decode M_JInt_bitCount.2.1 32 = .ok (.iand, 1) := by decide +kernel
theorem d_JInt_bitCount_33 : decode M_JInt_bitCount.2.1 33 = .ok (.istore_n 0, 1) := by decide +kernel
theorem d_JInt_bitCount_34 : decode M_JInt_bitCount.2.1 34 = .ok (.iload_n 0, 1) := by decide +kernel
theorem d_JInt_bitCount_35 : decode M_JInt_bitCount.2.1 35 = .ok (.iload_n 0, 1) := by decide +kernel
theorem d_JInt_bitCount_36 : decode M_JInt_bitCount.2.1 36 = .ok (.bipush 8, 2) := by decide +kernel
theorem d_JInt_bitCount_38 : decode M_JInt_bitCount.2.1 38 = .ok (.iushr, 1) := by decide +kernel
theorem d_JInt_bitCount_39 : decode M_JInt_bitCount.2.1 39 = .ok (.iadd, 1) := by decide +kernel
theorem d_JInt_bitCount_40 : decode M_JInt_bitCount.2.1 40 = .ok (.istore_n 0, 1) := by decide +kernel
theorem d_JInt_bitCount_41 : decode M_JInt_bitCount.2.1 41 = .ok (.iload_n 0, 1) := by decide +kernel
theorem d_JInt_bitCount_42 : decode M_JInt_bitCount.2.1 42 = .ok (.iload_n 0, 1) := by decide +kernel
theorem d_JInt_bitCount_43 : decode M_JInt_bitCount.2.1 43 = .ok (.bipush 16, 2) := by decide +kernel
theorem d_JInt_bitCount_45 : decode M_JInt_bitCount.2.1 45 = .ok (.iushr, 1) := by decide +kernel
theorem d_JInt_bitCount_46 : decode M_JInt_bitCount.2.1 46 = .ok (.iadd, 1) := by decide +kernel
theorem d_JInt_bitCount_47 : decode M_JInt_bitCount.2.1 47 = .ok (.istore_n 0, 1) := by decide +kernel
theorem d_JInt_bitCount_48 : decode M_JInt_bitCount.2.1 48 = .ok (.iload_n 0, 1) := by decide +kernel
theorem d_JInt_bitCount_49 : decode M_JInt_bitCount.2.1 49 = .ok (.bipush 63, 2) := by decide +kernel
theorem d_JInt_bitCount_51 : decode M_JInt_bitCount.2.1 51 = .ok (.iand, 1) := by decide +kernel
theorem d_JInt_bitCount_52 : decode M_JInt_bitCount.2.1 52 = .ok (.ireturn, 1) := by decide +kernel
theorem c_Mod_keep39 (X : Xn) (a ν : Nat → Nat) (σ : Nat → Nat → Int32) (τ : Nat → Int64)  : Does X 1 M_Mod_keep [.ref (a 0), .ref (a 39)] (MW X a ν σ τ) 0 0 (fun (vv : Option Value) (ww : va_W) => vv = none ∧ ww = MW X a ν (u2 σ 39 (keepF ν σ (σ 39))) τ) := by
  generalize hQ : (fun (vv : Option Value) (ww : va_W) => vv = none ∧ ww = MW X a ν (u2 σ 39 (keepF ν σ (σ 39))) τ) = Q
  refine Does.go rfl (Nat.le_of_ble_eq_true rfl) [some (.ref (a 0)), some (.ref (a 39)), none] 1 rfl ?_
  refine r_iconst (nI 0) rfl 1 rfl d_Mod_keep_0 ?_
  refine r_istore_n (ls2 := [some (.ref (a 0)), some (.ref (a 39)), some (.int (nI 0))]) 2 rfl d_Mod_keep_1 (by decide) rfl rfl ?_
  have L2_1 : ∀ (f : Nat) (i1 : Nat), (i1 ≤ 6) → 6 - i1 < f → Runs X 1 M_Mod_keep 0 0 Q 2 [some (.ref (a 0)), some (.ref (a 39)), some (.int (nI i1))] [] 0 0 (MW X a ν (u2 σ 39 (kA σ (σ 39) i1)) τ) := by
    intro f
    induction f with
    | zero => intro i1 hi1 hmu; exact absurd hmu (Nat.not_lt_zero _)
    | succ f ih2 =>
      intro i1 hi1 hmu
      refine r_iload_n rfl 3 rfl d_Mod_keep_2 ?_
      refine r_bipush (nI 6) rfl 5 rfl d_Mod_keep_3 ?_
      refine r_icmp_geN i1 6 (by omega) (by omega) 8 47 rfl rfl d_Mod_keep_5 (fun h5 => ?_) (fun h5 => ?_)
      · refine r_iconst (nI 0) rfl 48 rfl d_Mod_keep_47 ?_
        refine r_istore_n (ls2 := [some (.ref (a 0)), some (.ref (a 39)), some (.int (nI 0))]) 49 rfl d_Mod_keep_48 (by decide) rfl rfl ?_
        have L49_3 : ∀ (f : Nat) (i2 : Nat), (i2 ≤ 24) → 24 - i2 < f → Runs X 1 M_Mod_keep 0 0 Q 49 [some (.ref (a 0)), some (.ref (a 39)), some (.int (nI i2))] [] 0 0 (MW X a ν (u2 σ 39 (kB σ (σ 39) i2)) τ) := by
          intro f
          induction f with
          | zero => intro i2 hi2 hmu; exact absurd hmu (Nat.not_lt_zero _)
          | succ f ih4 =>
            intro i2 hi2 hmu
            refine r_iload_n rfl 50 rfl d_Mod_keep_49 ?_
            refine r_bipush (nI 24) rfl 52 rfl d_Mod_keep_50 ?_
            refine r_icmp_geN i2 24 (by omega) (by omega) 55 73 rfl rfl d_Mod_keep_52 (fun h52 => ?_) (fun h52 => ?_)
            · refine r_iconst (nI 0) rfl 74 rfl d_Mod_keep_73 ?_
              refine r_istore_n (ls2 := [some (.ref (a 0)), some (.ref (a 39)), some (.int (nI 0))]) 75 rfl d_Mod_keep_74 (by decide) rfl rfl ?_
              have L75_5 : ∀ (f : Nat) (i3 : Nat), (i3 ≤ 36) → 36 - i3 < f → Runs X 1 M_Mod_keep 0 0 Q 75 [some (.ref (a 0)), some (.ref (a 39)), some (.int (nI i3))] [] 0 0 (MW X a ν (u2 σ 39 (kC σ (σ 39) i3)) τ) := by
                intro f
                induction f with
                | zero => intro i3 hi3 hmu; exact absurd hmu (Nat.not_lt_zero _)
                | succ f ih6 =>
                  intro i3 hi3 hmu
                  refine r_iload_n rfl 76 rfl d_Mod_keep_75 ?_
                  refine r_bipush (nI 36) rfl 78 rfl d_Mod_keep_76 ?_
                  refine r_icmp_geN i3 36 (by omega) (by omega) 81 99 rfl rfl d_Mod_keep_78 (fun h78 => ?_) (fun h78 => ?_)
                  · refine r_iconst (nI 0) rfl 100 rfl d_Mod_keep_99 ?_
                    refine r_istore_n (ls2 := [some (.ref (a 0)), some (.ref (a 39)), some (.int (nI 0))]) 101 rfl d_Mod_keep_100 (by decide) rfl rfl ?_
                    have L101_7 : ∀ (f : Nat) (i4 : Nat), (i4 ≤ 5) → 5 - i4 < f → Runs X 1 M_Mod_keep 0 0 Q 101 [some (.ref (a 0)), some (.ref (a 39)), some (.int (nI i4))] [] 0 0 (MW X a ν (u2 σ 39 (kD σ (σ 39) i4)) τ) := by
                      intro f
                      induction f with
                      | zero => intro i4 hi4 hmu; exact absurd hmu (Nat.not_lt_zero _)
                      | succ f ih8 =>
                        intro i4 hi4 hmu
                        refine r_iload_n rfl 102 rfl d_Mod_keep_101 ?_
                        refine r_iconst (nI 5) rfl 103 rfl d_Mod_keep_102 ?_
                        refine r_icmp_geN i4 5 (by omega) (by omega) 106 172 rfl rfl d_Mod_keep_103 (fun h103 => ?_) (fun h103 => ?_)
                        · refine r_iconst (nI 0) rfl 173 rfl d_Mod_keep_172 ?_
                          refine r_istore_n (ls2 := [some (.ref (a 0)), some (.ref (a 39)), some (.int (nI 0))]) 174 rfl d_Mod_keep_173 (by decide) rfl rfl ?_
                          have L174_9 : ∀ (f : Nat) (i5 : Nat), (i5 ≤ 10) → 10 - i5 < f → Runs X 1 M_Mod_keep 0 0 Q 174 [some (.ref (a 0)), some (.ref (a 39)), some (.int (nI i5))] [] 0 0 (MW X a ν (u2 σ 39 (kE σ (σ 39) i5)) τ) := by
                            intro f
                            induction f with
                            | zero => intro i5 hi5 hmu; exact absurd hmu (Nat.not_lt_zero _)
                            | succ f ih10 =>
                              intro i5 hi5 hmu
                              refine r_iload_n rfl 175 rfl d_Mod_keep_174 ?_
                              refine r_bipush (nI 10) rfl 177 rfl d_Mod_keep_175 ?_
                              refine r_icmp_geN i5 10 (by omega) (by omega) 180 210 rfl rfl d_Mod_keep_177 (fun h177 => ?_) (fun h177 => ?_)
                              · refine r_iconst (nI 0) rfl 211 rfl d_Mod_keep_210 ?_
                                refine r_istore_n (ls2 := [some (.ref (a 0)), some (.ref (a 39)), some (.int (nI 0))]) 212 rfl d_Mod_keep_211 (by decide) rfl rfl ?_
                                have L212_11 : ∀ (f : Nat) (i6 : Nat), (i6 ≤ 8) → 8 - i6 < f → Runs X 1 M_Mod_keep 0 0 Q 212 [some (.ref (a 0)), some (.ref (a 39)), some (.int (nI i6))] [] 0 0 (MW X a ν (u2 σ 39 (kF σ (σ 39) i6)) τ) := by
                                  intro f
                                  induction f with
                                  | zero => intro i6 hi6 hmu; exact absurd hmu (Nat.not_lt_zero _)
                                  | succ f ih12 =>
                                    intro i6 hi6 hmu
                                    refine r_iload_n rfl 213 rfl d_Mod_keep_212 ?_
                                    refine r_bipush (nI 8) rfl 215 rfl d_Mod_keep_213 ?_
                                    refine r_icmp_geN i6 8 (by omega) (by omega) 218 262 rfl rfl d_Mod_keep_215 (fun h215 => ?_) (fun h215 => ?_)
                                    · refine r_aload_n rfl 263 rfl d_Mod_keep_262 ?_
                                      refine r_sipush (nI 147) rfl 266 rfl d_Mod_keep_263 ?_
                                      refine r_aload_n rfl 267 rfl d_Mod_keep_266 ?_
                                      refine r_getf (v := .int (nI (ν 0))) gf_Mod_111 0 rfl rfl 270 rfl d_Mod_keep_267 ?_
                                      refine r_iast (w2 := MW X a ν (u2 (u2 σ 39 (kF σ (σ 39) i6)) 39 (upd (kF σ (σ 39) i6) 147 (nI (ν 0)))) τ) 25 rfl 147 rfl (by omega) (by omega) rfl 271 rfl d_Mod_keep_270 ?_
                                      refine r_aload_n rfl 272 rfl d_Mod_keep_271 ?_
                                      refine r_sipush (nI 148) rfl 275 rfl d_Mod_keep_272 ?_
                                      refine r_aload_n rfl 276 rfl d_Mod_keep_275 ?_
                                      refine r_getf (v := .int (nI (ν 6))) gf_Mod_240 0 rfl rfl 279 rfl d_Mod_keep_276 ?_
                                      refine r_iast (w2 := MW X a ν (u2 (u2 (u2 σ 39 (kF σ (σ 39) i6)) 39 (upd (kF σ (σ 39) i6) 147 (nI (ν 0)))) 39 (upd (upd (kF σ (σ 39) i6) 147 (nI (ν 0))) 148 (nI (ν 6)))) τ) 25 rfl 148 rfl (by omega) (by omega) rfl 280 rfl d_Mod_keep_279 ?_
                                      refine r_aload_n rfl 281 rfl d_Mod_keep_280 ?_
                                      refine r_sipush (nI 149) rfl 284 rfl d_Mod_keep_281 ?_
                                      refine r_aload_n rfl 285 rfl d_Mod_keep_284 ?_
                                      refine r_getf (v := .int (nI (ν 23))) gf_Mod_297 0 rfl rfl 288 rfl d_Mod_keep_285 ?_
                                      refine r_iast (w2 := MW X a ν (u2 (u2 (u2 (u2 σ 39 (kF σ (σ 39) i6)) 39 (upd (kF σ (σ 39) i6) 147 (nI (ν 0)))) 39 (upd (upd (kF σ (σ 39) i6) 147 (nI (ν 0))) 148 (nI (ν 6)))) 39 (upd (upd (upd (kF σ (σ 39) i6) 147 (nI (ν 0))) 148 (nI (ν 6))) 149 (nI (ν 23)))) τ) 25 rfl 149 rfl (by omega) (by omega) rfl 289 rfl d_Mod_keep_288 ?_
                                      refine r_aload_n rfl 290 rfl d_Mod_keep_289 ?_
                                      refine r_sipush (nI 150) rfl 293 rfl d_Mod_keep_290 ?_
                                      refine r_aload_n rfl 294 rfl d_Mod_keep_293 ?_
                                      refine r_getf (v := .int (nI (ν 29))) gf_Mod_312 0 rfl rfl 297 rfl d_Mod_keep_294 ?_
                                      refine r_iast (w2 := MW X a ν (u2 (u2 (u2 (u2 (u2 σ 39 (kF σ (σ 39) i6)) 39 (upd (kF σ (σ 39) i6) 147 (nI (ν 0)))) 39 (upd (upd (kF σ (σ 39) i6) 147 (nI (ν 0))) 148 (nI (ν 6)))) 39 (upd (upd (upd (kF σ (σ 39) i6) 147 (nI (ν 0))) 148 (nI (ν 6))) 149 (nI (ν 23)))) 39 (upd (upd (upd (upd (kF σ (σ 39) i6) 147 (nI (ν 0))) 148 (nI (ν 6))) 149 (nI (ν 23))) 150 (nI (ν 29)))) τ) 25 rfl 150 rfl (by omega) (by omega) rfl 298 rfl d_Mod_keep_297 ?_
                                      refine r_aload_n rfl 299 rfl d_Mod_keep_298 ?_
                                      refine r_sipush (nI 151) rfl 302 rfl d_Mod_keep_299 ?_
                                      refine r_aload_n rfl 303 rfl d_Mod_keep_302 ?_
                                      refine r_getf (v := .int (nI (ν 32))) gf_Mod_319 0 rfl rfl 306 rfl d_Mod_keep_303 ?_
                                      refine r_iast (w2 := MW X a ν (u2 (u2 (u2 (u2 (u2 (u2 σ 39 (kF σ (σ 39) i6)) 39 (upd (kF σ (σ 39) i6) 147 (nI (ν 0)))) 39 (upd (upd (kF σ (σ 39) i6) 147 (nI (ν 0))) 148 (nI (ν 6)))) 39 (upd (upd (upd (kF σ (σ 39) i6) 147 (nI (ν 0))) 148 (nI (ν 6))) 149 (nI (ν 23)))) 39 (upd (upd (upd (upd (kF σ (σ 39) i6) 147 (nI (ν 0))) 148 (nI (ν 6))) 149 (nI (ν 23))) 150 (nI (ν 29)))) 39 (upd (upd (upd (upd (upd (kF σ (σ 39) i6) 147 (nI (ν 0))) 148 (nI (ν 6))) 149 (nI (ν 23))) 150 (nI (ν 29))) 151 (nI (ν 32)))) τ) 25 rfl 151 rfl (by omega) (by omega) rfl 307 rfl d_Mod_keep_306 ?_
                                      refine r_aload_n rfl 308 rfl d_Mod_keep_307 ?_
                                      refine r_sipush (nI 152) rfl 311 rfl d_Mod_keep_308 ?_
                                      refine r_aload_n rfl 312 rfl d_Mod_keep_311 ?_
                                      refine r_getf (v := .int (σ 14 0)) gf_Mod_107 0 rfl rfl 315 rfl d_Mod_keep_312 ?_
                                      refine r_iast (w2 := MW X a ν (u2 (u2 (u2 (u2 (u2 (u2 (u2 σ 39 (kF σ (σ 39) i6)) 39 (upd (kF σ (σ 39) i6) 147 (nI (ν 0)))) 39 (upd (upd (kF σ (σ 39) i6) 147 (nI (ν 0))) 148 (nI (ν 6)))) 39 (upd (upd (upd (kF σ (σ 39) i6) 147 (nI (ν 0))) 148 (nI (ν 6))) 149 (nI (ν 23)))) 39 (upd (upd (upd (upd (kF σ (σ 39) i6) 147 (nI (ν 0))) 148 (nI (ν 6))) 149 (nI (ν 23))) 150 (nI (ν 29)))) 39 (upd (upd (upd (upd (upd (kF σ (σ 39) i6) 147 (nI (ν 0))) 148 (nI (ν 6))) 149 (nI (ν 23))) 150 (nI (ν 29))) 151 (nI (ν 32)))) 39 (upd (upd (upd (upd (upd (upd (kF σ (σ 39) i6) 147 (nI (ν 0))) 148 (nI (ν 6))) 149 (nI (ν 23))) 150 (nI (ν 29))) 151 (nI (ν 32))) 152 (σ 14 0))) τ) 25 rfl 152 rfl (by omega) (by omega) rfl 316 rfl d_Mod_keep_315 ?_
                                      exact r_vret rfl (Nat.zero_le _) (Nat.zero_le _) d_Mod_keep_316 (by rw [← hQ]; exact ⟨rfl, by rw [show i6 = 8 by omega]; simp only [u2_u2]; rfl⟩)
                                    · refine r_aload_n rfl 219 rfl d_Mod_keep_218 ?_
                                      refine r_bipush (nI 123) rfl 221 rfl d_Mod_keep_219 ?_
                                      refine r_iload_n rfl 222 rfl d_Mod_keep_221 ?_
                                      refine r_iadd 223 rfl d_Mod_keep_222 ?_
                                      refine r_topi (nI (123 + i6)) (nI_add _ _) ?_
                                      refine r_aload_n rfl 224 rfl d_Mod_keep_223 ?_
                                      refine r_getf (v := .ref (a 33)) gf_Mod_73 0 rfl rfl 227 rfl d_Mod_keep_224 ?_
                                      refine r_iload_n rfl 228 rfl d_Mod_keep_227 ?_
                                      refine r_iald 21 rfl i6 rfl (by omega) (by omega) 229 rfl d_Mod_keep_228 ?_
                                      refine r_iast (w2 := MW X a ν (u2 (u2 σ 39 (kF σ (σ 39) i6)) 39 (upd (kF σ (σ 39) i6) (123 + i6) (σ 33 i6))) τ) 25 rfl (123 + i6) rfl (by omega) (by omega) rfl 230 rfl d_Mod_keep_229 ?_
                                      refine r_aload_n rfl 231 rfl d_Mod_keep_230 ?_
                                      refine r_sipush (nI 131) rfl 234 rfl d_Mod_keep_231 ?_
                                      refine r_iload_n rfl 235 rfl d_Mod_keep_234 ?_
                                      refine r_iadd 236 rfl d_Mod_keep_235 ?_
                                      refine r_topi (nI (131 + i6)) (nI_add _ _) ?_
                                      refine r_aload_n rfl 237 rfl d_Mod_keep_236 ?_
                                      refine r_getf (v := .ref (a 34)) gf_Mod_76 0 rfl rfl 240 rfl d_Mod_keep_237 ?_
                                      refine r_iload_n rfl 241 rfl d_Mod_keep_240 ?_
                                      refine r_iald 22 rfl i6 rfl (by omega) (by omega) 242 rfl d_Mod_keep_241 ?_
                                      refine r_iast (w2 := MW X a ν (u2 (u2 (u2 σ 39 (kF σ (σ 39) i6)) 39 (upd (kF σ (σ 39) i6) (123 + i6) (σ 33 i6))) 39 (upd (upd (kF σ (σ 39) i6) (123 + i6) (σ 33 i6)) (131 + i6) (σ 34 i6))) τ) 25 rfl (131 + i6) rfl (by omega) (by omega) rfl 243 rfl d_Mod_keep_242 ?_
                                      refine r_aload_n rfl 244 rfl d_Mod_keep_243 ?_
                                      refine r_sipush (nI 139) rfl 247 rfl d_Mod_keep_244 ?_
                                      refine r_iload_n rfl 248 rfl d_Mod_keep_247 ?_
                                      refine r_iadd 249 rfl d_Mod_keep_248 ?_
                                      refine r_topi (nI (139 + i6)) (nI_add _ _) ?_
                                      refine r_aload_n rfl 250 rfl d_Mod_keep_249 ?_
                                      refine r_getf (v := .ref (a 35)) gf_Mod_79 0 rfl rfl 253 rfl d_Mod_keep_250 ?_
                                      refine r_iload_n rfl 254 rfl d_Mod_keep_253 ?_
                                      refine r_iald 23 rfl i6 rfl (by omega) (by omega) 255 rfl d_Mod_keep_254 ?_
                                      refine r_iast (w2 := MW X a ν (u2 (u2 (u2 (u2 σ 39 (kF σ (σ 39) i6)) 39 (upd (kF σ (σ 39) i6) (123 + i6) (σ 33 i6))) 39 (upd (upd (kF σ (σ 39) i6) (123 + i6) (σ 33 i6)) (131 + i6) (σ 34 i6))) 39 (upd (upd (upd (kF σ (σ 39) i6) (123 + i6) (σ 33 i6)) (131 + i6) (σ 34 i6)) (139 + i6) (σ 35 i6))) τ) 25 rfl (139 + i6) rfl (by omega) (by omega) rfl 256 rfl d_Mod_keep_255 ?_
                                      refine r_iinc (ls2 := [some (.ref (a 0)), some (.ref (a 39)), some (.int (nI (i6 + 1)))]) (nI (i6 + 1)) rfl (nI_1 _) 259 rfl d_Mod_keep_256 (by decide) rfl rfl ?_
                                      refine r_goto 212 rfl d_Mod_keep_259 ?_
                                      refine Runs.cast (ih12 (i6 + 1) (by omega) (by omega)) (rfl) rfl (by rw [u2_u2, u2_u2, u2_u2, kF_s (by omega)])
                                refine Runs.cast (L212_11 _ 0 (by omega) (Nat.lt_succ_self _)) (rfl) rfl (by rw [show i5 = 10 by omega, kF_0])
                              · refine r_aload_n rfl 181 rfl d_Mod_keep_180 ?_
                                refine r_bipush (nI 103) rfl 183 rfl d_Mod_keep_181 ?_
                                refine r_iload_n rfl 184 rfl d_Mod_keep_183 ?_
                                refine r_iadd 185 rfl d_Mod_keep_184 ?_
                                refine r_topi (nI (103 + i5)) (nI_add _ _) ?_
                                refine r_aload_n rfl 186 rfl d_Mod_keep_185 ?_
                                refine r_getf (v := .ref (a 30)) gf_Mod_67 0 rfl rfl 189 rfl d_Mod_keep_186 ?_
                                refine r_iload_n rfl 190 rfl d_Mod_keep_189 ?_
                                refine r_iald 19 rfl i5 rfl (by omega) (by omega) 191 rfl d_Mod_keep_190 ?_
                                refine r_iast (w2 := MW X a ν (u2 (u2 σ 39 (kE σ (σ 39) i5)) 39 (upd (kE σ (σ 39) i5) (103 + i5) (σ 30 i5))) τ) 25 rfl (103 + i5) rfl (by omega) (by omega) rfl 192 rfl d_Mod_keep_191 ?_
                                refine r_aload_n rfl 193 rfl d_Mod_keep_192 ?_
                                refine r_bipush (nI 113) rfl 195 rfl d_Mod_keep_193 ?_
                                refine r_iload_n rfl 196 rfl d_Mod_keep_195 ?_
                                refine r_iadd 197 rfl d_Mod_keep_196 ?_
                                refine r_topi (nI (113 + i5)) (nI_add _ _) ?_
                                refine r_aload_n rfl 198 rfl d_Mod_keep_197 ?_
                                refine r_getf (v := .ref (a 31)) gf_Mod_70 0 rfl rfl 201 rfl d_Mod_keep_198 ?_
                                refine r_iload_n rfl 202 rfl d_Mod_keep_201 ?_
                                refine r_iald 20 rfl i5 rfl (by omega) (by omega) 203 rfl d_Mod_keep_202 ?_
                                refine r_iast (w2 := MW X a ν (u2 (u2 (u2 σ 39 (kE σ (σ 39) i5)) 39 (upd (kE σ (σ 39) i5) (103 + i5) (σ 30 i5))) 39 (upd (upd (kE σ (σ 39) i5) (103 + i5) (σ 30 i5)) (113 + i5) (σ 31 i5))) τ) 25 rfl (113 + i5) rfl (by omega) (by omega) rfl 204 rfl d_Mod_keep_203 ?_
                                refine r_iinc (ls2 := [some (.ref (a 0)), some (.ref (a 39)), some (.int (nI (i5 + 1)))]) (nI (i5 + 1)) rfl (nI_1 _) 207 rfl d_Mod_keep_204 (by decide) rfl rfl ?_
                                refine r_goto 174 rfl d_Mod_keep_207 ?_
                                refine Runs.cast (ih10 (i5 + 1) (by omega) (by omega)) (rfl) rfl (by rw [u2_u2, u2_u2, kE_s (by omega)])
                          refine Runs.cast (L174_9 _ 0 (by omega) (Nat.lt_succ_self _)) (rfl) rfl (by rw [show i4 = 5 by omega, kE_0])
                        · refine r_aload_n rfl 107 rfl d_Mod_keep_106 ?_
                          refine r_bipush (nI 78) rfl 109 rfl d_Mod_keep_107 ?_
                          refine r_iload_n rfl 110 rfl d_Mod_keep_109 ?_
                          refine r_iadd 111 rfl d_Mod_keep_110 ?_
                          refine r_topi (nI (78 + i4)) (nI_add _ _) ?_
                          refine r_aload_n rfl 112 rfl d_Mod_keep_111 ?_
                          refine r_getf (v := .ref (a 24)) gf_Mod_52 0 rfl rfl 115 rfl d_Mod_keep_112 ?_
                          refine r_iload_n rfl 116 rfl d_Mod_keep_115 ?_
                          refine r_iald 14 rfl i4 rfl (by omega) (by omega) 117 rfl d_Mod_keep_116 ?_
                          refine r_iast (w2 := MW X a ν (u2 (u2 σ 39 (kD σ (σ 39) i4)) 39 (upd (kD σ (σ 39) i4) (78 + i4) (σ 24 i4))) τ) 25 rfl (78 + i4) rfl (by omega) (by omega) rfl 118 rfl d_Mod_keep_117 ?_
                          refine r_aload_n rfl 119 rfl d_Mod_keep_118 ?_
                          refine r_bipush (nI 83) rfl 121 rfl d_Mod_keep_119 ?_
                          refine r_iload_n rfl 122 rfl d_Mod_keep_121 ?_
                          refine r_iadd 123 rfl d_Mod_keep_122 ?_
                          refine r_topi (nI (83 + i4)) (nI_add _ _) ?_
                          refine r_aload_n rfl 124 rfl d_Mod_keep_123 ?_
                          refine r_getf (v := .ref (a 25)) gf_Mod_55 0 rfl rfl 127 rfl d_Mod_keep_124 ?_
                          refine r_iload_n rfl 128 rfl d_Mod_keep_127 ?_
                          refine r_iald 15 rfl i4 rfl (by omega) (by omega) 129 rfl d_Mod_keep_128 ?_
                          refine r_iast (w2 := MW X a ν (u2 (u2 (u2 σ 39 (kD σ (σ 39) i4)) 39 (upd (kD σ (σ 39) i4) (78 + i4) (σ 24 i4))) 39 (upd (upd (kD σ (σ 39) i4) (78 + i4) (σ 24 i4)) (83 + i4) (σ 25 i4))) τ) 25 rfl (83 + i4) rfl (by omega) (by omega) rfl 130 rfl d_Mod_keep_129 ?_
                          refine r_aload_n rfl 131 rfl d_Mod_keep_130 ?_
                          refine r_bipush (nI 88) rfl 133 rfl d_Mod_keep_131 ?_
                          refine r_iload_n rfl 134 rfl d_Mod_keep_133 ?_
                          refine r_iadd 135 rfl d_Mod_keep_134 ?_
                          refine r_topi (nI (88 + i4)) (nI_add _ _) ?_
                          refine r_aload_n rfl 136 rfl d_Mod_keep_135 ?_
                          refine r_getf (v := .ref (a 26)) gf_Mod_58 0 rfl rfl 139 rfl d_Mod_keep_136 ?_
                          refine r_iload_n rfl 140 rfl d_Mod_keep_139 ?_
                          refine r_iald 16 rfl i4 rfl (by omega) (by omega) 141 rfl d_Mod_keep_140 ?_
                          refine r_iast (w2 := MW X a ν (u2 (u2 (u2 (u2 σ 39 (kD σ (σ 39) i4)) 39 (upd (kD σ (σ 39) i4) (78 + i4) (σ 24 i4))) 39 (upd (upd (kD σ (σ 39) i4) (78 + i4) (σ 24 i4)) (83 + i4) (σ 25 i4))) 39 (upd (upd (upd (kD σ (σ 39) i4) (78 + i4) (σ 24 i4)) (83 + i4) (σ 25 i4)) (88 + i4) (σ 26 i4))) τ) 25 rfl (88 + i4) rfl (by omega) (by omega) rfl 142 rfl d_Mod_keep_141 ?_
                          refine r_aload_n rfl 143 rfl d_Mod_keep_142 ?_
                          refine r_bipush (nI 93) rfl 145 rfl d_Mod_keep_143 ?_
                          refine r_iload_n rfl 146 rfl d_Mod_keep_145 ?_
                          refine r_iadd 147 rfl d_Mod_keep_146 ?_
                          refine r_topi (nI (93 + i4)) (nI_add _ _) ?_
                          refine r_aload_n rfl 148 rfl d_Mod_keep_147 ?_
                          refine r_getf (v := .ref (a 27)) gf_Mod_61 0 rfl rfl 151 rfl d_Mod_keep_148 ?_
                          refine r_iload_n rfl 152 rfl d_Mod_keep_151 ?_
                          refine r_iald 17 rfl i4 rfl (by omega) (by omega) 153 rfl d_Mod_keep_152 ?_
                          refine r_iast (w2 := MW X a ν (u2 (u2 (u2 (u2 (u2 σ 39 (kD σ (σ 39) i4)) 39 (upd (kD σ (σ 39) i4) (78 + i4) (σ 24 i4))) 39 (upd (upd (kD σ (σ 39) i4) (78 + i4) (σ 24 i4)) (83 + i4) (σ 25 i4))) 39 (upd (upd (upd (kD σ (σ 39) i4) (78 + i4) (σ 24 i4)) (83 + i4) (σ 25 i4)) (88 + i4) (σ 26 i4))) 39 (upd (upd (upd (upd (kD σ (σ 39) i4) (78 + i4) (σ 24 i4)) (83 + i4) (σ 25 i4)) (88 + i4) (σ 26 i4)) (93 + i4) (σ 27 i4))) τ) 25 rfl (93 + i4) rfl (by omega) (by omega) rfl 154 rfl d_Mod_keep_153 ?_
                          refine r_aload_n rfl 155 rfl d_Mod_keep_154 ?_
                          refine r_bipush (nI 98) rfl 157 rfl d_Mod_keep_155 ?_
                          refine r_iload_n rfl 158 rfl d_Mod_keep_157 ?_
                          refine r_iadd 159 rfl d_Mod_keep_158 ?_
                          refine r_topi (nI (98 + i4)) (nI_add _ _) ?_
                          refine r_aload_n rfl 160 rfl d_Mod_keep_159 ?_
                          refine r_getf (v := .ref (a 28)) gf_Mod_64 0 rfl rfl 163 rfl d_Mod_keep_160 ?_
                          refine r_iload_n rfl 164 rfl d_Mod_keep_163 ?_
                          refine r_iald 18 rfl i4 rfl (by omega) (by omega) 165 rfl d_Mod_keep_164 ?_
                          refine r_iast (w2 := MW X a ν (u2 (u2 (u2 (u2 (u2 (u2 σ 39 (kD σ (σ 39) i4)) 39 (upd (kD σ (σ 39) i4) (78 + i4) (σ 24 i4))) 39 (upd (upd (kD σ (σ 39) i4) (78 + i4) (σ 24 i4)) (83 + i4) (σ 25 i4))) 39 (upd (upd (upd (kD σ (σ 39) i4) (78 + i4) (σ 24 i4)) (83 + i4) (σ 25 i4)) (88 + i4) (σ 26 i4))) 39 (upd (upd (upd (upd (kD σ (σ 39) i4) (78 + i4) (σ 24 i4)) (83 + i4) (σ 25 i4)) (88 + i4) (σ 26 i4)) (93 + i4) (σ 27 i4))) 39 (upd (upd (upd (upd (upd (kD σ (σ 39) i4) (78 + i4) (σ 24 i4)) (83 + i4) (σ 25 i4)) (88 + i4) (σ 26 i4)) (93 + i4) (σ 27 i4)) (98 + i4) (σ 28 i4))) τ) 25 rfl (98 + i4) rfl (by omega) (by omega) rfl 166 rfl d_Mod_keep_165 ?_
                          refine r_iinc (ls2 := [some (.ref (a 0)), some (.ref (a 39)), some (.int (nI (i4 + 1)))]) (nI (i4 + 1)) rfl (nI_1 _) 169 rfl d_Mod_keep_166 (by decide) rfl rfl ?_
                          refine r_goto 101 rfl d_Mod_keep_169 ?_
                          refine Runs.cast (ih8 (i4 + 1) (by omega) (by omega)) (rfl) rfl (by rw [u2_u2, u2_u2, u2_u2, u2_u2, u2_u2, kD_s (by omega)])
                    refine Runs.cast (L101_7 _ 0 (by omega) (Nat.lt_succ_self _)) (rfl) rfl (by rw [show i3 = 36 by omega, kD_0])
                  · refine r_aload_n rfl 82 rfl d_Mod_keep_81 ?_
                    refine r_bipush (nI 42) rfl 84 rfl d_Mod_keep_82 ?_
                    refine r_iload_n rfl 85 rfl d_Mod_keep_84 ?_
                    refine r_iadd 86 rfl d_Mod_keep_85 ?_
                    refine r_topi (nI (42 + i3)) (nI_add _ _) ?_
                    refine r_aload_n rfl 87 rfl d_Mod_keep_86 ?_
                    refine r_getf (v := .ref (a 5)) gf_Mod_24 0 rfl rfl 90 rfl d_Mod_keep_87 ?_
                    refine r_iload_n rfl 91 rfl d_Mod_keep_90 ?_
                    refine r_iald 5 rfl i3 rfl (by omega) (by omega) 92 rfl d_Mod_keep_91 ?_
                    refine r_iast (w2 := MW X a ν (u2 (u2 σ 39 (kC σ (σ 39) i3)) 39 (upd (kC σ (σ 39) i3) (42 + i3) (σ 5 i3))) τ) 25 rfl (42 + i3) rfl (by omega) (by omega) rfl 93 rfl d_Mod_keep_92 ?_
                    refine r_iinc (ls2 := [some (.ref (a 0)), some (.ref (a 39)), some (.int (nI (i3 + 1)))]) (nI (i3 + 1)) rfl (nI_1 _) 96 rfl d_Mod_keep_93 (by decide) rfl rfl ?_
                    refine r_goto 75 rfl d_Mod_keep_96 ?_
                    refine Runs.cast (ih6 (i3 + 1) (by omega) (by omega)) (rfl) rfl (by rw [u2_u2]; congr 1; congr 1; exact cpy_s0)
              refine Runs.cast (L75_5 _ 0 (by omega) (Nat.lt_succ_self _)) (rfl) rfl (by rw [show i2 = 24 by omega, kC_0])
            · refine r_aload_n rfl 56 rfl d_Mod_keep_55 ?_
              refine r_bipush (nI 18) rfl 58 rfl d_Mod_keep_56 ?_
              refine r_iload_n rfl 59 rfl d_Mod_keep_58 ?_
              refine r_iadd 60 rfl d_Mod_keep_59 ?_
              refine r_topi (nI (18 + i2)) (nI_add _ _) ?_
              refine r_aload_n rfl 61 rfl d_Mod_keep_60 ?_
              refine r_getf (v := .ref (a 4)) gf_Mod_21 0 rfl rfl 64 rfl d_Mod_keep_61 ?_
              refine r_iload_n rfl 65 rfl d_Mod_keep_64 ?_
              refine r_iald 4 rfl i2 rfl (by omega) (by omega) 66 rfl d_Mod_keep_65 ?_
              refine r_iast (w2 := MW X a ν (u2 (u2 σ 39 (kB σ (σ 39) i2)) 39 (upd (kB σ (σ 39) i2) (18 + i2) (σ 4 i2))) τ) 25 rfl (18 + i2) rfl (by omega) (by omega) rfl 67 rfl d_Mod_keep_66 ?_
              refine r_iinc (ls2 := [some (.ref (a 0)), some (.ref (a 39)), some (.int (nI (i2 + 1)))]) (nI (i2 + 1)) rfl (nI_1 _) 70 rfl d_Mod_keep_67 (by decide) rfl rfl ?_
              refine r_goto 49 rfl d_Mod_keep_70 ?_
              refine Runs.cast (ih4 (i2 + 1) (by omega) (by omega)) (rfl) rfl (by rw [u2_u2]; congr 1; congr 1; exact cpy_s0)
        refine Runs.cast (L49_3 _ 0 (by omega) (Nat.lt_succ_self _)) (rfl) rfl (by rw [show i1 = 6 by omega, kB_0])
      · refine r_aload_n rfl 9 rfl d_Mod_keep_8 ?_
        refine r_iload_n rfl 10 rfl d_Mod_keep_9 ?_
        refine r_aload_n rfl 11 rfl d_Mod_keep_10 ?_
        refine r_getf (v := .ref (a 1)) gf_Mod_9 0 rfl rfl 14 rfl d_Mod_keep_11 ?_
        refine r_iload_n rfl 15 rfl d_Mod_keep_14 ?_
        refine r_iald 1 rfl i1 rfl (by omega) (by omega) 16 rfl d_Mod_keep_15 ?_
        refine r_iast (w2 := MW X a ν (u2 (u2 σ 39 (kA σ (σ 39) i1)) 39 (upd (kA σ (σ 39) i1) i1 (σ 1 i1))) τ) 25 rfl i1 rfl (by omega) (by omega) rfl 17 rfl d_Mod_keep_16 ?_
        refine r_aload_n rfl 18 rfl d_Mod_keep_17 ?_
        refine r_bipush (nI 6) rfl 20 rfl d_Mod_keep_18 ?_
        refine r_iload_n rfl 21 rfl d_Mod_keep_20 ?_
        refine r_iadd 22 rfl d_Mod_keep_21 ?_
        refine r_topi (nI (6 + i1)) (nI_add _ _) ?_
        refine r_aload_n rfl 23 rfl d_Mod_keep_22 ?_
        refine r_getf (v := .ref (a 2)) gf_Mod_15 0 rfl rfl 26 rfl d_Mod_keep_23 ?_
        refine r_iload_n rfl 27 rfl d_Mod_keep_26 ?_
        refine r_iald 2 rfl i1 rfl (by omega) (by omega) 28 rfl d_Mod_keep_27 ?_
        refine r_iast (w2 := MW X a ν (u2 (u2 (u2 σ 39 (kA σ (σ 39) i1)) 39 (upd (kA σ (σ 39) i1) i1 (σ 1 i1))) 39 (upd (upd (kA σ (σ 39) i1) i1 (σ 1 i1)) (6 + i1) (σ 2 i1))) τ) 25 rfl (6 + i1) rfl (by omega) (by omega) rfl 29 rfl d_Mod_keep_28 ?_
        refine r_aload_n rfl 30 rfl d_Mod_keep_29 ?_
        refine r_bipush (nI 12) rfl 32 rfl d_Mod_keep_30 ?_
        refine r_iload_n rfl 33 rfl d_Mod_keep_32 ?_
        refine r_iadd 34 rfl d_Mod_keep_33 ?_
        refine r_topi (nI (12 + i1)) (nI_add _ _) ?_
        refine r_aload_n rfl 35 rfl d_Mod_keep_34 ?_
        refine r_getf (v := .ref (a 3)) gf_Mod_18 0 rfl rfl 38 rfl d_Mod_keep_35 ?_
        refine r_iload_n rfl 39 rfl d_Mod_keep_38 ?_
        refine r_iald 3 rfl i1 rfl (by omega) (by omega) 40 rfl d_Mod_keep_39 ?_
        refine r_iast (w2 := MW X a ν (u2 (u2 (u2 (u2 σ 39 (kA σ (σ 39) i1)) 39 (upd (kA σ (σ 39) i1) i1 (σ 1 i1))) 39 (upd (upd (kA σ (σ 39) i1) i1 (σ 1 i1)) (6 + i1) (σ 2 i1))) 39 (upd (upd (upd (kA σ (σ 39) i1) i1 (σ 1 i1)) (6 + i1) (σ 2 i1)) (12 + i1) (σ 3 i1))) τ) 25 rfl (12 + i1) rfl (by omega) (by omega) rfl 41 rfl d_Mod_keep_40 ?_
        refine r_iinc (ls2 := [some (.ref (a 0)), some (.ref (a 39)), some (.int (nI (i1 + 1)))]) (nI (i1 + 1)) rfl (nI_1 _) 44 rfl d_Mod_keep_41 (by decide) rfl rfl ?_
        refine r_goto 2 rfl d_Mod_keep_44 ?_
        refine Runs.cast (ih2 (i1 + 1) (by omega) (by omega)) (rfl) rfl (by rw [u2_u2, u2_u2, u2_u2, kA_s (by omega)])
  refine Runs.cast (L2_1 _ 0 (by omega) (Nat.lt_succ_self _)) (rfl) rfl (by rw [kA_0, u2_self])
theorem c_Mod_again39 (X : Xn) (a ν : Nat → Nat) (σ : Nat → Nat → Int32) (τ : Nat → Int64) (n0 d0 s0 p0 b0 : Nat) (e147 : σ 39 147 = nI n0) (e148 : σ 39 148 = nI d0) (e149 : σ 39 149 = nI s0) (e150 : σ 39 150 = nI p0) (e151 : σ 39 151 = nI b0) : Does X 1 M_Mod_again [.ref (a 0), .ref (a 39)] (MW X a ν σ τ) 0 0 (fun (vv : Option Value) (ww : va_W) => vv = none ∧ ww = MW X a (u1 (u1 (u1 (u1 (u1 ν 0 n0) 6 d0) 23 s0) 29 p0) 32 b0) (againF σ (σ 39)) τ) := by
  generalize hQ : (fun (vv : Option Value) (ww : va_W) => vv = none ∧ ww = MW X a (u1 (u1 (u1 (u1 (u1 ν 0 n0) 6 d0) 23 s0) 29 p0) 32 b0) (againF σ (σ 39)) τ) = Q
  refine Does.go rfl (Nat.le_of_ble_eq_true rfl) [some (.ref (a 0)), some (.ref (a 39)), none] 1 rfl ?_
  refine r_iconst (nI 0) rfl 1 rfl d_Mod_again_0 ?_
  refine r_istore_n (ls2 := [some (.ref (a 0)), some (.ref (a 39)), some (.int (nI 0))]) 2 rfl d_Mod_again_1 (by decide) rfl rfl ?_
  have L2_1 : ∀ (f : Nat) (i1 : Nat), (i1 ≤ 6) → 6 - i1 < f → Runs X 1 M_Mod_again 0 0 Q 2 [some (.ref (a 0)), some (.ref (a 39)), some (.int (nI i1))] [] 0 0 (MW X a ν (g3 σ (σ 39) i1) τ) := by
    intro f
    induction f with
    | zero => intro i1 hi1 hmu; exact absurd hmu (Nat.not_lt_zero _)
    | succ f ih2 =>
      intro i1 hi1 hmu
      refine r_iload_n rfl 3 rfl d_Mod_again_2 ?_
      refine r_bipush (nI 6) rfl 5 rfl d_Mod_again_3 ?_
      refine r_icmp_geN i1 6 (by omega) (by omega) 8 47 rfl rfl d_Mod_again_5 (fun h5 => ?_) (fun h5 => ?_)
      · refine r_iconst (nI 0) rfl 48 rfl d_Mod_again_47 ?_
        refine r_istore_n (ls2 := [some (.ref (a 0)), some (.ref (a 39)), some (.int (nI 0))]) 49 rfl d_Mod_again_48 (by decide) rfl rfl ?_
        have L49_3 : ∀ (f : Nat) (i2 : Nat), (i2 ≤ 24) → 24 - i2 < f → Runs X 1 M_Mod_again 0 0 Q 49 [some (.ref (a 0)), some (.ref (a 39)), some (.int (nI i2))] [] 0 0 (MW X a ν (g4 σ (σ 39) i2) τ) := by
          intro f
          induction f with
          | zero => intro i2 hi2 hmu; exact absurd hmu (Nat.not_lt_zero _)
          | succ f ih4 =>
            intro i2 hi2 hmu
            refine r_iload_n rfl 50 rfl d_Mod_again_49 ?_
            refine r_bipush (nI 24) rfl 52 rfl d_Mod_again_50 ?_
            refine r_icmp_geN i2 24 (by omega) (by omega) 55 73 rfl rfl d_Mod_again_52 (fun h52 => ?_) (fun h52 => ?_)
            · refine r_iconst (nI 0) rfl 74 rfl d_Mod_again_73 ?_
              refine r_istore_n (ls2 := [some (.ref (a 0)), some (.ref (a 39)), some (.int (nI 0))]) 75 rfl d_Mod_again_74 (by decide) rfl rfl ?_
              have L75_5 : ∀ (f : Nat) (i3 : Nat), (i3 ≤ 36) → 36 - i3 < f → Runs X 1 M_Mod_again 0 0 Q 75 [some (.ref (a 0)), some (.ref (a 39)), some (.int (nI i3))] [] 0 0 (MW X a ν (g5 σ (σ 39) i3) τ) := by
                intro f
                induction f with
                | zero => intro i3 hi3 hmu; exact absurd hmu (Nat.not_lt_zero _)
                | succ f ih6 =>
                  intro i3 hi3 hmu
                  refine r_iload_n rfl 76 rfl d_Mod_again_75 ?_
                  refine r_bipush (nI 36) rfl 78 rfl d_Mod_again_76 ?_
                  refine r_icmp_geN i3 36 (by omega) (by omega) 81 99 rfl rfl d_Mod_again_78 (fun h78 => ?_) (fun h78 => ?_)
                  · refine r_iconst (nI 0) rfl 100 rfl d_Mod_again_99 ?_
                    refine r_istore_n (ls2 := [some (.ref (a 0)), some (.ref (a 39)), some (.int (nI 0))]) 101 rfl d_Mod_again_100 (by decide) rfl rfl ?_
                    have L101_7 : ∀ (f : Nat) (i4 : Nat), (i4 ≤ 5) → 5 - i4 < f → Runs X 1 M_Mod_again 0 0 Q 101 [some (.ref (a 0)), some (.ref (a 39)), some (.int (nI i4))] [] 0 0 (MW X a ν (g6 σ (σ 39) i4) τ) := by
                      intro f
                      induction f with
                      | zero => intro i4 hi4 hmu; exact absurd hmu (Nat.not_lt_zero _)
                      | succ f ih8 =>
                        intro i4 hi4 hmu
                        refine r_iload_n rfl 102 rfl d_Mod_again_101 ?_
                        refine r_iconst (nI 5) rfl 103 rfl d_Mod_again_102 ?_
                        refine r_icmp_geN i4 5 (by omega) (by omega) 106 172 rfl rfl d_Mod_again_103 (fun h103 => ?_) (fun h103 => ?_)
                        · refine r_iconst (nI 0) rfl 173 rfl d_Mod_again_172 ?_
                          refine r_istore_n (ls2 := [some (.ref (a 0)), some (.ref (a 39)), some (.int (nI 0))]) 174 rfl d_Mod_again_173 (by decide) rfl rfl ?_
                          have L174_9 : ∀ (f : Nat) (i5 : Nat), (i5 ≤ 10) → 10 - i5 < f → Runs X 1 M_Mod_again 0 0 Q 174 [some (.ref (a 0)), some (.ref (a 39)), some (.int (nI i5))] [] 0 0 (MW X a ν (g7 σ (σ 39) i5) τ) := by
                            intro f
                            induction f with
                            | zero => intro i5 hi5 hmu; exact absurd hmu (Nat.not_lt_zero _)
                            | succ f ih10 =>
                              intro i5 hi5 hmu
                              refine r_iload_n rfl 175 rfl d_Mod_again_174 ?_
                              refine r_bipush (nI 10) rfl 177 rfl d_Mod_again_175 ?_
                              refine r_icmp_geN i5 10 (by omega) (by omega) 180 210 rfl rfl d_Mod_again_177 (fun h177 => ?_) (fun h177 => ?_)
                              · refine r_iconst (nI 0) rfl 211 rfl d_Mod_again_210 ?_
                                refine r_istore_n (ls2 := [some (.ref (a 0)), some (.ref (a 39)), some (.int (nI 0))]) 212 rfl d_Mod_again_211 (by decide) rfl rfl ?_
                                have L212_11 : ∀ (f : Nat) (i6 : Nat), (i6 ≤ 8) → 8 - i6 < f → Runs X 1 M_Mod_again 0 0 Q 212 [some (.ref (a 0)), some (.ref (a 39)), some (.int (nI i6))] [] 0 0 (MW X a ν (g8 σ (σ 39) i6) τ) := by
                                  intro f
                                  induction f with
                                  | zero => intro i6 hi6 hmu; exact absurd hmu (Nat.not_lt_zero _)
                                  | succ f ih12 =>
                                    intro i6 hi6 hmu
                                    refine r_iload_n rfl 213 rfl d_Mod_again_212 ?_
                                    refine r_bipush (nI 8) rfl 215 rfl d_Mod_again_213 ?_
                                    refine r_icmp_geN i6 8 (by omega) (by omega) 218 262 rfl rfl d_Mod_again_215 (fun h215 => ?_) (fun h215 => ?_)
                                    · refine r_aload_n rfl 263 rfl d_Mod_again_262 ?_
                                      refine r_aload_n rfl 264 rfl d_Mod_again_263 ?_
                                      refine r_sipush (nI 147) rfl 267 rfl d_Mod_again_264 ?_
                                      refine r_iald 25 rfl 147 rfl (by omega) (by omega) 268 rfl d_Mod_again_267 ?_
                                      refine r_topi (nI n0) (e147) ?_
                                      refine r_putf (w2 := MW X a (u1 ν 0 n0) (g8 σ (σ 39) i6) τ) pf_Mod_111 0 rfl (rfl) rfl (Nat.le_of_ble_eq_true rfl) rfl 271 rfl d_Mod_again_268 ?_
                                      refine r_aload_n rfl 272 rfl d_Mod_again_271 ?_
                                      refine r_aload_n rfl 273 rfl d_Mod_again_272 ?_
                                      refine r_sipush (nI 148) rfl 276 rfl d_Mod_again_273 ?_
                                      refine r_iald 25 rfl 148 rfl (by omega) (by omega) 277 rfl d_Mod_again_276 ?_
                                      refine r_topi (nI d0) (e148) ?_
                                      refine r_putf (w2 := MW X a (u1 (u1 ν 0 n0) 6 d0) (g8 σ (σ 39) i6) τ) pf_Mod_240 0 rfl (rfl) rfl (Nat.le_of_ble_eq_true rfl) rfl 280 rfl d_Mod_again_277 ?_
                                      refine r_aload_n rfl 281 rfl d_Mod_again_280 ?_
                                      refine r_aload_n rfl 282 rfl d_Mod_again_281 ?_
                                      refine r_sipush (nI 149) rfl 285 rfl d_Mod_again_282 ?_
                                      refine r_iald 25 rfl 149 rfl (by omega) (by omega) 286 rfl d_Mod_again_285 ?_
                                      refine r_topi (nI s0) (e149) ?_
                                      refine r_putf (w2 := MW X a (u1 (u1 (u1 ν 0 n0) 6 d0) 23 s0) (g8 σ (σ 39) i6) τ) pf_Mod_297 0 rfl (rfl) rfl (Nat.le_of_ble_eq_true rfl) rfl 289 rfl d_Mod_again_286 ?_
                                      refine r_aload_n rfl 290 rfl d_Mod_again_289 ?_
                                      refine r_aload_n rfl 291 rfl d_Mod_again_290 ?_
                                      refine r_sipush (nI 150) rfl 294 rfl d_Mod_again_291 ?_
                                      refine r_iald 25 rfl 150 rfl (by omega) (by omega) 295 rfl d_Mod_again_294 ?_
                                      refine r_topi (nI p0) (e150) ?_
                                      refine r_putf (w2 := MW X a (u1 (u1 (u1 (u1 ν 0 n0) 6 d0) 23 s0) 29 p0) (g8 σ (σ 39) i6) τ) pf_Mod_312 0 rfl (rfl) rfl (Nat.le_of_ble_eq_true rfl) rfl 298 rfl d_Mod_again_295 ?_
                                      refine r_aload_n rfl 299 rfl d_Mod_again_298 ?_
                                      refine r_aload_n rfl 300 rfl d_Mod_again_299 ?_
                                      refine r_sipush (nI 151) rfl 303 rfl d_Mod_again_300 ?_
                                      refine r_iald 25 rfl 151 rfl (by omega) (by omega) 304 rfl d_Mod_again_303 ?_
                                      refine r_topi (nI b0) (e151) ?_
                                      refine r_putf (w2 := MW X a (u1 (u1 (u1 (u1 (u1 ν 0 n0) 6 d0) 23 s0) 29 p0) 32 b0) (g8 σ (σ 39) i6) τ) pf_Mod_319 0 rfl (rfl) rfl (Nat.le_of_ble_eq_true rfl) rfl 307 rfl d_Mod_again_304 ?_
                                      refine r_aload_n rfl 308 rfl d_Mod_again_307 ?_
                                      refine r_aload_n rfl 309 rfl d_Mod_again_308 ?_
                                      refine r_sipush (nI 152) rfl 312 rfl d_Mod_again_309 ?_
                                      refine r_iald 25 rfl 152 rfl (by omega) (by omega) 313 rfl d_Mod_again_312 ?_
                                      refine r_putf (w2 := MW X a (u1 (u1 (u1 (u1 (u1 ν 0 n0) 6 d0) 23 s0) 29 p0) 32 b0) (u2 (g8 σ (σ 39) i6) 14 (upd (σ 14) 0 (σ 39 152))) τ) pf_Mod_107 0 rfl (rfl) rfl (Nat.le_of_ble_eq_true rfl) rfl 316 rfl d_Mod_again_313 ?_
                                      exact r_vret rfl (Nat.zero_le _) (Nat.zero_le _) d_Mod_again_316 (by rw [← hQ]; exact ⟨rfl, by rw [show i6 = 8 by omega]; rfl⟩)
                                    · refine r_aload_n rfl 219 rfl d_Mod_again_218 ?_
                                      refine r_getf (v := .ref (a 33)) gf_Mod_73 0 rfl rfl 222 rfl d_Mod_again_219 ?_
                                      refine r_iload_n rfl 223 rfl d_Mod_again_222 ?_
                                      refine r_aload_n rfl 224 rfl d_Mod_again_223 ?_
                                      refine r_bipush (nI 123) rfl 226 rfl d_Mod_again_224 ?_
                                      refine r_iload_n rfl 227 rfl d_Mod_again_226 ?_
                                      refine r_iadd 228 rfl d_Mod_again_227 ?_
                                      refine r_topi (nI (123 + i6)) (nI_add _ _) ?_
                                      refine r_iald 25 rfl (123 + i6) rfl (by omega) (by omega) 229 rfl d_Mod_again_228 ?_
                                      refine r_iast (w2 := MW X a ν (u2 (g8 σ (σ 39) i6) 33 (upd (va_cpy (σ 39) (σ 33) 123 0 i6) i6 (σ 39 (123 + i6)))) τ) 21 rfl i6 rfl (by omega) (by omega) rfl 230 rfl d_Mod_again_229 ?_
                                      refine r_aload_n rfl 231 rfl d_Mod_again_230 ?_
                                      refine r_getf (v := .ref (a 34)) gf_Mod_76 0 rfl rfl 234 rfl d_Mod_again_231 ?_
                                      refine r_iload_n rfl 235 rfl d_Mod_again_234 ?_
                                      refine r_aload_n rfl 236 rfl d_Mod_again_235 ?_
                                      refine r_sipush (nI 131) rfl 239 rfl d_Mod_again_236 ?_
                                      refine r_iload_n rfl 240 rfl d_Mod_again_239 ?_
                                      refine r_iadd 241 rfl d_Mod_again_240 ?_
                                      refine r_topi (nI (131 + i6)) (nI_add _ _) ?_
                                      refine r_iald 25 rfl (131 + i6) rfl (by omega) (by omega) 242 rfl d_Mod_again_241 ?_
                                      refine r_iast (w2 := MW X a ν (u2 (u2 (g8 σ (σ 39) i6) 33 (upd (va_cpy (σ 39) (σ 33) 123 0 i6) i6 (σ 39 (123 + i6)))) 34 (upd (va_cpy (σ 39) (σ 34) 131 0 i6) i6 (σ 39 (131 + i6)))) τ) 22 rfl i6 rfl (by omega) (by omega) rfl 243 rfl d_Mod_again_242 ?_
                                      refine r_aload_n rfl 244 rfl d_Mod_again_243 ?_
                                      refine r_getf (v := .ref (a 35)) gf_Mod_79 0 rfl rfl 247 rfl d_Mod_again_244 ?_
                                      refine r_iload_n rfl 248 rfl d_Mod_again_247 ?_
                                      refine r_aload_n rfl 249 rfl d_Mod_again_248 ?_
                                      refine r_sipush (nI 139) rfl 252 rfl d_Mod_again_249 ?_
                                      refine r_iload_n rfl 253 rfl d_Mod_again_252 ?_
                                      refine r_iadd 254 rfl d_Mod_again_253 ?_
                                      refine r_topi (nI (139 + i6)) (nI_add _ _) ?_
                                      refine r_iald 25 rfl (139 + i6) rfl (by omega) (by omega) 255 rfl d_Mod_again_254 ?_
                                      refine r_iast (w2 := MW X a ν (u2 (u2 (u2 (g8 σ (σ 39) i6) 33 (upd (va_cpy (σ 39) (σ 33) 123 0 i6) i6 (σ 39 (123 + i6)))) 34 (upd (va_cpy (σ 39) (σ 34) 131 0 i6) i6 (σ 39 (131 + i6)))) 35 (upd (va_cpy (σ 39) (σ 35) 139 0 i6) i6 (σ 39 (139 + i6)))) τ) 23 rfl i6 rfl (by omega) (by omega) rfl 256 rfl d_Mod_again_255 ?_
                                      refine r_iinc (ls2 := [some (.ref (a 0)), some (.ref (a 39)), some (.int (nI (i6 + 1)))]) (nI (i6 + 1)) rfl (nI_1 _) 259 rfl d_Mod_again_256 (by decide) rfl rfl ?_
                                      refine r_goto 212 rfl d_Mod_again_259 ?_
                                      refine Runs.cast (ih12 (i6 + 1) (by omega) (by omega)) (rfl) rfl (by rw [g8_s])
                                refine Runs.cast (L212_11 _ 0 (by omega) (Nat.lt_succ_self _)) (rfl) rfl (by rw [show i5 = 10 by omega, g8_0])
                              · refine r_aload_n rfl 181 rfl d_Mod_again_180 ?_
                                refine r_getf (v := .ref (a 30)) gf_Mod_67 0 rfl rfl 184 rfl d_Mod_again_181 ?_
                                refine r_iload_n rfl 185 rfl d_Mod_again_184 ?_
                                refine r_aload_n rfl 186 rfl d_Mod_again_185 ?_
                                refine r_bipush (nI 103) rfl 188 rfl d_Mod_again_186 ?_
                                refine r_iload_n rfl 189 rfl d_Mod_again_188 ?_
                                refine r_iadd 190 rfl d_Mod_again_189 ?_
                                refine r_topi (nI (103 + i5)) (nI_add _ _) ?_
                                refine r_iald 25 rfl (103 + i5) rfl (by omega) (by omega) 191 rfl d_Mod_again_190 ?_
                                refine r_iast (w2 := MW X a ν (u2 (g7 σ (σ 39) i5) 30 (upd (va_cpy (σ 39) (σ 30) 103 0 i5) i5 (σ 39 (103 + i5)))) τ) 19 rfl i5 rfl (by omega) (by omega) rfl 192 rfl d_Mod_again_191 ?_
                                refine r_aload_n rfl 193 rfl d_Mod_again_192 ?_
                                refine r_getf (v := .ref (a 31)) gf_Mod_70 0 rfl rfl 196 rfl d_Mod_again_193 ?_
                                refine r_iload_n rfl 197 rfl d_Mod_again_196 ?_
                                refine r_aload_n rfl 198 rfl d_Mod_again_197 ?_
                                refine r_bipush (nI 113) rfl 200 rfl d_Mod_again_198 ?_
                                refine r_iload_n rfl 201 rfl d_Mod_again_200 ?_
                                refine r_iadd 202 rfl d_Mod_again_201 ?_
                                refine r_topi (nI (113 + i5)) (nI_add _ _) ?_
                                refine r_iald 25 rfl (113 + i5) rfl (by omega) (by omega) 203 rfl d_Mod_again_202 ?_
                                refine r_iast (w2 := MW X a ν (u2 (u2 (g7 σ (σ 39) i5) 30 (upd (va_cpy (σ 39) (σ 30) 103 0 i5) i5 (σ 39 (103 + i5)))) 31 (upd (va_cpy (σ 39) (σ 31) 113 0 i5) i5 (σ 39 (113 + i5)))) τ) 20 rfl i5 rfl (by omega) (by omega) rfl 204 rfl d_Mod_again_203 ?_
                                refine r_iinc (ls2 := [some (.ref (a 0)), some (.ref (a 39)), some (.int (nI (i5 + 1)))]) (nI (i5 + 1)) rfl (nI_1 _) 207 rfl d_Mod_again_204 (by decide) rfl rfl ?_
                                refine r_goto 174 rfl d_Mod_again_207 ?_
                                refine Runs.cast (ih10 (i5 + 1) (by omega) (by omega)) (rfl) rfl (by rw [g7_s])
                          refine Runs.cast (L174_9 _ 0 (by omega) (Nat.lt_succ_self _)) (rfl) rfl (by rw [show i4 = 5 by omega, g7_0])
                        · refine r_aload_n rfl 107 rfl d_Mod_again_106 ?_
                          refine r_getf (v := .ref (a 24)) gf_Mod_52 0 rfl rfl 110 rfl d_Mod_again_107 ?_
                          refine r_iload_n rfl 111 rfl d_Mod_again_110 ?_
                          refine r_aload_n rfl 112 rfl d_Mod_again_111 ?_
                          refine r_bipush (nI 78) rfl 114 rfl d_Mod_again_112 ?_
                          refine r_iload_n rfl 115 rfl d_Mod_again_114 ?_
                          refine r_iadd 116 rfl d_Mod_again_115 ?_
                          refine r_topi (nI (78 + i4)) (nI_add _ _) ?_
                          refine r_iald 25 rfl (78 + i4) rfl (by omega) (by omega) 117 rfl d_Mod_again_116 ?_
                          refine r_iast (w2 := MW X a ν (u2 (g6 σ (σ 39) i4) 24 (upd (va_cpy (σ 39) (σ 24) 78 0 i4) i4 (σ 39 (78 + i4)))) τ) 14 rfl i4 rfl (by omega) (by omega) rfl 118 rfl d_Mod_again_117 ?_
                          refine r_aload_n rfl 119 rfl d_Mod_again_118 ?_
                          refine r_getf (v := .ref (a 25)) gf_Mod_55 0 rfl rfl 122 rfl d_Mod_again_119 ?_
                          refine r_iload_n rfl 123 rfl d_Mod_again_122 ?_
                          refine r_aload_n rfl 124 rfl d_Mod_again_123 ?_
                          refine r_bipush (nI 83) rfl 126 rfl d_Mod_again_124 ?_
                          refine r_iload_n rfl 127 rfl d_Mod_again_126 ?_
                          refine r_iadd 128 rfl d_Mod_again_127 ?_
                          refine r_topi (nI (83 + i4)) (nI_add _ _) ?_
                          refine r_iald 25 rfl (83 + i4) rfl (by omega) (by omega) 129 rfl d_Mod_again_128 ?_
                          refine r_iast (w2 := MW X a ν (u2 (u2 (g6 σ (σ 39) i4) 24 (upd (va_cpy (σ 39) (σ 24) 78 0 i4) i4 (σ 39 (78 + i4)))) 25 (upd (va_cpy (σ 39) (σ 25) 83 0 i4) i4 (σ 39 (83 + i4)))) τ) 15 rfl i4 rfl (by omega) (by omega) rfl 130 rfl d_Mod_again_129 ?_
                          refine r_aload_n rfl 131 rfl d_Mod_again_130 ?_
                          refine r_getf (v := .ref (a 26)) gf_Mod_58 0 rfl rfl 134 rfl d_Mod_again_131 ?_
                          refine r_iload_n rfl 135 rfl d_Mod_again_134 ?_
                          refine r_aload_n rfl 136 rfl d_Mod_again_135 ?_
                          refine r_bipush (nI 88) rfl 138 rfl d_Mod_again_136 ?_
                          refine r_iload_n rfl 139 rfl d_Mod_again_138 ?_
                          refine r_iadd 140 rfl d_Mod_again_139 ?_
                          refine r_topi (nI (88 + i4)) (nI_add _ _) ?_
                          refine r_iald 25 rfl (88 + i4) rfl (by omega) (by omega) 141 rfl d_Mod_again_140 ?_
                          refine r_iast (w2 := MW X a ν (u2 (u2 (u2 (g6 σ (σ 39) i4) 24 (upd (va_cpy (σ 39) (σ 24) 78 0 i4) i4 (σ 39 (78 + i4)))) 25 (upd (va_cpy (σ 39) (σ 25) 83 0 i4) i4 (σ 39 (83 + i4)))) 26 (upd (va_cpy (σ 39) (σ 26) 88 0 i4) i4 (σ 39 (88 + i4)))) τ) 16 rfl i4 rfl (by omega) (by omega) rfl 142 rfl d_Mod_again_141 ?_
                          refine r_aload_n rfl 143 rfl d_Mod_again_142 ?_
                          refine r_getf (v := .ref (a 27)) gf_Mod_61 0 rfl rfl 146 rfl d_Mod_again_143 ?_
                          refine r_iload_n rfl 147 rfl d_Mod_again_146 ?_
                          refine r_aload_n rfl 148 rfl d_Mod_again_147 ?_
                          refine r_bipush (nI 93) rfl 150 rfl d_Mod_again_148 ?_
                          refine r_iload_n rfl 151 rfl d_Mod_again_150 ?_
                          refine r_iadd 152 rfl d_Mod_again_151 ?_
                          refine r_topi (nI (93 + i4)) (nI_add _ _) ?_
                          refine r_iald 25 rfl (93 + i4) rfl (by omega) (by omega) 153 rfl d_Mod_again_152 ?_
                          refine r_iast (w2 := MW X a ν (u2 (u2 (u2 (u2 (g6 σ (σ 39) i4) 24 (upd (va_cpy (σ 39) (σ 24) 78 0 i4) i4 (σ 39 (78 + i4)))) 25 (upd (va_cpy (σ 39) (σ 25) 83 0 i4) i4 (σ 39 (83 + i4)))) 26 (upd (va_cpy (σ 39) (σ 26) 88 0 i4) i4 (σ 39 (88 + i4)))) 27 (upd (va_cpy (σ 39) (σ 27) 93 0 i4) i4 (σ 39 (93 + i4)))) τ) 17 rfl i4 rfl (by omega) (by omega) rfl 154 rfl d_Mod_again_153 ?_
                          refine r_aload_n rfl 155 rfl d_Mod_again_154 ?_
                          refine r_getf (v := .ref (a 28)) gf_Mod_64 0 rfl rfl 158 rfl d_Mod_again_155 ?_
                          refine r_iload_n rfl 159 rfl d_Mod_again_158 ?_
                          refine r_aload_n rfl 160 rfl d_Mod_again_159 ?_
                          refine r_bipush (nI 98) rfl 162 rfl d_Mod_again_160 ?_
                          refine r_iload_n rfl 163 rfl d_Mod_again_162 ?_
                          refine r_iadd 164 rfl d_Mod_again_163 ?_
                          refine r_topi (nI (98 + i4)) (nI_add _ _) ?_
                          refine r_iald 25 rfl (98 + i4) rfl (by omega) (by omega) 165 rfl d_Mod_again_164 ?_
                          refine r_iast (w2 := MW X a ν (u2 (u2 (u2 (u2 (u2 (g6 σ (σ 39) i4) 24 (upd (va_cpy (σ 39) (σ 24) 78 0 i4) i4 (σ 39 (78 + i4)))) 25 (upd (va_cpy (σ 39) (σ 25) 83 0 i4) i4 (σ 39 (83 + i4)))) 26 (upd (va_cpy (σ 39) (σ 26) 88 0 i4) i4 (σ 39 (88 + i4)))) 27 (upd (va_cpy (σ 39) (σ 27) 93 0 i4) i4 (σ 39 (93 + i4)))) 28 (upd (va_cpy (σ 39) (σ 28) 98 0 i4) i4 (σ 39 (98 + i4)))) τ) 18 rfl i4 rfl (by omega) (by omega) rfl 166 rfl d_Mod_again_165 ?_
                          refine r_iinc (ls2 := [some (.ref (a 0)), some (.ref (a 39)), some (.int (nI (i4 + 1)))]) (nI (i4 + 1)) rfl (nI_1 _) 169 rfl d_Mod_again_166 (by decide) rfl rfl ?_
                          refine r_goto 101 rfl d_Mod_again_169 ?_
                          refine Runs.cast (ih8 (i4 + 1) (by omega) (by omega)) (rfl) rfl (by rw [g6_s])
                    refine Runs.cast (L101_7 _ 0 (by omega) (Nat.lt_succ_self _)) (rfl) rfl (by rw [show i3 = 36 by omega, g6_0])
                  · refine r_aload_n rfl 82 rfl d_Mod_again_81 ?_
                    refine r_getf (v := .ref (a 5)) gf_Mod_24 0 rfl rfl 85 rfl d_Mod_again_82 ?_
                    refine r_iload_n rfl 86 rfl d_Mod_again_85 ?_
                    refine r_aload_n rfl 87 rfl d_Mod_again_86 ?_
                    refine r_bipush (nI 42) rfl 89 rfl d_Mod_again_87 ?_
                    refine r_iload_n rfl 90 rfl d_Mod_again_89 ?_
                    refine r_iadd 91 rfl d_Mod_again_90 ?_
                    refine r_topi (nI (42 + i3)) (nI_add _ _) ?_
                    refine r_iald 25 rfl (42 + i3) rfl (by omega) (by omega) 92 rfl d_Mod_again_91 ?_
                    refine r_iast (w2 := MW X a ν (u2 (g5 σ (σ 39) i3) 5 (upd (va_cpy (σ 39) (σ 5) 42 0 i3) i3 (σ 39 (42 + i3)))) τ) 5 rfl i3 rfl (by omega) (by omega) rfl 93 rfl d_Mod_again_92 ?_
                    refine r_iinc (ls2 := [some (.ref (a 0)), some (.ref (a 39)), some (.int (nI (i3 + 1)))]) (nI (i3 + 1)) rfl (nI_1 _) 96 rfl d_Mod_again_93 (by decide) rfl rfl ?_
                    refine r_goto 75 rfl d_Mod_again_96 ?_
                    refine Runs.cast (ih6 (i3 + 1) (by omega) (by omega)) (rfl) rfl (by rw [g5_s])
              refine Runs.cast (L75_5 _ 0 (by omega) (Nat.lt_succ_self _)) (rfl) rfl (by rw [show i2 = 24 by omega, g5_0])
            · refine r_aload_n rfl 56 rfl d_Mod_again_55 ?_
              refine r_getf (v := .ref (a 4)) gf_Mod_21 0 rfl rfl 59 rfl d_Mod_again_56 ?_
              refine r_iload_n rfl 60 rfl d_Mod_again_59 ?_
              refine r_aload_n rfl 61 rfl d_Mod_again_60 ?_
              refine r_bipush (nI 18) rfl 63 rfl d_Mod_again_61 ?_
              refine r_iload_n rfl 64 rfl d_Mod_again_63 ?_
              refine r_iadd 65 rfl d_Mod_again_64 ?_
              refine r_topi (nI (18 + i2)) (nI_add _ _) ?_
              refine r_iald 25 rfl (18 + i2) rfl (by omega) (by omega) 66 rfl d_Mod_again_65 ?_
              refine r_iast (w2 := MW X a ν (u2 (g4 σ (σ 39) i2) 4 (upd (va_cpy (σ 39) (σ 4) 18 0 i2) i2 (σ 39 (18 + i2)))) τ) 4 rfl i2 rfl (by omega) (by omega) rfl 67 rfl d_Mod_again_66 ?_
              refine r_iinc (ls2 := [some (.ref (a 0)), some (.ref (a 39)), some (.int (nI (i2 + 1)))]) (nI (i2 + 1)) rfl (nI_1 _) 70 rfl d_Mod_again_67 (by decide) rfl rfl ?_
              refine r_goto 49 rfl d_Mod_again_70 ?_
              refine Runs.cast (ih4 (i2 + 1) (by omega) (by omega)) (rfl) rfl (by rw [g4_s])
        refine Runs.cast (L49_3 _ 0 (by omega) (Nat.lt_succ_self _)) (rfl) rfl (by rw [show i1 = 6 by omega, g4_0])
      · refine r_aload_n rfl 9 rfl d_Mod_again_8 ?_
        refine r_getf (v := .ref (a 1)) gf_Mod_9 0 rfl rfl 12 rfl d_Mod_again_9 ?_
        refine r_iload_n rfl 13 rfl d_Mod_again_12 ?_
        refine r_aload_n rfl 14 rfl d_Mod_again_13 ?_
        refine r_iload_n rfl 15 rfl d_Mod_again_14 ?_
        refine r_iald 25 rfl i1 rfl (by omega) (by omega) 16 rfl d_Mod_again_15 ?_
        refine r_iast (w2 := MW X a ν (u2 (g3 σ (σ 39) i1) 1 (upd (va_cpy (σ 39) (σ 1) 0 0 i1) i1 (σ 39 i1))) τ) 1 rfl i1 rfl (by omega) (by omega) rfl 17 rfl d_Mod_again_16 ?_
        refine r_aload_n rfl 18 rfl d_Mod_again_17 ?_
        refine r_getf (v := .ref (a 2)) gf_Mod_15 0 rfl rfl 21 rfl d_Mod_again_18 ?_
        refine r_iload_n rfl 22 rfl d_Mod_again_21 ?_
        refine r_aload_n rfl 23 rfl d_Mod_again_22 ?_
        refine r_bipush (nI 6) rfl 25 rfl d_Mod_again_23 ?_
        refine r_iload_n rfl 26 rfl d_Mod_again_25 ?_
        refine r_iadd 27 rfl d_Mod_again_26 ?_
        refine r_topi (nI (6 + i1)) (nI_add _ _) ?_
        refine r_iald 25 rfl (6 + i1) rfl (by omega) (by omega) 28 rfl d_Mod_again_27 ?_
        refine r_iast (w2 := MW X a ν (u2 (u2 (g3 σ (σ 39) i1) 1 (upd (va_cpy (σ 39) (σ 1) 0 0 i1) i1 (σ 39 i1))) 2 (upd (va_cpy (σ 39) (σ 2) 6 0 i1) i1 (σ 39 (6 + i1)))) τ) 2 rfl i1 rfl (by omega) (by omega) rfl 29 rfl d_Mod_again_28 ?_
        refine r_aload_n rfl 30 rfl d_Mod_again_29 ?_
        refine r_getf (v := .ref (a 3)) gf_Mod_18 0 rfl rfl 33 rfl d_Mod_again_30 ?_
        refine r_iload_n rfl 34 rfl d_Mod_again_33 ?_
        refine r_aload_n rfl 35 rfl d_Mod_again_34 ?_
        refine r_bipush (nI 12) rfl 37 rfl d_Mod_again_35 ?_
        refine r_iload_n rfl 38 rfl d_Mod_again_37 ?_
        refine r_iadd 39 rfl d_Mod_again_38 ?_
        refine r_topi (nI (12 + i1)) (nI_add _ _) ?_
        refine r_iald 25 rfl (12 + i1) rfl (by omega) (by omega) 40 rfl d_Mod_again_39 ?_
        refine r_iast (w2 := MW X a ν (u2 (u2 (u2 (g3 σ (σ 39) i1) 1 (upd (va_cpy (σ 39) (σ 1) 0 0 i1) i1 (σ 39 i1))) 2 (upd (va_cpy (σ 39) (σ 2) 6 0 i1) i1 (σ 39 (6 + i1)))) 3 (upd (va_cpy (σ 39) (σ 3) 12 0 i1) i1 (σ 39 (12 + i1)))) τ) 3 rfl i1 rfl (by omega) (by omega) rfl 41 rfl d_Mod_again_40 ?_
        refine r_iinc (ls2 := [some (.ref (a 0)), some (.ref (a 39)), some (.int (nI (i1 + 1)))]) (nI (i1 + 1)) rfl (nI_1 _) 44 rfl d_Mod_again_41 (by decide) rfl rfl ?_
        refine r_goto 2 rfl d_Mod_again_44 ?_
        refine Runs.cast (ih2 (i1 + 1) (by omega) (by omega)) (rfl) rfl (by rw [g3_s])
  refine Runs.cast (L2_1 _ 0 (by omega) (Nat.lt_succ_self _)) (rfl) rfl (by rw [g3_0])
theorem c_Mod_keep40 (X : Xn) (a ν : Nat → Nat) (σ : Nat → Nat → Int32) (τ : Nat → Int64)  : Does X 1 M_Mod_keep [.ref (a 0), .ref (a 40)] (MW X a ν σ τ) 0 0 (fun (vv : Option Value) (ww : va_W) => vv = none ∧ ww = MW X a ν (u2 σ 40 (keepF ν σ (σ 40))) τ) := by
  generalize hQ : (fun (vv : Option Value) (ww : va_W) => vv = none ∧ ww = MW X a ν (u2 σ 40 (keepF ν σ (σ 40))) τ) = Q
  refine Does.go rfl (Nat.le_of_ble_eq_true rfl) [some (.ref (a 0)), some (.ref (a 40)), none] 1 rfl ?_
  refine r_iconst (nI 0) rfl 1 rfl d_Mod_keep_0 ?_
  refine r_istore_n (ls2 := [some (.ref (a 0)), some (.ref (a 40)), some (.int (nI 0))]) 2 rfl d_Mod_keep_1 (by decide) rfl rfl ?_
  have L2_1 : ∀ (f : Nat) (i1 : Nat), (i1 ≤ 6) → 6 - i1 < f → Runs X 1 M_Mod_keep 0 0 Q 2 [some (.ref (a 0)), some (.ref (a 40)), some (.int (nI i1))] [] 0 0 (MW X a ν (u2 σ 40 (kA σ (σ 40) i1)) τ) := by
    intro f
    induction f with
    | zero => intro i1 hi1 hmu; exact absurd hmu (Nat.not_lt_zero _)
    | succ f ih2 =>
      intro i1 hi1 hmu
      refine r_iload_n rfl 3 rfl d_Mod_keep_2 ?_
      refine r_bipush (nI 6) rfl 5 rfl d_Mod_keep_3 ?_
      refine r_icmp_geN i1 6 (by omega) (by omega) 8 47 rfl rfl d_Mod_keep_5 (fun h5 => ?_) (fun h5 => ?_)
      · refine r_iconst (nI 0) rfl 48 rfl d_Mod_keep_47 ?_
        refine r_istore_n (ls2 := [some (.ref (a 0)), some (.ref (a 40)), some (.int (nI 0))]) 49 rfl d_Mod_keep_48 (by decide) rfl rfl ?_
        have L49_3 : ∀ (f : Nat) (i2 : Nat), (i2 ≤ 24) → 24 - i2 < f → Runs X 1 M_Mod_keep 0 0 Q 49 [some (.ref (a 0)), some (.ref (a 40)), some (.int (nI i2))] [] 0 0 (MW X a ν (u2 σ 40 (kB σ (σ 40) i2)) τ) := by
          intro f
          induction f with
          | zero => intro i2 hi2 hmu; exact absurd hmu (Nat.not_lt_zero _)
          | succ f ih4 =>
            intro i2 hi2 hmu
            refine r_iload_n rfl 50 rfl d_Mod_keep_49 ?_
            refine r_bipush (nI 24) rfl 52 rfl d_Mod_keep_50 ?_
            refine r_icmp_geN i2 24 (by omega) (by omega) 55 73 rfl rfl d_Mod_keep_52 (fun h52 => ?_) (fun h52 => ?_)
            · refine r_iconst (nI 0) rfl 74 rfl d_Mod_keep_73 ?_
              refine r_istore_n (ls2 := [some (.ref (a 0)), some (.ref (a 40)), some (.int (nI 0))]) 75 rfl d_Mod_keep_74 (by decide) rfl rfl ?_
              have L75_5 : ∀ (f : Nat) (i3 : Nat), (i3 ≤ 36) → 36 - i3 < f → Runs X 1 M_Mod_keep 0 0 Q 75 [some (.ref (a 0)), some (.ref (a 40)), some (.int (nI i3))] [] 0 0 (MW X a ν (u2 σ 40 (kC σ (σ 40) i3)) τ) := by
                intro f
                induction f with
                | zero => intro i3 hi3 hmu; exact absurd hmu (Nat.not_lt_zero _)
                | succ f ih6 =>
                  intro i3 hi3 hmu
                  refine r_iload_n rfl 76 rfl d_Mod_keep_75 ?_
                  refine r_bipush (nI 36) rfl 78 rfl d_Mod_keep_76 ?_
                  refine r_icmp_geN i3 36 (by omega) (by omega) 81 99 rfl rfl d_Mod_keep_78 (fun h78 => ?_) (fun h78 => ?_)
                  · refine r_iconst (nI 0) rfl 100 rfl d_Mod_keep_99 ?_
                    refine r_istore_n (ls2 := [some (.ref (a 0)), some (.ref (a 40)), some (.int (nI 0))]) 101 rfl d_Mod_keep_100 (by decide) rfl rfl ?_
                    have L101_7 : ∀ (f : Nat) (i4 : Nat), (i4 ≤ 5) → 5 - i4 < f → Runs X 1 M_Mod_keep 0 0 Q 101 [some (.ref (a 0)), some (.ref (a 40)), some (.int (nI i4))] [] 0 0 (MW X a ν (u2 σ 40 (kD σ (σ 40) i4)) τ) := by
                      intro f
                      induction f with
                      | zero => intro i4 hi4 hmu; exact absurd hmu (Nat.not_lt_zero _)
                      | succ f ih8 =>
                        intro i4 hi4 hmu
                        refine r_iload_n rfl 102 rfl d_Mod_keep_101 ?_
                        refine r_iconst (nI 5) rfl 103 rfl d_Mod_keep_102 ?_
                        refine r_icmp_geN i4 5 (by omega) (by omega) 106 172 rfl rfl d_Mod_keep_103 (fun h103 => ?_) (fun h103 => ?_)
                        · refine r_iconst (nI 0) rfl 173 rfl d_Mod_keep_172 ?_
                          refine r_istore_n (ls2 := [some (.ref (a 0)), some (.ref (a 40)), some (.int (nI 0))]) 174 rfl d_Mod_keep_173 (by decide) rfl rfl ?_
                          have L174_9 : ∀ (f : Nat) (i5 : Nat), (i5 ≤ 10) → 10 - i5 < f → Runs X 1 M_Mod_keep 0 0 Q 174 [some (.ref (a 0)), some (.ref (a 40)), some (.int (nI i5))] [] 0 0 (MW X a ν (u2 σ 40 (kE σ (σ 40) i5)) τ) := by
                            intro f
                            induction f with
                            | zero => intro i5 hi5 hmu; exact absurd hmu (Nat.not_lt_zero _)
                            | succ f ih10 =>
                              intro i5 hi5 hmu
                              refine r_iload_n rfl 175 rfl d_Mod_keep_174 ?_
                              refine r_bipush (nI 10) rfl 177 rfl d_Mod_keep_175 ?_
                              refine r_icmp_geN i5 10 (by omega) (by omega) 180 210 rfl rfl d_Mod_keep_177 (fun h177 => ?_) (fun h177 => ?_)
                              · refine r_iconst (nI 0) rfl 211 rfl d_Mod_keep_210 ?_
                                refine r_istore_n (ls2 := [some (.ref (a 0)), some (.ref (a 40)), some (.int (nI 0))]) 212 rfl d_Mod_keep_211 (by decide) rfl rfl ?_
                                have L212_11 : ∀ (f : Nat) (i6 : Nat), (i6 ≤ 8) → 8 - i6 < f → Runs X 1 M_Mod_keep 0 0 Q 212 [some (.ref (a 0)), some (.ref (a 40)), some (.int (nI i6))] [] 0 0 (MW X a ν (u2 σ 40 (kF σ (σ 40) i6)) τ) := by
                                  intro f
                                  induction f with
                                  | zero => intro i6 hi6 hmu; exact absurd hmu (Nat.not_lt_zero _)
                                  | succ f ih12 =>
                                    intro i6 hi6 hmu
                                    refine r_iload_n rfl 213 rfl d_Mod_keep_212 ?_
                                    refine r_bipush (nI 8) rfl 215 rfl d_Mod_keep_213 ?_
                                    refine r_icmp_geN i6 8 (by omega) (by omega) 218 262 rfl rfl d_Mod_keep_215 (fun h215 => ?_) (fun h215 => ?_)
                                    · refine r_aload_n rfl 263 rfl d_Mod_keep_262 ?_
                                      refine r_sipush (nI 147) rfl 266 rfl d_Mod_keep_263 ?_
                                      refine r_aload_n rfl 267 rfl d_Mod_keep_266 ?_
                                      refine r_getf (v := .int (nI (ν 0))) gf_Mod_111 0 rfl rfl 270 rfl d_Mod_keep_267 ?_
                                      refine r_iast (w2 := MW X a ν (u2 (u2 σ 40 (kF σ (σ 40) i6)) 40 (upd (kF σ (σ 40) i6) 147 (nI (ν 0)))) τ) 26 rfl 147 rfl (by omega) (by omega) rfl 271 rfl d_Mod_keep_270 ?_
                                      refine r_aload_n rfl 272 rfl d_Mod_keep_271 ?_
                                      refine r_sipush (nI 148) rfl 275 rfl d_Mod_keep_272 ?_
                                      refine r_aload_n rfl 276 rfl d_Mod_keep_275 ?_
                                      refine r_getf (v := .int (nI (ν 6))) gf_Mod_240 0 rfl rfl 279 rfl d_Mod_keep_276 ?_
                                      refine r_iast (w2 := MW X a ν (u2 (u2 (u2 σ 40 (kF σ (σ 40) i6)) 40 (upd (kF σ (σ 40) i6) 147 (nI (ν 0)))) 40 (upd (upd (kF σ (σ 40) i6) 147 (nI (ν 0))) 148 (nI (ν 6)))) τ) 26 rfl 148 rfl (by omega) (by omega) rfl 280 rfl d_Mod_keep_279 ?_
                                      refine r_aload_n rfl 281 rfl d_Mod_keep_280 ?_
                                      refine r_sipush (nI 149) rfl 284 rfl d_Mod_keep_281 ?_
                                      refine r_aload_n rfl 285 rfl d_Mod_keep_284 ?_
                                      refine r_getf (v := .int (nI (ν 23))) gf_Mod_297 0 rfl rfl 288 rfl d_Mod_keep_285 ?_
                                      refine r_iast (w2 := MW X a ν (u2 (u2 (u2 (u2 σ 40 (kF σ (σ 40) i6)) 40 (upd (kF σ (σ 40) i6) 147 (nI (ν 0)))) 40 (upd (upd (kF σ (σ 40) i6) 147 (nI (ν 0))) 148 (nI (ν 6)))) 40 (upd (upd (upd (kF σ (σ 40) i6) 147 (nI (ν 0))) 148 (nI (ν 6))) 149 (nI (ν 23)))) τ) 26 rfl 149 rfl (by omega) (by omega) rfl 289 rfl d_Mod_keep_288 ?_
                                      refine r_aload_n rfl 290 rfl d_Mod_keep_289 ?_
                                      refine r_sipush (nI 150) rfl 293 rfl d_Mod_keep_290 ?_
                                      refine r_aload_n rfl 294 rfl d_Mod_keep_293 ?_
                                      refine r_getf (v := .int (nI (ν 29))) gf_Mod_312 0 rfl rfl 297 rfl d_Mod_keep_294 ?_
                                      refine r_iast (w2 := MW X a ν (u2 (u2 (u2 (u2 (u2 σ 40 (kF σ (σ 40) i6)) 40 (upd (kF σ (σ 40) i6) 147 (nI (ν 0)))) 40 (upd (upd (kF σ (σ 40) i6) 147 (nI (ν 0))) 148 (nI (ν 6)))) 40 (upd (upd (upd (kF σ (σ 40) i6) 147 (nI (ν 0))) 148 (nI (ν 6))) 149 (nI (ν 23)))) 40 (upd (upd (upd (upd (kF σ (σ 40) i6) 147 (nI (ν 0))) 148 (nI (ν 6))) 149 (nI (ν 23))) 150 (nI (ν 29)))) τ) 26 rfl 150 rfl (by omega) (by omega) rfl 298 rfl d_Mod_keep_297 ?_
                                      refine r_aload_n rfl 299 rfl d_Mod_keep_298 ?_
                                      refine r_sipush (nI 151) rfl 302 rfl d_Mod_keep_299 ?_
                                      refine r_aload_n rfl 303 rfl d_Mod_keep_302 ?_
                                      refine r_getf (v := .int (nI (ν 32))) gf_Mod_319 0 rfl rfl 306 rfl d_Mod_keep_303 ?_
                                      refine r_iast (w2 := MW X a ν (u2 (u2 (u2 (u2 (u2 (u2 σ 40 (kF σ (σ 40) i6)) 40 (upd (kF σ (σ 40) i6) 147 (nI (ν 0)))) 40 (upd (upd (kF σ (σ 40) i6) 147 (nI (ν 0))) 148 (nI (ν 6)))) 40 (upd (upd (upd (kF σ (σ 40) i6) 147 (nI (ν 0))) 148 (nI (ν 6))) 149 (nI (ν 23)))) 40 (upd (upd (upd (upd (kF σ (σ 40) i6) 147 (nI (ν 0))) 148 (nI (ν 6))) 149 (nI (ν 23))) 150 (nI (ν 29)))) 40 (upd (upd (upd (upd (upd (kF σ (σ 40) i6) 147 (nI (ν 0))) 148 (nI (ν 6))) 149 (nI (ν 23))) 150 (nI (ν 29))) 151 (nI (ν 32)))) τ) 26 rfl 151 rfl (by omega) (by omega) rfl 307 rfl d_Mod_keep_306 ?_
                                      refine r_aload_n rfl 308 rfl d_Mod_keep_307 ?_
                                      refine r_sipush (nI 152) rfl 311 rfl d_Mod_keep_308 ?_
                                      refine r_aload_n rfl 312 rfl d_Mod_keep_311 ?_
                                      refine r_getf (v := .int (σ 14 0)) gf_Mod_107 0 rfl rfl 315 rfl d_Mod_keep_312 ?_
                                      refine r_iast (w2 := MW X a ν (u2 (u2 (u2 (u2 (u2 (u2 (u2 σ 40 (kF σ (σ 40) i6)) 40 (upd (kF σ (σ 40) i6) 147 (nI (ν 0)))) 40 (upd (upd (kF σ (σ 40) i6) 147 (nI (ν 0))) 148 (nI (ν 6)))) 40 (upd (upd (upd (kF σ (σ 40) i6) 147 (nI (ν 0))) 148 (nI (ν 6))) 149 (nI (ν 23)))) 40 (upd (upd (upd (upd (kF σ (σ 40) i6) 147 (nI (ν 0))) 148 (nI (ν 6))) 149 (nI (ν 23))) 150 (nI (ν 29)))) 40 (upd (upd (upd (upd (upd (kF σ (σ 40) i6) 147 (nI (ν 0))) 148 (nI (ν 6))) 149 (nI (ν 23))) 150 (nI (ν 29))) 151 (nI (ν 32)))) 40 (upd (upd (upd (upd (upd (upd (kF σ (σ 40) i6) 147 (nI (ν 0))) 148 (nI (ν 6))) 149 (nI (ν 23))) 150 (nI (ν 29))) 151 (nI (ν 32))) 152 (σ 14 0))) τ) 26 rfl 152 rfl (by omega) (by omega) rfl 316 rfl d_Mod_keep_315 ?_
                                      exact r_vret rfl (Nat.zero_le _) (Nat.zero_le _) d_Mod_keep_316 (by rw [← hQ]; exact ⟨rfl, by rw [show i6 = 8 by omega]; simp only [u2_u2]; rfl⟩)
                                    · refine r_aload_n rfl 219 rfl d_Mod_keep_218 ?_
                                      refine r_bipush (nI 123) rfl 221 rfl d_Mod_keep_219 ?_
                                      refine r_iload_n rfl 222 rfl d_Mod_keep_221 ?_
                                      refine r_iadd 223 rfl d_Mod_keep_222 ?_
                                      refine r_topi (nI (123 + i6)) (nI_add _ _) ?_
                                      refine r_aload_n rfl 224 rfl d_Mod_keep_223 ?_
                                      refine r_getf (v := .ref (a 33)) gf_Mod_73 0 rfl rfl 227 rfl d_Mod_keep_224 ?_
                                      refine r_iload_n rfl 228 rfl d_Mod_keep_227 ?_
                                      refine r_iald 21 rfl i6 rfl (by omega) (by omega) 229 rfl d_Mod_keep_228 ?_
                                      refine r_iast (w2 := MW X a ν (u2 (u2 σ 40 (kF σ (σ 40) i6)) 40 (upd (kF σ (σ 40) i6) (123 + i6) (σ 33 i6))) τ) 26 rfl (123 + i6) rfl (by omega) (by omega) rfl 230 rfl d_Mod_keep_229 ?_
                                      refine r_aload_n rfl 231 rfl d_Mod_keep_230 ?_
                                      refine r_sipush (nI 131) rfl 234 rfl d_Mod_keep_231 ?_
                                      refine r_iload_n rfl 235 rfl d_Mod_keep_234 ?_
                                      refine r_iadd 236 rfl d_Mod_keep_235 ?_
                                      refine r_topi (nI (131 + i6)) (nI_add _ _) ?_
                                      refine r_aload_n rfl 237 rfl d_Mod_keep_236 ?_
                                      refine r_getf (v := .ref (a 34)) gf_Mod_76 0 rfl rfl 240 rfl d_Mod_keep_237 ?_
                                      refine r_iload_n rfl 241 rfl d_Mod_keep_240 ?_
                                      refine r_iald 22 rfl i6 rfl (by omega) (by omega) 242 rfl d_Mod_keep_241 ?_
                                      refine r_iast (w2 := MW X a ν (u2 (u2 (u2 σ 40 (kF σ (σ 40) i6)) 40 (upd (kF σ (σ 40) i6) (123 + i6) (σ 33 i6))) 40 (upd (upd (kF σ (σ 40) i6) (123 + i6) (σ 33 i6)) (131 + i6) (σ 34 i6))) τ) 26 rfl (131 + i6) rfl (by omega) (by omega) rfl 243 rfl d_Mod_keep_242 ?_
                                      refine r_aload_n rfl 244 rfl d_Mod_keep_243 ?_
                                      refine r_sipush (nI 139) rfl 247 rfl d_Mod_keep_244 ?_
                                      refine r_iload_n rfl 248 rfl d_Mod_keep_247 ?_
                                      refine r_iadd 249 rfl d_Mod_keep_248 ?_
                                      refine r_topi (nI (139 + i6)) (nI_add _ _) ?_
                                      refine r_aload_n rfl 250 rfl d_Mod_keep_249 ?_
                                      refine r_getf (v := .ref (a 35)) gf_Mod_79 0 rfl rfl 253 rfl d_Mod_keep_250 ?_
                                      refine r_iload_n rfl 254 rfl d_Mod_keep_253 ?_
                                      refine r_iald 23 rfl i6 rfl (by omega) (by omega) 255 rfl d_Mod_keep_254 ?_
                                      refine r_iast (w2 := MW X a ν (u2 (u2 (u2 (u2 σ 40 (kF σ (σ 40) i6)) 40 (upd (kF σ (σ 40) i6) (123 + i6) (σ 33 i6))) 40 (upd (upd (kF σ (σ 40) i6) (123 + i6) (σ 33 i6)) (131 + i6) (σ 34 i6))) 40 (upd (upd (upd (kF σ (σ 40) i6) (123 + i6) (σ 33 i6)) (131 + i6) (σ 34 i6)) (139 + i6) (σ 35 i6))) τ) 26 rfl (139 + i6) rfl (by omega) (by omega) rfl 256 rfl d_Mod_keep_255 ?_
                                      refine r_iinc (ls2 := [some (.ref (a 0)), some (.ref (a 40)), some (.int (nI (i6 + 1)))]) (nI (i6 + 1)) rfl (nI_1 _) 259 rfl d_Mod_keep_256 (by decide) rfl rfl ?_
                                      refine r_goto 212 rfl d_Mod_keep_259 ?_
                                      refine Runs.cast (ih12 (i6 + 1) (by omega) (by omega)) (rfl) rfl (by rw [u2_u2, u2_u2, u2_u2, kF_s (by omega)])
                                refine Runs.cast (L212_11 _ 0 (by omega) (Nat.lt_succ_self _)) (rfl) rfl (by rw [show i5 = 10 by omega, kF_0])
                              · refine r_aload_n rfl 181 rfl d_Mod_keep_180 ?_
                                refine r_bipush (nI 103) rfl 183 rfl d_Mod_keep_181 ?_
                                refine r_iload_n rfl 184 rfl d_Mod_keep_183 ?_
                                refine r_iadd 185 rfl d_Mod_keep_184 ?_
                                refine r_topi (nI (103 + i5)) (nI_add _ _) ?_
                                refine r_aload_n rfl 186 rfl d_Mod_keep_185 ?_
                                refine r_getf (v := .ref (a 30)) gf_Mod_67 0 rfl rfl 189 rfl d_Mod_keep_186 ?_
                                refine r_iload_n rfl 190 rfl d_Mod_keep_189 ?_
                                refine r_iald 19 rfl i5 rfl (by omega) (by omega) 191 rfl d_Mod_keep_190 ?_
                                refine r_iast (w2 := MW X a ν (u2 (u2 σ 40 (kE σ (σ 40) i5)) 40 (upd (kE σ (σ 40) i5) (103 + i5) (σ 30 i5))) τ) 26 rfl (103 + i5) rfl (by omega) (by omega) rfl 192 rfl d_Mod_keep_191 ?_
                                refine r_aload_n rfl 193 rfl d_Mod_keep_192 ?_
                                refine r_bipush (nI 113) rfl 195 rfl d_Mod_keep_193 ?_
                                refine r_iload_n rfl 196 rfl d_Mod_keep_195 ?_
                                refine r_iadd 197 rfl d_Mod_keep_196 ?_
                                refine r_topi (nI (113 + i5)) (nI_add _ _) ?_
                                refine r_aload_n rfl 198 rfl d_Mod_keep_197 ?_
                                refine r_getf (v := .ref (a 31)) gf_Mod_70 0 rfl rfl 201 rfl d_Mod_keep_198 ?_
                                refine r_iload_n rfl 202 rfl d_Mod_keep_201 ?_
                                refine r_iald 20 rfl i5 rfl (by omega) (by omega) 203 rfl d_Mod_keep_202 ?_
                                refine r_iast (w2 := MW X a ν (u2 (u2 (u2 σ 40 (kE σ (σ 40) i5)) 40 (upd (kE σ (σ 40) i5) (103 + i5) (σ 30 i5))) 40 (upd (upd (kE σ (σ 40) i5) (103 + i5) (σ 30 i5)) (113 + i5) (σ 31 i5))) τ) 26 rfl (113 + i5) rfl (by omega) (by omega) rfl 204 rfl d_Mod_keep_203 ?_
                                refine r_iinc (ls2 := [some (.ref (a 0)), some (.ref (a 40)), some (.int (nI (i5 + 1)))]) (nI (i5 + 1)) rfl (nI_1 _) 207 rfl d_Mod_keep_204 (by decide) rfl rfl ?_
                                refine r_goto 174 rfl d_Mod_keep_207 ?_
                                refine Runs.cast (ih10 (i5 + 1) (by omega) (by omega)) (rfl) rfl (by rw [u2_u2, u2_u2, kE_s (by omega)])
                          refine Runs.cast (L174_9 _ 0 (by omega) (Nat.lt_succ_self _)) (rfl) rfl (by rw [show i4 = 5 by omega, kE_0])
                        · refine r_aload_n rfl 107 rfl d_Mod_keep_106 ?_
                          refine r_bipush (nI 78) rfl 109 rfl d_Mod_keep_107 ?_
                          refine r_iload_n rfl 110 rfl d_Mod_keep_109 ?_
                          refine r_iadd 111 rfl d_Mod_keep_110 ?_
                          refine r_topi (nI (78 + i4)) (nI_add _ _) ?_
                          refine r_aload_n rfl 112 rfl d_Mod_keep_111 ?_
                          refine r_getf (v := .ref (a 24)) gf_Mod_52 0 rfl rfl 115 rfl d_Mod_keep_112 ?_
                          refine r_iload_n rfl 116 rfl d_Mod_keep_115 ?_
                          refine r_iald 14 rfl i4 rfl (by omega) (by omega) 117 rfl d_Mod_keep_116 ?_
                          refine r_iast (w2 := MW X a ν (u2 (u2 σ 40 (kD σ (σ 40) i4)) 40 (upd (kD σ (σ 40) i4) (78 + i4) (σ 24 i4))) τ) 26 rfl (78 + i4) rfl (by omega) (by omega) rfl 118 rfl d_Mod_keep_117 ?_
                          refine r_aload_n rfl 119 rfl d_Mod_keep_118 ?_
                          refine r_bipush (nI 83) rfl 121 rfl d_Mod_keep_119 ?_
                          refine r_iload_n rfl 122 rfl d_Mod_keep_121 ?_
                          refine r_iadd 123 rfl d_Mod_keep_122 ?_
                          refine r_topi (nI (83 + i4)) (nI_add _ _) ?_
                          refine r_aload_n rfl 124 rfl d_Mod_keep_123 ?_
                          refine r_getf (v := .ref (a 25)) gf_Mod_55 0 rfl rfl 127 rfl d_Mod_keep_124 ?_
                          refine r_iload_n rfl 128 rfl d_Mod_keep_127 ?_
                          refine r_iald 15 rfl i4 rfl (by omega) (by omega) 129 rfl d_Mod_keep_128 ?_
                          refine r_iast (w2 := MW X a ν (u2 (u2 (u2 σ 40 (kD σ (σ 40) i4)) 40 (upd (kD σ (σ 40) i4) (78 + i4) (σ 24 i4))) 40 (upd (upd (kD σ (σ 40) i4) (78 + i4) (σ 24 i4)) (83 + i4) (σ 25 i4))) τ) 26 rfl (83 + i4) rfl (by omega) (by omega) rfl 130 rfl d_Mod_keep_129 ?_
                          refine r_aload_n rfl 131 rfl d_Mod_keep_130 ?_
                          refine r_bipush (nI 88) rfl 133 rfl d_Mod_keep_131 ?_
                          refine r_iload_n rfl 134 rfl d_Mod_keep_133 ?_
                          refine r_iadd 135 rfl d_Mod_keep_134 ?_
                          refine r_topi (nI (88 + i4)) (nI_add _ _) ?_
                          refine r_aload_n rfl 136 rfl d_Mod_keep_135 ?_
                          refine r_getf (v := .ref (a 26)) gf_Mod_58 0 rfl rfl 139 rfl d_Mod_keep_136 ?_
                          refine r_iload_n rfl 140 rfl d_Mod_keep_139 ?_
                          refine r_iald 16 rfl i4 rfl (by omega) (by omega) 141 rfl d_Mod_keep_140 ?_
                          refine r_iast (w2 := MW X a ν (u2 (u2 (u2 (u2 σ 40 (kD σ (σ 40) i4)) 40 (upd (kD σ (σ 40) i4) (78 + i4) (σ 24 i4))) 40 (upd (upd (kD σ (σ 40) i4) (78 + i4) (σ 24 i4)) (83 + i4) (σ 25 i4))) 40 (upd (upd (upd (kD σ (σ 40) i4) (78 + i4) (σ 24 i4)) (83 + i4) (σ 25 i4)) (88 + i4) (σ 26 i4))) τ) 26 rfl (88 + i4) rfl (by omega) (by omega) rfl 142 rfl d_Mod_keep_141 ?_
                          refine r_aload_n rfl 143 rfl d_Mod_keep_142 ?_
                          refine r_bipush (nI 93) rfl 145 rfl d_Mod_keep_143 ?_
                          refine r_iload_n rfl 146 rfl d_Mod_keep_145 ?_
                          refine r_iadd 147 rfl d_Mod_keep_146 ?_
                          refine r_topi (nI (93 + i4)) (nI_add _ _) ?_
                          refine r_aload_n rfl 148 rfl d_Mod_keep_147 ?_
                          refine r_getf (v := .ref (a 27)) gf_Mod_61 0 rfl rfl 151 rfl d_Mod_keep_148 ?_
                          refine r_iload_n rfl 152 rfl d_Mod_keep_151 ?_
                          refine r_iald 17 rfl i4 rfl (by omega) (by omega) 153 rfl d_Mod_keep_152 ?_
                          refine r_iast (w2 := MW X a ν (u2 (u2 (u2 (u2 (u2 σ 40 (kD σ (σ 40) i4)) 40 (upd (kD σ (σ 40) i4) (78 + i4) (σ 24 i4))) 40 (upd (upd (kD σ (σ 40) i4) (78 + i4) (σ 24 i4)) (83 + i4) (σ 25 i4))) 40 (upd (upd (upd (kD σ (σ 40) i4) (78 + i4) (σ 24 i4)) (83 + i4) (σ 25 i4)) (88 + i4) (σ 26 i4))) 40 (upd (upd (upd (upd (kD σ (σ 40) i4) (78 + i4) (σ 24 i4)) (83 + i4) (σ 25 i4)) (88 + i4) (σ 26 i4)) (93 + i4) (σ 27 i4))) τ) 26 rfl (93 + i4) rfl (by omega) (by omega) rfl 154 rfl d_Mod_keep_153 ?_
                          refine r_aload_n rfl 155 rfl d_Mod_keep_154 ?_
                          refine r_bipush (nI 98) rfl 157 rfl d_Mod_keep_155 ?_
                          refine r_iload_n rfl 158 rfl d_Mod_keep_157 ?_
                          refine r_iadd 159 rfl d_Mod_keep_158 ?_
                          refine r_topi (nI (98 + i4)) (nI_add _ _) ?_
                          refine r_aload_n rfl 160 rfl d_Mod_keep_159 ?_
                          refine r_getf (v := .ref (a 28)) gf_Mod_64 0 rfl rfl 163 rfl d_Mod_keep_160 ?_
                          refine r_iload_n rfl 164 rfl d_Mod_keep_163 ?_
                          refine r_iald 18 rfl i4 rfl (by omega) (by omega) 165 rfl d_Mod_keep_164 ?_
                          refine r_iast (w2 := MW X a ν (u2 (u2 (u2 (u2 (u2 (u2 σ 40 (kD σ (σ 40) i4)) 40 (upd (kD σ (σ 40) i4) (78 + i4) (σ 24 i4))) 40 (upd (upd (kD σ (σ 40) i4) (78 + i4) (σ 24 i4)) (83 + i4) (σ 25 i4))) 40 (upd (upd (upd (kD σ (σ 40) i4) (78 + i4) (σ 24 i4)) (83 + i4) (σ 25 i4)) (88 + i4) (σ 26 i4))) 40 (upd (upd (upd (upd (kD σ (σ 40) i4) (78 + i4) (σ 24 i4)) (83 + i4) (σ 25 i4)) (88 + i4) (σ 26 i4)) (93 + i4) (σ 27 i4))) 40 (upd (upd (upd (upd (upd (kD σ (σ 40) i4) (78 + i4) (σ 24 i4)) (83 + i4) (σ 25 i4)) (88 + i4) (σ 26 i4)) (93 + i4) (σ 27 i4)) (98 + i4) (σ 28 i4))) τ) 26 rfl (98 + i4) rfl (by omega) (by omega) rfl 166 rfl d_Mod_keep_165 ?_
                          refine r_iinc (ls2 := [some (.ref (a 0)), some (.ref (a 40)), some (.int (nI (i4 + 1)))]) (nI (i4 + 1)) rfl (nI_1 _) 169 rfl d_Mod_keep_166 (by decide) rfl rfl ?_
                          refine r_goto 101 rfl d_Mod_keep_169 ?_
                          refine Runs.cast (ih8 (i4 + 1) (by omega) (by omega)) (rfl) rfl (by rw [u2_u2, u2_u2, u2_u2, u2_u2, u2_u2, kD_s (by omega)])
                    refine Runs.cast (L101_7 _ 0 (by omega) (Nat.lt_succ_self _)) (rfl) rfl (by rw [show i3 = 36 by omega, kD_0])
                  · refine r_aload_n rfl 82 rfl d_Mod_keep_81 ?_
                    refine r_bipush (nI 42) rfl 84 rfl d_Mod_keep_82 ?_
                    refine r_iload_n rfl 85 rfl d_Mod_keep_84 ?_
                    refine r_iadd 86 rfl d_Mod_keep_85 ?_
                    refine r_topi (nI (42 + i3)) (nI_add _ _) ?_
                    refine r_aload_n rfl 87 rfl d_Mod_keep_86 ?_
                    refine r_getf (v := .ref (a 5)) gf_Mod_24 0 rfl rfl 90 rfl d_Mod_keep_87 ?_
                    refine r_iload_n rfl 91 rfl d_Mod_keep_90 ?_
                    refine r_iald 5 rfl i3 rfl (by omega) (by omega) 92 rfl d_Mod_keep_91 ?_
                    refine r_iast (w2 := MW X a ν (u2 (u2 σ 40 (kC σ (σ 40) i3)) 40 (upd (kC σ (σ 40) i3) (42 + i3) (σ 5 i3))) τ) 26 rfl (42 + i3) rfl (by omega) (by omega) rfl 93 rfl d_Mod_keep_92 ?_
                    refine r_iinc (ls2 := [some (.ref (a 0)), some (.ref (a 40)), some (.int (nI (i3 + 1)))]) (nI (i3 + 1)) rfl (nI_1 _) 96 rfl d_Mod_keep_93 (by decide) rfl rfl ?_
                    refine r_goto 75 rfl d_Mod_keep_96 ?_
                    refine Runs.cast (ih6 (i3 + 1) (by omega) (by omega)) (rfl) rfl (by rw [u2_u2]; congr 1; congr 1; exact cpy_s0)
              refine Runs.cast (L75_5 _ 0 (by omega) (Nat.lt_succ_self _)) (rfl) rfl (by rw [show i2 = 24 by omega, kC_0])
            · refine r_aload_n rfl 56 rfl d_Mod_keep_55 ?_
              refine r_bipush (nI 18) rfl 58 rfl d_Mod_keep_56 ?_
              refine r_iload_n rfl 59 rfl d_Mod_keep_58 ?_
              refine r_iadd 60 rfl d_Mod_keep_59 ?_
              refine r_topi (nI (18 + i2)) (nI_add _ _) ?_
              refine r_aload_n rfl 61 rfl d_Mod_keep_60 ?_
              refine r_getf (v := .ref (a 4)) gf_Mod_21 0 rfl rfl 64 rfl d_Mod_keep_61 ?_
              refine r_iload_n rfl 65 rfl d_Mod_keep_64 ?_
              refine r_iald 4 rfl i2 rfl (by omega) (by omega) 66 rfl d_Mod_keep_65 ?_
              refine r_iast (w2 := MW X a ν (u2 (u2 σ 40 (kB σ (σ 40) i2)) 40 (upd (kB σ (σ 40) i2) (18 + i2) (σ 4 i2))) τ) 26 rfl (18 + i2) rfl (by omega) (by omega) rfl 67 rfl d_Mod_keep_66 ?_
              refine r_iinc (ls2 := [some (.ref (a 0)), some (.ref (a 40)), some (.int (nI (i2 + 1)))]) (nI (i2 + 1)) rfl (nI_1 _) 70 rfl d_Mod_keep_67 (by decide) rfl rfl ?_
              refine r_goto 49 rfl d_Mod_keep_70 ?_
              refine Runs.cast (ih4 (i2 + 1) (by omega) (by omega)) (rfl) rfl (by rw [u2_u2]; congr 1; congr 1; exact cpy_s0)
        refine Runs.cast (L49_3 _ 0 (by omega) (Nat.lt_succ_self _)) (rfl) rfl (by rw [show i1 = 6 by omega, kB_0])
      · refine r_aload_n rfl 9 rfl d_Mod_keep_8 ?_
        refine r_iload_n rfl 10 rfl d_Mod_keep_9 ?_
        refine r_aload_n rfl 11 rfl d_Mod_keep_10 ?_
        refine r_getf (v := .ref (a 1)) gf_Mod_9 0 rfl rfl 14 rfl d_Mod_keep_11 ?_
        refine r_iload_n rfl 15 rfl d_Mod_keep_14 ?_
        refine r_iald 1 rfl i1 rfl (by omega) (by omega) 16 rfl d_Mod_keep_15 ?_
        refine r_iast (w2 := MW X a ν (u2 (u2 σ 40 (kA σ (σ 40) i1)) 40 (upd (kA σ (σ 40) i1) i1 (σ 1 i1))) τ) 26 rfl i1 rfl (by omega) (by omega) rfl 17 rfl d_Mod_keep_16 ?_
        refine r_aload_n rfl 18 rfl d_Mod_keep_17 ?_
        refine r_bipush (nI 6) rfl 20 rfl d_Mod_keep_18 ?_
        refine r_iload_n rfl 21 rfl d_Mod_keep_20 ?_
        refine r_iadd 22 rfl d_Mod_keep_21 ?_
        refine r_topi (nI (6 + i1)) (nI_add _ _) ?_
        refine r_aload_n rfl 23 rfl d_Mod_keep_22 ?_
        refine r_getf (v := .ref (a 2)) gf_Mod_15 0 rfl rfl 26 rfl d_Mod_keep_23 ?_
        refine r_iload_n rfl 27 rfl d_Mod_keep_26 ?_
        refine r_iald 2 rfl i1 rfl (by omega) (by omega) 28 rfl d_Mod_keep_27 ?_
        refine r_iast (w2 := MW X a ν (u2 (u2 (u2 σ 40 (kA σ (σ 40) i1)) 40 (upd (kA σ (σ 40) i1) i1 (σ 1 i1))) 40 (upd (upd (kA σ (σ 40) i1) i1 (σ 1 i1)) (6 + i1) (σ 2 i1))) τ) 26 rfl (6 + i1) rfl (by omega) (by omega) rfl 29 rfl d_Mod_keep_28 ?_
        refine r_aload_n rfl 30 rfl d_Mod_keep_29 ?_
        refine r_bipush (nI 12) rfl 32 rfl d_Mod_keep_30 ?_
        refine r_iload_n rfl 33 rfl d_Mod_keep_32 ?_
        refine r_iadd 34 rfl d_Mod_keep_33 ?_
        refine r_topi (nI (12 + i1)) (nI_add _ _) ?_
        refine r_aload_n rfl 35 rfl d_Mod_keep_34 ?_
        refine r_getf (v := .ref (a 3)) gf_Mod_18 0 rfl rfl 38 rfl d_Mod_keep_35 ?_
        refine r_iload_n rfl 39 rfl d_Mod_keep_38 ?_
        refine r_iald 3 rfl i1 rfl (by omega) (by omega) 40 rfl d_Mod_keep_39 ?_
        refine r_iast (w2 := MW X a ν (u2 (u2 (u2 (u2 σ 40 (kA σ (σ 40) i1)) 40 (upd (kA σ (σ 40) i1) i1 (σ 1 i1))) 40 (upd (upd (kA σ (σ 40) i1) i1 (σ 1 i1)) (6 + i1) (σ 2 i1))) 40 (upd (upd (upd (kA σ (σ 40) i1) i1 (σ 1 i1)) (6 + i1) (σ 2 i1)) (12 + i1) (σ 3 i1))) τ) 26 rfl (12 + i1) rfl (by omega) (by omega) rfl 41 rfl d_Mod_keep_40 ?_
        refine r_iinc (ls2 := [some (.ref (a 0)), some (.ref (a 40)), some (.int (nI (i1 + 1)))]) (nI (i1 + 1)) rfl (nI_1 _) 44 rfl d_Mod_keep_41 (by decide) rfl rfl ?_
        refine r_goto 2 rfl d_Mod_keep_44 ?_
        refine Runs.cast (ih2 (i1 + 1) (by omega) (by omega)) (rfl) rfl (by rw [u2_u2, u2_u2, u2_u2, kA_s (by omega)])
  refine Runs.cast (L2_1 _ 0 (by omega) (Nat.lt_succ_self _)) (rfl) rfl (by rw [kA_0, u2_self])
theorem c_Mod_again40 (X : Xn) (a ν : Nat → Nat) (σ : Nat → Nat → Int32) (τ : Nat → Int64) (n0 d0 s0 p0 b0 : Nat) (e147 : σ 40 147 = nI n0) (e148 : σ 40 148 = nI d0) (e149 : σ 40 149 = nI s0) (e150 : σ 40 150 = nI p0) (e151 : σ 40 151 = nI b0) : Does X 1 M_Mod_again [.ref (a 0), .ref (a 40)] (MW X a ν σ τ) 0 0 (fun (vv : Option Value) (ww : va_W) => vv = none ∧ ww = MW X a (u1 (u1 (u1 (u1 (u1 ν 0 n0) 6 d0) 23 s0) 29 p0) 32 b0) (againF σ (σ 40)) τ) := by
  generalize hQ : (fun (vv : Option Value) (ww : va_W) => vv = none ∧ ww = MW X a (u1 (u1 (u1 (u1 (u1 ν 0 n0) 6 d0) 23 s0) 29 p0) 32 b0) (againF σ (σ 40)) τ) = Q
  refine Does.go rfl (Nat.le_of_ble_eq_true rfl) [some (.ref (a 0)), some (.ref (a 40)), none] 1 rfl ?_
  refine r_iconst (nI 0) rfl 1 rfl d_Mod_again_0 ?_
  refine r_istore_n (ls2 := [some (.ref (a 0)), some (.ref (a 40)), some (.int (nI 0))]) 2 rfl d_Mod_again_1 (by decide) rfl rfl ?_
  have L2_1 : ∀ (f : Nat) (i1 : Nat), (i1 ≤ 6) → 6 - i1 < f → Runs X 1 M_Mod_again 0 0 Q 2 [some (.ref (a 0)), some (.ref (a 40)), some (.int (nI i1))] [] 0 0 (MW X a ν (g3 σ (σ 40) i1) τ) := by
    intro f
    induction f with
    | zero => intro i1 hi1 hmu; exact absurd hmu (Nat.not_lt_zero _)
    | succ f ih2 =>
      intro i1 hi1 hmu
      refine r_iload_n rfl 3 rfl d_Mod_again_2 ?_
      refine r_bipush (nI 6) rfl 5 rfl d_Mod_again_3 ?_
      refine r_icmp_geN i1 6 (by omega) (by omega) 8 47 rfl rfl d_Mod_again_5 (fun h5 => ?_) (fun h5 => ?_)
      · refine r_iconst (nI 0) rfl 48 rfl d_Mod_again_47 ?_
        refine r_istore_n (ls2 := [some (.ref (a 0)), some (.ref (a 40)), some (.int (nI 0))]) 49 rfl d_Mod_again_48 (by decide) rfl rfl ?_
        have L49_3 : ∀ (f : Nat) (i2 : Nat), (i2 ≤ 24) → 24 - i2 < f → Runs X 1 M_Mod_again 0 0 Q 49 [some (.ref (a 0)), some (.ref (a 40)), some (.int (nI i2))] [] 0 0 (MW X a ν (g4 σ (σ 40) i2) τ) := by
          intro f
          induction f with
          | zero => intro i2 hi2 hmu; exact absurd hmu (Nat.not_lt_zero _)
          | succ f ih4 =>
            intro i2 hi2 hmu
            refine r_iload_n rfl 50 rfl d_Mod_again_49 ?_
            refine r_bipush (nI 24) rfl 52 rfl d_Mod_again_50 ?_
            refine r_icmp_geN i2 24 (by omega) (by omega) 55 73 rfl rfl d_Mod_again_52 (fun h52 => ?_) (fun h52 => ?_)
            · refine r_iconst (nI 0) rfl 74 rfl d_Mod_again_73 ?_
              refine r_istore_n (ls2 := [some (.ref (a 0)), some (.ref (a 40)), some (.int (nI 0))]) 75 rfl d_Mod_again_74 (by decide) rfl rfl ?_
              have L75_5 : ∀ (f : Nat) (i3 : Nat), (i3 ≤ 36) → 36 - i3 < f → Runs X 1 M_Mod_again 0 0 Q 75 [some (.ref (a 0)), some (.ref (a 40)), some (.int (nI i3))] [] 0 0 (MW X a ν (g5 σ (σ 40) i3) τ) := by
                intro f
                induction f with
                | zero => intro i3 hi3 hmu; exact absurd hmu (Nat.not_lt_zero _)
                | succ f ih6 =>
                  intro i3 hi3 hmu
                  refine r_iload_n rfl 76 rfl d_Mod_again_75 ?_
                  refine r_bipush (nI 36) rfl 78 rfl d_Mod_again_76 ?_
                  refine r_icmp_geN i3 36 (by omega) (by omega) 81 99 rfl rfl d_Mod_again_78 (fun h78 => ?_) (fun h78 => ?_)
                  · refine r_iconst (nI 0) rfl 100 rfl d_Mod_again_99 ?_
                    refine r_istore_n (ls2 := [some (.ref (a 0)), some (.ref (a 40)), some (.int (nI 0))]) 101 rfl d_Mod_again_100 (by decide) rfl rfl ?_
                    have L101_7 : ∀ (f : Nat) (i4 : Nat), (i4 ≤ 5) → 5 - i4 < f → Runs X 1 M_Mod_again 0 0 Q 101 [some (.ref (a 0)), some (.ref (a 40)), some (.int (nI i4))] [] 0 0 (MW X a ν (g6 σ (σ 40) i4) τ) := by
                      intro f
                      induction f with
                      | zero => intro i4 hi4 hmu; exact absurd hmu (Nat.not_lt_zero _)
                      | succ f ih8 =>
                        intro i4 hi4 hmu
                        refine r_iload_n rfl 102 rfl d_Mod_again_101 ?_
                        refine r_iconst (nI 5) rfl 103 rfl d_Mod_again_102 ?_
                        refine r_icmp_geN i4 5 (by omega) (by omega) 106 172 rfl rfl d_Mod_again_103 (fun h103 => ?_) (fun h103 => ?_)
                        · refine r_iconst (nI 0) rfl 173 rfl d_Mod_again_172 ?_
                          refine r_istore_n (ls2 := [some (.ref (a 0)), some (.ref (a 40)), some (.int (nI 0))]) 174 rfl d_Mod_again_173 (by decide) rfl rfl ?_
                          have L174_9 : ∀ (f : Nat) (i5 : Nat), (i5 ≤ 10) → 10 - i5 < f → Runs X 1 M_Mod_again 0 0 Q 174 [some (.ref (a 0)), some (.ref (a 40)), some (.int (nI i5))] [] 0 0 (MW X a ν (g7 σ (σ 40) i5) τ) := by
                            intro f
                            induction f with
                            | zero => intro i5 hi5 hmu; exact absurd hmu (Nat.not_lt_zero _)
                            | succ f ih10 =>
                              intro i5 hi5 hmu
                              refine r_iload_n rfl 175 rfl d_Mod_again_174 ?_
                              refine r_bipush (nI 10) rfl 177 rfl d_Mod_again_175 ?_
                              refine r_icmp_geN i5 10 (by omega) (by omega) 180 210 rfl rfl d_Mod_again_177 (fun h177 => ?_) (fun h177 => ?_)
                              · refine r_iconst (nI 0) rfl 211 rfl d_Mod_again_210 ?_
                                refine r_istore_n (ls2 := [some (.ref (a 0)), some (.ref (a 40)), some (.int (nI 0))]) 212 rfl d_Mod_again_211 (by decide) rfl rfl ?_
                                have L212_11 : ∀ (f : Nat) (i6 : Nat), (i6 ≤ 8) → 8 - i6 < f → Runs X 1 M_Mod_again 0 0 Q 212 [some (.ref (a 0)), some (.ref (a 40)), some (.int (nI i6))] [] 0 0 (MW X a ν (g8 σ (σ 40) i6) τ) := by
                                  intro f
                                  induction f with
                                  | zero => intro i6 hi6 hmu; exact absurd hmu (Nat.not_lt_zero _)
                                  | succ f ih12 =>
                                    intro i6 hi6 hmu
                                    refine r_iload_n rfl 213 rfl d_Mod_again_212 ?_
                                    refine r_bipush (nI 8) rfl 215 rfl d_Mod_again_213 ?_
                                    refine r_icmp_geN i6 8 (by omega) (by omega) 218 262 rfl rfl d_Mod_again_215 (fun h215 => ?_) (fun h215 => ?_)
                                    · refine r_aload_n rfl 263 rfl d_Mod_again_262 ?_
                                      refine r_aload_n rfl 264 rfl d_Mod_again_263 ?_
                                      refine r_sipush (nI 147) rfl 267 rfl d_Mod_again_264 ?_
                                      refine r_iald 26 rfl 147 rfl (by omega) (by omega) 268 rfl d_Mod_again_267 ?_
                                      refine r_topi (nI n0) (e147) ?_
                                      refine r_putf (w2 := MW X a (u1 ν 0 n0) (g8 σ (σ 40) i6) τ) pf_Mod_111 0 rfl (rfl) rfl (Nat.le_of_ble_eq_true rfl) rfl 271 rfl d_Mod_again_268 ?_
                                      refine r_aload_n rfl 272 rfl d_Mod_again_271 ?_
                                      refine r_aload_n rfl 273 rfl d_Mod_again_272 ?_
                                      refine r_sipush (nI 148) rfl 276 rfl d_Mod_again_273 ?_
                                      refine r_iald 26 rfl 148 rfl (by omega) (by omega) 277 rfl d_Mod_again_276 ?_
                                      refine r_topi (nI d0) (e148) ?_
                                      refine r_putf (w2 := MW X a (u1 (u1 ν 0 n0) 6 d0) (g8 σ (σ 40) i6) τ) pf_Mod_240 0 rfl (rfl) rfl (Nat.le_of_ble_eq_true rfl) rfl 280 rfl d_Mod_again_277 ?_
                                      refine r_aload_n rfl 281 rfl d_Mod_again_280 ?_
                                      refine r_aload_n rfl 282 rfl d_Mod_again_281 ?_
                                      refine r_sipush (nI 149) rfl 285 rfl d_Mod_again_282 ?_
                                      refine r_iald 26 rfl 149 rfl (by omega) (by omega) 286 rfl d_Mod_again_285 ?_
                                      refine r_topi (nI s0) (e149) ?_
                                      refine r_putf (w2 := MW X a (u1 (u1 (u1 ν 0 n0) 6 d0) 23 s0) (g8 σ (σ 40) i6) τ) pf_Mod_297 0 rfl (rfl) rfl (Nat.le_of_ble_eq_true rfl) rfl 289 rfl d_Mod_again_286 ?_
                                      refine r_aload_n rfl 290 rfl d_Mod_again_289 ?_
                                      refine r_aload_n rfl 291 rfl d_Mod_again_290 ?_
                                      refine r_sipush (nI 150) rfl 294 rfl d_Mod_again_291 ?_
                                      refine r_iald 26 rfl 150 rfl (by omega) (by omega) 295 rfl d_Mod_again_294 ?_
                                      refine r_topi (nI p0) (e150) ?_
                                      refine r_putf (w2 := MW X a (u1 (u1 (u1 (u1 ν 0 n0) 6 d0) 23 s0) 29 p0) (g8 σ (σ 40) i6) τ) pf_Mod_312 0 rfl (rfl) rfl (Nat.le_of_ble_eq_true rfl) rfl 298 rfl d_Mod_again_295 ?_
                                      refine r_aload_n rfl 299 rfl d_Mod_again_298 ?_
                                      refine r_aload_n rfl 300 rfl d_Mod_again_299 ?_
                                      refine r_sipush (nI 151) rfl 303 rfl d_Mod_again_300 ?_
                                      refine r_iald 26 rfl 151 rfl (by omega) (by omega) 304 rfl d_Mod_again_303 ?_
                                      refine r_topi (nI b0) (e151) ?_
                                      refine r_putf (w2 := MW X a (u1 (u1 (u1 (u1 (u1 ν 0 n0) 6 d0) 23 s0) 29 p0) 32 b0) (g8 σ (σ 40) i6) τ) pf_Mod_319 0 rfl (rfl) rfl (Nat.le_of_ble_eq_true rfl) rfl 307 rfl d_Mod_again_304 ?_
                                      refine r_aload_n rfl 308 rfl d_Mod_again_307 ?_
                                      refine r_aload_n rfl 309 rfl d_Mod_again_308 ?_
                                      refine r_sipush (nI 152) rfl 312 rfl d_Mod_again_309 ?_
                                      refine r_iald 26 rfl 152 rfl (by omega) (by omega) 313 rfl d_Mod_again_312 ?_
                                      refine r_putf (w2 := MW X a (u1 (u1 (u1 (u1 (u1 ν 0 n0) 6 d0) 23 s0) 29 p0) 32 b0) (u2 (g8 σ (σ 40) i6) 14 (upd (σ 14) 0 (σ 40 152))) τ) pf_Mod_107 0 rfl (rfl) rfl (Nat.le_of_ble_eq_true rfl) rfl 316 rfl d_Mod_again_313 ?_
                                      exact r_vret rfl (Nat.zero_le _) (Nat.zero_le _) d_Mod_again_316 (by rw [← hQ]; exact ⟨rfl, by rw [show i6 = 8 by omega]; rfl⟩)
                                    · refine r_aload_n rfl 219 rfl d_Mod_again_218 ?_
                                      refine r_getf (v := .ref (a 33)) gf_Mod_73 0 rfl rfl 222 rfl d_Mod_again_219 ?_
                                      refine r_iload_n rfl 223 rfl d_Mod_again_222 ?_
                                      refine r_aload_n rfl 224 rfl d_Mod_again_223 ?_
                                      refine r_bipush (nI 123) rfl 226 rfl d_Mod_again_224 ?_
                                      refine r_iload_n rfl 227 rfl d_Mod_again_226 ?_
                                      refine r_iadd 228 rfl d_Mod_again_227 ?_
                                      refine r_topi (nI (123 + i6)) (nI_add _ _) ?_
                                      refine r_iald 26 rfl (123 + i6) rfl (by omega) (by omega) 229 rfl d_Mod_again_228 ?_
                                      refine r_iast (w2 := MW X a ν (u2 (g8 σ (σ 40) i6) 33 (upd (va_cpy (σ 40) (σ 33) 123 0 i6) i6 (σ 40 (123 + i6)))) τ) 21 rfl i6 rfl (by omega) (by omega) rfl 230 rfl d_Mod_again_229 ?_
                                      refine r_aload_n rfl 231 rfl d_Mod_again_230 ?_
                                      refine r_getf (v := .ref (a 34)) gf_Mod_76 0 rfl rfl 234 rfl d_Mod_again_231 ?_
                                      refine r_iload_n rfl 235 rfl d_Mod_again_234 ?_
                                      refine r_aload_n rfl 236 rfl d_Mod_again_235 ?_
                                      refine r_sipush (nI 131) rfl 239 rfl d_Mod_again_236 ?_
                                      refine r_iload_n rfl 240 rfl d_Mod_again_239 ?_
                                      refine r_iadd 241 rfl d_Mod_again_240 ?_
                                      refine r_topi (nI (131 + i6)) (nI_add _ _) ?_
                                      refine r_iald 26 rfl (131 + i6) rfl (by omega) (by omega) 242 rfl d_Mod_again_241 ?_
                                      refine r_iast (w2 := MW X a ν (u2 (u2 (g8 σ (σ 40) i6) 33 (upd (va_cpy (σ 40) (σ 33) 123 0 i6) i6 (σ 40 (123 + i6)))) 34 (upd (va_cpy (σ 40) (σ 34) 131 0 i6) i6 (σ 40 (131 + i6)))) τ) 22 rfl i6 rfl (by omega) (by omega) rfl 243 rfl d_Mod_again_242 ?_
                                      refine r_aload_n rfl 244 rfl d_Mod_again_243 ?_
                                      refine r_getf (v := .ref (a 35)) gf_Mod_79 0 rfl rfl 247 rfl d_Mod_again_244 ?_
                                      refine r_iload_n rfl 248 rfl d_Mod_again_247 ?_
                                      refine r_aload_n rfl 249 rfl d_Mod_again_248 ?_
                                      refine r_sipush (nI 139) rfl 252 rfl d_Mod_again_249 ?_
                                      refine r_iload_n rfl 253 rfl d_Mod_again_252 ?_
                                      refine r_iadd 254 rfl d_Mod_again_253 ?_
                                      refine r_topi (nI (139 + i6)) (nI_add _ _) ?_
                                      refine r_iald 26 rfl (139 + i6) rfl (by omega) (by omega) 255 rfl d_Mod_again_254 ?_
                                      refine r_iast (w2 := MW X a ν (u2 (u2 (u2 (g8 σ (σ 40) i6) 33 (upd (va_cpy (σ 40) (σ 33) 123 0 i6) i6 (σ 40 (123 + i6)))) 34 (upd (va_cpy (σ 40) (σ 34) 131 0 i6) i6 (σ 40 (131 + i6)))) 35 (upd (va_cpy (σ 40) (σ 35) 139 0 i6) i6 (σ 40 (139 + i6)))) τ) 23 rfl i6 rfl (by omega) (by omega) rfl 256 rfl d_Mod_again_255 ?_
                                      refine r_iinc (ls2 := [some (.ref (a 0)), some (.ref (a 40)), some (.int (nI (i6 + 1)))]) (nI (i6 + 1)) rfl (nI_1 _) 259 rfl d_Mod_again_256 (by decide) rfl rfl ?_
                                      refine r_goto 212 rfl d_Mod_again_259 ?_
                                      refine Runs.cast (ih12 (i6 + 1) (by omega) (by omega)) (rfl) rfl (by rw [g8_s])
                                refine Runs.cast (L212_11 _ 0 (by omega) (Nat.lt_succ_self _)) (rfl) rfl (by rw [show i5 = 10 by omega, g8_0])
                              · refine r_aload_n rfl 181 rfl d_Mod_again_180 ?_
                                refine r_getf (v := .ref (a 30)) gf_Mod_67 0 rfl rfl 184 rfl d_Mod_again_181 ?_
                                refine r_iload_n rfl 185 rfl d_Mod_again_184 ?_
                                refine r_aload_n rfl 186 rfl d_Mod_again_185 ?_
                                refine r_bipush (nI 103) rfl 188 rfl d_Mod_again_186 ?_
                                refine r_iload_n rfl 189 rfl d_Mod_again_188 ?_
                                refine r_iadd 190 rfl d_Mod_again_189 ?_
                                refine r_topi (nI (103 + i5)) (nI_add _ _) ?_
                                refine r_iald 26 rfl (103 + i5) rfl (by omega) (by omega) 191 rfl d_Mod_again_190 ?_
                                refine r_iast (w2 := MW X a ν (u2 (g7 σ (σ 40) i5) 30 (upd (va_cpy (σ 40) (σ 30) 103 0 i5) i5 (σ 40 (103 + i5)))) τ) 19 rfl i5 rfl (by omega) (by omega) rfl 192 rfl d_Mod_again_191 ?_
                                refine r_aload_n rfl 193 rfl d_Mod_again_192 ?_
                                refine r_getf (v := .ref (a 31)) gf_Mod_70 0 rfl rfl 196 rfl d_Mod_again_193 ?_
                                refine r_iload_n rfl 197 rfl d_Mod_again_196 ?_
                                refine r_aload_n rfl 198 rfl d_Mod_again_197 ?_
                                refine r_bipush (nI 113) rfl 200 rfl d_Mod_again_198 ?_
                                refine r_iload_n rfl 201 rfl d_Mod_again_200 ?_
                                refine r_iadd 202 rfl d_Mod_again_201 ?_
                                refine r_topi (nI (113 + i5)) (nI_add _ _) ?_
                                refine r_iald 26 rfl (113 + i5) rfl (by omega) (by omega) 203 rfl d_Mod_again_202 ?_
                                refine r_iast (w2 := MW X a ν (u2 (u2 (g7 σ (σ 40) i5) 30 (upd (va_cpy (σ 40) (σ 30) 103 0 i5) i5 (σ 40 (103 + i5)))) 31 (upd (va_cpy (σ 40) (σ 31) 113 0 i5) i5 (σ 40 (113 + i5)))) τ) 20 rfl i5 rfl (by omega) (by omega) rfl 204 rfl d_Mod_again_203 ?_
                                refine r_iinc (ls2 := [some (.ref (a 0)), some (.ref (a 40)), some (.int (nI (i5 + 1)))]) (nI (i5 + 1)) rfl (nI_1 _) 207 rfl d_Mod_again_204 (by decide) rfl rfl ?_
                                refine r_goto 174 rfl d_Mod_again_207 ?_
                                refine Runs.cast (ih10 (i5 + 1) (by omega) (by omega)) (rfl) rfl (by rw [g7_s])
                          refine Runs.cast (L174_9 _ 0 (by omega) (Nat.lt_succ_self _)) (rfl) rfl (by rw [show i4 = 5 by omega, g7_0])
                        · refine r_aload_n rfl 107 rfl d_Mod_again_106 ?_
                          refine r_getf (v := .ref (a 24)) gf_Mod_52 0 rfl rfl 110 rfl d_Mod_again_107 ?_
                          refine r_iload_n rfl 111 rfl d_Mod_again_110 ?_
                          refine r_aload_n rfl 112 rfl d_Mod_again_111 ?_
                          refine r_bipush (nI 78) rfl 114 rfl d_Mod_again_112 ?_
                          refine r_iload_n rfl 115 rfl d_Mod_again_114 ?_
                          refine r_iadd 116 rfl d_Mod_again_115 ?_
                          refine r_topi (nI (78 + i4)) (nI_add _ _) ?_
                          refine r_iald 26 rfl (78 + i4) rfl (by omega) (by omega) 117 rfl d_Mod_again_116 ?_
                          refine r_iast (w2 := MW X a ν (u2 (g6 σ (σ 40) i4) 24 (upd (va_cpy (σ 40) (σ 24) 78 0 i4) i4 (σ 40 (78 + i4)))) τ) 14 rfl i4 rfl (by omega) (by omega) rfl 118 rfl d_Mod_again_117 ?_
                          refine r_aload_n rfl 119 rfl d_Mod_again_118 ?_
                          refine r_getf (v := .ref (a 25)) gf_Mod_55 0 rfl rfl 122 rfl d_Mod_again_119 ?_
                          refine r_iload_n rfl 123 rfl d_Mod_again_122 ?_
                          refine r_aload_n rfl 124 rfl d_Mod_again_123 ?_
                          refine r_bipush (nI 83) rfl 126 rfl d_Mod_again_124 ?_
                          refine r_iload_n rfl 127 rfl d_Mod_again_126 ?_
                          refine r_iadd 128 rfl d_Mod_again_127 ?_
                          refine r_topi (nI (83 + i4)) (nI_add _ _) ?_
                          refine r_iald 26 rfl (83 + i4) rfl (by omega) (by omega) 129 rfl d_Mod_again_128 ?_
                          refine r_iast (w2 := MW X a ν (u2 (u2 (g6 σ (σ 40) i4) 24 (upd (va_cpy (σ 40) (σ 24) 78 0 i4) i4 (σ 40 (78 + i4)))) 25 (upd (va_cpy (σ 40) (σ 25) 83 0 i4) i4 (σ 40 (83 + i4)))) τ) 15 rfl i4 rfl (by omega) (by omega) rfl 130 rfl d_Mod_again_129 ?_
                          refine r_aload_n rfl 131 rfl d_Mod_again_130 ?_
                          refine r_getf (v := .ref (a 26)) gf_Mod_58 0 rfl rfl 134 rfl d_Mod_again_131 ?_
                          refine r_iload_n rfl 135 rfl d_Mod_again_134 ?_
                          refine r_aload_n rfl 136 rfl d_Mod_again_135 ?_
                          refine r_bipush (nI 88) rfl 138 rfl d_Mod_again_136 ?_
                          refine r_iload_n rfl 139 rfl d_Mod_again_138 ?_
                          refine r_iadd 140 rfl d_Mod_again_139 ?_
                          refine r_topi (nI (88 + i4)) (nI_add _ _) ?_
                          refine r_iald 26 rfl (88 + i4) rfl (by omega) (by omega) 141 rfl d_Mod_again_140 ?_
                          refine r_iast (w2 := MW X a ν (u2 (u2 (u2 (g6 σ (σ 40) i4) 24 (upd (va_cpy (σ 40) (σ 24) 78 0 i4) i4 (σ 40 (78 + i4)))) 25 (upd (va_cpy (σ 40) (σ 25) 83 0 i4) i4 (σ 40 (83 + i4)))) 26 (upd (va_cpy (σ 40) (σ 26) 88 0 i4) i4 (σ 40 (88 + i4)))) τ) 16 rfl i4 rfl (by omega) (by omega) rfl 142 rfl d_Mod_again_141 ?_
                          refine r_aload_n rfl 143 rfl d_Mod_again_142 ?_
                          refine r_getf (v := .ref (a 27)) gf_Mod_61 0 rfl rfl 146 rfl d_Mod_again_143 ?_
                          refine r_iload_n rfl 147 rfl d_Mod_again_146 ?_
                          refine r_aload_n rfl 148 rfl d_Mod_again_147 ?_
                          refine r_bipush (nI 93) rfl 150 rfl d_Mod_again_148 ?_
                          refine r_iload_n rfl 151 rfl d_Mod_again_150 ?_
                          refine r_iadd 152 rfl d_Mod_again_151 ?_
                          refine r_topi (nI (93 + i4)) (nI_add _ _) ?_
                          refine r_iald 26 rfl (93 + i4) rfl (by omega) (by omega) 153 rfl d_Mod_again_152 ?_
                          refine r_iast (w2 := MW X a ν (u2 (u2 (u2 (u2 (g6 σ (σ 40) i4) 24 (upd (va_cpy (σ 40) (σ 24) 78 0 i4) i4 (σ 40 (78 + i4)))) 25 (upd (va_cpy (σ 40) (σ 25) 83 0 i4) i4 (σ 40 (83 + i4)))) 26 (upd (va_cpy (σ 40) (σ 26) 88 0 i4) i4 (σ 40 (88 + i4)))) 27 (upd (va_cpy (σ 40) (σ 27) 93 0 i4) i4 (σ 40 (93 + i4)))) τ) 17 rfl i4 rfl (by omega) (by omega) rfl 154 rfl d_Mod_again_153 ?_
                          refine r_aload_n rfl 155 rfl d_Mod_again_154 ?_
                          refine r_getf (v := .ref (a 28)) gf_Mod_64 0 rfl rfl 158 rfl d_Mod_again_155 ?_
                          refine r_iload_n rfl 159 rfl d_Mod_again_158 ?_
                          refine r_aload_n rfl 160 rfl d_Mod_again_159 ?_
                          refine r_bipush (nI 98) rfl 162 rfl d_Mod_again_160 ?_
                          refine r_iload_n rfl 163 rfl d_Mod_again_162 ?_
                          refine r_iadd 164 rfl d_Mod_again_163 ?_
                          refine r_topi (nI (98 + i4)) (nI_add _ _) ?_
                          refine r_iald 26 rfl (98 + i4) rfl (by omega) (by omega) 165 rfl d_Mod_again_164 ?_
                          refine r_iast (w2 := MW X a ν (u2 (u2 (u2 (u2 (u2 (g6 σ (σ 40) i4) 24 (upd (va_cpy (σ 40) (σ 24) 78 0 i4) i4 (σ 40 (78 + i4)))) 25 (upd (va_cpy (σ 40) (σ 25) 83 0 i4) i4 (σ 40 (83 + i4)))) 26 (upd (va_cpy (σ 40) (σ 26) 88 0 i4) i4 (σ 40 (88 + i4)))) 27 (upd (va_cpy (σ 40) (σ 27) 93 0 i4) i4 (σ 40 (93 + i4)))) 28 (upd (va_cpy (σ 40) (σ 28) 98 0 i4) i4 (σ 40 (98 + i4)))) τ) 18 rfl i4 rfl (by omega) (by omega) rfl 166 rfl d_Mod_again_165 ?_
                          refine r_iinc (ls2 := [some (.ref (a 0)), some (.ref (a 40)), some (.int (nI (i4 + 1)))]) (nI (i4 + 1)) rfl (nI_1 _) 169 rfl d_Mod_again_166 (by decide) rfl rfl ?_
                          refine r_goto 101 rfl d_Mod_again_169 ?_
                          refine Runs.cast (ih8 (i4 + 1) (by omega) (by omega)) (rfl) rfl (by rw [g6_s])
                    refine Runs.cast (L101_7 _ 0 (by omega) (Nat.lt_succ_self _)) (rfl) rfl (by rw [show i3 = 36 by omega, g6_0])
                  · refine r_aload_n rfl 82 rfl d_Mod_again_81 ?_
                    refine r_getf (v := .ref (a 5)) gf_Mod_24 0 rfl rfl 85 rfl d_Mod_again_82 ?_
                    refine r_iload_n rfl 86 rfl d_Mod_again_85 ?_
                    refine r_aload_n rfl 87 rfl d_Mod_again_86 ?_
                    refine r_bipush (nI 42) rfl 89 rfl d_Mod_again_87 ?_
                    refine r_iload_n rfl 90 rfl d_Mod_again_89 ?_
                    refine r_iadd 91 rfl d_Mod_again_90 ?_
                    refine r_topi (nI (42 + i3)) (nI_add _ _) ?_
                    refine r_iald 26 rfl (42 + i3) rfl (by omega) (by omega) 92 rfl d_Mod_again_91 ?_
                    refine r_iast (w2 := MW X a ν (u2 (g5 σ (σ 40) i3) 5 (upd (va_cpy (σ 40) (σ 5) 42 0 i3) i3 (σ 40 (42 + i3)))) τ) 5 rfl i3 rfl (by omega) (by omega) rfl 93 rfl d_Mod_again_92 ?_
                    refine r_iinc (ls2 := [some (.ref (a 0)), some (.ref (a 40)), some (.int (nI (i3 + 1)))]) (nI (i3 + 1)) rfl (nI_1 _) 96 rfl d_Mod_again_93 (by decide) rfl rfl ?_
                    refine r_goto 75 rfl d_Mod_again_96 ?_
                    refine Runs.cast (ih6 (i3 + 1) (by omega) (by omega)) (rfl) rfl (by rw [g5_s])
              refine Runs.cast (L75_5 _ 0 (by omega) (Nat.lt_succ_self _)) (rfl) rfl (by rw [show i2 = 24 by omega, g5_0])
            · refine r_aload_n rfl 56 rfl d_Mod_again_55 ?_
              refine r_getf (v := .ref (a 4)) gf_Mod_21 0 rfl rfl 59 rfl d_Mod_again_56 ?_
              refine r_iload_n rfl 60 rfl d_Mod_again_59 ?_
              refine r_aload_n rfl 61 rfl d_Mod_again_60 ?_
              refine r_bipush (nI 18) rfl 63 rfl d_Mod_again_61 ?_
              refine r_iload_n rfl 64 rfl d_Mod_again_63 ?_
              refine r_iadd 65 rfl d_Mod_again_64 ?_
              refine r_topi (nI (18 + i2)) (nI_add _ _) ?_
              refine r_iald 26 rfl (18 + i2) rfl (by omega) (by omega) 66 rfl d_Mod_again_65 ?_
              refine r_iast (w2 := MW X a ν (u2 (g4 σ (σ 40) i2) 4 (upd (va_cpy (σ 40) (σ 4) 18 0 i2) i2 (σ 40 (18 + i2)))) τ) 4 rfl i2 rfl (by omega) (by omega) rfl 67 rfl d_Mod_again_66 ?_
              refine r_iinc (ls2 := [some (.ref (a 0)), some (.ref (a 40)), some (.int (nI (i2 + 1)))]) (nI (i2 + 1)) rfl (nI_1 _) 70 rfl d_Mod_again_67 (by decide) rfl rfl ?_
              refine r_goto 49 rfl d_Mod_again_70 ?_
              refine Runs.cast (ih4 (i2 + 1) (by omega) (by omega)) (rfl) rfl (by rw [g4_s])
        refine Runs.cast (L49_3 _ 0 (by omega) (Nat.lt_succ_self _)) (rfl) rfl (by rw [show i1 = 6 by omega, g4_0])
      · refine r_aload_n rfl 9 rfl d_Mod_again_8 ?_
        refine r_getf (v := .ref (a 1)) gf_Mod_9 0 rfl rfl 12 rfl d_Mod_again_9 ?_
        refine r_iload_n rfl 13 rfl d_Mod_again_12 ?_
        refine r_aload_n rfl 14 rfl d_Mod_again_13 ?_
        refine r_iload_n rfl 15 rfl d_Mod_again_14 ?_
        refine r_iald 26 rfl i1 rfl (by omega) (by omega) 16 rfl d_Mod_again_15 ?_
        refine r_iast (w2 := MW X a ν (u2 (g3 σ (σ 40) i1) 1 (upd (va_cpy (σ 40) (σ 1) 0 0 i1) i1 (σ 40 i1))) τ) 1 rfl i1 rfl (by omega) (by omega) rfl 17 rfl d_Mod_again_16 ?_
        refine r_aload_n rfl 18 rfl d_Mod_again_17 ?_
        refine r_getf (v := .ref (a 2)) gf_Mod_15 0 rfl rfl 21 rfl d_Mod_again_18 ?_
        refine r_iload_n rfl 22 rfl d_Mod_again_21 ?_
        refine r_aload_n rfl 23 rfl d_Mod_again_22 ?_
        refine r_bipush (nI 6) rfl 25 rfl d_Mod_again_23 ?_
        refine r_iload_n rfl 26 rfl d_Mod_again_25 ?_
        refine r_iadd 27 rfl d_Mod_again_26 ?_
        refine r_topi (nI (6 + i1)) (nI_add _ _) ?_
        refine r_iald 26 rfl (6 + i1) rfl (by omega) (by omega) 28 rfl d_Mod_again_27 ?_
        refine r_iast (w2 := MW X a ν (u2 (u2 (g3 σ (σ 40) i1) 1 (upd (va_cpy (σ 40) (σ 1) 0 0 i1) i1 (σ 40 i1))) 2 (upd (va_cpy (σ 40) (σ 2) 6 0 i1) i1 (σ 40 (6 + i1)))) τ) 2 rfl i1 rfl (by omega) (by omega) rfl 29 rfl d_Mod_again_28 ?_
        refine r_aload_n rfl 30 rfl d_Mod_again_29 ?_
        refine r_getf (v := .ref (a 3)) gf_Mod_18 0 rfl rfl 33 rfl d_Mod_again_30 ?_
        refine r_iload_n rfl 34 rfl d_Mod_again_33 ?_
        refine r_aload_n rfl 35 rfl d_Mod_again_34 ?_
        refine r_bipush (nI 12) rfl 37 rfl d_Mod_again_35 ?_
        refine r_iload_n rfl 38 rfl d_Mod_again_37 ?_
        refine r_iadd 39 rfl d_Mod_again_38 ?_
        refine r_topi (nI (12 + i1)) (nI_add _ _) ?_
        refine r_iald 26 rfl (12 + i1) rfl (by omega) (by omega) 40 rfl d_Mod_again_39 ?_
        refine r_iast (w2 := MW X a ν (u2 (u2 (u2 (g3 σ (σ 40) i1) 1 (upd (va_cpy (σ 40) (σ 1) 0 0 i1) i1 (σ 40 i1))) 2 (upd (va_cpy (σ 40) (σ 2) 6 0 i1) i1 (σ 40 (6 + i1)))) 3 (upd (va_cpy (σ 40) (σ 3) 12 0 i1) i1 (σ 40 (12 + i1)))) τ) 3 rfl i1 rfl (by omega) (by omega) rfl 41 rfl d_Mod_again_40 ?_
        refine r_iinc (ls2 := [some (.ref (a 0)), some (.ref (a 40)), some (.int (nI (i1 + 1)))]) (nI (i1 + 1)) rfl (nI_1 _) 44 rfl d_Mod_again_41 (by decide) rfl rfl ?_
        refine r_goto 2 rfl d_Mod_again_44 ?_
        refine Runs.cast (ih2 (i1 + 1) (by omega) (by omega)) (rfl) rfl (by rw [g3_s])
  refine Runs.cast (L2_1 _ 0 (by omega) (Nat.lt_succ_self _)) (rfl) rfl (by rw [g3_0])
theorem c_JInt_bitCount (X : Xn) (S : Nat) (hS : S < 64) : Does X 1 M_JInt_bitCount [.int (nI S)] ([]) 0 0 (fun (vv : Option Value) (ww : va_W) => vv = some (.int (nI (popc S))) ∧ ww = []) := by
  generalize hQ : (fun (vv : Option Value) (ww : va_W) => vv = some (.int (nI (popc S))) ∧ ww = []) = Q
  refine Does.go rfl (Nat.le_of_ble_eq_true rfl) [some (.int (nI S))] 0 rfl ?_
  refine r_iload_n rfl 1 rfl d_JInt_bitCount_0 ?_
  refine r_iload_n rfl 2 rfl d_JInt_bitCount_1 ?_
  refine r_iconst (nI 1) rfl 3 rfl d_JInt_bitCount_2 ?_
  refine r_iushr 4 rfl d_JInt_bitCount_3 ?_
  refine r_ldcw (v := (1431655765)) (inTB 1211 (by decide +kernel) rfl) 7 rfl d_JInt_bitCount_4 ?_
  refine r_topi (nI 1431655765) rfl ?_
  refine r_iand 8 rfl d_JInt_bitCount_7 ?_
  refine r_isub 9 rfl d_JInt_bitCount_8 ?_
  refine r_istore_n (ls2 := [some (.int ((nI S) - ((((nI S).toUInt32 >>> ((nI 1).toUInt32 &&& Int32.toUInt32 31)).toInt32) &&& (nI 1431655765))))]) 10 rfl d_JInt_bitCount_9 (by decide) rfl rfl ?_
  refine r_iload_n rfl 11 rfl d_JInt_bitCount_10 ?_
  refine r_ldcw (v := (858993459)) (inTB 1212 (by decide +kernel) rfl) 14 rfl d_JInt_bitCount_11 ?_
  refine r_topi (nI 858993459) rfl ?_
  refine r_iand 15 rfl d_JInt_bitCount_14 ?_
  refine r_iload_n rfl 16 rfl d_JInt_bitCount_15 ?_
  refine r_iconst (nI 2) rfl 17 rfl d_JInt_bitCount_16 ?_
  refine r_iushr 18 rfl d_JInt_bitCount_17 ?_
  refine r_ldcw (v := (858993459)) (inTB 1212 (by decide +kernel) rfl) 21 rfl d_JInt_bitCount_18 ?_
  refine r_topi (nI 858993459) rfl ?_
  refine r_iand 22 rfl d_JInt_bitCount_21 ?_
  refine r_iadd 23 rfl d_JInt_bitCount_22 ?_
  refine r_istore_n (ls2 := [some (.int ((((nI S) - ((((nI S).toUInt32 >>> ((nI 1).toUInt32 &&& Int32.toUInt32 31)).toInt32) &&& (nI 1431655765))) &&& (nI 858993459)) + (((((nI S) - ((((nI S).toUInt32 >>> ((nI 1).toUInt32 &&& Int32.toUInt32 31)).toInt32) &&& (nI 1431655765))).toUInt32 >>> ((nI 2).toUInt32 &&& Int32.toUInt32 31)).toInt32) &&& (nI 858993459))))]) 24 rfl d_JInt_bitCount_23 (by decide) rfl rfl ?_
  refine r_iload_n rfl 25 rfl d_JInt_bitCount_24 ?_
  refine r_iload_n rfl 26 rfl d_JInt_bitCount_25 ?_
  refine r_iconst (nI 4) rfl 27 rfl d_JInt_bitCount_26 ?_
  refine r_iushr 28 rfl d_JInt_bitCount_27 ?_
  refine r_iadd 29 rfl d_JInt_bitCount_28 ?_
  refine r_ldcw (v := (252645135)) (inTB 1213 (by decide +kernel) rfl) 32 rfl d_JInt_bitCount_29 ?_
  refine r_topi (nI 252645135) rfl ?_
  refine r_iand 33 rfl d_JInt_bitCount_32 ?_
  refine r_istore_n (ls2 := [some (.int ((((((nI S) - ((((nI S).toUInt32 >>> ((nI 1).toUInt32 &&& Int32.toUInt32 31)).toInt32) &&& (nI 1431655765))) &&& (nI 858993459)) + (((((nI S) - ((((nI S).toUInt32 >>> ((nI 1).toUInt32 &&& Int32.toUInt32 31)).toInt32) &&& (nI 1431655765))).toUInt32 >>> ((nI 2).toUInt32 &&& Int32.toUInt32 31)).toInt32) &&& (nI 858993459))) + ((((((nI S) - ((((nI S).toUInt32 >>> ((nI 1).toUInt32 &&& Int32.toUInt32 31)).toInt32) &&& (nI 1431655765))) &&& (nI 858993459)) + (((((nI S) - ((((nI S).toUInt32 >>> ((nI 1).toUInt32 &&& Int32.toUInt32 31)).toInt32) &&& (nI 1431655765))).toUInt32 >>> ((nI 2).toUInt32 &&& Int32.toUInt32 31)).toInt32) &&& (nI 858993459))).toUInt32 >>> ((nI 4).toUInt32 &&& Int32.toUInt32 31)).toInt32)) &&& (nI 252645135)))]) 34 rfl d_JInt_bitCount_33 (by decide) rfl rfl ?_
  refine r_iload_n rfl 35 rfl d_JInt_bitCount_34 ?_
  refine r_iload_n rfl 36 rfl d_JInt_bitCount_35 ?_
  refine r_bipush (nI 8) rfl 38 rfl d_JInt_bitCount_36 ?_
  refine r_iushr 39 rfl d_JInt_bitCount_38 ?_
  refine r_iadd 40 rfl d_JInt_bitCount_39 ?_
  refine r_istore_n (ls2 := [some (.int (((((((nI S) - ((((nI S).toUInt32 >>> ((nI 1).toUInt32 &&& Int32.toUInt32 31)).toInt32) &&& (nI 1431655765))) &&& (nI 858993459)) + (((((nI S) - ((((nI S).toUInt32 >>> ((nI 1).toUInt32 &&& Int32.toUInt32 31)).toInt32) &&& (nI 1431655765))).toUInt32 >>> ((nI 2).toUInt32 &&& Int32.toUInt32 31)).toInt32) &&& (nI 858993459))) + ((((((nI S) - ((((nI S).toUInt32 >>> ((nI 1).toUInt32 &&& Int32.toUInt32 31)).toInt32) &&& (nI 1431655765))) &&& (nI 858993459)) + (((((nI S) - ((((nI S).toUInt32 >>> ((nI 1).toUInt32 &&& Int32.toUInt32 31)).toInt32) &&& (nI 1431655765))).toUInt32 >>> ((nI 2).toUInt32 &&& Int32.toUInt32 31)).toInt32) &&& (nI 858993459))).toUInt32 >>> ((nI 4).toUInt32 &&& Int32.toUInt32 31)).toInt32)) &&& (nI 252645135)) + ((((((((nI S) - ((((nI S).toUInt32 >>> ((nI 1).toUInt32 &&& Int32.toUInt32 31)).toInt32) &&& (nI 1431655765))) &&& (nI 858993459)) + (((((nI S) - ((((nI S).toUInt32 >>> ((nI 1).toUInt32 &&& Int32.toUInt32 31)).toInt32) &&& (nI 1431655765))).toUInt32 >>> ((nI 2).toUInt32 &&& Int32.toUInt32 31)).toInt32) &&& (nI 858993459))) + ((((((nI S) - ((((nI S).toUInt32 >>> ((nI 1).toUInt32 &&& Int32.toUInt32 31)).toInt32) &&& (nI 1431655765))) &&& (nI 858993459)) + (((((nI S) - ((((nI S).toUInt32 >>> ((nI 1).toUInt32 &&& Int32.toUInt32 31)).toInt32) &&& (nI 1431655765))).toUInt32 >>> ((nI 2).toUInt32 &&& Int32.toUInt32 31)).toInt32) &&& (nI 858993459))).toUInt32 >>> ((nI 4).toUInt32 &&& Int32.toUInt32 31)).toInt32)) &&& (nI 252645135)).toUInt32 >>> ((nI 8).toUInt32 &&& Int32.toUInt32 31)).toInt32)))]) 41 rfl d_JInt_bitCount_40 (by decide) rfl rfl ?_
  refine r_iload_n rfl 42 rfl d_JInt_bitCount_41 ?_
  refine r_iload_n rfl 43 rfl d_JInt_bitCount_42 ?_
  refine r_bipush (nI 16) rfl 45 rfl d_JInt_bitCount_43 ?_
  refine r_iushr 46 rfl d_JInt_bitCount_45 ?_
  refine r_iadd 47 rfl d_JInt_bitCount_46 ?_
  refine r_istore_n (ls2 := [some (.int ((((((((nI S) - ((((nI S).toUInt32 >>> ((nI 1).toUInt32 &&& Int32.toUInt32 31)).toInt32) &&& (nI 1431655765))) &&& (nI 858993459)) + (((((nI S) - ((((nI S).toUInt32 >>> ((nI 1).toUInt32 &&& Int32.toUInt32 31)).toInt32) &&& (nI 1431655765))).toUInt32 >>> ((nI 2).toUInt32 &&& Int32.toUInt32 31)).toInt32) &&& (nI 858993459))) + ((((((nI S) - ((((nI S).toUInt32 >>> ((nI 1).toUInt32 &&& Int32.toUInt32 31)).toInt32) &&& (nI 1431655765))) &&& (nI 858993459)) + (((((nI S) - ((((nI S).toUInt32 >>> ((nI 1).toUInt32 &&& Int32.toUInt32 31)).toInt32) &&& (nI 1431655765))).toUInt32 >>> ((nI 2).toUInt32 &&& Int32.toUInt32 31)).toInt32) &&& (nI 858993459))).toUInt32 >>> ((nI 4).toUInt32 &&& Int32.toUInt32 31)).toInt32)) &&& (nI 252645135)) + ((((((((nI S) - ((((nI S).toUInt32 >>> ((nI 1).toUInt32 &&& Int32.toUInt32 31)).toInt32) &&& (nI 1431655765))) &&& (nI 858993459)) + (((((nI S) - ((((nI S).toUInt32 >>> ((nI 1).toUInt32 &&& Int32.toUInt32 31)).toInt32) &&& (nI 1431655765))).toUInt32 >>> ((nI 2).toUInt32 &&& Int32.toUInt32 31)).toInt32) &&& (nI 858993459))) + ((((((nI S) - ((((nI S).toUInt32 >>> ((nI 1).toUInt32 &&& Int32.toUInt32 31)).toInt32) &&& (nI 1431655765))) &&& (nI 858993459)) + (((((nI S) - ((((nI S).toUInt32 >>> ((nI 1).toUInt32 &&& Int32.toUInt32 31)).toInt32) &&& (nI 1431655765))).toUInt32 >>> ((nI 2).toUInt32 &&& Int32.toUInt32 31)).toInt32) &&& (nI 858993459))).toUInt32 >>> ((nI 4).toUInt32 &&& Int32.toUInt32 31)).toInt32)) &&& (nI 252645135)).toUInt32 >>> ((nI 8).toUInt32 &&& Int32.toUInt32 31)).toInt32)) + (((((((((nI S) - ((((nI S).toUInt32 >>> ((nI 1).toUInt32 &&& Int32.toUInt32 31)).toInt32) &&& (nI 1431655765))) &&& (nI 858993459)) + (((((nI S) - ((((nI S).toUInt32 >>> ((nI 1).toUInt32 &&& Int32.toUInt32 31)).toInt32) &&& (nI 1431655765))).toUInt32 >>> ((nI 2).toUInt32 &&& Int32.toUInt32 31)).toInt32) &&& (nI 858993459))) + ((((((nI S) - ((((nI S).toUInt32 >>> ((nI 1).toUInt32 &&& Int32.toUInt32 31)).toInt32) &&& (nI 1431655765))) &&& (nI 858993459)) + (((((nI S) - ((((nI S).toUInt32 >>> ((nI 1).toUInt32 &&& Int32.toUInt32 31)).toInt32) &&& (nI 1431655765))).toUInt32 >>> ((nI 2).toUInt32 &&& Int32.toUInt32 31)).toInt32) &&& (nI 858993459))).toUInt32 >>> ((nI 4).toUInt32 &&& Int32.toUInt32 31)).toInt32)) &&& (nI 252645135)) + ((((((((nI S) - ((((nI S).toUInt32 >>> ((nI 1).toUInt32 &&& Int32.toUInt32 31)).toInt32) &&& (nI 1431655765))) &&& (nI 858993459)) + (((((nI S) - ((((nI S).toUInt32 >>> ((nI 1).toUInt32 &&& Int32.toUInt32 31)).toInt32) &&& (nI 1431655765))).toUInt32 >>> ((nI 2).toUInt32 &&& Int32.toUInt32 31)).toInt32) &&& (nI 858993459))) + ((((((nI S) - ((((nI S).toUInt32 >>> ((nI 1).toUInt32 &&& Int32.toUInt32 31)).toInt32) &&& (nI 1431655765))) &&& (nI 858993459)) + (((((nI S) - ((((nI S).toUInt32 >>> ((nI 1).toUInt32 &&& Int32.toUInt32 31)).toInt32) &&& (nI 1431655765))).toUInt32 >>> ((nI 2).toUInt32 &&& Int32.toUInt32 31)).toInt32) &&& (nI 858993459))).toUInt32 >>> ((nI 4).toUInt32 &&& Int32.toUInt32 31)).toInt32)) &&& (nI 252645135)).toUInt32 >>> ((nI 8).toUInt32 &&& Int32.toUInt32 31)).toInt32)).toUInt32 >>> ((nI 16).toUInt32 &&& Int32.toUInt32 31)).toInt32)))]) 48 rfl d_JInt_bitCount_47 (by decide) rfl rfl ?_
  refine r_iload_n rfl 49 rfl d_JInt_bitCount_48 ?_
  refine r_bipush (nI 63) rfl 51 rfl d_JInt_bitCount_49 ?_
  refine r_iand 52 rfl d_JInt_bitCount_51 ?_
  exact r_iret rfl (Nat.zero_le _) (Nat.zero_le _) d_JInt_bitCount_52 (by rw [← hQ]; exact ⟨bitCount_some S hS rfl, rfl⟩)
