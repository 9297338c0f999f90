theorem iq_RX5 (cd : Cond) : ∀ w ∈ u_ws RX5 TX5 19, w ∈ cd :: TB := by
  intro w hw
  obtain ⟨k, hk, rfl⟩ := List.mem_map.mp hw
  have hk := List.mem_range.mp hk
  refine List.mem_cons_of_mem _ ?_
  match k, hk with
  | 0, _ => exact mk_tb (ti_4 (List.mem_of_getElem? (i := 158) rfl)) rfl
  | 1, _ => exact mk_tb (ti_4 (List.mem_of_getElem? (i := 160) rfl)) rfl
  | 2, _ => exact mk_tb (ti_4 (List.mem_of_getElem? (i := 162) rfl)) rfl
  | 3, _ => exact mk_tb (ti_4 (List.mem_of_getElem? (i := 164) rfl)) rfl
  | 4, _ => exact mk_tb (ti_4 (List.mem_of_getElem? (i := 166) rfl)) rfl
  | 5, _ => exact mk_tb (ti_4 (List.mem_of_getElem? (i := 168) rfl)) rfl
  | 6, _ => exact mk_tb (ti_4 (List.mem_of_getElem? (i := 170) rfl)) rfl
  | 7, _ => exact mk_tb (ti_4 (List.mem_of_getElem? (i := 172) rfl)) rfl
  | 8, _ => exact mk_tb (ti_4 (List.mem_of_getElem? (i := 174) rfl)) rfl
  | 9, _ => exact mk_tb (ti_4 (List.mem_of_getElem? (i := 176) rfl)) rfl
  | 10, _ => exact mk_tb (ti_4 (List.mem_of_getElem? (i := 178) rfl)) rfl
  | 11, _ => exact mk_tb (ti_4 (List.mem_of_getElem? (i := 180) rfl)) rfl
  | 12, _ => exact mk_tb (ti_4 (List.mem_of_getElem? (i := 182) rfl)) rfl
  | 13, _ => exact mk_tb (ti_4 (List.mem_of_getElem? (i := 184) rfl)) rfl
  | 14, _ => exact mk_tb (ti_4 (List.mem_of_getElem? (i := 186) rfl)) rfl
  | 15, _ => exact mk_tb (ti_4 (List.mem_of_getElem? (i := 188) rfl)) rfl
  | 16, _ => exact mk_tb (ti_4 (List.mem_of_getElem? (i := 190) rfl)) rfl
  | 17, _ => exact mk_tb (ti_4 (List.mem_of_getElem? (i := 192) rfl)) rfl
  | 18, _ => exact mk_tb (ti_4 (List.mem_of_getElem? (i := 194) rfl)) rfl
  | n + 19, h => exact absurd h (by omega)
theorem qq_4_131 : Cond.instantiable "WrongHole$Paths" 19 ∈ TB := mk_tb (ti_4 (List.mem_of_getElem? (i := 131) rfl)) rfl
theorem iq_RX7 (cd : Cond) : ∀ w ∈ u_ws RX7 TX7 3, w ∈ cd :: TB := by
  intro w hw
  obtain ⟨k, hk, rfl⟩ := List.mem_map.mp hw
  have hk := List.mem_range.mp hk
  refine List.mem_cons_of_mem _ ?_
  match k, hk with
  | 0, _ => exact mk_tb (ti_3 (List.mem_of_getElem? (i := 149) rfl)) rfl
  | 1, _ => exact mk_tb (ti_3 (List.mem_of_getElem? (i := 151) rfl)) rfl
  | 2, _ => exact mk_tb (ti_3 (List.mem_of_getElem? (i := 153) rfl)) rfl
  | n + 3, h => exact absurd h (by omega)
theorem qq_3_125 : Cond.instantiable "WrongHole$Rule" 3 ∈ TB := mk_tb (ti_3 (List.mem_of_getElem? (i := 125) rfl)) rfl
theorem qq_1_23 : Cond.instantiable "WrongHole" 12 ∈ TB := mk_tb (ti_1 (List.mem_of_getElem? (i := 23) rfl)) rfl
theorem qq_5_146 : Cond.instantiable "WrongHoleModel" 33 ∈ TB := mk_tb (ti_5 (List.mem_of_getElem? (i := 146) rfl)) rfl
theorem dL_law_0 : decode cL_law 0 = .ok (.new 7, 3) := by decide +kernel
theorem qq_1_22 : Cond.classLink "WrongHoleLaw" 7 "WrongHole" ∈ TB := mk_tb (ti_1 (List.mem_of_getElem? (i := 22) rfl)) rfl
theorem fv_RX11 : ∀ j, j < 12 → defaultValue (tyX11 j) = vp_V [.null, .null, .null, .int 0, .null, .null, .null, .null, .null, .null, .null, .null] j := by
  intro j hj
  match j, hj with
  | 0, _ => rfl
  | 1, _ => rfl
  | 2, _ => rfl
  | 3, _ => rfl
  | 4, _ => rfl
  | 5, _ => rfl
  | 6, _ => rfl
  | 7, _ => rfl
  | 8, _ => rfl
  | 9, _ => rfl
  | 10, _ => rfl
  | 11, _ => rfl
  | n + 12, h => exact absurd h (by omega)
theorem dL_law_3 : decode cL_law 3 = .ok (.dup, 1) := by decide +kernel
theorem dL_law_4 : decode cL_law 4 = .ok (.invokespecial 9, 3) := by decide +kernel
theorem qq_1_26 : Cond.code yX11_init cX11_init 1 none ∈ TB := mk_tb (ti_1 (List.mem_of_getElem? (i := 26) rfl)) rfl
theorem qq_1_24 : Cond.methodLink "WrongHoleLaw" 9 yX11_init ∈ TB := mk_tb (ti_1 (List.mem_of_getElem? (i := 24) rfl)) rfl
theorem qq_1_25 : Cond.instanceMethod yX11_init ∈ TB := mk_tb (ti_1 (List.mem_of_getElem? (i := 25) rfl)) rfl
theorem dL_law_7 : decode cL_law 7 = .ok (.astore_n 1, 1) := by decide +kernel
theorem dL_law_8 : decode cL_law 8 = .ok (.new 10, 3) := by decide +kernel
theorem qq_5_145 : Cond.classLink "WrongHoleLaw" 10 "WrongHoleModel" ∈ TB := mk_tb (ti_5 (List.mem_of_getElem? (i := 145) rfl)) rfl
theorem fv_RX12 : ∀ j, j < 33 → defaultValue (tyX12 j) = vp_V [.null, .int 0, .int 0, .null, .null, .null, .null, .null, .int 0, .int 0, .int 0, .int 0, .int 0, .int 0, .int 0, .null, .int 0, .null, .int 0, .null, .null, .int 0, .null, .int 0, .null, .null, .null, .int 0, .int 0, .long 0, .null, .null, .null] j := by
  intro j hj
  match j, hj with
  | 0, _ => rfl
  | 1, _ => rfl
  | 2, _ => rfl
  | 3, _ => rfl
  | 4, _ => rfl
  | 5, _ => rfl
  | 6, _ => rfl
  | 7, _ => rfl
  | 8, _ => rfl
  | 9, _ => rfl
  | 10, _ => rfl
  | 11, _ => rfl
  | 12, _ => rfl
  | 13, _ => rfl
  | 14, _ => rfl
  | 15, _ => rfl
  | 16, _ => rfl
  | 17, _ => rfl
  | 18, _ => rfl
  | 19, _ => rfl
  | 20, _ => rfl
  | 21, _ => rfl
  | 22, _ => rfl
  | 23, _ => rfl
  | 24, _ => rfl
  | 25, _ => rfl
  | 26, _ => rfl
  | 27, _ => rfl
  | 28, _ => rfl
  | 29, _ => rfl
  | 30, _ => rfl
  | 31, _ => rfl
  | 32, _ => rfl
  | n + 33, h => exact absurd h (by omega)
theorem dL_law_11 : decode cL_law 11 = .ok (.dup, 1) := by decide +kernel
theorem dL_law_12 : decode cL_law 12 = .ok (.invokespecial 12, 3) := by decide +kernel
theorem qq_5_149 : Cond.code yX12_init cX12_init 2 none ∈ TB := mk_tb (ti_5 (List.mem_of_getElem? (i := 149) rfl)) rfl
theorem qq_5_147 : Cond.methodLink "WrongHoleLaw" 12 yX12_init ∈ TB := mk_tb (ti_5 (List.mem_of_getElem? (i := 147) rfl)) rfl
theorem qq_5_148 : Cond.instanceMethod yX12_init ∈ TB := mk_tb (ti_5 (List.mem_of_getElem? (i := 148) rfl)) rfl
theorem dL_law_15 : decode cL_law 15 = .ok (.astore_n 2, 1) := by decide +kernel
theorem dL_law_16 : decode cL_law 16 = .ok (.iconst 0, 1) := by decide +kernel
theorem dL_law_17 : decode cL_law 17 = .ok (.istore_n 3, 1) := by decide +kernel
theorem dL_law_18 : decode cL_law 18 = .ok (.iload_n 3, 1) := by decide +kernel
theorem dL_law_19 : decode cL_law 19 = .ok (.aload_n 0, 1) := by decide +kernel
theorem dL_law_20 : decode cL_law 20 = .ok (.arraylength, 1) := by decide +kernel
theorem dL_law_21 : decode cL_law 21 = .ok (.bipush 6, 2) := by decide +kernel
theorem dL_law_23 : decode cL_law 23 = .ok (.isub, 1) := by decide +kernel
theorem dL_law_24 : decode cL_law 24 = .ok (.if_icmp .gt 1007, 3) := by decide +kernel
theorem dL_law_1031 : decode cL_law 1031 = .ok (.iconst 1, 1) := by decide +kernel
theorem dL_law_1032 : decode cL_law 1032 = .ok (.ireturn, 1) := by decide +kernel
theorem dL_law_27 : decode cL_law 27 = .ok (.aload_n 0, 1) := by decide +kernel
theorem dL_law_28 : decode cL_law 28 = .ok (.iload_n 3, 1) := by decide +kernel
theorem dL_law_29 : decode cL_law 29 = .ok (.iaload, 1) := by decide +kernel
theorem dL_law_30 : decode cL_law 30 = .ok (.bipush 31, 2) := by decide +kernel
theorem dL_law_32 : decode cL_law 32 = .ok (.iand, 1) := by decide +kernel
theorem dL_law_33 : decode cL_law 33 = .ok (.tableswitch 992 0 30 #[139, 202, 225, 238, 251, 284, 317, 340, 363, 386, 419, 442, 455, 488, 501, 534, 557, 570, 603, 636, 659, 702, 735, 778, 801, 834, 857, 880, 923, 946, 969], 139) := by decide +kernel
theorem dL_law_1025 : decode cL_law 1025 = .ok (.iinc 3 6, 3) := by decide +kernel
theorem dL_law_1028 : decode cL_law 1028 = .ok (.goto (-1010), 3) := by decide +kernel
theorem dL_law_172 : decode cL_law 172 = .ok (.aload_n 1, 1) := by decide +kernel
theorem dL_law_173 : decode cL_law 173 = .ok (.aload_n 0, 1) := by decide +kernel
theorem dL_law_174 : decode cL_law 174 = .ok (.iload_n 3, 1) := by decide +kernel
theorem dL_law_175 : decode cL_law 175 = .ok (.iconst 1, 1) := by decide +kernel
theorem dL_law_176 : decode cL_law 176 = .ok (.iadd, 1) := by decide +kernel
theorem dL_law_177 : decode cL_law 177 = .ok (.iaload, 1) := by decide +kernel
theorem dL_law_178 : decode cL_law 178 = .ok (.aload_n 0, 1) := by decide +kernel
theorem dL_law_179 : decode cL_law 179 = .ok (.iload_n 3, 1) := by decide +kernel
theorem dL_law_180 : decode cL_law 180 = .ok (.iconst 2, 1) := by decide +kernel
theorem dL_law_181 : decode cL_law 181 = .ok (.iadd, 1) := by decide +kernel
theorem dL_law_182 : decode cL_law 182 = .ok (.iaload, 1) := by decide +kernel
theorem dL_law_183 : decode cL_law 183 = .ok (.aload_n 0, 1) := by decide +kernel
theorem dL_law_184 : decode cL_law 184 = .ok (.iload_n 3, 1) := by decide +kernel
theorem dL_law_185 : decode cL_law 185 = .ok (.iconst 3, 1) := by decide +kernel
theorem dL_law_186 : decode cL_law 186 = .ok (.iadd, 1) := by decide +kernel
theorem dL_law_187 : decode cL_law 187 = .ok (.iaload, 1) := by decide +kernel
theorem dL_law_188 : decode cL_law 188 = .ok (.aload_n 0, 1) := by decide +kernel
theorem dL_law_189 : decode cL_law 189 = .ok (.iload_n 3, 1) := by decide +kernel
theorem dL_law_190 : decode cL_law 190 = .ok (.iconst 4, 1) := by decide +kernel
theorem dL_law_191 : decode cL_law 191 = .ok (.iadd, 1) := by decide +kernel
theorem dL_law_192 : decode cL_law 192 = .ok (.iaload, 1) := by decide +kernel
theorem dL_law_193 : decode cL_law 193 = .ok (.aload_n 0, 1) := by decide +kernel
theorem dL_law_194 : decode cL_law 194 = .ok (.iload_n 3, 1) := by decide +kernel
theorem dL_law_195 : decode cL_law 195 = .ok (.iconst 5, 1) := by decide +kernel
theorem dL_law_196 : decode cL_law 196 = .ok (.iadd, 1) := by decide +kernel
theorem dL_law_197 : decode cL_law 197 = .ok (.iaload, 1) := by decide +kernel
theorem dL_law_198 : decode cL_law 198 = .ok (.invokevirtual 13, 3) := by decide +kernel
theorem qq_2_2 : Cond.code yX11_feed cX11_feed 6 (some .int) ∈ TB := mk_tb (ti_2 (List.mem_of_getElem? (i := 2) rfl)) rfl
theorem qq_1_239 : Cond.methodLink "WrongHoleLaw" 13 yX11_feed ∈ TB := mk_tb (ti_1 (List.mem_of_getElem? (i := 239) rfl)) rfl
theorem qq_2_0 : Cond.instanceMethod yX11_feed ∈ TB := mk_tb (ti_2 (List.mem_of_getElem? (i := 0) rfl)) rfl
theorem qq_2_1 : Cond.selects "WrongHole" yX11_feed yX11_feed ∈ TB := mk_tb (ti_2 (List.mem_of_getElem? (i := 1) rfl)) rfl
theorem dL_law_201 : decode cL_law 201 = .ok (.aload_n 2, 1) := by decide +kernel
theorem dL_law_202 : decode cL_law 202 = .ok (.aload_n 0, 1) := by decide +kernel
theorem dL_law_203 : decode cL_law 203 = .ok (.iload_n 3, 1) := by decide +kernel
theorem dL_law_204 : decode cL_law 204 = .ok (.iconst 1, 1) := by decide +kernel
theorem dL_law_205 : decode cL_law 205 = .ok (.iadd, 1) := by decide +kernel
theorem dL_law_206 : decode cL_law 206 = .ok (.iaload, 1) := by decide +kernel
theorem dL_law_207 : decode cL_law 207 = .ok (.aload_n 0, 1) := by decide +kernel
theorem dL_law_208 : decode cL_law 208 = .ok (.iload_n 3, 1) := by decide +kernel
theorem dL_law_209 : decode cL_law 209 = .ok (.iconst 2, 1) := by decide +kernel
theorem dL_law_210 : decode cL_law 210 = .ok (.iadd, 1) := by decide +kernel
theorem dL_law_211 : decode cL_law 211 = .ok (.iaload, 1) := by decide +kernel
theorem dL_law_212 : decode cL_law 212 = .ok (.aload_n 0, 1) := by decide +kernel
theorem dL_law_213 : decode cL_law 213 = .ok (.iload_n 3, 1) := by decide +kernel
theorem dL_law_214 : decode cL_law 214 = .ok (.iconst 3, 1) := by decide +kernel
theorem dL_law_215 : decode cL_law 215 = .ok (.iadd, 1) := by decide +kernel
theorem dL_law_216 : decode cL_law 216 = .ok (.iaload, 1) := by decide +kernel
theorem dL_law_217 : decode cL_law 217 = .ok (.aload_n 0, 1) := by decide +kernel
theorem dL_law_218 : decode cL_law 218 = .ok (.iload_n 3, 1) := by decide +kernel
theorem dL_law_219 : decode cL_law 219 = .ok (.iconst 4, 1) := by decide +kernel
theorem dL_law_220 : decode cL_law 220 = .ok (.iadd, 1) := by decide +kernel
theorem dL_law_221 : decode cL_law 221 = .ok (.iaload, 1) := by decide +kernel
theorem dL_law_222 : decode cL_law 222 = .ok (.aload_n 0, 1) := by decide +kernel
theorem dL_law_223 : decode cL_law 223 = .ok (.iload_n 3, 1) := by decide +kernel
theorem dL_law_224 : decode cL_law 224 = .ok (.iconst 5, 1) := by decide +kernel
theorem dL_law_225 : decode cL_law 225 = .ok (.iadd, 1) := by decide +kernel
theorem dL_law_226 : decode cL_law 226 = .ok (.iaload, 1) := by decide +kernel
theorem dL_law_227 : decode cL_law 227 = .ok (.invokevirtual 17, 3) := by decide +kernel
theorem qq_6_16 : Cond.code yX12_feed cX12_feed 6 (some .int) ∈ TB := mk_tb (ti_6 (List.mem_of_getElem? (i := 16) rfl)) rfl
theorem qq_6_13 : Cond.methodLink "WrongHoleLaw" 17 yX12_feed ∈ TB := mk_tb (ti_6 (List.mem_of_getElem? (i := 13) rfl)) rfl
theorem qq_6_14 : Cond.instanceMethod yX12_feed ∈ TB := mk_tb (ti_6 (List.mem_of_getElem? (i := 14) rfl)) rfl
theorem qq_6_15 : Cond.selects "WrongHoleModel" yX12_feed yX12_feed ∈ TB := mk_tb (ti_6 (List.mem_of_getElem? (i := 15) rfl)) rfl
theorem dL_law_230 : decode cL_law 230 = .ok (.if_icmp .eq 795, 3) := by decide +kernel
theorem dL_law_235 : decode cL_law 235 = .ok (.aload_n 1, 1) := by decide +kernel
theorem dL_law_236 : decode cL_law 236 = .ok (.aload_n 0, 1) := by decide +kernel
theorem dL_law_237 : decode cL_law 237 = .ok (.iload_n 3, 1) := by decide +kernel
theorem dL_law_238 : decode cL_law 238 = .ok (.iconst 1, 1) := by decide +kernel
theorem dL_law_239 : decode cL_law 239 = .ok (.iadd, 1) := by decide +kernel
theorem dL_law_240 : decode cL_law 240 = .ok (.iaload, 1) := by decide +kernel
theorem dL_law_241 : decode cL_law 241 = .ok (.invokevirtual 18, 3) := by decide +kernel
theorem qq_2_14 : Cond.code yX11_end cX11_end 2 (some .int) ∈ TB := mk_tb (ti_2 (List.mem_of_getElem? (i := 14) rfl)) rfl
theorem qq_2_11 : Cond.methodLink "WrongHoleLaw" 18 yX11_end ∈ TB := mk_tb (ti_2 (List.mem_of_getElem? (i := 11) rfl)) rfl
theorem qq_2_12 : Cond.instanceMethod yX11_end ∈ TB := mk_tb (ti_2 (List.mem_of_getElem? (i := 12) rfl)) rfl
theorem qq_2_13 : Cond.selects "WrongHole" yX11_end yX11_end ∈ TB := mk_tb (ti_2 (List.mem_of_getElem? (i := 13) rfl)) rfl
theorem dL_law_244 : decode cL_law 244 = .ok (.aload_n 2, 1) := by decide +kernel
theorem dL_law_245 : decode cL_law 245 = .ok (.aload_n 0, 1) := by decide +kernel
theorem dL_law_246 : decode cL_law 246 = .ok (.iload_n 3, 1) := by decide +kernel
theorem dL_law_247 : decode cL_law 247 = .ok (.iconst 1, 1) := by decide +kernel
theorem dL_law_248 : decode cL_law 248 = .ok (.iadd, 1) := by decide +kernel
theorem dL_law_249 : decode cL_law 249 = .ok (.iaload, 1) := by decide +kernel
theorem dL_law_250 : decode cL_law 250 = .ok (.invokevirtual 22, 3) := by decide +kernel
theorem qq_6_24 : Cond.code yX12_end cX12_end 2 (some .int) ∈ TB := mk_tb (ti_6 (List.mem_of_getElem? (i := 24) rfl)) rfl
theorem qq_6_21 : Cond.methodLink "WrongHoleLaw" 22 yX12_end ∈ TB := mk_tb (ti_6 (List.mem_of_getElem? (i := 21) rfl)) rfl
theorem qq_6_22 : Cond.instanceMethod yX12_end ∈ TB := mk_tb (ti_6 (List.mem_of_getElem? (i := 22) rfl)) rfl
theorem qq_6_23 : Cond.selects "WrongHoleModel" yX12_end yX12_end ∈ TB := mk_tb (ti_6 (List.mem_of_getElem? (i := 23) rfl)) rfl
theorem dL_law_253 : decode cL_law 253 = .ok (.if_icmp .eq 772, 3) := by decide +kernel
theorem dL_law_258 : decode cL_law 258 = .ok (.aload_n 1, 1) := by decide +kernel
theorem dL_law_259 : decode cL_law 259 = .ok (.invokevirtual 23, 3) := by decide +kernel
theorem qq_2_18 : Cond.code yX11_lift cX11_lift 2 (some .int) ∈ TB := mk_tb (ti_2 (List.mem_of_getElem? (i := 18) rfl)) rfl
theorem qq_2_15 : Cond.methodLink "WrongHoleLaw" 23 yX11_lift ∈ TB := mk_tb (ti_2 (List.mem_of_getElem? (i := 15) rfl)) rfl
theorem qq_2_16 : Cond.instanceMethod yX11_lift ∈ TB := mk_tb (ti_2 (List.mem_of_getElem? (i := 16) rfl)) rfl
theorem qq_2_17 : Cond.selects "WrongHole" yX11_lift yX11_lift ∈ TB := mk_tb (ti_2 (List.mem_of_getElem? (i := 17) rfl)) rfl
theorem dL_law_262 : decode cL_law 262 = .ok (.aload_n 2, 1) := by decide +kernel
theorem dL_law_263 : decode cL_law 263 = .ok (.invokevirtual 27, 3) := by decide +kernel
theorem qq_6_236 : Cond.code yX12_lift cX12_lift 2 (some .int) ∈ TB := mk_tb (ti_6 (List.mem_of_getElem? (i := 236) rfl)) rfl
theorem qq_6_233 : Cond.methodLink "WrongHoleLaw" 27 yX12_lift ∈ TB := mk_tb (ti_6 (List.mem_of_getElem? (i := 233) rfl)) rfl
theorem qq_6_234 : Cond.instanceMethod yX12_lift ∈ TB := mk_tb (ti_6 (List.mem_of_getElem? (i := 234) rfl)) rfl
theorem qq_6_235 : Cond.selects "WrongHoleModel" yX12_lift yX12_lift ∈ TB := mk_tb (ti_6 (List.mem_of_getElem? (i := 235) rfl)) rfl
theorem dL_law_266 : decode cL_law 266 = .ok (.if_icmp .eq 759, 3) := by decide +kernel
theorem dL_law_271 : decode cL_law 271 = .ok (.aload_n 1, 1) := by decide +kernel
theorem dL_law_272 : decode cL_law 272 = .ok (.invokevirtual 28, 3) := by decide +kernel
theorem qq_3_66 : Cond.code yX11_rule cX11_rule 2 (some .int) ∈ TB := mk_tb (ti_3 (List.mem_of_getElem? (i := 66) rfl)) rfl
theorem qq_3_63 : Cond.methodLink "WrongHoleLaw" 28 yX11_rule ∈ TB := mk_tb (ti_3 (List.mem_of_getElem? (i := 63) rfl)) rfl
theorem qq_3_64 : Cond.instanceMethod yX11_rule ∈ TB := mk_tb (ti_3 (List.mem_of_getElem? (i := 64) rfl)) rfl
theorem qq_3_65 : Cond.selects "WrongHole" yX11_rule yX11_rule ∈ TB := mk_tb (ti_3 (List.mem_of_getElem? (i := 65) rfl)) rfl
theorem dL_law_275 : decode cL_law 275 = .ok (.aload_n 2, 1) := by decide +kernel
theorem dL_law_276 : decode cL_law 276 = .ok (.invokevirtual 31, 3) := by decide +kernel
theorem qq_6_28 : Cond.code yX12_rule cX12_rule 1 (some .int) ∈ TB := mk_tb (ti_6 (List.mem_of_getElem? (i := 28) rfl)) rfl
theorem qq_6_25 : Cond.methodLink "WrongHoleLaw" 31 yX12_rule ∈ TB := mk_tb (ti_6 (List.mem_of_getElem? (i := 25) rfl)) rfl
theorem qq_6_26 : Cond.instanceMethod yX12_rule ∈ TB := mk_tb (ti_6 (List.mem_of_getElem? (i := 26) rfl)) rfl
theorem qq_6_27 : Cond.selects "WrongHoleModel" yX12_rule yX12_rule ∈ TB := mk_tb (ti_6 (List.mem_of_getElem? (i := 27) rfl)) rfl
theorem dL_law_279 : decode cL_law 279 = .ok (.if_icmp .eq 746, 3) := by decide +kernel
theorem dL_law_284 : decode cL_law 284 = .ok (.aload_n 1, 1) := by decide +kernel
theorem dL_law_285 : decode cL_law 285 = .ok (.aload_n 0, 1) := by decide +kernel
theorem dL_law_286 : decode cL_law 286 = .ok (.iload_n 3, 1) := by decide +kernel
theorem dL_law_287 : decode cL_law 287 = .ok (.iconst 1, 1) := by decide +kernel
theorem dL_law_288 : decode cL_law 288 = .ok (.iadd, 1) := by decide +kernel
theorem dL_law_289 : decode cL_law 289 = .ok (.iaload, 1) := by decide +kernel
theorem dL_law_290 : decode cL_law 290 = .ok (.aload_n 0, 1) := by decide +kernel
theorem dL_law_291 : decode cL_law 291 = .ok (.iload_n 3, 1) := by decide +kernel
theorem dL_law_292 : decode cL_law 292 = .ok (.iconst 2, 1) := by decide +kernel
theorem dL_law_293 : decode cL_law 293 = .ok (.iadd, 1) := by decide +kernel
theorem dL_law_294 : decode cL_law 294 = .ok (.iaload, 1) := by decide +kernel
theorem dL_law_295 : decode cL_law 295 = .ok (.invokevirtual 32, 3) := by decide +kernel
theorem qq_3_160 : Cond.code yX11_button cX11_button 4 (some .int) ∈ TB := mk_tb (ti_3 (List.mem_of_getElem? (i := 160) rfl)) rfl
theorem qq_3_157 : Cond.methodLink "WrongHoleLaw" 32 yX11_button ∈ TB := mk_tb (ti_3 (List.mem_of_getElem? (i := 157) rfl)) rfl
theorem qq_3_158 : Cond.instanceMethod yX11_button ∈ TB := mk_tb (ti_3 (List.mem_of_getElem? (i := 158) rfl)) rfl
theorem qq_3_159 : Cond.selects "WrongHole" yX11_button yX11_button ∈ TB := mk_tb (ti_3 (List.mem_of_getElem? (i := 159) rfl)) rfl
theorem dL_law_298 : decode cL_law 298 = .ok (.aload_n 2, 1) := by decide +kernel
theorem dL_law_299 : decode cL_law 299 = .ok (.aload_n 0, 1) := by decide +kernel
theorem dL_law_300 : decode cL_law 300 = .ok (.iload_n 3, 1) := by decide +kernel
theorem dL_law_301 : decode cL_law 301 = .ok (.iconst 1, 1) := by decide +kernel
theorem dL_law_302 : decode cL_law 302 = .ok (.iadd, 1) := by decide +kernel
theorem dL_law_303 : decode cL_law 303 = .ok (.iaload, 1) := by decide +kernel
theorem dL_law_304 : decode cL_law 304 = .ok (.aload_n 0, 1) := by decide +kernel
theorem dL_law_305 : decode cL_law 305 = .ok (.iload_n 3, 1) := by decide +kernel
theorem dL_law_306 : decode cL_law 306 = .ok (.iconst 2, 1) := by decide +kernel
theorem dL_law_307 : decode cL_law 307 = .ok (.iadd, 1) := by decide +kernel
theorem dL_law_308 : decode cL_law 308 = .ok (.iaload, 1) := by decide +kernel
theorem dL_law_309 : decode cL_law 309 = .ok (.invokevirtual 36, 3) := by decide +kernel
theorem qq_7_0 : Cond.code yX12_button cX12_button 3 (some .int) ∈ TB := mk_tb (ti_7 (List.mem_of_getElem? (i := 0) rfl)) rfl
theorem qq_6_237 : Cond.methodLink "WrongHoleLaw" 36 yX12_button ∈ TB := mk_tb (ti_6 (List.mem_of_getElem? (i := 237) rfl)) rfl
theorem qq_6_238 : Cond.instanceMethod yX12_button ∈ TB := mk_tb (ti_6 (List.mem_of_getElem? (i := 238) rfl)) rfl
theorem qq_6_239 : Cond.selects "WrongHoleModel" yX12_button yX12_button ∈ TB := mk_tb (ti_6 (List.mem_of_getElem? (i := 239) rfl)) rfl
theorem dL_law_312 : decode cL_law 312 = .ok (.if_icmp .eq 713, 3) := by decide +kernel
theorem dL_law_317 : decode cL_law 317 = .ok (.aload_n 1, 1) := by decide +kernel
theorem dL_law_318 : decode cL_law 318 = .ok (.aload_n 0, 1) := by decide +kernel
theorem dL_law_319 : decode cL_law 319 = .ok (.iload_n 3, 1) := by decide +kernel
theorem dL_law_320 : decode cL_law 320 = .ok (.iconst 1, 1) := by decide +kernel
theorem dL_law_321 : decode cL_law 321 = .ok (.iadd, 1) := by decide +kernel
theorem dL_law_322 : decode cL_law 322 = .ok (.iaload, 1) := by decide +kernel
theorem dL_law_323 : decode cL_law 323 = .ok (.aload_n 0, 1) := by decide +kernel
theorem dL_law_324 : decode cL_law 324 = .ok (.iload_n 3, 1) := by decide +kernel
theorem dL_law_325 : decode cL_law 325 = .ok (.iconst 2, 1) := by decide +kernel
theorem dL_law_326 : decode cL_law 326 = .ok (.iadd, 1) := by decide +kernel
theorem dL_law_327 : decode cL_law 327 = .ok (.iaload, 1) := by decide +kernel
theorem dL_law_328 : decode cL_law 328 = .ok (.invokevirtual 37, 3) := by decide +kernel
theorem qq_3_186 : Cond.code yX11_hole cX11_hole 4 (some .int) ∈ TB := mk_tb (ti_3 (List.mem_of_getElem? (i := 186) rfl)) rfl
theorem qq_3_183 : Cond.methodLink "WrongHoleLaw" 37 yX11_hole ∈ TB := mk_tb (ti_3 (List.mem_of_getElem? (i := 183) rfl)) rfl
theorem qq_3_184 : Cond.instanceMethod yX11_hole ∈ TB := mk_tb (ti_3 (List.mem_of_getElem? (i := 184) rfl)) rfl
theorem qq_3_185 : Cond.selects "WrongHole" yX11_hole yX11_hole ∈ TB := mk_tb (ti_3 (List.mem_of_getElem? (i := 185) rfl)) rfl
theorem dL_law_331 : decode cL_law 331 = .ok (.aload_n 2, 1) := by decide +kernel
theorem dL_law_332 : decode cL_law 332 = .ok (.aload_n 0, 1) := by decide +kernel
theorem dL_law_333 : decode cL_law 333 = .ok (.iload_n 3, 1) := by decide +kernel
theorem dL_law_334 : decode cL_law 334 = .ok (.iconst 1, 1) := by decide +kernel
theorem dL_law_335 : decode cL_law 335 = .ok (.iadd, 1) := by decide +kernel
theorem dL_law_336 : decode cL_law 336 = .ok (.iaload, 1) := by decide +kernel
theorem dL_law_337 : decode cL_law 337 = .ok (.aload_n 0, 1) := by decide +kernel
theorem dL_law_338 : decode cL_law 338 = .ok (.iload_n 3, 1) := by decide +kernel
theorem dL_law_339 : decode cL_law 339 = .ok (.iconst 2, 1) := by decide +kernel
theorem dL_law_340 : decode cL_law 340 = .ok (.iadd, 1) := by decide +kernel
theorem dL_law_341 : decode cL_law 341 = .ok (.iaload, 1) := by decide +kernel
theorem dL_law_342 : decode cL_law 342 = .ok (.invokevirtual 40, 3) := by decide +kernel
theorem qq_7_33 : Cond.code yX12_hole cX12_hole 4 (some .int) ∈ TB := mk_tb (ti_7 (List.mem_of_getElem? (i := 33) rfl)) rfl
theorem qq_7_30 : Cond.methodLink "WrongHoleLaw" 40 yX12_hole ∈ TB := mk_tb (ti_7 (List.mem_of_getElem? (i := 30) rfl)) rfl
theorem qq_7_31 : Cond.instanceMethod yX12_hole ∈ TB := mk_tb (ti_7 (List.mem_of_getElem? (i := 31) rfl)) rfl
theorem qq_7_32 : Cond.selects "WrongHoleModel" yX12_hole yX12_hole ∈ TB := mk_tb (ti_7 (List.mem_of_getElem? (i := 32) rfl)) rfl
theorem dL_law_345 : decode cL_law 345 = .ok (.if_icmp .eq 680, 3) := by decide +kernel
theorem dL_law_350 : decode cL_law 350 = .ok (.aload_n 1, 1) := by decide +kernel
theorem dL_law_351 : decode cL_law 351 = .ok (.aload_n 0, 1) := by decide +kernel
theorem dL_law_352 : decode cL_law 352 = .ok (.iload_n 3, 1) := by decide +kernel
theorem dL_law_353 : decode cL_law 353 = .ok (.iconst 1, 1) := by decide +kernel
theorem dL_law_354 : decode cL_law 354 = .ok (.iadd, 1) := by decide +kernel
theorem dL_law_355 : decode cL_law 355 = .ok (.iaload, 1) := by decide +kernel
theorem dL_law_356 : decode cL_law 356 = .ok (.invokevirtual 41, 3) := by decide +kernel
theorem qq_3_197 : Cond.code yX11_row cX11_row 3 (some .int) ∈ TB := mk_tb (ti_3 (List.mem_of_getElem? (i := 197) rfl)) rfl
theorem qq_3_194 : Cond.methodLink "WrongHoleLaw" 41 yX11_row ∈ TB := mk_tb (ti_3 (List.mem_of_getElem? (i := 194) rfl)) rfl
theorem qq_3_195 : Cond.instanceMethod yX11_row ∈ TB := mk_tb (ti_3 (List.mem_of_getElem? (i := 195) rfl)) rfl
theorem qq_3_196 : Cond.selects "WrongHole" yX11_row yX11_row ∈ TB := mk_tb (ti_3 (List.mem_of_getElem? (i := 196) rfl)) rfl
theorem dL_law_359 : decode cL_law 359 = .ok (.aload_n 2, 1) := by decide +kernel
theorem dL_law_360 : decode cL_law 360 = .ok (.aload_n 0, 1) := by decide +kernel
theorem dL_law_361 : decode cL_law 361 = .ok (.iload_n 3, 1) := by decide +kernel
theorem dL_law_362 : decode cL_law 362 = .ok (.iconst 1, 1) := by decide +kernel
theorem dL_law_363 : decode cL_law 363 = .ok (.iadd, 1) := by decide +kernel
theorem dL_law_364 : decode cL_law 364 = .ok (.iaload, 1) := by decide +kernel
theorem dL_law_365 : decode cL_law 365 = .ok (.invokevirtual 44, 3) := by decide +kernel
theorem qq_7_42 : Cond.code yX12_row cX12_row 3 (some .int) ∈ TB := mk_tb (ti_7 (List.mem_of_getElem? (i := 42) rfl)) rfl
theorem qq_7_39 : Cond.methodLink "WrongHoleLaw" 44 yX12_row ∈ TB := mk_tb (ti_7 (List.mem_of_getElem? (i := 39) rfl)) rfl
theorem qq_7_40 : Cond.instanceMethod yX12_row ∈ TB := mk_tb (ti_7 (List.mem_of_getElem? (i := 40) rfl)) rfl
theorem qq_7_41 : Cond.selects "WrongHoleModel" yX12_row yX12_row ∈ TB := mk_tb (ti_7 (List.mem_of_getElem? (i := 41) rfl)) rfl
theorem dL_law_368 : decode cL_law 368 = .ok (.if_icmp .eq 657, 3) := by decide +kernel
theorem dL_law_373 : decode cL_law 373 = .ok (.aload_n 1, 1) := by decide +kernel
theorem dL_law_374 : decode cL_law 374 = .ok (.aload_n 0, 1) := by decide +kernel
theorem dL_law_375 : decode cL_law 375 = .ok (.iload_n 3, 1) := by decide +kernel
theorem dL_law_376 : decode cL_law 376 = .ok (.iconst 1, 1) := by decide +kernel
theorem dL_law_377 : decode cL_law 377 = .ok (.iadd, 1) := by decide +kernel
theorem dL_law_378 : decode cL_law 378 = .ok (.iaload, 1) := by decide +kernel
theorem dL_law_379 : decode cL_law 379 = .ok (.invokevirtual 45, 3) := by decide +kernel
theorem qq_3_225 : Cond.code yX11_shown cX11_shown 2 (some .int) ∈ TB := mk_tb (ti_3 (List.mem_of_getElem? (i := 225) rfl)) rfl
theorem qq_3_222 : Cond.methodLink "WrongHoleLaw" 45 yX11_shown ∈ TB := mk_tb (ti_3 (List.mem_of_getElem? (i := 222) rfl)) rfl
theorem qq_3_223 : Cond.instanceMethod yX11_shown ∈ TB := mk_tb (ti_3 (List.mem_of_getElem? (i := 223) rfl)) rfl
theorem qq_3_224 : Cond.selects "WrongHole" yX11_shown yX11_shown ∈ TB := mk_tb (ti_3 (List.mem_of_getElem? (i := 224) rfl)) rfl
theorem dL_law_382 : decode cL_law 382 = .ok (.aload_n 2, 1) := by decide +kernel
theorem dL_law_383 : decode cL_law 383 = .ok (.aload_n 0, 1) := by decide +kernel
theorem dL_law_384 : decode cL_law 384 = .ok (.iload_n 3, 1) := by decide +kernel
theorem dL_law_385 : decode cL_law 385 = .ok (.iconst 1, 1) := by decide +kernel
theorem dL_law_386 : decode cL_law 386 = .ok (.iadd, 1) := by decide +kernel
theorem dL_law_387 : decode cL_law 387 = .ok (.iaload, 1) := by decide +kernel
theorem dL_law_388 : decode cL_law 388 = .ok (.invokevirtual 48, 3) := by decide +kernel
theorem qq_7_101 : Cond.code yX12_shown cX12_shown 2 (some .int) ∈ TB := mk_tb (ti_7 (List.mem_of_getElem? (i := 101) rfl)) rfl
theorem qq_7_98 : Cond.methodLink "WrongHoleLaw" 48 yX12_shown ∈ TB := mk_tb (ti_7 (List.mem_of_getElem? (i := 98) rfl)) rfl
theorem qq_7_99 : Cond.instanceMethod yX12_shown ∈ TB := mk_tb (ti_7 (List.mem_of_getElem? (i := 99) rfl)) rfl
theorem qq_7_100 : Cond.selects "WrongHoleModel" yX12_shown yX12_shown ∈ TB := mk_tb (ti_7 (List.mem_of_getElem? (i := 100) rfl)) rfl
theorem dL_law_391 : decode cL_law 391 = .ok (.if_icmp .eq 634, 3) := by decide +kernel
theorem dL_law_396 : decode cL_law 396 = .ok (.aload_n 1, 1) := by decide +kernel
theorem dL_law_397 : decode cL_law 397 = .ok (.aload_n 0, 1) := by decide +kernel
theorem dL_law_398 : decode cL_law 398 = .ok (.iload_n 3, 1) := by decide +kernel
theorem dL_law_399 : decode cL_law 399 = .ok (.iconst 1, 1) := by decide +kernel
theorem dL_law_400 : decode cL_law 400 = .ok (.iadd, 1) := by decide +kernel
theorem dL_law_401 : decode cL_law 401 = .ok (.iaload, 1) := by decide +kernel
theorem dL_law_402 : decode cL_law 402 = .ok (.invokevirtual 49, 3) := by decide +kernel
theorem qq_3_234 : Cond.code yX11_unfasten cX11_unfasten 3 (some .int) ∈ TB := mk_tb (ti_3 (List.mem_of_getElem? (i := 234) rfl)) rfl
theorem qq_3_231 : Cond.methodLink "WrongHoleLaw" 49 yX11_unfasten ∈ TB := mk_tb (ti_3 (List.mem_of_getElem? (i := 231) rfl)) rfl
theorem qq_3_232 : Cond.instanceMethod yX11_unfasten ∈ TB := mk_tb (ti_3 (List.mem_of_getElem? (i := 232) rfl)) rfl
theorem qq_3_233 : Cond.selects "WrongHole" yX11_unfasten yX11_unfasten ∈ TB := mk_tb (ti_3 (List.mem_of_getElem? (i := 233) rfl)) rfl
theorem dL_law_405 : decode cL_law 405 = .ok (.aload_n 2, 1) := by decide +kernel
theorem dL_law_406 : decode cL_law 406 = .ok (.aload_n 0, 1) := by decide +kernel
theorem dL_law_407 : decode cL_law 407 = .ok (.iload_n 3, 1) := by decide +kernel
theorem dL_law_408 : decode cL_law 408 = .ok (.iconst 1, 1) := by decide +kernel
theorem dL_law_409 : decode cL_law 409 = .ok (.iadd, 1) := by decide +kernel
theorem dL_law_410 : decode cL_law 410 = .ok (.iaload, 1) := by decide +kernel
theorem dL_law_411 : decode cL_law 411 = .ok (.invokevirtual 52, 3) := by decide +kernel
theorem qq_7_114 : Cond.code yX12_unfasten cX12_unfasten 2 (some .int) ∈ TB := mk_tb (ti_7 (List.mem_of_getElem? (i := 114) rfl)) rfl
theorem qq_7_111 : Cond.methodLink "WrongHoleLaw" 52 yX12_unfasten ∈ TB := mk_tb (ti_7 (List.mem_of_getElem? (i := 111) rfl)) rfl
theorem qq_7_112 : Cond.instanceMethod yX12_unfasten ∈ TB := mk_tb (ti_7 (List.mem_of_getElem? (i := 112) rfl)) rfl
theorem qq_7_113 : Cond.selects "WrongHoleModel" yX12_unfasten yX12_unfasten ∈ TB := mk_tb (ti_7 (List.mem_of_getElem? (i := 113) rfl)) rfl
theorem dL_law_414 : decode cL_law 414 = .ok (.if_icmp .eq 611, 3) := by decide +kernel
theorem dL_law_419 : decode cL_law 419 = .ok (.aload_n 1, 1) := by decide +kernel
theorem dL_law_420 : decode cL_law 420 = .ok (.aload_n 0, 1) := by decide +kernel
theorem dL_law_421 : decode cL_law 421 = .ok (.iload_n 3, 1) := by decide +kernel
theorem dL_law_422 : decode cL_law 422 = .ok (.iconst 1, 1) := by decide +kernel
theorem dL_law_423 : decode cL_law 423 = .ok (.iadd, 1) := by decide +kernel
theorem dL_law_424 : decode cL_law 424 = .ok (.iaload, 1) := by decide +kernel
theorem dL_law_425 : decode cL_law 425 = .ok (.aload_n 0, 1) := by decide +kernel
theorem dL_law_426 : decode cL_law 426 = .ok (.iload_n 3, 1) := by decide +kernel
theorem dL_law_427 : decode cL_law 427 = .ok (.iconst 2, 1) := by decide +kernel
theorem dL_law_428 : decode cL_law 428 = .ok (.iadd, 1) := by decide +kernel
theorem dL_law_429 : decode cL_law 429 = .ok (.iaload, 1) := by decide +kernel
theorem dL_law_430 : decode cL_law 430 = .ok (.invokevirtual 53, 3) := by decide +kernel
theorem qq_4_24 : Cond.code yX11_fasten cX11_fasten 4 (some .int) ∈ TB := mk_tb (ti_4 (List.mem_of_getElem? (i := 24) rfl)) rfl
theorem qq_4_21 : Cond.methodLink "WrongHoleLaw" 53 yX11_fasten ∈ TB := mk_tb (ti_4 (List.mem_of_getElem? (i := 21) rfl)) rfl
theorem qq_4_22 : Cond.instanceMethod yX11_fasten ∈ TB := mk_tb (ti_4 (List.mem_of_getElem? (i := 22) rfl)) rfl
theorem qq_4_23 : Cond.selects "WrongHole" yX11_fasten yX11_fasten ∈ TB := mk_tb (ti_4 (List.mem_of_getElem? (i := 23) rfl)) rfl
theorem dL_law_433 : decode cL_law 433 = .ok (.aload_n 2, 1) := by decide +kernel
theorem dL_law_434 : decode cL_law 434 = .ok (.aload_n 0, 1) := by decide +kernel
theorem dL_law_435 : decode cL_law 435 = .ok (.iload_n 3, 1) := by decide +kernel
theorem dL_law_436 : decode cL_law 436 = .ok (.iconst 1, 1) := by decide +kernel
theorem dL_law_437 : decode cL_law 437 = .ok (.iadd, 1) := by decide +kernel
theorem dL_law_438 : decode cL_law 438 = .ok (.iaload, 1) := by decide +kernel
theorem dL_law_439 : decode cL_law 439 = .ok (.aload_n 0, 1) := by decide +kernel
theorem dL_law_440 : decode cL_law 440 = .ok (.iload_n 3, 1) := by decide +kernel
theorem dL_law_441 : decode cL_law 441 = .ok (.iconst 2, 1) := by decide +kernel
theorem dL_law_442 : decode cL_law 442 = .ok (.iadd, 1) := by decide +kernel
theorem dL_law_443 : decode cL_law 443 = .ok (.iaload, 1) := by decide +kernel
theorem dL_law_444 : decode cL_law 444 = .ok (.invokevirtual 56, 3) := by decide +kernel
theorem qq_7_152 : Cond.code yX12_fasten cX12_fasten 3 (some .int) ∈ TB := mk_tb (ti_7 (List.mem_of_getElem? (i := 152) rfl)) rfl
theorem qq_7_149 : Cond.methodLink "WrongHoleLaw" 56 yX12_fasten ∈ TB := mk_tb (ti_7 (List.mem_of_getElem? (i := 149) rfl)) rfl
theorem qq_7_150 : Cond.instanceMethod yX12_fasten ∈ TB := mk_tb (ti_7 (List.mem_of_getElem? (i := 150) rfl)) rfl
theorem qq_7_151 : Cond.selects "WrongHoleModel" yX12_fasten yX12_fasten ∈ TB := mk_tb (ti_7 (List.mem_of_getElem? (i := 151) rfl)) rfl
theorem dL_law_447 : decode cL_law 447 = .ok (.if_icmp .eq 578, 3) := by decide +kernel
theorem dL_law_452 : decode cL_law 452 = .ok (.aload_n 1, 1) := by decide +kernel
theorem dL_law_453 : decode cL_law 453 = .ok (.aload_n 0, 1) := by decide +kernel
theorem dL_law_454 : decode cL_law 454 = .ok (.iload_n 3, 1) := by decide +kernel
theorem dL_law_455 : decode cL_law 455 = .ok (.iconst 1, 1) := by decide +kernel
theorem dL_law_456 : decode cL_law 456 = .ok (.iadd, 1) := by decide +kernel
theorem dL_law_457 : decode cL_law 457 = .ok (.iaload, 1) := by decide +kernel
theorem dL_law_458 : decode cL_law 458 = .ok (.invokevirtual 57, 3) := by decide +kernel
theorem qq_4_33 : Cond.code yX11_waits cX11_waits 2 (some .int) ∈ TB := mk_tb (ti_4 (List.mem_of_getElem? (i := 33) rfl)) rfl
theorem qq_4_30 : Cond.methodLink "WrongHoleLaw" 57 yX11_waits ∈ TB := mk_tb (ti_4 (List.mem_of_getElem? (i := 30) rfl)) rfl
theorem qq_4_31 : Cond.instanceMethod yX11_waits ∈ TB := mk_tb (ti_4 (List.mem_of_getElem? (i := 31) rfl)) rfl
theorem qq_4_32 : Cond.selects "WrongHole" yX11_waits yX11_waits ∈ TB := mk_tb (ti_4 (List.mem_of_getElem? (i := 32) rfl)) rfl
theorem dL_law_461 : decode cL_law 461 = .ok (.aload_n 2, 1) := by decide +kernel
theorem dL_law_462 : decode cL_law 462 = .ok (.aload_n 0, 1) := by decide +kernel
theorem dL_law_463 : decode cL_law 463 = .ok (.iload_n 3, 1) := by decide +kernel
theorem dL_law_464 : decode cL_law 464 = .ok (.iconst 1, 1) := by decide +kernel
theorem dL_law_465 : decode cL_law 465 = .ok (.iadd, 1) := by decide +kernel
theorem dL_law_466 : decode cL_law 466 = .ok (.iaload, 1) := by decide +kernel
theorem dL_law_467 : decode cL_law 467 = .ok (.invokevirtual 60, 3) := by decide +kernel
theorem qq_7_156 : Cond.code yX12_waits cX12_waits 2 (some .int) ∈ TB := mk_tb (ti_7 (List.mem_of_getElem? (i := 156) rfl)) rfl
theorem qq_7_153 : Cond.methodLink "WrongHoleLaw" 60 yX12_waits ∈ TB := mk_tb (ti_7 (List.mem_of_getElem? (i := 153) rfl)) rfl
theorem qq_7_154 : Cond.instanceMethod yX12_waits ∈ TB := mk_tb (ti_7 (List.mem_of_getElem? (i := 154) rfl)) rfl
theorem qq_7_155 : Cond.selects "WrongHoleModel" yX12_waits yX12_waits ∈ TB := mk_tb (ti_7 (List.mem_of_getElem? (i := 155) rfl)) rfl
theorem dL_law_470 : decode cL_law 470 = .ok (.if_icmp .eq 555, 3) := by decide +kernel
theorem dL_law_475 : decode cL_law 475 = .ok (.aload_n 1, 1) := by decide +kernel
theorem dL_law_476 : decode cL_law 476 = .ok (.invokevirtual 61, 3) := by decide +kernel
theorem qq_4_37 : Cond.code yX11_takeBack cX11_takeBack 1 (some .int) ∈ TB := mk_tb (ti_4 (List.mem_of_getElem? (i := 37) rfl)) rfl
theorem qq_4_34 : Cond.methodLink "WrongHoleLaw" 61 yX11_takeBack ∈ TB := mk_tb (ti_4 (List.mem_of_getElem? (i := 34) rfl)) rfl
theorem qq_4_35 : Cond.instanceMethod yX11_takeBack ∈ TB := mk_tb (ti_4 (List.mem_of_getElem? (i := 35) rfl)) rfl
theorem qq_4_36 : Cond.selects "WrongHole" yX11_takeBack yX11_takeBack ∈ TB := mk_tb (ti_4 (List.mem_of_getElem? (i := 36) rfl)) rfl
theorem dL_law_479 : decode cL_law 479 = .ok (.aload_n 2, 1) := by decide +kernel
theorem dL_law_480 : decode cL_law 480 = .ok (.invokevirtual 64, 3) := by decide +kernel
theorem qq_7_110 : Cond.code yX12_takeBack cX12_takeBack 2 (some .int) ∈ TB := mk_tb (ti_7 (List.mem_of_getElem? (i := 110) rfl)) rfl
theorem qq_7_107 : Cond.methodLink "WrongHoleLaw" 64 yX12_takeBack ∈ TB := mk_tb (ti_7 (List.mem_of_getElem? (i := 107) rfl)) rfl
theorem qq_7_108 : Cond.instanceMethod yX12_takeBack ∈ TB := mk_tb (ti_7 (List.mem_of_getElem? (i := 108) rfl)) rfl
theorem qq_7_109 : Cond.selects "WrongHoleModel" yX12_takeBack yX12_takeBack ∈ TB := mk_tb (ti_7 (List.mem_of_getElem? (i := 109) rfl)) rfl
theorem dL_law_483 : decode cL_law 483 = .ok (.if_icmp .eq 542, 3) := by decide +kernel
theorem dL_law_488 : decode cL_law 488 = .ok (.aload_n 1, 1) := by decide +kernel
theorem dL_law_489 : decode cL_law 489 = .ok (.aload_n 0, 1) := by decide +kernel
theorem dL_law_490 : decode cL_law 490 = .ok (.iload_n 3, 1) := by decide +kernel
theorem dL_law_491 : decode cL_law 491 = .ok (.iconst 1, 1) := by decide +kernel
theorem dL_law_492 : decode cL_law 492 = .ok (.iadd, 1) := by decide +kernel
theorem dL_law_493 : decode cL_law 493 = .ok (.iaload, 1) := by decide +kernel
theorem dL_law_494 : decode cL_law 494 = .ok (.aload_n 0, 1) := by decide +kernel
theorem dL_law_495 : decode cL_law 495 = .ok (.iload_n 3, 1) := by decide +kernel
theorem dL_law_496 : decode cL_law 496 = .ok (.iconst 2, 1) := by decide +kernel
theorem dL_law_497 : decode cL_law 497 = .ok (.iadd, 1) := by decide +kernel
theorem dL_law_498 : decode cL_law 498 = .ok (.iaload, 1) := by decide +kernel
theorem dL_law_499 : decode cL_law 499 = .ok (.invokevirtual 65, 3) := by decide +kernel
theorem qq_4_56 : Cond.code yX11_run cX11_run 6 (some .int) ∈ TB := mk_tb (ti_4 (List.mem_of_getElem? (i := 56) rfl)) rfl
theorem qq_4_53 : Cond.methodLink "WrongHoleLaw" 65 yX11_run ∈ TB := mk_tb (ti_4 (List.mem_of_getElem? (i := 53) rfl)) rfl
theorem qq_4_54 : Cond.instanceMethod yX11_run ∈ TB := mk_tb (ti_4 (List.mem_of_getElem? (i := 54) rfl)) rfl
theorem qq_4_55 : Cond.selects "WrongHole" yX11_run yX11_run ∈ TB := mk_tb (ti_4 (List.mem_of_getElem? (i := 55) rfl)) rfl
theorem dL_law_502 : decode cL_law 502 = .ok (.aload_n 2, 1) := by decide +kernel
theorem dL_law_503 : decode cL_law 503 = .ok (.aload_n 0, 1) := by decide +kernel
theorem dL_law_504 : decode cL_law 504 = .ok (.iload_n 3, 1) := by decide +kernel
theorem dL_law_505 : decode cL_law 505 = .ok (.iconst 1, 1) := by decide +kernel
theorem dL_law_506 : decode cL_law 506 = .ok (.iadd, 1) := by decide +kernel
theorem dL_law_507 : decode cL_law 507 = .ok (.iaload, 1) := by decide +kernel
theorem dL_law_508 : decode cL_law 508 = .ok (.aload_n 0, 1) := by decide +kernel
theorem dL_law_509 : decode cL_law 509 = .ok (.iload_n 3, 1) := by decide +kernel
theorem dL_law_510 : decode cL_law 510 = .ok (.iconst 2, 1) := by decide +kernel
theorem dL_law_511 : decode cL_law 511 = .ok (.iadd, 1) := by decide +kernel
theorem dL_law_512 : decode cL_law 512 = .ok (.iaload, 1) := by decide +kernel
theorem dL_law_513 : decode cL_law 513 = .ok (.invokevirtual 68, 3) := by decide +kernel
theorem qq_7_161 : Cond.code yX12_run cX12_run 5 (some .int) ∈ TB := mk_tb (ti_7 (List.mem_of_getElem? (i := 161) rfl)) rfl
theorem qq_7_158 : Cond.methodLink "WrongHoleLaw" 68 yX12_run ∈ TB := mk_tb (ti_7 (List.mem_of_getElem? (i := 158) rfl)) rfl
theorem qq_7_159 : Cond.instanceMethod yX12_run ∈ TB := mk_tb (ti_7 (List.mem_of_getElem? (i := 159) rfl)) rfl
theorem qq_7_160 : Cond.selects "WrongHoleModel" yX12_run yX12_run ∈ TB := mk_tb (ti_7 (List.mem_of_getElem? (i := 160) rfl)) rfl
theorem dL_law_516 : decode cL_law 516 = .ok (.if_icmp .eq 509, 3) := by decide +kernel
theorem dL_law_521 : decode cL_law 521 = .ok (.aload_n 1, 1) := by decide +kernel
theorem dL_law_522 : decode cL_law 522 = .ok (.invokevirtual 69, 3) := by decide +kernel
theorem qq_4_104 : Cond.code yX11_may cX11_may 1 (some .int) ∈ TB := mk_tb (ti_4 (List.mem_of_getElem? (i := 104) rfl)) rfl
theorem qq_4_101 : Cond.methodLink "WrongHoleLaw" 69 yX11_may ∈ TB := mk_tb (ti_4 (List.mem_of_getElem? (i := 101) rfl)) rfl
theorem qq_4_102 : Cond.instanceMethod yX11_may ∈ TB := mk_tb (ti_4 (List.mem_of_getElem? (i := 102) rfl)) rfl
theorem qq_4_103 : Cond.selects "WrongHole" yX11_may yX11_may ∈ TB := mk_tb (ti_4 (List.mem_of_getElem? (i := 103) rfl)) rfl
theorem dL_law_525 : decode cL_law 525 = .ok (.aload_n 2, 1) := by decide +kernel
theorem dL_law_526 : decode cL_law 526 = .ok (.invokevirtual 72, 3) := by decide +kernel
theorem qq_7_197 : Cond.code yX12_may cX12_may 1 (some .int) ∈ TB := mk_tb (ti_7 (List.mem_of_getElem? (i := 197) rfl)) rfl
theorem qq_7_194 : Cond.methodLink "WrongHoleLaw" 72 yX12_may ∈ TB := mk_tb (ti_7 (List.mem_of_getElem? (i := 194) rfl)) rfl
theorem qq_7_195 : Cond.instanceMethod yX12_may ∈ TB := mk_tb (ti_7 (List.mem_of_getElem? (i := 195) rfl)) rfl
theorem qq_7_196 : Cond.selects "WrongHoleModel" yX12_may yX12_may ∈ TB := mk_tb (ti_7 (List.mem_of_getElem? (i := 196) rfl)) rfl
theorem dL_law_529 : decode cL_law 529 = .ok (.if_icmp .eq 496, 3) := by decide +kernel
theorem dL_law_534 : decode cL_law 534 = .ok (.aload_n 1, 1) := by decide +kernel
theorem dL_law_535 : decode cL_law 535 = .ok (.aload_n 0, 1) := by decide +kernel
theorem dL_law_536 : decode cL_law 536 = .ok (.iload_n 3, 1) := by decide +kernel
theorem dL_law_537 : decode cL_law 537 = .ok (.iconst 1, 1) := by decide +kernel
theorem dL_law_538 : decode cL_law 538 = .ok (.iadd, 1) := by decide +kernel
theorem dL_law_539 : decode cL_law 539 = .ok (.iaload, 1) := by decide +kernel
theorem dL_law_540 : decode cL_law 540 = .ok (.aload_n 0, 1) := by decide +kernel
theorem dL_law_541 : decode cL_law 541 = .ok (.iload_n 3, 1) := by decide +kernel
theorem dL_law_542 : decode cL_law 542 = .ok (.iconst 2, 1) := by decide +kernel
theorem dL_law_543 : decode cL_law 543 = .ok (.iadd, 1) := by decide +kernel
theorem dL_law_544 : decode cL_law 544 = .ok (.iaload, 1) := by decide +kernel
theorem dL_law_545 : decode cL_law 545 = .ok (.invokevirtual 73, 3) := by decide +kernel
theorem qq_4_108 : Cond.code yX11_act cX11_act 3 (some .int) ∈ TB := mk_tb (ti_4 (List.mem_of_getElem? (i := 108) rfl)) rfl
theorem qq_4_105 : Cond.methodLink "WrongHoleLaw" 73 yX11_act ∈ TB := mk_tb (ti_4 (List.mem_of_getElem? (i := 105) rfl)) rfl
theorem qq_4_106 : Cond.instanceMethod yX11_act ∈ TB := mk_tb (ti_4 (List.mem_of_getElem? (i := 106) rfl)) rfl
theorem qq_4_107 : Cond.selects "WrongHole" yX11_act yX11_act ∈ TB := mk_tb (ti_4 (List.mem_of_getElem? (i := 107) rfl)) rfl
theorem dL_law_548 : decode cL_law 548 = .ok (.aload_n 2, 1) := by decide +kernel
theorem dL_law_549 : decode cL_law 549 = .ok (.aload_n 0, 1) := by decide +kernel
theorem dL_law_550 : decode cL_law 550 = .ok (.iload_n 3, 1) := by decide +kernel
theorem dL_law_551 : decode cL_law 551 = .ok (.iconst 1, 1) := by decide +kernel
theorem dL_law_552 : decode cL_law 552 = .ok (.iadd, 1) := by decide +kernel
theorem dL_law_553 : decode cL_law 553 = .ok (.iaload, 1) := by decide +kernel
theorem dL_law_554 : decode cL_law 554 = .ok (.aload_n 0, 1) := by decide +kernel
theorem dL_law_555 : decode cL_law 555 = .ok (.iload_n 3, 1) := by decide +kernel
theorem dL_law_556 : decode cL_law 556 = .ok (.iconst 2, 1) := by decide +kernel
theorem dL_law_557 : decode cL_law 557 = .ok (.iadd, 1) := by decide +kernel
theorem dL_law_558 : decode cL_law 558 = .ok (.iaload, 1) := by decide +kernel
theorem dL_law_559 : decode cL_law 559 = .ok (.invokevirtual 76, 3) := by decide +kernel
theorem qq_7_209 : Cond.code yX12_act cX12_act 5 (some .int) ∈ TB := mk_tb (ti_7 (List.mem_of_getElem? (i := 209) rfl)) rfl
theorem qq_7_206 : Cond.methodLink "WrongHoleLaw" 76 yX12_act ∈ TB := mk_tb (ti_7 (List.mem_of_getElem? (i := 206) rfl)) rfl
theorem qq_7_207 : Cond.instanceMethod yX12_act ∈ TB := mk_tb (ti_7 (List.mem_of_getElem? (i := 207) rfl)) rfl
theorem qq_7_208 : Cond.selects "WrongHoleModel" yX12_act yX12_act ∈ TB := mk_tb (ti_7 (List.mem_of_getElem? (i := 208) rfl)) rfl
theorem dL_law_562 : decode cL_law 562 = .ok (.if_icmp .eq 463, 3) := by decide +kernel
theorem dL_law_567 : decode cL_law 567 = .ok (.aload_n 1, 1) := by decide +kernel
theorem dL_law_568 : decode cL_law 568 = .ok (.aload_n 0, 1) := by decide +kernel
theorem dL_law_569 : decode cL_law 569 = .ok (.iload_n 3, 1) := by decide +kernel
theorem dL_law_570 : decode cL_law 570 = .ok (.iconst 1, 1) := by decide +kernel
theorem dL_law_571 : decode cL_law 571 = .ok (.iadd, 1) := by decide +kernel
theorem dL_law_572 : decode cL_law 572 = .ok (.iaload, 1) := by decide +kernel
theorem dL_law_573 : decode cL_law 573 = .ok (.invokevirtual 77, 3) := by decide +kernel
theorem qq_4_112 : Cond.code yX11_fewest cX11_fewest 3 (some .int) ∈ TB := mk_tb (ti_4 (List.mem_of_getElem? (i := 112) rfl)) rfl
theorem qq_4_109 : Cond.methodLink "WrongHoleLaw" 77 yX11_fewest ∈ TB := mk_tb (ti_4 (List.mem_of_getElem? (i := 109) rfl)) rfl
theorem qq_4_110 : Cond.instanceMethod yX11_fewest ∈ TB := mk_tb (ti_4 (List.mem_of_getElem? (i := 110) rfl)) rfl
theorem qq_4_111 : Cond.selects "WrongHole" yX11_fewest yX11_fewest ∈ TB := mk_tb (ti_4 (List.mem_of_getElem? (i := 111) rfl)) rfl
theorem dL_law_576 : decode cL_law 576 = .ok (.aload_n 2, 1) := by decide +kernel
theorem dL_law_577 : decode cL_law 577 = .ok (.aload_n 0, 1) := by decide +kernel
theorem dL_law_578 : decode cL_law 578 = .ok (.iload_n 3, 1) := by decide +kernel
theorem dL_law_579 : decode cL_law 579 = .ok (.iconst 1, 1) := by decide +kernel
theorem dL_law_580 : decode cL_law 580 = .ok (.iadd, 1) := by decide +kernel
theorem dL_law_581 : decode cL_law 581 = .ok (.iaload, 1) := by decide +kernel
theorem dL_law_582 : decode cL_law 582 = .ok (.invokevirtual 80, 3) := by decide +kernel
theorem qq_7_217 : Cond.code yX12_fewest cX12_fewest 4 (some .int) ∈ TB := mk_tb (ti_7 (List.mem_of_getElem? (i := 217) rfl)) rfl
theorem qq_7_214 : Cond.methodLink "WrongHoleLaw" 80 yX12_fewest ∈ TB := mk_tb (ti_7 (List.mem_of_getElem? (i := 214) rfl)) rfl
theorem qq_7_215 : Cond.instanceMethod yX12_fewest ∈ TB := mk_tb (ti_7 (List.mem_of_getElem? (i := 215) rfl)) rfl
theorem qq_7_216 : Cond.selects "WrongHoleModel" yX12_fewest yX12_fewest ∈ TB := mk_tb (ti_7 (List.mem_of_getElem? (i := 216) rfl)) rfl
theorem dL_law_585 : decode cL_law 585 = .ok (.if_icmp .eq 440, 3) := by decide +kernel
theorem dL_law_590 : decode cL_law 590 = .ok (.aload_n 1, 1) := by decide +kernel
theorem dL_law_591 : decode cL_law 591 = .ok (.invokevirtual 81, 3) := by decide +kernel
theorem qq_4_125 : Cond.code yX11_soonest cX11_soonest 2 (some .int) ∈ TB := mk_tb (ti_4 (List.mem_of_getElem? (i := 125) rfl)) rfl
theorem qq_4_122 : Cond.methodLink "WrongHoleLaw" 81 yX11_soonest ∈ TB := mk_tb (ti_4 (List.mem_of_getElem? (i := 122) rfl)) rfl
theorem qq_4_123 : Cond.instanceMethod yX11_soonest ∈ TB := mk_tb (ti_4 (List.mem_of_getElem? (i := 123) rfl)) rfl
theorem qq_4_124 : Cond.selects "WrongHole" yX11_soonest yX11_soonest ∈ TB := mk_tb (ti_4 (List.mem_of_getElem? (i := 124) rfl)) rfl
theorem dL_law_594 : decode cL_law 594 = .ok (.aload_n 2, 1) := by decide +kernel
theorem dL_law_595 : decode cL_law 595 = .ok (.invokevirtual 84, 3) := by decide +kernel
theorem qq_7_237 : Cond.code yX12_soonest cX12_soonest 2 (some .int) ∈ TB := mk_tb (ti_7 (List.mem_of_getElem? (i := 237) rfl)) rfl
theorem qq_7_234 : Cond.methodLink "WrongHoleLaw" 84 yX12_soonest ∈ TB := mk_tb (ti_7 (List.mem_of_getElem? (i := 234) rfl)) rfl
theorem qq_7_235 : Cond.instanceMethod yX12_soonest ∈ TB := mk_tb (ti_7 (List.mem_of_getElem? (i := 235) rfl)) rfl
theorem qq_7_236 : Cond.selects "WrongHoleModel" yX12_soonest yX12_soonest ∈ TB := mk_tb (ti_7 (List.mem_of_getElem? (i := 236) rfl)) rfl
theorem dL_law_598 : decode cL_law 598 = .ok (.if_icmp .eq 427, 3) := by decide +kernel
theorem dL_law_603 : decode cL_law 603 = .ok (.aload_n 1, 1) := by decide +kernel
theorem dL_law_604 : decode cL_law 604 = .ok (.aload_n 0, 1) := by decide +kernel
theorem dL_law_605 : decode cL_law 605 = .ok (.iload_n 3, 1) := by decide +kernel
theorem dL_law_606 : decode cL_law 606 = .ok (.iconst 1, 1) := by decide +kernel
theorem dL_law_607 : decode cL_law 607 = .ok (.iadd, 1) := by decide +kernel
theorem dL_law_608 : decode cL_law 608 = .ok (.iaload, 1) := by decide +kernel
theorem dL_law_609 : decode cL_law 609 = .ok (.aload_n 0, 1) := by decide +kernel
theorem dL_law_610 : decode cL_law 610 = .ok (.iload_n 3, 1) := by decide +kernel
theorem dL_law_611 : decode cL_law 611 = .ok (.iconst 2, 1) := by decide +kernel
theorem dL_law_612 : decode cL_law 612 = .ok (.iadd, 1) := by decide +kernel
theorem dL_law_613 : decode cL_law 613 = .ok (.iaload, 1) := by decide +kernel
theorem dL_law_614 : decode cL_law 614 = .ok (.invokevirtual 85, 3) := by decide +kernel
theorem qq_5_25 : Cond.code yX11_step cX11_step 7 (some .int) ∈ TB := mk_tb (ti_5 (List.mem_of_getElem? (i := 25) rfl)) rfl
theorem qq_5_22 : Cond.methodLink "WrongHoleLaw" 85 yX11_step ∈ TB := mk_tb (ti_5 (List.mem_of_getElem? (i := 22) rfl)) rfl
theorem qq_5_23 : Cond.instanceMethod yX11_step ∈ TB := mk_tb (ti_5 (List.mem_of_getElem? (i := 23) rfl)) rfl
theorem qq_5_24 : Cond.selects "WrongHole" yX11_step yX11_step ∈ TB := mk_tb (ti_5 (List.mem_of_getElem? (i := 24) rfl)) rfl
theorem dL_law_617 : decode cL_law 617 = .ok (.aload_n 2, 1) := by decide +kernel
theorem dL_law_618 : decode cL_law 618 = .ok (.aload_n 0, 1) := by decide +kernel
theorem dL_law_619 : decode cL_law 619 = .ok (.iload_n 3, 1) := by decide +kernel
theorem dL_law_620 : decode cL_law 620 = .ok (.iconst 1, 1) := by decide +kernel
theorem dL_law_621 : decode cL_law 621 = .ok (.iadd, 1) := by decide +kernel
theorem dL_law_622 : decode cL_law 622 = .ok (.iaload, 1) := by decide +kernel
theorem dL_law_623 : decode cL_law 623 = .ok (.aload_n 0, 1) := by decide +kernel
theorem dL_law_624 : decode cL_law 624 = .ok (.iload_n 3, 1) := by decide +kernel
theorem dL_law_625 : decode cL_law 625 = .ok (.iconst 2, 1) := by decide +kernel
theorem dL_law_626 : decode cL_law 626 = .ok (.iadd, 1) := by decide +kernel
theorem dL_law_627 : decode cL_law 627 = .ok (.iaload, 1) := by decide +kernel
theorem dL_law_628 : decode cL_law 628 = .ok (.invokevirtual 88, 3) := by decide +kernel
theorem qq_8_9 : Cond.code yX12_step cX12_step 6 (some .int) ∈ TB := mk_tb (ti_8 (List.mem_of_getElem? (i := 9) rfl)) rfl
theorem qq_8_6 : Cond.methodLink "WrongHoleLaw" 88 yX12_step ∈ TB := mk_tb (ti_8 (List.mem_of_getElem? (i := 6) rfl)) rfl
theorem qq_8_7 : Cond.instanceMethod yX12_step ∈ TB := mk_tb (ti_8 (List.mem_of_getElem? (i := 7) rfl)) rfl
theorem qq_8_8 : Cond.selects "WrongHoleModel" yX12_step yX12_step ∈ TB := mk_tb (ti_8 (List.mem_of_getElem? (i := 8) rfl)) rfl
theorem dL_law_631 : decode cL_law 631 = .ok (.if_icmp .eq 394, 3) := by decide +kernel
theorem dL_law_636 : decode cL_law 636 = .ok (.aload_n 1, 1) := by decide +kernel
theorem dL_law_637 : decode cL_law 637 = .ok (.aload_n 0, 1) := by decide +kernel
theorem dL_law_638 : decode cL_law 638 = .ok (.iload_n 3, 1) := by decide +kernel
theorem dL_law_639 : decode cL_law 639 = .ok (.iconst 1, 1) := by decide +kernel
theorem dL_law_640 : decode cL_law 640 = .ok (.iadd, 1) := by decide +kernel
theorem dL_law_641 : decode cL_law 641 = .ok (.iaload, 1) := by decide +kernel
theorem dL_law_642 : decode cL_law 642 = .ok (.aload_n 0, 1) := by decide +kernel
theorem dL_law_643 : decode cL_law 643 = .ok (.iload_n 3, 1) := by decide +kernel
theorem dL_law_644 : decode cL_law 644 = .ok (.iconst 2, 1) := by decide +kernel
theorem dL_law_645 : decode cL_law 645 = .ok (.iadd, 1) := by decide +kernel
theorem dL_law_646 : decode cL_law 646 = .ok (.iaload, 1) := by decide +kernel
theorem dL_law_647 : decode cL_law 647 = .ok (.invokevirtual 89, 3) := by decide +kernel
theorem qq_5_37 : Cond.code yX11_floor cX11_floor 3 (some .int) ∈ TB := mk_tb (ti_5 (List.mem_of_getElem? (i := 37) rfl)) rfl
theorem qq_5_34 : Cond.methodLink "WrongHoleLaw" 89 yX11_floor ∈ TB := mk_tb (ti_5 (List.mem_of_getElem? (i := 34) rfl)) rfl
theorem qq_5_35 : Cond.instanceMethod yX11_floor ∈ TB := mk_tb (ti_5 (List.mem_of_getElem? (i := 35) rfl)) rfl
theorem qq_5_36 : Cond.selects "WrongHole" yX11_floor yX11_floor ∈ TB := mk_tb (ti_5 (List.mem_of_getElem? (i := 36) rfl)) rfl
theorem dL_law_650 : decode cL_law 650 = .ok (.aload_n 2, 1) := by decide +kernel
theorem dL_law_651 : decode cL_law 651 = .ok (.aload_n 0, 1) := by decide +kernel
theorem dL_law_652 : decode cL_law 652 = .ok (.iload_n 3, 1) := by decide +kernel
theorem dL_law_653 : decode cL_law 653 = .ok (.iconst 1, 1) := by decide +kernel
theorem dL_law_654 : decode cL_law 654 = .ok (.iadd, 1) := by decide +kernel
theorem dL_law_655 : decode cL_law 655 = .ok (.iaload, 1) := by decide +kernel
theorem dL_law_656 : decode cL_law 656 = .ok (.aload_n 0, 1) := by decide +kernel
theorem dL_law_657 : decode cL_law 657 = .ok (.iload_n 3, 1) := by decide +kernel
theorem dL_law_658 : decode cL_law 658 = .ok (.iconst 2, 1) := by decide +kernel
theorem dL_law_659 : decode cL_law 659 = .ok (.iadd, 1) := by decide +kernel
theorem dL_law_660 : decode cL_law 660 = .ok (.iaload, 1) := by decide +kernel
theorem dL_law_661 : decode cL_law 661 = .ok (.invokevirtual 92, 3) := by decide +kernel
theorem qq_8_17 : Cond.code yX12_floor cX12_floor 10 (some .int) ∈ TB := mk_tb (ti_8 (List.mem_of_getElem? (i := 17) rfl)) rfl
theorem qq_8_14 : Cond.methodLink "WrongHoleLaw" 92 yX12_floor ∈ TB := mk_tb (ti_8 (List.mem_of_getElem? (i := 14) rfl)) rfl
theorem qq_8_15 : Cond.instanceMethod yX12_floor ∈ TB := mk_tb (ti_8 (List.mem_of_getElem? (i := 15) rfl)) rfl
theorem qq_8_16 : Cond.selects "WrongHoleModel" yX12_floor yX12_floor ∈ TB := mk_tb (ti_8 (List.mem_of_getElem? (i := 16) rfl)) rfl
theorem dL_law_664 : decode cL_law 664 = .ok (.if_icmp .eq 361, 3) := by decide +kernel
theorem dL_law_669 : decode cL_law 669 = .ok (.aload_n 1, 1) := by decide +kernel
theorem dL_law_670 : decode cL_law 670 = .ok (.aload_n 0, 1) := by decide +kernel
theorem dL_law_671 : decode cL_law 671 = .ok (.iload_n 3, 1) := by decide +kernel
theorem dL_law_672 : decode cL_law 672 = .ok (.iconst 1, 1) := by decide +kernel
theorem dL_law_673 : decode cL_law 673 = .ok (.iadd, 1) := by decide +kernel
theorem dL_law_674 : decode cL_law 674 = .ok (.iaload, 1) := by decide +kernel
theorem dL_law_675 : decode cL_law 675 = .ok (.invokevirtual 93, 3) := by decide +kernel
theorem qq_5_45 : Cond.code yX11_goes cX11_goes 8 (some .int) ∈ TB := mk_tb (ti_5 (List.mem_of_getElem? (i := 45) rfl)) rfl
theorem qq_5_42 : Cond.methodLink "WrongHoleLaw" 93 yX11_goes ∈ TB := mk_tb (ti_5 (List.mem_of_getElem? (i := 42) rfl)) rfl
theorem qq_5_43 : Cond.instanceMethod yX11_goes ∈ TB := mk_tb (ti_5 (List.mem_of_getElem? (i := 43) rfl)) rfl
theorem qq_5_44 : Cond.selects "WrongHole" yX11_goes yX11_goes ∈ TB := mk_tb (ti_5 (List.mem_of_getElem? (i := 44) rfl)) rfl
theorem dL_law_678 : decode cL_law 678 = .ok (.aload_n 2, 1) := by decide +kernel
theorem dL_law_679 : decode cL_law 679 = .ok (.aload_n 0, 1) := by decide +kernel
theorem dL_law_680 : decode cL_law 680 = .ok (.iload_n 3, 1) := by decide +kernel
theorem dL_law_681 : decode cL_law 681 = .ok (.iconst 1, 1) := by decide +kernel
theorem dL_law_682 : decode cL_law 682 = .ok (.iadd, 1) := by decide +kernel
theorem dL_law_683 : decode cL_law 683 = .ok (.iaload, 1) := by decide +kernel
theorem dL_law_684 : decode cL_law 684 = .ok (.invokevirtual 96, 3) := by decide +kernel
theorem qq_8_30 : Cond.code yX12_goes cX12_goes 7 (some .int) ∈ TB := mk_tb (ti_8 (List.mem_of_getElem? (i := 30) rfl)) rfl
theorem qq_8_27 : Cond.methodLink "WrongHoleLaw" 96 yX12_goes ∈ TB := mk_tb (ti_8 (List.mem_of_getElem? (i := 27) rfl)) rfl
theorem qq_8_28 : Cond.instanceMethod yX12_goes ∈ TB := mk_tb (ti_8 (List.mem_of_getElem? (i := 28) rfl)) rfl
theorem qq_8_29 : Cond.selects "WrongHoleModel" yX12_goes yX12_goes ∈ TB := mk_tb (ti_8 (List.mem_of_getElem? (i := 29) rfl)) rfl
theorem dL_law_687 : decode cL_law 687 = .ok (.if_icmp .eq 338, 3) := by decide +kernel
theorem dL_law_692 : decode cL_law 692 = .ok (.aload_n 1, 1) := by decide +kernel
theorem dL_law_693 : decode cL_law 693 = .ok (.aload_n 0, 1) := by decide +kernel
theorem dL_law_694 : decode cL_law 694 = .ok (.iload_n 3, 1) := by decide +kernel
theorem dL_law_695 : decode cL_law 695 = .ok (.iconst 1, 1) := by decide +kernel
theorem dL_law_696 : decode cL_law 696 = .ok (.iadd, 1) := by decide +kernel
theorem dL_law_697 : decode cL_law 697 = .ok (.iaload, 1) := by decide +kernel
theorem dL_law_698 : decode cL_law 698 = .ok (.aload_n 0, 1) := by decide +kernel
theorem dL_law_699 : decode cL_law 699 = .ok (.iload_n 3, 1) := by decide +kernel
theorem dL_law_700 : decode cL_law 700 = .ok (.iconst 2, 1) := by decide +kernel
theorem dL_law_701 : decode cL_law 701 = .ok (.iadd, 1) := by decide +kernel
theorem dL_law_702 : decode cL_law 702 = .ok (.iaload, 1) := by decide +kernel
theorem dL_law_703 : decode cL_law 703 = .ok (.aload_n 0, 1) := by decide +kernel
theorem dL_law_704 : decode cL_law 704 = .ok (.iload_n 3, 1) := by decide +kernel
theorem dL_law_705 : decode cL_law 705 = .ok (.iconst 3, 1) := by decide +kernel
theorem dL_law_706 : decode cL_law 706 = .ok (.iadd, 1) := by decide +kernel
theorem dL_law_707 : decode cL_law 707 = .ok (.iaload, 1) := by decide +kernel
theorem dL_law_708 : decode cL_law 708 = .ok (.invokevirtual 97, 3) := by decide +kernel
theorem qq_5_49 : Cond.code yX11_child cX11_child 10 (some .int) ∈ TB := mk_tb (ti_5 (List.mem_of_getElem? (i := 49) rfl)) rfl
theorem qq_5_46 : Cond.methodLink "WrongHoleLaw" 97 yX11_child ∈ TB := mk_tb (ti_5 (List.mem_of_getElem? (i := 46) rfl)) rfl
theorem qq_5_47 : Cond.instanceMethod yX11_child ∈ TB := mk_tb (ti_5 (List.mem_of_getElem? (i := 47) rfl)) rfl
theorem qq_5_48 : Cond.selects "WrongHole" yX11_child yX11_child ∈ TB := mk_tb (ti_5 (List.mem_of_getElem? (i := 48) rfl)) rfl
theorem dL_law_711 : decode cL_law 711 = .ok (.aload_n 2, 1) := by decide +kernel
theorem dL_law_712 : decode cL_law 712 = .ok (.aload_n 0, 1) := by decide +kernel
theorem dL_law_713 : decode cL_law 713 = .ok (.iload_n 3, 1) := by decide +kernel
theorem dL_law_714 : decode cL_law 714 = .ok (.iconst 1, 1) := by decide +kernel
theorem dL_law_715 : decode cL_law 715 = .ok (.iadd, 1) := by decide +kernel
theorem dL_law_716 : decode cL_law 716 = .ok (.iaload, 1) := by decide +kernel
theorem dL_law_717 : decode cL_law 717 = .ok (.aload_n 0, 1) := by decide +kernel
theorem dL_law_718 : decode cL_law 718 = .ok (.iload_n 3, 1) := by decide +kernel
theorem dL_law_719 : decode cL_law 719 = .ok (.iconst 2, 1) := by decide +kernel
theorem dL_law_720 : decode cL_law 720 = .ok (.iadd, 1) := by decide +kernel
theorem dL_law_721 : decode cL_law 721 = .ok (.iaload, 1) := by decide +kernel
theorem dL_law_722 : decode cL_law 722 = .ok (.aload_n 0, 1) := by decide +kernel
theorem dL_law_723 : decode cL_law 723 = .ok (.iload_n 3, 1) := by decide +kernel
theorem dL_law_724 : decode cL_law 724 = .ok (.iconst 3, 1) := by decide +kernel
theorem dL_law_725 : decode cL_law 725 = .ok (.iadd, 1) := by decide +kernel
theorem dL_law_726 : decode cL_law 726 = .ok (.iaload, 1) := by decide +kernel
theorem dL_law_727 : decode cL_law 727 = .ok (.invokevirtual 101, 3) := by decide +kernel
theorem qq_8_35 : Cond.code yX12_child cX12_child 7 (some .int) ∈ TB := mk_tb (ti_8 (List.mem_of_getElem? (i := 35) rfl)) rfl
theorem qq_8_32 : Cond.methodLink "WrongHoleLaw" 101 yX12_child ∈ TB := mk_tb (ti_8 (List.mem_of_getElem? (i := 32) rfl)) rfl
theorem qq_8_33 : Cond.instanceMethod yX12_child ∈ TB := mk_tb (ti_8 (List.mem_of_getElem? (i := 33) rfl)) rfl
theorem qq_8_34 : Cond.selects "WrongHoleModel" yX12_child yX12_child ∈ TB := mk_tb (ti_8 (List.mem_of_getElem? (i := 34) rfl)) rfl
theorem dL_law_730 : decode cL_law 730 = .ok (.if_icmp .eq 295, 3) := by decide +kernel
theorem dL_law_735 : decode cL_law 735 = .ok (.aload_n 1, 1) := by decide +kernel
theorem dL_law_736 : decode cL_law 736 = .ok (.aload_n 0, 1) := by decide +kernel
theorem dL_law_737 : decode cL_law 737 = .ok (.iload_n 3, 1) := by decide +kernel
theorem dL_law_738 : decode cL_law 738 = .ok (.iconst 1, 1) := by decide +kernel
theorem dL_law_739 : decode cL_law 739 = .ok (.iadd, 1) := by decide +kernel
theorem dL_law_740 : decode cL_law 740 = .ok (.iaload, 1) := by decide +kernel
theorem dL_law_741 : decode cL_law 741 = .ok (.aload_n 0, 1) := by decide +kernel
theorem dL_law_742 : decode cL_law 742 = .ok (.iload_n 3, 1) := by decide +kernel
theorem dL_law_743 : decode cL_law 743 = .ok (.iconst 2, 1) := by decide +kernel
theorem dL_law_744 : decode cL_law 744 = .ok (.iadd, 1) := by decide +kernel
theorem dL_law_745 : decode cL_law 745 = .ok (.iaload, 1) := by decide +kernel
theorem dL_law_746 : decode cL_law 746 = .ok (.invokevirtual 102, 3) := by decide +kernel
theorem qq_5_56 : Cond.code yX11_spare cX11_spare 7 (some .int) ∈ TB := mk_tb (ti_5 (List.mem_of_getElem? (i := 56) rfl)) rfl
theorem qq_5_53 : Cond.methodLink "WrongHoleLaw" 102 yX11_spare ∈ TB := mk_tb (ti_5 (List.mem_of_getElem? (i := 53) rfl)) rfl
theorem qq_5_54 : Cond.instanceMethod yX11_spare ∈ TB := mk_tb (ti_5 (List.mem_of_getElem? (i := 54) rfl)) rfl
theorem qq_5_55 : Cond.selects "WrongHole" yX11_spare yX11_spare ∈ TB := mk_tb (ti_5 (List.mem_of_getElem? (i := 55) rfl)) rfl
theorem dL_law_749 : decode cL_law 749 = .ok (.aload_n 2, 1) := by decide +kernel
theorem dL_law_750 : decode cL_law 750 = .ok (.aload_n 0, 1) := by decide +kernel
theorem dL_law_751 : decode cL_law 751 = .ok (.iload_n 3, 1) := by decide +kernel
theorem dL_law_752 : decode cL_law 752 = .ok (.iconst 1, 1) := by decide +kernel
theorem dL_law_753 : decode cL_law 753 = .ok (.iadd, 1) := by decide +kernel
theorem dL_law_754 : decode cL_law 754 = .ok (.iaload, 1) := by decide +kernel
theorem dL_law_755 : decode cL_law 755 = .ok (.aload_n 0, 1) := by decide +kernel
theorem dL_law_756 : decode cL_law 756 = .ok (.iload_n 3, 1) := by decide +kernel
theorem dL_law_757 : decode cL_law 757 = .ok (.iconst 2, 1) := by decide +kernel
theorem dL_law_758 : decode cL_law 758 = .ok (.iadd, 1) := by decide +kernel
theorem dL_law_759 : decode cL_law 759 = .ok (.iaload, 1) := by decide +kernel
theorem dL_law_760 : decode cL_law 760 = .ok (.invokevirtual 105, 3) := by decide +kernel
theorem qq_8_43 : Cond.code yX12_spare cX12_spare 5 (some .int) ∈ TB := mk_tb (ti_8 (List.mem_of_getElem? (i := 43) rfl)) rfl
theorem qq_8_40 : Cond.methodLink "WrongHoleLaw" 105 yX12_spare ∈ TB := mk_tb (ti_8 (List.mem_of_getElem? (i := 40) rfl)) rfl
theorem qq_8_41 : Cond.instanceMethod yX12_spare ∈ TB := mk_tb (ti_8 (List.mem_of_getElem? (i := 41) rfl)) rfl
theorem qq_8_42 : Cond.selects "WrongHoleModel" yX12_spare yX12_spare ∈ TB := mk_tb (ti_8 (List.mem_of_getElem? (i := 42) rfl)) rfl
theorem dL_law_763 : decode cL_law 763 = .ok (.if_icmp .eq 262, 3) := by decide +kernel
theorem dL_law_768 : decode cL_law 768 = .ok (.aload_n 1, 1) := by decide +kernel
theorem dL_law_769 : decode cL_law 769 = .ok (.aload_n 0, 1) := by decide +kernel
theorem dL_law_770 : decode cL_law 770 = .ok (.iload_n 3, 1) := by decide +kernel
theorem dL_law_771 : decode cL_law 771 = .ok (.iconst 1, 1) := by decide +kernel
theorem dL_law_772 : decode cL_law 772 = .ok (.iadd, 1) := by decide +kernel
theorem dL_law_773 : decode cL_law 773 = .ok (.iaload, 1) := by decide +kernel
theorem dL_law_774 : decode cL_law 774 = .ok (.aload_n 0, 1) := by decide +kernel
theorem dL_law_775 : decode cL_law 775 = .ok (.iload_n 3, 1) := by decide +kernel
theorem dL_law_776 : decode cL_law 776 = .ok (.iconst 2, 1) := by decide +kernel
theorem dL_law_777 : decode cL_law 777 = .ok (.iadd, 1) := by decide +kernel
theorem dL_law_778 : decode cL_law 778 = .ok (.iaload, 1) := by decide +kernel
theorem dL_law_779 : decode cL_law 779 = .ok (.aload_n 0, 1) := by decide +kernel
theorem dL_law_780 : decode cL_law 780 = .ok (.iload_n 3, 1) := by decide +kernel
theorem dL_law_781 : decode cL_law 781 = .ok (.iconst 3, 1) := by decide +kernel
theorem dL_law_782 : decode cL_law 782 = .ok (.iadd, 1) := by decide +kernel
theorem dL_law_783 : decode cL_law 783 = .ok (.iaload, 1) := by decide +kernel
theorem dL_law_784 : decode cL_law 784 = .ok (.invokevirtual 106, 3) := by decide +kernel
theorem qq_5_60 : Cond.code yX11_crease cX11_crease 5 (some .int) ∈ TB := mk_tb (ti_5 (List.mem_of_getElem? (i := 60) rfl)) rfl
theorem qq_5_57 : Cond.methodLink "WrongHoleLaw" 106 yX11_crease ∈ TB := mk_tb (ti_5 (List.mem_of_getElem? (i := 57) rfl)) rfl
theorem qq_5_58 : Cond.instanceMethod yX11_crease ∈ TB := mk_tb (ti_5 (List.mem_of_getElem? (i := 58) rfl)) rfl
theorem qq_5_59 : Cond.selects "WrongHole" yX11_crease yX11_crease ∈ TB := mk_tb (ti_5 (List.mem_of_getElem? (i := 59) rfl)) rfl
theorem dL_law_787 : decode cL_law 787 = .ok (.aload_n 2, 1) := by decide +kernel
theorem dL_law_788 : decode cL_law 788 = .ok (.aload_n 0, 1) := by decide +kernel
theorem dL_law_789 : decode cL_law 789 = .ok (.iload_n 3, 1) := by decide +kernel
theorem dL_law_790 : decode cL_law 790 = .ok (.iconst 1, 1) := by decide +kernel
theorem dL_law_791 : decode cL_law 791 = .ok (.iadd, 1) := by decide +kernel
theorem dL_law_792 : decode cL_law 792 = .ok (.iaload, 1) := by decide +kernel
theorem dL_law_793 : decode cL_law 793 = .ok (.aload_n 0, 1) := by decide +kernel
theorem dL_law_794 : decode cL_law 794 = .ok (.iload_n 3, 1) := by decide +kernel
theorem dL_law_795 : decode cL_law 795 = .ok (.iconst 2, 1) := by decide +kernel
theorem dL_law_796 : decode cL_law 796 = .ok (.iadd, 1) := by decide +kernel
theorem dL_law_797 : decode cL_law 797 = .ok (.iaload, 1) := by decide +kernel
theorem dL_law_798 : decode cL_law 798 = .ok (.aload_n 0, 1) := by decide +kernel
theorem dL_law_799 : decode cL_law 799 = .ok (.iload_n 3, 1) := by decide +kernel
theorem dL_law_800 : decode cL_law 800 = .ok (.iconst 3, 1) := by decide +kernel
theorem dL_law_801 : decode cL_law 801 = .ok (.iadd, 1) := by decide +kernel
theorem dL_law_802 : decode cL_law 802 = .ok (.iaload, 1) := by decide +kernel
theorem dL_law_803 : decode cL_law 803 = .ok (.invokevirtual 109, 3) := by decide +kernel
theorem qq_8_47 : Cond.code yX12_crease cX12_crease 7 (some .int) ∈ TB := mk_tb (ti_8 (List.mem_of_getElem? (i := 47) rfl)) rfl
theorem qq_8_44 : Cond.methodLink "WrongHoleLaw" 109 yX12_crease ∈ TB := mk_tb (ti_8 (List.mem_of_getElem? (i := 44) rfl)) rfl
theorem qq_8_45 : Cond.instanceMethod yX12_crease ∈ TB := mk_tb (ti_8 (List.mem_of_getElem? (i := 45) rfl)) rfl
theorem qq_8_46 : Cond.selects "WrongHoleModel" yX12_crease yX12_crease ∈ TB := mk_tb (ti_8 (List.mem_of_getElem? (i := 46) rfl)) rfl
theorem dL_law_806 : decode cL_law 806 = .ok (.if_icmp .eq 219, 3) := by decide +kernel
theorem dL_law_811 : decode cL_law 811 = .ok (.aload_n 1, 1) := by decide +kernel
theorem dL_law_812 : decode cL_law 812 = .ok (.aload_n 0, 1) := by decide +kernel
theorem dL_law_813 : decode cL_law 813 = .ok (.iload_n 3, 1) := by decide +kernel
theorem dL_law_814 : decode cL_law 814 = .ok (.iconst 1, 1) := by decide +kernel
theorem dL_law_815 : decode cL_law 815 = .ok (.iadd, 1) := by decide +kernel
theorem dL_law_816 : decode cL_law 816 = .ok (.iaload, 1) := by decide +kernel
theorem dL_law_817 : decode cL_law 817 = .ok (.invokevirtual 110, 3) := by decide +kernel
theorem qq_5_69 : Cond.code yX11_ways cX11_ways 4 (some .int) ∈ TB := mk_tb (ti_5 (List.mem_of_getElem? (i := 69) rfl)) rfl
theorem qq_5_66 : Cond.methodLink "WrongHoleLaw" 110 yX11_ways ∈ TB := mk_tb (ti_5 (List.mem_of_getElem? (i := 66) rfl)) rfl
theorem qq_5_67 : Cond.instanceMethod yX11_ways ∈ TB := mk_tb (ti_5 (List.mem_of_getElem? (i := 67) rfl)) rfl
theorem qq_5_68 : Cond.selects "WrongHole" yX11_ways yX11_ways ∈ TB := mk_tb (ti_5 (List.mem_of_getElem? (i := 68) rfl)) rfl
theorem dL_law_820 : decode cL_law 820 = .ok (.aload_n 2, 1) := by decide +kernel
theorem dL_law_821 : decode cL_law 821 = .ok (.aload_n 0, 1) := by decide +kernel
theorem dL_law_822 : decode cL_law 822 = .ok (.iload_n 3, 1) := by decide +kernel
theorem dL_law_823 : decode cL_law 823 = .ok (.iconst 1, 1) := by decide +kernel
theorem dL_law_824 : decode cL_law 824 = .ok (.iadd, 1) := by decide +kernel
theorem dL_law_825 : decode cL_law 825 = .ok (.iaload, 1) := by decide +kernel
theorem dL_law_826 : decode cL_law 826 = .ok (.invokevirtual 113, 3) := by decide +kernel
theorem qq_8_51 : Cond.code yX12_ways cX12_ways 6 (some .int) ∈ TB := mk_tb (ti_8 (List.mem_of_getElem? (i := 51) rfl)) rfl
theorem qq_8_48 : Cond.methodLink "WrongHoleLaw" 113 yX12_ways ∈ TB := mk_tb (ti_8 (List.mem_of_getElem? (i := 48) rfl)) rfl
theorem qq_8_49 : Cond.instanceMethod yX12_ways ∈ TB := mk_tb (ti_8 (List.mem_of_getElem? (i := 49) rfl)) rfl
theorem qq_8_50 : Cond.selects "WrongHoleModel" yX12_ways yX12_ways ∈ TB := mk_tb (ti_8 (List.mem_of_getElem? (i := 50) rfl)) rfl
theorem dL_law_829 : decode cL_law 829 = .ok (.if_icmp .eq 196, 3) := by decide +kernel
theorem dL_law_834 : decode cL_law 834 = .ok (.aload_n 1, 1) := by decide +kernel
theorem dL_law_835 : decode cL_law 835 = .ok (.aload_n 0, 1) := by decide +kernel
theorem dL_law_836 : decode cL_law 836 = .ok (.iload_n 3, 1) := by decide +kernel
theorem dL_law_837 : decode cL_law 837 = .ok (.iconst 1, 1) := by decide +kernel
theorem dL_law_838 : decode cL_law 838 = .ok (.iadd, 1) := by decide +kernel
theorem dL_law_839 : decode cL_law 839 = .ok (.iaload, 1) := by decide +kernel
theorem dL_law_840 : decode cL_law 840 = .ok (.aload_n 0, 1) := by decide +kernel
theorem dL_law_841 : decode cL_law 841 = .ok (.iload_n 3, 1) := by decide +kernel
theorem dL_law_842 : decode cL_law 842 = .ok (.iconst 2, 1) := by decide +kernel
theorem dL_law_843 : decode cL_law 843 = .ok (.iadd, 1) := by decide +kernel
theorem dL_law_844 : decode cL_law 844 = .ok (.iaload, 1) := by decide +kernel
theorem dL_law_845 : decode cL_law 845 = .ok (.invokevirtual 114, 3) := by decide +kernel
theorem qq_5_102 : Cond.code yX11_seat cX11_seat 5 (some .int) ∈ TB := mk_tb (ti_5 (List.mem_of_getElem? (i := 102) rfl)) rfl
theorem qq_5_99 : Cond.methodLink "WrongHoleLaw" 114 yX11_seat ∈ TB := mk_tb (ti_5 (List.mem_of_getElem? (i := 99) rfl)) rfl
theorem qq_5_100 : Cond.instanceMethod yX11_seat ∈ TB := mk_tb (ti_5 (List.mem_of_getElem? (i := 100) rfl)) rfl
theorem qq_5_101 : Cond.selects "WrongHole" yX11_seat yX11_seat ∈ TB := mk_tb (ti_5 (List.mem_of_getElem? (i := 101) rfl)) rfl
theorem dL_law_848 : decode cL_law 848 = .ok (.aload_n 2, 1) := by decide +kernel
theorem dL_law_849 : decode cL_law 849 = .ok (.aload_n 0, 1) := by decide +kernel
theorem dL_law_850 : decode cL_law 850 = .ok (.iload_n 3, 1) := by decide +kernel
theorem dL_law_851 : decode cL_law 851 = .ok (.iconst 1, 1) := by decide +kernel
theorem dL_law_852 : decode cL_law 852 = .ok (.iadd, 1) := by decide +kernel
theorem dL_law_853 : decode cL_law 853 = .ok (.iaload, 1) := by decide +kernel
theorem dL_law_854 : decode cL_law 854 = .ok (.aload_n 0, 1) := by decide +kernel
theorem dL_law_855 : decode cL_law 855 = .ok (.iload_n 3, 1) := by decide +kernel
theorem dL_law_856 : decode cL_law 856 = .ok (.iconst 2, 1) := by decide +kernel
theorem dL_law_857 : decode cL_law 857 = .ok (.iadd, 1) := by decide +kernel
theorem dL_law_858 : decode cL_law 858 = .ok (.iaload, 1) := by decide +kernel
theorem dL_law_859 : decode cL_law 859 = .ok (.invokevirtual 117, 3) := by decide +kernel
theorem qq_8_63 : Cond.code yX12_seat cX12_seat 5 (some .int) ∈ TB := mk_tb (ti_8 (List.mem_of_getElem? (i := 63) rfl)) rfl
theorem qq_8_60 : Cond.methodLink "WrongHoleLaw" 117 yX12_seat ∈ TB := mk_tb (ti_8 (List.mem_of_getElem? (i := 60) rfl)) rfl
theorem qq_8_61 : Cond.instanceMethod yX12_seat ∈ TB := mk_tb (ti_8 (List.mem_of_getElem? (i := 61) rfl)) rfl
theorem qq_8_62 : Cond.selects "WrongHoleModel" yX12_seat yX12_seat ∈ TB := mk_tb (ti_8 (List.mem_of_getElem? (i := 62) rfl)) rfl
theorem dL_law_862 : decode cL_law 862 = .ok (.if_icmp .eq 163, 3) := by decide +kernel
theorem dL_law_867 : decode cL_law 867 = .ok (.aload_n 1, 1) := by decide +kernel
theorem dL_law_868 : decode cL_law 868 = .ok (.aload_n 0, 1) := by decide +kernel
theorem dL_law_869 : decode cL_law 869 = .ok (.iload_n 3, 1) := by decide +kernel
theorem dL_law_870 : decode cL_law 870 = .ok (.iconst 1, 1) := by decide +kernel
theorem dL_law_871 : decode cL_law 871 = .ok (.iadd, 1) := by decide +kernel
theorem dL_law_872 : decode cL_law 872 = .ok (.iaload, 1) := by decide +kernel
theorem dL_law_873 : decode cL_law 873 = .ok (.invokevirtual 118, 3) := by decide +kernel
theorem qq_5_106 : Cond.code yX11_moves cX11_moves 5 (some .int) ∈ TB := mk_tb (ti_5 (List.mem_of_getElem? (i := 106) rfl)) rfl
theorem qq_5_103 : Cond.methodLink "WrongHoleLaw" 118 yX11_moves ∈ TB := mk_tb (ti_5 (List.mem_of_getElem? (i := 103) rfl)) rfl
theorem qq_5_104 : Cond.instanceMethod yX11_moves ∈ TB := mk_tb (ti_5 (List.mem_of_getElem? (i := 104) rfl)) rfl
theorem qq_5_105 : Cond.selects "WrongHole" yX11_moves yX11_moves ∈ TB := mk_tb (ti_5 (List.mem_of_getElem? (i := 105) rfl)) rfl
theorem dL_law_876 : decode cL_law 876 = .ok (.aload_n 2, 1) := by decide +kernel
theorem dL_law_877 : decode cL_law 877 = .ok (.aload_n 0, 1) := by decide +kernel
theorem dL_law_878 : decode cL_law 878 = .ok (.iload_n 3, 1) := by decide +kernel
theorem dL_law_879 : decode cL_law 879 = .ok (.iconst 1, 1) := by decide +kernel
theorem dL_law_880 : decode cL_law 880 = .ok (.iadd, 1) := by decide +kernel
theorem dL_law_881 : decode cL_law 881 = .ok (.iaload, 1) := by decide +kernel
theorem dL_law_882 : decode cL_law 882 = .ok (.invokevirtual 121, 3) := by decide +kernel
theorem qq_8_68 : Cond.code yX12_moves cX12_moves 7 (some .int) ∈ TB := mk_tb (ti_8 (List.mem_of_getElem? (i := 68) rfl)) rfl
theorem qq_8_65 : Cond.methodLink "WrongHoleLaw" 121 yX12_moves ∈ TB := mk_tb (ti_8 (List.mem_of_getElem? (i := 65) rfl)) rfl
theorem qq_8_66 : Cond.instanceMethod yX12_moves ∈ TB := mk_tb (ti_8 (List.mem_of_getElem? (i := 66) rfl)) rfl
theorem qq_8_67 : Cond.selects "WrongHoleModel" yX12_moves yX12_moves ∈ TB := mk_tb (ti_8 (List.mem_of_getElem? (i := 67) rfl)) rfl
theorem dL_law_885 : decode cL_law 885 = .ok (.if_icmp .eq 140, 3) := by decide +kernel
theorem dL_law_890 : decode cL_law 890 = .ok (.aload_n 1, 1) := by decide +kernel
theorem dL_law_891 : decode cL_law 891 = .ok (.aload_n 0, 1) := by decide +kernel
theorem dL_law_892 : decode cL_law 892 = .ok (.iload_n 3, 1) := by decide +kernel
theorem dL_law_893 : decode cL_law 893 = .ok (.iconst 1, 1) := by decide +kernel
theorem dL_law_894 : decode cL_law 894 = .ok (.iadd, 1) := by decide +kernel
theorem dL_law_895 : decode cL_law 895 = .ok (.iaload, 1) := by decide +kernel
theorem dL_law_896 : decode cL_law 896 = .ok (.invokevirtual 122, 3) := by decide +kernel
theorem qq_5_114 : Cond.code yX11_seed cX11_seed 3 (some .int) ∈ TB := mk_tb (ti_5 (List.mem_of_getElem? (i := 114) rfl)) rfl
theorem qq_5_111 : Cond.methodLink "WrongHoleLaw" 122 yX11_seed ∈ TB := mk_tb (ti_5 (List.mem_of_getElem? (i := 111) rfl)) rfl
theorem qq_5_112 : Cond.instanceMethod yX11_seed ∈ TB := mk_tb (ti_5 (List.mem_of_getElem? (i := 112) rfl)) rfl
theorem qq_5_113 : Cond.selects "WrongHole" yX11_seed yX11_seed ∈ TB := mk_tb (ti_5 (List.mem_of_getElem? (i := 113) rfl)) rfl
theorem dL_law_899 : decode cL_law 899 = .ok (.aload_n 2, 1) := by decide +kernel
theorem dL_law_900 : decode cL_law 900 = .ok (.aload_n 0, 1) := by decide +kernel
theorem dL_law_901 : decode cL_law 901 = .ok (.iload_n 3, 1) := by decide +kernel
theorem dL_law_902 : decode cL_law 902 = .ok (.iconst 1, 1) := by decide +kernel
theorem dL_law_903 : decode cL_law 903 = .ok (.iadd, 1) := by decide +kernel
theorem dL_law_904 : decode cL_law 904 = .ok (.iaload, 1) := by decide +kernel
theorem dL_law_905 : decode cL_law 905 = .ok (.invokevirtual 125, 3) := by decide +kernel
theorem qq_8_77 : Cond.code yX12_seed cX12_seed 3 (some .int) ∈ TB := mk_tb (ti_8 (List.mem_of_getElem? (i := 77) rfl)) rfl
theorem qq_8_74 : Cond.methodLink "WrongHoleLaw" 125 yX12_seed ∈ TB := mk_tb (ti_8 (List.mem_of_getElem? (i := 74) rfl)) rfl
theorem qq_8_75 : Cond.instanceMethod yX12_seed ∈ TB := mk_tb (ti_8 (List.mem_of_getElem? (i := 75) rfl)) rfl
theorem qq_8_76 : Cond.selects "WrongHoleModel" yX12_seed yX12_seed ∈ TB := mk_tb (ti_8 (List.mem_of_getElem? (i := 76) rfl)) rfl
theorem dL_law_908 : decode cL_law 908 = .ok (.if_icmp .eq 117, 3) := by decide +kernel
theorem dL_law_913 : decode cL_law 913 = .ok (.aload_n 1, 1) := by decide +kernel
theorem dL_law_914 : decode cL_law 914 = .ok (.aload_n 0, 1) := by decide +kernel
theorem dL_law_915 : decode cL_law 915 = .ok (.iload_n 3, 1) := by decide +kernel
theorem dL_law_916 : decode cL_law 916 = .ok (.iconst 1, 1) := by decide +kernel
theorem dL_law_917 : decode cL_law 917 = .ok (.iadd, 1) := by decide +kernel
theorem dL_law_918 : decode cL_law 918 = .ok (.iaload, 1) := by decide +kernel
theorem dL_law_919 : decode cL_law 919 = .ok (.aload_n 0, 1) := by decide +kernel
theorem dL_law_920 : decode cL_law 920 = .ok (.iload_n 3, 1) := by decide +kernel
theorem dL_law_921 : decode cL_law 921 = .ok (.iconst 2, 1) := by decide +kernel
theorem dL_law_922 : decode cL_law 922 = .ok (.iadd, 1) := by decide +kernel
theorem dL_law_923 : decode cL_law 923 = .ok (.iaload, 1) := by decide +kernel
theorem dL_law_924 : decode cL_law 924 = .ok (.aload_n 0, 1) := by decide +kernel
theorem dL_law_925 : decode cL_law 925 = .ok (.iload_n 3, 1) := by decide +kernel
theorem dL_law_926 : decode cL_law 926 = .ok (.iconst 3, 1) := by decide +kernel
theorem dL_law_927 : decode cL_law 927 = .ok (.iadd, 1) := by decide +kernel
theorem dL_law_928 : decode cL_law 928 = .ok (.iaload, 1) := by decide +kernel
theorem dL_law_929 : decode cL_law 929 = .ok (.invokevirtual 126, 3) := by decide +kernel
theorem qq_5_118 : Cond.code yX11_dressed cX11_dressed 13 (some .int) ∈ TB := mk_tb (ti_5 (List.mem_of_getElem? (i := 118) rfl)) rfl
theorem qq_5_115 : Cond.methodLink "WrongHoleLaw" 126 yX11_dressed ∈ TB := mk_tb (ti_5 (List.mem_of_getElem? (i := 115) rfl)) rfl
theorem qq_5_116 : Cond.instanceMethod yX11_dressed ∈ TB := mk_tb (ti_5 (List.mem_of_getElem? (i := 116) rfl)) rfl
theorem qq_5_117 : Cond.selects "WrongHole" yX11_dressed yX11_dressed ∈ TB := mk_tb (ti_5 (List.mem_of_getElem? (i := 117) rfl)) rfl
theorem dL_law_932 : decode cL_law 932 = .ok (.aload_n 2, 1) := by decide +kernel
theorem dL_law_933 : decode cL_law 933 = .ok (.aload_n 0, 1) := by decide +kernel
theorem dL_law_934 : decode cL_law 934 = .ok (.iload_n 3, 1) := by decide +kernel
theorem dL_law_935 : decode cL_law 935 = .ok (.iconst 1, 1) := by decide +kernel
theorem dL_law_936 : decode cL_law 936 = .ok (.iadd, 1) := by decide +kernel
theorem dL_law_937 : decode cL_law 937 = .ok (.iaload, 1) := by decide +kernel
theorem dL_law_938 : decode cL_law 938 = .ok (.aload_n 0, 1) := by decide +kernel
theorem dL_law_939 : decode cL_law 939 = .ok (.iload_n 3, 1) := by decide +kernel
theorem dL_law_940 : decode cL_law 940 = .ok (.iconst 2, 1) := by decide +kernel
theorem dL_law_941 : decode cL_law 941 = .ok (.iadd, 1) := by decide +kernel
theorem dL_law_942 : decode cL_law 942 = .ok (.iaload, 1) := by decide +kernel
theorem dL_law_943 : decode cL_law 943 = .ok (.aload_n 0, 1) := by decide +kernel
theorem dL_law_944 : decode cL_law 944 = .ok (.iload_n 3, 1) := by decide +kernel
theorem dL_law_945 : decode cL_law 945 = .ok (.iconst 3, 1) := by decide +kernel
theorem dL_law_946 : decode cL_law 946 = .ok (.iadd, 1) := by decide +kernel
theorem dL_law_947 : decode cL_law 947 = .ok (.iaload, 1) := by decide +kernel
theorem dL_law_948 : decode cL_law 948 = .ok (.invokevirtual 129, 3) := by decide +kernel
theorem qq_8_81 : Cond.code yX12_dressed cX12_dressed 12 (some .int) ∈ TB := mk_tb (ti_8 (List.mem_of_getElem? (i := 81) rfl)) rfl
theorem qq_8_78 : Cond.methodLink "WrongHoleLaw" 129 yX12_dressed ∈ TB := mk_tb (ti_8 (List.mem_of_getElem? (i := 78) rfl)) rfl
theorem qq_8_79 : Cond.instanceMethod yX12_dressed ∈ TB := mk_tb (ti_8 (List.mem_of_getElem? (i := 79) rfl)) rfl
theorem qq_8_80 : Cond.selects "WrongHoleModel" yX12_dressed yX12_dressed ∈ TB := mk_tb (ti_8 (List.mem_of_getElem? (i := 80) rfl)) rfl
theorem dL_law_951 : decode cL_law 951 = .ok (.if_icmp .eq 74, 3) := by decide +kernel
theorem dL_law_956 : decode cL_law 956 = .ok (.aload_n 1, 1) := by decide +kernel
theorem dL_law_957 : decode cL_law 957 = .ok (.aload_n 0, 1) := by decide +kernel
theorem dL_law_958 : decode cL_law 958 = .ok (.iload_n 3, 1) := by decide +kernel
theorem dL_law_959 : decode cL_law 959 = .ok (.iconst 1, 1) := by decide +kernel
theorem dL_law_960 : decode cL_law 960 = .ok (.iadd, 1) := by decide +kernel
theorem dL_law_961 : decode cL_law 961 = .ok (.iaload, 1) := by decide +kernel
theorem dL_law_962 : decode cL_law 962 = .ok (.invokevirtual 130, 3) := by decide +kernel
theorem qq_5_127 : Cond.code yX11_count cX11_count 3 (some .int) ∈ TB := mk_tb (ti_5 (List.mem_of_getElem? (i := 127) rfl)) rfl
theorem qq_5_124 : Cond.methodLink "WrongHoleLaw" 130 yX11_count ∈ TB := mk_tb (ti_5 (List.mem_of_getElem? (i := 124) rfl)) rfl
theorem qq_5_125 : Cond.instanceMethod yX11_count ∈ TB := mk_tb (ti_5 (List.mem_of_getElem? (i := 125) rfl)) rfl
theorem qq_5_126 : Cond.selects "WrongHole" yX11_count yX11_count ∈ TB := mk_tb (ti_5 (List.mem_of_getElem? (i := 126) rfl)) rfl
theorem dL_law_965 : decode cL_law 965 = .ok (.aload_n 2, 1) := by decide +kernel
theorem dL_law_966 : decode cL_law 966 = .ok (.aload_n 0, 1) := by decide +kernel
theorem dL_law_967 : decode cL_law 967 = .ok (.iload_n 3, 1) := by decide +kernel
theorem dL_law_968 : decode cL_law 968 = .ok (.iconst 1, 1) := by decide +kernel
theorem dL_law_969 : decode cL_law 969 = .ok (.iadd, 1) := by decide +kernel
theorem dL_law_970 : decode cL_law 970 = .ok (.iaload, 1) := by decide +kernel
theorem dL_law_971 : decode cL_law 971 = .ok (.invokevirtual 133, 3) := by decide +kernel
theorem qq_8_94 : Cond.code yX12_count cX12_count 4 (some .int) ∈ TB := mk_tb (ti_8 (List.mem_of_getElem? (i := 94) rfl)) rfl
theorem qq_8_91 : Cond.methodLink "WrongHoleLaw" 133 yX12_count ∈ TB := mk_tb (ti_8 (List.mem_of_getElem? (i := 91) rfl)) rfl
theorem qq_8_92 : Cond.instanceMethod yX12_count ∈ TB := mk_tb (ti_8 (List.mem_of_getElem? (i := 92) rfl)) rfl
theorem qq_8_93 : Cond.selects "WrongHoleModel" yX12_count yX12_count ∈ TB := mk_tb (ti_8 (List.mem_of_getElem? (i := 93) rfl)) rfl
theorem dL_law_974 : decode cL_law 974 = .ok (.if_icmp .eq 51, 3) := by decide +kernel
theorem dL_law_979 : decode cL_law 979 = .ok (.aload_n 1, 1) := by decide +kernel
theorem dL_law_980 : decode cL_law 980 = .ok (.aload_n 0, 1) := by decide +kernel
theorem dL_law_981 : decode cL_law 981 = .ok (.iload_n 3, 1) := by decide +kernel
theorem dL_law_982 : decode cL_law 982 = .ok (.iconst 1, 1) := by decide +kernel
theorem dL_law_983 : decode cL_law 983 = .ok (.iadd, 1) := by decide +kernel
theorem dL_law_984 : decode cL_law 984 = .ok (.iaload, 1) := by decide +kernel
theorem dL_law_985 : decode cL_law 985 = .ok (.invokevirtual 134, 3) := by decide +kernel
theorem qq_5_135 : Cond.code yX11_image cX11_image 2 (some .int) ∈ TB := mk_tb (ti_5 (List.mem_of_getElem? (i := 135) rfl)) rfl
theorem qq_5_132 : Cond.methodLink "WrongHoleLaw" 134 yX11_image ∈ TB := mk_tb (ti_5 (List.mem_of_getElem? (i := 132) rfl)) rfl
theorem qq_5_133 : Cond.instanceMethod yX11_image ∈ TB := mk_tb (ti_5 (List.mem_of_getElem? (i := 133) rfl)) rfl
theorem qq_5_134 : Cond.selects "WrongHole" yX11_image yX11_image ∈ TB := mk_tb (ti_5 (List.mem_of_getElem? (i := 134) rfl)) rfl
theorem dL_law_988 : decode cL_law 988 = .ok (.aload_n 2, 1) := by decide +kernel
theorem dL_law_989 : decode cL_law 989 = .ok (.aload_n 0, 1) := by decide +kernel
theorem dL_law_990 : decode cL_law 990 = .ok (.iload_n 3, 1) := by decide +kernel
theorem dL_law_991 : decode cL_law 991 = .ok (.iconst 1, 1) := by decide +kernel
theorem dL_law_992 : decode cL_law 992 = .ok (.iadd, 1) := by decide +kernel
theorem dL_law_993 : decode cL_law 993 = .ok (.iaload, 1) := by decide +kernel
theorem dL_law_994 : decode cL_law 994 = .ok (.invokevirtual 137, 3) := by decide +kernel
theorem qq_8_98 : Cond.code yX12_image cX12_image 3 (some .int) ∈ TB := mk_tb (ti_8 (List.mem_of_getElem? (i := 98) rfl)) rfl
theorem qq_8_95 : Cond.methodLink "WrongHoleLaw" 137 yX12_image ∈ TB := mk_tb (ti_8 (List.mem_of_getElem? (i := 95) rfl)) rfl
theorem qq_8_96 : Cond.instanceMethod yX12_image ∈ TB := mk_tb (ti_8 (List.mem_of_getElem? (i := 96) rfl)) rfl
theorem qq_8_97 : Cond.selects "WrongHoleModel" yX12_image yX12_image ∈ TB := mk_tb (ti_8 (List.mem_of_getElem? (i := 97) rfl)) rfl
theorem dL_law_997 : decode cL_law 997 = .ok (.if_icmp .eq 28, 3) := by decide +kernel
theorem dL_law_1002 : decode cL_law 1002 = .ok (.aload_n 1, 1) := by decide +kernel
theorem dL_law_1003 : decode cL_law 1003 = .ok (.aload_n 0, 1) := by decide +kernel
theorem dL_law_1004 : decode cL_law 1004 = .ok (.iload_n 3, 1) := by decide +kernel
theorem dL_law_1005 : decode cL_law 1005 = .ok (.iconst 1, 1) := by decide +kernel
theorem dL_law_1006 : decode cL_law 1006 = .ok (.iadd, 1) := by decide +kernel
theorem dL_law_1007 : decode cL_law 1007 = .ok (.iaload, 1) := by decide +kernel
theorem dL_law_1008 : decode cL_law 1008 = .ok (.invokevirtual 138, 3) := by decide +kernel
theorem qq_5_144 : Cond.code yX11_back cX11_back 2 (some .int) ∈ TB := mk_tb (ti_5 (List.mem_of_getElem? (i := 144) rfl)) rfl
theorem qq_5_141 : Cond.methodLink "WrongHoleLaw" 138 yX11_back ∈ TB := mk_tb (ti_5 (List.mem_of_getElem? (i := 141) rfl)) rfl
theorem qq_5_142 : Cond.instanceMethod yX11_back ∈ TB := mk_tb (ti_5 (List.mem_of_getElem? (i := 142) rfl)) rfl
theorem qq_5_143 : Cond.selects "WrongHole" yX11_back yX11_back ∈ TB := mk_tb (ti_5 (List.mem_of_getElem? (i := 143) rfl)) rfl
theorem dL_law_1011 : decode cL_law 1011 = .ok (.aload_n 2, 1) := by decide +kernel
theorem dL_law_1012 : decode cL_law 1012 = .ok (.aload_n 0, 1) := by decide +kernel
theorem dL_law_1013 : decode cL_law 1013 = .ok (.iload_n 3, 1) := by decide +kernel
theorem dL_law_1014 : decode cL_law 1014 = .ok (.iconst 1, 1) := by decide +kernel
theorem dL_law_1015 : decode cL_law 1015 = .ok (.iadd, 1) := by decide +kernel
theorem dL_law_1016 : decode cL_law 1016 = .ok (.iaload, 1) := by decide +kernel
theorem dL_law_1017 : decode cL_law 1017 = .ok (.invokevirtual 141, 3) := by decide +kernel
theorem qq_8_103 : Cond.code yX12_back cX12_back 3 (some .int) ∈ TB := mk_tb (ti_8 (List.mem_of_getElem? (i := 103) rfl)) rfl
theorem qq_8_100 : Cond.methodLink "WrongHoleLaw" 141 yX12_back ∈ TB := mk_tb (ti_8 (List.mem_of_getElem? (i := 100) rfl)) rfl
theorem qq_8_101 : Cond.instanceMethod yX12_back ∈ TB := mk_tb (ti_8 (List.mem_of_getElem? (i := 101) rfl)) rfl
theorem qq_8_102 : Cond.selects "WrongHoleModel" yX12_back yX12_back ∈ TB := mk_tb (ti_8 (List.mem_of_getElem? (i := 102) rfl)) rfl
theorem dL_law_1020 : decode cL_law 1020 = .ok (.if_icmp .eq 5, 3) := by decide +kernel
theorem nw_of {w : Cond} {A : Array Value} {U : State} (hg : nestWord w = true) (h : w.before A U = true) : va_Nw w U := by
  cases w <;> first | exact va_Nw.of rfl h | exact absurd hg (by simp [nestWord])
/-! THE CLAIM OUT OF ONE WALK OF THE LAW'S BODY. Your part is whole_start (and what it stands on); all else here is the same for every law, but numbers. -/
def R_law : String := "WrongHoleLaw"
def lw_P (b : Addr) (xs : List Int32) (args : Array Value) (s : State) : Prop := args = #[.ref b] ∧ s.IntsAt b xs ∧ xs.length ≤ 6 ∧ (Jvm.Cond.and given_1 narrow_1).before args s = true
def lw_Q (_ : Array Value) (s : State) (o : Outcome) (t : State) : Prop := o = .returned (some (.int 1)) ∧ Framed s o t [] 600000 7302250
def lw_Z (below : List Frame) (a : Array Value) (s : State) : State → Prop := fun t => ∃ o, t.status = .running ∧ Ended t below o ∧ lw_Q a s o t
/-- the law's own end, with 1 on the stack, nothing written that was there before, its room as the claim has it -/
theorem lw_ret {p : Program} {l : Launch} {e : Env} {s : State} {m : MethodId} {below : List Frame} {meth : Method} {c : Code} {b : Nat} (hx : p.tables.exec = Jvm.exec) (hb : c.code = code) (hr : meth.sig.returnType = ret) (hlocks : meth.locks = false) {pc : Nat} {H : Heap} {ls : Array Slot} (hdg : decode code pc = .ok (.ireturn, 1)) : W p l e room_1 s m #[Value.ref b] below meth c H [] 600000 7302250 (lw_Z below #[Value.ref b] s) (F0 m pc ls [.int 1]) := by
  intro T hT X
  obtain ⟨fs, hret, hrun, hended, hW, hframe⟩ := X.leave (v := some (.int 1)) (hlocks := hlocks) (fun h => by rw [hr] at h; cases h)
  have hmeth' : T.vm.method? m = some meth := X.method'
  refine ⟨T.setFrames fs, ?_, .returned (some (.int 1)), hrun, hended, rfl, ⟨_, rfl⟩, hW, hframe⟩
  jvm_step X.here [X.here.top, hx, hb, hdg, hmeth', hr, ret, narrow_b1]
  (try refine ⟨rfl, ?_⟩); (try refine ⟨rfl, ?_⟩)
  first | (intro acts; rw [hret _ acts rfl rfl rfl]) | rw [hret _ _ rfl rfl rfl]
  exact Steps.refl _
/-- what holds at the law's entry: the machine, the code, the tables' words (any of lw_tbl by 'hts w (by decide +kernel)'), the script of L ints xs at the cell b, what the Statement gives of the start (any of its parts by flat_of_before) -/
def lw_At (p : Program) (s : State) (m : MethodId) (meth : Method) (c : Code) (b L : Nat) (xs : Nat → Int32) : Prop :=
  p.tables.exec = Jvm.exec ∧ c.code = code ∧ meth.sig.returnType = ret ∧ c.maxLocals = 4 ∧ s.vm.findClass R_law = some m.cls ∧ (∀ w ∈ lw_tbl, w.before #[Value.ref b] s = true) ∧ va_X b L xs s s.heap ∧ b < s.heap.size ∧ meth.locks = false ∧ (Jvm.Cond.and given_1 narrow_1).before #[Value.ref b] s = true

set_option maxHeartbeats 4000000 in
set_option maxRecDepth 100000 in
theorem whole_start {p : Program} {e : Env} {s : State} {m : MethodId} {below : List Frame} {meth : Method} {c : Code} (l : Launch) (hflags : l.flags = flags0) {b L : Nat} {xs : Nat → Int32} (hL : L ≤ 6) (C0 : lw_At p s m meth c b L xs) : W p l e room_1 s m #[Value.ref b] below meth c s.heap [] 0 0 (lw_Z below #[Value.ref b] s) (entryFrame m ([Value.ref b] : List Value).toArray 4) := by
  obtain ⟨hx, hb, hr, hml, hown, hts0, hX, hbl, hlocks, hgv⟩ := id C0
  have hown : s.vm.findClass "WrongHoleLaw" = some m.cls := hown
  have hT : ∀ w ∈ TB, w.before #[Value.ref b] s = true := fun w h => hts0 w (tb_in h)
  have hts : ∀ w ∈ Cond.initialized "WrongHoleLaw" :: TB, w.before #[Value.ref b] s = true := fun w h => by
    rcases List.mem_cons.mp h with h2 | h2
    · rw [h2]; exact hts0 _ (ti_1 (List.mem_of_getElem? (i := 0) rfl))
    · exact hT _ h2
  obtain ⟨A, hAe⟩ : ∃ A : Nat → Prop, A = fun q : Nat => s.heap.size ≤ q := ⟨_, rfl⟩
  have hA : ∀ q : Nat, s.heap.size ≤ q → A q := fun q h => by rw [hAe]; exact h
  have hbA : ¬ A b := by rw [hAe]; exact Nat.not_le.mpr hbl
  obtain ⟨c0, iS0, hKn0⟩ := u_known (C := "WrongHole$Acts") (T := TX0) (N := 3) (n := 3) hts (iq_RX0 _) (hT _ qq_1_157)
  obtain ⟨c1, iS1, hKn1⟩ := u_known (C := "WrongHole$Folds") (T := TX1) (N := 6) (n := 6) hts (iq_RX1 _) (hT _ qq_1_178)
  obtain ⟨c2, iS2, hKn2⟩ := u_known (C := "WrongHole$Lift") (T := TX2) (N := 19) (n := 19) hts (iq_RX2 _) (hT _ qq_2_23)
  obtain ⟨c3, iS3, hKn3⟩ := u_known (C := "WrongHole$Past") (T := TX4) (N := 4) (n := 4) hts (iq_RX4 _) (hT _ qq_1_137)
  obtain ⟨c4, iS4, hKn4⟩ := u_known (C := "WrongHole$Paths") (T := TX5) (N := 19) (n := 19) hts (iq_RX5 _) (hT _ qq_4_131)
  obtain ⟨c5, iS5, hKn5⟩ := u_known (C := "WrongHole$Rule") (T := TX7) (N := 3) (n := 3) hts (iq_RX7 _) (hT _ qq_3_125)
  obtain ⟨c6, iS6, hKn6⟩ := u_known (C := "WrongHole$RuleReader") (T := TX8) (N := 4) (n := 4) hts (iq_RX8 _) (hT _ qq_1_68)
  obtain ⟨c7, iS7, hKn7⟩ := u_known (C := "WrongHole$Text") (T := TX9) (N := 8) (n := 8) hts (iq_RX9 _) (hT _ qq_1_31)
  obtain ⟨c8, iS8, hKn8⟩ := u_known (C := "WrongHole$Worn") (T := TX10) (N := 9) (n := 9) hts (iq_RX10 _) (hT _ qq_1_90)
  obtain ⟨c9, iS9, hKn9⟩ := u_known (C := "WrongHole") (T := TX11) (N := 12) (n := 12) hts (iq_RX11 _) (hT _ qq_1_23)
  obtain ⟨c10, iS10, hKn10⟩ := u_known (C := "WrongHoleModel") (T := TX12) (N := 33) (n := 33) hts (iq_RX12 _) (hT _ qq_5_146)
  obtain ⟨D, hKc⟩ : ∃ (D : va_G), ∀ (k : Nat) (q : vw_C), vwCl[k]? = some q → u_Kn s q.1 q.2.1 q.2.2 (D.1 k) (D.2 k) := by
    refine ⟨(fun k => if k = 0 then c0 else if k = 1 then c1 else if k = 2 then c2 else if k = 3 then c3 else if k = 4 then c4 else if k = 5 then c5 else if k = 6 then c6 else if k = 7 then c7 else if k = 8 then c8 else if k = 9 then c9 else c10, fun k => if k = 0 then iS0 else if k = 1 then iS1 else if k = 2 then iS2 else if k = 3 then iS3 else if k = 4 then iS4 else if k = 5 then iS5 else if k = 6 then iS6 else if k = 7 then iS7 else if k = 8 then iS8 else if k = 9 then iS9 else iS10), ?_⟩
    intro k q hq
    match k, hq with
    | 0, hq => cases hq; exact hKn0
    | 1, hq => cases hq; exact hKn1
    | 2, hq => cases hq; exact hKn2
    | 3, hq => cases hq; exact hKn3
    | 4, hq => cases hq; exact hKn4
    | 5, hq => cases hq; exact hKn5
    | 6, hq => cases hq; exact hKn6
    | 7, hq => cases hq; exact hKn7
    | 8, hq => cases hq; exact hKn8
    | 9, hq => cases hq; exact hKn9
    | 10, hq => cases hq; exact hKn10
    | k + 11, hq => simp [vwCl] at hq
  have hex := flat_of_before _ hgv
  obtain ⟨s0, _, _, _, hs0, -⟩ := Cond.exactly_spec (args := #[Value.ref b]) (first := s) (o := none) (s := s) (idx := []) (t := .string "WrongHole$LiftReader" 23) (cls := "java/lang/String") (hex _ (by decide +kernel))
  obtain ⟨s1, _, _, _, hs1, -⟩ := Cond.exactly_spec (args := #[Value.ref b]) (first := s) (o := none) (s := s) (idx := []) (t := .string "WrongHole$RuleReader" 34) (cls := "java/lang/String") (hex _ (by decide +kernel))
  obtain ⟨ad, had0, had1⟩ : ∃ ad : Nat → Nat, ad 0 = s0 ∧ ad 1 = s1 := ⟨fun k => if k = 0 then s0 else s1, rfl, rfl⟩
  have hN : NN ad s := ⟨fun w hw => nw_of (List.mem_filter.mp hw).2 (hts0 w (List.mem_filter.mp hw).1), by rw [had0]; exact vk_R.of (hts0 _ (ti_2 (List.mem_of_getElem? (i := 149) rfl))) hs0, by rw [had1]; exact vk_R.of (hts0 _ (ti_3 (List.mem_of_getElem? (i := 73) rfl))) hs1, va_AO.of (hts0 _ (ti_1 (List.mem_of_getElem? (i := 88) rfl))), va_AO.of (hts0 _ (ti_1 (List.mem_of_getElem? (i := 135) rfl)))⟩
  have hS : va_S A s.heap s.heap [] := va_S.rf
  have hK : va_K D vwCl [] s := ⟨hKc, fun k q h => by simp at h⟩
  have hP : va_P D vwCl [] s.heap := fun k q h => by simp at h
  have hD : va_D A [] := ⟨fun i j p q h => by simp at h, fun k q h => by simp at h⟩
  have hl := lv_entry ([.ref b]) (n := 4) (Nat.le_of_ble_eq_true rfl)
  rw [lg_entry_eq]
  generalize (lg_sl ([.ref b]) ++ List.replicate (4 - (lg_sl ([.ref b])).length) Slot.unset).toArray = ls at hl ⊢
  have hl : lv_has ls 4 [(0, .ref b)] := hl
  obtain ⟨H, hHe⟩ : ∃ H : Heap, H = s.heap := ⟨_, rfl⟩
  have hP : va_P D vwCl [] H := by rw [hHe]; exact hP
  have hS : va_S A s.heap H [] := by rw [hHe]; exact hS
  refine (congrArg (fun z => W p l e room_1 s m #[Value.ref b] below meth c z [] 0 0 (lw_Z below #[Value.ref b] s) (F0 m 0 ls [])) hHe).mp ?_
  refine va_new (ci := 9) (fs := [.null, .null, .null, .int 0, .null, .null, .null, .null, .null, .null, .null, .null]) (C := "WrongHole") (T := TX11) (N := 12) hx hb hts (iq_RX11 _) tyX11 tyX11_ok hown (hT _ qq_1_22) (hT _ qq_1_23) (hT _ qq_1_1) hK hP hD hS hA rfl (fv_RX11) (Nat.le_of_ble_eq_true rfl) (Nat.le_of_ble_eq_true rfl) dL_law_0 (fun q_1 H hP hD hS => ?_)
  have hP : va_P D vwCl [(q_1, .inr (9, [.null, .null, .null, .int 0, .null, .null, .null, .null, .null, .null, .null, .null]))] H := hP
  have hD : va_D A [(q_1, .inr (9, [.null, .null, .null, .int 0, .null, .null, .null, .null, .null, .null, .null, .null]))] := hD
  refine W.widen (k := 1) (n := 12) (Nat.le_of_ble_eq_true rfl) (Nat.le_of_ble_eq_true rfl) ?_
  refine lv_dup hx hb dL_law_3 rfl ?_
  have hPc := hP.sub (ws' := [(q_1, .inr (9, [.null, .null, .null, .int 0, .null, .null, .null, .null, .null, .null, .null, .null]))]) [0] rfl
  have hDc := hD.sub (ws' := [(q_1, .inr (9, [.null, .null, .null, .int 0, .null, .null, .null, .null, .null, .null, .null, .null]))]) [0] (by decide) rfl
  have hKc := hK.sub (tys' := []) [] rfl
  have hFc := va_free (wc := [(q_1, .inr (9, [.null, .null, .null, .int 0, .null, .null, .null, .null, .null, .null, .null, .null]))]) hD hS hA [0] rfl
  refine va_callv (va_runI (As := []) (rest := [.ref q_1]) ⟨hx, hb, hml, hown, hts⟩ (c_x_init l D ad H.size q_1) ⟨callB_of 0 hts (gd_C qq_1_26) rfl rfl rfl (hT _ qq_1_1) (hT _ qq_1_24) (by decide +kernel) (⟨Nat.le_of_ble_eq_true rfl, Nat.le_of_ble_eq_true rfl⟩), rfl, (hT _ qq_1_25)⟩ (pr_S hPc hKc hDc hN) rfl rfl hl.1 rfl (lv_room (Nat.le_of_ble_eq_true rfl)) dL_law_4 ⟨Nat.le_of_ble_eq_true rfl, Nat.le_of_ble_eq_true rfl⟩) hS (fun q _ h => hFc q h) hFc (fun u_2 t_5 H1 locs ht9 hvm hw_3 hB_4 hz1 hk1 hS => ?_)
  obtain ⟨q_6, q_7, q_8, q_9, q_10, q_11, q_12, q_13, q_14, q_15, q_16, q_17, q_18, q_19, q_20, q_21, q_22, q_23, q_24, q_25, q_26, q_27, k_28, k_29, k_30, k_31, k_32, k_33, k_34, k_35, k_36, k_37, k_38, k_39, k_40, k_41, k_42, k_43, hP1, hK1, hD1⟩ := hB_4
  rw [ht9] at hP1
  have hK1 := va_K.moved hvm.symm hK1
  obtain ⟨hP, hD⟩ := va_join (wr := []) (w1 := [(q_1, .inr (9, [.ref q_6, .ref q_8, .ref q_11, .int 0, .ref q_12, .ref q_17, .ref q_18, .ref q_21, .ref q_24, .ref q_27, .null, .null])), (q_6, .inr (7, [.ref q_7, .int 0, .int 0, .int 0, .int 0, .int 0, .int 0, .int 0])), (q_7, .inl (k_28, 400, .inl (fun _ => 0))), (q_8, .inr (6, [.ref q_9, .ref q_10, .int 0, .int 0])), (q_9, .inl (k_29, 400, .inl (fun _ => 0))), (q_10, .inl (k_30, 25, .inl (fun _ => 0))), (q_11, .inl (k_31, 6, .inr (.inr (.inr (.inr (fun _ => none)))))), (q_12, .inr (8, [.null, .int 0, .int 0, .int 0, .int 0, .ref q_13, .ref q_14, .ref q_15, .ref q_16])), (q_13, .inl (k_32, 10, .inl (fun _ => 0))), (q_14, .inl (k_33, 10, .inl (fun _ => 0))), (q_15, .inl (k_34, 10, .inl (fun _ => 0))), (q_16, .inl (k_35, 10, .inl (fun _ => (-1)))), (q_17, .inl (k_36, 4, .inr (.inr (.inr (.inr (fun _ => none)))))), (q_18, .inr (3, [.ref q_19, .ref q_20, .int 0, .int 0])), (q_19, .inl (k_37, 20, .inl (fun _ => 0))), (q_20, .inl (k_38, 20, .inl (fun _ => 0))), (q_21, .inr (0, [.ref q_22, .ref q_23, .int 0])), (q_22, .inl (k_39, 8, .inl (fun _ => 0))), (q_23, .inl (k_40, 72, .inl (fun _ => 0))), (q_24, .inr (1, [.ref q_25, .ref q_26, .int 0, .int 0, .int 0, .int 0])), (q_25, .inl (k_41, 8, .inl (fun _ => 0))), (q_26, .inl (k_42, 81, .inl (fun _ => 0))), (q_27, .inl (k_43, 12, .inl (fun _ => 0)))]) hP hD [0] [] rfl rfl (by decide) (by decide) hk1 hFc hP1 hD1
  have hK := (hK.sub (tys' := []) [] rfl).app hK1
  have hK : va_K D vwCl [(k_28, .char), (k_29, .int), (k_30, .int), (k_31, .object "WrongHole$Rule"), (k_32, .int), (k_33, .int), (k_34, .int), (k_35, .int), (k_36, .object "WrongHole$Worn"), (k_37, .int), (k_38, .int), (k_39, .int), (k_40, .int), (k_41, .int), (k_42, .int), (k_43, .int)] s := hK
  generalize H1 = H at hP hS ⊢
  have hP : va_P D vwCl [(q_1, .inr (9, [.ref q_6, .ref q_8, .ref q_11, .int 0, .ref q_12, .ref q_17, .ref q_18, .ref q_21, .ref q_24, .ref q_27, .null, .null])), (q_6, .inr (7, [.ref q_7, .int 0, .int 0, .int 0, .int 0, .int 0, .int 0, .int 0])), (q_7, .inl (k_28, 400, .inl (fun _ => 0))), (q_8, .inr (6, [.ref q_9, .ref q_10, .int 0, .int 0])), (q_9, .inl (k_29, 400, .inl (fun _ => 0))), (q_10, .inl (k_30, 25, .inl (fun _ => 0))), (q_11, .inl (k_31, 6, .inr (.inr (.inr (.inr (fun _ => none)))))), (q_12, .inr (8, [.null, .int 0, .int 0, .int 0, .int 0, .ref q_13, .ref q_14, .ref q_15, .ref q_16])), (q_13, .inl (k_32, 10, .inl (fun _ => 0))), (q_14, .inl (k_33, 10, .inl (fun _ => 0))), (q_15, .inl (k_34, 10, .inl (fun _ => 0))), (q_16, .inl (k_35, 10, .inl (fun _ => (-1)))), (q_17, .inl (k_36, 4, .inr (.inr (.inr (.inr (fun _ => none)))))), (q_18, .inr (3, [.ref q_19, .ref q_20, .int 0, .int 0])), (q_19, .inl (k_37, 20, .inl (fun _ => 0))), (q_20, .inl (k_38, 20, .inl (fun _ => 0))), (q_21, .inr (0, [.ref q_22, .ref q_23, .int 0])), (q_22, .inl (k_39, 8, .inl (fun _ => 0))), (q_23, .inl (k_40, 72, .inl (fun _ => 0))), (q_24, .inr (1, [.ref q_25, .ref q_26, .int 0, .int 0, .int 0, .int 0])), (q_25, .inl (k_41, 8, .inl (fun _ => 0))), (q_26, .inl (k_42, 81, .inl (fun _ => 0))), (q_27, .inl (k_43, 12, .inl (fun _ => 0)))] H := hP
  have hD : va_D A [(q_1, .inr (9, [.ref q_6, .ref q_8, .ref q_11, .int 0, .ref q_12, .ref q_17, .ref q_18, .ref q_21, .ref q_24, .ref q_27, .null, .null])), (q_6, .inr (7, [.ref q_7, .int 0, .int 0, .int 0, .int 0, .int 0, .int 0, .int 0])), (q_7, .inl (k_28, 400, .inl (fun _ => 0))), (q_8, .inr (6, [.ref q_9, .ref q_10, .int 0, .int 0])), (q_9, .inl (k_29, 400, .inl (fun _ => 0))), (q_10, .inl (k_30, 25, .inl (fun _ => 0))), (q_11, .inl (k_31, 6, .inr (.inr (.inr (.inr (fun _ => none)))))), (q_12, .inr (8, [.null, .int 0, .int 0, .int 0, .int 0, .ref q_13, .ref q_14, .ref q_15, .ref q_16])), (q_13, .inl (k_32, 10, .inl (fun _ => 0))), (q_14, .inl (k_33, 10, .inl (fun _ => 0))), (q_15, .inl (k_34, 10, .inl (fun _ => 0))), (q_16, .inl (k_35, 10, .inl (fun _ => (-1)))), (q_17, .inl (k_36, 4, .inr (.inr (.inr (.inr (fun _ => none)))))), (q_18, .inr (3, [.ref q_19, .ref q_20, .int 0, .int 0])), (q_19, .inl (k_37, 20, .inl (fun _ => 0))), (q_20, .inl (k_38, 20, .inl (fun _ => 0))), (q_21, .inr (0, [.ref q_22, .ref q_23, .int 0])), (q_22, .inl (k_39, 8, .inl (fun _ => 0))), (q_23, .inl (k_40, 72, .inl (fun _ => 0))), (q_24, .inr (1, [.ref q_25, .ref q_26, .int 0, .int 0, .int 0, .int 0])), (q_25, .inl (k_41, 8, .inl (fun _ => 0))), (q_26, .inl (k_42, 81, .inl (fun _ => 0))), (q_27, .inl (k_43, 12, .inl (fun _ => 0)))] := hD
  refine W.widen (k := 26) (n := 1142) (Nat.le_of_ble_eq_true rfl) (Nat.le_of_ble_eq_true rfl) ?_
  refine lv_astore_n (lv' := [(1, .ref q_1), (0, .ref b)]) hx hb dL_law_7 rfl hl (by decide) rfl (fun ls hl => ?_)
  refine va_new (ci := 10) (fs := [.null, .int 0, .int 0, .null, .null, .null, .null, .null, .int 0, .int 0, .int 0, .int 0, .int 0, .int 0, .int 0, .null, .int 0, .null, .int 0, .null, .null, .int 0, .null, .int 0, .null, .null, .null, .int 0, .int 0, .long 0, .null, .null, .null]) (C := "WrongHoleModel") (T := TX12) (N := 33) hx hb hts (iq_RX12 _) tyX12 tyX12_ok hown (hT _ qq_5_145) (hT _ qq_5_146) (hT _ qq_1_9) hK hP hD hS hA rfl (fv_RX12) (Nat.le_of_ble_eq_true rfl) (Nat.le_of_ble_eq_true rfl) dL_law_8 (fun q_44 H hP hD hS => ?_)
  have hP : va_P D vwCl [(q_1, .inr (9, [.ref q_6, .ref q_8, .ref q_11, .int 0, .ref q_12, .ref q_17, .ref q_18, .ref q_21, .ref q_24, .ref q_27, .null, .null])), (q_6, .inr (7, [.ref q_7, .int 0, .int 0, .int 0, .int 0, .int 0, .int 0, .int 0])), (q_7, .inl (k_28, 400, .inl (fun _ => 0))), (q_8, .inr (6, [.ref q_9, .ref q_10, .int 0, .int 0])), (q_9, .inl (k_29, 400, .inl (fun _ => 0))), (q_10, .inl (k_30, 25, .inl (fun _ => 0))), (q_11, .inl (k_31, 6, .inr (.inr (.inr (.inr (fun _ => none)))))), (q_12, .inr (8, [.null, .int 0, .int 0, .int 0, .int 0, .ref q_13, .ref q_14, .ref q_15, .ref q_16])), (q_13, .inl (k_32, 10, .inl (fun _ => 0))), (q_14, .inl (k_33, 10, .inl (fun _ => 0))), (q_15, .inl (k_34, 10, .inl (fun _ => 0))), (q_16, .inl (k_35, 10, .inl (fun _ => (-1)))), (q_17, .inl (k_36, 4, .inr (.inr (.inr (.inr (fun _ => none)))))), (q_18, .inr (3, [.ref q_19, .ref q_20, .int 0, .int 0])), (q_19, .inl (k_37, 20, .inl (fun _ => 0))), (q_20, .inl (k_38, 20, .inl (fun _ => 0))), (q_21, .inr (0, [.ref q_22, .ref q_23, .int 0])), (q_22, .inl (k_39, 8, .inl (fun _ => 0))), (q_23, .inl (k_40, 72, .inl (fun _ => 0))), (q_24, .inr (1, [.ref q_25, .ref q_26, .int 0, .int 0, .int 0, .int 0])), (q_25, .inl (k_41, 8, .inl (fun _ => 0))), (q_26, .inl (k_42, 81, .inl (fun _ => 0))), (q_27, .inl (k_43, 12, .inl (fun _ => 0))), (q_44, .inr (10, [.null, .int 0, .int 0, .null, .null, .null, .null, .null, .int 0, .int 0, .int 0, .int 0, .int 0, .int 0, .int 0, .null, .int 0, .null, .int 0, .null, .null, .int 0, .null, .int 0, .null, .null, .null, .int 0, .int 0, .long 0, .null, .null, .null]))] H := hP
  have hD : va_D A [(q_1, .inr (9, [.ref q_6, .ref q_8, .ref q_11, .int 0, .ref q_12, .ref q_17, .ref q_18, .ref q_21, .ref q_24, .ref q_27, .null, .null])), (q_6, .inr (7, [.ref q_7, .int 0, .int 0, .int 0, .int 0, .int 0, .int 0, .int 0])), (q_7, .inl (k_28, 400, .inl (fun _ => 0))), (q_8, .inr (6, [.ref q_9, .ref q_10, .int 0, .int 0])), (q_9, .inl (k_29, 400, .inl (fun _ => 0))), (q_10, .inl (k_30, 25, .inl (fun _ => 0))), (q_11, .inl (k_31, 6, .inr (.inr (.inr (.inr (fun _ => none)))))), (q_12, .inr (8, [.null, .int 0, .int 0, .int 0, .int 0, .ref q_13, .ref q_14, .ref q_15, .ref q_16])), (q_13, .inl (k_32, 10, .inl (fun _ => 0))), (q_14, .inl (k_33, 10, .inl (fun _ => 0))), (q_15, .inl (k_34, 10, .inl (fun _ => 0))), (q_16, .inl (k_35, 10, .inl (fun _ => (-1)))), (q_17, .inl (k_36, 4, .inr (.inr (.inr (.inr (fun _ => none)))))), (q_18, .inr (3, [.ref q_19, .ref q_20, .int 0, .int 0])), (q_19, .inl (k_37, 20, .inl (fun _ => 0))), (q_20, .inl (k_38, 20, .inl (fun _ => 0))), (q_21, .inr (0, [.ref q_22, .ref q_23, .int 0])), (q_22, .inl (k_39, 8, .inl (fun _ => 0))), (q_23, .inl (k_40, 72, .inl (fun _ => 0))), (q_24, .inr (1, [.ref q_25, .ref q_26, .int 0, .int 0, .int 0, .int 0])), (q_25, .inl (k_41, 8, .inl (fun _ => 0))), (q_26, .inl (k_42, 81, .inl (fun _ => 0))), (q_27, .inl (k_43, 12, .inl (fun _ => 0))), (q_44, .inr (10, [.null, .int 0, .int 0, .null, .null, .null, .null, .null, .int 0, .int 0, .int 0, .int 0, .int 0, .int 0, .int 0, .null, .int 0, .null, .int 0, .null, .null, .int 0, .null, .int 0, .null, .null, .null, .int 0, .int 0, .long 0, .null, .null, .null]))] := hD
  refine W.widen (k := 27) (n := 1175) (Nat.le_of_ble_eq_true rfl) (Nat.le_of_ble_eq_true rfl) ?_
  refine lv_dup hx hb dL_law_11 rfl ?_
  have hPc := hP.sub (ws' := [(q_44, .inr (10, [.null, .int 0, .int 0, .null, .null, .null, .null, .null, .int 0, .int 0, .int 0, .int 0, .int 0, .int 0, .int 0, .null, .int 0, .null, .int 0, .null, .null, .int 0, .null, .int 0, .null, .null, .null, .int 0, .int 0, .long 0, .null, .null, .null]))]) [23] rfl
  have hDc := hD.sub (ws' := [(q_44, .inr (10, [.null, .int 0, .int 0, .null, .null, .null, .null, .null, .int 0, .int 0, .int 0, .int 0, .int 0, .int 0, .int 0, .null, .int 0, .null, .int 0, .null, .null, .int 0, .null, .int 0, .null, .null, .null, .int 0, .int 0, .long 0, .null, .null, .null]))]) [23] (by decide) rfl
  have hKc := hK.sub (tys' := []) [] rfl
  have hFc := va_free (wc := [(q_44, .inr (10, [.null, .int 0, .int 0, .null, .null, .null, .null, .null, .int 0, .int 0, .int 0, .int 0, .int 0, .int 0, .int 0, .null, .int 0, .null, .int 0, .null, .null, .int 0, .null, .int 0, .null, .null, .null, .int 0, .int 0, .long 0, .null, .null, .null]))]) hD hS hA [23] rfl
  refine va_callv (va_runI (As := []) (rest := [.ref q_44]) ⟨hx, hb, hml, hown, hts⟩ (c_m_init l D ad H.size q_44) ⟨callB_of 0 hts (gd_C qq_5_149) rfl rfl rfl (hT _ qq_1_9) (hT _ qq_5_147) (by decide +kernel) (⟨Nat.le_of_ble_eq_true rfl, Nat.le_of_ble_eq_true rfl⟩), rfl, (hT _ qq_5_148)⟩ (pr_S hPc hKc hDc hN) rfl rfl hl.1 rfl (lv_room (Nat.le_of_ble_eq_true rfl)) dL_law_12 ⟨Nat.le_of_ble_eq_true rfl, Nat.le_of_ble_eq_true rfl⟩) hS (fun q _ h => hFc q h) hFc (fun u_45 t_48 H1 locs ht9 hvm hw_46 hB_47 hz1 hk1 hS => ?_)
  obtain ⟨q_49, q_50, q_51, q_52, q_53, q_54, q_55, q_56, q_57, q_58, q_59, q_60, q_61, q_62, q_63, q_64, q_65, k_66, k_67, k_68, k_69, k_70, k_71, k_72, k_73, k_74, k_75, k_76, k_77, k_78, k_79, k_80, k_81, k_82, hP1, hK1, hD1⟩ := hB_47
  rw [ht9] at hP1
  have hK1 := va_K.moved hvm.symm hK1
  obtain ⟨hP, hD⟩ := va_join (wr := [(q_1, .inr (9, [.ref q_6, .ref q_8, .ref q_11, .int 0, .ref q_12, .ref q_17, .ref q_18, .ref q_21, .ref q_24, .ref q_27, .null, .null])), (q_6, .inr (7, [.ref q_7, .int 0, .int 0, .int 0, .int 0, .int 0, .int 0, .int 0])), (q_7, .inl (k_28, 400, .inl (fun _ => 0))), (q_8, .inr (6, [.ref q_9, .ref q_10, .int 0, .int 0])), (q_9, .inl (k_29, 400, .inl (fun _ => 0))), (q_10, .inl (k_30, 25, .inl (fun _ => 0))), (q_11, .inl (k_31, 6, .inr (.inr (.inr (.inr (fun _ => none)))))), (q_12, .inr (8, [.null, .int 0, .int 0, .int 0, .int 0, .ref q_13, .ref q_14, .ref q_15, .ref q_16])), (q_13, .inl (k_32, 10, .inl (fun _ => 0))), (q_14, .inl (k_33, 10, .inl (fun _ => 0))), (q_15, .inl (k_34, 10, .inl (fun _ => 0))), (q_16, .inl (k_35, 10, .inl (fun _ => (-1)))), (q_17, .inl (k_36, 4, .inr (.inr (.inr (.inr (fun _ => none)))))), (q_18, .inr (3, [.ref q_19, .ref q_20, .int 0, .int 0])), (q_19, .inl (k_37, 20, .inl (fun _ => 0))), (q_20, .inl (k_38, 20, .inl (fun _ => 0))), (q_21, .inr (0, [.ref q_22, .ref q_23, .int 0])), (q_22, .inl (k_39, 8, .inl (fun _ => 0))), (q_23, .inl (k_40, 72, .inl (fun _ => 0))), (q_24, .inr (1, [.ref q_25, .ref q_26, .int 0, .int 0, .int 0, .int 0])), (q_25, .inl (k_41, 8, .inl (fun _ => 0))), (q_26, .inl (k_42, 81, .inl (fun _ => 0))), (q_27, .inl (k_43, 12, .inl (fun _ => 0)))]) (w1 := [(q_44, .inr (10, [.ref q_49, .int 0, .int 0, .ref q_50, .ref q_51, .ref q_52, .ref q_53, .ref q_54, .int 0, .int 0, .int 0, .int 0, .int 0, .int 0, .int 0, .ref q_55, .int 0, .ref q_56, .int 0, .ref q_57, .ref q_58, .int 0, .ref q_59, .int 0, .ref q_60, .ref q_61, .ref q_62, .int 0, .int 0, .long 0, .ref q_63, .ref q_64, .ref q_65])), (q_49, .inl (k_66, 400, .inl (fun _ => 0))), (q_50, .inl (k_67, 2400, .inl (fun _ => 0))), (q_51, .inl (k_68, 7, .inl (fun _ => 0))), (q_52, .inl (k_69, 288, .inl (fun _ => 0))), (q_53, .inl (k_70, 6, .inl (fun _ => 0))), (q_54, .inl (k_71, 92, .inl (fun _ => 0))), (q_55, .inl (k_72, 400, .inl (fun _ => 0))), (q_56, .inl (k_73, 64, .inr (.inl (fun _ => 0)))), (q_57, .inl (k_74, 12, .inr (.inl (fun _ => 0)))), (q_58, .inl (k_75, 133, .inl sd0)), (q_59, .inl (k_76, 180, .inl (fun _ => 0))), (q_60, .inl (k_77, 65536, .inl (fun _ => 0))), (q_61, .inl (k_78, 65536, .inl (fun _ => 0))), (q_62, .inl (k_79, 65536, .inl (fun _ => 0))), (q_63, .inl (k_80, 532, .inl (fun _ => 0))), (q_64, .inl (k_81, 4, .inl (fun _ => 0))), (q_65, .inl (k_82, 4, .inl (fun _ => 0)))]) hP hD [23] [0, 1, 2, 3, 4, 5, 6, 7, 8, 9, 10, 11, 12, 13, 14, 15, 16, 17, 18, 19, 20, 21, 22] rfl rfl (by decide) (by decide) hk1 hFc hP1 hD1
  have hK := (hK.sub (tys' := [(k_28, .char), (k_29, .int), (k_30, .int), (k_31, .object "WrongHole$Rule"), (k_32, .int), (k_33, .int), (k_34, .int), (k_35, .int), (k_36, .object "WrongHole$Worn"), (k_37, .int), (k_38, .int), (k_39, .int), (k_40, .int), (k_41, .int), (k_42, .int), (k_43, .int)]) [0, 1, 2, 3, 4, 5, 6, 7, 8, 9, 10, 11, 12, 13, 14, 15] rfl).app hK1
  have hK : va_K D vwCl [(k_28, .char), (k_29, .int), (k_30, .int), (k_31, .object "WrongHole$Rule"), (k_32, .int), (k_33, .int), (k_34, .int), (k_35, .int), (k_36, .object "WrongHole$Worn"), (k_37, .int), (k_38, .int), (k_39, .int), (k_40, .int), (k_41, .int), (k_42, .int), (k_43, .int), (k_66, .byte), (k_67, .int), (k_68, .int), (k_69, .int), (k_70, .int), (k_71, .int), (k_72, .int), (k_73, .long), (k_74, .long), (k_75, .int), (k_76, .int), (k_77, .int), (k_78, .int), (k_79, .boolean), (k_80, .int), (k_81, .int), (k_82, .boolean)] s := hK
  generalize H1 = H at hP hS ⊢
  have hP : va_P D vwCl [(q_1, .inr (9, [.ref q_6, .ref q_8, .ref q_11, .int 0, .ref q_12, .ref q_17, .ref q_18, .ref q_21, .ref q_24, .ref q_27, .null, .null])), (q_6, .inr (7, [.ref q_7, .int 0, .int 0, .int 0, .int 0, .int 0, .int 0, .int 0])), (q_7, .inl (k_28, 400, .inl (fun _ => 0))), (q_8, .inr (6, [.ref q_9, .ref q_10, .int 0, .int 0])), (q_9, .inl (k_29, 400, .inl (fun _ => 0))), (q_10, .inl (k_30, 25, .inl (fun _ => 0))), (q_11, .inl (k_31, 6, .inr (.inr (.inr (.inr (fun _ => none)))))), (q_12, .inr (8, [.null, .int 0, .int 0, .int 0, .int 0, .ref q_13, .ref q_14, .ref q_15, .ref q_16])), (q_13, .inl (k_32, 10, .inl (fun _ => 0))), (q_14, .inl (k_33, 10, .inl (fun _ => 0))), (q_15, .inl (k_34, 10, .inl (fun _ => 0))), (q_16, .inl (k_35, 10, .inl (fun _ => (-1)))), (q_17, .inl (k_36, 4, .inr (.inr (.inr (.inr (fun _ => none)))))), (q_18, .inr (3, [.ref q_19, .ref q_20, .int 0, .int 0])), (q_19, .inl (k_37, 20, .inl (fun _ => 0))), (q_20, .inl (k_38, 20, .inl (fun _ => 0))), (q_21, .inr (0, [.ref q_22, .ref q_23, .int 0])), (q_22, .inl (k_39, 8, .inl (fun _ => 0))), (q_23, .inl (k_40, 72, .inl (fun _ => 0))), (q_24, .inr (1, [.ref q_25, .ref q_26, .int 0, .int 0, .int 0, .int 0])), (q_25, .inl (k_41, 8, .inl (fun _ => 0))), (q_26, .inl (k_42, 81, .inl (fun _ => 0))), (q_27, .inl (k_43, 12, .inl (fun _ => 0))), (q_44, .inr (10, [.ref q_49, .int 0, .int 0, .ref q_50, .ref q_51, .ref q_52, .ref q_53, .ref q_54, .int 0, .int 0, .int 0, .int 0, .int 0, .int 0, .int 0, .ref q_55, .int 0, .ref q_56, .int 0, .ref q_57, .ref q_58, .int 0, .ref q_59, .int 0, .ref q_60, .ref q_61, .ref q_62, .int 0, .int 0, .long 0, .ref q_63, .ref q_64, .ref q_65])), (q_49, .inl (k_66, 400, .inl (fun _ => 0))), (q_50, .inl (k_67, 2400, .inl (fun _ => 0))), (q_51, .inl (k_68, 7, .inl (fun _ => 0))), (q_52, .inl (k_69, 288, .inl (fun _ => 0))), (q_53, .inl (k_70, 6, .inl (fun _ => 0))), (q_54, .inl (k_71, 92, .inl (fun _ => 0))), (q_55, .inl (k_72, 400, .inl (fun _ => 0))), (q_56, .inl (k_73, 64, .inr (.inl (fun _ => 0)))), (q_57, .inl (k_74, 12, .inr (.inl (fun _ => 0)))), (q_58, .inl (k_75, 133, .inl sd0)), (q_59, .inl (k_76, 180, .inl (fun _ => 0))), (q_60, .inl (k_77, 65536, .inl (fun _ => 0))), (q_61, .inl (k_78, 65536, .inl (fun _ => 0))), (q_62, .inl (k_79, 65536, .inl (fun _ => 0))), (q_63, .inl (k_80, 532, .inl (fun _ => 0))), (q_64, .inl (k_81, 4, .inl (fun _ => 0))), (q_65, .inl (k_82, 4, .inl (fun _ => 0)))] H := hP
  have hD : va_D A [(q_1, .inr (9, [.ref q_6, .ref q_8, .ref q_11, .int 0, .ref q_12, .ref q_17, .ref q_18, .ref q_21, .ref q_24, .ref q_27, .null, .null])), (q_6, .inr (7, [.ref q_7, .int 0, .int 0, .int 0, .int 0, .int 0, .int 0, .int 0])), (q_7, .inl (k_28, 400, .inl (fun _ => 0))), (q_8, .inr (6, [.ref q_9, .ref q_10, .int 0, .int 0])), (q_9, .inl (k_29, 400, .inl (fun _ => 0))), (q_10, .inl (k_30, 25, .inl (fun _ => 0))), (q_11, .inl (k_31, 6, .inr (.inr (.inr (.inr (fun _ => none)))))), (q_12, .inr (8, [.null, .int 0, .int 0, .int 0, .int 0, .ref q_13, .ref q_14, .ref q_15, .ref q_16])), (q_13, .inl (k_32, 10, .inl (fun _ => 0))), (q_14, .inl (k_33, 10, .inl (fun _ => 0))), (q_15, .inl (k_34, 10, .inl (fun _ => 0))), (q_16, .inl (k_35, 10, .inl (fun _ => (-1)))), (q_17, .inl (k_36, 4, .inr (.inr (.inr (.inr (fun _ => none)))))), (q_18, .inr (3, [.ref q_19, .ref q_20, .int 0, .int 0])), (q_19, .inl (k_37, 20, .inl (fun _ => 0))), (q_20, .inl (k_38, 20, .inl (fun _ => 0))), (q_21, .inr (0, [.ref q_22, .ref q_23, .int 0])), (q_22, .inl (k_39, 8, .inl (fun _ => 0))), (q_23, .inl (k_40, 72, .inl (fun _ => 0))), (q_24, .inr (1, [.ref q_25, .ref q_26, .int 0, .int 0, .int 0, .int 0])), (q_25, .inl (k_41, 8, .inl (fun _ => 0))), (q_26, .inl (k_42, 81, .inl (fun _ => 0))), (q_27, .inl (k_43, 12, .inl (fun _ => 0))), (q_44, .inr (10, [.ref q_49, .int 0, .int 0, .ref q_50, .ref q_51, .ref q_52, .ref q_53, .ref q_54, .int 0, .int 0, .int 0, .int 0, .int 0, .int 0, .int 0, .ref q_55, .int 0, .ref q_56, .int 0, .ref q_57, .ref q_58, .int 0, .ref q_59, .int 0, .ref q_60, .ref q_61, .ref q_62, .int 0, .int 0, .long 0, .ref q_63, .ref q_64, .ref q_65])), (q_49, .inl (k_66, 400, .inl (fun _ => 0))), (q_50, .inl (k_67, 2400, .inl (fun _ => 0))), (q_51, .inl (k_68, 7, .inl (fun _ => 0))), (q_52, .inl (k_69, 288, .inl (fun _ => 0))), (q_53, .inl (k_70, 6, .inl (fun _ => 0))), (q_54, .inl (k_71, 92, .inl (fun _ => 0))), (q_55, .inl (k_72, 400, .inl (fun _ => 0))), (q_56, .inl (k_73, 64, .inr (.inl (fun _ => 0)))), (q_57, .inl (k_74, 12, .inr (.inl (fun _ => 0)))), (q_58, .inl (k_75, 133, .inl sd0)), (q_59, .inl (k_76, 180, .inl (fun _ => 0))), (q_60, .inl (k_77, 65536, .inl (fun _ => 0))), (q_61, .inl (k_78, 65536, .inl (fun _ => 0))), (q_62, .inl (k_79, 65536, .inl (fun _ => 0))), (q_63, .inl (k_80, 532, .inl (fun _ => 0))), (q_64, .inl (k_81, 4, .inl (fun _ => 0))), (q_65, .inl (k_82, 4, .inl (fun _ => 0)))] := hD
  refine W.widen (k := 44) (n := 202305) (Nat.le_of_ble_eq_true rfl) (Nat.le_of_ble_eq_true rfl) ?_
  refine lv_astore_n (lv' := [(2, .ref q_44), (1, .ref q_1), (0, .ref b)]) hx hb dL_law_15 rfl hl (by decide) rfl (fun ls hl => ?_)
  refine lv_iconst (v := 0) hx hb dL_law_16 (by decide) ?_
  refine lv_istore_n (lv' := [(3, .int 0), (2, .ref q_44), (1, .ref q_1), (0, .ref b)]) hx hb dL_law_17 rfl hl (by decide) rfl (fun ls hl => ?_)
  have hL7 : L = 0 ∨ L = 1 ∨ L = 2 ∨ L = 3 ∨ L = 4 ∨ L = 5 ∨ L = 6 := by omega
  rcases hL7 with rfl | rfl | rfl | rfl | rfl | rfl | rfl
  · refine lv_iload_n hx hb dL_law_18 rfl (lv_at hl 0 rfl) ?_
    refine lv_aload_n hx hb dL_law_19 rfl (lv_at hl 3 rfl) ?_
    refine va_slen hx hb hX hbl hbA hS dL_law_20 ?_
    refine tc_i 0 rfl ?_
    refine lv_bipush (v := 6) hx hb dL_law_21 (by decide) ?_
    refine lv_isub hx hb dL_law_23 ?_
    refine tc_i (-6) (by decide) ?_
    refine lv_icmp_gt (tgt := 1031) hx hb dL_law_24 (by decide) (fun _ => ?_) (fun c_83 => absurd (by decide) c_83)
    refine lv_iconst (v := 1) hx hb dL_law_1031 (by decide) ?_
    refine va_forget (fun q h => by have h9 := hS.2.2 q h; rw [hAe] at h9; exact h9) ?_
    refine W.widen (k := 600000) (n := 7302250) (Nat.le_of_ble_eq_true rfl) (Nat.le_of_ble_eq_true rfl) ?_
    exact lw_ret hx hb hr hlocks dL_law_1032
  · refine lv_iload_n hx hb dL_law_18 rfl (lv_at hl 0 rfl) ?_
    refine lv_aload_n hx hb dL_law_19 rfl (lv_at hl 3 rfl) ?_
    refine va_slen hx hb hX hbl hbA hS dL_law_20 ?_
    refine tc_i 1 rfl ?_
    refine lv_bipush (v := 6) hx hb dL_law_21 (by decide) ?_
    refine lv_isub hx hb dL_law_23 ?_
    refine tc_i (-5) (by decide) ?_
    refine lv_icmp_gt (tgt := 1031) hx hb dL_law_24 (by decide) (fun _ => ?_) (fun c_84 => absurd (by decide) c_84)
    refine lv_iconst (v := 1) hx hb dL_law_1031 (by decide) ?_
    refine va_forget (fun q h => by have h9 := hS.2.2 q h; rw [hAe] at h9; exact h9) ?_
    refine W.widen (k := 600000) (n := 7302250) (Nat.le_of_ble_eq_true rfl) (Nat.le_of_ble_eq_true rfl) ?_
    exact lw_ret hx hb hr hlocks dL_law_1032
  · refine lv_iload_n hx hb dL_law_18 rfl (lv_at hl 0 rfl) ?_
    refine lv_aload_n hx hb dL_law_19 rfl (lv_at hl 3 rfl) ?_
    refine va_slen hx hb hX hbl hbA hS dL_law_20 ?_
    refine tc_i 2 rfl ?_
    refine lv_bipush (v := 6) hx hb dL_law_21 (by decide) ?_
    refine lv_isub hx hb dL_law_23 ?_
    refine tc_i (-4) (by decide) ?_
    refine lv_icmp_gt (tgt := 1031) hx hb dL_law_24 (by decide) (fun _ => ?_) (fun c_85 => absurd (by decide) c_85)
    refine lv_iconst (v := 1) hx hb dL_law_1031 (by decide) ?_
    refine va_forget (fun q h => by have h9 := hS.2.2 q h; rw [hAe] at h9; exact h9) ?_
    refine W.widen (k := 600000) (n := 7302250) (Nat.le_of_ble_eq_true rfl) (Nat.le_of_ble_eq_true rfl) ?_
    exact lw_ret hx hb hr hlocks dL_law_1032
  · refine lv_iload_n hx hb dL_law_18 rfl (lv_at hl 0 rfl) ?_
    refine lv_aload_n hx hb dL_law_19 rfl (lv_at hl 3 rfl) ?_
    refine va_slen hx hb hX hbl hbA hS dL_law_20 ?_
    refine tc_i 3 rfl ?_
    refine lv_bipush (v := 6) hx hb dL_law_21 (by decide) ?_
    refine lv_isub hx hb dL_law_23 ?_
    refine tc_i (-3) (by decide) ?_
    refine lv_icmp_gt (tgt := 1031) hx hb dL_law_24 (by decide) (fun _ => ?_) (fun c_86 => absurd (by decide) c_86)
    refine lv_iconst (v := 1) hx hb dL_law_1031 (by decide) ?_
    refine va_forget (fun q h => by have h9 := hS.2.2 q h; rw [hAe] at h9; exact h9) ?_
    refine W.widen (k := 600000) (n := 7302250) (Nat.le_of_ble_eq_true rfl) (Nat.le_of_ble_eq_true rfl) ?_
    exact lw_ret hx hb hr hlocks dL_law_1032
  · refine lv_iload_n hx hb dL_law_18 rfl (lv_at hl 0 rfl) ?_
    refine lv_aload_n hx hb dL_law_19 rfl (lv_at hl 3 rfl) ?_
    refine va_slen hx hb hX hbl hbA hS dL_law_20 ?_
    refine tc_i 4 rfl ?_
    refine lv_bipush (v := 6) hx hb dL_law_21 (by decide) ?_
    refine lv_isub hx hb dL_law_23 ?_
    refine tc_i (-2) (by decide) ?_
    refine lv_icmp_gt (tgt := 1031) hx hb dL_law_24 (by decide) (fun _ => ?_) (fun c_87 => absurd (by decide) c_87)
    refine lv_iconst (v := 1) hx hb dL_law_1031 (by decide) ?_
    refine va_forget (fun q h => by have h9 := hS.2.2 q h; rw [hAe] at h9; exact h9) ?_
    refine W.widen (k := 600000) (n := 7302250) (Nat.le_of_ble_eq_true rfl) (Nat.le_of_ble_eq_true rfl) ?_
    exact lw_ret hx hb hr hlocks dL_law_1032
  · refine lv_iload_n hx hb dL_law_18 rfl (lv_at hl 0 rfl) ?_
    refine lv_aload_n hx hb dL_law_19 rfl (lv_at hl 3 rfl) ?_
    refine va_slen hx hb hX hbl hbA hS dL_law_20 ?_
    refine tc_i 5 rfl ?_
    refine lv_bipush (v := 6) hx hb dL_law_21 (by decide) ?_
    refine lv_isub hx hb dL_law_23 ?_
    refine tc_i (-1) (by decide) ?_
    refine lv_icmp_gt (tgt := 1031) hx hb dL_law_24 (by decide) (fun _ => ?_) (fun c_88 => absurd (by decide) c_88)
    refine lv_iconst (v := 1) hx hb dL_law_1031 (by decide) ?_
    refine va_forget (fun q h => by have h9 := hS.2.2 q h; rw [hAe] at h9; exact h9) ?_
    refine W.widen (k := 600000) (n := 7302250) (Nat.le_of_ble_eq_true rfl) (Nat.le_of_ble_eq_true rfl) ?_
    exact lw_ret hx hb hr hlocks dL_law_1032
  · refine lv_iload_n hx hb dL_law_18 rfl (lv_at hl 0 rfl) ?_
    refine lv_aload_n hx hb dL_law_19 rfl (lv_at hl 3 rfl) ?_
    refine va_slen hx hb hX hbl hbA hS dL_law_20 ?_
    refine tc_i 6 rfl ?_
    refine lv_bipush (v := 6) hx hb dL_law_21 (by decide) ?_
    refine lv_isub hx hb dL_law_23 ?_
    refine tc_i 0 (by decide) ?_
    refine lv_icmp_gt (tgt := 1031) hx hb dL_law_24 (by decide) (fun c_89 => absurd c_89 (by decide)) (fun _ => ?_)
    refine lv_aload_n hx hb dL_law_27 rfl (lv_at hl 3 rfl) ?_
    refine lv_iload_n hx hb dL_law_28 rfl (lv_at hl 0 rfl) ?_
    refine va_sld hx hb hX hbl hbA hS (vi_c rfl) dL_law_29 ?_
    refine tc_i (xs 0) rfl ?_
    refine lv_bipush (v := 31) hx hb dL_law_30 (by decide) ?_
    refine lv_iand hx hb dL_law_32 ?_
    refine lv_topi (fun x_90 e_91 => ?_)
    by_cases c_92 : Int32.toInt x_90 < 0 ∨ 30 < Int32.toInt x_90
    · refine lv_tableOut (tgt := 1025) hx hb dL_law_33 c_92 (by decide) ?_
      refine lv_iinc (v := 6) (lv' := [(3, .int 6), (2, .ref q_44), (1, .ref q_1), (0, .ref b)]) hx hb dL_law_1025 hl (k := 0) rfl (by decide) (by decide) rfl (fun ls hl => ?_)
      refine lv_goto (tgt := 18) hx hb dL_law_1028 (by decide) ?_
      refine lv_iload_n hx hb dL_law_18 rfl (lv_at hl 0 rfl) ?_
      refine lv_aload_n hx hb dL_law_19 rfl (lv_at hl 3 rfl) ?_
      refine va_slen hx hb hX hbl hbA hS dL_law_20 ?_
      refine tc_i 6 rfl ?_
      refine lv_bipush (v := 6) hx hb dL_law_21 (by decide) ?_
      refine lv_isub hx hb dL_law_23 ?_
      refine tc_i 0 (by decide) ?_
      refine lv_icmp_gt (tgt := 1031) hx hb dL_law_24 (by decide) (fun _ => ?_) (fun c_93 => absurd (by decide) c_93)
      refine lv_iconst (v := 1) hx hb dL_law_1031 (by decide) ?_
      refine va_forget (fun q h => by have h9 := hS.2.2 q h; rw [hAe] at h9; exact h9) ?_
      refine W.widen (k := 600000) (n := 7302250) (Nat.le_of_ble_eq_true rfl) (Nat.le_of_ble_eq_true rfl) ?_
      exact lw_ret hx hb hr hlocks dL_law_1032
    · have hsw : x_90 = 0 ∨ x_90 = 1 ∨ x_90 = 2 ∨ x_90 = 3 ∨ x_90 = 4 ∨ x_90 = 5 ∨ x_90 = 6 ∨ x_90 = 7 ∨ x_90 = 8 ∨ x_90 = 9 ∨ x_90 = 10 ∨ x_90 = 11 ∨ x_90 = 12 ∨ x_90 = 13 ∨ x_90 = 14 ∨ x_90 = 15 ∨ x_90 = 16 ∨ x_90 = 17 ∨ x_90 = 18 ∨ x_90 = 19 ∨ x_90 = 20 ∨ x_90 = 21 ∨ x_90 = 22 ∨ x_90 = 23 ∨ x_90 = 24 ∨ x_90 = 25 ∨ x_90 = 26 ∨ x_90 = 27 ∨ x_90 = 28 ∨ x_90 = 29 ∨ x_90 = 30 := by
        have h9 : ∀ v : Int32, ¬ (Int32.toInt v < 0 ∨ 30 < Int32.toInt v) → v = 0 ∨ v = 1 ∨ v = 2 ∨ v = 3 ∨ v = 4 ∨ v = 5 ∨ v = 6 ∨ v = 7 ∨ v = 8 ∨ v = 9 ∨ v = 10 ∨ v = 11 ∨ v = 12 ∨ v = 13 ∨ v = 14 ∨ v = 15 ∨ v = 16 ∨ v = 17 ∨ v = 18 ∨ v = 19 ∨ v = 20 ∨ v = 21 ∨ v = 22 ∨ v = 23 ∨ v = 24 ∨ v = 25 ∨ v = 26 ∨ v = 27 ∨ v = 28 ∨ v = 29 ∨ v = 30 := fun v hv => by
          simp only [← Int32.toInt_inj]
          have h8 : ∀ n : Int32, True := fun _ => trivial
          simp (config := { decide := true }) only [show Int32.toInt 0 = 0 from rfl, show Int32.toInt 1 = 1 from rfl, show Int32.toInt 2 = 2 from rfl, show Int32.toInt 3 = 3 from rfl, show Int32.toInt 4 = 4 from rfl, show Int32.toInt 5 = 5 from rfl, show Int32.toInt 6 = 6 from rfl, show Int32.toInt 7 = 7 from rfl, show Int32.toInt 8 = 8 from rfl, show Int32.toInt 9 = 9 from rfl, show Int32.toInt 10 = 10 from rfl, show Int32.toInt 11 = 11 from rfl, show Int32.toInt 12 = 12 from rfl, show Int32.toInt 13 = 13 from rfl, show Int32.toInt 14 = 14 from rfl, show Int32.toInt 15 = 15 from rfl, show Int32.toInt 16 = 16 from rfl, show Int32.toInt 17 = 17 from rfl, show Int32.toInt 18 = 18 from rfl, show Int32.toInt 19 = 19 from rfl, show Int32.toInt 20 = 20 from rfl, show Int32.toInt 21 = 21 from rfl, show Int32.toInt 22 = 22 from rfl, show Int32.toInt 23 = 23 from rfl, show Int32.toInt 24 = 24 from rfl, show Int32.toInt 25 = 25 from rfl, show Int32.toInt 26 = 26 from rfl, show Int32.toInt 27 = 27 from rfl, show Int32.toInt 28 = 28 from rfl, show Int32.toInt 29 = 29 from rfl, show Int32.toInt 30 = 30 from rfl]
          omega
        exact h9 _ c_92
      rcases hsw with hsw | hsw | hsw | hsw | hsw | hsw | hsw | hsw | hsw | hsw | hsw | hsw | hsw | hsw | hsw | hsw | hsw | hsw | hsw | hsw | hsw | hsw | hsw | hsw | hsw | hsw | hsw | hsw | hsw | hsw | hsw
      · subst hsw
        refine lv_tableIn (tgt := 172) hx hb dL_law_33 (by decide) (by decide) rfl (by decide) ?_
        have hP := hP.sub (ws' := [(q_1, .inr (9, [.ref q_6, .ref q_8, .ref q_11, .int 0, .ref q_12, .ref q_17, .ref q_18, .ref q_21, .ref q_24, .ref q_27, .null, .null])), (q_6, .inr (7, [.ref q_7, .int 0, .int 0, .int 0, .int 0, .int 0, .int 0, .int 0])), (q_7, .inl (k_28, 400, .inl (fun _ => 0))), (q_44, .inr (10, [.ref q_49, .int 0, .int 0, .ref q_50, .ref q_51, .ref q_52, .ref q_53, .ref q_54, .int 0, .int 0, .int 0, .int 0, .int 0, .int 0, .int 0, .ref q_55, .int 0, .ref q_56, .int 0, .ref q_57, .ref q_58, .int 0, .ref q_59, .int 0, .ref q_60, .ref q_61, .ref q_62, .int 0, .int 0, .long 0, .ref q_63, .ref q_64, .ref q_65])), (q_49, .inl (k_66, 400, .inl (fun _ => 0)))]) [0, 1, 2, 23, 24] rfl
        have hD := hD.sub (ws' := [(q_1, .inr (9, [.ref q_6, .ref q_8, .ref q_11, .int 0, .ref q_12, .ref q_17, .ref q_18, .ref q_21, .ref q_24, .ref q_27, .null, .null])), (q_6, .inr (7, [.ref q_7, .int 0, .int 0, .int 0, .int 0, .int 0, .int 0, .int 0])), (q_7, .inl (k_28, 400, .inl (fun _ => 0))), (q_44, .inr (10, [.ref q_49, .int 0, .int 0, .ref q_50, .ref q_51, .ref q_52, .ref q_53, .ref q_54, .int 0, .int 0, .int 0, .int 0, .int 0, .int 0, .int 0, .ref q_55, .int 0, .ref q_56, .int 0, .ref q_57, .ref q_58, .int 0, .ref q_59, .int 0, .ref q_60, .ref q_61, .ref q_62, .int 0, .int 0, .long 0, .ref q_63, .ref q_64, .ref q_65])), (q_49, .inl (k_66, 400, .inl (fun _ => 0)))]) [0, 1, 2, 23, 24] (by decide) rfl
        have hK := hK.sub (tys' := [(k_28, .char), (k_66, .byte)]) [0, 16] rfl
        refine lv_aload_n hx hb dL_law_172 rfl (lv_at hl 2 rfl) ?_
        refine lv_aload_n hx hb dL_law_173 rfl (lv_at hl 3 rfl) ?_
        refine lv_iload_n hx hb dL_law_174 rfl (lv_at hl 0 rfl) ?_
        refine lv_iconst (v := 1) hx hb dL_law_175 (by decide) ?_
        refine lv_iadd hx hb dL_law_176 ?_
        refine tc_i 1 (by decide) ?_
        refine va_sld hx hb hX hbl hbA hS (vi_c rfl) dL_law_177 ?_
        refine tc_i (xs 1) rfl ?_
        refine lv_aload_n hx hb dL_law_178 rfl (lv_at hl 3 rfl) ?_
        refine lv_iload_n hx hb dL_law_179 rfl (lv_at hl 0 rfl) ?_
        refine lv_iconst (v := 2) hx hb dL_law_180 (by decide) ?_
        refine lv_iadd hx hb dL_law_181 ?_
        refine tc_i 2 (by decide) ?_
        refine va_sld hx hb hX hbl hbA hS (vi_c rfl) dL_law_182 ?_
        refine tc_i (xs 2) rfl ?_
        refine lv_aload_n hx hb dL_law_183 rfl (lv_at hl 3 rfl) ?_
        refine lv_iload_n hx hb dL_law_184 rfl (lv_at hl 0 rfl) ?_
        refine lv_iconst (v := 3) hx hb dL_law_185 (by decide) ?_
        refine lv_iadd hx hb dL_law_186 ?_
        refine tc_i 3 (by decide) ?_
        refine va_sld hx hb hX hbl hbA hS (vi_c rfl) dL_law_187 ?_
        refine tc_i (xs 3) rfl ?_
        refine lv_aload_n hx hb dL_law_188 rfl (lv_at hl 3 rfl) ?_
        refine lv_iload_n hx hb dL_law_189 rfl (lv_at hl 0 rfl) ?_
        refine lv_iconst (v := 4) hx hb dL_law_190 (by decide) ?_
        refine lv_iadd hx hb dL_law_191 ?_
        refine tc_i 4 (by decide) ?_
        refine va_sld hx hb hX hbl hbA hS (vi_c rfl) dL_law_192 ?_
        refine tc_i (xs 4) rfl ?_
        refine lv_aload_n hx hb dL_law_193 rfl (lv_at hl 3 rfl) ?_
        refine lv_iload_n hx hb dL_law_194 rfl (lv_at hl 0 rfl) ?_
        refine lv_iconst (v := 5) hx hb dL_law_195 (by decide) ?_
        refine lv_iadd hx hb dL_law_196 ?_
        refine tc_i 5 (by decide) ?_
        refine va_sld hx hb hX hbl hbA hS (vi_c rfl) dL_law_197 ?_
        refine tc_i (xs 5) rfl ?_
        have hPc := hP.sub (ws' := [(q_1, .inr (9, [.ref q_6, .ref q_8, .ref q_11, .int 0, .ref q_12, .ref q_17, .ref q_18, .ref q_21, .ref q_24, .ref q_27, .null, .null])), (q_6, .inr (7, [.ref q_7, .int 0, .int 0, .int 0, .int 0, .int 0, .int 0, .int 0])), (q_7, .inl (k_28, 400, .inl (fun _ => 0)))]) [0, 1, 2] rfl
        have hDc := hD.sub (ws' := [(q_1, .inr (9, [.ref q_6, .ref q_8, .ref q_11, .int 0, .ref q_12, .ref q_17, .ref q_18, .ref q_21, .ref q_24, .ref q_27, .null, .null])), (q_6, .inr (7, [.ref q_7, .int 0, .int 0, .int 0, .int 0, .int 0, .int 0, .int 0])), (q_7, .inl (k_28, 400, .inl (fun _ => 0)))]) [0, 1, 2] (by decide) rfl
        have hKc := hK.sub (tys' := [(k_28, .char)]) [0] rfl
        have hFc := va_free (wc := [(q_1, .inr (9, [.ref q_6, .ref q_8, .ref q_11, .int 0, .ref q_12, .ref q_17, .ref q_18, .ref q_21, .ref q_24, .ref q_27, .null, .null])), (q_6, .inr (7, [.ref q_7, .int 0, .int 0, .int 0, .int 0, .int 0, .int 0, .int 0])), (q_7, .inl (k_28, 400, .inl (fun _ => 0)))]) hD hS hA [0, 1, 2] rfl
        refine va_calli (va_runV (As := [.int (xs 1), .int (xs 2), .int (xs 3), .int (xs 4), .int (xs 5)]) (rest := []) ⟨hx, hb, hml, hown, hts⟩ (c_x_feed l D ad H.size q_1 q_6 q_8 q_11 q_12 q_17 q_18 q_21 q_24 q_27 q_7 k_28 (fun _ => 0) (xs 1) (xs 2) (xs 3) (xs 4) (xs 5)) ⟨callB_of 5 hts (gd_C qq_2_2) rfl rfl rfl (hT _ qq_1_1) (hT _ qq_1_239) (by decide +kernel) (⟨Nat.le_of_ble_eq_true rfl, Nat.le_of_ble_eq_true rfl⟩), (hT _ qq_2_0), (hT _ qq_2_1)⟩ (pr_V hPc hKc hDc hN (ci := 9) (q0 := 0) rfl rfl) rfl rfl hl.1 rfl (lv_room (Nat.le_of_ble_eq_true rfl)) dL_law_198 ⟨Nat.le_of_ble_eq_true rfl, Nat.le_of_ble_eq_true rfl⟩) hS (fun q _ h => hFc q h) hFc (fun r_98 u_94 t_97 H1 locs ht9 hvm hw_95 hB_96 hz1 hk1 hS => ?_)
        have hP1 : va_P D vwCl [] H1 := fun k q h => by simp at h
        have hD1 : va_D (va_A [(q_1, .inr (9, [.ref q_6, .ref q_8, .ref q_11, .int 0, .ref q_12, .ref q_17, .ref q_18, .ref q_21, .ref q_24, .ref q_27, .null, .null])), (q_6, .inr (7, [.ref q_7, .int 0, .int 0, .int 0, .int 0, .int 0, .int 0, .int 0])), (q_7, .inl (k_28, 400, .inl (fun _ => 0)))] H.size) [] := ⟨fun i j p q h => by simp at h, fun k q h => by simp at h⟩
        obtain ⟨hP, hD⟩ := va_join (wr := [(q_44, .inr (10, [.ref q_49, .int 0, .int 0, .ref q_50, .ref q_51, .ref q_52, .ref q_53, .ref q_54, .int 0, .int 0, .int 0, .int 0, .int 0, .int 0, .int 0, .ref q_55, .int 0, .ref q_56, .int 0, .ref q_57, .ref q_58, .int 0, .ref q_59, .int 0, .ref q_60, .ref q_61, .ref q_62, .int 0, .int 0, .long 0, .ref q_63, .ref q_64, .ref q_65])), (q_49, .inl (k_66, 400, .inl (fun _ => 0)))]) (w1 := []) hP hD [0, 1, 2] [3, 4] rfl rfl (by decide) (by decide) hk1 hFc hP1 hD1
        generalize H1 = H at hP hS ⊢
        have hP : va_P D vwCl [(q_44, .inr (10, [.ref q_49, .int 0, .int 0, .ref q_50, .ref q_51, .ref q_52, .ref q_53, .ref q_54, .int 0, .int 0, .int 0, .int 0, .int 0, .int 0, .int 0, .ref q_55, .int 0, .ref q_56, .int 0, .ref q_57, .ref q_58, .int 0, .ref q_59, .int 0, .ref q_60, .ref q_61, .ref q_62, .int 0, .int 0, .long 0, .ref q_63, .ref q_64, .ref q_65])), (q_49, .inl (k_66, 400, .inl (fun _ => 0)))] H := hP
        have hD : va_D A [(q_44, .inr (10, [.ref q_49, .int 0, .int 0, .ref q_50, .ref q_51, .ref q_52, .ref q_53, .ref q_54, .int 0, .int 0, .int 0, .int 0, .int 0, .int 0, .int 0, .ref q_55, .int 0, .ref q_56, .int 0, .ref q_57, .ref q_58, .int 0, .ref q_59, .int 0, .ref q_60, .ref q_61, .ref q_62, .int 0, .int 0, .long 0, .ref q_63, .ref q_64, .ref q_65])), (q_49, .inl (k_66, 400, .inl (fun _ => 0)))] := hD
        refine tc_i 20 hw_95 ?_
        refine lv_aload_n hx hb dL_law_201 rfl (lv_at hl 1 rfl) ?_
        refine lv_aload_n hx hb dL_law_202 rfl (lv_at hl 3 rfl) ?_
        refine lv_iload_n hx hb dL_law_203 rfl (lv_at hl 0 rfl) ?_
        refine lv_iconst (v := 1) hx hb dL_law_204 (by decide) ?_
        refine lv_iadd hx hb dL_law_205 ?_
        refine tc_i 1 (by decide) ?_
        refine va_sld hx hb hX hbl hbA hS (vi_c rfl) dL_law_206 ?_
        refine tc_i (xs 1) rfl ?_
        refine lv_aload_n hx hb dL_law_207 rfl (lv_at hl 3 rfl) ?_
        refine lv_iload_n hx hb dL_law_208 rfl (lv_at hl 0 rfl) ?_
        refine lv_iconst (v := 2) hx hb dL_law_209 (by decide) ?_
        refine lv_iadd hx hb dL_law_210 ?_
        refine tc_i 2 (by decide) ?_
        refine va_sld hx hb hX hbl hbA hS (vi_c rfl) dL_law_211 ?_
        refine tc_i (xs 2) rfl ?_
        refine lv_aload_n hx hb dL_law_212 rfl (lv_at hl 3 rfl) ?_
        refine lv_iload_n hx hb dL_law_213 rfl (lv_at hl 0 rfl) ?_
        refine lv_iconst (v := 3) hx hb dL_law_214 (by decide) ?_
        refine lv_iadd hx hb dL_law_215 ?_
        refine tc_i 3 (by decide) ?_
        refine va_sld hx hb hX hbl hbA hS (vi_c rfl) dL_law_216 ?_
        refine tc_i (xs 3) rfl ?_
        refine lv_aload_n hx hb dL_law_217 rfl (lv_at hl 3 rfl) ?_
        refine lv_iload_n hx hb dL_law_218 rfl (lv_at hl 0 rfl) ?_
        refine lv_iconst (v := 4) hx hb dL_law_219 (by decide) ?_
        refine lv_iadd hx hb dL_law_220 ?_
        refine tc_i 4 (by decide) ?_
        refine va_sld hx hb hX hbl hbA hS (vi_c rfl) dL_law_221 ?_
        refine tc_i (xs 4) rfl ?_
        refine lv_aload_n hx hb dL_law_222 rfl (lv_at hl 3 rfl) ?_
        refine lv_iload_n hx hb dL_law_223 rfl (lv_at hl 0 rfl) ?_
        refine lv_iconst (v := 5) hx hb dL_law_224 (by decide) ?_
        refine lv_iadd hx hb dL_law_225 ?_
        refine tc_i 5 (by decide) ?_
        refine va_sld hx hb hX hbl hbA hS (vi_c rfl) dL_law_226 ?_
        refine tc_i (xs 5) rfl ?_
        have hPc := hP.sub (ws' := [(q_44, .inr (10, [.ref q_49, .int 0, .int 0, .ref q_50, .ref q_51, .ref q_52, .ref q_53, .ref q_54, .int 0, .int 0, .int 0, .int 0, .int 0, .int 0, .int 0, .ref q_55, .int 0, .ref q_56, .int 0, .ref q_57, .ref q_58, .int 0, .ref q_59, .int 0, .ref q_60, .ref q_61, .ref q_62, .int 0, .int 0, .long 0, .ref q_63, .ref q_64, .ref q_65])), (q_49, .inl (k_66, 400, .inl (fun _ => 0)))]) [0, 1] rfl
        have hDc := hD.sub (ws' := [(q_44, .inr (10, [.ref q_49, .int 0, .int 0, .ref q_50, .ref q_51, .ref q_52, .ref q_53, .ref q_54, .int 0, .int 0, .int 0, .int 0, .int 0, .int 0, .int 0, .ref q_55, .int 0, .ref q_56, .int 0, .ref q_57, .ref q_58, .int 0, .ref q_59, .int 0, .ref q_60, .ref q_61, .ref q_62, .int 0, .int 0, .long 0, .ref q_63, .ref q_64, .ref q_65])), (q_49, .inl (k_66, 400, .inl (fun _ => 0)))]) [0, 1] (by decide) rfl
        have hKc := hK.sub (tys' := [(k_66, .byte)]) [1] rfl
        have hFc := va_free (wc := [(q_44, .inr (10, [.ref q_49, .int 0, .int 0, .ref q_50, .ref q_51, .ref q_52, .ref q_53, .ref q_54, .int 0, .int 0, .int 0, .int 0, .int 0, .int 0, .int 0, .ref q_55, .int 0, .ref q_56, .int 0, .ref q_57, .ref q_58, .int 0, .ref q_59, .int 0, .ref q_60, .ref q_61, .ref q_62, .int 0, .int 0, .long 0, .ref q_63, .ref q_64, .ref q_65])), (q_49, .inl (k_66, 400, .inl (fun _ => 0)))]) hD hS hA [0, 1] rfl
        refine va_calli (va_runV (As := [.int (xs 1), .int (xs 2), .int (xs 3), .int (xs 4), .int (xs 5)]) (rest := [.int 20]) ⟨hx, hb, hml, hown, hts⟩ (c_m_feed l D ad H.size q_44 q_49 q_50 q_51 q_52 q_53 q_54 q_55 q_56 q_57 q_58 q_59 q_60 q_61 q_62 q_63 q_64 q_65 k_66 (fun _ => 0) (xs 1) (xs 2) (xs 3) (xs 4) (xs 5)) ⟨callB_of 5 hts (gd_C qq_6_16) rfl rfl rfl (hT _ qq_1_9) (hT _ qq_6_13) (by decide +kernel) (⟨Nat.le_of_ble_eq_true rfl, Nat.le_of_ble_eq_true rfl⟩), (hT _ qq_6_14), (hT _ qq_6_15)⟩ (pr_V hPc hKc hDc hN (ci := 10) (q0 := 0) rfl rfl) rfl rfl hl.1 rfl (lv_room (Nat.le_of_ble_eq_true rfl)) dL_law_227 ⟨Nat.le_of_ble_eq_true rfl, Nat.le_of_ble_eq_true rfl⟩) hS (fun q _ h => hFc q h) hFc (fun r_103 u_99 t_102 H1 locs ht9 hvm hw_100 hB_101 hz1 hk1 hS => ?_)
        have hP1 : va_P D vwCl [] H1 := fun k q h => by simp at h
        have hD1 : va_D (va_A [(q_44, .inr (10, [.ref q_49, .int 0, .int 0, .ref q_50, .ref q_51, .ref q_52, .ref q_53, .ref q_54, .int 0, .int 0, .int 0, .int 0, .int 0, .int 0, .int 0, .ref q_55, .int 0, .ref q_56, .int 0, .ref q_57, .ref q_58, .int 0, .ref q_59, .int 0, .ref q_60, .ref q_61, .ref q_62, .int 0, .int 0, .long 0, .ref q_63, .ref q_64, .ref q_65])), (q_49, .inl (k_66, 400, .inl (fun _ => 0)))] H.size) [] := ⟨fun i j p q h => by simp at h, fun k q h => by simp at h⟩
        obtain ⟨hP, hD⟩ := va_join (wr := []) (w1 := []) hP hD [0, 1] [] rfl rfl (by decide) (by decide) hk1 hFc hP1 hD1
        generalize H1 = H at hP hS ⊢
        have hP : va_P D vwCl [] H := hP
        have hD : va_D A [] := hD
        refine tc_i 20 hw_100 ?_
        refine lv_icmp_eq (tgt := 1025) hx hb dL_law_230 (by decide) (fun _ => ?_) (fun c_104 => absurd (by decide) c_104)
        refine lv_iinc (v := 6) (lv' := [(3, .int 6), (2, .ref q_44), (1, .ref q_1), (0, .ref b)]) hx hb dL_law_1025 hl (k := 0) rfl (by decide) (by decide) rfl (fun ls hl => ?_)
        refine lv_goto (tgt := 18) hx hb dL_law_1028 (by decide) ?_
        refine lv_iload_n hx hb dL_law_18 rfl (lv_at hl 0 rfl) ?_
        refine lv_aload_n hx hb dL_law_19 rfl (lv_at hl 3 rfl) ?_
        refine va_slen hx hb hX hbl hbA hS dL_law_20 ?_
        refine tc_i 6 rfl ?_
        refine lv_bipush (v := 6) hx hb dL_law_21 (by decide) ?_
        refine lv_isub hx hb dL_law_23 ?_
        refine tc_i 0 (by decide) ?_
        refine lv_icmp_gt (tgt := 1031) hx hb dL_law_24 (by decide) (fun _ => ?_) (fun c_105 => absurd (by decide) c_105)
        refine lv_iconst (v := 1) hx hb dL_law_1031 (by decide) ?_
        refine va_forget (fun q h => by have h9 := hS.2.2 q h; rw [hAe] at h9; exact h9) ?_
        refine W.widen (k := 600000) (n := 7302250) (Nat.le_of_ble_eq_true rfl) (Nat.le_of_ble_eq_true rfl) ?_
        exact lw_ret hx hb hr hlocks dL_law_1032
      · subst hsw
        refine lv_tableIn (tgt := 235) hx hb dL_law_33 (by decide) (by decide) rfl (by decide) ?_
        have hP := hP.sub (ws' := [(q_1, .inr (9, [.ref q_6, .ref q_8, .ref q_11, .int 0, .ref q_12, .ref q_17, .ref q_18, .ref q_21, .ref q_24, .ref q_27, .null, .null])), (q_6, .inr (7, [.ref q_7, .int 0, .int 0, .int 0, .int 0, .int 0, .int 0, .int 0])), (q_44, .inr (10, [.ref q_49, .int 0, .int 0, .ref q_50, .ref q_51, .ref q_52, .ref q_53, .ref q_54, .int 0, .int 0, .int 0, .int 0, .int 0, .int 0, .int 0, .ref q_55, .int 0, .ref q_56, .int 0, .ref q_57, .ref q_58, .int 0, .ref q_59, .int 0, .ref q_60, .ref q_61, .ref q_62, .int 0, .int 0, .long 0, .ref q_63, .ref q_64, .ref q_65]))]) [0, 1, 23] rfl
        have hD := hD.sub (ws' := [(q_1, .inr (9, [.ref q_6, .ref q_8, .ref q_11, .int 0, .ref q_12, .ref q_17, .ref q_18, .ref q_21, .ref q_24, .ref q_27, .null, .null])), (q_6, .inr (7, [.ref q_7, .int 0, .int 0, .int 0, .int 0, .int 0, .int 0, .int 0])), (q_44, .inr (10, [.ref q_49, .int 0, .int 0, .ref q_50, .ref q_51, .ref q_52, .ref q_53, .ref q_54, .int 0, .int 0, .int 0, .int 0, .int 0, .int 0, .int 0, .ref q_55, .int 0, .ref q_56, .int 0, .ref q_57, .ref q_58, .int 0, .ref q_59, .int 0, .ref q_60, .ref q_61, .ref q_62, .int 0, .int 0, .long 0, .ref q_63, .ref q_64, .ref q_65]))]) [0, 1, 23] (by decide) rfl
        have hK := hK.sub (tys' := []) [] rfl
        refine lv_aload_n hx hb dL_law_235 rfl (lv_at hl 2 rfl) ?_
        refine lv_aload_n hx hb dL_law_236 rfl (lv_at hl 3 rfl) ?_
        refine lv_iload_n hx hb dL_law_237 rfl (lv_at hl 0 rfl) ?_
        refine lv_iconst (v := 1) hx hb dL_law_238 (by decide) ?_
        refine lv_iadd hx hb dL_law_239 ?_
        refine tc_i 1 (by decide) ?_
        refine va_sld hx hb hX hbl hbA hS (vi_c rfl) dL_law_240 ?_
        refine tc_i (xs 1) rfl ?_
        have hPc := hP.sub (ws' := [(q_1, .inr (9, [.ref q_6, .ref q_8, .ref q_11, .int 0, .ref q_12, .ref q_17, .ref q_18, .ref q_21, .ref q_24, .ref q_27, .null, .null])), (q_6, .inr (7, [.ref q_7, .int 0, .int 0, .int 0, .int 0, .int 0, .int 0, .int 0]))]) [0, 1] rfl
        have hDc := hD.sub (ws' := [(q_1, .inr (9, [.ref q_6, .ref q_8, .ref q_11, .int 0, .ref q_12, .ref q_17, .ref q_18, .ref q_21, .ref q_24, .ref q_27, .null, .null])), (q_6, .inr (7, [.ref q_7, .int 0, .int 0, .int 0, .int 0, .int 0, .int 0, .int 0]))]) [0, 1] (by decide) rfl
        have hKc := hK.sub (tys' := []) [] rfl
        have hFc := va_free (wc := [(q_1, .inr (9, [.ref q_6, .ref q_8, .ref q_11, .int 0, .ref q_12, .ref q_17, .ref q_18, .ref q_21, .ref q_24, .ref q_27, .null, .null])), (q_6, .inr (7, [.ref q_7, .int 0, .int 0, .int 0, .int 0, .int 0, .int 0, .int 0]))]) hD hS hA [0, 1] rfl
        refine va_calli (va_runV (As := [.int (xs 1)]) (rest := []) ⟨hx, hb, hml, hown, hts⟩ (c_x_end l D ad H.size q_1 q_6 q_8 q_11 q_12 q_17 q_18 q_21 q_24 q_27 q_7 (xs 1)) ⟨callB_of 1 hts (gd_C qq_2_14) rfl rfl rfl (hT _ qq_1_1) (hT _ qq_2_11) (by decide +kernel) (⟨Nat.le_of_ble_eq_true rfl, Nat.le_of_ble_eq_true rfl⟩), (hT _ qq_2_12), (hT _ qq_2_13)⟩ (pr_V hPc hKc hDc hN (ci := 9) (q0 := 0) rfl rfl) rfl rfl hl.1 rfl (lv_room (Nat.le_of_ble_eq_true rfl)) dL_law_241 ⟨Nat.le_of_ble_eq_true rfl, Nat.le_of_ble_eq_true rfl⟩) hS (fun q _ h => hFc q h) hFc (fun r_110 u_106 t_109 H1 locs ht9 hvm hw_107 hB_108 hz1 hk1 hS => ?_)
        have hP1 : va_P D vwCl [] H1 := fun k q h => by simp at h
        have hD1 : va_D (va_A [(q_1, .inr (9, [.ref q_6, .ref q_8, .ref q_11, .int 0, .ref q_12, .ref q_17, .ref q_18, .ref q_21, .ref q_24, .ref q_27, .null, .null])), (q_6, .inr (7, [.ref q_7, .int 0, .int 0, .int 0, .int 0, .int 0, .int 0, .int 0]))] H.size) [] := ⟨fun i j p q h => by simp at h, fun k q h => by simp at h⟩
        obtain ⟨hP, hD⟩ := va_join (wr := [(q_44, .inr (10, [.ref q_49, .int 0, .int 0, .ref q_50, .ref q_51, .ref q_52, .ref q_53, .ref q_54, .int 0, .int 0, .int 0, .int 0, .int 0, .int 0, .int 0, .ref q_55, .int 0, .ref q_56, .int 0, .ref q_57, .ref q_58, .int 0, .ref q_59, .int 0, .ref q_60, .ref q_61, .ref q_62, .int 0, .int 0, .long 0, .ref q_63, .ref q_64, .ref q_65]))]) (w1 := []) hP hD [0, 1] [2] rfl rfl (by decide) (by decide) hk1 hFc hP1 hD1
        generalize H1 = H at hP hS ⊢
        have hP : va_P D vwCl [(q_44, .inr (10, [.ref q_49, .int 0, .int 0, .ref q_50, .ref q_51, .ref q_52, .ref q_53, .ref q_54, .int 0, .int 0, .int 0, .int 0, .int 0, .int 0, .int 0, .ref q_55, .int 0, .ref q_56, .int 0, .ref q_57, .ref q_58, .int 0, .ref q_59, .int 0, .ref q_60, .ref q_61, .ref q_62, .int 0, .int 0, .long 0, .ref q_63, .ref q_64, .ref q_65]))] H := hP
        have hD : va_D A [(q_44, .inr (10, [.ref q_49, .int 0, .int 0, .ref q_50, .ref q_51, .ref q_52, .ref q_53, .ref q_54, .int 0, .int 0, .int 0, .int 0, .int 0, .int 0, .int 0, .ref q_55, .int 0, .ref q_56, .int 0, .ref q_57, .ref q_58, .int 0, .ref q_59, .int 0, .ref q_60, .ref q_61, .ref q_62, .int 0, .int 0, .long 0, .ref q_63, .ref q_64, .ref q_65]))] := hD
        refine tc_i (r_end (xs 1)) hw_107 ?_
        refine lv_aload_n hx hb dL_law_244 rfl (lv_at hl 1 rfl) ?_
        refine lv_aload_n hx hb dL_law_245 rfl (lv_at hl 3 rfl) ?_
        refine lv_iload_n hx hb dL_law_246 rfl (lv_at hl 0 rfl) ?_
        refine lv_iconst (v := 1) hx hb dL_law_247 (by decide) ?_
        refine lv_iadd hx hb dL_law_248 ?_
        refine tc_i 1 (by decide) ?_
        refine va_sld hx hb hX hbl hbA hS (vi_c rfl) dL_law_249 ?_
        refine tc_i (xs 1) rfl ?_
        have hPc := hP.sub (ws' := [(q_44, .inr (10, [.ref q_49, .int 0, .int 0, .ref q_50, .ref q_51, .ref q_52, .ref q_53, .ref q_54, .int 0, .int 0, .int 0, .int 0, .int 0, .int 0, .int 0, .ref q_55, .int 0, .ref q_56, .int 0, .ref q_57, .ref q_58, .int 0, .ref q_59, .int 0, .ref q_60, .ref q_61, .ref q_62, .int 0, .int 0, .long 0, .ref q_63, .ref q_64, .ref q_65]))]) [0] rfl
        have hDc := hD.sub (ws' := [(q_44, .inr (10, [.ref q_49, .int 0, .int 0, .ref q_50, .ref q_51, .ref q_52, .ref q_53, .ref q_54, .int 0, .int 0, .int 0, .int 0, .int 0, .int 0, .int 0, .ref q_55, .int 0, .ref q_56, .int 0, .ref q_57, .ref q_58, .int 0, .ref q_59, .int 0, .ref q_60, .ref q_61, .ref q_62, .int 0, .int 0, .long 0, .ref q_63, .ref q_64, .ref q_65]))]) [0] (by decide) rfl
        have hKc := hK.sub (tys' := []) [] rfl
        have hFc := va_free (wc := [(q_44, .inr (10, [.ref q_49, .int 0, .int 0, .ref q_50, .ref q_51, .ref q_52, .ref q_53, .ref q_54, .int 0, .int 0, .int 0, .int 0, .int 0, .int 0, .int 0, .ref q_55, .int 0, .ref q_56, .int 0, .ref q_57, .ref q_58, .int 0, .ref q_59, .int 0, .ref q_60, .ref q_61, .ref q_62, .int 0, .int 0, .long 0, .ref q_63, .ref q_64, .ref q_65]))]) hD hS hA [0] rfl
        refine va_calli (va_runV (As := [.int (xs 1)]) (rest := [.int (r_end (xs 1))]) ⟨hx, hb, hml, hown, hts⟩ (c_m_end l D ad H.size q_44 q_49 q_50 q_51 q_52 q_53 q_54 q_55 q_56 q_57 q_58 q_59 q_60 q_61 q_62 q_63 q_64 q_65 (xs 1)) ⟨callB_of 1 hts (gd_C qq_6_24) rfl rfl rfl (hT _ qq_1_9) (hT _ qq_6_21) (by decide +kernel) (⟨Nat.le_of_ble_eq_true rfl, Nat.le_of_ble_eq_true rfl⟩), (hT _ qq_6_22), (hT _ qq_6_23)⟩ (pr_V hPc hKc hDc hN (ci := 10) (q0 := 0) rfl rfl) rfl rfl hl.1 rfl (lv_room (Nat.le_of_ble_eq_true rfl)) dL_law_250 ⟨Nat.le_of_ble_eq_true rfl, Nat.le_of_ble_eq_true rfl⟩) hS (fun q _ h => hFc q h) hFc (fun r_115 u_111 t_114 H1 locs ht9 hvm hw_112 hB_113 hz1 hk1 hS => ?_)
        have hP1 : va_P D vwCl [] H1 := fun k q h => by simp at h
        have hD1 : va_D (va_A [(q_44, .inr (10, [.ref q_49, .int 0, .int 0, .ref q_50, .ref q_51, .ref q_52, .ref q_53, .ref q_54, .int 0, .int 0, .int 0, .int 0, .int 0, .int 0, .int 0, .ref q_55, .int 0, .ref q_56, .int 0, .ref q_57, .ref q_58, .int 0, .ref q_59, .int 0, .ref q_60, .ref q_61, .ref q_62, .int 0, .int 0, .long 0, .ref q_63, .ref q_64, .ref q_65]))] H.size) [] := ⟨fun i j p q h => by simp at h, fun k q h => by simp at h⟩
        obtain ⟨hP, hD⟩ := va_join (wr := []) (w1 := []) hP hD [0] [] rfl rfl (by decide) (by decide) hk1 hFc hP1 hD1
        generalize H1 = H at hP hS ⊢
        have hP : va_P D vwCl [] H := hP
        have hD : va_D A [] := hD
        refine tc_i (r_end (xs 1)) hw_112 ?_
        refine lv_icmp_eq (tgt := 1025) hx hb dL_law_253 (by decide) (fun _ => ?_) (fun c_116 => absurd (rfl) c_116)
        refine lv_iinc (v := 6) (lv' := [(3, .int 6), (2, .ref q_44), (1, .ref q_1), (0, .ref b)]) hx hb dL_law_1025 hl (k := 0) rfl (by decide) (by decide) rfl (fun ls hl => ?_)
        refine lv_goto (tgt := 18) hx hb dL_law_1028 (by decide) ?_
        refine lv_iload_n hx hb dL_law_18 rfl (lv_at hl 0 rfl) ?_
        refine lv_aload_n hx hb dL_law_19 rfl (lv_at hl 3 rfl) ?_
        refine va_slen hx hb hX hbl hbA hS dL_law_20 ?_
        refine tc_i 6 rfl ?_
        refine lv_bipush (v := 6) hx hb dL_law_21 (by decide) ?_
        refine lv_isub hx hb dL_law_23 ?_
        refine tc_i 0 (by decide) ?_
        refine lv_icmp_gt (tgt := 1031) hx hb dL_law_24 (by decide) (fun _ => ?_) (fun c_117 => absurd (by decide) c_117)
        refine lv_iconst (v := 1) hx hb dL_law_1031 (by decide) ?_
        refine va_forget (fun q h => by have h9 := hS.2.2 q h; rw [hAe] at h9; exact h9) ?_
        refine W.widen (k := 600000) (n := 7302250) (Nat.le_of_ble_eq_true rfl) (Nat.le_of_ble_eq_true rfl) ?_
        exact lw_ret hx hb hr hlocks dL_law_1032
      · subst hsw
        refine lv_tableIn (tgt := 258) hx hb dL_law_33 (by decide) (by decide) rfl (by decide) ?_
        have hP := hP.sub (ws' := [(q_1, .inr (9, [.ref q_6, .ref q_8, .ref q_11, .int 0, .ref q_12, .ref q_17, .ref q_18, .ref q_21, .ref q_24, .ref q_27, .null, .null])), (q_6, .inr (7, [.ref q_7, .int 0, .int 0, .int 0, .int 0, .int 0, .int 0, .int 0])), (q_44, .inr (10, [.ref q_49, .int 0, .int 0, .ref q_50, .ref q_51, .ref q_52, .ref q_53, .ref q_54, .int 0, .int 0, .int 0, .int 0, .int 0, .int 0, .int 0, .ref q_55, .int 0, .ref q_56, .int 0, .ref q_57, .ref q_58, .int 0, .ref q_59, .int 0, .ref q_60, .ref q_61, .ref q_62, .int 0, .int 0, .long 0, .ref q_63, .ref q_64, .ref q_65])), (q_51, .inl (k_68, 7, .inl (fun _ => 0))), (q_54, .inl (k_71, 92, .inl (fun _ => 0)))]) [0, 1, 23, 26, 29] rfl
        have hD := hD.sub (ws' := [(q_1, .inr (9, [.ref q_6, .ref q_8, .ref q_11, .int 0, .ref q_12, .ref q_17, .ref q_18, .ref q_21, .ref q_24, .ref q_27, .null, .null])), (q_6, .inr (7, [.ref q_7, .int 0, .int 0, .int 0, .int 0, .int 0, .int 0, .int 0])), (q_44, .inr (10, [.ref q_49, .int 0, .int 0, .ref q_50, .ref q_51, .ref q_52, .ref q_53, .ref q_54, .int 0, .int 0, .int 0, .int 0, .int 0, .int 0, .int 0, .ref q_55, .int 0, .ref q_56, .int 0, .ref q_57, .ref q_58, .int 0, .ref q_59, .int 0, .ref q_60, .ref q_61, .ref q_62, .int 0, .int 0, .long 0, .ref q_63, .ref q_64, .ref q_65])), (q_51, .inl (k_68, 7, .inl (fun _ => 0))), (q_54, .inl (k_71, 92, .inl (fun _ => 0)))]) [0, 1, 23, 26, 29] (by decide) rfl
        have hK := hK.sub (tys' := [(k_68, .int), (k_71, .int)]) [18, 21] rfl
        refine lv_aload_n hx hb dL_law_258 rfl (lv_at hl 2 rfl) ?_
        have hPc := hP.sub (ws' := [(q_1, .inr (9, [.ref q_6, .ref q_8, .ref q_11, .int 0, .ref q_12, .ref q_17, .ref q_18, .ref q_21, .ref q_24, .ref q_27, .null, .null])), (q_6, .inr (7, [.ref q_7, .int 0, .int 0, .int 0, .int 0, .int 0, .int 0, .int 0]))]) [0, 1] rfl
        have hDc := hD.sub (ws' := [(q_1, .inr (9, [.ref q_6, .ref q_8, .ref q_11, .int 0, .ref q_12, .ref q_17, .ref q_18, .ref q_21, .ref q_24, .ref q_27, .null, .null])), (q_6, .inr (7, [.ref q_7, .int 0, .int 0, .int 0, .int 0, .int 0, .int 0, .int 0]))]) [0, 1] (by decide) rfl
        have hKc := hK.sub (tys' := []) [] rfl
        have hFc := va_free (wc := [(q_1, .inr (9, [.ref q_6, .ref q_8, .ref q_11, .int 0, .ref q_12, .ref q_17, .ref q_18, .ref q_21, .ref q_24, .ref q_27, .null, .null])), (q_6, .inr (7, [.ref q_7, .int 0, .int 0, .int 0, .int 0, .int 0, .int 0, .int 0]))]) hD hS hA [0, 1] rfl
        refine va_calli (va_runV (As := []) (rest := []) ⟨hx, hb, hml, hown, hts⟩ (c_x_lift l D ad H.size q_1 q_6 q_8 q_11 q_12 q_17 q_18 q_21 q_24 q_27 q_7) ⟨callB_of 0 hts (gd_C qq_2_18) rfl rfl rfl (hT _ qq_1_1) (hT _ qq_2_15) (by decide +kernel) (⟨Nat.le_of_ble_eq_true rfl, Nat.le_of_ble_eq_true rfl⟩), (hT _ qq_2_16), (hT _ qq_2_17)⟩ (pr_V hPc hKc hDc hN (ci := 9) (q0 := 0) rfl rfl) rfl rfl hl.1 rfl (lv_room (Nat.le_of_ble_eq_true rfl)) dL_law_259 ⟨Nat.le_of_ble_eq_true rfl, Nat.le_of_ble_eq_true rfl⟩) hS (fun q _ h => hFc q h) hFc (fun r_122 u_118 t_121 H1 locs ht9 hvm hw_119 hB_120 hz1 hk1 hS => ?_)
        have hP1 : va_P D vwCl [] H1 := fun k q h => by simp at h
        have hD1 : va_D (va_A [(q_1, .inr (9, [.ref q_6, .ref q_8, .ref q_11, .int 0, .ref q_12, .ref q_17, .ref q_18, .ref q_21, .ref q_24, .ref q_27, .null, .null])), (q_6, .inr (7, [.ref q_7, .int 0, .int 0, .int 0, .int 0, .int 0, .int 0, .int 0]))] H.size) [] := ⟨fun i j p q h => by simp at h, fun k q h => by simp at h⟩
        obtain ⟨hP, hD⟩ := va_join (wr := [(q_44, .inr (10, [.ref q_49, .int 0, .int 0, .ref q_50, .ref q_51, .ref q_52, .ref q_53, .ref q_54, .int 0, .int 0, .int 0, .int 0, .int 0, .int 0, .int 0, .ref q_55, .int 0, .ref q_56, .int 0, .ref q_57, .ref q_58, .int 0, .ref q_59, .int 0, .ref q_60, .ref q_61, .ref q_62, .int 0, .int 0, .long 0, .ref q_63, .ref q_64, .ref q_65])), (q_51, .inl (k_68, 7, .inl (fun _ => 0))), (q_54, .inl (k_71, 92, .inl (fun _ => 0)))]) (w1 := []) hP hD [0, 1] [2, 3, 4] rfl rfl (by decide) (by decide) hk1 hFc hP1 hD1
        generalize H1 = H at hP hS ⊢
        have hP : va_P D vwCl [(q_44, .inr (10, [.ref q_49, .int 0, .int 0, .ref q_50, .ref q_51, .ref q_52, .ref q_53, .ref q_54, .int 0, .int 0, .int 0, .int 0, .int 0, .int 0, .int 0, .ref q_55, .int 0, .ref q_56, .int 0, .ref q_57, .ref q_58, .int 0, .ref q_59, .int 0, .ref q_60, .ref q_61, .ref q_62, .int 0, .int 0, .long 0, .ref q_63, .ref q_64, .ref q_65])), (q_51, .inl (k_68, 7, .inl (fun _ => 0))), (q_54, .inl (k_71, 92, .inl (fun _ => 0)))] H := hP
        have hD : va_D A [(q_44, .inr (10, [.ref q_49, .int 0, .int 0, .ref q_50, .ref q_51, .ref q_52, .ref q_53, .ref q_54, .int 0, .int 0, .int 0, .int 0, .int 0, .int 0, .int 0, .ref q_55, .int 0, .ref q_56, .int 0, .ref q_57, .ref q_58, .int 0, .ref q_59, .int 0, .ref q_60, .ref q_61, .ref q_62, .int 0, .int 0, .long 0, .ref q_63, .ref q_64, .ref q_65])), (q_51, .inl (k_68, 7, .inl (fun _ => 0))), (q_54, .inl (k_71, 92, .inl (fun _ => 0)))] := hD
        refine W.widen (k := 53) (n := 202384) (Nat.le_of_ble_eq_true rfl) (Nat.le_of_ble_eq_true rfl) ?_
        refine tc_i (-3) hw_119 ?_
        refine lv_aload_n hx hb dL_law_262 rfl (lv_at hl 1 rfl) ?_
        have hPc := hP.sub (ws' := [(q_44, .inr (10, [.ref q_49, .int 0, .int 0, .ref q_50, .ref q_51, .ref q_52, .ref q_53, .ref q_54, .int 0, .int 0, .int 0, .int 0, .int 0, .int 0, .int 0, .ref q_55, .int 0, .ref q_56, .int 0, .ref q_57, .ref q_58, .int 0, .ref q_59, .int 0, .ref q_60, .ref q_61, .ref q_62, .int 0, .int 0, .long 0, .ref q_63, .ref q_64, .ref q_65])), (q_51, .inl (k_68, 7, .inl (fun _ => 0))), (q_54, .inl (k_71, 92, .inl (fun _ => 0)))]) [0, 1, 2] rfl
        have hDc := hD.sub (ws' := [(q_44, .inr (10, [.ref q_49, .int 0, .int 0, .ref q_50, .ref q_51, .ref q_52, .ref q_53, .ref q_54, .int 0, .int 0, .int 0, .int 0, .int 0, .int 0, .int 0, .ref q_55, .int 0, .ref q_56, .int 0, .ref q_57, .ref q_58, .int 0, .ref q_59, .int 0, .ref q_60, .ref q_61, .ref q_62, .int 0, .int 0, .long 0, .ref q_63, .ref q_64, .ref q_65])), (q_51, .inl (k_68, 7, .inl (fun _ => 0))), (q_54, .inl (k_71, 92, .inl (fun _ => 0)))]) [0, 1, 2] (by decide) rfl
        have hKc := hK.sub (tys' := [(k_68, .int), (k_71, .int)]) [0, 1] rfl
        have hFc := va_free (wc := [(q_44, .inr (10, [.ref q_49, .int 0, .int 0, .ref q_50, .ref q_51, .ref q_52, .ref q_53, .ref q_54, .int 0, .int 0, .int 0, .int 0, .int 0, .int 0, .int 0, .ref q_55, .int 0, .ref q_56, .int 0, .ref q_57, .ref q_58, .int 0, .ref q_59, .int 0, .ref q_60, .ref q_61, .ref q_62, .int 0, .int 0, .long 0, .ref q_63, .ref q_64, .ref q_65])), (q_51, .inl (k_68, 7, .inl (fun _ => 0))), (q_54, .inl (k_71, 92, .inl (fun _ => 0)))]) hD hS hA [0, 1, 2] rfl
        refine va_calli (va_runV (As := []) (rest := [.int (-3)]) ⟨hx, hb, hml, hown, hts⟩ (c_m_lift l D ad H.size q_44 q_49 q_50 q_51 q_52 q_53 q_54 q_55 q_56 q_57 q_58 q_59 q_60 q_61 q_62 q_63 q_64 q_65 k_68 (fun _ => 0) k_71 (fun _ => 0)) ⟨callB_of 0 hts (gd_C qq_6_236) rfl rfl rfl (hT _ qq_1_9) (hT _ qq_6_233) (by decide +kernel) (⟨Nat.le_of_ble_eq_true rfl, Nat.le_of_ble_eq_true rfl⟩), (hT _ qq_6_234), (hT _ qq_6_235)⟩ (pr_V hPc hKc hDc hN (ci := 10) (q0 := 0) rfl rfl) rfl rfl hl.1 rfl (lv_room (Nat.le_of_ble_eq_true rfl)) dL_law_263 ⟨Nat.le_of_ble_eq_true rfl, Nat.le_of_ble_eq_true rfl⟩) hS (fun q _ h => hFc q h) hFc (fun r_127 u_123 t_126 H1 locs ht9 hvm hw_124 hB_125 hz1 hk1 hS => ?_)
        have hP1 : va_P D vwCl [] H1 := fun k q h => by simp at h
        have hD1 : va_D (va_A [(q_44, .inr (10, [.ref q_49, .int 0, .int 0, .ref q_50, .ref q_51, .ref q_52, .ref q_53, .ref q_54, .int 0, .int 0, .int 0, .int 0, .int 0, .int 0, .int 0, .ref q_55, .int 0, .ref q_56, .int 0, .ref q_57, .ref q_58, .int 0, .ref q_59, .int 0, .ref q_60, .ref q_61, .ref q_62, .int 0, .int 0, .long 0, .ref q_63, .ref q_64, .ref q_65])), (q_51, .inl (k_68, 7, .inl (fun _ => 0))), (q_54, .inl (k_71, 92, .inl (fun _ => 0)))] H.size) [] := ⟨fun i j p q h => by simp at h, fun k q h => by simp at h⟩
        obtain ⟨hP, hD⟩ := va_join (wr := []) (w1 := []) hP hD [0, 1, 2] [] rfl rfl (by decide) (by decide) hk1 hFc hP1 hD1
        generalize H1 = H at hP hS ⊢
        have hP : va_P D vwCl [] H := hP
        have hD : va_D A [] := hD
        refine tc_i (-3) hw_124 ?_
        refine lv_icmp_eq (tgt := 1025) hx hb dL_law_266 (by decide) (fun _ => ?_) (fun c_128 => absurd (by decide) c_128)
        refine lv_iinc (v := 6) (lv' := [(3, .int 6), (2, .ref q_44), (1, .ref q_1), (0, .ref b)]) hx hb dL_law_1025 hl (k := 0) rfl (by decide) (by decide) rfl (fun ls hl => ?_)
        refine lv_goto (tgt := 18) hx hb dL_law_1028 (by decide) ?_
        refine lv_iload_n hx hb dL_law_18 rfl (lv_at hl 0 rfl) ?_
        refine lv_aload_n hx hb dL_law_19 rfl (lv_at hl 3 rfl) ?_
        refine va_slen hx hb hX hbl hbA hS dL_law_20 ?_
        refine tc_i 6 rfl ?_
        refine lv_bipush (v := 6) hx hb dL_law_21 (by decide) ?_
        refine lv_isub hx hb dL_law_23 ?_
        refine tc_i 0 (by decide) ?_
        refine lv_icmp_gt (tgt := 1031) hx hb dL_law_24 (by decide) (fun _ => ?_) (fun c_129 => absurd (by decide) c_129)
        refine lv_iconst (v := 1) hx hb dL_law_1031 (by decide) ?_
        refine va_forget (fun q h => by have h9 := hS.2.2 q h; rw [hAe] at h9; exact h9) ?_
        refine W.widen (k := 600000) (n := 7302250) (Nat.le_of_ble_eq_true rfl) (Nat.le_of_ble_eq_true rfl) ?_
        exact lw_ret hx hb hr hlocks dL_law_1032
      · subst hsw
        refine lv_tableIn (tgt := 271) hx hb dL_law_33 (by decide) (by decide) rfl (by decide) ?_
        have hP := hP.sub (ws' := [(q_1, .inr (9, [.ref q_6, .ref q_8, .ref q_11, .int 0, .ref q_12, .ref q_17, .ref q_18, .ref q_21, .ref q_24, .ref q_27, .null, .null])), (q_6, .inr (7, [.ref q_7, .int 0, .int 0, .int 0, .int 0, .int 0, .int 0, .int 0])), (q_8, .inr (6, [.ref q_9, .ref q_10, .int 0, .int 0])), (q_44, .inr (10, [.ref q_49, .int 0, .int 0, .ref q_50, .ref q_51, .ref q_52, .ref q_53, .ref q_54, .int 0, .int 0, .int 0, .int 0, .int 0, .int 0, .int 0, .ref q_55, .int 0, .ref q_56, .int 0, .ref q_57, .ref q_58, .int 0, .ref q_59, .int 0, .ref q_60, .ref q_61, .ref q_62, .int 0, .int 0, .long 0, .ref q_63, .ref q_64, .ref q_65])), (q_51, .inl (k_68, 7, .inl (fun _ => 0))), (q_53, .inl (k_70, 6, .inl (fun _ => 0)))]) [0, 1, 3, 23, 26, 28] rfl
        have hD := hD.sub (ws' := [(q_1, .inr (9, [.ref q_6, .ref q_8, .ref q_11, .int 0, .ref q_12, .ref q_17, .ref q_18, .ref q_21, .ref q_24, .ref q_27, .null, .null])), (q_6, .inr (7, [.ref q_7, .int 0, .int 0, .int 0, .int 0, .int 0, .int 0, .int 0])), (q_8, .inr (6, [.ref q_9, .ref q_10, .int 0, .int 0])), (q_44, .inr (10, [.ref q_49, .int 0, .int 0, .ref q_50, .ref q_51, .ref q_52, .ref q_53, .ref q_54, .int 0, .int 0, .int 0, .int 0, .int 0, .int 0, .int 0, .ref q_55, .int 0, .ref q_56, .int 0, .ref q_57, .ref q_58, .int 0, .ref q_59, .int 0, .ref q_60, .ref q_61, .ref q_62, .int 0, .int 0, .long 0, .ref q_63, .ref q_64, .ref q_65])), (q_51, .inl (k_68, 7, .inl (fun _ => 0))), (q_53, .inl (k_70, 6, .inl (fun _ => 0)))]) [0, 1, 3, 23, 26, 28] (by decide) rfl
        have hK := hK.sub (tys' := [(k_68, .int), (k_70, .int)]) [18, 20] rfl
        refine lv_aload_n hx hb dL_law_271 rfl (lv_at hl 2 rfl) ?_
        have hPc := hP.sub (ws' := [(q_1, .inr (9, [.ref q_6, .ref q_8, .ref q_11, .int 0, .ref q_12, .ref q_17, .ref q_18, .ref q_21, .ref q_24, .ref q_27, .null, .null])), (q_6, .inr (7, [.ref q_7, .int 0, .int 0, .int 0, .int 0, .int 0, .int 0, .int 0])), (q_8, .inr (6, [.ref q_9, .ref q_10, .int 0, .int 0]))]) [0, 1, 2] rfl
        have hDc := hD.sub (ws' := [(q_1, .inr (9, [.ref q_6, .ref q_8, .ref q_11, .int 0, .ref q_12, .ref q_17, .ref q_18, .ref q_21, .ref q_24, .ref q_27, .null, .null])), (q_6, .inr (7, [.ref q_7, .int 0, .int 0, .int 0, .int 0, .int 0, .int 0, .int 0])), (q_8, .inr (6, [.ref q_9, .ref q_10, .int 0, .int 0]))]) [0, 1, 2] (by decide) rfl
        have hKc := hK.sub (tys' := []) [] rfl
        have hFc := va_free (wc := [(q_1, .inr (9, [.ref q_6, .ref q_8, .ref q_11, .int 0, .ref q_12, .ref q_17, .ref q_18, .ref q_21, .ref q_24, .ref q_27, .null, .null])), (q_6, .inr (7, [.ref q_7, .int 0, .int 0, .int 0, .int 0, .int 0, .int 0, .int 0])), (q_8, .inr (6, [.ref q_9, .ref q_10, .int 0, .int 0]))]) hD hS hA [0, 1, 2] rfl
        refine va_calli (va_runV (As := []) (rest := []) ⟨hx, hb, hml, hown, hts⟩ (c_x_rule l D ad H.size q_1 q_6 q_8 q_11 q_12 q_17 q_18 q_21 q_24 q_27 q_7 q_9 q_10) ⟨callB_of 0 hts (gd_C qq_3_66) rfl rfl rfl (hT _ qq_1_1) (hT _ qq_3_63) (by decide +kernel) (⟨Nat.le_of_ble_eq_true rfl, Nat.le_of_ble_eq_true rfl⟩), (hT _ qq_3_64), (hT _ qq_3_65)⟩ (pr_V hPc hKc hDc hN (ci := 9) (q0 := 0) rfl rfl) rfl rfl hl.1 rfl (lv_room (Nat.le_of_ble_eq_true rfl)) dL_law_272 ⟨Nat.le_of_ble_eq_true rfl, Nat.le_of_ble_eq_true rfl⟩) hS (fun q _ h => hFc q h) hFc (fun r_134 u_130 t_133 H1 locs ht9 hvm hw_131 hB_132 hz1 hk1 hS => ?_)
        have hP1 : va_P D vwCl [] H1 := fun k q h => by simp at h
        have hD1 : va_D (va_A [(q_1, .inr (9, [.ref q_6, .ref q_8, .ref q_11, .int 0, .ref q_12, .ref q_17, .ref q_18, .ref q_21, .ref q_24, .ref q_27, .null, .null])), (q_6, .inr (7, [.ref q_7, .int 0, .int 0, .int 0, .int 0, .int 0, .int 0, .int 0])), (q_8, .inr (6, [.ref q_9, .ref q_10, .int 0, .int 0]))] H.size) [] := ⟨fun i j p q h => by simp at h, fun k q h => by simp at h⟩
        obtain ⟨hP, hD⟩ := va_join (wr := [(q_44, .inr (10, [.ref q_49, .int 0, .int 0, .ref q_50, .ref q_51, .ref q_52, .ref q_53, .ref q_54, .int 0, .int 0, .int 0, .int 0, .int 0, .int 0, .int 0, .ref q_55, .int 0, .ref q_56, .int 0, .ref q_57, .ref q_58, .int 0, .ref q_59, .int 0, .ref q_60, .ref q_61, .ref q_62, .int 0, .int 0, .long 0, .ref q_63, .ref q_64, .ref q_65])), (q_51, .inl (k_68, 7, .inl (fun _ => 0))), (q_53, .inl (k_70, 6, .inl (fun _ => 0)))]) (w1 := []) hP hD [0, 1, 2] [3, 4, 5] rfl rfl (by decide) (by decide) hk1 hFc hP1 hD1
        generalize H1 = H at hP hS ⊢
        have hP : va_P D vwCl [(q_44, .inr (10, [.ref q_49, .int 0, .int 0, .ref q_50, .ref q_51, .ref q_52, .ref q_53, .ref q_54, .int 0, .int 0, .int 0, .int 0, .int 0, .int 0, .int 0, .ref q_55, .int 0, .ref q_56, .int 0, .ref q_57, .ref q_58, .int 0, .ref q_59, .int 0, .ref q_60, .ref q_61, .ref q_62, .int 0, .int 0, .long 0, .ref q_63, .ref q_64, .ref q_65])), (q_51, .inl (k_68, 7, .inl (fun _ => 0))), (q_53, .inl (k_70, 6, .inl (fun _ => 0)))] H := hP
        have hD : va_D A [(q_44, .inr (10, [.ref q_49, .int 0, .int 0, .ref q_50, .ref q_51, .ref q_52, .ref q_53, .ref q_54, .int 0, .int 0, .int 0, .int 0, .int 0, .int 0, .int 0, .ref q_55, .int 0, .ref q_56, .int 0, .ref q_57, .ref q_58, .int 0, .ref q_59, .int 0, .ref q_60, .ref q_61, .ref q_62, .int 0, .int 0, .long 0, .ref q_63, .ref q_64, .ref q_65])), (q_51, .inl (k_68, 7, .inl (fun _ => 0))), (q_53, .inl (k_70, 6, .inl (fun _ => 0)))] := hD
        refine tc_i (-3) hw_131 ?_
        refine lv_aload_n hx hb dL_law_275 rfl (lv_at hl 1 rfl) ?_
        have hPc := hP.sub (ws' := [(q_44, .inr (10, [.ref q_49, .int 0, .int 0, .ref q_50, .ref q_51, .ref q_52, .ref q_53, .ref q_54, .int 0, .int 0, .int 0, .int 0, .int 0, .int 0, .int 0, .ref q_55, .int 0, .ref q_56, .int 0, .ref q_57, .ref q_58, .int 0, .ref q_59, .int 0, .ref q_60, .ref q_61, .ref q_62, .int 0, .int 0, .long 0, .ref q_63, .ref q_64, .ref q_65])), (q_51, .inl (k_68, 7, .inl (fun _ => 0))), (q_53, .inl (k_70, 6, .inl (fun _ => 0)))]) [0, 1, 2] rfl
        have hDc := hD.sub (ws' := [(q_44, .inr (10, [.ref q_49, .int 0, .int 0, .ref q_50, .ref q_51, .ref q_52, .ref q_53, .ref q_54, .int 0, .int 0, .int 0, .int 0, .int 0, .int 0, .int 0, .ref q_55, .int 0, .ref q_56, .int 0, .ref q_57, .ref q_58, .int 0, .ref q_59, .int 0, .ref q_60, .ref q_61, .ref q_62, .int 0, .int 0, .long 0, .ref q_63, .ref q_64, .ref q_65])), (q_51, .inl (k_68, 7, .inl (fun _ => 0))), (q_53, .inl (k_70, 6, .inl (fun _ => 0)))]) [0, 1, 2] (by decide) rfl
        have hKc := hK.sub (tys' := [(k_68, .int), (k_70, .int)]) [0, 1] rfl
        have hFc := va_free (wc := [(q_44, .inr (10, [.ref q_49, .int 0, .int 0, .ref q_50, .ref q_51, .ref q_52, .ref q_53, .ref q_54, .int 0, .int 0, .int 0, .int 0, .int 0, .int 0, .int 0, .ref q_55, .int 0, .ref q_56, .int 0, .ref q_57, .ref q_58, .int 0, .ref q_59, .int 0, .ref q_60, .ref q_61, .ref q_62, .int 0, .int 0, .long 0, .ref q_63, .ref q_64, .ref q_65])), (q_51, .inl (k_68, 7, .inl (fun _ => 0))), (q_53, .inl (k_70, 6, .inl (fun _ => 0)))]) hD hS hA [0, 1, 2] rfl
        refine va_calli (va_runV (As := []) (rest := [.int (-3)]) ⟨hx, hb, hml, hown, hts⟩ (c_m_rule l D ad H.size q_44 q_49 q_50 q_51 q_52 q_53 q_54 q_55 q_56 q_57 q_58 q_59 q_60 q_61 q_62 q_63 q_64 q_65 k_68 (fun _ => 0) k_70 (fun _ => 0)) ⟨callB_of 0 hts (gd_C qq_6_28) rfl rfl rfl (hT _ qq_1_9) (hT _ qq_6_25) (by decide +kernel) (⟨Nat.le_of_ble_eq_true rfl, Nat.le_of_ble_eq_true rfl⟩), (hT _ qq_6_26), (hT _ qq_6_27)⟩ (pr_V hPc hKc hDc hN (ci := 10) (q0 := 0) rfl rfl) rfl rfl hl.1 rfl (lv_room (Nat.le_of_ble_eq_true rfl)) dL_law_276 ⟨Nat.le_of_ble_eq_true rfl, Nat.le_of_ble_eq_true rfl⟩) hS (fun q _ h => hFc q h) hFc (fun r_139 u_135 t_138 H1 locs ht9 hvm hw_136 hB_137 hz1 hk1 hS => ?_)
        have hP1 : va_P D vwCl [] H1 := fun k q h => by simp at h
        have hD1 : va_D (va_A [(q_44, .inr (10, [.ref q_49, .int 0, .int 0, .ref q_50, .ref q_51, .ref q_52, .ref q_53, .ref q_54, .int 0, .int 0, .int 0, .int 0, .int 0, .int 0, .int 0, .ref q_55, .int 0, .ref q_56, .int 0, .ref q_57, .ref q_58, .int 0, .ref q_59, .int 0, .ref q_60, .ref q_61, .ref q_62, .int 0, .int 0, .long 0, .ref q_63, .ref q_64, .ref q_65])), (q_51, .inl (k_68, 7, .inl (fun _ => 0))), (q_53, .inl (k_70, 6, .inl (fun _ => 0)))] H.size) [] := ⟨fun i j p q h => by simp at h, fun k q h => by simp at h⟩
        obtain ⟨hP, hD⟩ := va_join (wr := []) (w1 := []) hP hD [0, 1, 2] [] rfl rfl (by decide) (by decide) hk1 hFc hP1 hD1
        generalize H1 = H at hP hS ⊢
        have hP : va_P D vwCl [] H := hP
        have hD : va_D A [] := hD
        refine tc_i (-3) hw_136 ?_
        refine lv_icmp_eq (tgt := 1025) hx hb dL_law_279 (by decide) (fun _ => ?_) (fun c_140 => absurd (by decide) c_140)
        refine lv_iinc (v := 6) (lv' := [(3, .int 6), (2, .ref q_44), (1, .ref q_1), (0, .ref b)]) hx hb dL_law_1025 hl (k := 0) rfl (by decide) (by decide) rfl (fun ls hl => ?_)
        refine lv_goto (tgt := 18) hx hb dL_law_1028 (by decide) ?_
        refine lv_iload_n hx hb dL_law_18 rfl (lv_at hl 0 rfl) ?_
        refine lv_aload_n hx hb dL_law_19 rfl (lv_at hl 3 rfl) ?_
        refine va_slen hx hb hX hbl hbA hS dL_law_20 ?_
        refine tc_i 6 rfl ?_
        refine lv_bipush (v := 6) hx hb dL_law_21 (by decide) ?_
        refine lv_isub hx hb dL_law_23 ?_
        refine tc_i 0 (by decide) ?_
        refine lv_icmp_gt (tgt := 1031) hx hb dL_law_24 (by decide) (fun _ => ?_) (fun c_141 => absurd (by decide) c_141)
        refine lv_iconst (v := 1) hx hb dL_law_1031 (by decide) ?_
        refine va_forget (fun q h => by have h9 := hS.2.2 q h; rw [hAe] at h9; exact h9) ?_
        refine W.widen (k := 600000) (n := 7302250) (Nat.le_of_ble_eq_true rfl) (Nat.le_of_ble_eq_true rfl) ?_
        exact lw_ret hx hb hr hlocks dL_law_1032
      · subst hsw
        refine lv_tableIn (tgt := 284) hx hb dL_law_33 (by decide) (by decide) rfl (by decide) ?_
        have hP := hP.sub (ws' := [(q_1, .inr (9, [.ref q_6, .ref q_8, .ref q_11, .int 0, .ref q_12, .ref q_17, .ref q_18, .ref q_21, .ref q_24, .ref q_27, .null, .null])), (q_12, .inr (8, [.null, .int 0, .int 0, .int 0, .int 0, .ref q_13, .ref q_14, .ref q_15, .ref q_16])), (q_44, .inr (10, [.ref q_49, .int 0, .int 0, .ref q_50, .ref q_51, .ref q_52, .ref q_53, .ref q_54, .int 0, .int 0, .int 0, .int 0, .int 0, .int 0, .int 0, .ref q_55, .int 0, .ref q_56, .int 0, .ref q_57, .ref q_58, .int 0, .ref q_59, .int 0, .ref q_60, .ref q_61, .ref q_62, .int 0, .int 0, .long 0, .ref q_63, .ref q_64, .ref q_65])), (q_58, .inl (k_75, 133, .inl sd0))]) [0, 7, 23, 33] rfl
        have hD := hD.sub (ws' := [(q_1, .inr (9, [.ref q_6, .ref q_8, .ref q_11, .int 0, .ref q_12, .ref q_17, .ref q_18, .ref q_21, .ref q_24, .ref q_27, .null, .null])), (q_12, .inr (8, [.null, .int 0, .int 0, .int 0, .int 0, .ref q_13, .ref q_14, .ref q_15, .ref q_16])), (q_44, .inr (10, [.ref q_49, .int 0, .int 0, .ref q_50, .ref q_51, .ref q_52, .ref q_53, .ref q_54, .int 0, .int 0, .int 0, .int 0, .int 0, .int 0, .int 0, .ref q_55, .int 0, .ref q_56, .int 0, .ref q_57, .ref q_58, .int 0, .ref q_59, .int 0, .ref q_60, .ref q_61, .ref q_62, .int 0, .int 0, .long 0, .ref q_63, .ref q_64, .ref q_65])), (q_58, .inl (k_75, 133, .inl sd0))]) [0, 7, 23, 33] (by decide) rfl
        have hK := hK.sub (tys' := [(k_75, .int)]) [25] rfl
        refine lv_aload_n hx hb dL_law_284 rfl (lv_at hl 2 rfl) ?_
        refine lv_aload_n hx hb dL_law_285 rfl (lv_at hl 3 rfl) ?_
        refine lv_iload_n hx hb dL_law_286 rfl (lv_at hl 0 rfl) ?_
        refine lv_iconst (v := 1) hx hb dL_law_287 (by decide) ?_
        refine lv_iadd hx hb dL_law_288 ?_
        refine tc_i 1 (by decide) ?_
        refine va_sld hx hb hX hbl hbA hS (vi_c rfl) dL_law_289 ?_
        refine tc_i (xs 1) rfl ?_
        refine lv_aload_n hx hb dL_law_290 rfl (lv_at hl 3 rfl) ?_
        refine lv_iload_n hx hb dL_law_291 rfl (lv_at hl 0 rfl) ?_
        refine lv_iconst (v := 2) hx hb dL_law_292 (by decide) ?_
        refine lv_iadd hx hb dL_law_293 ?_
        refine tc_i 2 (by decide) ?_
        refine va_sld hx hb hX hbl hbA hS (vi_c rfl) dL_law_294 ?_
        refine tc_i (xs 2) rfl ?_
        have hPc := hP.sub (ws' := [(q_1, .inr (9, [.ref q_6, .ref q_8, .ref q_11, .int 0, .ref q_12, .ref q_17, .ref q_18, .ref q_21, .ref q_24, .ref q_27, .null, .null])), (q_12, .inr (8, [.null, .int 0, .int 0, .int 0, .int 0, .ref q_13, .ref q_14, .ref q_15, .ref q_16]))]) [0, 1] rfl
        have hDc := hD.sub (ws' := [(q_1, .inr (9, [.ref q_6, .ref q_8, .ref q_11, .int 0, .ref q_12, .ref q_17, .ref q_18, .ref q_21, .ref q_24, .ref q_27, .null, .null])), (q_12, .inr (8, [.null, .int 0, .int 0, .int 0, .int 0, .ref q_13, .ref q_14, .ref q_15, .ref q_16]))]) [0, 1] (by decide) rfl
        have hKc := hK.sub (tys' := []) [] rfl
        refine cl_V (W.runV (As := [.int (xs 1), .int (xs 2)]) (rest := []) ⟨hx, hb, hml, hown, hts⟩ (c_x_button l D ad H.size q_1 q_6 q_8 q_11 q_12 q_17 q_18 q_21 q_24 q_27 q_13 q_14 q_15 q_16 (xs 1) (xs 2)) ⟨callB_of 2 hts (gd_C qq_3_160) rfl rfl rfl (hT _ qq_1_1) (hT _ qq_3_157) (by decide +kernel) (⟨Nat.le_of_ble_eq_true rfl, Nat.le_of_ble_eq_true rfl⟩), (hT _ qq_3_158), (hT _ qq_3_159)⟩ (pr_V hPc hKc hDc hN (ci := 9) (q0 := 0) rfl rfl) rfl rfl hl.1 rfl (lv_room (Nat.le_of_ble_eq_true rfl)) dL_law_295 ⟨Nat.le_of_ble_eq_true rfl, Nat.le_of_ble_eq_true rfl⟩) ?_
        refine lv_aload_n hx hb dL_law_298 rfl (lv_at hl 1 rfl) ?_
        refine lv_aload_n hx hb dL_law_299 rfl (lv_at hl 3 rfl) ?_
        refine lv_iload_n hx hb dL_law_300 rfl (lv_at hl 0 rfl) ?_
        refine lv_iconst (v := 1) hx hb dL_law_301 (by decide) ?_
        refine lv_iadd hx hb dL_law_302 ?_
        refine tc_i 1 (by decide) ?_
        refine va_sld hx hb hX hbl hbA hS (vi_c rfl) dL_law_303 ?_
        refine tc_i (xs 1) rfl ?_
        refine lv_aload_n hx hb dL_law_304 rfl (lv_at hl 3 rfl) ?_
        refine lv_iload_n hx hb dL_law_305 rfl (lv_at hl 0 rfl) ?_
        refine lv_iconst (v := 2) hx hb dL_law_306 (by decide) ?_
        refine lv_iadd hx hb dL_law_307 ?_
        refine tc_i 2 (by decide) ?_
        refine va_sld hx hb hX hbl hbA hS (vi_c rfl) dL_law_308 ?_
        refine tc_i (xs 2) rfl ?_
        have hPc := hP.sub (ws' := [(q_44, .inr (10, [.ref q_49, .int 0, .int 0, .ref q_50, .ref q_51, .ref q_52, .ref q_53, .ref q_54, .int 0, .int 0, .int 0, .int 0, .int 0, .int 0, .int 0, .ref q_55, .int 0, .ref q_56, .int 0, .ref q_57, .ref q_58, .int 0, .ref q_59, .int 0, .ref q_60, .ref q_61, .ref q_62, .int 0, .int 0, .long 0, .ref q_63, .ref q_64, .ref q_65])), (q_58, .inl (k_75, 133, .inl sd0))]) [2, 3] rfl
        have hDc := hD.sub (ws' := [(q_44, .inr (10, [.ref q_49, .int 0, .int 0, .ref q_50, .ref q_51, .ref q_52, .ref q_53, .ref q_54, .int 0, .int 0, .int 0, .int 0, .int 0, .int 0, .int 0, .ref q_55, .int 0, .ref q_56, .int 0, .ref q_57, .ref q_58, .int 0, .ref q_59, .int 0, .ref q_60, .ref q_61, .ref q_62, .int 0, .int 0, .long 0, .ref q_63, .ref q_64, .ref q_65])), (q_58, .inl (k_75, 133, .inl sd0))]) [2, 3] (by decide) rfl
        have hKc := hK.sub (tys' := [(k_75, .int)]) [0] rfl
        refine cl_V (W.runV (As := [.int (xs 1), .int (xs 2)]) (rest := [.int (-2)]) ⟨hx, hb, hml, hown, hts⟩ (c_m_button l D ad H.size q_44 q_49 q_50 q_51 q_52 q_53 q_54 q_55 q_56 q_57 q_58 q_59 q_60 q_61 q_62 q_63 q_64 q_65 k_75 (xs 1) (xs 2)) ⟨callB_of 2 hts (gd_C qq_7_0) rfl rfl rfl (hT _ qq_1_9) (hT _ qq_6_237) (by decide +kernel) (⟨Nat.le_of_ble_eq_true rfl, Nat.le_of_ble_eq_true rfl⟩), (hT _ qq_6_238), (hT _ qq_6_239)⟩ (pr_V hPc hKc hDc hN (ci := 10) (q0 := 0) rfl rfl) rfl rfl hl.1 rfl (lv_room (Nat.le_of_ble_eq_true rfl)) dL_law_309 ⟨Nat.le_of_ble_eq_true rfl, Nat.le_of_ble_eq_true rfl⟩) ?_
        refine lv_icmp_eq (tgt := 1025) hx hb dL_law_312 (by decide) (fun _ => ?_) (fun c_142 => absurd (by decide) c_142)
        refine lv_iinc (v := 6) (lv' := [(3, .int 6), (2, .ref q_44), (1, .ref q_1), (0, .ref b)]) hx hb dL_law_1025 hl (k := 0) rfl (by decide) (by decide) rfl (fun ls hl => ?_)
        refine lv_goto (tgt := 18) hx hb dL_law_1028 (by decide) ?_
        refine lv_iload_n hx hb dL_law_18 rfl (lv_at hl 0 rfl) ?_
        refine lv_aload_n hx hb dL_law_19 rfl (lv_at hl 3 rfl) ?_
        refine va_slen hx hb hX hbl hbA hS dL_law_20 ?_
        refine tc_i 6 rfl ?_
        refine lv_bipush (v := 6) hx hb dL_law_21 (by decide) ?_
        refine lv_isub hx hb dL_law_23 ?_
        refine tc_i 0 (by decide) ?_
        refine lv_icmp_gt (tgt := 1031) hx hb dL_law_24 (by decide) (fun _ => ?_) (fun c_143 => absurd (by decide) c_143)
        refine lv_iconst (v := 1) hx hb dL_law_1031 (by decide) ?_
        refine va_forget (fun q h => by have h9 := hS.2.2 q h; rw [hAe] at h9; exact h9) ?_
        refine W.widen (k := 600000) (n := 7302250) (Nat.le_of_ble_eq_true rfl) (Nat.le_of_ble_eq_true rfl) ?_
        exact lw_ret hx hb hr hlocks dL_law_1032
      · subst hsw
        refine lv_tableIn (tgt := 317) hx hb dL_law_33 (by decide) (by decide) rfl (by decide) ?_
        have hP := hP.sub (ws' := [(q_1, .inr (9, [.ref q_6, .ref q_8, .ref q_11, .int 0, .ref q_12, .ref q_17, .ref q_18, .ref q_21, .ref q_24, .ref q_27, .null, .null])), (q_12, .inr (8, [.null, .int 0, .int 0, .int 0, .int 0, .ref q_13, .ref q_14, .ref q_15, .ref q_16])), (q_44, .inr (10, [.ref q_49, .int 0, .int 0, .ref q_50, .ref q_51, .ref q_52, .ref q_53, .ref q_54, .int 0, .int 0, .int 0, .int 0, .int 0, .int 0, .int 0, .ref q_55, .int 0, .ref q_56, .int 0, .ref q_57, .ref q_58, .int 0, .ref q_59, .int 0, .ref q_60, .ref q_61, .ref q_62, .int 0, .int 0, .long 0, .ref q_63, .ref q_64, .ref q_65])), (q_58, .inl (k_75, 133, .inl sd0))]) [0, 7, 23, 33] rfl
        have hD := hD.sub (ws' := [(q_1, .inr (9, [.ref q_6, .ref q_8, .ref q_11, .int 0, .ref q_12, .ref q_17, .ref q_18, .ref q_21, .ref q_24, .ref q_27, .null, .null])), (q_12, .inr (8, [.null, .int 0, .int 0, .int 0, .int 0, .ref q_13, .ref q_14, .ref q_15, .ref q_16])), (q_44, .inr (10, [.ref q_49, .int 0, .int 0, .ref q_50, .ref q_51, .ref q_52, .ref q_53, .ref q_54, .int 0, .int 0, .int 0, .int 0, .int 0, .int 0, .int 0, .ref q_55, .int 0, .ref q_56, .int 0, .ref q_57, .ref q_58, .int 0, .ref q_59, .int 0, .ref q_60, .ref q_61, .ref q_62, .int 0, .int 0, .long 0, .ref q_63, .ref q_64, .ref q_65])), (q_58, .inl (k_75, 133, .inl sd0))]) [0, 7, 23, 33] (by decide) rfl
        have hK := hK.sub (tys' := [(k_75, .int)]) [25] rfl
        refine lv_aload_n hx hb dL_law_317 rfl (lv_at hl 2 rfl) ?_
        refine lv_aload_n hx hb dL_law_318 rfl (lv_at hl 3 rfl) ?_
        refine lv_iload_n hx hb dL_law_319 rfl (lv_at hl 0 rfl) ?_
        refine lv_iconst (v := 1) hx hb dL_law_320 (by decide) ?_
        refine lv_iadd hx hb dL_law_321 ?_
        refine tc_i 1 (by decide) ?_
        refine va_sld hx hb hX hbl hbA hS (vi_c rfl) dL_law_322 ?_
        refine tc_i (xs 1) rfl ?_
        refine lv_aload_n hx hb dL_law_323 rfl (lv_at hl 3 rfl) ?_
        refine lv_iload_n hx hb dL_law_324 rfl (lv_at hl 0 rfl) ?_
        refine lv_iconst (v := 2) hx hb dL_law_325 (by decide) ?_
        refine lv_iadd hx hb dL_law_326 ?_
        refine tc_i 2 (by decide) ?_
        refine va_sld hx hb hX hbl hbA hS (vi_c rfl) dL_law_327 ?_
        refine tc_i (xs 2) rfl ?_
        have hPc := hP.sub (ws' := [(q_1, .inr (9, [.ref q_6, .ref q_8, .ref q_11, .int 0, .ref q_12, .ref q_17, .ref q_18, .ref q_21, .ref q_24, .ref q_27, .null, .null])), (q_12, .inr (8, [.null, .int 0, .int 0, .int 0, .int 0, .ref q_13, .ref q_14, .ref q_15, .ref q_16]))]) [0, 1] rfl
        have hDc := hD.sub (ws' := [(q_1, .inr (9, [.ref q_6, .ref q_8, .ref q_11, .int 0, .ref q_12, .ref q_17, .ref q_18, .ref q_21, .ref q_24, .ref q_27, .null, .null])), (q_12, .inr (8, [.null, .int 0, .int 0, .int 0, .int 0, .ref q_13, .ref q_14, .ref q_15, .ref q_16]))]) [0, 1] (by decide) rfl
        have hKc := hK.sub (tys' := []) [] rfl
        refine cl_V (W.runV (As := [.int (xs 1), .int (xs 2)]) (rest := []) ⟨hx, hb, hml, hown, hts⟩ (c_x_hole l D ad H.size q_1 q_6 q_8 q_11 q_12 q_17 q_18 q_21 q_24 q_27 q_13 q_14 q_15 q_16 (xs 1) (xs 2)) ⟨callB_of 2 hts (gd_C qq_3_186) rfl rfl rfl (hT _ qq_1_1) (hT _ qq_3_183) (by decide +kernel) (⟨Nat.le_of_ble_eq_true rfl, Nat.le_of_ble_eq_true rfl⟩), (hT _ qq_3_184), (hT _ qq_3_185)⟩ (pr_V hPc hKc hDc hN (ci := 9) (q0 := 0) rfl rfl) rfl rfl hl.1 rfl (lv_room (Nat.le_of_ble_eq_true rfl)) dL_law_328 ⟨Nat.le_of_ble_eq_true rfl, Nat.le_of_ble_eq_true rfl⟩) ?_
        refine lv_aload_n hx hb dL_law_331 rfl (lv_at hl 1 rfl) ?_
        refine lv_aload_n hx hb dL_law_332 rfl (lv_at hl 3 rfl) ?_
        refine lv_iload_n hx hb dL_law_333 rfl (lv_at hl 0 rfl) ?_
        refine lv_iconst (v := 1) hx hb dL_law_334 (by decide) ?_
        refine lv_iadd hx hb dL_law_335 ?_
        refine tc_i 1 (by decide) ?_
        refine va_sld hx hb hX hbl hbA hS (vi_c rfl) dL_law_336 ?_
        refine tc_i (xs 1) rfl ?_
        refine lv_aload_n hx hb dL_law_337 rfl (lv_at hl 3 rfl) ?_
        refine lv_iload_n hx hb dL_law_338 rfl (lv_at hl 0 rfl) ?_
        refine lv_iconst (v := 2) hx hb dL_law_339 (by decide) ?_
        refine lv_iadd hx hb dL_law_340 ?_
        refine tc_i 2 (by decide) ?_
        refine va_sld hx hb hX hbl hbA hS (vi_c rfl) dL_law_341 ?_
        refine tc_i (xs 2) rfl ?_
        have hPc := hP.sub (ws' := [(q_44, .inr (10, [.ref q_49, .int 0, .int 0, .ref q_50, .ref q_51, .ref q_52, .ref q_53, .ref q_54, .int 0, .int 0, .int 0, .int 0, .int 0, .int 0, .int 0, .ref q_55, .int 0, .ref q_56, .int 0, .ref q_57, .ref q_58, .int 0, .ref q_59, .int 0, .ref q_60, .ref q_61, .ref q_62, .int 0, .int 0, .long 0, .ref q_63, .ref q_64, .ref q_65])), (q_58, .inl (k_75, 133, .inl sd0))]) [2, 3] rfl
        have hDc := hD.sub (ws' := [(q_44, .inr (10, [.ref q_49, .int 0, .int 0, .ref q_50, .ref q_51, .ref q_52, .ref q_53, .ref q_54, .int 0, .int 0, .int 0, .int 0, .int 0, .int 0, .int 0, .ref q_55, .int 0, .ref q_56, .int 0, .ref q_57, .ref q_58, .int 0, .ref q_59, .int 0, .ref q_60, .ref q_61, .ref q_62, .int 0, .int 0, .long 0, .ref q_63, .ref q_64, .ref q_65])), (q_58, .inl (k_75, 133, .inl sd0))]) [2, 3] (by decide) rfl
        have hKc := hK.sub (tys' := [(k_75, .int)]) [0] rfl
        refine cl_V (W.runV (As := [.int (xs 1), .int (xs 2)]) (rest := [.int (-2)]) ⟨hx, hb, hml, hown, hts⟩ (c_m_hole l D ad H.size q_44 q_49 q_50 q_51 q_52 q_53 q_54 q_55 q_56 q_57 q_58 q_59 q_60 q_61 q_62 q_63 q_64 q_65 k_75 (xs 1) (xs 2)) ⟨callB_of 2 hts (gd_C qq_7_33) rfl rfl rfl (hT _ qq_1_9) (hT _ qq_7_30) (by decide +kernel) (⟨Nat.le_of_ble_eq_true rfl, Nat.le_of_ble_eq_true rfl⟩), (hT _ qq_7_31), (hT _ qq_7_32)⟩ (pr_V hPc hKc hDc hN (ci := 10) (q0 := 0) rfl rfl) rfl rfl hl.1 rfl (lv_room (Nat.le_of_ble_eq_true rfl)) dL_law_342 ⟨Nat.le_of_ble_eq_true rfl, Nat.le_of_ble_eq_true rfl⟩) ?_
        refine lv_icmp_eq (tgt := 1025) hx hb dL_law_345 (by decide) (fun _ => ?_) (fun c_144 => absurd (by decide) c_144)
        refine lv_iinc (v := 6) (lv' := [(3, .int 6), (2, .ref q_44), (1, .ref q_1), (0, .ref b)]) hx hb dL_law_1025 hl (k := 0) rfl (by decide) (by decide) rfl (fun ls hl => ?_)
        refine lv_goto (tgt := 18) hx hb dL_law_1028 (by decide) ?_
        refine lv_iload_n hx hb dL_law_18 rfl (lv_at hl 0 rfl) ?_
        refine lv_aload_n hx hb dL_law_19 rfl (lv_at hl 3 rfl) ?_
        refine va_slen hx hb hX hbl hbA hS dL_law_20 ?_
        refine tc_i 6 rfl ?_
        refine lv_bipush (v := 6) hx hb dL_law_21 (by decide) ?_
        refine lv_isub hx hb dL_law_23 ?_
        refine tc_i 0 (by decide) ?_
        refine lv_icmp_gt (tgt := 1031) hx hb dL_law_24 (by decide) (fun _ => ?_) (fun c_145 => absurd (by decide) c_145)
        refine lv_iconst (v := 1) hx hb dL_law_1031 (by decide) ?_
        refine va_forget (fun q h => by have h9 := hS.2.2 q h; rw [hAe] at h9; exact h9) ?_
        refine W.widen (k := 600000) (n := 7302250) (Nat.le_of_ble_eq_true rfl) (Nat.le_of_ble_eq_true rfl) ?_
        exact lw_ret hx hb hr hlocks dL_law_1032
      · subst hsw
        refine lv_tableIn (tgt := 350) hx hb dL_law_33 (by decide) (by decide) rfl (by decide) ?_
        have hP := hP.sub (ws' := [(q_1, .inr (9, [.ref q_6, .ref q_8, .ref q_11, .int 0, .ref q_12, .ref q_17, .ref q_18, .ref q_21, .ref q_24, .ref q_27, .null, .null])), (q_12, .inr (8, [.null, .int 0, .int 0, .int 0, .int 0, .ref q_13, .ref q_14, .ref q_15, .ref q_16])), (q_44, .inr (10, [.ref q_49, .int 0, .int 0, .ref q_50, .ref q_51, .ref q_52, .ref q_53, .ref q_54, .int 0, .int 0, .int 0, .int 0, .int 0, .int 0, .int 0, .ref q_55, .int 0, .ref q_56, .int 0, .ref q_57, .ref q_58, .int 0, .ref q_59, .int 0, .ref q_60, .ref q_61, .ref q_62, .int 0, .int 0, .long 0, .ref q_63, .ref q_64, .ref q_65])), (q_58, .inl (k_75, 133, .inl sd0))]) [0, 7, 23, 33] rfl
        have hD := hD.sub (ws' := [(q_1, .inr (9, [.ref q_6, .ref q_8, .ref q_11, .int 0, .ref q_12, .ref q_17, .ref q_18, .ref q_21, .ref q_24, .ref q_27, .null, .null])), (q_12, .inr (8, [.null, .int 0, .int 0, .int 0, .int 0, .ref q_13, .ref q_14, .ref q_15, .ref q_16])), (q_44, .inr (10, [.ref q_49, .int 0, .int 0, .ref q_50, .ref q_51, .ref q_52, .ref q_53, .ref q_54, .int 0, .int 0, .int 0, .int 0, .int 0, .int 0, .int 0, .ref q_55, .int 0, .ref q_56, .int 0, .ref q_57, .ref q_58, .int 0, .ref q_59, .int 0, .ref q_60, .ref q_61, .ref q_62, .int 0, .int 0, .long 0, .ref q_63, .ref q_64, .ref q_65])), (q_58, .inl (k_75, 133, .inl sd0))]) [0, 7, 23, 33] (by decide) rfl
        have hK := hK.sub (tys' := [(k_75, .int)]) [25] rfl
        refine lv_aload_n hx hb dL_law_350 rfl (lv_at hl 2 rfl) ?_
        refine lv_aload_n hx hb dL_law_351 rfl (lv_at hl 3 rfl) ?_
        refine lv_iload_n hx hb dL_law_352 rfl (lv_at hl 0 rfl) ?_
        refine lv_iconst (v := 1) hx hb dL_law_353 (by decide) ?_
        refine lv_iadd hx hb dL_law_354 ?_
        refine tc_i 1 (by decide) ?_
        refine va_sld hx hb hX hbl hbA hS (vi_c rfl) dL_law_355 ?_
        refine tc_i (xs 1) rfl ?_
        have hPc := hP.sub (ws' := [(q_1, .inr (9, [.ref q_6, .ref q_8, .ref q_11, .int 0, .ref q_12, .ref q_17, .ref q_18, .ref q_21, .ref q_24, .ref q_27, .null, .null])), (q_12, .inr (8, [.null, .int 0, .int 0, .int 0, .int 0, .ref q_13, .ref q_14, .ref q_15, .ref q_16]))]) [0, 1] rfl
        have hDc := hD.sub (ws' := [(q_1, .inr (9, [.ref q_6, .ref q_8, .ref q_11, .int 0, .ref q_12, .ref q_17, .ref q_18, .ref q_21, .ref q_24, .ref q_27, .null, .null])), (q_12, .inr (8, [.null, .int 0, .int 0, .int 0, .int 0, .ref q_13, .ref q_14, .ref q_15, .ref q_16]))]) [0, 1] (by decide) rfl
        have hKc := hK.sub (tys' := []) [] rfl
        refine cl_V (W.runV (As := [.int (xs 1)]) (rest := []) ⟨hx, hb, hml, hown, hts⟩ (c_x_row l D ad H.size q_1 q_6 q_8 q_11 q_12 q_17 q_18 q_21 q_24 q_27 q_13 q_14 q_15 q_16 (xs 1)) ⟨callB_of 1 hts (gd_C qq_3_197) rfl rfl rfl (hT _ qq_1_1) (hT _ qq_3_194) (by decide +kernel) (⟨Nat.le_of_ble_eq_true rfl, Nat.le_of_ble_eq_true rfl⟩), (hT _ qq_3_195), (hT _ qq_3_196)⟩ (pr_V hPc hKc hDc hN (ci := 9) (q0 := 0) rfl rfl) rfl rfl hl.1 rfl (lv_room (Nat.le_of_ble_eq_true rfl)) dL_law_356 ⟨Nat.le_of_ble_eq_true rfl, Nat.le_of_ble_eq_true rfl⟩) ?_
        refine lv_aload_n hx hb dL_law_359 rfl (lv_at hl 1 rfl) ?_
        refine lv_aload_n hx hb dL_law_360 rfl (lv_at hl 3 rfl) ?_
        refine lv_iload_n hx hb dL_law_361 rfl (lv_at hl 0 rfl) ?_
        refine lv_iconst (v := 1) hx hb dL_law_362 (by decide) ?_
        refine lv_iadd hx hb dL_law_363 ?_
        refine tc_i 1 (by decide) ?_
        refine va_sld hx hb hX hbl hbA hS (vi_c rfl) dL_law_364 ?_
        refine tc_i (xs 1) rfl ?_
        have hPc := hP.sub (ws' := [(q_44, .inr (10, [.ref q_49, .int 0, .int 0, .ref q_50, .ref q_51, .ref q_52, .ref q_53, .ref q_54, .int 0, .int 0, .int 0, .int 0, .int 0, .int 0, .int 0, .ref q_55, .int 0, .ref q_56, .int 0, .ref q_57, .ref q_58, .int 0, .ref q_59, .int 0, .ref q_60, .ref q_61, .ref q_62, .int 0, .int 0, .long 0, .ref q_63, .ref q_64, .ref q_65])), (q_58, .inl (k_75, 133, .inl sd0))]) [2, 3] rfl
        have hDc := hD.sub (ws' := [(q_44, .inr (10, [.ref q_49, .int 0, .int 0, .ref q_50, .ref q_51, .ref q_52, .ref q_53, .ref q_54, .int 0, .int 0, .int 0, .int 0, .int 0, .int 0, .int 0, .ref q_55, .int 0, .ref q_56, .int 0, .ref q_57, .ref q_58, .int 0, .ref q_59, .int 0, .ref q_60, .ref q_61, .ref q_62, .int 0, .int 0, .long 0, .ref q_63, .ref q_64, .ref q_65])), (q_58, .inl (k_75, 133, .inl sd0))]) [2, 3] (by decide) rfl
        have hKc := hK.sub (tys' := [(k_75, .int)]) [0] rfl
        refine cl_V (W.runV (As := [.int (xs 1)]) (rest := [.int (-1)]) ⟨hx, hb, hml, hown, hts⟩ (c_m_row l D ad H.size q_44 q_49 q_50 q_51 q_52 q_53 q_54 q_55 q_56 q_57 q_58 q_59 q_60 q_61 q_62 q_63 q_64 q_65 k_75 (xs 1)) ⟨callB_of 1 hts (gd_C qq_7_42) rfl rfl rfl (hT _ qq_1_9) (hT _ qq_7_39) (by decide +kernel) (⟨Nat.le_of_ble_eq_true rfl, Nat.le_of_ble_eq_true rfl⟩), (hT _ qq_7_40), (hT _ qq_7_41)⟩ (pr_V hPc hKc hDc hN (ci := 10) (q0 := 0) rfl rfl) rfl rfl hl.1 rfl (lv_room (Nat.le_of_ble_eq_true rfl)) dL_law_365 ⟨Nat.le_of_ble_eq_true rfl, Nat.le_of_ble_eq_true rfl⟩) ?_
        refine lv_icmp_eq (tgt := 1025) hx hb dL_law_368 (by decide) (fun _ => ?_) (fun c_146 => absurd (by decide) c_146)
        refine lv_iinc (v := 6) (lv' := [(3, .int 6), (2, .ref q_44), (1, .ref q_1), (0, .ref b)]) hx hb dL_law_1025 hl (k := 0) rfl (by decide) (by decide) rfl (fun ls hl => ?_)
        refine lv_goto (tgt := 18) hx hb dL_law_1028 (by decide) ?_
        refine lv_iload_n hx hb dL_law_18 rfl (lv_at hl 0 rfl) ?_
        refine lv_aload_n hx hb dL_law_19 rfl (lv_at hl 3 rfl) ?_
        refine va_slen hx hb hX hbl hbA hS dL_law_20 ?_
        refine tc_i 6 rfl ?_
        refine lv_bipush (v := 6) hx hb dL_law_21 (by decide) ?_
        refine lv_isub hx hb dL_law_23 ?_
        refine tc_i 0 (by decide) ?_
        refine lv_icmp_gt (tgt := 1031) hx hb dL_law_24 (by decide) (fun _ => ?_) (fun c_147 => absurd (by decide) c_147)
        refine lv_iconst (v := 1) hx hb dL_law_1031 (by decide) ?_
        refine va_forget (fun q h => by have h9 := hS.2.2 q h; rw [hAe] at h9; exact h9) ?_
        refine W.widen (k := 600000) (n := 7302250) (Nat.le_of_ble_eq_true rfl) (Nat.le_of_ble_eq_true rfl) ?_
        exact lw_ret hx hb hr hlocks dL_law_1032
      · subst hsw
        refine lv_tableIn (tgt := 373) hx hb dL_law_33 (by decide) (by decide) rfl (by decide) ?_
        have hP := hP.sub (ws' := [(q_1, .inr (9, [.ref q_6, .ref q_8, .ref q_11, .int 0, .ref q_12, .ref q_17, .ref q_18, .ref q_21, .ref q_24, .ref q_27, .null, .null])), (q_12, .inr (8, [.null, .int 0, .int 0, .int 0, .int 0, .ref q_13, .ref q_14, .ref q_15, .ref q_16])), (q_44, .inr (10, [.ref q_49, .int 0, .int 0, .ref q_50, .ref q_51, .ref q_52, .ref q_53, .ref q_54, .int 0, .int 0, .int 0, .int 0, .int 0, .int 0, .int 0, .ref q_55, .int 0, .ref q_56, .int 0, .ref q_57, .ref q_58, .int 0, .ref q_59, .int 0, .ref q_60, .ref q_61, .ref q_62, .int 0, .int 0, .long 0, .ref q_63, .ref q_64, .ref q_65])), (q_58, .inl (k_75, 133, .inl sd0))]) [0, 7, 23, 33] rfl
        have hD := hD.sub (ws' := [(q_1, .inr (9, [.ref q_6, .ref q_8, .ref q_11, .int 0, .ref q_12, .ref q_17, .ref q_18, .ref q_21, .ref q_24, .ref q_27, .null, .null])), (q_12, .inr (8, [.null, .int 0, .int 0, .int 0, .int 0, .ref q_13, .ref q_14, .ref q_15, .ref q_16])), (q_44, .inr (10, [.ref q_49, .int 0, .int 0, .ref q_50, .ref q_51, .ref q_52, .ref q_53, .ref q_54, .int 0, .int 0, .int 0, .int 0, .int 0, .int 0, .int 0, .ref q_55, .int 0, .ref q_56, .int 0, .ref q_57, .ref q_58, .int 0, .ref q_59, .int 0, .ref q_60, .ref q_61, .ref q_62, .int 0, .int 0, .long 0, .ref q_63, .ref q_64, .ref q_65])), (q_58, .inl (k_75, 133, .inl sd0))]) [0, 7, 23, 33] (by decide) rfl
        have hK := hK.sub (tys' := [(k_75, .int)]) [25] rfl
        refine lv_aload_n hx hb dL_law_373 rfl (lv_at hl 2 rfl) ?_
        refine lv_aload_n hx hb dL_law_374 rfl (lv_at hl 3 rfl) ?_
        refine lv_iload_n hx hb dL_law_375 rfl (lv_at hl 0 rfl) ?_
        refine lv_iconst (v := 1) hx hb dL_law_376 (by decide) ?_
        refine lv_iadd hx hb dL_law_377 ?_
        refine tc_i 1 (by decide) ?_
        refine va_sld hx hb hX hbl hbA hS (vi_c rfl) dL_law_378 ?_
        refine tc_i (xs 1) rfl ?_
        have hPc := hP.sub (ws' := [(q_1, .inr (9, [.ref q_6, .ref q_8, .ref q_11, .int 0, .ref q_12, .ref q_17, .ref q_18, .ref q_21, .ref q_24, .ref q_27, .null, .null])), (q_12, .inr (8, [.null, .int 0, .int 0, .int 0, .int 0, .ref q_13, .ref q_14, .ref q_15, .ref q_16]))]) [0, 1] rfl
        have hDc := hD.sub (ws' := [(q_1, .inr (9, [.ref q_6, .ref q_8, .ref q_11, .int 0, .ref q_12, .ref q_17, .ref q_18, .ref q_21, .ref q_24, .ref q_27, .null, .null])), (q_12, .inr (8, [.null, .int 0, .int 0, .int 0, .int 0, .ref q_13, .ref q_14, .ref q_15, .ref q_16]))]) [0, 1] (by decide) rfl
        have hKc := hK.sub (tys' := []) [] rfl
        refine cl_V (W.runV (As := [.int (xs 1)]) (rest := []) ⟨hx, hb, hml, hown, hts⟩ (c_x_shown l D ad H.size q_1 q_6 q_8 q_11 q_12 q_17 q_18 q_21 q_24 q_27 q_13 q_14 q_15 q_16 (xs 1)) ⟨callB_of 1 hts (gd_C qq_3_225) rfl rfl rfl (hT _ qq_1_1) (hT _ qq_3_222) (by decide +kernel) (⟨Nat.le_of_ble_eq_true rfl, Nat.le_of_ble_eq_true rfl⟩), (hT _ qq_3_223), (hT _ qq_3_224)⟩ (pr_V hPc hKc hDc hN (ci := 9) (q0 := 0) rfl rfl) rfl rfl hl.1 rfl (lv_room (Nat.le_of_ble_eq_true rfl)) dL_law_379 ⟨Nat.le_of_ble_eq_true rfl, Nat.le_of_ble_eq_true rfl⟩) ?_
        refine lv_aload_n hx hb dL_law_382 rfl (lv_at hl 1 rfl) ?_
        refine lv_aload_n hx hb dL_law_383 rfl (lv_at hl 3 rfl) ?_
        refine lv_iload_n hx hb dL_law_384 rfl (lv_at hl 0 rfl) ?_
        refine lv_iconst (v := 1) hx hb dL_law_385 (by decide) ?_
        refine lv_iadd hx hb dL_law_386 ?_
        refine tc_i 1 (by decide) ?_
        refine va_sld hx hb hX hbl hbA hS (vi_c rfl) dL_law_387 ?_
        refine tc_i (xs 1) rfl ?_
        have hPc := hP.sub (ws' := [(q_44, .inr (10, [.ref q_49, .int 0, .int 0, .ref q_50, .ref q_51, .ref q_52, .ref q_53, .ref q_54, .int 0, .int 0, .int 0, .int 0, .int 0, .int 0, .int 0, .ref q_55, .int 0, .ref q_56, .int 0, .ref q_57, .ref q_58, .int 0, .ref q_59, .int 0, .ref q_60, .ref q_61, .ref q_62, .int 0, .int 0, .long 0, .ref q_63, .ref q_64, .ref q_65])), (q_58, .inl (k_75, 133, .inl sd0))]) [2, 3] rfl
        have hDc := hD.sub (ws' := [(q_44, .inr (10, [.ref q_49, .int 0, .int 0, .ref q_50, .ref q_51, .ref q_52, .ref q_53, .ref q_54, .int 0, .int 0, .int 0, .int 0, .int 0, .int 0, .int 0, .ref q_55, .int 0, .ref q_56, .int 0, .ref q_57, .ref q_58, .int 0, .ref q_59, .int 0, .ref q_60, .ref q_61, .ref q_62, .int 0, .int 0, .long 0, .ref q_63, .ref q_64, .ref q_65])), (q_58, .inl (k_75, 133, .inl sd0))]) [2, 3] (by decide) rfl
        have hKc := hK.sub (tys' := [(k_75, .int)]) [0] rfl
        refine cl_V (W.runV (As := [.int (xs 1)]) (rest := [.int (-1)]) ⟨hx, hb, hml, hown, hts⟩ (c_m_shown l D ad H.size q_44 q_49 q_50 q_51 q_52 q_53 q_54 q_55 q_56 q_57 q_58 q_59 q_60 q_61 q_62 q_63 q_64 q_65 k_75 (xs 1)) ⟨callB_of 1 hts (gd_C qq_7_101) rfl rfl rfl (hT _ qq_1_9) (hT _ qq_7_98) (by decide +kernel) (⟨Nat.le_of_ble_eq_true rfl, Nat.le_of_ble_eq_true rfl⟩), (hT _ qq_7_99), (hT _ qq_7_100)⟩ (pr_V hPc hKc hDc hN (ci := 10) (q0 := 0) rfl rfl) rfl rfl hl.1 rfl (lv_room (Nat.le_of_ble_eq_true rfl)) dL_law_388 ⟨Nat.le_of_ble_eq_true rfl, Nat.le_of_ble_eq_true rfl⟩) ?_
        refine lv_icmp_eq (tgt := 1025) hx hb dL_law_391 (by decide) (fun _ => ?_) (fun c_148 => absurd (by decide) c_148)
        refine lv_iinc (v := 6) (lv' := [(3, .int 6), (2, .ref q_44), (1, .ref q_1), (0, .ref b)]) hx hb dL_law_1025 hl (k := 0) rfl (by decide) (by decide) rfl (fun ls hl => ?_)
        refine lv_goto (tgt := 18) hx hb dL_law_1028 (by decide) ?_
        refine lv_iload_n hx hb dL_law_18 rfl (lv_at hl 0 rfl) ?_
        refine lv_aload_n hx hb dL_law_19 rfl (lv_at hl 3 rfl) ?_
        refine va_slen hx hb hX hbl hbA hS dL_law_20 ?_
        refine tc_i 6 rfl ?_
        refine lv_bipush (v := 6) hx hb dL_law_21 (by decide) ?_
        refine lv_isub hx hb dL_law_23 ?_
        refine tc_i 0 (by decide) ?_
        refine lv_icmp_gt (tgt := 1031) hx hb dL_law_24 (by decide) (fun _ => ?_) (fun c_149 => absurd (by decide) c_149)
        refine lv_iconst (v := 1) hx hb dL_law_1031 (by decide) ?_
        refine va_forget (fun q h => by have h9 := hS.2.2 q h; rw [hAe] at h9; exact h9) ?_
        refine W.widen (k := 600000) (n := 7302250) (Nat.le_of_ble_eq_true rfl) (Nat.le_of_ble_eq_true rfl) ?_
        exact lw_ret hx hb hr hlocks dL_law_1032
      · subst hsw
        refine lv_tableIn (tgt := 396) hx hb dL_law_33 (by decide) (by decide) rfl (by decide) ?_
        have hP := hP.sub (ws' := [(q_1, .inr (9, [.ref q_6, .ref q_8, .ref q_11, .int 0, .ref q_12, .ref q_17, .ref q_18, .ref q_21, .ref q_24, .ref q_27, .null, .null])), (q_12, .inr (8, [.null, .int 0, .int 0, .int 0, .int 0, .ref q_13, .ref q_14, .ref q_15, .ref q_16])), (q_44, .inr (10, [.ref q_49, .int 0, .int 0, .ref q_50, .ref q_51, .ref q_52, .ref q_53, .ref q_54, .int 0, .int 0, .int 0, .int 0, .int 0, .int 0, .int 0, .ref q_55, .int 0, .ref q_56, .int 0, .ref q_57, .ref q_58, .int 0, .ref q_59, .int 0, .ref q_60, .ref q_61, .ref q_62, .int 0, .int 0, .long 0, .ref q_63, .ref q_64, .ref q_65])), (q_58, .inl (k_75, 133, .inl sd0))]) [0, 7, 23, 33] rfl
        have hD := hD.sub (ws' := [(q_1, .inr (9, [.ref q_6, .ref q_8, .ref q_11, .int 0, .ref q_12, .ref q_17, .ref q_18, .ref q_21, .ref q_24, .ref q_27, .null, .null])), (q_12, .inr (8, [.null, .int 0, .int 0, .int 0, .int 0, .ref q_13, .ref q_14, .ref q_15, .ref q_16])), (q_44, .inr (10, [.ref q_49, .int 0, .int 0, .ref q_50, .ref q_51, .ref q_52, .ref q_53, .ref q_54, .int 0, .int 0, .int 0, .int 0, .int 0, .int 0, .int 0, .ref q_55, .int 0, .ref q_56, .int 0, .ref q_57, .ref q_58, .int 0, .ref q_59, .int 0, .ref q_60, .ref q_61, .ref q_62, .int 0, .int 0, .long 0, .ref q_63, .ref q_64, .ref q_65])), (q_58, .inl (k_75, 133, .inl sd0))]) [0, 7, 23, 33] (by decide) rfl
        have hK := hK.sub (tys' := [(k_75, .int)]) [25] rfl
        refine lv_aload_n hx hb dL_law_396 rfl (lv_at hl 2 rfl) ?_
        refine lv_aload_n hx hb dL_law_397 rfl (lv_at hl 3 rfl) ?_
        refine lv_iload_n hx hb dL_law_398 rfl (lv_at hl 0 rfl) ?_
        refine lv_iconst (v := 1) hx hb dL_law_399 (by decide) ?_
        refine lv_iadd hx hb dL_law_400 ?_
        refine tc_i 1 (by decide) ?_
        refine va_sld hx hb hX hbl hbA hS (vi_c rfl) dL_law_401 ?_
        refine tc_i (xs 1) rfl ?_
        have hPc := hP.sub (ws' := [(q_1, .inr (9, [.ref q_6, .ref q_8, .ref q_11, .int 0, .ref q_12, .ref q_17, .ref q_18, .ref q_21, .ref q_24, .ref q_27, .null, .null])), (q_12, .inr (8, [.null, .int 0, .int 0, .int 0, .int 0, .ref q_13, .ref q_14, .ref q_15, .ref q_16]))]) [0, 1] rfl
        have hDc := hD.sub (ws' := [(q_1, .inr (9, [.ref q_6, .ref q_8, .ref q_11, .int 0, .ref q_12, .ref q_17, .ref q_18, .ref q_21, .ref q_24, .ref q_27, .null, .null])), (q_12, .inr (8, [.null, .int 0, .int 0, .int 0, .int 0, .ref q_13, .ref q_14, .ref q_15, .ref q_16]))]) [0, 1] (by decide) rfl
        have hKc := hK.sub (tys' := []) [] rfl
        refine cl_V (W.runV (As := [.int (xs 1)]) (rest := []) ⟨hx, hb, hml, hown, hts⟩ (c_x_unfasten l D ad H.size q_1 q_6 q_8 q_11 q_12 q_17 q_18 q_21 q_24 q_27 q_13 q_14 q_15 q_16 (xs 1)) ⟨callB_of 1 hts (gd_C qq_3_234) rfl rfl rfl (hT _ qq_1_1) (hT _ qq_3_231) (by decide +kernel) (⟨Nat.le_of_ble_eq_true rfl, Nat.le_of_ble_eq_true rfl⟩), (hT _ qq_3_232), (hT _ qq_3_233)⟩ (pr_V hPc hKc hDc hN (ci := 9) (q0 := 0) rfl rfl) rfl rfl hl.1 rfl (lv_room (Nat.le_of_ble_eq_true rfl)) dL_law_402 ⟨Nat.le_of_ble_eq_true rfl, Nat.le_of_ble_eq_true rfl⟩) ?_
        refine lv_aload_n hx hb dL_law_405 rfl (lv_at hl 1 rfl) ?_
        refine lv_aload_n hx hb dL_law_406 rfl (lv_at hl 3 rfl) ?_
        refine lv_iload_n hx hb dL_law_407 rfl (lv_at hl 0 rfl) ?_
        refine lv_iconst (v := 1) hx hb dL_law_408 (by decide) ?_
        refine lv_iadd hx hb dL_law_409 ?_
        refine tc_i 1 (by decide) ?_
        refine va_sld hx hb hX hbl hbA hS (vi_c rfl) dL_law_410 ?_
        refine tc_i (xs 1) rfl ?_
        have hPc := hP.sub (ws' := [(q_44, .inr (10, [.ref q_49, .int 0, .int 0, .ref q_50, .ref q_51, .ref q_52, .ref q_53, .ref q_54, .int 0, .int 0, .int 0, .int 0, .int 0, .int 0, .int 0, .ref q_55, .int 0, .ref q_56, .int 0, .ref q_57, .ref q_58, .int 0, .ref q_59, .int 0, .ref q_60, .ref q_61, .ref q_62, .int 0, .int 0, .long 0, .ref q_63, .ref q_64, .ref q_65])), (q_58, .inl (k_75, 133, .inl sd0))]) [2, 3] rfl
        have hDc := hD.sub (ws' := [(q_44, .inr (10, [.ref q_49, .int 0, .int 0, .ref q_50, .ref q_51, .ref q_52, .ref q_53, .ref q_54, .int 0, .int 0, .int 0, .int 0, .int 0, .int 0, .int 0, .ref q_55, .int 0, .ref q_56, .int 0, .ref q_57, .ref q_58, .int 0, .ref q_59, .int 0, .ref q_60, .ref q_61, .ref q_62, .int 0, .int 0, .long 0, .ref q_63, .ref q_64, .ref q_65])), (q_58, .inl (k_75, 133, .inl sd0))]) [2, 3] (by decide) rfl
        have hKc := hK.sub (tys' := [(k_75, .int)]) [0] rfl
        refine cl_V (W.runV (As := [.int (xs 1)]) (rest := [.int (-1)]) ⟨hx, hb, hml, hown, hts⟩ (c_m_unfasten l D ad H.size q_44 q_49 q_50 q_51 q_52 q_53 q_54 q_55 q_56 q_57 q_58 q_59 q_60 q_61 q_62 q_63 q_64 q_65 k_75 (xs 1)) ⟨callB_of 1 hts (gd_C qq_7_114) rfl rfl rfl (hT _ qq_1_9) (hT _ qq_7_111) (by decide +kernel) (⟨Nat.le_of_ble_eq_true rfl, Nat.le_of_ble_eq_true rfl⟩), (hT _ qq_7_112), (hT _ qq_7_113)⟩ (pr_V hPc hKc hDc hN (ci := 10) (q0 := 0) rfl rfl) rfl rfl hl.1 rfl (lv_room (Nat.le_of_ble_eq_true rfl)) dL_law_411 ⟨Nat.le_of_ble_eq_true rfl, Nat.le_of_ble_eq_true rfl⟩) ?_
        refine lv_icmp_eq (tgt := 1025) hx hb dL_law_414 (by decide) (fun _ => ?_) (fun c_150 => absurd (by decide) c_150)
        refine lv_iinc (v := 6) (lv' := [(3, .int 6), (2, .ref q_44), (1, .ref q_1), (0, .ref b)]) hx hb dL_law_1025 hl (k := 0) rfl (by decide) (by decide) rfl (fun ls hl => ?_)
        refine lv_goto (tgt := 18) hx hb dL_law_1028 (by decide) ?_
        refine lv_iload_n hx hb dL_law_18 rfl (lv_at hl 0 rfl) ?_
        refine lv_aload_n hx hb dL_law_19 rfl (lv_at hl 3 rfl) ?_
        refine va_slen hx hb hX hbl hbA hS dL_law_20 ?_
        refine tc_i 6 rfl ?_
        refine lv_bipush (v := 6) hx hb dL_law_21 (by decide) ?_
        refine lv_isub hx hb dL_law_23 ?_
        refine tc_i 0 (by decide) ?_
        refine lv_icmp_gt (tgt := 1031) hx hb dL_law_24 (by decide) (fun _ => ?_) (fun c_151 => absurd (by decide) c_151)
        refine lv_iconst (v := 1) hx hb dL_law_1031 (by decide) ?_
        refine va_forget (fun q h => by have h9 := hS.2.2 q h; rw [hAe] at h9; exact h9) ?_
        refine W.widen (k := 600000) (n := 7302250) (Nat.le_of_ble_eq_true rfl) (Nat.le_of_ble_eq_true rfl) ?_
        exact lw_ret hx hb hr hlocks dL_law_1032
      · subst hsw
        refine lv_tableIn (tgt := 419) hx hb dL_law_33 (by decide) (by decide) rfl (by decide) ?_
        have hP := hP.sub (ws' := [(q_1, .inr (9, [.ref q_6, .ref q_8, .ref q_11, .int 0, .ref q_12, .ref q_17, .ref q_18, .ref q_21, .ref q_24, .ref q_27, .null, .null])), (q_12, .inr (8, [.null, .int 0, .int 0, .int 0, .int 0, .ref q_13, .ref q_14, .ref q_15, .ref q_16])), (q_44, .inr (10, [.ref q_49, .int 0, .int 0, .ref q_50, .ref q_51, .ref q_52, .ref q_53, .ref q_54, .int 0, .int 0, .int 0, .int 0, .int 0, .int 0, .int 0, .ref q_55, .int 0, .ref q_56, .int 0, .ref q_57, .ref q_58, .int 0, .ref q_59, .int 0, .ref q_60, .ref q_61, .ref q_62, .int 0, .int 0, .long 0, .ref q_63, .ref q_64, .ref q_65])), (q_58, .inl (k_75, 133, .inl sd0))]) [0, 7, 23, 33] rfl
        have hD := hD.sub (ws' := [(q_1, .inr (9, [.ref q_6, .ref q_8, .ref q_11, .int 0, .ref q_12, .ref q_17, .ref q_18, .ref q_21, .ref q_24, .ref q_27, .null, .null])), (q_12, .inr (8, [.null, .int 0, .int 0, .int 0, .int 0, .ref q_13, .ref q_14, .ref q_15, .ref q_16])), (q_44, .inr (10, [.ref q_49, .int 0, .int 0, .ref q_50, .ref q_51, .ref q_52, .ref q_53, .ref q_54, .int 0, .int 0, .int 0, .int 0, .int 0, .int 0, .int 0, .ref q_55, .int 0, .ref q_56, .int 0, .ref q_57, .ref q_58, .int 0, .ref q_59, .int 0, .ref q_60, .ref q_61, .ref q_62, .int 0, .int 0, .long 0, .ref q_63, .ref q_64, .ref q_65])), (q_58, .inl (k_75, 133, .inl sd0))]) [0, 7, 23, 33] (by decide) rfl
        have hK := hK.sub (tys' := [(k_75, .int)]) [25] rfl
        refine lv_aload_n hx hb dL_law_419 rfl (lv_at hl 2 rfl) ?_
        refine lv_aload_n hx hb dL_law_420 rfl (lv_at hl 3 rfl) ?_
        refine lv_iload_n hx hb dL_law_421 rfl (lv_at hl 0 rfl) ?_
        refine lv_iconst (v := 1) hx hb dL_law_422 (by decide) ?_
        refine lv_iadd hx hb dL_law_423 ?_
        refine tc_i 1 (by decide) ?_
        refine va_sld hx hb hX hbl hbA hS (vi_c rfl) dL_law_424 ?_
        refine tc_i (xs 1) rfl ?_
        refine lv_aload_n hx hb dL_law_425 rfl (lv_at hl 3 rfl) ?_
        refine lv_iload_n hx hb dL_law_426 rfl (lv_at hl 0 rfl) ?_
        refine lv_iconst (v := 2) hx hb dL_law_427 (by decide) ?_
        refine lv_iadd hx hb dL_law_428 ?_
        refine tc_i 2 (by decide) ?_
        refine va_sld hx hb hX hbl hbA hS (vi_c rfl) dL_law_429 ?_
        refine tc_i (xs 2) rfl ?_
        have hPc := hP.sub (ws' := [(q_1, .inr (9, [.ref q_6, .ref q_8, .ref q_11, .int 0, .ref q_12, .ref q_17, .ref q_18, .ref q_21, .ref q_24, .ref q_27, .null, .null])), (q_12, .inr (8, [.null, .int 0, .int 0, .int 0, .int 0, .ref q_13, .ref q_14, .ref q_15, .ref q_16]))]) [0, 1] rfl
        have hDc := hD.sub (ws' := [(q_1, .inr (9, [.ref q_6, .ref q_8, .ref q_11, .int 0, .ref q_12, .ref q_17, .ref q_18, .ref q_21, .ref q_24, .ref q_27, .null, .null])), (q_12, .inr (8, [.null, .int 0, .int 0, .int 0, .int 0, .ref q_13, .ref q_14, .ref q_15, .ref q_16]))]) [0, 1] (by decide) rfl
        have hKc := hK.sub (tys' := []) [] rfl
        refine cl_V (W.runV (As := [.int (xs 1), .int (xs 2)]) (rest := []) ⟨hx, hb, hml, hown, hts⟩ (c_x_fasten l D ad H.size q_1 q_6 q_8 q_11 q_12 q_17 q_18 q_21 q_24 q_27 q_13 q_14 q_15 q_16 (xs 1) (xs 2)) ⟨callB_of 2 hts (gd_C qq_4_24) rfl rfl rfl (hT _ qq_1_1) (hT _ qq_4_21) (by decide +kernel) (⟨Nat.le_of_ble_eq_true rfl, Nat.le_of_ble_eq_true rfl⟩), (hT _ qq_4_22), (hT _ qq_4_23)⟩ (pr_V hPc hKc hDc hN (ci := 9) (q0 := 0) rfl rfl) rfl rfl hl.1 rfl (lv_room (Nat.le_of_ble_eq_true rfl)) dL_law_430 ⟨Nat.le_of_ble_eq_true rfl, Nat.le_of_ble_eq_true rfl⟩) ?_
        refine lv_aload_n hx hb dL_law_433 rfl (lv_at hl 1 rfl) ?_
        refine lv_aload_n hx hb dL_law_434 rfl (lv_at hl 3 rfl) ?_
        refine lv_iload_n hx hb dL_law_435 rfl (lv_at hl 0 rfl) ?_
        refine lv_iconst (v := 1) hx hb dL_law_436 (by decide) ?_
        refine lv_iadd hx hb dL_law_437 ?_
        refine tc_i 1 (by decide) ?_
        refine va_sld hx hb hX hbl hbA hS (vi_c rfl) dL_law_438 ?_
        refine tc_i (xs 1) rfl ?_
        refine lv_aload_n hx hb dL_law_439 rfl (lv_at hl 3 rfl) ?_
        refine lv_iload_n hx hb dL_law_440 rfl (lv_at hl 0 rfl) ?_
        refine lv_iconst (v := 2) hx hb dL_law_441 (by decide) ?_
        refine lv_iadd hx hb dL_law_442 ?_
        refine tc_i 2 (by decide) ?_
        refine va_sld hx hb hX hbl hbA hS (vi_c rfl) dL_law_443 ?_
        refine tc_i (xs 2) rfl ?_
        have hPc := hP.sub (ws' := [(q_44, .inr (10, [.ref q_49, .int 0, .int 0, .ref q_50, .ref q_51, .ref q_52, .ref q_53, .ref q_54, .int 0, .int 0, .int 0, .int 0, .int 0, .int 0, .int 0, .ref q_55, .int 0, .ref q_56, .int 0, .ref q_57, .ref q_58, .int 0, .ref q_59, .int 0, .ref q_60, .ref q_61, .ref q_62, .int 0, .int 0, .long 0, .ref q_63, .ref q_64, .ref q_65])), (q_58, .inl (k_75, 133, .inl sd0))]) [2, 3] rfl
        have hDc := hD.sub (ws' := [(q_44, .inr (10, [.ref q_49, .int 0, .int 0, .ref q_50, .ref q_51, .ref q_52, .ref q_53, .ref q_54, .int 0, .int 0, .int 0, .int 0, .int 0, .int 0, .int 0, .ref q_55, .int 0, .ref q_56, .int 0, .ref q_57, .ref q_58, .int 0, .ref q_59, .int 0, .ref q_60, .ref q_61, .ref q_62, .int 0, .int 0, .long 0, .ref q_63, .ref q_64, .ref q_65])), (q_58, .inl (k_75, 133, .inl sd0))]) [2, 3] (by decide) rfl
        have hKc := hK.sub (tys' := [(k_75, .int)]) [0] rfl
        refine cl_V (W.runV (As := [.int (xs 1), .int (xs 2)]) (rest := [.int (-1)]) ⟨hx, hb, hml, hown, hts⟩ (c_m_fasten l D ad H.size q_44 q_49 q_50 q_51 q_52 q_53 q_54 q_55 q_56 q_57 q_58 q_59 q_60 q_61 q_62 q_63 q_64 q_65 k_75 (xs 1) (xs 2)) ⟨callB_of 2 hts (gd_C qq_7_152) rfl rfl rfl (hT _ qq_1_9) (hT _ qq_7_149) (by decide +kernel) (⟨Nat.le_of_ble_eq_true rfl, Nat.le_of_ble_eq_true rfl⟩), (hT _ qq_7_150), (hT _ qq_7_151)⟩ (pr_V hPc hKc hDc hN (ci := 10) (q0 := 0) rfl rfl) rfl rfl hl.1 rfl (lv_room (Nat.le_of_ble_eq_true rfl)) dL_law_444 ⟨Nat.le_of_ble_eq_true rfl, Nat.le_of_ble_eq_true rfl⟩) ?_
        refine lv_icmp_eq (tgt := 1025) hx hb dL_law_447 (by decide) (fun _ => ?_) (fun c_152 => absurd (by decide) c_152)
        refine lv_iinc (v := 6) (lv' := [(3, .int 6), (2, .ref q_44), (1, .ref q_1), (0, .ref b)]) hx hb dL_law_1025 hl (k := 0) rfl (by decide) (by decide) rfl (fun ls hl => ?_)
        refine lv_goto (tgt := 18) hx hb dL_law_1028 (by decide) ?_
        refine lv_iload_n hx hb dL_law_18 rfl (lv_at hl 0 rfl) ?_
        refine lv_aload_n hx hb dL_law_19 rfl (lv_at hl 3 rfl) ?_
        refine va_slen hx hb hX hbl hbA hS dL_law_20 ?_
        refine tc_i 6 rfl ?_
        refine lv_bipush (v := 6) hx hb dL_law_21 (by decide) ?_
        refine lv_isub hx hb dL_law_23 ?_
        refine tc_i 0 (by decide) ?_
        refine lv_icmp_gt (tgt := 1031) hx hb dL_law_24 (by decide) (fun _ => ?_) (fun c_153 => absurd (by decide) c_153)
        refine lv_iconst (v := 1) hx hb dL_law_1031 (by decide) ?_
        refine va_forget (fun q h => by have h9 := hS.2.2 q h; rw [hAe] at h9; exact h9) ?_
        refine W.widen (k := 600000) (n := 7302250) (Nat.le_of_ble_eq_true rfl) (Nat.le_of_ble_eq_true rfl) ?_
        exact lw_ret hx hb hr hlocks dL_law_1032
      · subst hsw
        refine lv_tableIn (tgt := 452) hx hb dL_law_33 (by decide) (by decide) rfl (by decide) ?_
        have hP := hP.sub (ws' := [(q_1, .inr (9, [.ref q_6, .ref q_8, .ref q_11, .int 0, .ref q_12, .ref q_17, .ref q_18, .ref q_21, .ref q_24, .ref q_27, .null, .null])), (q_12, .inr (8, [.null, .int 0, .int 0, .int 0, .int 0, .ref q_13, .ref q_14, .ref q_15, .ref q_16])), (q_44, .inr (10, [.ref q_49, .int 0, .int 0, .ref q_50, .ref q_51, .ref q_52, .ref q_53, .ref q_54, .int 0, .int 0, .int 0, .int 0, .int 0, .int 0, .int 0, .ref q_55, .int 0, .ref q_56, .int 0, .ref q_57, .ref q_58, .int 0, .ref q_59, .int 0, .ref q_60, .ref q_61, .ref q_62, .int 0, .int 0, .long 0, .ref q_63, .ref q_64, .ref q_65])), (q_58, .inl (k_75, 133, .inl sd0))]) [0, 7, 23, 33] rfl
        have hD := hD.sub (ws' := [(q_1, .inr (9, [.ref q_6, .ref q_8, .ref q_11, .int 0, .ref q_12, .ref q_17, .ref q_18, .ref q_21, .ref q_24, .ref q_27, .null, .null])), (q_12, .inr (8, [.null, .int 0, .int 0, .int 0, .int 0, .ref q_13, .ref q_14, .ref q_15, .ref q_16])), (q_44, .inr (10, [.ref q_49, .int 0, .int 0, .ref q_50, .ref q_51, .ref q_52, .ref q_53, .ref q_54, .int 0, .int 0, .int 0, .int 0, .int 0, .int 0, .int 0, .ref q_55, .int 0, .ref q_56, .int 0, .ref q_57, .ref q_58, .int 0, .ref q_59, .int 0, .ref q_60, .ref q_61, .ref q_62, .int 0, .int 0, .long 0, .ref q_63, .ref q_64, .ref q_65])), (q_58, .inl (k_75, 133, .inl sd0))]) [0, 7, 23, 33] (by decide) rfl
        have hK := hK.sub (tys' := [(k_75, .int)]) [25] rfl
        refine lv_aload_n hx hb dL_law_452 rfl (lv_at hl 2 rfl) ?_
        refine lv_aload_n hx hb dL_law_453 rfl (lv_at hl 3 rfl) ?_
        refine lv_iload_n hx hb dL_law_454 rfl (lv_at hl 0 rfl) ?_
        refine lv_iconst (v := 1) hx hb dL_law_455 (by decide) ?_
        refine lv_iadd hx hb dL_law_456 ?_
        refine tc_i 1 (by decide) ?_
        refine va_sld hx hb hX hbl hbA hS (vi_c rfl) dL_law_457 ?_
        refine tc_i (xs 1) rfl ?_
        have hPc := hP.sub (ws' := [(q_1, .inr (9, [.ref q_6, .ref q_8, .ref q_11, .int 0, .ref q_12, .ref q_17, .ref q_18, .ref q_21, .ref q_24, .ref q_27, .null, .null])), (q_12, .inr (8, [.null, .int 0, .int 0, .int 0, .int 0, .ref q_13, .ref q_14, .ref q_15, .ref q_16]))]) [0, 1] rfl
        have hDc := hD.sub (ws' := [(q_1, .inr (9, [.ref q_6, .ref q_8, .ref q_11, .int 0, .ref q_12, .ref q_17, .ref q_18, .ref q_21, .ref q_24, .ref q_27, .null, .null])), (q_12, .inr (8, [.null, .int 0, .int 0, .int 0, .int 0, .ref q_13, .ref q_14, .ref q_15, .ref q_16]))]) [0, 1] (by decide) rfl
        have hKc := hK.sub (tys' := []) [] rfl
        refine cl_V (W.runV (As := [.int (xs 1)]) (rest := []) ⟨hx, hb, hml, hown, hts⟩ (c_x_waits l D ad H.size q_1 q_6 q_8 q_11 q_12 q_17 q_18 q_21 q_24 q_27 q_13 q_14 q_15 q_16 (xs 1)) ⟨callB_of 1 hts (gd_C qq_4_33) rfl rfl rfl (hT _ qq_1_1) (hT _ qq_4_30) (by decide +kernel) (⟨Nat.le_of_ble_eq_true rfl, Nat.le_of_ble_eq_true rfl⟩), (hT _ qq_4_31), (hT _ qq_4_32)⟩ (pr_V hPc hKc hDc hN (ci := 9) (q0 := 0) rfl rfl) rfl rfl hl.1 rfl (lv_room (Nat.le_of_ble_eq_true rfl)) dL_law_458 ⟨Nat.le_of_ble_eq_true rfl, Nat.le_of_ble_eq_true rfl⟩) ?_
        refine lv_aload_n hx hb dL_law_461 rfl (lv_at hl 1 rfl) ?_
        refine lv_aload_n hx hb dL_law_462 rfl (lv_at hl 3 rfl) ?_
        refine lv_iload_n hx hb dL_law_463 rfl (lv_at hl 0 rfl) ?_
        refine lv_iconst (v := 1) hx hb dL_law_464 (by decide) ?_
        refine lv_iadd hx hb dL_law_465 ?_
        refine tc_i 1 (by decide) ?_
        refine va_sld hx hb hX hbl hbA hS (vi_c rfl) dL_law_466 ?_
        refine tc_i (xs 1) rfl ?_
        have hPc := hP.sub (ws' := [(q_44, .inr (10, [.ref q_49, .int 0, .int 0, .ref q_50, .ref q_51, .ref q_52, .ref q_53, .ref q_54, .int 0, .int 0, .int 0, .int 0, .int 0, .int 0, .int 0, .ref q_55, .int 0, .ref q_56, .int 0, .ref q_57, .ref q_58, .int 0, .ref q_59, .int 0, .ref q_60, .ref q_61, .ref q_62, .int 0, .int 0, .long 0, .ref q_63, .ref q_64, .ref q_65])), (q_58, .inl (k_75, 133, .inl sd0))]) [2, 3] rfl
        have hDc := hD.sub (ws' := [(q_44, .inr (10, [.ref q_49, .int 0, .int 0, .ref q_50, .ref q_51, .ref q_52, .ref q_53, .ref q_54, .int 0, .int 0, .int 0, .int 0, .int 0, .int 0, .int 0, .ref q_55, .int 0, .ref q_56, .int 0, .ref q_57, .ref q_58, .int 0, .ref q_59, .int 0, .ref q_60, .ref q_61, .ref q_62, .int 0, .int 0, .long 0, .ref q_63, .ref q_64, .ref q_65])), (q_58, .inl (k_75, 133, .inl sd0))]) [2, 3] (by decide) rfl
        have hKc := hK.sub (tys' := [(k_75, .int)]) [0] rfl
        refine cl_V (W.runV (As := [.int (xs 1)]) (rest := [.int (-1)]) ⟨hx, hb, hml, hown, hts⟩ (c_m_waits l D ad H.size q_44 q_49 q_50 q_51 q_52 q_53 q_54 q_55 q_56 q_57 q_58 q_59 q_60 q_61 q_62 q_63 q_64 q_65 k_75 (xs 1)) ⟨callB_of 1 hts (gd_C qq_7_156) rfl rfl rfl (hT _ qq_1_9) (hT _ qq_7_153) (by decide +kernel) (⟨Nat.le_of_ble_eq_true rfl, Nat.le_of_ble_eq_true rfl⟩), (hT _ qq_7_154), (hT _ qq_7_155)⟩ (pr_V hPc hKc hDc hN (ci := 10) (q0 := 0) rfl rfl) rfl rfl hl.1 rfl (lv_room (Nat.le_of_ble_eq_true rfl)) dL_law_467 ⟨Nat.le_of_ble_eq_true rfl, Nat.le_of_ble_eq_true rfl⟩) ?_
        refine lv_icmp_eq (tgt := 1025) hx hb dL_law_470 (by decide) (fun _ => ?_) (fun c_154 => absurd (by decide) c_154)
        refine lv_iinc (v := 6) (lv' := [(3, .int 6), (2, .ref q_44), (1, .ref q_1), (0, .ref b)]) hx hb dL_law_1025 hl (k := 0) rfl (by decide) (by decide) rfl (fun ls hl => ?_)
        refine lv_goto (tgt := 18) hx hb dL_law_1028 (by decide) ?_
        refine lv_iload_n hx hb dL_law_18 rfl (lv_at hl 0 rfl) ?_
        refine lv_aload_n hx hb dL_law_19 rfl (lv_at hl 3 rfl) ?_
        refine va_slen hx hb hX hbl hbA hS dL_law_20 ?_
        refine tc_i 6 rfl ?_
        refine lv_bipush (v := 6) hx hb dL_law_21 (by decide) ?_
        refine lv_isub hx hb dL_law_23 ?_
        refine tc_i 0 (by decide) ?_
        refine lv_icmp_gt (tgt := 1031) hx hb dL_law_24 (by decide) (fun _ => ?_) (fun c_155 => absurd (by decide) c_155)
        refine lv_iconst (v := 1) hx hb dL_law_1031 (by decide) ?_
        refine va_forget (fun q h => by have h9 := hS.2.2 q h; rw [hAe] at h9; exact h9) ?_
        refine W.widen (k := 600000) (n := 7302250) (Nat.le_of_ble_eq_true rfl) (Nat.le_of_ble_eq_true rfl) ?_
        exact lw_ret hx hb hr hlocks dL_law_1032
      · subst hsw
        refine lv_tableIn (tgt := 475) hx hb dL_law_33 (by decide) (by decide) rfl (by decide) ?_
        have hP := hP.sub (ws' := [(q_1, .inr (9, [.ref q_6, .ref q_8, .ref q_11, .int 0, .ref q_12, .ref q_17, .ref q_18, .ref q_21, .ref q_24, .ref q_27, .null, .null])), (q_18, .inr (3, [.ref q_19, .ref q_20, .int 0, .int 0])), (q_44, .inr (10, [.ref q_49, .int 0, .int 0, .ref q_50, .ref q_51, .ref q_52, .ref q_53, .ref q_54, .int 0, .int 0, .int 0, .int 0, .int 0, .int 0, .int 0, .ref q_55, .int 0, .ref q_56, .int 0, .ref q_57, .ref q_58, .int 0, .ref q_59, .int 0, .ref q_60, .ref q_61, .ref q_62, .int 0, .int 0, .long 0, .ref q_63, .ref q_64, .ref q_65])), (q_58, .inl (k_75, 133, .inl sd0))]) [0, 13, 23, 33] rfl
        have hD := hD.sub (ws' := [(q_1, .inr (9, [.ref q_6, .ref q_8, .ref q_11, .int 0, .ref q_12, .ref q_17, .ref q_18, .ref q_21, .ref q_24, .ref q_27, .null, .null])), (q_18, .inr (3, [.ref q_19, .ref q_20, .int 0, .int 0])), (q_44, .inr (10, [.ref q_49, .int 0, .int 0, .ref q_50, .ref q_51, .ref q_52, .ref q_53, .ref q_54, .int 0, .int 0, .int 0, .int 0, .int 0, .int 0, .int 0, .ref q_55, .int 0, .ref q_56, .int 0, .ref q_57, .ref q_58, .int 0, .ref q_59, .int 0, .ref q_60, .ref q_61, .ref q_62, .int 0, .int 0, .long 0, .ref q_63, .ref q_64, .ref q_65])), (q_58, .inl (k_75, 133, .inl sd0))]) [0, 13, 23, 33] (by decide) rfl
        have hK := hK.sub (tys' := [(k_75, .int)]) [25] rfl
        refine lv_aload_n hx hb dL_law_475 rfl (lv_at hl 2 rfl) ?_
        have hPc := hP.sub (ws' := [(q_1, .inr (9, [.ref q_6, .ref q_8, .ref q_11, .int 0, .ref q_12, .ref q_17, .ref q_18, .ref q_21, .ref q_24, .ref q_27, .null, .null])), (q_18, .inr (3, [.ref q_19, .ref q_20, .int 0, .int 0]))]) [0, 1] rfl
        have hDc := hD.sub (ws' := [(q_1, .inr (9, [.ref q_6, .ref q_8, .ref q_11, .int 0, .ref q_12, .ref q_17, .ref q_18, .ref q_21, .ref q_24, .ref q_27, .null, .null])), (q_18, .inr (3, [.ref q_19, .ref q_20, .int 0, .int 0]))]) [0, 1] (by decide) rfl
        have hKc := hK.sub (tys' := []) [] rfl
        refine cl_V (W.runV (As := []) (rest := []) ⟨hx, hb, hml, hown, hts⟩ (c_x_takeBack l D ad H.size q_1 q_6 q_8 q_11 q_12 q_17 q_18 q_21 q_24 q_27 q_19 q_20) ⟨callB_of 0 hts (gd_C qq_4_37) rfl rfl rfl (hT _ qq_1_1) (hT _ qq_4_34) (by decide +kernel) (⟨Nat.le_of_ble_eq_true rfl, Nat.le_of_ble_eq_true rfl⟩), (hT _ qq_4_35), (hT _ qq_4_36)⟩ (pr_V hPc hKc hDc hN (ci := 9) (q0 := 0) rfl rfl) rfl rfl hl.1 rfl (lv_room (Nat.le_of_ble_eq_true rfl)) dL_law_476 ⟨Nat.le_of_ble_eq_true rfl, Nat.le_of_ble_eq_true rfl⟩) ?_
        refine lv_aload_n hx hb dL_law_479 rfl (lv_at hl 1 rfl) ?_
        have hPc := hP.sub (ws' := [(q_44, .inr (10, [.ref q_49, .int 0, .int 0, .ref q_50, .ref q_51, .ref q_52, .ref q_53, .ref q_54, .int 0, .int 0, .int 0, .int 0, .int 0, .int 0, .int 0, .ref q_55, .int 0, .ref q_56, .int 0, .ref q_57, .ref q_58, .int 0, .ref q_59, .int 0, .ref q_60, .ref q_61, .ref q_62, .int 0, .int 0, .long 0, .ref q_63, .ref q_64, .ref q_65])), (q_58, .inl (k_75, 133, .inl sd0))]) [2, 3] rfl
        have hDc := hD.sub (ws' := [(q_44, .inr (10, [.ref q_49, .int 0, .int 0, .ref q_50, .ref q_51, .ref q_52, .ref q_53, .ref q_54, .int 0, .int 0, .int 0, .int 0, .int 0, .int 0, .int 0, .ref q_55, .int 0, .ref q_56, .int 0, .ref q_57, .ref q_58, .int 0, .ref q_59, .int 0, .ref q_60, .ref q_61, .ref q_62, .int 0, .int 0, .long 0, .ref q_63, .ref q_64, .ref q_65])), (q_58, .inl (k_75, 133, .inl sd0))]) [2, 3] (by decide) rfl
        have hKc := hK.sub (tys' := [(k_75, .int)]) [0] rfl
        refine cl_V (W.runV (As := []) (rest := [.int (-1)]) ⟨hx, hb, hml, hown, hts⟩ (c_m_takeBack l D ad H.size q_44 q_49 q_50 q_51 q_52 q_53 q_54 q_55 q_56 q_57 q_58 q_59 q_60 q_61 q_62 q_63 q_64 q_65 k_75) ⟨callB_of 0 hts (gd_C qq_7_110) rfl rfl rfl (hT _ qq_1_9) (hT _ qq_7_107) (by decide +kernel) (⟨Nat.le_of_ble_eq_true rfl, Nat.le_of_ble_eq_true rfl⟩), (hT _ qq_7_108), (hT _ qq_7_109)⟩ (pr_V hPc hKc hDc hN (ci := 10) (q0 := 0) rfl rfl) rfl rfl hl.1 rfl (lv_room (Nat.le_of_ble_eq_true rfl)) dL_law_480 ⟨Nat.le_of_ble_eq_true rfl, Nat.le_of_ble_eq_true rfl⟩) ?_
        refine lv_icmp_eq (tgt := 1025) hx hb dL_law_483 (by decide) (fun _ => ?_) (fun c_156 => absurd (by decide) c_156)
        refine lv_iinc (v := 6) (lv' := [(3, .int 6), (2, .ref q_44), (1, .ref q_1), (0, .ref b)]) hx hb dL_law_1025 hl (k := 0) rfl (by decide) (by decide) rfl (fun ls hl => ?_)
        refine lv_goto (tgt := 18) hx hb dL_law_1028 (by decide) ?_
        refine lv_iload_n hx hb dL_law_18 rfl (lv_at hl 0 rfl) ?_
        refine lv_aload_n hx hb dL_law_19 rfl (lv_at hl 3 rfl) ?_
        refine va_slen hx hb hX hbl hbA hS dL_law_20 ?_
        refine tc_i 6 rfl ?_
        refine lv_bipush (v := 6) hx hb dL_law_21 (by decide) ?_
        refine lv_isub hx hb dL_law_23 ?_
        refine tc_i 0 (by decide) ?_
        refine lv_icmp_gt (tgt := 1031) hx hb dL_law_24 (by decide) (fun _ => ?_) (fun c_157 => absurd (by decide) c_157)
        refine lv_iconst (v := 1) hx hb dL_law_1031 (by decide) ?_
        refine va_forget (fun q h => by have h9 := hS.2.2 q h; rw [hAe] at h9; exact h9) ?_
        refine W.widen (k := 600000) (n := 7302250) (Nat.le_of_ble_eq_true rfl) (Nat.le_of_ble_eq_true rfl) ?_
        exact lw_ret hx hb hr hlocks dL_law_1032
      · subst hsw
        refine lv_tableIn (tgt := 488) hx hb dL_law_33 (by decide) (by decide) rfl (by decide) ?_
        have hP := hP.sub (ws' := [(q_1, .inr (9, [.ref q_6, .ref q_8, .ref q_11, .int 0, .ref q_12, .ref q_17, .ref q_18, .ref q_21, .ref q_24, .ref q_27, .null, .null])), (q_12, .inr (8, [.null, .int 0, .int 0, .int 0, .int 0, .ref q_13, .ref q_14, .ref q_15, .ref q_16])), (q_44, .inr (10, [.ref q_49, .int 0, .int 0, .ref q_50, .ref q_51, .ref q_52, .ref q_53, .ref q_54, .int 0, .int 0, .int 0, .int 0, .int 0, .int 0, .int 0, .ref q_55, .int 0, .ref q_56, .int 0, .ref q_57, .ref q_58, .int 0, .ref q_59, .int 0, .ref q_60, .ref q_61, .ref q_62, .int 0, .int 0, .long 0, .ref q_63, .ref q_64, .ref q_65])), (q_58, .inl (k_75, 133, .inl sd0))]) [0, 7, 23, 33] rfl
        have hD := hD.sub (ws' := [(q_1, .inr (9, [.ref q_6, .ref q_8, .ref q_11, .int 0, .ref q_12, .ref q_17, .ref q_18, .ref q_21, .ref q_24, .ref q_27, .null, .null])), (q_12, .inr (8, [.null, .int 0, .int 0, .int 0, .int 0, .ref q_13, .ref q_14, .ref q_15, .ref q_16])), (q_44, .inr (10, [.ref q_49, .int 0, .int 0, .ref q_50, .ref q_51, .ref q_52, .ref q_53, .ref q_54, .int 0, .int 0, .int 0, .int 0, .int 0, .int 0, .int 0, .ref q_55, .int 0, .ref q_56, .int 0, .ref q_57, .ref q_58, .int 0, .ref q_59, .int 0, .ref q_60, .ref q_61, .ref q_62, .int 0, .int 0, .long 0, .ref q_63, .ref q_64, .ref q_65])), (q_58, .inl (k_75, 133, .inl sd0))]) [0, 7, 23, 33] (by decide) rfl
        have hK := hK.sub (tys' := [(k_75, .int)]) [25] rfl
        refine lv_aload_n hx hb dL_law_488 rfl (lv_at hl 2 rfl) ?_
        refine lv_aload_n hx hb dL_law_489 rfl (lv_at hl 3 rfl) ?_
        refine lv_iload_n hx hb dL_law_490 rfl (lv_at hl 0 rfl) ?_
        refine lv_iconst (v := 1) hx hb dL_law_491 (by decide) ?_
        refine lv_iadd hx hb dL_law_492 ?_
        refine tc_i 1 (by decide) ?_
        refine va_sld hx hb hX hbl hbA hS (vi_c rfl) dL_law_493 ?_
        refine tc_i (xs 1) rfl ?_
        refine lv_aload_n hx hb dL_law_494 rfl (lv_at hl 3 rfl) ?_
        refine lv_iload_n hx hb dL_law_495 rfl (lv_at hl 0 rfl) ?_
        refine lv_iconst (v := 2) hx hb dL_law_496 (by decide) ?_
        refine lv_iadd hx hb dL_law_497 ?_
        refine tc_i 2 (by decide) ?_
        refine va_sld hx hb hX hbl hbA hS (vi_c rfl) dL_law_498 ?_
        refine tc_i (xs 2) rfl ?_
        have hPc := hP.sub (ws' := [(q_1, .inr (9, [.ref q_6, .ref q_8, .ref q_11, .int 0, .ref q_12, .ref q_17, .ref q_18, .ref q_21, .ref q_24, .ref q_27, .null, .null])), (q_12, .inr (8, [.null, .int 0, .int 0, .int 0, .int 0, .ref q_13, .ref q_14, .ref q_15, .ref q_16]))]) [0, 1] rfl
        have hDc := hD.sub (ws' := [(q_1, .inr (9, [.ref q_6, .ref q_8, .ref q_11, .int 0, .ref q_12, .ref q_17, .ref q_18, .ref q_21, .ref q_24, .ref q_27, .null, .null])), (q_12, .inr (8, [.null, .int 0, .int 0, .int 0, .int 0, .ref q_13, .ref q_14, .ref q_15, .ref q_16]))]) [0, 1] (by decide) rfl
        have hKc := hK.sub (tys' := []) [] rfl
        refine cl_V (W.runV (As := [.int (xs 1), .int (xs 2)]) (rest := []) ⟨hx, hb, hml, hown, hts⟩ (c_x_run l D ad H.size q_1 q_6 q_8 q_11 q_12 q_17 q_18 q_21 q_24 q_27 q_13 q_14 q_15 q_16 (xs 1) (xs 2)) ⟨callB_of 2 hts (gd_C qq_4_56) rfl rfl rfl (hT _ qq_1_1) (hT _ qq_4_53) (by decide +kernel) (⟨Nat.le_of_ble_eq_true rfl, Nat.le_of_ble_eq_true rfl⟩), (hT _ qq_4_54), (hT _ qq_4_55)⟩ (pr_V hPc hKc hDc hN (ci := 9) (q0 := 0) rfl rfl) rfl rfl hl.1 rfl (lv_room (Nat.le_of_ble_eq_true rfl)) dL_law_499 ⟨Nat.le_of_ble_eq_true rfl, Nat.le_of_ble_eq_true rfl⟩) ?_
        refine lv_aload_n hx hb dL_law_502 rfl (lv_at hl 1 rfl) ?_
        refine lv_aload_n hx hb dL_law_503 rfl (lv_at hl 3 rfl) ?_
        refine lv_iload_n hx hb dL_law_504 rfl (lv_at hl 0 rfl) ?_
        refine lv_iconst (v := 1) hx hb dL_law_505 (by decide) ?_
        refine lv_iadd hx hb dL_law_506 ?_
        refine tc_i 1 (by decide) ?_
        refine va_sld hx hb hX hbl hbA hS (vi_c rfl) dL_law_507 ?_
        refine tc_i (xs 1) rfl ?_
        refine lv_aload_n hx hb dL_law_508 rfl (lv_at hl 3 rfl) ?_
        refine lv_iload_n hx hb dL_law_509 rfl (lv_at hl 0 rfl) ?_
        refine lv_iconst (v := 2) hx hb dL_law_510 (by decide) ?_
        refine lv_iadd hx hb dL_law_511 ?_
        refine tc_i 2 (by decide) ?_
        refine va_sld hx hb hX hbl hbA hS (vi_c rfl) dL_law_512 ?_
        refine tc_i (xs 2) rfl ?_
        have hPc := hP.sub (ws' := [(q_44, .inr (10, [.ref q_49, .int 0, .int 0, .ref q_50, .ref q_51, .ref q_52, .ref q_53, .ref q_54, .int 0, .int 0, .int 0, .int 0, .int 0, .int 0, .int 0, .ref q_55, .int 0, .ref q_56, .int 0, .ref q_57, .ref q_58, .int 0, .ref q_59, .int 0, .ref q_60, .ref q_61, .ref q_62, .int 0, .int 0, .long 0, .ref q_63, .ref q_64, .ref q_65])), (q_58, .inl (k_75, 133, .inl sd0))]) [2, 3] rfl
        have hDc := hD.sub (ws' := [(q_44, .inr (10, [.ref q_49, .int 0, .int 0, .ref q_50, .ref q_51, .ref q_52, .ref q_53, .ref q_54, .int 0, .int 0, .int 0, .int 0, .int 0, .int 0, .int 0, .ref q_55, .int 0, .ref q_56, .int 0, .ref q_57, .ref q_58, .int 0, .ref q_59, .int 0, .ref q_60, .ref q_61, .ref q_62, .int 0, .int 0, .long 0, .ref q_63, .ref q_64, .ref q_65])), (q_58, .inl (k_75, 133, .inl sd0))]) [2, 3] (by decide) rfl
        have hKc := hK.sub (tys' := [(k_75, .int)]) [0] rfl
        refine cl_V (W.runV (As := [.int (xs 1), .int (xs 2)]) (rest := [.int (-1)]) ⟨hx, hb, hml, hown, hts⟩ (c_m_run l D ad H.size q_44 q_49 q_50 q_51 q_52 q_53 q_54 q_55 q_56 q_57 q_58 q_59 q_60 q_61 q_62 q_63 q_64 q_65 k_75 (xs 1) (xs 2)) ⟨callB_of 2 hts (gd_C qq_7_161) rfl rfl rfl (hT _ qq_1_9) (hT _ qq_7_158) (by decide +kernel) (⟨Nat.le_of_ble_eq_true rfl, Nat.le_of_ble_eq_true rfl⟩), (hT _ qq_7_159), (hT _ qq_7_160)⟩ (pr_V hPc hKc hDc hN (ci := 10) (q0 := 0) rfl rfl) rfl rfl hl.1 rfl (lv_room (Nat.le_of_ble_eq_true rfl)) dL_law_513 ⟨Nat.le_of_ble_eq_true rfl, Nat.le_of_ble_eq_true rfl⟩) ?_
        refine lv_icmp_eq (tgt := 1025) hx hb dL_law_516 (by decide) (fun _ => ?_) (fun c_158 => absurd (by decide) c_158)
        refine lv_iinc (v := 6) (lv' := [(3, .int 6), (2, .ref q_44), (1, .ref q_1), (0, .ref b)]) hx hb dL_law_1025 hl (k := 0) rfl (by decide) (by decide) rfl (fun ls hl => ?_)
        refine lv_goto (tgt := 18) hx hb dL_law_1028 (by decide) ?_
        refine lv_iload_n hx hb dL_law_18 rfl (lv_at hl 0 rfl) ?_
        refine lv_aload_n hx hb dL_law_19 rfl (lv_at hl 3 rfl) ?_
        refine va_slen hx hb hX hbl hbA hS dL_law_20 ?_
        refine tc_i 6 rfl ?_
        refine lv_bipush (v := 6) hx hb dL_law_21 (by decide) ?_
        refine lv_isub hx hb dL_law_23 ?_
        refine tc_i 0 (by decide) ?_
        refine lv_icmp_gt (tgt := 1031) hx hb dL_law_24 (by decide) (fun _ => ?_) (fun c_159 => absurd (by decide) c_159)
        refine lv_iconst (v := 1) hx hb dL_law_1031 (by decide) ?_
        refine va_forget (fun q h => by have h9 := hS.2.2 q h; rw [hAe] at h9; exact h9) ?_
        refine W.widen (k := 600000) (n := 7302250) (Nat.le_of_ble_eq_true rfl) (Nat.le_of_ble_eq_true rfl) ?_
        exact lw_ret hx hb hr hlocks dL_law_1032
      · subst hsw
        refine lv_tableIn (tgt := 521) hx hb dL_law_33 (by decide) (by decide) rfl (by decide) ?_
        have hP := hP.sub (ws' := [(q_1, .inr (9, [.ref q_6, .ref q_8, .ref q_11, .int 0, .ref q_12, .ref q_17, .ref q_18, .ref q_21, .ref q_24, .ref q_27, .null, .null])), (q_12, .inr (8, [.null, .int 0, .int 0, .int 0, .int 0, .ref q_13, .ref q_14, .ref q_15, .ref q_16])), (q_44, .inr (10, [.ref q_49, .int 0, .int 0, .ref q_50, .ref q_51, .ref q_52, .ref q_53, .ref q_54, .int 0, .int 0, .int 0, .int 0, .int 0, .int 0, .int 0, .ref q_55, .int 0, .ref q_56, .int 0, .ref q_57, .ref q_58, .int 0, .ref q_59, .int 0, .ref q_60, .ref q_61, .ref q_62, .int 0, .int 0, .long 0, .ref q_63, .ref q_64, .ref q_65])), (q_58, .inl (k_75, 133, .inl sd0))]) [0, 7, 23, 33] rfl
        have hD := hD.sub (ws' := [(q_1, .inr (9, [.ref q_6, .ref q_8, .ref q_11, .int 0, .ref q_12, .ref q_17, .ref q_18, .ref q_21, .ref q_24, .ref q_27, .null, .null])), (q_12, .inr (8, [.null, .int 0, .int 0, .int 0, .int 0, .ref q_13, .ref q_14, .ref q_15, .ref q_16])), (q_44, .inr (10, [.ref q_49, .int 0, .int 0, .ref q_50, .ref q_51, .ref q_52, .ref q_53, .ref q_54, .int 0, .int 0, .int 0, .int 0, .int 0, .int 0, .int 0, .ref q_55, .int 0, .ref q_56, .int 0, .ref q_57, .ref q_58, .int 0, .ref q_59, .int 0, .ref q_60, .ref q_61, .ref q_62, .int 0, .int 0, .long 0, .ref q_63, .ref q_64, .ref q_65])), (q_58, .inl (k_75, 133, .inl sd0))]) [0, 7, 23, 33] (by decide) rfl
        have hK := hK.sub (tys' := [(k_75, .int)]) [25] rfl
        refine lv_aload_n hx hb dL_law_521 rfl (lv_at hl 2 rfl) ?_
        have hPc := hP.sub (ws' := [(q_1, .inr (9, [.ref q_6, .ref q_8, .ref q_11, .int 0, .ref q_12, .ref q_17, .ref q_18, .ref q_21, .ref q_24, .ref q_27, .null, .null])), (q_12, .inr (8, [.null, .int 0, .int 0, .int 0, .int 0, .ref q_13, .ref q_14, .ref q_15, .ref q_16]))]) [0, 1] rfl
        have hDc := hD.sub (ws' := [(q_1, .inr (9, [.ref q_6, .ref q_8, .ref q_11, .int 0, .ref q_12, .ref q_17, .ref q_18, .ref q_21, .ref q_24, .ref q_27, .null, .null])), (q_12, .inr (8, [.null, .int 0, .int 0, .int 0, .int 0, .ref q_13, .ref q_14, .ref q_15, .ref q_16]))]) [0, 1] (by decide) rfl
        have hKc := hK.sub (tys' := []) [] rfl
        refine cl_V (W.runV (As := []) (rest := []) ⟨hx, hb, hml, hown, hts⟩ (c_x_may l D ad H.size q_1 q_6 q_8 q_11 q_12 q_17 q_18 q_21 q_24 q_27 q_13 q_14 q_15 q_16) ⟨callB_of 0 hts (gd_C qq_4_104) rfl rfl rfl (hT _ qq_1_1) (hT _ qq_4_101) (by decide +kernel) (⟨Nat.le_of_ble_eq_true rfl, Nat.le_of_ble_eq_true rfl⟩), (hT _ qq_4_102), (hT _ qq_4_103)⟩ (pr_V hPc hKc hDc hN (ci := 9) (q0 := 0) rfl rfl) rfl rfl hl.1 rfl (lv_room (Nat.le_of_ble_eq_true rfl)) dL_law_522 ⟨Nat.le_of_ble_eq_true rfl, Nat.le_of_ble_eq_true rfl⟩) ?_
        refine lv_aload_n hx hb dL_law_525 rfl (lv_at hl 1 rfl) ?_
        have hPc := hP.sub (ws' := [(q_44, .inr (10, [.ref q_49, .int 0, .int 0, .ref q_50, .ref q_51, .ref q_52, .ref q_53, .ref q_54, .int 0, .int 0, .int 0, .int 0, .int 0, .int 0, .int 0, .ref q_55, .int 0, .ref q_56, .int 0, .ref q_57, .ref q_58, .int 0, .ref q_59, .int 0, .ref q_60, .ref q_61, .ref q_62, .int 0, .int 0, .long 0, .ref q_63, .ref q_64, .ref q_65])), (q_58, .inl (k_75, 133, .inl sd0))]) [2, 3] rfl
        have hDc := hD.sub (ws' := [(q_44, .inr (10, [.ref q_49, .int 0, .int 0, .ref q_50, .ref q_51, .ref q_52, .ref q_53, .ref q_54, .int 0, .int 0, .int 0, .int 0, .int 0, .int 0, .int 0, .ref q_55, .int 0, .ref q_56, .int 0, .ref q_57, .ref q_58, .int 0, .ref q_59, .int 0, .ref q_60, .ref q_61, .ref q_62, .int 0, .int 0, .long 0, .ref q_63, .ref q_64, .ref q_65])), (q_58, .inl (k_75, 133, .inl sd0))]) [2, 3] (by decide) rfl
        have hKc := hK.sub (tys' := [(k_75, .int)]) [0] rfl
        refine cl_V (W.runV (As := []) (rest := [.int (-1)]) ⟨hx, hb, hml, hown, hts⟩ (c_m_may l D ad H.size q_44 q_49 q_50 q_51 q_52 q_53 q_54 q_55 q_56 q_57 q_58 q_59 q_60 q_61 q_62 q_63 q_64 q_65 k_75) ⟨callB_of 0 hts (gd_C qq_7_197) rfl rfl rfl (hT _ qq_1_9) (hT _ qq_7_194) (by decide +kernel) (⟨Nat.le_of_ble_eq_true rfl, Nat.le_of_ble_eq_true rfl⟩), (hT _ qq_7_195), (hT _ qq_7_196)⟩ (pr_V hPc hKc hDc hN (ci := 10) (q0 := 0) rfl rfl) rfl rfl hl.1 rfl (lv_room (Nat.le_of_ble_eq_true rfl)) dL_law_526 ⟨Nat.le_of_ble_eq_true rfl, Nat.le_of_ble_eq_true rfl⟩) ?_
        refine lv_icmp_eq (tgt := 1025) hx hb dL_law_529 (by decide) (fun _ => ?_) (fun c_160 => absurd (by decide) c_160)
        refine lv_iinc (v := 6) (lv' := [(3, .int 6), (2, .ref q_44), (1, .ref q_1), (0, .ref b)]) hx hb dL_law_1025 hl (k := 0) rfl (by decide) (by decide) rfl (fun ls hl => ?_)
        refine lv_goto (tgt := 18) hx hb dL_law_1028 (by decide) ?_
        refine lv_iload_n hx hb dL_law_18 rfl (lv_at hl 0 rfl) ?_
        refine lv_aload_n hx hb dL_law_19 rfl (lv_at hl 3 rfl) ?_
        refine va_slen hx hb hX hbl hbA hS dL_law_20 ?_
        refine tc_i 6 rfl ?_
        refine lv_bipush (v := 6) hx hb dL_law_21 (by decide) ?_
        refine lv_isub hx hb dL_law_23 ?_
        refine tc_i 0 (by decide) ?_
        refine lv_icmp_gt (tgt := 1031) hx hb dL_law_24 (by decide) (fun _ => ?_) (fun c_161 => absurd (by decide) c_161)
        refine lv_iconst (v := 1) hx hb dL_law_1031 (by decide) ?_
        refine va_forget (fun q h => by have h9 := hS.2.2 q h; rw [hAe] at h9; exact h9) ?_
        refine W.widen (k := 600000) (n := 7302250) (Nat.le_of_ble_eq_true rfl) (Nat.le_of_ble_eq_true rfl) ?_
        exact lw_ret hx hb hr hlocks dL_law_1032
      · subst hsw
        refine lv_tableIn (tgt := 534) hx hb dL_law_33 (by decide) (by decide) rfl (by decide) ?_
        have hP := hP.sub (ws' := [(q_1, .inr (9, [.ref q_6, .ref q_8, .ref q_11, .int 0, .ref q_12, .ref q_17, .ref q_18, .ref q_21, .ref q_24, .ref q_27, .null, .null])), (q_12, .inr (8, [.null, .int 0, .int 0, .int 0, .int 0, .ref q_13, .ref q_14, .ref q_15, .ref q_16])), (q_44, .inr (10, [.ref q_49, .int 0, .int 0, .ref q_50, .ref q_51, .ref q_52, .ref q_53, .ref q_54, .int 0, .int 0, .int 0, .int 0, .int 0, .int 0, .int 0, .ref q_55, .int 0, .ref q_56, .int 0, .ref q_57, .ref q_58, .int 0, .ref q_59, .int 0, .ref q_60, .ref q_61, .ref q_62, .int 0, .int 0, .long 0, .ref q_63, .ref q_64, .ref q_65])), (q_58, .inl (k_75, 133, .inl sd0))]) [0, 7, 23, 33] rfl
        have hD := hD.sub (ws' := [(q_1, .inr (9, [.ref q_6, .ref q_8, .ref q_11, .int 0, .ref q_12, .ref q_17, .ref q_18, .ref q_21, .ref q_24, .ref q_27, .null, .null])), (q_12, .inr (8, [.null, .int 0, .int 0, .int 0, .int 0, .ref q_13, .ref q_14, .ref q_15, .ref q_16])), (q_44, .inr (10, [.ref q_49, .int 0, .int 0, .ref q_50, .ref q_51, .ref q_52, .ref q_53, .ref q_54, .int 0, .int 0, .int 0, .int 0, .int 0, .int 0, .int 0, .ref q_55, .int 0, .ref q_56, .int 0, .ref q_57, .ref q_58, .int 0, .ref q_59, .int 0, .ref q_60, .ref q_61, .ref q_62, .int 0, .int 0, .long 0, .ref q_63, .ref q_64, .ref q_65])), (q_58, .inl (k_75, 133, .inl sd0))]) [0, 7, 23, 33] (by decide) rfl
        have hK := hK.sub (tys' := [(k_75, .int)]) [25] rfl
        refine lv_aload_n hx hb dL_law_534 rfl (lv_at hl 2 rfl) ?_
        refine lv_aload_n hx hb dL_law_535 rfl (lv_at hl 3 rfl) ?_
        refine lv_iload_n hx hb dL_law_536 rfl (lv_at hl 0 rfl) ?_
        refine lv_iconst (v := 1) hx hb dL_law_537 (by decide) ?_
        refine lv_iadd hx hb dL_law_538 ?_
        refine tc_i 1 (by decide) ?_
        refine va_sld hx hb hX hbl hbA hS (vi_c rfl) dL_law_539 ?_
        refine tc_i (xs 1) rfl ?_
        refine lv_aload_n hx hb dL_law_540 rfl (lv_at hl 3 rfl) ?_
        refine lv_iload_n hx hb dL_law_541 rfl (lv_at hl 0 rfl) ?_
        refine lv_iconst (v := 2) hx hb dL_law_542 (by decide) ?_
        refine lv_iadd hx hb dL_law_543 ?_
        refine tc_i 2 (by decide) ?_
        refine va_sld hx hb hX hbl hbA hS (vi_c rfl) dL_law_544 ?_
        refine tc_i (xs 2) rfl ?_
        have hPc := hP.sub (ws' := [(q_1, .inr (9, [.ref q_6, .ref q_8, .ref q_11, .int 0, .ref q_12, .ref q_17, .ref q_18, .ref q_21, .ref q_24, .ref q_27, .null, .null])), (q_12, .inr (8, [.null, .int 0, .int 0, .int 0, .int 0, .ref q_13, .ref q_14, .ref q_15, .ref q_16]))]) [0, 1] rfl
        have hDc := hD.sub (ws' := [(q_1, .inr (9, [.ref q_6, .ref q_8, .ref q_11, .int 0, .ref q_12, .ref q_17, .ref q_18, .ref q_21, .ref q_24, .ref q_27, .null, .null])), (q_12, .inr (8, [.null, .int 0, .int 0, .int 0, .int 0, .ref q_13, .ref q_14, .ref q_15, .ref q_16]))]) [0, 1] (by decide) rfl
        have hKc := hK.sub (tys' := []) [] rfl
        refine cl_V (W.runV (As := [.int (xs 1), .int (xs 2)]) (rest := []) ⟨hx, hb, hml, hown, hts⟩ (c_x_act l D ad H.size q_1 q_6 q_8 q_11 q_12 q_17 q_18 q_21 q_24 q_27 q_13 q_14 q_15 q_16 (xs 1) (xs 2)) ⟨callB_of 2 hts (gd_C qq_4_108) rfl rfl rfl (hT _ qq_1_1) (hT _ qq_4_105) (by decide +kernel) (⟨Nat.le_of_ble_eq_true rfl, Nat.le_of_ble_eq_true rfl⟩), (hT _ qq_4_106), (hT _ qq_4_107)⟩ (pr_V hPc hKc hDc hN (ci := 9) (q0 := 0) rfl rfl) rfl rfl hl.1 rfl (lv_room (Nat.le_of_ble_eq_true rfl)) dL_law_545 ⟨Nat.le_of_ble_eq_true rfl, Nat.le_of_ble_eq_true rfl⟩) ?_
        refine lv_aload_n hx hb dL_law_548 rfl (lv_at hl 1 rfl) ?_
        refine lv_aload_n hx hb dL_law_549 rfl (lv_at hl 3 rfl) ?_
        refine lv_iload_n hx hb dL_law_550 rfl (lv_at hl 0 rfl) ?_
        refine lv_iconst (v := 1) hx hb dL_law_551 (by decide) ?_
        refine lv_iadd hx hb dL_law_552 ?_
        refine tc_i 1 (by decide) ?_
        refine va_sld hx hb hX hbl hbA hS (vi_c rfl) dL_law_553 ?_
        refine tc_i (xs 1) rfl ?_
        refine lv_aload_n hx hb dL_law_554 rfl (lv_at hl 3 rfl) ?_
        refine lv_iload_n hx hb dL_law_555 rfl (lv_at hl 0 rfl) ?_
        refine lv_iconst (v := 2) hx hb dL_law_556 (by decide) ?_
        refine lv_iadd hx hb dL_law_557 ?_
        refine tc_i 2 (by decide) ?_
        refine va_sld hx hb hX hbl hbA hS (vi_c rfl) dL_law_558 ?_
        refine tc_i (xs 2) rfl ?_
        have hPc := hP.sub (ws' := [(q_44, .inr (10, [.ref q_49, .int 0, .int 0, .ref q_50, .ref q_51, .ref q_52, .ref q_53, .ref q_54, .int 0, .int 0, .int 0, .int 0, .int 0, .int 0, .int 0, .ref q_55, .int 0, .ref q_56, .int 0, .ref q_57, .ref q_58, .int 0, .ref q_59, .int 0, .ref q_60, .ref q_61, .ref q_62, .int 0, .int 0, .long 0, .ref q_63, .ref q_64, .ref q_65])), (q_58, .inl (k_75, 133, .inl sd0))]) [2, 3] rfl
        have hDc := hD.sub (ws' := [(q_44, .inr (10, [.ref q_49, .int 0, .int 0, .ref q_50, .ref q_51, .ref q_52, .ref q_53, .ref q_54, .int 0, .int 0, .int 0, .int 0, .int 0, .int 0, .int 0, .ref q_55, .int 0, .ref q_56, .int 0, .ref q_57, .ref q_58, .int 0, .ref q_59, .int 0, .ref q_60, .ref q_61, .ref q_62, .int 0, .int 0, .long 0, .ref q_63, .ref q_64, .ref q_65])), (q_58, .inl (k_75, 133, .inl sd0))]) [2, 3] (by decide) rfl
        have hKc := hK.sub (tys' := [(k_75, .int)]) [0] rfl
        refine cl_V (W.runV (As := [.int (xs 1), .int (xs 2)]) (rest := [.int (-1)]) ⟨hx, hb, hml, hown, hts⟩ (c_m_act l D ad H.size q_44 q_49 q_50 q_51 q_52 q_53 q_54 q_55 q_56 q_57 q_58 q_59 q_60 q_61 q_62 q_63 q_64 q_65 k_75 (xs 1) (xs 2)) ⟨callB_of 2 hts (gd_C qq_7_209) rfl rfl rfl (hT _ qq_1_9) (hT _ qq_7_206) (by decide +kernel) (⟨Nat.le_of_ble_eq_true rfl, Nat.le_of_ble_eq_true rfl⟩), (hT _ qq_7_207), (hT _ qq_7_208)⟩ (pr_V hPc hKc hDc hN (ci := 10) (q0 := 0) rfl rfl) rfl rfl hl.1 rfl (lv_room (Nat.le_of_ble_eq_true rfl)) dL_law_559 ⟨Nat.le_of_ble_eq_true rfl, Nat.le_of_ble_eq_true rfl⟩) ?_
        refine lv_icmp_eq (tgt := 1025) hx hb dL_law_562 (by decide) (fun _ => ?_) (fun c_162 => absurd (by decide) c_162)
        refine lv_iinc (v := 6) (lv' := [(3, .int 6), (2, .ref q_44), (1, .ref q_1), (0, .ref b)]) hx hb dL_law_1025 hl (k := 0) rfl (by decide) (by decide) rfl (fun ls hl => ?_)
        refine lv_goto (tgt := 18) hx hb dL_law_1028 (by decide) ?_
        refine lv_iload_n hx hb dL_law_18 rfl (lv_at hl 0 rfl) ?_
        refine lv_aload_n hx hb dL_law_19 rfl (lv_at hl 3 rfl) ?_
        refine va_slen hx hb hX hbl hbA hS dL_law_20 ?_
        refine tc_i 6 rfl ?_
        refine lv_bipush (v := 6) hx hb dL_law_21 (by decide) ?_
        refine lv_isub hx hb dL_law_23 ?_
        refine tc_i 0 (by decide) ?_
        refine lv_icmp_gt (tgt := 1031) hx hb dL_law_24 (by decide) (fun _ => ?_) (fun c_163 => absurd (by decide) c_163)
        refine lv_iconst (v := 1) hx hb dL_law_1031 (by decide) ?_
        refine va_forget (fun q h => by have h9 := hS.2.2 q h; rw [hAe] at h9; exact h9) ?_
        refine W.widen (k := 600000) (n := 7302250) (Nat.le_of_ble_eq_true rfl) (Nat.le_of_ble_eq_true rfl) ?_
        exact lw_ret hx hb hr hlocks dL_law_1032
      · subst hsw
        refine lv_tableIn (tgt := 567) hx hb dL_law_33 (by decide) (by decide) rfl (by decide) ?_
        have hP := hP.sub (ws' := [(q_1, .inr (9, [.ref q_6, .ref q_8, .ref q_11, .int 0, .ref q_12, .ref q_17, .ref q_18, .ref q_21, .ref q_24, .ref q_27, .null, .null])), (q_12, .inr (8, [.null, .int 0, .int 0, .int 0, .int 0, .ref q_13, .ref q_14, .ref q_15, .ref q_16])), (q_44, .inr (10, [.ref q_49, .int 0, .int 0, .ref q_50, .ref q_51, .ref q_52, .ref q_53, .ref q_54, .int 0, .int 0, .int 0, .int 0, .int 0, .int 0, .int 0, .ref q_55, .int 0, .ref q_56, .int 0, .ref q_57, .ref q_58, .int 0, .ref q_59, .int 0, .ref q_60, .ref q_61, .ref q_62, .int 0, .int 0, .long 0, .ref q_63, .ref q_64, .ref q_65])), (q_58, .inl (k_75, 133, .inl sd0))]) [0, 7, 23, 33] rfl
        have hD := hD.sub (ws' := [(q_1, .inr (9, [.ref q_6, .ref q_8, .ref q_11, .int 0, .ref q_12, .ref q_17, .ref q_18, .ref q_21, .ref q_24, .ref q_27, .null, .null])), (q_12, .inr (8, [.null, .int 0, .int 0, .int 0, .int 0, .ref q_13, .ref q_14, .ref q_15, .ref q_16])), (q_44, .inr (10, [.ref q_49, .int 0, .int 0, .ref q_50, .ref q_51, .ref q_52, .ref q_53, .ref q_54, .int 0, .int 0, .int 0, .int 0, .int 0, .int 0, .int 0, .ref q_55, .int 0, .ref q_56, .int 0, .ref q_57, .ref q_58, .int 0, .ref q_59, .int 0, .ref q_60, .ref q_61, .ref q_62, .int 0, .int 0, .long 0, .ref q_63, .ref q_64, .ref q_65])), (q_58, .inl (k_75, 133, .inl sd0))]) [0, 7, 23, 33] (by decide) rfl
        have hK := hK.sub (tys' := [(k_75, .int)]) [25] rfl
        refine lv_aload_n hx hb dL_law_567 rfl (lv_at hl 2 rfl) ?_
        refine lv_aload_n hx hb dL_law_568 rfl (lv_at hl 3 rfl) ?_
        refine lv_iload_n hx hb dL_law_569 rfl (lv_at hl 0 rfl) ?_
        refine lv_iconst (v := 1) hx hb dL_law_570 (by decide) ?_
        refine lv_iadd hx hb dL_law_571 ?_
        refine tc_i 1 (by decide) ?_
        refine va_sld hx hb hX hbl hbA hS (vi_c rfl) dL_law_572 ?_
        refine tc_i (xs 1) rfl ?_
        have hPc := hP.sub (ws' := [(q_1, .inr (9, [.ref q_6, .ref q_8, .ref q_11, .int 0, .ref q_12, .ref q_17, .ref q_18, .ref q_21, .ref q_24, .ref q_27, .null, .null])), (q_12, .inr (8, [.null, .int 0, .int 0, .int 0, .int 0, .ref q_13, .ref q_14, .ref q_15, .ref q_16]))]) [0, 1] rfl
        have hDc := hD.sub (ws' := [(q_1, .inr (9, [.ref q_6, .ref q_8, .ref q_11, .int 0, .ref q_12, .ref q_17, .ref q_18, .ref q_21, .ref q_24, .ref q_27, .null, .null])), (q_12, .inr (8, [.null, .int 0, .int 0, .int 0, .int 0, .ref q_13, .ref q_14, .ref q_15, .ref q_16]))]) [0, 1] (by decide) rfl
        have hKc := hK.sub (tys' := []) [] rfl
        refine cl_V (W.runV (As := [.int (xs 1)]) (rest := []) ⟨hx, hb, hml, hown, hts⟩ (c_x_fewest l D ad H.size q_1 q_6 q_8 q_11 q_12 q_17 q_18 q_21 q_24 q_27 q_13 q_14 q_15 q_16 (xs 1)) ⟨callB_of 1 hts (gd_C qq_4_112) rfl rfl rfl (hT _ qq_1_1) (hT _ qq_4_109) (by decide +kernel) (⟨Nat.le_of_ble_eq_true rfl, Nat.le_of_ble_eq_true rfl⟩), (hT _ qq_4_110), (hT _ qq_4_111)⟩ (pr_V hPc hKc hDc hN (ci := 9) (q0 := 0) rfl rfl) rfl rfl hl.1 rfl (lv_room (Nat.le_of_ble_eq_true rfl)) dL_law_573 ⟨Nat.le_of_ble_eq_true rfl, Nat.le_of_ble_eq_true rfl⟩) ?_
        refine lv_aload_n hx hb dL_law_576 rfl (lv_at hl 1 rfl) ?_
        refine lv_aload_n hx hb dL_law_577 rfl (lv_at hl 3 rfl) ?_
        refine lv_iload_n hx hb dL_law_578 rfl (lv_at hl 0 rfl) ?_
        refine lv_iconst (v := 1) hx hb dL_law_579 (by decide) ?_
        refine lv_iadd hx hb dL_law_580 ?_
        refine tc_i 1 (by decide) ?_
        refine va_sld hx hb hX hbl hbA hS (vi_c rfl) dL_law_581 ?_
        refine tc_i (xs 1) rfl ?_
        have hPc := hP.sub (ws' := [(q_44, .inr (10, [.ref q_49, .int 0, .int 0, .ref q_50, .ref q_51, .ref q_52, .ref q_53, .ref q_54, .int 0, .int 0, .int 0, .int 0, .int 0, .int 0, .int 0, .ref q_55, .int 0, .ref q_56, .int 0, .ref q_57, .ref q_58, .int 0, .ref q_59, .int 0, .ref q_60, .ref q_61, .ref q_62, .int 0, .int 0, .long 0, .ref q_63, .ref q_64, .ref q_65])), (q_58, .inl (k_75, 133, .inl sd0))]) [2, 3] rfl
        have hDc := hD.sub (ws' := [(q_44, .inr (10, [.ref q_49, .int 0, .int 0, .ref q_50, .ref q_51, .ref q_52, .ref q_53, .ref q_54, .int 0, .int 0, .int 0, .int 0, .int 0, .int 0, .int 0, .ref q_55, .int 0, .ref q_56, .int 0, .ref q_57, .ref q_58, .int 0, .ref q_59, .int 0, .ref q_60, .ref q_61, .ref q_62, .int 0, .int 0, .long 0, .ref q_63, .ref q_64, .ref q_65])), (q_58, .inl (k_75, 133, .inl sd0))]) [2, 3] (by decide) rfl
        have hKc := hK.sub (tys' := [(k_75, .int)]) [0] rfl
        refine cl_V (W.runV (As := [.int (xs 1)]) (rest := [.int (-1)]) ⟨hx, hb, hml, hown, hts⟩ (c_m_fewest l D ad H.size q_44 q_49 q_50 q_51 q_52 q_53 q_54 q_55 q_56 q_57 q_58 q_59 q_60 q_61 q_62 q_63 q_64 q_65 k_75 (xs 1)) ⟨callB_of 1 hts (gd_C qq_7_217) rfl rfl rfl (hT _ qq_1_9) (hT _ qq_7_214) (by decide +kernel) (⟨Nat.le_of_ble_eq_true rfl, Nat.le_of_ble_eq_true rfl⟩), (hT _ qq_7_215), (hT _ qq_7_216)⟩ (pr_V hPc hKc hDc hN (ci := 10) (q0 := 0) rfl rfl) rfl rfl hl.1 rfl (lv_room (Nat.le_of_ble_eq_true rfl)) dL_law_582 ⟨Nat.le_of_ble_eq_true rfl, Nat.le_of_ble_eq_true rfl⟩) ?_
        refine lv_icmp_eq (tgt := 1025) hx hb dL_law_585 (by decide) (fun _ => ?_) (fun c_164 => absurd (by decide) c_164)
        refine lv_iinc (v := 6) (lv' := [(3, .int 6), (2, .ref q_44), (1, .ref q_1), (0, .ref b)]) hx hb dL_law_1025 hl (k := 0) rfl (by decide) (by decide) rfl (fun ls hl => ?_)
        refine lv_goto (tgt := 18) hx hb dL_law_1028 (by decide) ?_
        refine lv_iload_n hx hb dL_law_18 rfl (lv_at hl 0 rfl) ?_
        refine lv_aload_n hx hb dL_law_19 rfl (lv_at hl 3 rfl) ?_
        refine va_slen hx hb hX hbl hbA hS dL_law_20 ?_
        refine tc_i 6 rfl ?_
        refine lv_bipush (v := 6) hx hb dL_law_21 (by decide) ?_
        refine lv_isub hx hb dL_law_23 ?_
        refine tc_i 0 (by decide) ?_
        refine lv_icmp_gt (tgt := 1031) hx hb dL_law_24 (by decide) (fun _ => ?_) (fun c_165 => absurd (by decide) c_165)
        refine lv_iconst (v := 1) hx hb dL_law_1031 (by decide) ?_
        refine va_forget (fun q h => by have h9 := hS.2.2 q h; rw [hAe] at h9; exact h9) ?_
        refine W.widen (k := 600000) (n := 7302250) (Nat.le_of_ble_eq_true rfl) (Nat.le_of_ble_eq_true rfl) ?_
        exact lw_ret hx hb hr hlocks dL_law_1032
      · subst hsw
        refine lv_tableIn (tgt := 590) hx hb dL_law_33 (by decide) (by decide) rfl (by decide) ?_
        have hP := hP.sub (ws' := [(q_1, .inr (9, [.ref q_6, .ref q_8, .ref q_11, .int 0, .ref q_12, .ref q_17, .ref q_18, .ref q_21, .ref q_24, .ref q_27, .null, .null])), (q_12, .inr (8, [.null, .int 0, .int 0, .int 0, .int 0, .ref q_13, .ref q_14, .ref q_15, .ref q_16])), (q_44, .inr (10, [.ref q_49, .int 0, .int 0, .ref q_50, .ref q_51, .ref q_52, .ref q_53, .ref q_54, .int 0, .int 0, .int 0, .int 0, .int 0, .int 0, .int 0, .ref q_55, .int 0, .ref q_56, .int 0, .ref q_57, .ref q_58, .int 0, .ref q_59, .int 0, .ref q_60, .ref q_61, .ref q_62, .int 0, .int 0, .long 0, .ref q_63, .ref q_64, .ref q_65])), (q_58, .inl (k_75, 133, .inl sd0))]) [0, 7, 23, 33] rfl
        have hD := hD.sub (ws' := [(q_1, .inr (9, [.ref q_6, .ref q_8, .ref q_11, .int 0, .ref q_12, .ref q_17, .ref q_18, .ref q_21, .ref q_24, .ref q_27, .null, .null])), (q_12, .inr (8, [.null, .int 0, .int 0, .int 0, .int 0, .ref q_13, .ref q_14, .ref q_15, .ref q_16])), (q_44, .inr (10, [.ref q_49, .int 0, .int 0, .ref q_50, .ref q_51, .ref q_52, .ref q_53, .ref q_54, .int 0, .int 0, .int 0, .int 0, .int 0, .int 0, .int 0, .ref q_55, .int 0, .ref q_56, .int 0, .ref q_57, .ref q_58, .int 0, .ref q_59, .int 0, .ref q_60, .ref q_61, .ref q_62, .int 0, .int 0, .long 0, .ref q_63, .ref q_64, .ref q_65])), (q_58, .inl (k_75, 133, .inl sd0))]) [0, 7, 23, 33] (by decide) rfl
        have hK := hK.sub (tys' := [(k_75, .int)]) [25] rfl
        refine lv_aload_n hx hb dL_law_590 rfl (lv_at hl 2 rfl) ?_
        have hPc := hP.sub (ws' := [(q_1, .inr (9, [.ref q_6, .ref q_8, .ref q_11, .int 0, .ref q_12, .ref q_17, .ref q_18, .ref q_21, .ref q_24, .ref q_27, .null, .null])), (q_12, .inr (8, [.null, .int 0, .int 0, .int 0, .int 0, .ref q_13, .ref q_14, .ref q_15, .ref q_16]))]) [0, 1] rfl
        have hDc := hD.sub (ws' := [(q_1, .inr (9, [.ref q_6, .ref q_8, .ref q_11, .int 0, .ref q_12, .ref q_17, .ref q_18, .ref q_21, .ref q_24, .ref q_27, .null, .null])), (q_12, .inr (8, [.null, .int 0, .int 0, .int 0, .int 0, .ref q_13, .ref q_14, .ref q_15, .ref q_16]))]) [0, 1] (by decide) rfl
        have hKc := hK.sub (tys' := []) [] rfl
        refine cl_V (W.runV (As := []) (rest := []) ⟨hx, hb, hml, hown, hts⟩ (c_x_soonest l D ad H.size q_1 q_6 q_8 q_11 q_12 q_17 q_18 q_21 q_24 q_27 q_13 q_14 q_15 q_16) ⟨callB_of 0 hts (gd_C qq_4_125) rfl rfl rfl (hT _ qq_1_1) (hT _ qq_4_122) (by decide +kernel) (⟨Nat.le_of_ble_eq_true rfl, Nat.le_of_ble_eq_true rfl⟩), (hT _ qq_4_123), (hT _ qq_4_124)⟩ (pr_V hPc hKc hDc hN (ci := 9) (q0 := 0) rfl rfl) rfl rfl hl.1 rfl (lv_room (Nat.le_of_ble_eq_true rfl)) dL_law_591 ⟨Nat.le_of_ble_eq_true rfl, Nat.le_of_ble_eq_true rfl⟩) ?_
        refine lv_aload_n hx hb dL_law_594 rfl (lv_at hl 1 rfl) ?_
        have hPc := hP.sub (ws' := [(q_44, .inr (10, [.ref q_49, .int 0, .int 0, .ref q_50, .ref q_51, .ref q_52, .ref q_53, .ref q_54, .int 0, .int 0, .int 0, .int 0, .int 0, .int 0, .int 0, .ref q_55, .int 0, .ref q_56, .int 0, .ref q_57, .ref q_58, .int 0, .ref q_59, .int 0, .ref q_60, .ref q_61, .ref q_62, .int 0, .int 0, .long 0, .ref q_63, .ref q_64, .ref q_65])), (q_58, .inl (k_75, 133, .inl sd0))]) [2, 3] rfl
        have hDc := hD.sub (ws' := [(q_44, .inr (10, [.ref q_49, .int 0, .int 0, .ref q_50, .ref q_51, .ref q_52, .ref q_53, .ref q_54, .int 0, .int 0, .int 0, .int 0, .int 0, .int 0, .int 0, .ref q_55, .int 0, .ref q_56, .int 0, .ref q_57, .ref q_58, .int 0, .ref q_59, .int 0, .ref q_60, .ref q_61, .ref q_62, .int 0, .int 0, .long 0, .ref q_63, .ref q_64, .ref q_65])), (q_58, .inl (k_75, 133, .inl sd0))]) [2, 3] (by decide) rfl
        have hKc := hK.sub (tys' := [(k_75, .int)]) [0] rfl
        refine cl_V (W.runV (As := []) (rest := [.int (-1)]) ⟨hx, hb, hml, hown, hts⟩ (c_m_soonest l D ad H.size q_44 q_49 q_50 q_51 q_52 q_53 q_54 q_55 q_56 q_57 q_58 q_59 q_60 q_61 q_62 q_63 q_64 q_65 k_75) ⟨callB_of 0 hts (gd_C qq_7_237) rfl rfl rfl (hT _ qq_1_9) (hT _ qq_7_234) (by decide +kernel) (⟨Nat.le_of_ble_eq_true rfl, Nat.le_of_ble_eq_true rfl⟩), (hT _ qq_7_235), (hT _ qq_7_236)⟩ (pr_V hPc hKc hDc hN (ci := 10) (q0 := 0) rfl rfl) rfl rfl hl.1 rfl (lv_room (Nat.le_of_ble_eq_true rfl)) dL_law_595 ⟨Nat.le_of_ble_eq_true rfl, Nat.le_of_ble_eq_true rfl⟩) ?_
        refine lv_icmp_eq (tgt := 1025) hx hb dL_law_598 (by decide) (fun _ => ?_) (fun c_166 => absurd (by decide) c_166)
        refine lv_iinc (v := 6) (lv' := [(3, .int 6), (2, .ref q_44), (1, .ref q_1), (0, .ref b)]) hx hb dL_law_1025 hl (k := 0) rfl (by decide) (by decide) rfl (fun ls hl => ?_)
        refine lv_goto (tgt := 18) hx hb dL_law_1028 (by decide) ?_
        refine lv_iload_n hx hb dL_law_18 rfl (lv_at hl 0 rfl) ?_
        refine lv_aload_n hx hb dL_law_19 rfl (lv_at hl 3 rfl) ?_
        refine va_slen hx hb hX hbl hbA hS dL_law_20 ?_
        refine tc_i 6 rfl ?_
        refine lv_bipush (v := 6) hx hb dL_law_21 (by decide) ?_
        refine lv_isub hx hb dL_law_23 ?_
        refine tc_i 0 (by decide) ?_
        refine lv_icmp_gt (tgt := 1031) hx hb dL_law_24 (by decide) (fun _ => ?_) (fun c_167 => absurd (by decide) c_167)
        refine lv_iconst (v := 1) hx hb dL_law_1031 (by decide) ?_
        refine va_forget (fun q h => by have h9 := hS.2.2 q h; rw [hAe] at h9; exact h9) ?_
        refine W.widen (k := 600000) (n := 7302250) (Nat.le_of_ble_eq_true rfl) (Nat.le_of_ble_eq_true rfl) ?_
        exact lw_ret hx hb hr hlocks dL_law_1032
      · subst hsw
        refine lv_tableIn (tgt := 603) hx hb dL_law_33 (by decide) (by decide) rfl (by decide) ?_
        have hP := hP.sub (ws' := [(q_1, .inr (9, [.ref q_6, .ref q_8, .ref q_11, .int 0, .ref q_12, .ref q_17, .ref q_18, .ref q_21, .ref q_24, .ref q_27, .null, .null])), (q_12, .inr (8, [.null, .int 0, .int 0, .int 0, .int 0, .ref q_13, .ref q_14, .ref q_15, .ref q_16])), (q_44, .inr (10, [.ref q_49, .int 0, .int 0, .ref q_50, .ref q_51, .ref q_52, .ref q_53, .ref q_54, .int 0, .int 0, .int 0, .int 0, .int 0, .int 0, .int 0, .ref q_55, .int 0, .ref q_56, .int 0, .ref q_57, .ref q_58, .int 0, .ref q_59, .int 0, .ref q_60, .ref q_61, .ref q_62, .int 0, .int 0, .long 0, .ref q_63, .ref q_64, .ref q_65])), (q_58, .inl (k_75, 133, .inl sd0))]) [0, 7, 23, 33] rfl
        have hD := hD.sub (ws' := [(q_1, .inr (9, [.ref q_6, .ref q_8, .ref q_11, .int 0, .ref q_12, .ref q_17, .ref q_18, .ref q_21, .ref q_24, .ref q_27, .null, .null])), (q_12, .inr (8, [.null, .int 0, .int 0, .int 0, .int 0, .ref q_13, .ref q_14, .ref q_15, .ref q_16])), (q_44, .inr (10, [.ref q_49, .int 0, .int 0, .ref q_50, .ref q_51, .ref q_52, .ref q_53, .ref q_54, .int 0, .int 0, .int 0, .int 0, .int 0, .int 0, .int 0, .ref q_55, .int 0, .ref q_56, .int 0, .ref q_57, .ref q_58, .int 0, .ref q_59, .int 0, .ref q_60, .ref q_61, .ref q_62, .int 0, .int 0, .long 0, .ref q_63, .ref q_64, .ref q_65])), (q_58, .inl (k_75, 133, .inl sd0))]) [0, 7, 23, 33] (by decide) rfl
        have hK := hK.sub (tys' := [(k_75, .int)]) [25] rfl
        refine lv_aload_n hx hb dL_law_603 rfl (lv_at hl 2 rfl) ?_
        refine lv_aload_n hx hb dL_law_604 rfl (lv_at hl 3 rfl) ?_
        refine lv_iload_n hx hb dL_law_605 rfl (lv_at hl 0 rfl) ?_
        refine lv_iconst (v := 1) hx hb dL_law_606 (by decide) ?_
        refine lv_iadd hx hb dL_law_607 ?_
        refine tc_i 1 (by decide) ?_
        refine va_sld hx hb hX hbl hbA hS (vi_c rfl) dL_law_608 ?_
        refine tc_i (xs 1) rfl ?_
        refine lv_aload_n hx hb dL_law_609 rfl (lv_at hl 3 rfl) ?_
        refine lv_iload_n hx hb dL_law_610 rfl (lv_at hl 0 rfl) ?_
        refine lv_iconst (v := 2) hx hb dL_law_611 (by decide) ?_
        refine lv_iadd hx hb dL_law_612 ?_
        refine tc_i 2 (by decide) ?_
        refine va_sld hx hb hX hbl hbA hS (vi_c rfl) dL_law_613 ?_
        refine tc_i (xs 2) rfl ?_
        have hPc := hP.sub (ws' := [(q_1, .inr (9, [.ref q_6, .ref q_8, .ref q_11, .int 0, .ref q_12, .ref q_17, .ref q_18, .ref q_21, .ref q_24, .ref q_27, .null, .null])), (q_12, .inr (8, [.null, .int 0, .int 0, .int 0, .int 0, .ref q_13, .ref q_14, .ref q_15, .ref q_16]))]) [0, 1] rfl
        have hDc := hD.sub (ws' := [(q_1, .inr (9, [.ref q_6, .ref q_8, .ref q_11, .int 0, .ref q_12, .ref q_17, .ref q_18, .ref q_21, .ref q_24, .ref q_27, .null, .null])), (q_12, .inr (8, [.null, .int 0, .int 0, .int 0, .int 0, .ref q_13, .ref q_14, .ref q_15, .ref q_16]))]) [0, 1] (by decide) rfl
        have hKc := hK.sub (tys' := []) [] rfl
        refine cl_V (W.runV (As := [.int (xs 1), .int (xs 2)]) (rest := []) ⟨hx, hb, hml, hown, hts⟩ (c_x_step l D ad H.size q_1 q_6 q_8 q_11 q_12 q_17 q_18 q_21 q_24 q_27 q_13 q_14 q_15 q_16 (xs 1) (xs 2)) ⟨callB_of 2 hts (gd_C qq_5_25) rfl rfl rfl (hT _ qq_1_1) (hT _ qq_5_22) (by decide +kernel) (⟨Nat.le_of_ble_eq_true rfl, Nat.le_of_ble_eq_true rfl⟩), (hT _ qq_5_23), (hT _ qq_5_24)⟩ (pr_V hPc hKc hDc hN (ci := 9) (q0 := 0) rfl rfl) rfl rfl hl.1 rfl (lv_room (Nat.le_of_ble_eq_true rfl)) dL_law_614 ⟨Nat.le_of_ble_eq_true rfl, Nat.le_of_ble_eq_true rfl⟩) ?_
        refine lv_aload_n hx hb dL_law_617 rfl (lv_at hl 1 rfl) ?_
        refine lv_aload_n hx hb dL_law_618 rfl (lv_at hl 3 rfl) ?_
        refine lv_iload_n hx hb dL_law_619 rfl (lv_at hl 0 rfl) ?_
        refine lv_iconst (v := 1) hx hb dL_law_620 (by decide) ?_
        refine lv_iadd hx hb dL_law_621 ?_
        refine tc_i 1 (by decide) ?_
        refine va_sld hx hb hX hbl hbA hS (vi_c rfl) dL_law_622 ?_
        refine tc_i (xs 1) rfl ?_
        refine lv_aload_n hx hb dL_law_623 rfl (lv_at hl 3 rfl) ?_
        refine lv_iload_n hx hb dL_law_624 rfl (lv_at hl 0 rfl) ?_
        refine lv_iconst (v := 2) hx hb dL_law_625 (by decide) ?_
        refine lv_iadd hx hb dL_law_626 ?_
        refine tc_i 2 (by decide) ?_
        refine va_sld hx hb hX hbl hbA hS (vi_c rfl) dL_law_627 ?_
        refine tc_i (xs 2) rfl ?_
        have hPc := hP.sub (ws' := [(q_44, .inr (10, [.ref q_49, .int 0, .int 0, .ref q_50, .ref q_51, .ref q_52, .ref q_53, .ref q_54, .int 0, .int 0, .int 0, .int 0, .int 0, .int 0, .int 0, .ref q_55, .int 0, .ref q_56, .int 0, .ref q_57, .ref q_58, .int 0, .ref q_59, .int 0, .ref q_60, .ref q_61, .ref q_62, .int 0, .int 0, .long 0, .ref q_63, .ref q_64, .ref q_65])), (q_58, .inl (k_75, 133, .inl sd0))]) [2, 3] rfl
        have hDc := hD.sub (ws' := [(q_44, .inr (10, [.ref q_49, .int 0, .int 0, .ref q_50, .ref q_51, .ref q_52, .ref q_53, .ref q_54, .int 0, .int 0, .int 0, .int 0, .int 0, .int 0, .int 0, .ref q_55, .int 0, .ref q_56, .int 0, .ref q_57, .ref q_58, .int 0, .ref q_59, .int 0, .ref q_60, .ref q_61, .ref q_62, .int 0, .int 0, .long 0, .ref q_63, .ref q_64, .ref q_65])), (q_58, .inl (k_75, 133, .inl sd0))]) [2, 3] (by decide) rfl
        have hKc := hK.sub (tys' := [(k_75, .int)]) [0] rfl
        refine cl_V (W.runV (As := [.int (xs 1), .int (xs 2)]) (rest := [.int (-1)]) ⟨hx, hb, hml, hown, hts⟩ (c_m_step l D ad H.size q_44 q_49 q_50 q_51 q_52 q_53 q_54 q_55 q_56 q_57 q_58 q_59 q_60 q_61 q_62 q_63 q_64 q_65 k_75 (xs 1) (xs 2)) ⟨callB_of 2 hts (gd_C qq_8_9) rfl rfl rfl (hT _ qq_1_9) (hT _ qq_8_6) (by decide +kernel) (⟨Nat.le_of_ble_eq_true rfl, Nat.le_of_ble_eq_true rfl⟩), (hT _ qq_8_7), (hT _ qq_8_8)⟩ (pr_V hPc hKc hDc hN (ci := 10) (q0 := 0) rfl rfl) rfl rfl hl.1 rfl (lv_room (Nat.le_of_ble_eq_true rfl)) dL_law_628 ⟨Nat.le_of_ble_eq_true rfl, Nat.le_of_ble_eq_true rfl⟩) ?_
        refine lv_icmp_eq (tgt := 1025) hx hb dL_law_631 (by decide) (fun _ => ?_) (fun c_168 => absurd (by decide) c_168)
        refine lv_iinc (v := 6) (lv' := [(3, .int 6), (2, .ref q_44), (1, .ref q_1), (0, .ref b)]) hx hb dL_law_1025 hl (k := 0) rfl (by decide) (by decide) rfl (fun ls hl => ?_)
        refine lv_goto (tgt := 18) hx hb dL_law_1028 (by decide) ?_
        refine lv_iload_n hx hb dL_law_18 rfl (lv_at hl 0 rfl) ?_
        refine lv_aload_n hx hb dL_law_19 rfl (lv_at hl 3 rfl) ?_
        refine va_slen hx hb hX hbl hbA hS dL_law_20 ?_
        refine tc_i 6 rfl ?_
        refine lv_bipush (v := 6) hx hb dL_law_21 (by decide) ?_
        refine lv_isub hx hb dL_law_23 ?_
        refine tc_i 0 (by decide) ?_
        refine lv_icmp_gt (tgt := 1031) hx hb dL_law_24 (by decide) (fun _ => ?_) (fun c_169 => absurd (by decide) c_169)
        refine lv_iconst (v := 1) hx hb dL_law_1031 (by decide) ?_
        refine va_forget (fun q h => by have h9 := hS.2.2 q h; rw [hAe] at h9; exact h9) ?_
        refine W.widen (k := 600000) (n := 7302250) (Nat.le_of_ble_eq_true rfl) (Nat.le_of_ble_eq_true rfl) ?_
        exact lw_ret hx hb hr hlocks dL_law_1032
      · subst hsw
        refine lv_tableIn (tgt := 636) hx hb dL_law_33 (by decide) (by decide) rfl (by decide) ?_
        have hP := hP.sub (ws' := [(q_1, .inr (9, [.ref q_6, .ref q_8, .ref q_11, .int 0, .ref q_12, .ref q_17, .ref q_18, .ref q_21, .ref q_24, .ref q_27, .null, .null])), (q_12, .inr (8, [.null, .int 0, .int 0, .int 0, .int 0, .ref q_13, .ref q_14, .ref q_15, .ref q_16])), (q_44, .inr (10, [.ref q_49, .int 0, .int 0, .ref q_50, .ref q_51, .ref q_52, .ref q_53, .ref q_54, .int 0, .int 0, .int 0, .int 0, .int 0, .int 0, .int 0, .ref q_55, .int 0, .ref q_56, .int 0, .ref q_57, .ref q_58, .int 0, .ref q_59, .int 0, .ref q_60, .ref q_61, .ref q_62, .int 0, .int 0, .long 0, .ref q_63, .ref q_64, .ref q_65])), (q_58, .inl (k_75, 133, .inl sd0))]) [0, 7, 23, 33] rfl
        have hD := hD.sub (ws' := [(q_1, .inr (9, [.ref q_6, .ref q_8, .ref q_11, .int 0, .ref q_12, .ref q_17, .ref q_18, .ref q_21, .ref q_24, .ref q_27, .null, .null])), (q_12, .inr (8, [.null, .int 0, .int 0, .int 0, .int 0, .ref q_13, .ref q_14, .ref q_15, .ref q_16])), (q_44, .inr (10, [.ref q_49, .int 0, .int 0, .ref q_50, .ref q_51, .ref q_52, .ref q_53, .ref q_54, .int 0, .int 0, .int 0, .int 0, .int 0, .int 0, .int 0, .ref q_55, .int 0, .ref q_56, .int 0, .ref q_57, .ref q_58, .int 0, .ref q_59, .int 0, .ref q_60, .ref q_61, .ref q_62, .int 0, .int 0, .long 0, .ref q_63, .ref q_64, .ref q_65])), (q_58, .inl (k_75, 133, .inl sd0))]) [0, 7, 23, 33] (by decide) rfl
        have hK := hK.sub (tys' := [(k_75, .int)]) [25] rfl
        refine lv_aload_n hx hb dL_law_636 rfl (lv_at hl 2 rfl) ?_
        refine lv_aload_n hx hb dL_law_637 rfl (lv_at hl 3 rfl) ?_
        refine lv_iload_n hx hb dL_law_638 rfl (lv_at hl 0 rfl) ?_
        refine lv_iconst (v := 1) hx hb dL_law_639 (by decide) ?_
        refine lv_iadd hx hb dL_law_640 ?_
        refine tc_i 1 (by decide) ?_
        refine va_sld hx hb hX hbl hbA hS (vi_c rfl) dL_law_641 ?_
        refine tc_i (xs 1) rfl ?_
        refine lv_aload_n hx hb dL_law_642 rfl (lv_at hl 3 rfl) ?_
        refine lv_iload_n hx hb dL_law_643 rfl (lv_at hl 0 rfl) ?_
        refine lv_iconst (v := 2) hx hb dL_law_644 (by decide) ?_
        refine lv_iadd hx hb dL_law_645 ?_
        refine tc_i 2 (by decide) ?_
        refine va_sld hx hb hX hbl hbA hS (vi_c rfl) dL_law_646 ?_
        refine tc_i (xs 2) rfl ?_
        have hPc := hP.sub (ws' := [(q_1, .inr (9, [.ref q_6, .ref q_8, .ref q_11, .int 0, .ref q_12, .ref q_17, .ref q_18, .ref q_21, .ref q_24, .ref q_27, .null, .null])), (q_12, .inr (8, [.null, .int 0, .int 0, .int 0, .int 0, .ref q_13, .ref q_14, .ref q_15, .ref q_16]))]) [0, 1] rfl
        have hDc := hD.sub (ws' := [(q_1, .inr (9, [.ref q_6, .ref q_8, .ref q_11, .int 0, .ref q_12, .ref q_17, .ref q_18, .ref q_21, .ref q_24, .ref q_27, .null, .null])), (q_12, .inr (8, [.null, .int 0, .int 0, .int 0, .int 0, .ref q_13, .ref q_14, .ref q_15, .ref q_16]))]) [0, 1] (by decide) rfl
        have hKc := hK.sub (tys' := []) [] rfl
        refine cl_V (W.runV (As := [.int (xs 1), .int (xs 2)]) (rest := []) ⟨hx, hb, hml, hown, hts⟩ (c_x_floor l D ad H.size q_1 q_6 q_8 q_11 q_12 q_17 q_18 q_21 q_24 q_27 q_13 q_14 q_15 q_16 (xs 1) (xs 2)) ⟨callB_of 2 hts (gd_C qq_5_37) rfl rfl rfl (hT _ qq_1_1) (hT _ qq_5_34) (by decide +kernel) (⟨Nat.le_of_ble_eq_true rfl, Nat.le_of_ble_eq_true rfl⟩), (hT _ qq_5_35), (hT _ qq_5_36)⟩ (pr_V hPc hKc hDc hN (ci := 9) (q0 := 0) rfl rfl) rfl rfl hl.1 rfl (lv_room (Nat.le_of_ble_eq_true rfl)) dL_law_647 ⟨Nat.le_of_ble_eq_true rfl, Nat.le_of_ble_eq_true rfl⟩) ?_
        refine lv_aload_n hx hb dL_law_650 rfl (lv_at hl 1 rfl) ?_
        refine lv_aload_n hx hb dL_law_651 rfl (lv_at hl 3 rfl) ?_
        refine lv_iload_n hx hb dL_law_652 rfl (lv_at hl 0 rfl) ?_
        refine lv_iconst (v := 1) hx hb dL_law_653 (by decide) ?_
        refine lv_iadd hx hb dL_law_654 ?_
        refine tc_i 1 (by decide) ?_
        refine va_sld hx hb hX hbl hbA hS (vi_c rfl) dL_law_655 ?_
        refine tc_i (xs 1) rfl ?_
        refine lv_aload_n hx hb dL_law_656 rfl (lv_at hl 3 rfl) ?_
        refine lv_iload_n hx hb dL_law_657 rfl (lv_at hl 0 rfl) ?_
        refine lv_iconst (v := 2) hx hb dL_law_658 (by decide) ?_
        refine lv_iadd hx hb dL_law_659 ?_
        refine tc_i 2 (by decide) ?_
        refine va_sld hx hb hX hbl hbA hS (vi_c rfl) dL_law_660 ?_
        refine tc_i (xs 2) rfl ?_
        have hPc := hP.sub (ws' := [(q_44, .inr (10, [.ref q_49, .int 0, .int 0, .ref q_50, .ref q_51, .ref q_52, .ref q_53, .ref q_54, .int 0, .int 0, .int 0, .int 0, .int 0, .int 0, .int 0, .ref q_55, .int 0, .ref q_56, .int 0, .ref q_57, .ref q_58, .int 0, .ref q_59, .int 0, .ref q_60, .ref q_61, .ref q_62, .int 0, .int 0, .long 0, .ref q_63, .ref q_64, .ref q_65])), (q_58, .inl (k_75, 133, .inl sd0))]) [2, 3] rfl
        have hDc := hD.sub (ws' := [(q_44, .inr (10, [.ref q_49, .int 0, .int 0, .ref q_50, .ref q_51, .ref q_52, .ref q_53, .ref q_54, .int 0, .int 0, .int 0, .int 0, .int 0, .int 0, .int 0, .ref q_55, .int 0, .ref q_56, .int 0, .ref q_57, .ref q_58, .int 0, .ref q_59, .int 0, .ref q_60, .ref q_61, .ref q_62, .int 0, .int 0, .long 0, .ref q_63, .ref q_64, .ref q_65])), (q_58, .inl (k_75, 133, .inl sd0))]) [2, 3] (by decide) rfl
        have hKc := hK.sub (tys' := [(k_75, .int)]) [0] rfl
        refine cl_V (W.runV (As := [.int (xs 1), .int (xs 2)]) (rest := [.int (-1)]) ⟨hx, hb, hml, hown, hts⟩ (c_m_floor l D ad H.size q_44 q_49 q_50 q_51 q_52 q_53 q_54 q_55 q_56 q_57 q_58 q_59 q_60 q_61 q_62 q_63 q_64 q_65 k_75 (xs 1) (xs 2)) ⟨callB_of 2 hts (gd_C qq_8_17) rfl rfl rfl (hT _ qq_1_9) (hT _ qq_8_14) (by decide +kernel) (⟨Nat.le_of_ble_eq_true rfl, Nat.le_of_ble_eq_true rfl⟩), (hT _ qq_8_15), (hT _ qq_8_16)⟩ (pr_V hPc hKc hDc hN (ci := 10) (q0 := 0) rfl rfl) rfl rfl hl.1 rfl (lv_room (Nat.le_of_ble_eq_true rfl)) dL_law_661 ⟨Nat.le_of_ble_eq_true rfl, Nat.le_of_ble_eq_true rfl⟩) ?_
        refine lv_icmp_eq (tgt := 1025) hx hb dL_law_664 (by decide) (fun _ => ?_) (fun c_170 => absurd (by decide) c_170)
        refine lv_iinc (v := 6) (lv' := [(3, .int 6), (2, .ref q_44), (1, .ref q_1), (0, .ref b)]) hx hb dL_law_1025 hl (k := 0) rfl (by decide) (by decide) rfl (fun ls hl => ?_)
        refine lv_goto (tgt := 18) hx hb dL_law_1028 (by decide) ?_
        refine lv_iload_n hx hb dL_law_18 rfl (lv_at hl 0 rfl) ?_
        refine lv_aload_n hx hb dL_law_19 rfl (lv_at hl 3 rfl) ?_
        refine va_slen hx hb hX hbl hbA hS dL_law_20 ?_
        refine tc_i 6 rfl ?_
        refine lv_bipush (v := 6) hx hb dL_law_21 (by decide) ?_
        refine lv_isub hx hb dL_law_23 ?_
        refine tc_i 0 (by decide) ?_
        refine lv_icmp_gt (tgt := 1031) hx hb dL_law_24 (by decide) (fun _ => ?_) (fun c_171 => absurd (by decide) c_171)
        refine lv_iconst (v := 1) hx hb dL_law_1031 (by decide) ?_
        refine va_forget (fun q h => by have h9 := hS.2.2 q h; rw [hAe] at h9; exact h9) ?_
        refine W.widen (k := 600000) (n := 7302250) (Nat.le_of_ble_eq_true rfl) (Nat.le_of_ble_eq_true rfl) ?_
        exact lw_ret hx hb hr hlocks dL_law_1032
      · subst hsw
        refine lv_tableIn (tgt := 669) hx hb dL_law_33 (by decide) (by decide) rfl (by decide) ?_
        have hP := hP.sub (ws' := [(q_1, .inr (9, [.ref q_6, .ref q_8, .ref q_11, .int 0, .ref q_12, .ref q_17, .ref q_18, .ref q_21, .ref q_24, .ref q_27, .null, .null])), (q_12, .inr (8, [.null, .int 0, .int 0, .int 0, .int 0, .ref q_13, .ref q_14, .ref q_15, .ref q_16])), (q_44, .inr (10, [.ref q_49, .int 0, .int 0, .ref q_50, .ref q_51, .ref q_52, .ref q_53, .ref q_54, .int 0, .int 0, .int 0, .int 0, .int 0, .int 0, .int 0, .ref q_55, .int 0, .ref q_56, .int 0, .ref q_57, .ref q_58, .int 0, .ref q_59, .int 0, .ref q_60, .ref q_61, .ref q_62, .int 0, .int 0, .long 0, .ref q_63, .ref q_64, .ref q_65])), (q_58, .inl (k_75, 133, .inl sd0))]) [0, 7, 23, 33] rfl
        have hD := hD.sub (ws' := [(q_1, .inr (9, [.ref q_6, .ref q_8, .ref q_11, .int 0, .ref q_12, .ref q_17, .ref q_18, .ref q_21, .ref q_24, .ref q_27, .null, .null])), (q_12, .inr (8, [.null, .int 0, .int 0, .int 0, .int 0, .ref q_13, .ref q_14, .ref q_15, .ref q_16])), (q_44, .inr (10, [.ref q_49, .int 0, .int 0, .ref q_50, .ref q_51, .ref q_52, .ref q_53, .ref q_54, .int 0, .int 0, .int 0, .int 0, .int 0, .int 0, .int 0, .ref q_55, .int 0, .ref q_56, .int 0, .ref q_57, .ref q_58, .int 0, .ref q_59, .int 0, .ref q_60, .ref q_61, .ref q_62, .int 0, .int 0, .long 0, .ref q_63, .ref q_64, .ref q_65])), (q_58, .inl (k_75, 133, .inl sd0))]) [0, 7, 23, 33] (by decide) rfl
        have hK := hK.sub (tys' := [(k_75, .int)]) [25] rfl
        refine lv_aload_n hx hb dL_law_669 rfl (lv_at hl 2 rfl) ?_
        refine lv_aload_n hx hb dL_law_670 rfl (lv_at hl 3 rfl) ?_
        refine lv_iload_n hx hb dL_law_671 rfl (lv_at hl 0 rfl) ?_
        refine lv_iconst (v := 1) hx hb dL_law_672 (by decide) ?_
        refine lv_iadd hx hb dL_law_673 ?_
        refine tc_i 1 (by decide) ?_
        refine va_sld hx hb hX hbl hbA hS (vi_c rfl) dL_law_674 ?_
        refine tc_i (xs 1) rfl ?_
        have hPc := hP.sub (ws' := [(q_1, .inr (9, [.ref q_6, .ref q_8, .ref q_11, .int 0, .ref q_12, .ref q_17, .ref q_18, .ref q_21, .ref q_24, .ref q_27, .null, .null])), (q_12, .inr (8, [.null, .int 0, .int 0, .int 0, .int 0, .ref q_13, .ref q_14, .ref q_15, .ref q_16]))]) [0, 1] rfl
        have hDc := hD.sub (ws' := [(q_1, .inr (9, [.ref q_6, .ref q_8, .ref q_11, .int 0, .ref q_12, .ref q_17, .ref q_18, .ref q_21, .ref q_24, .ref q_27, .null, .null])), (q_12, .inr (8, [.null, .int 0, .int 0, .int 0, .int 0, .ref q_13, .ref q_14, .ref q_15, .ref q_16]))]) [0, 1] (by decide) rfl
        have hKc := hK.sub (tys' := []) [] rfl
        refine cl_V (W.runV (As := [.int (xs 1)]) (rest := []) ⟨hx, hb, hml, hown, hts⟩ (c_x_goes l D ad H.size q_1 q_6 q_8 q_11 q_12 q_17 q_18 q_21 q_24 q_27 q_13 q_14 q_15 q_16 (xs 1)) ⟨callB_of 1 hts (gd_C qq_5_45) rfl rfl rfl (hT _ qq_1_1) (hT _ qq_5_42) (by decide +kernel) (⟨Nat.le_of_ble_eq_true rfl, Nat.le_of_ble_eq_true rfl⟩), (hT _ qq_5_43), (hT _ qq_5_44)⟩ (pr_V hPc hKc hDc hN (ci := 9) (q0 := 0) rfl rfl) rfl rfl hl.1 rfl (lv_room (Nat.le_of_ble_eq_true rfl)) dL_law_675 ⟨Nat.le_of_ble_eq_true rfl, Nat.le_of_ble_eq_true rfl⟩) ?_
        refine lv_aload_n hx hb dL_law_678 rfl (lv_at hl 1 rfl) ?_
        refine lv_aload_n hx hb dL_law_679 rfl (lv_at hl 3 rfl) ?_
        refine lv_iload_n hx hb dL_law_680 rfl (lv_at hl 0 rfl) ?_
        refine lv_iconst (v := 1) hx hb dL_law_681 (by decide) ?_
        refine lv_iadd hx hb dL_law_682 ?_
        refine tc_i 1 (by decide) ?_
        refine va_sld hx hb hX hbl hbA hS (vi_c rfl) dL_law_683 ?_
        refine tc_i (xs 1) rfl ?_
        have hPc := hP.sub (ws' := [(q_44, .inr (10, [.ref q_49, .int 0, .int 0, .ref q_50, .ref q_51, .ref q_52, .ref q_53, .ref q_54, .int 0, .int 0, .int 0, .int 0, .int 0, .int 0, .int 0, .ref q_55, .int 0, .ref q_56, .int 0, .ref q_57, .ref q_58, .int 0, .ref q_59, .int 0, .ref q_60, .ref q_61, .ref q_62, .int 0, .int 0, .long 0, .ref q_63, .ref q_64, .ref q_65])), (q_58, .inl (k_75, 133, .inl sd0))]) [2, 3] rfl
        have hDc := hD.sub (ws' := [(q_44, .inr (10, [.ref q_49, .int 0, .int 0, .ref q_50, .ref q_51, .ref q_52, .ref q_53, .ref q_54, .int 0, .int 0, .int 0, .int 0, .int 0, .int 0, .int 0, .ref q_55, .int 0, .ref q_56, .int 0, .ref q_57, .ref q_58, .int 0, .ref q_59, .int 0, .ref q_60, .ref q_61, .ref q_62, .int 0, .int 0, .long 0, .ref q_63, .ref q_64, .ref q_65])), (q_58, .inl (k_75, 133, .inl sd0))]) [2, 3] (by decide) rfl
        have hKc := hK.sub (tys' := [(k_75, .int)]) [0] rfl
        refine cl_V (W.runV (As := [.int (xs 1)]) (rest := [.int (-1)]) ⟨hx, hb, hml, hown, hts⟩ (c_m_goes l D ad H.size q_44 q_49 q_50 q_51 q_52 q_53 q_54 q_55 q_56 q_57 q_58 q_59 q_60 q_61 q_62 q_63 q_64 q_65 k_75 (xs 1)) ⟨callB_of 1 hts (gd_C qq_8_30) rfl rfl rfl (hT _ qq_1_9) (hT _ qq_8_27) (by decide +kernel) (⟨Nat.le_of_ble_eq_true rfl, Nat.le_of_ble_eq_true rfl⟩), (hT _ qq_8_28), (hT _ qq_8_29)⟩ (pr_V hPc hKc hDc hN (ci := 10) (q0 := 0) rfl rfl) rfl rfl hl.1 rfl (lv_room (Nat.le_of_ble_eq_true rfl)) dL_law_684 ⟨Nat.le_of_ble_eq_true rfl, Nat.le_of_ble_eq_true rfl⟩) ?_
        refine lv_icmp_eq (tgt := 1025) hx hb dL_law_687 (by decide) (fun _ => ?_) (fun c_172 => absurd (by decide) c_172)
        refine lv_iinc (v := 6) (lv' := [(3, .int 6), (2, .ref q_44), (1, .ref q_1), (0, .ref b)]) hx hb dL_law_1025 hl (k := 0) rfl (by decide) (by decide) rfl (fun ls hl => ?_)
        refine lv_goto (tgt := 18) hx hb dL_law_1028 (by decide) ?_
        refine lv_iload_n hx hb dL_law_18 rfl (lv_at hl 0 rfl) ?_
        refine lv_aload_n hx hb dL_law_19 rfl (lv_at hl 3 rfl) ?_
        refine va_slen hx hb hX hbl hbA hS dL_law_20 ?_
        refine tc_i 6 rfl ?_
        refine lv_bipush (v := 6) hx hb dL_law_21 (by decide) ?_
        refine lv_isub hx hb dL_law_23 ?_
        refine tc_i 0 (by decide) ?_
        refine lv_icmp_gt (tgt := 1031) hx hb dL_law_24 (by decide) (fun _ => ?_) (fun c_173 => absurd (by decide) c_173)
        refine lv_iconst (v := 1) hx hb dL_law_1031 (by decide) ?_
        refine va_forget (fun q h => by have h9 := hS.2.2 q h; rw [hAe] at h9; exact h9) ?_
        refine W.widen (k := 600000) (n := 7302250) (Nat.le_of_ble_eq_true rfl) (Nat.le_of_ble_eq_true rfl) ?_
        exact lw_ret hx hb hr hlocks dL_law_1032
      · subst hsw
        refine lv_tableIn (tgt := 692) hx hb dL_law_33 (by decide) (by decide) rfl (by decide) ?_
        have hP := hP.sub (ws' := [(q_1, .inr (9, [.ref q_6, .ref q_8, .ref q_11, .int 0, .ref q_12, .ref q_17, .ref q_18, .ref q_21, .ref q_24, .ref q_27, .null, .null])), (q_12, .inr (8, [.null, .int 0, .int 0, .int 0, .int 0, .ref q_13, .ref q_14, .ref q_15, .ref q_16])), (q_44, .inr (10, [.ref q_49, .int 0, .int 0, .ref q_50, .ref q_51, .ref q_52, .ref q_53, .ref q_54, .int 0, .int 0, .int 0, .int 0, .int 0, .int 0, .int 0, .ref q_55, .int 0, .ref q_56, .int 0, .ref q_57, .ref q_58, .int 0, .ref q_59, .int 0, .ref q_60, .ref q_61, .ref q_62, .int 0, .int 0, .long 0, .ref q_63, .ref q_64, .ref q_65])), (q_58, .inl (k_75, 133, .inl sd0))]) [0, 7, 23, 33] rfl
        have hD := hD.sub (ws' := [(q_1, .inr (9, [.ref q_6, .ref q_8, .ref q_11, .int 0, .ref q_12, .ref q_17, .ref q_18, .ref q_21, .ref q_24, .ref q_27, .null, .null])), (q_12, .inr (8, [.null, .int 0, .int 0, .int 0, .int 0, .ref q_13, .ref q_14, .ref q_15, .ref q_16])), (q_44, .inr (10, [.ref q_49, .int 0, .int 0, .ref q_50, .ref q_51, .ref q_52, .ref q_53, .ref q_54, .int 0, .int 0, .int 0, .int 0, .int 0, .int 0, .int 0, .ref q_55, .int 0, .ref q_56, .int 0, .ref q_57, .ref q_58, .int 0, .ref q_59, .int 0, .ref q_60, .ref q_61, .ref q_62, .int 0, .int 0, .long 0, .ref q_63, .ref q_64, .ref q_65])), (q_58, .inl (k_75, 133, .inl sd0))]) [0, 7, 23, 33] (by decide) rfl
        have hK := hK.sub (tys' := [(k_75, .int)]) [25] rfl
        refine lv_aload_n hx hb dL_law_692 rfl (lv_at hl 2 rfl) ?_
        refine lv_aload_n hx hb dL_law_693 rfl (lv_at hl 3 rfl) ?_
        refine lv_iload_n hx hb dL_law_694 rfl (lv_at hl 0 rfl) ?_
        refine lv_iconst (v := 1) hx hb dL_law_695 (by decide) ?_
        refine lv_iadd hx hb dL_law_696 ?_
        refine tc_i 1 (by decide) ?_
        refine va_sld hx hb hX hbl hbA hS (vi_c rfl) dL_law_697 ?_
        refine tc_i (xs 1) rfl ?_
        refine lv_aload_n hx hb dL_law_698 rfl (lv_at hl 3 rfl) ?_
        refine lv_iload_n hx hb dL_law_699 rfl (lv_at hl 0 rfl) ?_
        refine lv_iconst (v := 2) hx hb dL_law_700 (by decide) ?_
        refine lv_iadd hx hb dL_law_701 ?_
        refine tc_i 2 (by decide) ?_
        refine va_sld hx hb hX hbl hbA hS (vi_c rfl) dL_law_702 ?_
        refine tc_i (xs 2) rfl ?_
        refine lv_aload_n hx hb dL_law_703 rfl (lv_at hl 3 rfl) ?_
        refine lv_iload_n hx hb dL_law_704 rfl (lv_at hl 0 rfl) ?_
        refine lv_iconst (v := 3) hx hb dL_law_705 (by decide) ?_
        refine lv_iadd hx hb dL_law_706 ?_
        refine tc_i 3 (by decide) ?_
        refine va_sld hx hb hX hbl hbA hS (vi_c rfl) dL_law_707 ?_
        refine tc_i (xs 3) rfl ?_
        have hPc := hP.sub (ws' := [(q_1, .inr (9, [.ref q_6, .ref q_8, .ref q_11, .int 0, .ref q_12, .ref q_17, .ref q_18, .ref q_21, .ref q_24, .ref q_27, .null, .null])), (q_12, .inr (8, [.null, .int 0, .int 0, .int 0, .int 0, .ref q_13, .ref q_14, .ref q_15, .ref q_16]))]) [0, 1] rfl
        have hDc := hD.sub (ws' := [(q_1, .inr (9, [.ref q_6, .ref q_8, .ref q_11, .int 0, .ref q_12, .ref q_17, .ref q_18, .ref q_21, .ref q_24, .ref q_27, .null, .null])), (q_12, .inr (8, [.null, .int 0, .int 0, .int 0, .int 0, .ref q_13, .ref q_14, .ref q_15, .ref q_16]))]) [0, 1] (by decide) rfl
        have hKc := hK.sub (tys' := []) [] rfl
        refine cl_V (W.runV (As := [.int (xs 1), .int (xs 2), .int (xs 3)]) (rest := []) ⟨hx, hb, hml, hown, hts⟩ (c_x_child l D ad H.size q_1 q_6 q_8 q_11 q_12 q_17 q_18 q_21 q_24 q_27 q_13 q_14 q_15 q_16 (xs 1) (xs 2) (xs 3)) ⟨callB_of 3 hts (gd_C qq_5_49) rfl rfl rfl (hT _ qq_1_1) (hT _ qq_5_46) (by decide +kernel) (⟨Nat.le_of_ble_eq_true rfl, Nat.le_of_ble_eq_true rfl⟩), (hT _ qq_5_47), (hT _ qq_5_48)⟩ (pr_V hPc hKc hDc hN (ci := 9) (q0 := 0) rfl rfl) rfl rfl hl.1 rfl (lv_room (Nat.le_of_ble_eq_true rfl)) dL_law_708 ⟨Nat.le_of_ble_eq_true rfl, Nat.le_of_ble_eq_true rfl⟩) ?_
        refine lv_aload_n hx hb dL_law_711 rfl (lv_at hl 1 rfl) ?_
        refine lv_aload_n hx hb dL_law_712 rfl (lv_at hl 3 rfl) ?_
        refine lv_iload_n hx hb dL_law_713 rfl (lv_at hl 0 rfl) ?_
        refine lv_iconst (v := 1) hx hb dL_law_714 (by decide) ?_
        refine lv_iadd hx hb dL_law_715 ?_
        refine tc_i 1 (by decide) ?_
        refine va_sld hx hb hX hbl hbA hS (vi_c rfl) dL_law_716 ?_
        refine tc_i (xs 1) rfl ?_
        refine lv_aload_n hx hb dL_law_717 rfl (lv_at hl 3 rfl) ?_
        refine lv_iload_n hx hb dL_law_718 rfl (lv_at hl 0 rfl) ?_
        refine lv_iconst (v := 2) hx hb dL_law_719 (by decide) ?_
        refine lv_iadd hx hb dL_law_720 ?_
        refine tc_i 2 (by decide) ?_
        refine va_sld hx hb hX hbl hbA hS (vi_c rfl) dL_law_721 ?_
        refine tc_i (xs 2) rfl ?_
        refine lv_aload_n hx hb dL_law_722 rfl (lv_at hl 3 rfl) ?_
        refine lv_iload_n hx hb dL_law_723 rfl (lv_at hl 0 rfl) ?_
        refine lv_iconst (v := 3) hx hb dL_law_724 (by decide) ?_
        refine lv_iadd hx hb dL_law_725 ?_
        refine tc_i 3 (by decide) ?_
        refine va_sld hx hb hX hbl hbA hS (vi_c rfl) dL_law_726 ?_
        refine tc_i (xs 3) rfl ?_
        have hPc := hP.sub (ws' := [(q_44, .inr (10, [.ref q_49, .int 0, .int 0, .ref q_50, .ref q_51, .ref q_52, .ref q_53, .ref q_54, .int 0, .int 0, .int 0, .int 0, .int 0, .int 0, .int 0, .ref q_55, .int 0, .ref q_56, .int 0, .ref q_57, .ref q_58, .int 0, .ref q_59, .int 0, .ref q_60, .ref q_61, .ref q_62, .int 0, .int 0, .long 0, .ref q_63, .ref q_64, .ref q_65])), (q_58, .inl (k_75, 133, .inl sd0))]) [2, 3] rfl
        have hDc := hD.sub (ws' := [(q_44, .inr (10, [.ref q_49, .int 0, .int 0, .ref q_50, .ref q_51, .ref q_52, .ref q_53, .ref q_54, .int 0, .int 0, .int 0, .int 0, .int 0, .int 0, .int 0, .ref q_55, .int 0, .ref q_56, .int 0, .ref q_57, .ref q_58, .int 0, .ref q_59, .int 0, .ref q_60, .ref q_61, .ref q_62, .int 0, .int 0, .long 0, .ref q_63, .ref q_64, .ref q_65])), (q_58, .inl (k_75, 133, .inl sd0))]) [2, 3] (by decide) rfl
        have hKc := hK.sub (tys' := [(k_75, .int)]) [0] rfl
        refine cl_V (W.runV (As := [.int (xs 1), .int (xs 2), .int (xs 3)]) (rest := [.int (-1)]) ⟨hx, hb, hml, hown, hts⟩ (c_m_child l D ad H.size q_44 q_49 q_50 q_51 q_52 q_53 q_54 q_55 q_56 q_57 q_58 q_59 q_60 q_61 q_62 q_63 q_64 q_65 k_75 (xs 1) (xs 2) (xs 3)) ⟨callB_of 3 hts (gd_C qq_8_35) rfl rfl rfl (hT _ qq_1_9) (hT _ qq_8_32) (by decide +kernel) (⟨Nat.le_of_ble_eq_true rfl, Nat.le_of_ble_eq_true rfl⟩), (hT _ qq_8_33), (hT _ qq_8_34)⟩ (pr_V hPc hKc hDc hN (ci := 10) (q0 := 0) rfl rfl) rfl rfl hl.1 rfl (lv_room (Nat.le_of_ble_eq_true rfl)) dL_law_727 ⟨Nat.le_of_ble_eq_true rfl, Nat.le_of_ble_eq_true rfl⟩) ?_
        refine lv_icmp_eq (tgt := 1025) hx hb dL_law_730 (by decide) (fun _ => ?_) (fun c_174 => absurd (by decide) c_174)
        refine lv_iinc (v := 6) (lv' := [(3, .int 6), (2, .ref q_44), (1, .ref q_1), (0, .ref b)]) hx hb dL_law_1025 hl (k := 0) rfl (by decide) (by decide) rfl (fun ls hl => ?_)
        refine lv_goto (tgt := 18) hx hb dL_law_1028 (by decide) ?_
        refine lv_iload_n hx hb dL_law_18 rfl (lv_at hl 0 rfl) ?_
        refine lv_aload_n hx hb dL_law_19 rfl (lv_at hl 3 rfl) ?_
        refine va_slen hx hb hX hbl hbA hS dL_law_20 ?_
        refine tc_i 6 rfl ?_
        refine lv_bipush (v := 6) hx hb dL_law_21 (by decide) ?_
        refine lv_isub hx hb dL_law_23 ?_
        refine tc_i 0 (by decide) ?_
        refine lv_icmp_gt (tgt := 1031) hx hb dL_law_24 (by decide) (fun _ => ?_) (fun c_175 => absurd (by decide) c_175)
        refine lv_iconst (v := 1) hx hb dL_law_1031 (by decide) ?_
        refine va_forget (fun q h => by have h9 := hS.2.2 q h; rw [hAe] at h9; exact h9) ?_
        refine W.widen (k := 600000) (n := 7302250) (Nat.le_of_ble_eq_true rfl) (Nat.le_of_ble_eq_true rfl) ?_
        exact lw_ret hx hb hr hlocks dL_law_1032
      · subst hsw
        refine lv_tableIn (tgt := 735) hx hb dL_law_33 (by decide) (by decide) rfl (by decide) ?_
        have hP := hP.sub (ws' := [(q_1, .inr (9, [.ref q_6, .ref q_8, .ref q_11, .int 0, .ref q_12, .ref q_17, .ref q_18, .ref q_21, .ref q_24, .ref q_27, .null, .null])), (q_12, .inr (8, [.null, .int 0, .int 0, .int 0, .int 0, .ref q_13, .ref q_14, .ref q_15, .ref q_16])), (q_44, .inr (10, [.ref q_49, .int 0, .int 0, .ref q_50, .ref q_51, .ref q_52, .ref q_53, .ref q_54, .int 0, .int 0, .int 0, .int 0, .int 0, .int 0, .int 0, .ref q_55, .int 0, .ref q_56, .int 0, .ref q_57, .ref q_58, .int 0, .ref q_59, .int 0, .ref q_60, .ref q_61, .ref q_62, .int 0, .int 0, .long 0, .ref q_63, .ref q_64, .ref q_65])), (q_58, .inl (k_75, 133, .inl sd0))]) [0, 7, 23, 33] rfl
        have hD := hD.sub (ws' := [(q_1, .inr (9, [.ref q_6, .ref q_8, .ref q_11, .int 0, .ref q_12, .ref q_17, .ref q_18, .ref q_21, .ref q_24, .ref q_27, .null, .null])), (q_12, .inr (8, [.null, .int 0, .int 0, .int 0, .int 0, .ref q_13, .ref q_14, .ref q_15, .ref q_16])), (q_44, .inr (10, [.ref q_49, .int 0, .int 0, .ref q_50, .ref q_51, .ref q_52, .ref q_53, .ref q_54, .int 0, .int 0, .int 0, .int 0, .int 0, .int 0, .int 0, .ref q_55, .int 0, .ref q_56, .int 0, .ref q_57, .ref q_58, .int 0, .ref q_59, .int 0, .ref q_60, .ref q_61, .ref q_62, .int 0, .int 0, .long 0, .ref q_63, .ref q_64, .ref q_65])), (q_58, .inl (k_75, 133, .inl sd0))]) [0, 7, 23, 33] (by decide) rfl
        have hK := hK.sub (tys' := [(k_75, .int)]) [25] rfl
        refine lv_aload_n hx hb dL_law_735 rfl (lv_at hl 2 rfl) ?_
        refine lv_aload_n hx hb dL_law_736 rfl (lv_at hl 3 rfl) ?_
        refine lv_iload_n hx hb dL_law_737 rfl (lv_at hl 0 rfl) ?_
        refine lv_iconst (v := 1) hx hb dL_law_738 (by decide) ?_
        refine lv_iadd hx hb dL_law_739 ?_
        refine tc_i 1 (by decide) ?_
        refine va_sld hx hb hX hbl hbA hS (vi_c rfl) dL_law_740 ?_
        refine tc_i (xs 1) rfl ?_
        refine lv_aload_n hx hb dL_law_741 rfl (lv_at hl 3 rfl) ?_
        refine lv_iload_n hx hb dL_law_742 rfl (lv_at hl 0 rfl) ?_
        refine lv_iconst (v := 2) hx hb dL_law_743 (by decide) ?_
        refine lv_iadd hx hb dL_law_744 ?_
        refine tc_i 2 (by decide) ?_
        refine va_sld hx hb hX hbl hbA hS (vi_c rfl) dL_law_745 ?_
        refine tc_i (xs 2) rfl ?_
        have hPc := hP.sub (ws' := [(q_1, .inr (9, [.ref q_6, .ref q_8, .ref q_11, .int 0, .ref q_12, .ref q_17, .ref q_18, .ref q_21, .ref q_24, .ref q_27, .null, .null])), (q_12, .inr (8, [.null, .int 0, .int 0, .int 0, .int 0, .ref q_13, .ref q_14, .ref q_15, .ref q_16]))]) [0, 1] rfl
        have hDc := hD.sub (ws' := [(q_1, .inr (9, [.ref q_6, .ref q_8, .ref q_11, .int 0, .ref q_12, .ref q_17, .ref q_18, .ref q_21, .ref q_24, .ref q_27, .null, .null])), (q_12, .inr (8, [.null, .int 0, .int 0, .int 0, .int 0, .ref q_13, .ref q_14, .ref q_15, .ref q_16]))]) [0, 1] (by decide) rfl
        have hKc := hK.sub (tys' := []) [] rfl
        refine cl_V (W.runV (As := [.int (xs 1), .int (xs 2)]) (rest := []) ⟨hx, hb, hml, hown, hts⟩ (c_x_spare l D ad H.size q_1 q_6 q_8 q_11 q_12 q_17 q_18 q_21 q_24 q_27 q_13 q_14 q_15 q_16 (xs 1) (xs 2)) ⟨callB_of 2 hts (gd_C qq_5_56) rfl rfl rfl (hT _ qq_1_1) (hT _ qq_5_53) (by decide +kernel) (⟨Nat.le_of_ble_eq_true rfl, Nat.le_of_ble_eq_true rfl⟩), (hT _ qq_5_54), (hT _ qq_5_55)⟩ (pr_V hPc hKc hDc hN (ci := 9) (q0 := 0) rfl rfl) rfl rfl hl.1 rfl (lv_room (Nat.le_of_ble_eq_true rfl)) dL_law_746 ⟨Nat.le_of_ble_eq_true rfl, Nat.le_of_ble_eq_true rfl⟩) ?_
        refine lv_aload_n hx hb dL_law_749 rfl (lv_at hl 1 rfl) ?_
        refine lv_aload_n hx hb dL_law_750 rfl (lv_at hl 3 rfl) ?_
        refine lv_iload_n hx hb dL_law_751 rfl (lv_at hl 0 rfl) ?_
        refine lv_iconst (v := 1) hx hb dL_law_752 (by decide) ?_
        refine lv_iadd hx hb dL_law_753 ?_
        refine tc_i 1 (by decide) ?_
        refine va_sld hx hb hX hbl hbA hS (vi_c rfl) dL_law_754 ?_
        refine tc_i (xs 1) rfl ?_
        refine lv_aload_n hx hb dL_law_755 rfl (lv_at hl 3 rfl) ?_
        refine lv_iload_n hx hb dL_law_756 rfl (lv_at hl 0 rfl) ?_
        refine lv_iconst (v := 2) hx hb dL_law_757 (by decide) ?_
        refine lv_iadd hx hb dL_law_758 ?_
        refine tc_i 2 (by decide) ?_
        refine va_sld hx hb hX hbl hbA hS (vi_c rfl) dL_law_759 ?_
        refine tc_i (xs 2) rfl ?_
        have hPc := hP.sub (ws' := [(q_44, .inr (10, [.ref q_49, .int 0, .int 0, .ref q_50, .ref q_51, .ref q_52, .ref q_53, .ref q_54, .int 0, .int 0, .int 0, .int 0, .int 0, .int 0, .int 0, .ref q_55, .int 0, .ref q_56, .int 0, .ref q_57, .ref q_58, .int 0, .ref q_59, .int 0, .ref q_60, .ref q_61, .ref q_62, .int 0, .int 0, .long 0, .ref q_63, .ref q_64, .ref q_65])), (q_58, .inl (k_75, 133, .inl sd0))]) [2, 3] rfl
        have hDc := hD.sub (ws' := [(q_44, .inr (10, [.ref q_49, .int 0, .int 0, .ref q_50, .ref q_51, .ref q_52, .ref q_53, .ref q_54, .int 0, .int 0, .int 0, .int 0, .int 0, .int 0, .int 0, .ref q_55, .int 0, .ref q_56, .int 0, .ref q_57, .ref q_58, .int 0, .ref q_59, .int 0, .ref q_60, .ref q_61, .ref q_62, .int 0, .int 0, .long 0, .ref q_63, .ref q_64, .ref q_65])), (q_58, .inl (k_75, 133, .inl sd0))]) [2, 3] (by decide) rfl
        have hKc := hK.sub (tys' := [(k_75, .int)]) [0] rfl
        refine cl_V (W.runV (As := [.int (xs 1), .int (xs 2)]) (rest := [.int (-1)]) ⟨hx, hb, hml, hown, hts⟩ (c_m_spare l D ad H.size q_44 q_49 q_50 q_51 q_52 q_53 q_54 q_55 q_56 q_57 q_58 q_59 q_60 q_61 q_62 q_63 q_64 q_65 k_75 (xs 1) (xs 2)) ⟨callB_of 2 hts (gd_C qq_8_43) rfl rfl rfl (hT _ qq_1_9) (hT _ qq_8_40) (by decide +kernel) (⟨Nat.le_of_ble_eq_true rfl, Nat.le_of_ble_eq_true rfl⟩), (hT _ qq_8_41), (hT _ qq_8_42)⟩ (pr_V hPc hKc hDc hN (ci := 10) (q0 := 0) rfl rfl) rfl rfl hl.1 rfl (lv_room (Nat.le_of_ble_eq_true rfl)) dL_law_760 ⟨Nat.le_of_ble_eq_true rfl, Nat.le_of_ble_eq_true rfl⟩) ?_
        refine lv_icmp_eq (tgt := 1025) hx hb dL_law_763 (by decide) (fun _ => ?_) (fun c_176 => absurd (by decide) c_176)
        refine lv_iinc (v := 6) (lv' := [(3, .int 6), (2, .ref q_44), (1, .ref q_1), (0, .ref b)]) hx hb dL_law_1025 hl (k := 0) rfl (by decide) (by decide) rfl (fun ls hl => ?_)
        refine lv_goto (tgt := 18) hx hb dL_law_1028 (by decide) ?_
        refine lv_iload_n hx hb dL_law_18 rfl (lv_at hl 0 rfl) ?_
        refine lv_aload_n hx hb dL_law_19 rfl (lv_at hl 3 rfl) ?_
        refine va_slen hx hb hX hbl hbA hS dL_law_20 ?_
        refine tc_i 6 rfl ?_
        refine lv_bipush (v := 6) hx hb dL_law_21 (by decide) ?_
        refine lv_isub hx hb dL_law_23 ?_
        refine tc_i 0 (by decide) ?_
        refine lv_icmp_gt (tgt := 1031) hx hb dL_law_24 (by decide) (fun _ => ?_) (fun c_177 => absurd (by decide) c_177)
        refine lv_iconst (v := 1) hx hb dL_law_1031 (by decide) ?_
        refine va_forget (fun q h => by have h9 := hS.2.2 q h; rw [hAe] at h9; exact h9) ?_
        refine W.widen (k := 600000) (n := 7302250) (Nat.le_of_ble_eq_true rfl) (Nat.le_of_ble_eq_true rfl) ?_
        exact lw_ret hx hb hr hlocks dL_law_1032
      · subst hsw
        refine lv_tableIn (tgt := 768) hx hb dL_law_33 (by decide) (by decide) rfl (by decide) ?_
        have hP := hP.sub (ws' := [(q_1, .inr (9, [.ref q_6, .ref q_8, .ref q_11, .int 0, .ref q_12, .ref q_17, .ref q_18, .ref q_21, .ref q_24, .ref q_27, .null, .null])), (q_12, .inr (8, [.null, .int 0, .int 0, .int 0, .int 0, .ref q_13, .ref q_14, .ref q_15, .ref q_16])), (q_44, .inr (10, [.ref q_49, .int 0, .int 0, .ref q_50, .ref q_51, .ref q_52, .ref q_53, .ref q_54, .int 0, .int 0, .int 0, .int 0, .int 0, .int 0, .int 0, .ref q_55, .int 0, .ref q_56, .int 0, .ref q_57, .ref q_58, .int 0, .ref q_59, .int 0, .ref q_60, .ref q_61, .ref q_62, .int 0, .int 0, .long 0, .ref q_63, .ref q_64, .ref q_65])), (q_58, .inl (k_75, 133, .inl sd0))]) [0, 7, 23, 33] rfl
        have hD := hD.sub (ws' := [(q_1, .inr (9, [.ref q_6, .ref q_8, .ref q_11, .int 0, .ref q_12, .ref q_17, .ref q_18, .ref q_21, .ref q_24, .ref q_27, .null, .null])), (q_12, .inr (8, [.null, .int 0, .int 0, .int 0, .int 0, .ref q_13, .ref q_14, .ref q_15, .ref q_16])), (q_44, .inr (10, [.ref q_49, .int 0, .int 0, .ref q_50, .ref q_51, .ref q_52, .ref q_53, .ref q_54, .int 0, .int 0, .int 0, .int 0, .int 0, .int 0, .int 0, .ref q_55, .int 0, .ref q_56, .int 0, .ref q_57, .ref q_58, .int 0, .ref q_59, .int 0, .ref q_60, .ref q_61, .ref q_62, .int 0, .int 0, .long 0, .ref q_63, .ref q_64, .ref q_65])), (q_58, .inl (k_75, 133, .inl sd0))]) [0, 7, 23, 33] (by decide) rfl
        have hK := hK.sub (tys' := [(k_75, .int)]) [25] rfl
        refine lv_aload_n hx hb dL_law_768 rfl (lv_at hl 2 rfl) ?_
        refine lv_aload_n hx hb dL_law_769 rfl (lv_at hl 3 rfl) ?_
        refine lv_iload_n hx hb dL_law_770 rfl (lv_at hl 0 rfl) ?_
        refine lv_iconst (v := 1) hx hb dL_law_771 (by decide) ?_
        refine lv_iadd hx hb dL_law_772 ?_
        refine tc_i 1 (by decide) ?_
        refine va_sld hx hb hX hbl hbA hS (vi_c rfl) dL_law_773 ?_
        refine tc_i (xs 1) rfl ?_
        refine lv_aload_n hx hb dL_law_774 rfl (lv_at hl 3 rfl) ?_
        refine lv_iload_n hx hb dL_law_775 rfl (lv_at hl 0 rfl) ?_
        refine lv_iconst (v := 2) hx hb dL_law_776 (by decide) ?_
        refine lv_iadd hx hb dL_law_777 ?_
        refine tc_i 2 (by decide) ?_
        refine va_sld hx hb hX hbl hbA hS (vi_c rfl) dL_law_778 ?_
        refine tc_i (xs 2) rfl ?_
        refine lv_aload_n hx hb dL_law_779 rfl (lv_at hl 3 rfl) ?_
        refine lv_iload_n hx hb dL_law_780 rfl (lv_at hl 0 rfl) ?_
        refine lv_iconst (v := 3) hx hb dL_law_781 (by decide) ?_
        refine lv_iadd hx hb dL_law_782 ?_
        refine tc_i 3 (by decide) ?_
        refine va_sld hx hb hX hbl hbA hS (vi_c rfl) dL_law_783 ?_
        refine tc_i (xs 3) rfl ?_
        have hPc := hP.sub (ws' := [(q_1, .inr (9, [.ref q_6, .ref q_8, .ref q_11, .int 0, .ref q_12, .ref q_17, .ref q_18, .ref q_21, .ref q_24, .ref q_27, .null, .null])), (q_12, .inr (8, [.null, .int 0, .int 0, .int 0, .int 0, .ref q_13, .ref q_14, .ref q_15, .ref q_16]))]) [0, 1] rfl
        have hDc := hD.sub (ws' := [(q_1, .inr (9, [.ref q_6, .ref q_8, .ref q_11, .int 0, .ref q_12, .ref q_17, .ref q_18, .ref q_21, .ref q_24, .ref q_27, .null, .null])), (q_12, .inr (8, [.null, .int 0, .int 0, .int 0, .int 0, .ref q_13, .ref q_14, .ref q_15, .ref q_16]))]) [0, 1] (by decide) rfl
        have hKc := hK.sub (tys' := []) [] rfl
        have hFc := va_free (wc := [(q_1, .inr (9, [.ref q_6, .ref q_8, .ref q_11, .int 0, .ref q_12, .ref q_17, .ref q_18, .ref q_21, .ref q_24, .ref q_27, .null, .null])), (q_12, .inr (8, [.null, .int 0, .int 0, .int 0, .int 0, .ref q_13, .ref q_14, .ref q_15, .ref q_16]))]) hD hS hA [0, 1] rfl
        refine va_calli (va_runV (As := [.int (xs 1), .int (xs 2), .int (xs 3)]) (rest := []) ⟨hx, hb, hml, hown, hts⟩ (c_x_crease l D ad H.size q_1 q_6 q_8 q_11 q_12 q_17 q_18 q_21 q_24 q_27 q_13 q_14 q_15 q_16 (xs 1) (xs 2) (xs 3)) ⟨callB_of 3 hts (gd_C qq_5_60) rfl rfl rfl (hT _ qq_1_1) (hT _ qq_5_57) (by decide +kernel) (⟨Nat.le_of_ble_eq_true rfl, Nat.le_of_ble_eq_true rfl⟩), (hT _ qq_5_58), (hT _ qq_5_59)⟩ (pr_V hPc hKc hDc hN (ci := 9) (q0 := 0) rfl rfl) rfl rfl hl.1 rfl (lv_room (Nat.le_of_ble_eq_true rfl)) dL_law_784 ⟨Nat.le_of_ble_eq_true rfl, Nat.le_of_ble_eq_true rfl⟩) hS (fun q _ h => hFc q h) hFc (fun r_182 u_178 t_181 H1 locs ht9 hvm hw_179 hB_180 hz1 hk1 hS => ?_)
        have hP1 : va_P D vwCl [] H1 := fun k q h => by simp at h
        have hD1 : va_D (va_A [(q_1, .inr (9, [.ref q_6, .ref q_8, .ref q_11, .int 0, .ref q_12, .ref q_17, .ref q_18, .ref q_21, .ref q_24, .ref q_27, .null, .null])), (q_12, .inr (8, [.null, .int 0, .int 0, .int 0, .int 0, .ref q_13, .ref q_14, .ref q_15, .ref q_16]))] H.size) [] := ⟨fun i j p q h => by simp at h, fun k q h => by simp at h⟩
        obtain ⟨hP, hD⟩ := va_join (wr := [(q_44, .inr (10, [.ref q_49, .int 0, .int 0, .ref q_50, .ref q_51, .ref q_52, .ref q_53, .ref q_54, .int 0, .int 0, .int 0, .int 0, .int 0, .int 0, .int 0, .ref q_55, .int 0, .ref q_56, .int 0, .ref q_57, .ref q_58, .int 0, .ref q_59, .int 0, .ref q_60, .ref q_61, .ref q_62, .int 0, .int 0, .long 0, .ref q_63, .ref q_64, .ref q_65])), (q_58, .inl (k_75, 133, .inl sd0))]) (w1 := []) hP hD [0, 1] [2, 3] rfl rfl (by decide) (by decide) hk1 hFc hP1 hD1
        generalize H1 = H at hP hS ⊢
        have hP : va_P D vwCl [(q_44, .inr (10, [.ref q_49, .int 0, .int 0, .ref q_50, .ref q_51, .ref q_52, .ref q_53, .ref q_54, .int 0, .int 0, .int 0, .int 0, .int 0, .int 0, .int 0, .ref q_55, .int 0, .ref q_56, .int 0, .ref q_57, .ref q_58, .int 0, .ref q_59, .int 0, .ref q_60, .ref q_61, .ref q_62, .int 0, .int 0, .long 0, .ref q_63, .ref q_64, .ref q_65])), (q_58, .inl (k_75, 133, .inl sd0))] H := hP
        have hD : va_D A [(q_44, .inr (10, [.ref q_49, .int 0, .int 0, .ref q_50, .ref q_51, .ref q_52, .ref q_53, .ref q_54, .int 0, .int 0, .int 0, .int 0, .int 0, .int 0, .int 0, .ref q_55, .int 0, .ref q_56, .int 0, .ref q_57, .ref q_58, .int 0, .ref q_59, .int 0, .ref q_60, .ref q_61, .ref q_62, .int 0, .int 0, .long 0, .ref q_63, .ref q_64, .ref q_65])), (q_58, .inl (k_75, 133, .inl sd0))] := hD
        refine tc_i (r_crease (xs 1)) hw_179 ?_
        refine lv_aload_n hx hb dL_law_787 rfl (lv_at hl 1 rfl) ?_
        refine lv_aload_n hx hb dL_law_788 rfl (lv_at hl 3 rfl) ?_
        refine lv_iload_n hx hb dL_law_789 rfl (lv_at hl 0 rfl) ?_
        refine lv_iconst (v := 1) hx hb dL_law_790 (by decide) ?_
        refine lv_iadd hx hb dL_law_791 ?_
        refine tc_i 1 (by decide) ?_
        refine va_sld hx hb hX hbl hbA hS (vi_c rfl) dL_law_792 ?_
        refine tc_i (xs 1) rfl ?_
        refine lv_aload_n hx hb dL_law_793 rfl (lv_at hl 3 rfl) ?_
        refine lv_iload_n hx hb dL_law_794 rfl (lv_at hl 0 rfl) ?_
        refine lv_iconst (v := 2) hx hb dL_law_795 (by decide) ?_
        refine lv_iadd hx hb dL_law_796 ?_
        refine tc_i 2 (by decide) ?_
        refine va_sld hx hb hX hbl hbA hS (vi_c rfl) dL_law_797 ?_
        refine tc_i (xs 2) rfl ?_
        refine lv_aload_n hx hb dL_law_798 rfl (lv_at hl 3 rfl) ?_
        refine lv_iload_n hx hb dL_law_799 rfl (lv_at hl 0 rfl) ?_
        refine lv_iconst (v := 3) hx hb dL_law_800 (by decide) ?_
        refine lv_iadd hx hb dL_law_801 ?_
        refine tc_i 3 (by decide) ?_
        refine va_sld hx hb hX hbl hbA hS (vi_c rfl) dL_law_802 ?_
        refine tc_i (xs 3) rfl ?_
        have hPc := hP.sub (ws' := [(q_44, .inr (10, [.ref q_49, .int 0, .int 0, .ref q_50, .ref q_51, .ref q_52, .ref q_53, .ref q_54, .int 0, .int 0, .int 0, .int 0, .int 0, .int 0, .int 0, .ref q_55, .int 0, .ref q_56, .int 0, .ref q_57, .ref q_58, .int 0, .ref q_59, .int 0, .ref q_60, .ref q_61, .ref q_62, .int 0, .int 0, .long 0, .ref q_63, .ref q_64, .ref q_65])), (q_58, .inl (k_75, 133, .inl sd0))]) [0, 1] rfl
        have hDc := hD.sub (ws' := [(q_44, .inr (10, [.ref q_49, .int 0, .int 0, .ref q_50, .ref q_51, .ref q_52, .ref q_53, .ref q_54, .int 0, .int 0, .int 0, .int 0, .int 0, .int 0, .int 0, .ref q_55, .int 0, .ref q_56, .int 0, .ref q_57, .ref q_58, .int 0, .ref q_59, .int 0, .ref q_60, .ref q_61, .ref q_62, .int 0, .int 0, .long 0, .ref q_63, .ref q_64, .ref q_65])), (q_58, .inl (k_75, 133, .inl sd0))]) [0, 1] (by decide) rfl
        have hKc := hK.sub (tys' := [(k_75, .int)]) [0] rfl
        have hFc := va_free (wc := [(q_44, .inr (10, [.ref q_49, .int 0, .int 0, .ref q_50, .ref q_51, .ref q_52, .ref q_53, .ref q_54, .int 0, .int 0, .int 0, .int 0, .int 0, .int 0, .int 0, .ref q_55, .int 0, .ref q_56, .int 0, .ref q_57, .ref q_58, .int 0, .ref q_59, .int 0, .ref q_60, .ref q_61, .ref q_62, .int 0, .int 0, .long 0, .ref q_63, .ref q_64, .ref q_65])), (q_58, .inl (k_75, 133, .inl sd0))]) hD hS hA [0, 1] rfl
        refine va_calli (va_runV (As := [.int (xs 1), .int (xs 2), .int (xs 3)]) (rest := [.int (r_crease (xs 1))]) ⟨hx, hb, hml, hown, hts⟩ (c_m_crease l D ad H.size q_44 q_49 q_50 q_51 q_52 q_53 q_54 q_55 q_56 q_57 q_58 q_59 q_60 q_61 q_62 q_63 q_64 q_65 k_75 (xs 1) (xs 2) (xs 3)) ⟨callB_of 3 hts (gd_C qq_8_47) rfl rfl rfl (hT _ qq_1_9) (hT _ qq_8_44) (by decide +kernel) (⟨Nat.le_of_ble_eq_true rfl, Nat.le_of_ble_eq_true rfl⟩), (hT _ qq_8_45), (hT _ qq_8_46)⟩ (pr_V hPc hKc hDc hN (ci := 10) (q0 := 0) rfl rfl) rfl rfl hl.1 rfl (lv_room (Nat.le_of_ble_eq_true rfl)) dL_law_803 ⟨Nat.le_of_ble_eq_true rfl, Nat.le_of_ble_eq_true rfl⟩) hS (fun q _ h => hFc q h) hFc (fun r_187 u_183 t_186 H1 locs ht9 hvm hw_184 hB_185 hz1 hk1 hS => ?_)
        have hP1 : va_P D vwCl [] H1 := fun k q h => by simp at h
        have hD1 : va_D (va_A [(q_44, .inr (10, [.ref q_49, .int 0, .int 0, .ref q_50, .ref q_51, .ref q_52, .ref q_53, .ref q_54, .int 0, .int 0, .int 0, .int 0, .int 0, .int 0, .int 0, .ref q_55, .int 0, .ref q_56, .int 0, .ref q_57, .ref q_58, .int 0, .ref q_59, .int 0, .ref q_60, .ref q_61, .ref q_62, .int 0, .int 0, .long 0, .ref q_63, .ref q_64, .ref q_65])), (q_58, .inl (k_75, 133, .inl sd0))] H.size) [] := ⟨fun i j p q h => by simp at h, fun k q h => by simp at h⟩
        obtain ⟨hP, hD⟩ := va_join (wr := []) (w1 := []) hP hD [0, 1] [] rfl rfl (by decide) (by decide) hk1 hFc hP1 hD1
        generalize H1 = H at hP hS ⊢
        have hP : va_P D vwCl [] H := hP
        have hD : va_D A [] := hD
        refine tc_i (r_crease (xs 1)) hw_184 ?_
        refine lv_icmp_eq (tgt := 1025) hx hb dL_law_806 (by decide) (fun _ => ?_) (fun c_188 => absurd (rfl) c_188)
        refine lv_iinc (v := 6) (lv' := [(3, .int 6), (2, .ref q_44), (1, .ref q_1), (0, .ref b)]) hx hb dL_law_1025 hl (k := 0) rfl (by decide) (by decide) rfl (fun ls hl => ?_)
        refine lv_goto (tgt := 18) hx hb dL_law_1028 (by decide) ?_
        refine lv_iload_n hx hb dL_law_18 rfl (lv_at hl 0 rfl) ?_
        refine lv_aload_n hx hb dL_law_19 rfl (lv_at hl 3 rfl) ?_
        refine va_slen hx hb hX hbl hbA hS dL_law_20 ?_
        refine tc_i 6 rfl ?_
        refine lv_bipush (v := 6) hx hb dL_law_21 (by decide) ?_
        refine lv_isub hx hb dL_law_23 ?_
        refine tc_i 0 (by decide) ?_
        refine lv_icmp_gt (tgt := 1031) hx hb dL_law_24 (by decide) (fun _ => ?_) (fun c_189 => absurd (by decide) c_189)
        refine lv_iconst (v := 1) hx hb dL_law_1031 (by decide) ?_
        refine va_forget (fun q h => by have h9 := hS.2.2 q h; rw [hAe] at h9; exact h9) ?_
        refine W.widen (k := 600000) (n := 7302250) (Nat.le_of_ble_eq_true rfl) (Nat.le_of_ble_eq_true rfl) ?_
        exact lw_ret hx hb hr hlocks dL_law_1032
      · subst hsw
        refine lv_tableIn (tgt := 811) hx hb dL_law_33 (by decide) (by decide) rfl (by decide) ?_
        have hP := hP.sub (ws' := [(q_1, .inr (9, [.ref q_6, .ref q_8, .ref q_11, .int 0, .ref q_12, .ref q_17, .ref q_18, .ref q_21, .ref q_24, .ref q_27, .null, .null])), (q_12, .inr (8, [.null, .int 0, .int 0, .int 0, .int 0, .ref q_13, .ref q_14, .ref q_15, .ref q_16])), (q_44, .inr (10, [.ref q_49, .int 0, .int 0, .ref q_50, .ref q_51, .ref q_52, .ref q_53, .ref q_54, .int 0, .int 0, .int 0, .int 0, .int 0, .int 0, .int 0, .ref q_55, .int 0, .ref q_56, .int 0, .ref q_57, .ref q_58, .int 0, .ref q_59, .int 0, .ref q_60, .ref q_61, .ref q_62, .int 0, .int 0, .long 0, .ref q_63, .ref q_64, .ref q_65])), (q_58, .inl (k_75, 133, .inl sd0))]) [0, 7, 23, 33] rfl
        have hD := hD.sub (ws' := [(q_1, .inr (9, [.ref q_6, .ref q_8, .ref q_11, .int 0, .ref q_12, .ref q_17, .ref q_18, .ref q_21, .ref q_24, .ref q_27, .null, .null])), (q_12, .inr (8, [.null, .int 0, .int 0, .int 0, .int 0, .ref q_13, .ref q_14, .ref q_15, .ref q_16])), (q_44, .inr (10, [.ref q_49, .int 0, .int 0, .ref q_50, .ref q_51, .ref q_52, .ref q_53, .ref q_54, .int 0, .int 0, .int 0, .int 0, .int 0, .int 0, .int 0, .ref q_55, .int 0, .ref q_56, .int 0, .ref q_57, .ref q_58, .int 0, .ref q_59, .int 0, .ref q_60, .ref q_61, .ref q_62, .int 0, .int 0, .long 0, .ref q_63, .ref q_64, .ref q_65])), (q_58, .inl (k_75, 133, .inl sd0))]) [0, 7, 23, 33] (by decide) rfl
        have hK := hK.sub (tys' := [(k_75, .int)]) [25] rfl
        refine lv_aload_n hx hb dL_law_811 rfl (lv_at hl 2 rfl) ?_
        refine lv_aload_n hx hb dL_law_812 rfl (lv_at hl 3 rfl) ?_
        refine lv_iload_n hx hb dL_law_813 rfl (lv_at hl 0 rfl) ?_
        refine lv_iconst (v := 1) hx hb dL_law_814 (by decide) ?_
        refine lv_iadd hx hb dL_law_815 ?_
        refine tc_i 1 (by decide) ?_
        refine va_sld hx hb hX hbl hbA hS (vi_c rfl) dL_law_816 ?_
        refine tc_i (xs 1) rfl ?_
        have hPc := hP.sub (ws' := [(q_1, .inr (9, [.ref q_6, .ref q_8, .ref q_11, .int 0, .ref q_12, .ref q_17, .ref q_18, .ref q_21, .ref q_24, .ref q_27, .null, .null])), (q_12, .inr (8, [.null, .int 0, .int 0, .int 0, .int 0, .ref q_13, .ref q_14, .ref q_15, .ref q_16]))]) [0, 1] rfl
        have hDc := hD.sub (ws' := [(q_1, .inr (9, [.ref q_6, .ref q_8, .ref q_11, .int 0, .ref q_12, .ref q_17, .ref q_18, .ref q_21, .ref q_24, .ref q_27, .null, .null])), (q_12, .inr (8, [.null, .int 0, .int 0, .int 0, .int 0, .ref q_13, .ref q_14, .ref q_15, .ref q_16]))]) [0, 1] (by decide) rfl
        have hKc := hK.sub (tys' := []) [] rfl
        refine cl_V (W.runV (As := [.int (xs 1)]) (rest := []) ⟨hx, hb, hml, hown, hts⟩ (c_x_ways l D ad H.size q_1 q_6 q_8 q_11 q_12 q_17 q_18 q_21 q_24 q_27 q_13 q_14 q_15 q_16 (xs 1)) ⟨callB_of 1 hts (gd_C qq_5_69) rfl rfl rfl (hT _ qq_1_1) (hT _ qq_5_66) (by decide +kernel) (⟨Nat.le_of_ble_eq_true rfl, Nat.le_of_ble_eq_true rfl⟩), (hT _ qq_5_67), (hT _ qq_5_68)⟩ (pr_V hPc hKc hDc hN (ci := 9) (q0 := 0) rfl rfl) rfl rfl hl.1 rfl (lv_room (Nat.le_of_ble_eq_true rfl)) dL_law_817 ⟨Nat.le_of_ble_eq_true rfl, Nat.le_of_ble_eq_true rfl⟩) ?_
        refine lv_aload_n hx hb dL_law_820 rfl (lv_at hl 1 rfl) ?_
        refine lv_aload_n hx hb dL_law_821 rfl (lv_at hl 3 rfl) ?_
        refine lv_iload_n hx hb dL_law_822 rfl (lv_at hl 0 rfl) ?_
        refine lv_iconst (v := 1) hx hb dL_law_823 (by decide) ?_
        refine lv_iadd hx hb dL_law_824 ?_
        refine tc_i 1 (by decide) ?_
        refine va_sld hx hb hX hbl hbA hS (vi_c rfl) dL_law_825 ?_
        refine tc_i (xs 1) rfl ?_
        have hPc := hP.sub (ws' := [(q_44, .inr (10, [.ref q_49, .int 0, .int 0, .ref q_50, .ref q_51, .ref q_52, .ref q_53, .ref q_54, .int 0, .int 0, .int 0, .int 0, .int 0, .int 0, .int 0, .ref q_55, .int 0, .ref q_56, .int 0, .ref q_57, .ref q_58, .int 0, .ref q_59, .int 0, .ref q_60, .ref q_61, .ref q_62, .int 0, .int 0, .long 0, .ref q_63, .ref q_64, .ref q_65])), (q_58, .inl (k_75, 133, .inl sd0))]) [2, 3] rfl
        have hDc := hD.sub (ws' := [(q_44, .inr (10, [.ref q_49, .int 0, .int 0, .ref q_50, .ref q_51, .ref q_52, .ref q_53, .ref q_54, .int 0, .int 0, .int 0, .int 0, .int 0, .int 0, .int 0, .ref q_55, .int 0, .ref q_56, .int 0, .ref q_57, .ref q_58, .int 0, .ref q_59, .int 0, .ref q_60, .ref q_61, .ref q_62, .int 0, .int 0, .long 0, .ref q_63, .ref q_64, .ref q_65])), (q_58, .inl (k_75, 133, .inl sd0))]) [2, 3] (by decide) rfl
        have hKc := hK.sub (tys' := [(k_75, .int)]) [0] rfl
        refine cl_V (W.runV (As := [.int (xs 1)]) (rest := [.int (-1)]) ⟨hx, hb, hml, hown, hts⟩ (c_m_ways l D ad H.size q_44 q_49 q_50 q_51 q_52 q_53 q_54 q_55 q_56 q_57 q_58 q_59 q_60 q_61 q_62 q_63 q_64 q_65 k_75 (xs 1)) ⟨callB_of 1 hts (gd_C qq_8_51) rfl rfl rfl (hT _ qq_1_9) (hT _ qq_8_48) (by decide +kernel) (⟨Nat.le_of_ble_eq_true rfl, Nat.le_of_ble_eq_true rfl⟩), (hT _ qq_8_49), (hT _ qq_8_50)⟩ (pr_V hPc hKc hDc hN (ci := 10) (q0 := 0) rfl rfl) rfl rfl hl.1 rfl (lv_room (Nat.le_of_ble_eq_true rfl)) dL_law_826 ⟨Nat.le_of_ble_eq_true rfl, Nat.le_of_ble_eq_true rfl⟩) ?_
        refine lv_icmp_eq (tgt := 1025) hx hb dL_law_829 (by decide) (fun _ => ?_) (fun c_190 => absurd (by decide) c_190)
        refine lv_iinc (v := 6) (lv' := [(3, .int 6), (2, .ref q_44), (1, .ref q_1), (0, .ref b)]) hx hb dL_law_1025 hl (k := 0) rfl (by decide) (by decide) rfl (fun ls hl => ?_)
        refine lv_goto (tgt := 18) hx hb dL_law_1028 (by decide) ?_
        refine lv_iload_n hx hb dL_law_18 rfl (lv_at hl 0 rfl) ?_
        refine lv_aload_n hx hb dL_law_19 rfl (lv_at hl 3 rfl) ?_
        refine va_slen hx hb hX hbl hbA hS dL_law_20 ?_
        refine tc_i 6 rfl ?_
        refine lv_bipush (v := 6) hx hb dL_law_21 (by decide) ?_
        refine lv_isub hx hb dL_law_23 ?_
        refine tc_i 0 (by decide) ?_
        refine lv_icmp_gt (tgt := 1031) hx hb dL_law_24 (by decide) (fun _ => ?_) (fun c_191 => absurd (by decide) c_191)
        refine lv_iconst (v := 1) hx hb dL_law_1031 (by decide) ?_
        refine va_forget (fun q h => by have h9 := hS.2.2 q h; rw [hAe] at h9; exact h9) ?_
        refine W.widen (k := 600000) (n := 7302250) (Nat.le_of_ble_eq_true rfl) (Nat.le_of_ble_eq_true rfl) ?_
        exact lw_ret hx hb hr hlocks dL_law_1032
      · subst hsw
        refine lv_tableIn (tgt := 834) hx hb dL_law_33 (by decide) (by decide) rfl (by decide) ?_
        have hP := hP.sub (ws' := [(q_1, .inr (9, [.ref q_6, .ref q_8, .ref q_11, .int 0, .ref q_12, .ref q_17, .ref q_18, .ref q_21, .ref q_24, .ref q_27, .null, .null])), (q_12, .inr (8, [.null, .int 0, .int 0, .int 0, .int 0, .ref q_13, .ref q_14, .ref q_15, .ref q_16])), (q_16, .inl (k_35, 10, .inl (fun _ => (-1)))), (q_44, .inr (10, [.ref q_49, .int 0, .int 0, .ref q_50, .ref q_51, .ref q_52, .ref q_53, .ref q_54, .int 0, .int 0, .int 0, .int 0, .int 0, .int 0, .int 0, .ref q_55, .int 0, .ref q_56, .int 0, .ref q_57, .ref q_58, .int 0, .ref q_59, .int 0, .ref q_60, .ref q_61, .ref q_62, .int 0, .int 0, .long 0, .ref q_63, .ref q_64, .ref q_65])), (q_58, .inl (k_75, 133, .inl sd0))]) [0, 7, 11, 23, 33] rfl
        have hD := hD.sub (ws' := [(q_1, .inr (9, [.ref q_6, .ref q_8, .ref q_11, .int 0, .ref q_12, .ref q_17, .ref q_18, .ref q_21, .ref q_24, .ref q_27, .null, .null])), (q_12, .inr (8, [.null, .int 0, .int 0, .int 0, .int 0, .ref q_13, .ref q_14, .ref q_15, .ref q_16])), (q_16, .inl (k_35, 10, .inl (fun _ => (-1)))), (q_44, .inr (10, [.ref q_49, .int 0, .int 0, .ref q_50, .ref q_51, .ref q_52, .ref q_53, .ref q_54, .int 0, .int 0, .int 0, .int 0, .int 0, .int 0, .int 0, .ref q_55, .int 0, .ref q_56, .int 0, .ref q_57, .ref q_58, .int 0, .ref q_59, .int 0, .ref q_60, .ref q_61, .ref q_62, .int 0, .int 0, .long 0, .ref q_63, .ref q_64, .ref q_65])), (q_58, .inl (k_75, 133, .inl sd0))]) [0, 7, 11, 23, 33] (by decide) rfl
        have hK := hK.sub (tys' := [(k_35, .int), (k_75, .int)]) [7, 25] rfl
        refine lv_aload_n hx hb dL_law_834 rfl (lv_at hl 2 rfl) ?_
        refine lv_aload_n hx hb dL_law_835 rfl (lv_at hl 3 rfl) ?_
        refine lv_iload_n hx hb dL_law_836 rfl (lv_at hl 0 rfl) ?_
        refine lv_iconst (v := 1) hx hb dL_law_837 (by decide) ?_
        refine lv_iadd hx hb dL_law_838 ?_
        refine tc_i 1 (by decide) ?_
        refine va_sld hx hb hX hbl hbA hS (vi_c rfl) dL_law_839 ?_
        refine tc_i (xs 1) rfl ?_
        refine lv_aload_n hx hb dL_law_840 rfl (lv_at hl 3 rfl) ?_
        refine lv_iload_n hx hb dL_law_841 rfl (lv_at hl 0 rfl) ?_
        refine lv_iconst (v := 2) hx hb dL_law_842 (by decide) ?_
        refine lv_iadd hx hb dL_law_843 ?_
        refine tc_i 2 (by decide) ?_
        refine va_sld hx hb hX hbl hbA hS (vi_c rfl) dL_law_844 ?_
        refine tc_i (xs 2) rfl ?_
        have hPc := hP.sub (ws' := [(q_1, .inr (9, [.ref q_6, .ref q_8, .ref q_11, .int 0, .ref q_12, .ref q_17, .ref q_18, .ref q_21, .ref q_24, .ref q_27, .null, .null])), (q_12, .inr (8, [.null, .int 0, .int 0, .int 0, .int 0, .ref q_13, .ref q_14, .ref q_15, .ref q_16])), (q_16, .inl (k_35, 10, .inl (fun _ => (-1))))]) [0, 1, 2] rfl
        have hDc := hD.sub (ws' := [(q_1, .inr (9, [.ref q_6, .ref q_8, .ref q_11, .int 0, .ref q_12, .ref q_17, .ref q_18, .ref q_21, .ref q_24, .ref q_27, .null, .null])), (q_12, .inr (8, [.null, .int 0, .int 0, .int 0, .int 0, .ref q_13, .ref q_14, .ref q_15, .ref q_16])), (q_16, .inl (k_35, 10, .inl (fun _ => (-1))))]) [0, 1, 2] (by decide) rfl
        have hKc := hK.sub (tys' := [(k_35, .int)]) [0] rfl
        have hFc := va_free (wc := [(q_1, .inr (9, [.ref q_6, .ref q_8, .ref q_11, .int 0, .ref q_12, .ref q_17, .ref q_18, .ref q_21, .ref q_24, .ref q_27, .null, .null])), (q_12, .inr (8, [.null, .int 0, .int 0, .int 0, .int 0, .ref q_13, .ref q_14, .ref q_15, .ref q_16])), (q_16, .inl (k_35, 10, .inl (fun _ => (-1))))]) hD hS hA [0, 1, 2] rfl
        refine va_calli (va_runV (As := [.int (xs 1), .int (xs 2)]) (rest := []) ⟨hx, hb, hml, hown, hts⟩ (c_x_seat l D ad H.size q_1 q_6 q_8 q_11 q_12 q_17 q_18 q_21 q_24 q_27 q_13 q_14 q_15 q_16 k_35 (xs 1) (xs 2)) ⟨callB_of 2 hts (gd_C qq_5_102) rfl rfl rfl (hT _ qq_1_1) (hT _ qq_5_99) (by decide +kernel) (⟨Nat.le_of_ble_eq_true rfl, Nat.le_of_ble_eq_true rfl⟩), (hT _ qq_5_100), (hT _ qq_5_101)⟩ (pr_V hPc hKc hDc hN (ci := 9) (q0 := 0) rfl rfl) rfl rfl hl.1 rfl (lv_room (Nat.le_of_ble_eq_true rfl)) dL_law_845 ⟨Nat.le_of_ble_eq_true rfl, Nat.le_of_ble_eq_true rfl⟩) hS (fun q _ h => hFc q h) hFc (fun r_196 u_192 t_195 H1 locs ht9 hvm hw_193 hB_194 hz1 hk1 hS => ?_)
        have hP1 : va_P D vwCl [] H1 := fun k q h => by simp at h
        have hD1 : va_D (va_A [(q_1, .inr (9, [.ref q_6, .ref q_8, .ref q_11, .int 0, .ref q_12, .ref q_17, .ref q_18, .ref q_21, .ref q_24, .ref q_27, .null, .null])), (q_12, .inr (8, [.null, .int 0, .int 0, .int 0, .int 0, .ref q_13, .ref q_14, .ref q_15, .ref q_16])), (q_16, .inl (k_35, 10, .inl (fun _ => (-1))))] H.size) [] := ⟨fun i j p q h => by simp at h, fun k q h => by simp at h⟩
        obtain ⟨hP, hD⟩ := va_join (wr := [(q_44, .inr (10, [.ref q_49, .int 0, .int 0, .ref q_50, .ref q_51, .ref q_52, .ref q_53, .ref q_54, .int 0, .int 0, .int 0, .int 0, .int 0, .int 0, .int 0, .ref q_55, .int 0, .ref q_56, .int 0, .ref q_57, .ref q_58, .int 0, .ref q_59, .int 0, .ref q_60, .ref q_61, .ref q_62, .int 0, .int 0, .long 0, .ref q_63, .ref q_64, .ref q_65])), (q_58, .inl (k_75, 133, .inl sd0))]) (w1 := []) hP hD [0, 1, 2] [3, 4] rfl rfl (by decide) (by decide) hk1 hFc hP1 hD1
        generalize H1 = H at hP hS ⊢
        have hP : va_P D vwCl [(q_44, .inr (10, [.ref q_49, .int 0, .int 0, .ref q_50, .ref q_51, .ref q_52, .ref q_53, .ref q_54, .int 0, .int 0, .int 0, .int 0, .int 0, .int 0, .int 0, .ref q_55, .int 0, .ref q_56, .int 0, .ref q_57, .ref q_58, .int 0, .ref q_59, .int 0, .ref q_60, .ref q_61, .ref q_62, .int 0, .int 0, .long 0, .ref q_63, .ref q_64, .ref q_65])), (q_58, .inl (k_75, 133, .inl sd0))] H := hP
        have hD : va_D A [(q_44, .inr (10, [.ref q_49, .int 0, .int 0, .ref q_50, .ref q_51, .ref q_52, .ref q_53, .ref q_54, .int 0, .int 0, .int 0, .int 0, .int 0, .int 0, .int 0, .ref q_55, .int 0, .ref q_56, .int 0, .ref q_57, .ref q_58, .int 0, .ref q_59, .int 0, .ref q_60, .ref q_61, .ref q_62, .int 0, .int 0, .long 0, .ref q_63, .ref q_64, .ref q_65])), (q_58, .inl (k_75, 133, .inl sd0))] := hD
        refine tc_i (r_seat (xs 1) (xs 2)) hw_193 ?_
        refine lv_aload_n hx hb dL_law_848 rfl (lv_at hl 1 rfl) ?_
        refine lv_aload_n hx hb dL_law_849 rfl (lv_at hl 3 rfl) ?_
        refine lv_iload_n hx hb dL_law_850 rfl (lv_at hl 0 rfl) ?_
        refine lv_iconst (v := 1) hx hb dL_law_851 (by decide) ?_
        refine lv_iadd hx hb dL_law_852 ?_
        refine tc_i 1 (by decide) ?_
        refine va_sld hx hb hX hbl hbA hS (vi_c rfl) dL_law_853 ?_
        refine tc_i (xs 1) rfl ?_
        refine lv_aload_n hx hb dL_law_854 rfl (lv_at hl 3 rfl) ?_
        refine lv_iload_n hx hb dL_law_855 rfl (lv_at hl 0 rfl) ?_
        refine lv_iconst (v := 2) hx hb dL_law_856 (by decide) ?_
        refine lv_iadd hx hb dL_law_857 ?_
        refine tc_i 2 (by decide) ?_
        refine va_sld hx hb hX hbl hbA hS (vi_c rfl) dL_law_858 ?_
        refine tc_i (xs 2) rfl ?_
        have hPc := hP.sub (ws' := [(q_44, .inr (10, [.ref q_49, .int 0, .int 0, .ref q_50, .ref q_51, .ref q_52, .ref q_53, .ref q_54, .int 0, .int 0, .int 0, .int 0, .int 0, .int 0, .int 0, .ref q_55, .int 0, .ref q_56, .int 0, .ref q_57, .ref q_58, .int 0, .ref q_59, .int 0, .ref q_60, .ref q_61, .ref q_62, .int 0, .int 0, .long 0, .ref q_63, .ref q_64, .ref q_65])), (q_58, .inl (k_75, 133, .inl sd0))]) [0, 1] rfl
        have hDc := hD.sub (ws' := [(q_44, .inr (10, [.ref q_49, .int 0, .int 0, .ref q_50, .ref q_51, .ref q_52, .ref q_53, .ref q_54, .int 0, .int 0, .int 0, .int 0, .int 0, .int 0, .int 0, .ref q_55, .int 0, .ref q_56, .int 0, .ref q_57, .ref q_58, .int 0, .ref q_59, .int 0, .ref q_60, .ref q_61, .ref q_62, .int 0, .int 0, .long 0, .ref q_63, .ref q_64, .ref q_65])), (q_58, .inl (k_75, 133, .inl sd0))]) [0, 1] (by decide) rfl
        have hKc := hK.sub (tys' := [(k_75, .int)]) [1] rfl
        have hFc := va_free (wc := [(q_44, .inr (10, [.ref q_49, .int 0, .int 0, .ref q_50, .ref q_51, .ref q_52, .ref q_53, .ref q_54, .int 0, .int 0, .int 0, .int 0, .int 0, .int 0, .int 0, .ref q_55, .int 0, .ref q_56, .int 0, .ref q_57, .ref q_58, .int 0, .ref q_59, .int 0, .ref q_60, .ref q_61, .ref q_62, .int 0, .int 0, .long 0, .ref q_63, .ref q_64, .ref q_65])), (q_58, .inl (k_75, 133, .inl sd0))]) hD hS hA [0, 1] rfl
        refine va_calli (va_runV (As := [.int (xs 1), .int (xs 2)]) (rest := [.int (r_seat (xs 1) (xs 2))]) ⟨hx, hb, hml, hown, hts⟩ (c_m_seat l D ad H.size q_44 q_49 q_50 q_51 q_52 q_53 q_54 q_55 q_56 q_57 q_58 q_59 q_60 q_61 q_62 q_63 q_64 q_65 k_75 (xs 1) (xs 2)) ⟨callB_of 2 hts (gd_C qq_8_63) rfl rfl rfl (hT _ qq_1_9) (hT _ qq_8_60) (by decide +kernel) (⟨Nat.le_of_ble_eq_true rfl, Nat.le_of_ble_eq_true rfl⟩), (hT _ qq_8_61), (hT _ qq_8_62)⟩ (pr_V hPc hKc hDc hN (ci := 10) (q0 := 0) rfl rfl) rfl rfl hl.1 rfl (lv_room (Nat.le_of_ble_eq_true rfl)) dL_law_859 ⟨Nat.le_of_ble_eq_true rfl, Nat.le_of_ble_eq_true rfl⟩) hS (fun q _ h => hFc q h) hFc (fun r_201 u_197 t_200 H1 locs ht9 hvm hw_198 hB_199 hz1 hk1 hS => ?_)
        have hP1 : va_P D vwCl [] H1 := fun k q h => by simp at h
        have hD1 : va_D (va_A [(q_44, .inr (10, [.ref q_49, .int 0, .int 0, .ref q_50, .ref q_51, .ref q_52, .ref q_53, .ref q_54, .int 0, .int 0, .int 0, .int 0, .int 0, .int 0, .int 0, .ref q_55, .int 0, .ref q_56, .int 0, .ref q_57, .ref q_58, .int 0, .ref q_59, .int 0, .ref q_60, .ref q_61, .ref q_62, .int 0, .int 0, .long 0, .ref q_63, .ref q_64, .ref q_65])), (q_58, .inl (k_75, 133, .inl sd0))] H.size) [] := ⟨fun i j p q h => by simp at h, fun k q h => by simp at h⟩
        obtain ⟨hP, hD⟩ := va_join (wr := []) (w1 := []) hP hD [0, 1] [] rfl rfl (by decide) (by decide) hk1 hFc hP1 hD1
        generalize H1 = H at hP hS ⊢
        have hP : va_P D vwCl [] H := hP
        have hD : va_D A [] := hD
        refine tc_i (r_seat (xs 1) (xs 2)) hw_198 ?_
        refine lv_icmp_eq (tgt := 1025) hx hb dL_law_862 (by decide) (fun _ => ?_) (fun c_202 => absurd (rfl) c_202)
        refine lv_iinc (v := 6) (lv' := [(3, .int 6), (2, .ref q_44), (1, .ref q_1), (0, .ref b)]) hx hb dL_law_1025 hl (k := 0) rfl (by decide) (by decide) rfl (fun ls hl => ?_)
        refine lv_goto (tgt := 18) hx hb dL_law_1028 (by decide) ?_
        refine lv_iload_n hx hb dL_law_18 rfl (lv_at hl 0 rfl) ?_
        refine lv_aload_n hx hb dL_law_19 rfl (lv_at hl 3 rfl) ?_
        refine va_slen hx hb hX hbl hbA hS dL_law_20 ?_
        refine tc_i 6 rfl ?_
        refine lv_bipush (v := 6) hx hb dL_law_21 (by decide) ?_
        refine lv_isub hx hb dL_law_23 ?_
        refine tc_i 0 (by decide) ?_
        refine lv_icmp_gt (tgt := 1031) hx hb dL_law_24 (by decide) (fun _ => ?_) (fun c_203 => absurd (by decide) c_203)
        refine lv_iconst (v := 1) hx hb dL_law_1031 (by decide) ?_
        refine va_forget (fun q h => by have h9 := hS.2.2 q h; rw [hAe] at h9; exact h9) ?_
        refine W.widen (k := 600000) (n := 7302250) (Nat.le_of_ble_eq_true rfl) (Nat.le_of_ble_eq_true rfl) ?_
        exact lw_ret hx hb hr hlocks dL_law_1032
      · subst hsw
        refine lv_tableIn (tgt := 867) hx hb dL_law_33 (by decide) (by decide) rfl (by decide) ?_
        have hP := hP.sub (ws' := [(q_1, .inr (9, [.ref q_6, .ref q_8, .ref q_11, .int 0, .ref q_12, .ref q_17, .ref q_18, .ref q_21, .ref q_24, .ref q_27, .null, .null])), (q_12, .inr (8, [.null, .int 0, .int 0, .int 0, .int 0, .ref q_13, .ref q_14, .ref q_15, .ref q_16])), (q_16, .inl (k_35, 10, .inl (fun _ => (-1)))), (q_44, .inr (10, [.ref q_49, .int 0, .int 0, .ref q_50, .ref q_51, .ref q_52, .ref q_53, .ref q_54, .int 0, .int 0, .int 0, .int 0, .int 0, .int 0, .int 0, .ref q_55, .int 0, .ref q_56, .int 0, .ref q_57, .ref q_58, .int 0, .ref q_59, .int 0, .ref q_60, .ref q_61, .ref q_62, .int 0, .int 0, .long 0, .ref q_63, .ref q_64, .ref q_65])), (q_58, .inl (k_75, 133, .inl sd0))]) [0, 7, 11, 23, 33] rfl
        have hD := hD.sub (ws' := [(q_1, .inr (9, [.ref q_6, .ref q_8, .ref q_11, .int 0, .ref q_12, .ref q_17, .ref q_18, .ref q_21, .ref q_24, .ref q_27, .null, .null])), (q_12, .inr (8, [.null, .int 0, .int 0, .int 0, .int 0, .ref q_13, .ref q_14, .ref q_15, .ref q_16])), (q_16, .inl (k_35, 10, .inl (fun _ => (-1)))), (q_44, .inr (10, [.ref q_49, .int 0, .int 0, .ref q_50, .ref q_51, .ref q_52, .ref q_53, .ref q_54, .int 0, .int 0, .int 0, .int 0, .int 0, .int 0, .int 0, .ref q_55, .int 0, .ref q_56, .int 0, .ref q_57, .ref q_58, .int 0, .ref q_59, .int 0, .ref q_60, .ref q_61, .ref q_62, .int 0, .int 0, .long 0, .ref q_63, .ref q_64, .ref q_65])), (q_58, .inl (k_75, 133, .inl sd0))]) [0, 7, 11, 23, 33] (by decide) rfl
        have hK := hK.sub (tys' := [(k_35, .int), (k_75, .int)]) [7, 25] rfl
        refine lv_aload_n hx hb dL_law_867 rfl (lv_at hl 2 rfl) ?_
        refine lv_aload_n hx hb dL_law_868 rfl (lv_at hl 3 rfl) ?_
        refine lv_iload_n hx hb dL_law_869 rfl (lv_at hl 0 rfl) ?_
        refine lv_iconst (v := 1) hx hb dL_law_870 (by decide) ?_
        refine lv_iadd hx hb dL_law_871 ?_
        refine tc_i 1 (by decide) ?_
        refine va_sld hx hb hX hbl hbA hS (vi_c rfl) dL_law_872 ?_
        refine tc_i (xs 1) rfl ?_
        have hPc := hP.sub (ws' := [(q_1, .inr (9, [.ref q_6, .ref q_8, .ref q_11, .int 0, .ref q_12, .ref q_17, .ref q_18, .ref q_21, .ref q_24, .ref q_27, .null, .null])), (q_12, .inr (8, [.null, .int 0, .int 0, .int 0, .int 0, .ref q_13, .ref q_14, .ref q_15, .ref q_16])), (q_16, .inl (k_35, 10, .inl (fun _ => (-1))))]) [0, 1, 2] rfl
        have hDc := hD.sub (ws' := [(q_1, .inr (9, [.ref q_6, .ref q_8, .ref q_11, .int 0, .ref q_12, .ref q_17, .ref q_18, .ref q_21, .ref q_24, .ref q_27, .null, .null])), (q_12, .inr (8, [.null, .int 0, .int 0, .int 0, .int 0, .ref q_13, .ref q_14, .ref q_15, .ref q_16])), (q_16, .inl (k_35, 10, .inl (fun _ => (-1))))]) [0, 1, 2] (by decide) rfl
        have hKc := hK.sub (tys' := [(k_35, .int)]) [0] rfl
        refine cl_V (W.runV (As := [.int (xs 1)]) (rest := []) ⟨hx, hb, hml, hown, hts⟩ (c_x_moves l D ad H.size q_1 q_6 q_8 q_11 q_12 q_17 q_18 q_21 q_24 q_27 q_13 q_14 q_15 q_16 k_35 (xs 1)) ⟨callB_of 1 hts (gd_C qq_5_106) rfl rfl rfl (hT _ qq_1_1) (hT _ qq_5_103) (by decide +kernel) (⟨Nat.le_of_ble_eq_true rfl, Nat.le_of_ble_eq_true rfl⟩), (hT _ qq_5_104), (hT _ qq_5_105)⟩ (pr_V hPc hKc hDc hN (ci := 9) (q0 := 0) rfl rfl) rfl rfl hl.1 rfl (lv_room (Nat.le_of_ble_eq_true rfl)) dL_law_873 ⟨Nat.le_of_ble_eq_true rfl, Nat.le_of_ble_eq_true rfl⟩) ?_
        refine lv_aload_n hx hb dL_law_876 rfl (lv_at hl 1 rfl) ?_
        refine lv_aload_n hx hb dL_law_877 rfl (lv_at hl 3 rfl) ?_
        refine lv_iload_n hx hb dL_law_878 rfl (lv_at hl 0 rfl) ?_
        refine lv_iconst (v := 1) hx hb dL_law_879 (by decide) ?_
        refine lv_iadd hx hb dL_law_880 ?_
        refine tc_i 1 (by decide) ?_
        refine va_sld hx hb hX hbl hbA hS (vi_c rfl) dL_law_881 ?_
        refine tc_i (xs 1) rfl ?_
        have hPc := hP.sub (ws' := [(q_44, .inr (10, [.ref q_49, .int 0, .int 0, .ref q_50, .ref q_51, .ref q_52, .ref q_53, .ref q_54, .int 0, .int 0, .int 0, .int 0, .int 0, .int 0, .int 0, .ref q_55, .int 0, .ref q_56, .int 0, .ref q_57, .ref q_58, .int 0, .ref q_59, .int 0, .ref q_60, .ref q_61, .ref q_62, .int 0, .int 0, .long 0, .ref q_63, .ref q_64, .ref q_65])), (q_58, .inl (k_75, 133, .inl sd0))]) [3, 4] rfl
        have hDc := hD.sub (ws' := [(q_44, .inr (10, [.ref q_49, .int 0, .int 0, .ref q_50, .ref q_51, .ref q_52, .ref q_53, .ref q_54, .int 0, .int 0, .int 0, .int 0, .int 0, .int 0, .int 0, .ref q_55, .int 0, .ref q_56, .int 0, .ref q_57, .ref q_58, .int 0, .ref q_59, .int 0, .ref q_60, .ref q_61, .ref q_62, .int 0, .int 0, .long 0, .ref q_63, .ref q_64, .ref q_65])), (q_58, .inl (k_75, 133, .inl sd0))]) [3, 4] (by decide) rfl
        have hKc := hK.sub (tys' := [(k_75, .int)]) [1] rfl
        refine cl_V (W.runV (As := [.int (xs 1)]) (rest := [.int (r_moves (xs 1))]) ⟨hx, hb, hml, hown, hts⟩ (c_m_moves l D ad H.size q_44 q_49 q_50 q_51 q_52 q_53 q_54 q_55 q_56 q_57 q_58 q_59 q_60 q_61 q_62 q_63 q_64 q_65 k_75 (xs 1)) ⟨callB_of 1 hts (gd_C qq_8_68) rfl rfl rfl (hT _ qq_1_9) (hT _ qq_8_65) (by decide +kernel) (⟨Nat.le_of_ble_eq_true rfl, Nat.le_of_ble_eq_true rfl⟩), (hT _ qq_8_66), (hT _ qq_8_67)⟩ (pr_V hPc hKc hDc hN (ci := 10) (q0 := 0) rfl rfl) rfl rfl hl.1 rfl (lv_room (Nat.le_of_ble_eq_true rfl)) dL_law_882 ⟨Nat.le_of_ble_eq_true rfl, Nat.le_of_ble_eq_true rfl⟩) ?_
        refine lv_icmp_eq (tgt := 1025) hx hb dL_law_885 (by decide) (fun _ => ?_) (fun c_204 => absurd (rfl) c_204)
        refine lv_iinc (v := 6) (lv' := [(3, .int 6), (2, .ref q_44), (1, .ref q_1), (0, .ref b)]) hx hb dL_law_1025 hl (k := 0) rfl (by decide) (by decide) rfl (fun ls hl => ?_)
        refine lv_goto (tgt := 18) hx hb dL_law_1028 (by decide) ?_
        refine lv_iload_n hx hb dL_law_18 rfl (lv_at hl 0 rfl) ?_
        refine lv_aload_n hx hb dL_law_19 rfl (lv_at hl 3 rfl) ?_
        refine va_slen hx hb hX hbl hbA hS dL_law_20 ?_
        refine tc_i 6 rfl ?_
        refine lv_bipush (v := 6) hx hb dL_law_21 (by decide) ?_
        refine lv_isub hx hb dL_law_23 ?_
        refine tc_i 0 (by decide) ?_
        refine lv_icmp_gt (tgt := 1031) hx hb dL_law_24 (by decide) (fun _ => ?_) (fun c_205 => absurd (by decide) c_205)
        refine lv_iconst (v := 1) hx hb dL_law_1031 (by decide) ?_
        refine va_forget (fun q h => by have h9 := hS.2.2 q h; rw [hAe] at h9; exact h9) ?_
        refine W.widen (k := 600000) (n := 7302250) (Nat.le_of_ble_eq_true rfl) (Nat.le_of_ble_eq_true rfl) ?_
        exact lw_ret hx hb hr hlocks dL_law_1032
      · subst hsw
        refine lv_tableIn (tgt := 890) hx hb dL_law_33 (by decide) (by decide) rfl (by decide) ?_
        have hP := hP.sub (ws' := [(q_1, .inr (9, [.ref q_6, .ref q_8, .ref q_11, .int 0, .ref q_12, .ref q_17, .ref q_18, .ref q_21, .ref q_24, .ref q_27, .null, .null])), (q_12, .inr (8, [.null, .int 0, .int 0, .int 0, .int 0, .ref q_13, .ref q_14, .ref q_15, .ref q_16])), (q_44, .inr (10, [.ref q_49, .int 0, .int 0, .ref q_50, .ref q_51, .ref q_52, .ref q_53, .ref q_54, .int 0, .int 0, .int 0, .int 0, .int 0, .int 0, .int 0, .ref q_55, .int 0, .ref q_56, .int 0, .ref q_57, .ref q_58, .int 0, .ref q_59, .int 0, .ref q_60, .ref q_61, .ref q_62, .int 0, .int 0, .long 0, .ref q_63, .ref q_64, .ref q_65]))]) [0, 7, 23] rfl
        have hD := hD.sub (ws' := [(q_1, .inr (9, [.ref q_6, .ref q_8, .ref q_11, .int 0, .ref q_12, .ref q_17, .ref q_18, .ref q_21, .ref q_24, .ref q_27, .null, .null])), (q_12, .inr (8, [.null, .int 0, .int 0, .int 0, .int 0, .ref q_13, .ref q_14, .ref q_15, .ref q_16])), (q_44, .inr (10, [.ref q_49, .int 0, .int 0, .ref q_50, .ref q_51, .ref q_52, .ref q_53, .ref q_54, .int 0, .int 0, .int 0, .int 0, .int 0, .int 0, .int 0, .ref q_55, .int 0, .ref q_56, .int 0, .ref q_57, .ref q_58, .int 0, .ref q_59, .int 0, .ref q_60, .ref q_61, .ref q_62, .int 0, .int 0, .long 0, .ref q_63, .ref q_64, .ref q_65]))]) [0, 7, 23] (by decide) rfl
        have hK := hK.sub (tys' := []) [] rfl
        refine lv_aload_n hx hb dL_law_890 rfl (lv_at hl 2 rfl) ?_
        refine lv_aload_n hx hb dL_law_891 rfl (lv_at hl 3 rfl) ?_
        refine lv_iload_n hx hb dL_law_892 rfl (lv_at hl 0 rfl) ?_
        refine lv_iconst (v := 1) hx hb dL_law_893 (by decide) ?_
        refine lv_iadd hx hb dL_law_894 ?_
        refine tc_i 1 (by decide) ?_
        refine va_sld hx hb hX hbl hbA hS (vi_c rfl) dL_law_895 ?_
        refine tc_i (xs 1) rfl ?_
        have hPc := hP.sub (ws' := [(q_1, .inr (9, [.ref q_6, .ref q_8, .ref q_11, .int 0, .ref q_12, .ref q_17, .ref q_18, .ref q_21, .ref q_24, .ref q_27, .null, .null])), (q_12, .inr (8, [.null, .int 0, .int 0, .int 0, .int 0, .ref q_13, .ref q_14, .ref q_15, .ref q_16]))]) [0, 1] rfl
        have hDc := hD.sub (ws' := [(q_1, .inr (9, [.ref q_6, .ref q_8, .ref q_11, .int 0, .ref q_12, .ref q_17, .ref q_18, .ref q_21, .ref q_24, .ref q_27, .null, .null])), (q_12, .inr (8, [.null, .int 0, .int 0, .int 0, .int 0, .ref q_13, .ref q_14, .ref q_15, .ref q_16]))]) [0, 1] (by decide) rfl
        have hKc := hK.sub (tys' := []) [] rfl
        have hFc := va_free (wc := [(q_1, .inr (9, [.ref q_6, .ref q_8, .ref q_11, .int 0, .ref q_12, .ref q_17, .ref q_18, .ref q_21, .ref q_24, .ref q_27, .null, .null])), (q_12, .inr (8, [.null, .int 0, .int 0, .int 0, .int 0, .ref q_13, .ref q_14, .ref q_15, .ref q_16]))]) hD hS hA [0, 1] rfl
        refine va_calli (va_runV (As := [.int (xs 1)]) (rest := []) ⟨hx, hb, hml, hown, hts⟩ (c_x_seed l D ad H.size q_1 q_6 q_8 q_11 q_12 q_17 q_18 q_21 q_24 q_27 q_13 q_14 q_15 q_16 (xs 1)) ⟨callB_of 1 hts (gd_C qq_5_114) rfl rfl rfl (hT _ qq_1_1) (hT _ qq_5_111) (by decide +kernel) (⟨Nat.le_of_ble_eq_true rfl, Nat.le_of_ble_eq_true rfl⟩), (hT _ qq_5_112), (hT _ qq_5_113)⟩ (pr_V hPc hKc hDc hN (ci := 9) (q0 := 0) rfl rfl) rfl rfl hl.1 rfl (lv_room (Nat.le_of_ble_eq_true rfl)) dL_law_896 ⟨Nat.le_of_ble_eq_true rfl, Nat.le_of_ble_eq_true rfl⟩) hS (fun q _ h => hFc q h) hFc (fun r_210 u_206 t_209 H1 locs ht9 hvm hw_207 hB_208 hz1 hk1 hS => ?_)
        have hP1 : va_P D vwCl [] H1 := fun k q h => by simp at h
        have hD1 : va_D (va_A [(q_1, .inr (9, [.ref q_6, .ref q_8, .ref q_11, .int 0, .ref q_12, .ref q_17, .ref q_18, .ref q_21, .ref q_24, .ref q_27, .null, .null])), (q_12, .inr (8, [.null, .int 0, .int 0, .int 0, .int 0, .ref q_13, .ref q_14, .ref q_15, .ref q_16]))] H.size) [] := ⟨fun i j p q h => by simp at h, fun k q h => by simp at h⟩
        obtain ⟨hP, hD⟩ := va_join (wr := [(q_44, .inr (10, [.ref q_49, .int 0, .int 0, .ref q_50, .ref q_51, .ref q_52, .ref q_53, .ref q_54, .int 0, .int 0, .int 0, .int 0, .int 0, .int 0, .int 0, .ref q_55, .int 0, .ref q_56, .int 0, .ref q_57, .ref q_58, .int 0, .ref q_59, .int 0, .ref q_60, .ref q_61, .ref q_62, .int 0, .int 0, .long 0, .ref q_63, .ref q_64, .ref q_65]))]) (w1 := []) hP hD [0, 1] [2] rfl rfl (by decide) (by decide) hk1 hFc hP1 hD1
        generalize H1 = H at hP hS ⊢
        have hP : va_P D vwCl [(q_44, .inr (10, [.ref q_49, .int 0, .int 0, .ref q_50, .ref q_51, .ref q_52, .ref q_53, .ref q_54, .int 0, .int 0, .int 0, .int 0, .int 0, .int 0, .int 0, .ref q_55, .int 0, .ref q_56, .int 0, .ref q_57, .ref q_58, .int 0, .ref q_59, .int 0, .ref q_60, .ref q_61, .ref q_62, .int 0, .int 0, .long 0, .ref q_63, .ref q_64, .ref q_65]))] H := hP
        have hD : va_D A [(q_44, .inr (10, [.ref q_49, .int 0, .int 0, .ref q_50, .ref q_51, .ref q_52, .ref q_53, .ref q_54, .int 0, .int 0, .int 0, .int 0, .int 0, .int 0, .int 0, .ref q_55, .int 0, .ref q_56, .int 0, .ref q_57, .ref q_58, .int 0, .ref q_59, .int 0, .ref q_60, .ref q_61, .ref q_62, .int 0, .int 0, .long 0, .ref q_63, .ref q_64, .ref q_65]))] := hD
        refine tc_i (r_seed (xs 1)) hw_207 ?_
        refine lv_aload_n hx hb dL_law_899 rfl (lv_at hl 1 rfl) ?_
        refine lv_aload_n hx hb dL_law_900 rfl (lv_at hl 3 rfl) ?_
        refine lv_iload_n hx hb dL_law_901 rfl (lv_at hl 0 rfl) ?_
        refine lv_iconst (v := 1) hx hb dL_law_902 (by decide) ?_
        refine lv_iadd hx hb dL_law_903 ?_
        refine tc_i 1 (by decide) ?_
        refine va_sld hx hb hX hbl hbA hS (vi_c rfl) dL_law_904 ?_
        refine tc_i (xs 1) rfl ?_
        have hPc := hP.sub (ws' := [(q_44, .inr (10, [.ref q_49, .int 0, .int 0, .ref q_50, .ref q_51, .ref q_52, .ref q_53, .ref q_54, .int 0, .int 0, .int 0, .int 0, .int 0, .int 0, .int 0, .ref q_55, .int 0, .ref q_56, .int 0, .ref q_57, .ref q_58, .int 0, .ref q_59, .int 0, .ref q_60, .ref q_61, .ref q_62, .int 0, .int 0, .long 0, .ref q_63, .ref q_64, .ref q_65]))]) [0] rfl
        have hDc := hD.sub (ws' := [(q_44, .inr (10, [.ref q_49, .int 0, .int 0, .ref q_50, .ref q_51, .ref q_52, .ref q_53, .ref q_54, .int 0, .int 0, .int 0, .int 0, .int 0, .int 0, .int 0, .ref q_55, .int 0, .ref q_56, .int 0, .ref q_57, .ref q_58, .int 0, .ref q_59, .int 0, .ref q_60, .ref q_61, .ref q_62, .int 0, .int 0, .long 0, .ref q_63, .ref q_64, .ref q_65]))]) [0] (by decide) rfl
        have hKc := hK.sub (tys' := []) [] rfl
        have hFc := va_free (wc := [(q_44, .inr (10, [.ref q_49, .int 0, .int 0, .ref q_50, .ref q_51, .ref q_52, .ref q_53, .ref q_54, .int 0, .int 0, .int 0, .int 0, .int 0, .int 0, .int 0, .ref q_55, .int 0, .ref q_56, .int 0, .ref q_57, .ref q_58, .int 0, .ref q_59, .int 0, .ref q_60, .ref q_61, .ref q_62, .int 0, .int 0, .long 0, .ref q_63, .ref q_64, .ref q_65]))]) hD hS hA [0] rfl
        refine va_calli (va_runV (As := [.int (xs 1)]) (rest := [.int (r_seed (xs 1))]) ⟨hx, hb, hml, hown, hts⟩ (c_m_seed l D ad H.size q_44 q_49 q_50 q_51 q_52 q_53 q_54 q_55 q_56 q_57 q_58 q_59 q_60 q_61 q_62 q_63 q_64 q_65 (xs 1)) ⟨callB_of 1 hts (gd_C qq_8_77) rfl rfl rfl (hT _ qq_1_9) (hT _ qq_8_74) (by decide +kernel) (⟨Nat.le_of_ble_eq_true rfl, Nat.le_of_ble_eq_true rfl⟩), (hT _ qq_8_75), (hT _ qq_8_76)⟩ (pr_V hPc hKc hDc hN (ci := 10) (q0 := 0) rfl rfl) rfl rfl hl.1 rfl (lv_room (Nat.le_of_ble_eq_true rfl)) dL_law_905 ⟨Nat.le_of_ble_eq_true rfl, Nat.le_of_ble_eq_true rfl⟩) hS (fun q _ h => hFc q h) hFc (fun r_215 u_211 t_214 H1 locs ht9 hvm hw_212 hB_213 hz1 hk1 hS => ?_)
        have hP1 : va_P D vwCl [] H1 := fun k q h => by simp at h
        have hD1 : va_D (va_A [(q_44, .inr (10, [.ref q_49, .int 0, .int 0, .ref q_50, .ref q_51, .ref q_52, .ref q_53, .ref q_54, .int 0, .int 0, .int 0, .int 0, .int 0, .int 0, .int 0, .ref q_55, .int 0, .ref q_56, .int 0, .ref q_57, .ref q_58, .int 0, .ref q_59, .int 0, .ref q_60, .ref q_61, .ref q_62, .int 0, .int 0, .long 0, .ref q_63, .ref q_64, .ref q_65]))] H.size) [] := ⟨fun i j p q h => by simp at h, fun k q h => by simp at h⟩
        obtain ⟨hP, hD⟩ := va_join (wr := []) (w1 := []) hP hD [0] [] rfl rfl (by decide) (by decide) hk1 hFc hP1 hD1
        generalize H1 = H at hP hS ⊢
        have hP : va_P D vwCl [] H := hP
        have hD : va_D A [] := hD
        refine tc_i (r_seed (xs 1)) hw_212 ?_
        refine lv_icmp_eq (tgt := 1025) hx hb dL_law_908 (by decide) (fun _ => ?_) (fun c_216 => absurd (rfl) c_216)
        refine lv_iinc (v := 6) (lv' := [(3, .int 6), (2, .ref q_44), (1, .ref q_1), (0, .ref b)]) hx hb dL_law_1025 hl (k := 0) rfl (by decide) (by decide) rfl (fun ls hl => ?_)
        refine lv_goto (tgt := 18) hx hb dL_law_1028 (by decide) ?_
        refine lv_iload_n hx hb dL_law_18 rfl (lv_at hl 0 rfl) ?_
        refine lv_aload_n hx hb dL_law_19 rfl (lv_at hl 3 rfl) ?_
        refine va_slen hx hb hX hbl hbA hS dL_law_20 ?_
        refine tc_i 6 rfl ?_
        refine lv_bipush (v := 6) hx hb dL_law_21 (by decide) ?_
        refine lv_isub hx hb dL_law_23 ?_
        refine tc_i 0 (by decide) ?_
        refine lv_icmp_gt (tgt := 1031) hx hb dL_law_24 (by decide) (fun _ => ?_) (fun c_217 => absurd (by decide) c_217)
        refine lv_iconst (v := 1) hx hb dL_law_1031 (by decide) ?_
        refine va_forget (fun q h => by have h9 := hS.2.2 q h; rw [hAe] at h9; exact h9) ?_
        refine W.widen (k := 600000) (n := 7302250) (Nat.le_of_ble_eq_true rfl) (Nat.le_of_ble_eq_true rfl) ?_
        exact lw_ret hx hb hr hlocks dL_law_1032
      · subst hsw
        refine lv_tableIn (tgt := 913) hx hb dL_law_33 (by decide) (by decide) rfl (by decide) ?_
        have hP := hP.sub (ws' := [(q_1, .inr (9, [.ref q_6, .ref q_8, .ref q_11, .int 0, .ref q_12, .ref q_17, .ref q_18, .ref q_21, .ref q_24, .ref q_27, .null, .null])), (q_12, .inr (8, [.null, .int 0, .int 0, .int 0, .int 0, .ref q_13, .ref q_14, .ref q_15, .ref q_16])), (q_44, .inr (10, [.ref q_49, .int 0, .int 0, .ref q_50, .ref q_51, .ref q_52, .ref q_53, .ref q_54, .int 0, .int 0, .int 0, .int 0, .int 0, .int 0, .int 0, .ref q_55, .int 0, .ref q_56, .int 0, .ref q_57, .ref q_58, .int 0, .ref q_59, .int 0, .ref q_60, .ref q_61, .ref q_62, .int 0, .int 0, .long 0, .ref q_63, .ref q_64, .ref q_65])), (q_58, .inl (k_75, 133, .inl sd0))]) [0, 7, 23, 33] rfl
        have hD := hD.sub (ws' := [(q_1, .inr (9, [.ref q_6, .ref q_8, .ref q_11, .int 0, .ref q_12, .ref q_17, .ref q_18, .ref q_21, .ref q_24, .ref q_27, .null, .null])), (q_12, .inr (8, [.null, .int 0, .int 0, .int 0, .int 0, .ref q_13, .ref q_14, .ref q_15, .ref q_16])), (q_44, .inr (10, [.ref q_49, .int 0, .int 0, .ref q_50, .ref q_51, .ref q_52, .ref q_53, .ref q_54, .int 0, .int 0, .int 0, .int 0, .int 0, .int 0, .int 0, .ref q_55, .int 0, .ref q_56, .int 0, .ref q_57, .ref q_58, .int 0, .ref q_59, .int 0, .ref q_60, .ref q_61, .ref q_62, .int 0, .int 0, .long 0, .ref q_63, .ref q_64, .ref q_65])), (q_58, .inl (k_75, 133, .inl sd0))]) [0, 7, 23, 33] (by decide) rfl
        have hK := hK.sub (tys' := [(k_75, .int)]) [25] rfl
        refine lv_aload_n hx hb dL_law_913 rfl (lv_at hl 2 rfl) ?_
        refine lv_aload_n hx hb dL_law_914 rfl (lv_at hl 3 rfl) ?_
        refine lv_iload_n hx hb dL_law_915 rfl (lv_at hl 0 rfl) ?_
        refine lv_iconst (v := 1) hx hb dL_law_916 (by decide) ?_
        refine lv_iadd hx hb dL_law_917 ?_
        refine tc_i 1 (by decide) ?_
        refine va_sld hx hb hX hbl hbA hS (vi_c rfl) dL_law_918 ?_
        refine tc_i (xs 1) rfl ?_
        refine lv_aload_n hx hb dL_law_919 rfl (lv_at hl 3 rfl) ?_
        refine lv_iload_n hx hb dL_law_920 rfl (lv_at hl 0 rfl) ?_
        refine lv_iconst (v := 2) hx hb dL_law_921 (by decide) ?_
        refine lv_iadd hx hb dL_law_922 ?_
        refine tc_i 2 (by decide) ?_
        refine va_sld hx hb hX hbl hbA hS (vi_c rfl) dL_law_923 ?_
        refine tc_i (xs 2) rfl ?_
        refine lv_aload_n hx hb dL_law_924 rfl (lv_at hl 3 rfl) ?_
        refine lv_iload_n hx hb dL_law_925 rfl (lv_at hl 0 rfl) ?_
        refine lv_iconst (v := 3) hx hb dL_law_926 (by decide) ?_
        refine lv_iadd hx hb dL_law_927 ?_
        refine tc_i 3 (by decide) ?_
        refine va_sld hx hb hX hbl hbA hS (vi_c rfl) dL_law_928 ?_
        refine tc_i (xs 3) rfl ?_
        have hPc := hP.sub (ws' := [(q_1, .inr (9, [.ref q_6, .ref q_8, .ref q_11, .int 0, .ref q_12, .ref q_17, .ref q_18, .ref q_21, .ref q_24, .ref q_27, .null, .null])), (q_12, .inr (8, [.null, .int 0, .int 0, .int 0, .int 0, .ref q_13, .ref q_14, .ref q_15, .ref q_16]))]) [0, 1] rfl
        have hDc := hD.sub (ws' := [(q_1, .inr (9, [.ref q_6, .ref q_8, .ref q_11, .int 0, .ref q_12, .ref q_17, .ref q_18, .ref q_21, .ref q_24, .ref q_27, .null, .null])), (q_12, .inr (8, [.null, .int 0, .int 0, .int 0, .int 0, .ref q_13, .ref q_14, .ref q_15, .ref q_16]))]) [0, 1] (by decide) rfl
        have hKc := hK.sub (tys' := []) [] rfl
        refine cl_V (W.runV (As := [.int (xs 1), .int (xs 2), .int (xs 3)]) (rest := []) ⟨hx, hb, hml, hown, hts⟩ (c_x_dressed l D ad H.size q_1 q_6 q_8 q_11 q_12 q_17 q_18 q_21 q_24 q_27 q_13 q_14 q_15 q_16 (xs 1) (xs 2) (xs 3)) ⟨callB_of 3 hts (gd_C qq_5_118) rfl rfl rfl (hT _ qq_1_1) (hT _ qq_5_115) (by decide +kernel) (⟨Nat.le_of_ble_eq_true rfl, Nat.le_of_ble_eq_true rfl⟩), (hT _ qq_5_116), (hT _ qq_5_117)⟩ (pr_V hPc hKc hDc hN (ci := 9) (q0 := 0) rfl rfl) rfl rfl hl.1 rfl (lv_room (Nat.le_of_ble_eq_true rfl)) dL_law_929 ⟨Nat.le_of_ble_eq_true rfl, Nat.le_of_ble_eq_true rfl⟩) ?_
        refine lv_aload_n hx hb dL_law_932 rfl (lv_at hl 1 rfl) ?_
        refine lv_aload_n hx hb dL_law_933 rfl (lv_at hl 3 rfl) ?_
        refine lv_iload_n hx hb dL_law_934 rfl (lv_at hl 0 rfl) ?_
        refine lv_iconst (v := 1) hx hb dL_law_935 (by decide) ?_
        refine lv_iadd hx hb dL_law_936 ?_
        refine tc_i 1 (by decide) ?_
        refine va_sld hx hb hX hbl hbA hS (vi_c rfl) dL_law_937 ?_
        refine tc_i (xs 1) rfl ?_
        refine lv_aload_n hx hb dL_law_938 rfl (lv_at hl 3 rfl) ?_
        refine lv_iload_n hx hb dL_law_939 rfl (lv_at hl 0 rfl) ?_
        refine lv_iconst (v := 2) hx hb dL_law_940 (by decide) ?_
        refine lv_iadd hx hb dL_law_941 ?_
        refine tc_i 2 (by decide) ?_
        refine va_sld hx hb hX hbl hbA hS (vi_c rfl) dL_law_942 ?_
        refine tc_i (xs 2) rfl ?_
        refine lv_aload_n hx hb dL_law_943 rfl (lv_at hl 3 rfl) ?_
        refine lv_iload_n hx hb dL_law_944 rfl (lv_at hl 0 rfl) ?_
        refine lv_iconst (v := 3) hx hb dL_law_945 (by decide) ?_
        refine lv_iadd hx hb dL_law_946 ?_
        refine tc_i 3 (by decide) ?_
        refine va_sld hx hb hX hbl hbA hS (vi_c rfl) dL_law_947 ?_
        refine tc_i (xs 3) rfl ?_
        have hPc := hP.sub (ws' := [(q_44, .inr (10, [.ref q_49, .int 0, .int 0, .ref q_50, .ref q_51, .ref q_52, .ref q_53, .ref q_54, .int 0, .int 0, .int 0, .int 0, .int 0, .int 0, .int 0, .ref q_55, .int 0, .ref q_56, .int 0, .ref q_57, .ref q_58, .int 0, .ref q_59, .int 0, .ref q_60, .ref q_61, .ref q_62, .int 0, .int 0, .long 0, .ref q_63, .ref q_64, .ref q_65])), (q_58, .inl (k_75, 133, .inl sd0))]) [2, 3] rfl
        have hDc := hD.sub (ws' := [(q_44, .inr (10, [.ref q_49, .int 0, .int 0, .ref q_50, .ref q_51, .ref q_52, .ref q_53, .ref q_54, .int 0, .int 0, .int 0, .int 0, .int 0, .int 0, .int 0, .ref q_55, .int 0, .ref q_56, .int 0, .ref q_57, .ref q_58, .int 0, .ref q_59, .int 0, .ref q_60, .ref q_61, .ref q_62, .int 0, .int 0, .long 0, .ref q_63, .ref q_64, .ref q_65])), (q_58, .inl (k_75, 133, .inl sd0))]) [2, 3] (by decide) rfl
        have hKc := hK.sub (tys' := [(k_75, .int)]) [0] rfl
        refine cl_V (W.runV (As := [.int (xs 1), .int (xs 2), .int (xs 3)]) (rest := [.int (-1)]) ⟨hx, hb, hml, hown, hts⟩ (c_m_dressed l D ad H.size q_44 q_49 q_50 q_51 q_52 q_53 q_54 q_55 q_56 q_57 q_58 q_59 q_60 q_61 q_62 q_63 q_64 q_65 k_75 (xs 1) (xs 2) (xs 3)) ⟨callB_of 3 hts (gd_C qq_8_81) rfl rfl rfl (hT _ qq_1_9) (hT _ qq_8_78) (by decide +kernel) (⟨Nat.le_of_ble_eq_true rfl, Nat.le_of_ble_eq_true rfl⟩), (hT _ qq_8_79), (hT _ qq_8_80)⟩ (pr_V hPc hKc hDc hN (ci := 10) (q0 := 0) rfl rfl) rfl rfl hl.1 rfl (lv_room (Nat.le_of_ble_eq_true rfl)) dL_law_948 ⟨Nat.le_of_ble_eq_true rfl, Nat.le_of_ble_eq_true rfl⟩) ?_
        refine lv_icmp_eq (tgt := 1025) hx hb dL_law_951 (by decide) (fun _ => ?_) (fun c_218 => absurd (by decide) c_218)
        refine lv_iinc (v := 6) (lv' := [(3, .int 6), (2, .ref q_44), (1, .ref q_1), (0, .ref b)]) hx hb dL_law_1025 hl (k := 0) rfl (by decide) (by decide) rfl (fun ls hl => ?_)
        refine lv_goto (tgt := 18) hx hb dL_law_1028 (by decide) ?_
        refine lv_iload_n hx hb dL_law_18 rfl (lv_at hl 0 rfl) ?_
        refine lv_aload_n hx hb dL_law_19 rfl (lv_at hl 3 rfl) ?_
        refine va_slen hx hb hX hbl hbA hS dL_law_20 ?_
        refine tc_i 6 rfl ?_
        refine lv_bipush (v := 6) hx hb dL_law_21 (by decide) ?_
        refine lv_isub hx hb dL_law_23 ?_
        refine tc_i 0 (by decide) ?_
        refine lv_icmp_gt (tgt := 1031) hx hb dL_law_24 (by decide) (fun _ => ?_) (fun c_219 => absurd (by decide) c_219)
        refine lv_iconst (v := 1) hx hb dL_law_1031 (by decide) ?_
        refine va_forget (fun q h => by have h9 := hS.2.2 q h; rw [hAe] at h9; exact h9) ?_
        refine W.widen (k := 600000) (n := 7302250) (Nat.le_of_ble_eq_true rfl) (Nat.le_of_ble_eq_true rfl) ?_
        exact lw_ret hx hb hr hlocks dL_law_1032
      · subst hsw
        refine lv_tableIn (tgt := 956) hx hb dL_law_33 (by decide) (by decide) rfl (by decide) ?_
        have hP := hP.sub (ws' := [(q_1, .inr (9, [.ref q_6, .ref q_8, .ref q_11, .int 0, .ref q_12, .ref q_17, .ref q_18, .ref q_21, .ref q_24, .ref q_27, .null, .null])), (q_12, .inr (8, [.null, .int 0, .int 0, .int 0, .int 0, .ref q_13, .ref q_14, .ref q_15, .ref q_16])), (q_16, .inl (k_35, 10, .inl (fun _ => (-1)))), (q_18, .inr (3, [.ref q_19, .ref q_20, .int 0, .int 0])), (q_6, .inr (7, [.ref q_7, .int 0, .int 0, .int 0, .int 0, .int 0, .int 0, .int 0])), (q_44, .inr (10, [.ref q_49, .int 0, .int 0, .ref q_50, .ref q_51, .ref q_52, .ref q_53, .ref q_54, .int 0, .int 0, .int 0, .int 0, .int 0, .int 0, .int 0, .ref q_55, .int 0, .ref q_56, .int 0, .ref q_57, .ref q_58, .int 0, .ref q_59, .int 0, .ref q_60, .ref q_61, .ref q_62, .int 0, .int 0, .long 0, .ref q_63, .ref q_64, .ref q_65])), (q_58, .inl (k_75, 133, .inl sd0))]) [0, 7, 11, 13, 1, 23, 33] rfl
        have hD := hD.sub (ws' := [(q_1, .inr (9, [.ref q_6, .ref q_8, .ref q_11, .int 0, .ref q_12, .ref q_17, .ref q_18, .ref q_21, .ref q_24, .ref q_27, .null, .null])), (q_12, .inr (8, [.null, .int 0, .int 0, .int 0, .int 0, .ref q_13, .ref q_14, .ref q_15, .ref q_16])), (q_16, .inl (k_35, 10, .inl (fun _ => (-1)))), (q_18, .inr (3, [.ref q_19, .ref q_20, .int 0, .int 0])), (q_6, .inr (7, [.ref q_7, .int 0, .int 0, .int 0, .int 0, .int 0, .int 0, .int 0])), (q_44, .inr (10, [.ref q_49, .int 0, .int 0, .ref q_50, .ref q_51, .ref q_52, .ref q_53, .ref q_54, .int 0, .int 0, .int 0, .int 0, .int 0, .int 0, .int 0, .ref q_55, .int 0, .ref q_56, .int 0, .ref q_57, .ref q_58, .int 0, .ref q_59, .int 0, .ref q_60, .ref q_61, .ref q_62, .int 0, .int 0, .long 0, .ref q_63, .ref q_64, .ref q_65])), (q_58, .inl (k_75, 133, .inl sd0))]) [0, 7, 11, 13, 1, 23, 33] (by decide) rfl
        have hK := hK.sub (tys' := [(k_35, .int), (k_75, .int)]) [7, 25] rfl
        refine lv_aload_n hx hb dL_law_956 rfl (lv_at hl 2 rfl) ?_
        refine lv_aload_n hx hb dL_law_957 rfl (lv_at hl 3 rfl) ?_
        refine lv_iload_n hx hb dL_law_958 rfl (lv_at hl 0 rfl) ?_
        refine lv_iconst (v := 1) hx hb dL_law_959 (by decide) ?_
        refine lv_iadd hx hb dL_law_960 ?_
        refine tc_i 1 (by decide) ?_
        refine va_sld hx hb hX hbl hbA hS (vi_c rfl) dL_law_961 ?_
        refine tc_i (xs 1) rfl ?_
        have hPc := hP.sub (ws' := [(q_1, .inr (9, [.ref q_6, .ref q_8, .ref q_11, .int 0, .ref q_12, .ref q_17, .ref q_18, .ref q_21, .ref q_24, .ref q_27, .null, .null])), (q_12, .inr (8, [.null, .int 0, .int 0, .int 0, .int 0, .ref q_13, .ref q_14, .ref q_15, .ref q_16])), (q_16, .inl (k_35, 10, .inl (fun _ => (-1)))), (q_18, .inr (3, [.ref q_19, .ref q_20, .int 0, .int 0])), (q_6, .inr (7, [.ref q_7, .int 0, .int 0, .int 0, .int 0, .int 0, .int 0, .int 0]))]) [0, 1, 2, 3, 4] rfl
        have hDc := hD.sub (ws' := [(q_1, .inr (9, [.ref q_6, .ref q_8, .ref q_11, .int 0, .ref q_12, .ref q_17, .ref q_18, .ref q_21, .ref q_24, .ref q_27, .null, .null])), (q_12, .inr (8, [.null, .int 0, .int 0, .int 0, .int 0, .ref q_13, .ref q_14, .ref q_15, .ref q_16])), (q_16, .inl (k_35, 10, .inl (fun _ => (-1)))), (q_18, .inr (3, [.ref q_19, .ref q_20, .int 0, .int 0])), (q_6, .inr (7, [.ref q_7, .int 0, .int 0, .int 0, .int 0, .int 0, .int 0, .int 0]))]) [0, 1, 2, 3, 4] (by decide) rfl
        have hKc := hK.sub (tys' := [(k_35, .int)]) [0] rfl
        refine cl_V (W.runV (As := [.int (xs 1)]) (rest := []) ⟨hx, hb, hml, hown, hts⟩ (c_x_count l D ad H.size q_1 q_6 q_8 q_11 q_12 q_17 q_18 q_21 q_24 q_27 q_13 q_14 q_15 q_16 k_35 q_19 q_20 q_7 (xs 1)) ⟨callB_of 1 hts (gd_C qq_5_127) rfl rfl rfl (hT _ qq_1_1) (hT _ qq_5_124) (by decide +kernel) (⟨Nat.le_of_ble_eq_true rfl, Nat.le_of_ble_eq_true rfl⟩), (hT _ qq_5_125), (hT _ qq_5_126)⟩ (pr_V hPc hKc hDc hN (ci := 9) (q0 := 0) rfl rfl) rfl rfl hl.1 rfl (lv_room (Nat.le_of_ble_eq_true rfl)) dL_law_962 ⟨Nat.le_of_ble_eq_true rfl, Nat.le_of_ble_eq_true rfl⟩) ?_
        refine lv_aload_n hx hb dL_law_965 rfl (lv_at hl 1 rfl) ?_
        refine lv_aload_n hx hb dL_law_966 rfl (lv_at hl 3 rfl) ?_
        refine lv_iload_n hx hb dL_law_967 rfl (lv_at hl 0 rfl) ?_
        refine lv_iconst (v := 1) hx hb dL_law_968 (by decide) ?_
        refine lv_iadd hx hb dL_law_969 ?_
        refine tc_i 1 (by decide) ?_
        refine va_sld hx hb hX hbl hbA hS (vi_c rfl) dL_law_970 ?_
        refine tc_i (xs 1) rfl ?_
        have hPc := hP.sub (ws' := [(q_44, .inr (10, [.ref q_49, .int 0, .int 0, .ref q_50, .ref q_51, .ref q_52, .ref q_53, .ref q_54, .int 0, .int 0, .int 0, .int 0, .int 0, .int 0, .int 0, .ref q_55, .int 0, .ref q_56, .int 0, .ref q_57, .ref q_58, .int 0, .ref q_59, .int 0, .ref q_60, .ref q_61, .ref q_62, .int 0, .int 0, .long 0, .ref q_63, .ref q_64, .ref q_65])), (q_58, .inl (k_75, 133, .inl sd0))]) [5, 6] rfl
        have hDc := hD.sub (ws' := [(q_44, .inr (10, [.ref q_49, .int 0, .int 0, .ref q_50, .ref q_51, .ref q_52, .ref q_53, .ref q_54, .int 0, .int 0, .int 0, .int 0, .int 0, .int 0, .int 0, .ref q_55, .int 0, .ref q_56, .int 0, .ref q_57, .ref q_58, .int 0, .ref q_59, .int 0, .ref q_60, .ref q_61, .ref q_62, .int 0, .int 0, .long 0, .ref q_63, .ref q_64, .ref q_65])), (q_58, .inl (k_75, 133, .inl sd0))]) [5, 6] (by decide) rfl
        have hKc := hK.sub (tys' := [(k_75, .int)]) [1] rfl
        refine cl_V (W.runV (As := [.int (xs 1)]) (rest := [.int (r_count (xs 1))]) ⟨hx, hb, hml, hown, hts⟩ (c_m_count l D ad H.size q_44 q_49 q_50 q_51 q_52 q_53 q_54 q_55 q_56 q_57 q_58 q_59 q_60 q_61 q_62 q_63 q_64 q_65 k_75 (xs 1)) ⟨callB_of 1 hts (gd_C qq_8_94) rfl rfl rfl (hT _ qq_1_9) (hT _ qq_8_91) (by decide +kernel) (⟨Nat.le_of_ble_eq_true rfl, Nat.le_of_ble_eq_true rfl⟩), (hT _ qq_8_92), (hT _ qq_8_93)⟩ (pr_V hPc hKc hDc hN (ci := 10) (q0 := 0) rfl rfl) rfl rfl hl.1 rfl (lv_room (Nat.le_of_ble_eq_true rfl)) dL_law_971 ⟨Nat.le_of_ble_eq_true rfl, Nat.le_of_ble_eq_true rfl⟩) ?_
        refine lv_icmp_eq (tgt := 1025) hx hb dL_law_974 (by decide) (fun _ => ?_) (fun c_220 => absurd (rfl) c_220)
        refine lv_iinc (v := 6) (lv' := [(3, .int 6), (2, .ref q_44), (1, .ref q_1), (0, .ref b)]) hx hb dL_law_1025 hl (k := 0) rfl (by decide) (by decide) rfl (fun ls hl => ?_)
        refine lv_goto (tgt := 18) hx hb dL_law_1028 (by decide) ?_
        refine lv_iload_n hx hb dL_law_18 rfl (lv_at hl 0 rfl) ?_
        refine lv_aload_n hx hb dL_law_19 rfl (lv_at hl 3 rfl) ?_
        refine va_slen hx hb hX hbl hbA hS dL_law_20 ?_
        refine tc_i 6 rfl ?_
        refine lv_bipush (v := 6) hx hb dL_law_21 (by decide) ?_
        refine lv_isub hx hb dL_law_23 ?_
        refine tc_i 0 (by decide) ?_
        refine lv_icmp_gt (tgt := 1031) hx hb dL_law_24 (by decide) (fun _ => ?_) (fun c_221 => absurd (by decide) c_221)
        refine lv_iconst (v := 1) hx hb dL_law_1031 (by decide) ?_
        refine va_forget (fun q h => by have h9 := hS.2.2 q h; rw [hAe] at h9; exact h9) ?_
        refine W.widen (k := 600000) (n := 7302250) (Nat.le_of_ble_eq_true rfl) (Nat.le_of_ble_eq_true rfl) ?_
        exact lw_ret hx hb hr hlocks dL_law_1032
      · subst hsw
        refine lv_tableIn (tgt := 979) hx hb dL_law_33 (by decide) (by decide) rfl (by decide) ?_
        have hP := hP.sub (ws' := [(q_1, .inr (9, [.ref q_6, .ref q_8, .ref q_11, .int 0, .ref q_12, .ref q_17, .ref q_18, .ref q_21, .ref q_24, .ref q_27, .null, .null])), (q_12, .inr (8, [.null, .int 0, .int 0, .int 0, .int 0, .ref q_13, .ref q_14, .ref q_15, .ref q_16])), (q_13, .inl (k_32, 10, .inl (fun _ => 0))), (q_14, .inl (k_33, 10, .inl (fun _ => 0))), (q_15, .inl (k_34, 10, .inl (fun _ => 0))), (q_16, .inl (k_35, 10, .inl (fun _ => (-1)))), (q_17, .inl (k_36, 4, .inr (.inr (.inr (.inr (fun _ => none)))))), (q_44, .inr (10, [.ref q_49, .int 0, .int 0, .ref q_50, .ref q_51, .ref q_52, .ref q_53, .ref q_54, .int 0, .int 0, .int 0, .int 0, .int 0, .int 0, .int 0, .ref q_55, .int 0, .ref q_56, .int 0, .ref q_57, .ref q_58, .int 0, .ref q_59, .int 0, .ref q_60, .ref q_61, .ref q_62, .int 0, .int 0, .long 0, .ref q_63, .ref q_64, .ref q_65])), (q_58, .inl (k_75, 133, .inl sd0)), (q_63, .inl (k_80, 532, .inl (fun _ => 0))), (q_64, .inl (k_81, 4, .inl (fun _ => 0))), (q_65, .inl (k_82, 4, .inl (fun _ => 0)))]) [0, 7, 8, 9, 10, 11, 12, 23, 33, 38, 39, 40] rfl
        have hD := hD.sub (ws' := [(q_1, .inr (9, [.ref q_6, .ref q_8, .ref q_11, .int 0, .ref q_12, .ref q_17, .ref q_18, .ref q_21, .ref q_24, .ref q_27, .null, .null])), (q_12, .inr (8, [.null, .int 0, .int 0, .int 0, .int 0, .ref q_13, .ref q_14, .ref q_15, .ref q_16])), (q_13, .inl (k_32, 10, .inl (fun _ => 0))), (q_14, .inl (k_33, 10, .inl (fun _ => 0))), (q_15, .inl (k_34, 10, .inl (fun _ => 0))), (q_16, .inl (k_35, 10, .inl (fun _ => (-1)))), (q_17, .inl (k_36, 4, .inr (.inr (.inr (.inr (fun _ => none)))))), (q_44, .inr (10, [.ref q_49, .int 0, .int 0, .ref q_50, .ref q_51, .ref q_52, .ref q_53, .ref q_54, .int 0, .int 0, .int 0, .int 0, .int 0, .int 0, .int 0, .ref q_55, .int 0, .ref q_56, .int 0, .ref q_57, .ref q_58, .int 0, .ref q_59, .int 0, .ref q_60, .ref q_61, .ref q_62, .int 0, .int 0, .long 0, .ref q_63, .ref q_64, .ref q_65])), (q_58, .inl (k_75, 133, .inl sd0)), (q_63, .inl (k_80, 532, .inl (fun _ => 0))), (q_64, .inl (k_81, 4, .inl (fun _ => 0))), (q_65, .inl (k_82, 4, .inl (fun _ => 0)))]) [0, 7, 8, 9, 10, 11, 12, 23, 33, 38, 39, 40] (by decide) rfl
        have hK := hK.sub (tys' := [(k_32, .int), (k_33, .int), (k_34, .int), (k_35, .int), (k_36, .object "WrongHole$Worn"), (k_75, .int), (k_80, .int), (k_81, .int), (k_82, .boolean)]) [4, 5, 6, 7, 8, 25, 30, 31, 32] rfl
        refine lv_aload_n hx hb dL_law_979 rfl (lv_at hl 2 rfl) ?_
        refine lv_aload_n hx hb dL_law_980 rfl (lv_at hl 3 rfl) ?_
        refine lv_iload_n hx hb dL_law_981 rfl (lv_at hl 0 rfl) ?_
        refine lv_iconst (v := 1) hx hb dL_law_982 (by decide) ?_
        refine lv_iadd hx hb dL_law_983 ?_
        refine tc_i 1 (by decide) ?_
        refine va_sld hx hb hX hbl hbA hS (vi_c rfl) dL_law_984 ?_
        refine tc_i (xs 1) rfl ?_
        have hPc := hP.sub (ws' := [(q_1, .inr (9, [.ref q_6, .ref q_8, .ref q_11, .int 0, .ref q_12, .ref q_17, .ref q_18, .ref q_21, .ref q_24, .ref q_27, .null, .null])), (q_12, .inr (8, [.null, .int 0, .int 0, .int 0, .int 0, .ref q_13, .ref q_14, .ref q_15, .ref q_16])), (q_13, .inl (k_32, 10, .inl (fun _ => 0))), (q_14, .inl (k_33, 10, .inl (fun _ => 0))), (q_15, .inl (k_34, 10, .inl (fun _ => 0))), (q_16, .inl (k_35, 10, .inl (fun _ => (-1)))), (q_17, .inl (k_36, 4, .inr (.inr (.inr (.inr (fun _ => none))))))]) [0, 1, 2, 3, 4, 5, 6] rfl
        have hDc := hD.sub (ws' := [(q_1, .inr (9, [.ref q_6, .ref q_8, .ref q_11, .int 0, .ref q_12, .ref q_17, .ref q_18, .ref q_21, .ref q_24, .ref q_27, .null, .null])), (q_12, .inr (8, [.null, .int 0, .int 0, .int 0, .int 0, .ref q_13, .ref q_14, .ref q_15, .ref q_16])), (q_13, .inl (k_32, 10, .inl (fun _ => 0))), (q_14, .inl (k_33, 10, .inl (fun _ => 0))), (q_15, .inl (k_34, 10, .inl (fun _ => 0))), (q_16, .inl (k_35, 10, .inl (fun _ => (-1)))), (q_17, .inl (k_36, 4, .inr (.inr (.inr (.inr (fun _ => none))))))]) [0, 1, 2, 3, 4, 5, 6] (by decide) rfl
        have hKc := hK.sub (tys' := [(k_32, .int), (k_33, .int), (k_34, .int), (k_35, .int), (k_36, .object "WrongHole$Worn")]) [0, 1, 2, 3, 4] rfl
        have hFc := va_free (wc := [(q_1, .inr (9, [.ref q_6, .ref q_8, .ref q_11, .int 0, .ref q_12, .ref q_17, .ref q_18, .ref q_21, .ref q_24, .ref q_27, .null, .null])), (q_12, .inr (8, [.null, .int 0, .int 0, .int 0, .int 0, .ref q_13, .ref q_14, .ref q_15, .ref q_16])), (q_13, .inl (k_32, 10, .inl (fun _ => 0))), (q_14, .inl (k_33, 10, .inl (fun _ => 0))), (q_15, .inl (k_34, 10, .inl (fun _ => 0))), (q_16, .inl (k_35, 10, .inl (fun _ => (-1)))), (q_17, .inl (k_36, 4, .inr (.inr (.inr (.inr (fun _ => none))))))]) hD hS hA [0, 1, 2, 3, 4, 5, 6] rfl
        refine va_calli (va_runV (As := [.int (xs 1)]) (rest := []) ⟨hx, hb, hml, hown, hts⟩ (c_x_image l D ad H.size q_1 q_6 q_8 q_11 q_12 q_17 q_18 q_21 q_24 q_27 q_13 q_14 q_15 q_16 k_32 k_33 k_34 k_35 k_36 (xs 1)) ⟨callB_of 1 hts (gd_C qq_5_135) rfl rfl rfl (hT _ qq_1_1) (hT _ qq_5_132) (by decide +kernel) (⟨Nat.le_of_ble_eq_true rfl, Nat.le_of_ble_eq_true rfl⟩), (hT _ qq_5_133), (hT _ qq_5_134)⟩ (pr_V hPc hKc hDc hN (ci := 9) (q0 := 0) rfl rfl) rfl rfl hl.1 rfl (lv_room (Nat.le_of_ble_eq_true rfl)) dL_law_985 ⟨Nat.le_of_ble_eq_true rfl, Nat.le_of_ble_eq_true rfl⟩) hS (fun q _ h => hFc q h) hFc (fun r_226 u_222 t_225 H1 locs ht9 hvm hw_223 hB_224 hz1 hk1 hS => ?_)
        have hP1 : va_P D vwCl [] H1 := fun k q h => by simp at h
        have hD1 : va_D (va_A [(q_1, .inr (9, [.ref q_6, .ref q_8, .ref q_11, .int 0, .ref q_12, .ref q_17, .ref q_18, .ref q_21, .ref q_24, .ref q_27, .null, .null])), (q_12, .inr (8, [.null, .int 0, .int 0, .int 0, .int 0, .ref q_13, .ref q_14, .ref q_15, .ref q_16])), (q_13, .inl (k_32, 10, .inl (fun _ => 0))), (q_14, .inl (k_33, 10, .inl (fun _ => 0))), (q_15, .inl (k_34, 10, .inl (fun _ => 0))), (q_16, .inl (k_35, 10, .inl (fun _ => (-1)))), (q_17, .inl (k_36, 4, .inr (.inr (.inr (.inr (fun _ => none))))))] H.size) [] := ⟨fun i j p q h => by simp at h, fun k q h => by simp at h⟩
        obtain ⟨hP, hD⟩ := va_join (wr := [(q_44, .inr (10, [.ref q_49, .int 0, .int 0, .ref q_50, .ref q_51, .ref q_52, .ref q_53, .ref q_54, .int 0, .int 0, .int 0, .int 0, .int 0, .int 0, .int 0, .ref q_55, .int 0, .ref q_56, .int 0, .ref q_57, .ref q_58, .int 0, .ref q_59, .int 0, .ref q_60, .ref q_61, .ref q_62, .int 0, .int 0, .long 0, .ref q_63, .ref q_64, .ref q_65])), (q_58, .inl (k_75, 133, .inl sd0)), (q_63, .inl (k_80, 532, .inl (fun _ => 0))), (q_64, .inl (k_81, 4, .inl (fun _ => 0))), (q_65, .inl (k_82, 4, .inl (fun _ => 0)))]) (w1 := []) hP hD [0, 1, 2, 3, 4, 5, 6] [7, 8, 9, 10, 11] rfl rfl (by decide) (by decide) hk1 hFc hP1 hD1
        generalize H1 = H at hP hS ⊢
        have hP : va_P D vwCl [(q_44, .inr (10, [.ref q_49, .int 0, .int 0, .ref q_50, .ref q_51, .ref q_52, .ref q_53, .ref q_54, .int 0, .int 0, .int 0, .int 0, .int 0, .int 0, .int 0, .ref q_55, .int 0, .ref q_56, .int 0, .ref q_57, .ref q_58, .int 0, .ref q_59, .int 0, .ref q_60, .ref q_61, .ref q_62, .int 0, .int 0, .long 0, .ref q_63, .ref q_64, .ref q_65])), (q_58, .inl (k_75, 133, .inl sd0)), (q_63, .inl (k_80, 532, .inl (fun _ => 0))), (q_64, .inl (k_81, 4, .inl (fun _ => 0))), (q_65, .inl (k_82, 4, .inl (fun _ => 0)))] H := hP
        have hD : va_D A [(q_44, .inr (10, [.ref q_49, .int 0, .int 0, .ref q_50, .ref q_51, .ref q_52, .ref q_53, .ref q_54, .int 0, .int 0, .int 0, .int 0, .int 0, .int 0, .int 0, .ref q_55, .int 0, .ref q_56, .int 0, .ref q_57, .ref q_58, .int 0, .ref q_59, .int 0, .ref q_60, .ref q_61, .ref q_62, .int 0, .int 0, .long 0, .ref q_63, .ref q_64, .ref q_65])), (q_58, .inl (k_75, 133, .inl sd0)), (q_63, .inl (k_80, 532, .inl (fun _ => 0))), (q_64, .inl (k_81, 4, .inl (fun _ => 0))), (q_65, .inl (k_82, 4, .inl (fun _ => 0)))] := hD
        refine W.widen (k := 49) (n := 202354) (Nat.le_of_ble_eq_true rfl) (Nat.le_of_ble_eq_true rfl) ?_
        refine tc_i (r_image (xs 1)) hw_223 ?_
        refine lv_aload_n hx hb dL_law_988 rfl (lv_at hl 1 rfl) ?_
        refine lv_aload_n hx hb dL_law_989 rfl (lv_at hl 3 rfl) ?_
        refine lv_iload_n hx hb dL_law_990 rfl (lv_at hl 0 rfl) ?_
        refine lv_iconst (v := 1) hx hb dL_law_991 (by decide) ?_
        refine lv_iadd hx hb dL_law_992 ?_
        refine tc_i 1 (by decide) ?_
        refine va_sld hx hb hX hbl hbA hS (vi_c rfl) dL_law_993 ?_
        refine tc_i (xs 1) rfl ?_
        have hPc := hP.sub (ws' := [(q_44, .inr (10, [.ref q_49, .int 0, .int 0, .ref q_50, .ref q_51, .ref q_52, .ref q_53, .ref q_54, .int 0, .int 0, .int 0, .int 0, .int 0, .int 0, .int 0, .ref q_55, .int 0, .ref q_56, .int 0, .ref q_57, .ref q_58, .int 0, .ref q_59, .int 0, .ref q_60, .ref q_61, .ref q_62, .int 0, .int 0, .long 0, .ref q_63, .ref q_64, .ref q_65])), (q_58, .inl (k_75, 133, .inl sd0)), (q_63, .inl (k_80, 532, .inl (fun _ => 0))), (q_64, .inl (k_81, 4, .inl (fun _ => 0))), (q_65, .inl (k_82, 4, .inl (fun _ => 0)))]) [0, 1, 2, 3, 4] rfl
        have hDc := hD.sub (ws' := [(q_44, .inr (10, [.ref q_49, .int 0, .int 0, .ref q_50, .ref q_51, .ref q_52, .ref q_53, .ref q_54, .int 0, .int 0, .int 0, .int 0, .int 0, .int 0, .int 0, .ref q_55, .int 0, .ref q_56, .int 0, .ref q_57, .ref q_58, .int 0, .ref q_59, .int 0, .ref q_60, .ref q_61, .ref q_62, .int 0, .int 0, .long 0, .ref q_63, .ref q_64, .ref q_65])), (q_58, .inl (k_75, 133, .inl sd0)), (q_63, .inl (k_80, 532, .inl (fun _ => 0))), (q_64, .inl (k_81, 4, .inl (fun _ => 0))), (q_65, .inl (k_82, 4, .inl (fun _ => 0)))]) [0, 1, 2, 3, 4] (by decide) rfl
        have hKc := hK.sub (tys' := [(k_75, .int), (k_80, .int), (k_81, .int), (k_82, .boolean)]) [5, 6, 7, 8] rfl
        have hFc := va_free (wc := [(q_44, .inr (10, [.ref q_49, .int 0, .int 0, .ref q_50, .ref q_51, .ref q_52, .ref q_53, .ref q_54, .int 0, .int 0, .int 0, .int 0, .int 0, .int 0, .int 0, .ref q_55, .int 0, .ref q_56, .int 0, .ref q_57, .ref q_58, .int 0, .ref q_59, .int 0, .ref q_60, .ref q_61, .ref q_62, .int 0, .int 0, .long 0, .ref q_63, .ref q_64, .ref q_65])), (q_58, .inl (k_75, 133, .inl sd0)), (q_63, .inl (k_80, 532, .inl (fun _ => 0))), (q_64, .inl (k_81, 4, .inl (fun _ => 0))), (q_65, .inl (k_82, 4, .inl (fun _ => 0)))]) hD hS hA [0, 1, 2, 3, 4] rfl
        refine va_calli (va_runV (As := [.int (xs 1)]) (rest := [.int (r_image (xs 1))]) ⟨hx, hb, hml, hown, hts⟩ (c_m_image l D ad H.size q_44 q_49 q_50 q_51 q_52 q_53 q_54 q_55 q_56 q_57 q_58 q_59 q_60 q_61 q_62 q_63 q_64 q_65 k_75 k_80 k_81 k_82 (fun _ => 0) (fun _ => 0) (fun _ => 0) (xs 1)) ⟨callB_of 1 hts (gd_C qq_8_98) rfl rfl rfl (hT _ qq_1_9) (hT _ qq_8_95) (by decide +kernel) (⟨Nat.le_of_ble_eq_true rfl, Nat.le_of_ble_eq_true rfl⟩), (hT _ qq_8_96), (hT _ qq_8_97)⟩ (pr_V hPc hKc hDc hN (ci := 10) (q0 := 0) rfl rfl) rfl rfl hl.1 rfl (lv_room (Nat.le_of_ble_eq_true rfl)) dL_law_994 ⟨Nat.le_of_ble_eq_true rfl, Nat.le_of_ble_eq_true rfl⟩) hS (fun q _ h => hFc q h) hFc (fun r_231 u_227 t_230 H1 locs ht9 hvm hw_228 hB_229 hz1 hk1 hS => ?_)
        have hP1 : va_P D vwCl [] H1 := fun k q h => by simp at h
        have hD1 : va_D (va_A [(q_44, .inr (10, [.ref q_49, .int 0, .int 0, .ref q_50, .ref q_51, .ref q_52, .ref q_53, .ref q_54, .int 0, .int 0, .int 0, .int 0, .int 0, .int 0, .int 0, .ref q_55, .int 0, .ref q_56, .int 0, .ref q_57, .ref q_58, .int 0, .ref q_59, .int 0, .ref q_60, .ref q_61, .ref q_62, .int 0, .int 0, .long 0, .ref q_63, .ref q_64, .ref q_65])), (q_58, .inl (k_75, 133, .inl sd0)), (q_63, .inl (k_80, 532, .inl (fun _ => 0))), (q_64, .inl (k_81, 4, .inl (fun _ => 0))), (q_65, .inl (k_82, 4, .inl (fun _ => 0)))] H.size) [] := ⟨fun i j p q h => by simp at h, fun k q h => by simp at h⟩
        obtain ⟨hP, hD⟩ := va_join (wr := []) (w1 := []) hP hD [0, 1, 2, 3, 4] [] rfl rfl (by decide) (by decide) hk1 hFc hP1 hD1
        generalize H1 = H at hP hS ⊢
        have hP : va_P D vwCl [] H := hP
        have hD : va_D A [] := hD
        refine tc_i (r_image (xs 1)) hw_228 ?_
        refine lv_icmp_eq (tgt := 1025) hx hb dL_law_997 (by decide) (fun _ => ?_) (fun c_232 => absurd (rfl) c_232)
        refine lv_iinc (v := 6) (lv' := [(3, .int 6), (2, .ref q_44), (1, .ref q_1), (0, .ref b)]) hx hb dL_law_1025 hl (k := 0) rfl (by decide) (by decide) rfl (fun ls hl => ?_)
        refine lv_goto (tgt := 18) hx hb dL_law_1028 (by decide) ?_
        refine lv_iload_n hx hb dL_law_18 rfl (lv_at hl 0 rfl) ?_
        refine lv_aload_n hx hb dL_law_19 rfl (lv_at hl 3 rfl) ?_
        refine va_slen hx hb hX hbl hbA hS dL_law_20 ?_
        refine tc_i 6 rfl ?_
        refine lv_bipush (v := 6) hx hb dL_law_21 (by decide) ?_
        refine lv_isub hx hb dL_law_23 ?_
        refine tc_i 0 (by decide) ?_
        refine lv_icmp_gt (tgt := 1031) hx hb dL_law_24 (by decide) (fun _ => ?_) (fun c_233 => absurd (by decide) c_233)
        refine lv_iconst (v := 1) hx hb dL_law_1031 (by decide) ?_
        refine va_forget (fun q h => by have h9 := hS.2.2 q h; rw [hAe] at h9; exact h9) ?_
        refine W.widen (k := 600000) (n := 7302250) (Nat.le_of_ble_eq_true rfl) (Nat.le_of_ble_eq_true rfl) ?_
        exact lw_ret hx hb hr hlocks dL_law_1032
      · subst hsw
        refine lv_tableIn (tgt := 1002) hx hb dL_law_33 (by decide) (by decide) rfl (by decide) ?_
        have hP := hP.sub (ws' := [(q_1, .inr (9, [.ref q_6, .ref q_8, .ref q_11, .int 0, .ref q_12, .ref q_17, .ref q_18, .ref q_21, .ref q_24, .ref q_27, .null, .null])), (q_17, .inl (k_36, 4, .inr (.inr (.inr (.inr (fun _ => none)))))), (q_44, .inr (10, [.ref q_49, .int 0, .int 0, .ref q_50, .ref q_51, .ref q_52, .ref q_53, .ref q_54, .int 0, .int 0, .int 0, .int 0, .int 0, .int 0, .int 0, .ref q_55, .int 0, .ref q_56, .int 0, .ref q_57, .ref q_58, .int 0, .ref q_59, .int 0, .ref q_60, .ref q_61, .ref q_62, .int 0, .int 0, .long 0, .ref q_63, .ref q_64, .ref q_65])), (q_65, .inl (k_82, 4, .inl (fun _ => 0)))]) [0, 12, 23, 40] rfl
        have hD := hD.sub (ws' := [(q_1, .inr (9, [.ref q_6, .ref q_8, .ref q_11, .int 0, .ref q_12, .ref q_17, .ref q_18, .ref q_21, .ref q_24, .ref q_27, .null, .null])), (q_17, .inl (k_36, 4, .inr (.inr (.inr (.inr (fun _ => none)))))), (q_44, .inr (10, [.ref q_49, .int 0, .int 0, .ref q_50, .ref q_51, .ref q_52, .ref q_53, .ref q_54, .int 0, .int 0, .int 0, .int 0, .int 0, .int 0, .int 0, .ref q_55, .int 0, .ref q_56, .int 0, .ref q_57, .ref q_58, .int 0, .ref q_59, .int 0, .ref q_60, .ref q_61, .ref q_62, .int 0, .int 0, .long 0, .ref q_63, .ref q_64, .ref q_65])), (q_65, .inl (k_82, 4, .inl (fun _ => 0)))]) [0, 12, 23, 40] (by decide) rfl
        have hK := hK.sub (tys' := [(k_36, .object "WrongHole$Worn"), (k_82, .boolean)]) [8, 32] rfl
        refine lv_aload_n hx hb dL_law_1002 rfl (lv_at hl 2 rfl) ?_
        refine lv_aload_n hx hb dL_law_1003 rfl (lv_at hl 3 rfl) ?_
        refine lv_iload_n hx hb dL_law_1004 rfl (lv_at hl 0 rfl) ?_
        refine lv_iconst (v := 1) hx hb dL_law_1005 (by decide) ?_
        refine lv_iadd hx hb dL_law_1006 ?_
        refine tc_i 1 (by decide) ?_
        refine va_sld hx hb hX hbl hbA hS (vi_c rfl) dL_law_1007 ?_
        refine tc_i (xs 1) rfl ?_
        have hPc := hP.sub (ws' := [(q_1, .inr (9, [.ref q_6, .ref q_8, .ref q_11, .int 0, .ref q_12, .ref q_17, .ref q_18, .ref q_21, .ref q_24, .ref q_27, .null, .null])), (q_17, .inl (k_36, 4, .inr (.inr (.inr (.inr (fun _ => none))))))]) [0, 1] rfl
        have hDc := hD.sub (ws' := [(q_1, .inr (9, [.ref q_6, .ref q_8, .ref q_11, .int 0, .ref q_12, .ref q_17, .ref q_18, .ref q_21, .ref q_24, .ref q_27, .null, .null])), (q_17, .inl (k_36, 4, .inr (.inr (.inr (.inr (fun _ => none))))))]) [0, 1] (by decide) rfl
        have hKc := hK.sub (tys' := [(k_36, .object "WrongHole$Worn")]) [0] rfl
        refine cl_V (W.runV (As := [.int (xs 1)]) (rest := []) ⟨hx, hb, hml, hown, hts⟩ (c_x_back l D ad H.size q_1 q_6 q_8 q_11 q_12 q_17 q_18 q_21 q_24 q_27 k_36 (xs 1)) ⟨callB_of 1 hts (gd_C qq_5_144) rfl rfl rfl (hT _ qq_1_1) (hT _ qq_5_141) (by decide +kernel) (⟨Nat.le_of_ble_eq_true rfl, Nat.le_of_ble_eq_true rfl⟩), (hT _ qq_5_142), (hT _ qq_5_143)⟩ (pr_V hPc hKc hDc hN (ci := 9) (q0 := 0) rfl rfl) rfl rfl hl.1 rfl (lv_room (Nat.le_of_ble_eq_true rfl)) dL_law_1008 ⟨Nat.le_of_ble_eq_true rfl, Nat.le_of_ble_eq_true rfl⟩) ?_
        refine lv_aload_n hx hb dL_law_1011 rfl (lv_at hl 1 rfl) ?_
        refine lv_aload_n hx hb dL_law_1012 rfl (lv_at hl 3 rfl) ?_
        refine lv_iload_n hx hb dL_law_1013 rfl (lv_at hl 0 rfl) ?_
        refine lv_iconst (v := 1) hx hb dL_law_1014 (by decide) ?_
        refine lv_iadd hx hb dL_law_1015 ?_
        refine tc_i 1 (by decide) ?_
        refine va_sld hx hb hX hbl hbA hS (vi_c rfl) dL_law_1016 ?_
        refine tc_i (xs 1) rfl ?_
        have hPc := hP.sub (ws' := [(q_44, .inr (10, [.ref q_49, .int 0, .int 0, .ref q_50, .ref q_51, .ref q_52, .ref q_53, .ref q_54, .int 0, .int 0, .int 0, .int 0, .int 0, .int 0, .int 0, .ref q_55, .int 0, .ref q_56, .int 0, .ref q_57, .ref q_58, .int 0, .ref q_59, .int 0, .ref q_60, .ref q_61, .ref q_62, .int 0, .int 0, .long 0, .ref q_63, .ref q_64, .ref q_65])), (q_65, .inl (k_82, 4, .inl (fun _ => 0)))]) [2, 3] rfl
        have hDc := hD.sub (ws' := [(q_44, .inr (10, [.ref q_49, .int 0, .int 0, .ref q_50, .ref q_51, .ref q_52, .ref q_53, .ref q_54, .int 0, .int 0, .int 0, .int 0, .int 0, .int 0, .int 0, .ref q_55, .int 0, .ref q_56, .int 0, .ref q_57, .ref q_58, .int 0, .ref q_59, .int 0, .ref q_60, .ref q_61, .ref q_62, .int 0, .int 0, .long 0, .ref q_63, .ref q_64, .ref q_65])), (q_65, .inl (k_82, 4, .inl (fun _ => 0)))]) [2, 3] (by decide) rfl
        have hKc := hK.sub (tys' := [(k_82, .boolean)]) [1] rfl
        refine cl_V (W.runV (As := [.int (xs 1)]) (rest := [.int (-1)]) ⟨hx, hb, hml, hown, hts⟩ (c_m_back l D ad H.size q_44 q_49 q_50 q_51 q_52 q_53 q_54 q_55 q_56 q_57 q_58 q_59 q_60 q_61 q_62 q_63 q_64 q_65 k_82 (xs 1)) ⟨callB_of 1 hts (gd_C qq_8_103) rfl rfl rfl (hT _ qq_1_9) (hT _ qq_8_100) (by decide +kernel) (⟨Nat.le_of_ble_eq_true rfl, Nat.le_of_ble_eq_true rfl⟩), (hT _ qq_8_101), (hT _ qq_8_102)⟩ (pr_V hPc hKc hDc hN (ci := 10) (q0 := 0) rfl rfl) rfl rfl hl.1 rfl (lv_room (Nat.le_of_ble_eq_true rfl)) dL_law_1017 ⟨Nat.le_of_ble_eq_true rfl, Nat.le_of_ble_eq_true rfl⟩) ?_
        refine lv_icmp_eq (tgt := 1025) hx hb dL_law_1020 (by decide) (fun _ => ?_) (fun c_234 => absurd (by decide) c_234)
        refine lv_iinc (v := 6) (lv' := [(3, .int 6), (2, .ref q_44), (1, .ref q_1), (0, .ref b)]) hx hb dL_law_1025 hl (k := 0) rfl (by decide) (by decide) rfl (fun ls hl => ?_)
        refine lv_goto (tgt := 18) hx hb dL_law_1028 (by decide) ?_
        refine lv_iload_n hx hb dL_law_18 rfl (lv_at hl 0 rfl) ?_
        refine lv_aload_n hx hb dL_law_19 rfl (lv_at hl 3 rfl) ?_
        refine va_slen hx hb hX hbl hbA hS dL_law_20 ?_
        refine tc_i 6 rfl ?_
        refine lv_bipush (v := 6) hx hb dL_law_21 (by decide) ?_
        refine lv_isub hx hb dL_law_23 ?_
        refine tc_i 0 (by decide) ?_
        refine lv_icmp_gt (tgt := 1031) hx hb dL_law_24 (by decide) (fun _ => ?_) (fun c_235 => absurd (by decide) c_235)
        refine lv_iconst (v := 1) hx hb dL_law_1031 (by decide) ?_
        refine va_forget (fun q h => by have h9 := hS.2.2 q h; rw [hAe] at h9; exact h9) ?_
        refine W.widen (k := 600000) (n := 7302250) (Nat.le_of_ble_eq_true rfl) (Nat.le_of_ble_eq_true rfl) ?_
        exact lw_ret hx hb hr hlocks dL_law_1032
set_option maxHeartbeats 4000000 in
theorem lw_walk (l : Launch) (hflags : l.flags = flags0) (b : Addr) (xs : List Int32) : MetFree l x (headSpec (Jvm.Cond.code x code maxLocals ret :: tables_1) room_1) (lw_P b xs) (fun _ _ _ _ _ => True) lw_Q := by
  refine MetFree.of_bodyS (code := code) (maxLocals := maxLocals) (ret := ret) (by decide) ?_ ?_
  · intro args s m h hn
    obtain ⟨meth, c, h1, h2, h3, h4, h5, h6, -, -⟩ := Cond.code_spec hn (atoms_spec (ws := Jvm.Cond.code x code maxLocals ret :: tables_1) h _ List.mem_cons_self)
    exact ⟨meth, c, h1, h2, h3, h4, h5, h6⟩
  · intro p e s m args below meth c s₁ B hml0 hP _
    obtain ⟨rfl, hx, hbd, hgv⟩ := hP
    obtain ⟨scr, harrAt, hlist, hof, hsmall⟩ := hx
    obtain ⟨hcb, hkn, -, -⟩ := State.arrayAt?_spec harrAt
    have hown : s.vm.findClass R_law = some m.cls := findClass_of_methodNamed B.named
    have hts0 : ∀ c ∈ (Jvm.Cond.code x code maxLocals ret :: tables_1), c.before #[Value.ref b] s = true := atoms_spec (ws := Jvm.Cond.code x code maxLocals ret :: tables_1) B.pre
    have hts : ∀ w ∈ lw_tbl, w.before #[Value.ref b] s = true := k2_hts_sels lw_privs (fun w hw => hts0 w (List.mem_cons_of_mem _ hw)) lw_privs_ok
    have hml : c.maxLocals = 4 := B.maxLocals_eq (hts0 _ List.mem_cons_self)
    have X₀ : Stand p l e room_1 s m #[Value.ref b] below meth c s₁ [] 0 0 := Stand.of_body B
    have hh0 : s₁.heap = s.heap := by rw [B.state]; rfl
    have hsz : scr.slots.size = xs.length := by rw [← Array.length_toList, hlist, List.length_map]
    have hval : ∀ j : Nat, j < xs.length → scr.slots[j]? = some (.int (xs.getD j 0)) := fun j hj => by
      rw [← Array.getElem?_toList, hlist]
      simp [hj]
    have hbl : b < s.heap.size := (Array.getElem?_eq_some_iff.mp hcb).1
    have hX : va_X b xs.length (fun j => xs.getD j 0) s s.heap := ⟨scr, hcb, hof, hkn, hsz, hval⟩
    have K : W p l e room_1 s m #[Value.ref b] below meth c s₁.heap [] 0 0 (lw_Z below #[Value.ref b] s) (entryFrame m ([Value.ref b] : List Value).toArray 4) := by
      rw [hh0]
      exact whole_start l hflags hbd ⟨B.exec, B.bytes, B.returns, hml, hown, hts, hX, hbl, B.notSynchronized, hgv⟩
    obtain ⟨t, a1, o, b1, b2, b3⟩ := K s₁ rfl X₀
    exact ⟨t, o, a1, b1, b2, b3⟩
theorem lw_pre_spec {args : Array Value} {s : State} (h : (Jvm.Cond.and given_1 narrow_1).before args s = true) (hr : rest_1_c.before args s = true) : ∃ (b : Addr) (xs : List Int32), lw_P b xs args s := by
  have hs := flat_of_before _ h
  have hq := flat_of_before _ hr
  have hc : (Cond.count 1).before args s = true := hs _ (by decide +kernel)
  have harr : (Cond.arrayOf (.arg 0) .int).before args s = true := hs _ (by decide +kernel)
  have hle : (Cond.le (.length (.arg 0)) (.int 6)).before args s = true := hs _ (by decide +kernel)
  have hlen : (Cond.isInt (.length (.arg 0))).before args s = true := hq _ (by decide +kernel)
  have hall : (Cond.all (.arg 0) (.isInt (.elem (.arg 0) (.index 0)))).before args s = true := hq _ (by decide +kernel)
  obtain ⟨b, xs, hb, hx⟩ := State.ints_of_pre rfl harr hlen hall
  have hsm : xs.length < 2 ^ 31 := hx.choose_spec.2.2.2
  have hev : (Term.length (.arg 0)).eval args s none [] s = some (.int xs.length.toInt32) := hx.length_eval hb
  have hv := Cond.le_ints hev (show (Term.int 6).eval args s none [] s = some (.int 6) from rfl)
  have hd : xs.length.toInt32 ≤ 6 := by
    simpa [Cond.before, Cond.holds, hv] using hle
  have hN : xs.length ≤ 6 := (Int32.ofNat_le_ofNat hsm (by decide)).mp (show Int32.ofNat xs.length ≤ Int32.ofNat 6 from hd)
  exact ⟨b, xs, Cond.one_arg hc (show args[0]? = some (.ref b) from hb), hx, hN, h⟩
theorem lw_comes (l : Launch) (hflags : l.flags = flags0) : Comes l x (Jvm.Cond.code x code maxLocals ret :: tables_1) room_1 (fun tb e args s => Calls_1 tb e args s ∧ rest_1 tb e args s ∧ Pre_1 tb e args s)
    (fun _ _ args s o t => lw_Q args s o t) := by
  intro p e ha hc hk s m args below hf hfit hheap happ hpre
  obtain ⟨b, xs, hP⟩ := lw_pre_spec hpre.2.2 hpre.2.1
  obtain ⟨k, o, h1, h2, h3, hQ⟩ := lw_walk l hflags b xs p e ha hc hk s m args below hf ((Spec.applies_iff_loose hf).mp happ).1 hP trivial
  exact ⟨k, o, h1, h2, h3, hQ⟩
theorem lw_frame {s t : State} {o : Outcome} {args : Array Value} (h : Framed s o t [] 600000 7302250) :
    Framed s o t (fieldLocs frame_1_writes args s ++ arrayLocs frame_1_arrays args s ++ staticLocs frame_1_statics s) 600000 7302250 := h
theorem lw_limb (L : Cond) (hL : ∀ (args : Array Value) (s t : State), L.after args s (.returned (some (.int 1))) t = true) :
    ArmFor flags0 classFile x code maxLocals ret World_1 tables_1 room_1 Calls_1 rest_1 Pre_1
      (fun tb e a s o t => postC L tb e a s o t ∧ Framed s o t (fieldLocs frame_1_writes a s ++ arrayLocs frame_1_arrays a s ++ staticLocs frame_1_statics s) 600000 7302250) := by
  intro l hflags _ _ p e ha hc hk s m args below hf hfit hheap happ hpre
  obtain ⟨k, o, h1, h2, h3, rfl, hF⟩ := lw_comes l hflags p e ha hc hk s m args below hf hfit hheap happ hpre
  exact ⟨k, _, h1, h2, h3, hL args s _, lw_frame hF⟩
theorem i_vc : Claimed_1_1 ∧ Claimed_1_2 := ⟨lw_limb limb_1_1 (fun args s t => by simp [limb_1_1, Cond.after, Cond.holds, Cond.value]), lw_limb limb_1_2 (fun args s t => Cond.after_iff.mpr (by
  first | (rw [show limb_1_2 = Cond.eq .result (.int 1) from rfl, Cond.eq_ints (x := 1) (y := 1) rfl rfl]; simp; done) | (simp [limb_1_2, Cond.value, Term.eval]; done)))⟩

