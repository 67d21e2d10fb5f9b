/-! the methods of the reference: the rows that decode, a function each, the walk (by gen3.py) -/
theorem qmX12_217 : Cond.methodLink RX12 217 yX12_onceOf ∈ z_ws := List.mem_filter.mpr ⟨List.mem_append_right _ (List.mem_of_getElem? (i := 1498) (by decide +kernel)), rfl⟩
theorem qc_X12_onceOf : Cond.code yX12_onceOf cX12_onceOf 1 (some .int) ∈ z_ws := List.mem_filter.mpr ⟨List.mem_append_right _ (List.mem_of_getElem? (i := 1501) (by decide +kernel)), rfl⟩
theorem qi_X12_onceOf : Cond.instanceMethod yX12_onceOf ∈ z_ws := List.mem_filter.mpr ⟨List.mem_append_right _ (List.mem_of_getElem? (i := 1500) (by decide +kernel)), rfl⟩
theorem qs_X12_onceOf : Cond.selects RX12 yX12_onceOf yX12_onceOf ∈ z_ws := List.mem_filter.mpr ⟨List.mem_append_left _ (List.mem_of_getElem? (i := 38) (by decide +kernel)), rfl⟩
theorem md_X12_onceOf : z_mdV yX12_onceOf cX12_onceOf 1 (some .int) 0 := ⟨⟨qn_RX12, qc_X12_onceOf, ⟨by decide +kernel, by decide +kernel, by decide +kernel⟩⟩, qi_X12_onceOf, qs_X12_onceOf⟩
theorem qkX12_99 : Cond.constantLong RX12 99 (1952805748 : Int64) ∈ z_ws := List.mem_filter.mpr ⟨List.mem_append_right _ (List.mem_of_getElem? (i := 1274) (by decide +kernel)), rfl⟩
theorem qkX12_101 : Cond.constantLong RX12 101 (431415976301 : Int64) ∈ z_ws := List.mem_filter.mpr ⟨List.mem_append_right _ (List.mem_of_getElem? (i := 1275) (by decide +kernel)), rfl⟩
theorem qmX12_223 : Cond.methodLink RX12 223 yX12_fresh ∈ z_ws := List.mem_filter.mpr ⟨List.mem_append_right _ (List.mem_of_getElem? (i := 1524) (by decide +kernel)), rfl⟩
theorem qc_X12_fresh : Cond.code yX12_fresh cX12_fresh 2 (some .boolean) ∈ z_ws := List.mem_filter.mpr ⟨List.mem_append_right _ (List.mem_of_getElem? (i := 1527) (by decide +kernel)), rfl⟩
theorem qi_X12_fresh : Cond.instanceMethod yX12_fresh ∈ z_ws := List.mem_filter.mpr ⟨List.mem_append_right _ (List.mem_of_getElem? (i := 1526) (by decide +kernel)), rfl⟩
theorem qs_X12_fresh : Cond.selects RX12 yX12_fresh yX12_fresh ∈ z_ws := List.mem_filter.mpr ⟨List.mem_append_left _ (List.mem_of_getElem? (i := 43) (by decide +kernel)), rfl⟩
theorem md_X12_fresh : z_mdV yX12_fresh cX12_fresh 2 (some .boolean) 1 := ⟨⟨qn_RX12, qc_X12_fresh, ⟨by decide +kernel, by decide +kernel, by decide +kernel⟩⟩, qi_X12_fresh, qs_X12_fresh⟩
theorem qmX12_220 : Cond.methodLink RX12 220 yX12_readOnce ∈ z_ws := List.mem_filter.mpr ⟨List.mem_append_right _ (List.mem_of_getElem? (i := 1506) (by decide +kernel)), rfl⟩
theorem qc_X12_readOnce : Cond.code yX12_readOnce cX12_readOnce 2 (some .boolean) ∈ z_ws := List.mem_filter.mpr ⟨List.mem_append_right _ (List.mem_of_getElem? (i := 1509) (by decide +kernel)), rfl⟩
theorem qi_X12_readOnce : Cond.instanceMethod yX12_readOnce ∈ z_ws := List.mem_filter.mpr ⟨List.mem_append_right _ (List.mem_of_getElem? (i := 1508) (by decide +kernel)), rfl⟩
theorem qs_X12_readOnce : Cond.selects RX12 yX12_readOnce yX12_readOnce ∈ z_ws := List.mem_filter.mpr ⟨List.mem_append_left _ (List.mem_of_getElem? (i := 40) (by decide +kernel)), rfl⟩
theorem md_X12_readOnce : z_mdV yX12_readOnce cX12_readOnce 2 (some .boolean) 1 := ⟨⟨qn_RX12, qc_X12_readOnce, ⟨by decide +kernel, by decide +kernel, by decide +kernel⟩⟩, qi_X12_readOnce, qs_X12_readOnce⟩
theorem dX12_line_0 : decode cX12_line 0 = .ok (.aload_n 0, 1) := by decide +kernel
theorem dX12_line_1 : decode cX12_line 1 = .ok (.invokevirtual 217, 3) := by decide +kernel
theorem dX12_line_4 : decode cX12_line 4 = .ok (.istore_n 1, 1) := by decide +kernel
theorem dX12_line_5 : decode cX12_line 5 = .ok (.iload_n 1, 1) := by decide +kernel
theorem dX12_line_6 : decode cX12_line 6 = .ok (.ifCond .lt 9, 3) := by decide +kernel
theorem dX12_line_9 : decode cX12_line 9 = .ok (.aload_n 0, 1) := by decide +kernel
theorem dX12_line_10 : decode cX12_line 10 = .ok (.iload_n 1, 1) := by decide +kernel
theorem dX12_line_11 : decode cX12_line 11 = .ok (.invokevirtual 220, 3) := by decide +kernel
theorem dX12_line_14 : decode cX12_line 14 = .ok (.ireturn, 1) := by decide +kernel
theorem dX12_line_15 : decode cX12_line 15 = .ok (.aload_n 0, 1) := by decide +kernel
theorem dX12_line_16 : decode cX12_line 16 = .ok (.ldc2_w 99, 3) := by decide +kernel
theorem dX12_line_19 : decode cX12_line 19 = .ok (.invokevirtual 203, 3) := by decide +kernel
theorem dX12_line_22 : decode cX12_line 22 = .ok (.ifCond .eq 101, 3) := by decide +kernel
theorem dX12_line_25 : decode cX12_line 25 = .ok (.aload_n 0, 1) := by decide +kernel
theorem dX12_line_26 : decode cX12_line 26 = .ok (.getfield 37, 3) := by decide +kernel
theorem dX12_line_29 : decode cX12_line 29 = .ok (.iconst 0, 1) := by decide +kernel
theorem dX12_line_30 : decode cX12_line 30 = .ok (.iaload, 1) := by decide +kernel
theorem dX12_line_31 : decode cX12_line 31 = .ok (.istore_n 2, 1) := by decide +kernel
theorem dX12_line_32 : decode cX12_line 32 = .ok (.iload_n 2, 1) := by decide +kernel
theorem dX12_line_33 : decode cX12_line 33 = .ok (.bipush 8, 2) := by decide +kernel
theorem dX12_line_35 : decode cX12_line 35 = .ok (.if_icmp .ne 9, 3) := by decide +kernel
theorem dX12_line_38 : decode cX12_line 38 = .ok (.aload_n 0, 1) := by decide +kernel
theorem dX12_line_39 : decode cX12_line 39 = .ok (.iconst 4, 1) := by decide +kernel
theorem dX12_line_40 : decode cX12_line 40 = .ok (.invokevirtual 182, 3) := by decide +kernel
theorem dX12_line_43 : decode cX12_line 43 = .ok (.ireturn, 1) := by decide +kernel
theorem dX12_line_44 : decode cX12_line 44 = .ok (.aload_n 0, 1) := by decide +kernel
theorem dX12_line_45 : decode cX12_line 45 = .ok (.invokevirtual 185, 3) := by decide +kernel
theorem dX12_line_48 : decode cX12_line 48 = .ok (.aload_n 0, 1) := by decide +kernel
theorem dX12_line_49 : decode cX12_line 49 = .ok (.bipush 14, 2) := by decide +kernel
theorem dX12_line_51 : decode cX12_line 51 = .ok (.iload_n 2, 1) := by decide +kernel
theorem dX12_line_52 : decode cX12_line 52 = .ok (.iadd, 1) := by decide +kernel
theorem dX12_line_53 : decode cX12_line 53 = .ok (.invokevirtual 223, 3) := by decide +kernel
theorem dX12_line_56 : decode cX12_line 56 = .ok (.ifCond .ne 5, 3) := by decide +kernel
theorem dX12_line_59 : decode cX12_line 59 = .ok (.iconst 0, 1) := by decide +kernel
theorem dX12_line_60 : decode cX12_line 60 = .ok (.ireturn, 1) := by decide +kernel
theorem dX12_line_61 : decode cX12_line 61 = .ok (.aload_n 0, 1) := by decide +kernel
theorem dX12_line_62 : decode cX12_line 62 = .ok (.iconst 0, 1) := by decide +kernel
theorem dX12_line_63 : decode cX12_line 63 = .ok (.bipush 9, 2) := by decide +kernel
theorem dX12_line_65 : decode cX12_line 65 = .ok (.invokevirtual 214, 3) := by decide +kernel
theorem dX12_line_68 : decode cX12_line 68 = .ok (.ifCond .ne 5, 3) := by decide +kernel
theorem dX12_line_71 : decode cX12_line 71 = .ok (.iconst 0, 1) := by decide +kernel
theorem dX12_line_72 : decode cX12_line 72 = .ok (.ireturn, 1) := by decide +kernel
theorem dX12_line_73 : decode cX12_line 73 = .ok (.aload_n 0, 1) := by decide +kernel
theorem dX12_line_74 : decode cX12_line 74 = .ok (.getfield 37, 3) := by decide +kernel
theorem dX12_line_77 : decode cX12_line 77 = .ok (.bipush 8, 2) := by decide +kernel
theorem dX12_line_79 : decode cX12_line 79 = .ok (.iload_n 2, 1) := by decide +kernel
theorem dX12_line_80 : decode cX12_line 80 = .ok (.iadd, 1) := by decide +kernel
theorem dX12_line_81 : decode cX12_line 81 = .ok (.aload_n 0, 1) := by decide +kernel
theorem dX12_line_82 : decode cX12_line 82 = .ok (.getfield 192, 3) := by decide +kernel
theorem dX12_line_85 : decode cX12_line 85 = .ok (.iastore, 1) := by decide +kernel
theorem dX12_line_86 : decode cX12_line 86 = .ok (.aload_n 0, 1) := by decide +kernel
theorem dX12_line_87 : decode cX12_line 87 = .ok (.iconst 0, 1) := by decide +kernel
theorem dX12_line_88 : decode cX12_line 88 = .ok (.bipush 9, 2) := by decide +kernel
theorem dX12_line_90 : decode cX12_line 90 = .ok (.invokevirtual 214, 3) := by decide +kernel
theorem dX12_line_93 : decode cX12_line 93 = .ok (.ifCond .ne 5, 3) := by decide +kernel
theorem dX12_line_96 : decode cX12_line 96 = .ok (.iconst 0, 1) := by decide +kernel
theorem dX12_line_97 : decode cX12_line 97 = .ok (.ireturn, 1) := by decide +kernel
theorem dX12_line_98 : decode cX12_line 98 = .ok (.aload_n 0, 1) := by decide +kernel
theorem dX12_line_99 : decode cX12_line 99 = .ok (.getfield 37, 3) := by decide +kernel
theorem dX12_line_102 : decode cX12_line 102 = .ok (.bipush 16, 2) := by decide +kernel
theorem dX12_line_104 : decode cX12_line 104 = .ok (.iload_n 2, 1) := by decide +kernel
theorem dX12_line_105 : decode cX12_line 105 = .ok (.iadd, 1) := by decide +kernel
theorem dX12_line_106 : decode cX12_line 106 = .ok (.aload_n 0, 1) := by decide +kernel
theorem dX12_line_107 : decode cX12_line 107 = .ok (.getfield 192, 3) := by decide +kernel
theorem dX12_line_110 : decode cX12_line 110 = .ok (.iastore, 1) := by decide +kernel
theorem dX12_line_111 : decode cX12_line 111 = .ok (.aload_n 0, 1) := by decide +kernel
theorem dX12_line_112 : decode cX12_line 112 = .ok (.getfield 37, 3) := by decide +kernel
theorem dX12_line_115 : decode cX12_line 115 = .ok (.iconst 0, 1) := by decide +kernel
theorem dX12_line_116 : decode cX12_line 116 = .ok (.dup2, 1) := by decide +kernel
theorem dX12_line_117 : decode cX12_line 117 = .ok (.iaload, 1) := by decide +kernel
theorem dX12_line_118 : decode cX12_line 118 = .ok (.iconst 1, 1) := by decide +kernel
theorem dX12_line_119 : decode cX12_line 119 = .ok (.iadd, 1) := by decide +kernel
theorem dX12_line_120 : decode cX12_line 120 = .ok (.iastore, 1) := by decide +kernel
theorem dX12_line_121 : decode cX12_line 121 = .ok (.iconst 1, 1) := by decide +kernel
theorem dX12_line_122 : decode cX12_line 122 = .ok (.ireturn, 1) := by decide +kernel
theorem dX12_line_123 : decode cX12_line 123 = .ok (.aload_n 0, 1) := by decide +kernel
theorem dX12_line_124 : decode cX12_line 124 = .ok (.ldc2_w 101, 3) := by decide +kernel
theorem dX12_line_127 : decode cX12_line 127 = .ok (.invokevirtual 203, 3) := by decide +kernel
theorem dX12_line_130 : decode cX12_line 130 = .ok (.ifCond .ne 9, 3) := by decide +kernel
theorem dX12_line_133 : decode cX12_line 133 = .ok (.aload_n 0, 1) := by decide +kernel
theorem dX12_line_134 : decode cX12_line 134 = .ok (.iconst 1, 1) := by decide +kernel
theorem dX12_line_135 : decode cX12_line 135 = .ok (.invokevirtual 182, 3) := by decide +kernel
theorem dX12_line_138 : decode cX12_line 138 = .ok (.ireturn, 1) := by decide +kernel
theorem dX12_line_139 : decode cX12_line 139 = .ok (.aload_n 0, 1) := by decide +kernel
theorem dX12_line_140 : decode cX12_line 140 = .ok (.getfield 37, 3) := by decide +kernel
theorem dX12_line_143 : decode cX12_line 143 = .ok (.iconst 1, 1) := by decide +kernel
theorem dX12_line_144 : decode cX12_line 144 = .ok (.iaload, 1) := by decide +kernel
theorem dX12_line_145 : decode cX12_line 145 = .ok (.istore_n 2, 1) := by decide +kernel
theorem dX12_line_146 : decode cX12_line 146 = .ok (.iload_n 2, 1) := by decide +kernel
theorem dX12_line_147 : decode cX12_line 147 = .ok (.bipush 6, 2) := by decide +kernel
theorem dX12_line_149 : decode cX12_line 149 = .ok (.if_icmp .ne 9, 3) := by decide +kernel
theorem dX12_line_152 : decode cX12_line 152 = .ok (.aload_n 0, 1) := by decide +kernel
theorem dX12_line_153 : decode cX12_line 153 = .ok (.iconst 4, 1) := by decide +kernel
theorem dX12_line_154 : decode cX12_line 154 = .ok (.invokevirtual 182, 3) := by decide +kernel
theorem dX12_line_157 : decode cX12_line 157 = .ok (.ireturn, 1) := by decide +kernel
theorem dX12_line_158 : decode cX12_line 158 = .ok (.aload_n 0, 1) := by decide +kernel
theorem dX12_line_159 : decode cX12_line 159 = .ok (.invokevirtual 185, 3) := by decide +kernel
theorem dX12_line_162 : decode cX12_line 162 = .ok (.aload_n 0, 1) := by decide +kernel
theorem dX12_line_163 : decode cX12_line 163 = .ok (.bipush 22, 2) := by decide +kernel
theorem dX12_line_165 : decode cX12_line 165 = .ok (.iload_n 2, 1) := by decide +kernel
theorem dX12_line_166 : decode cX12_line 166 = .ok (.iadd, 1) := by decide +kernel
theorem dX12_line_167 : decode cX12_line 167 = .ok (.invokevirtual 223, 3) := by decide +kernel
theorem dX12_line_170 : decode cX12_line 170 = .ok (.ifCond .ne 5, 3) := by decide +kernel
theorem dX12_line_173 : decode cX12_line 173 = .ok (.iconst 0, 1) := by decide +kernel
theorem dX12_line_174 : decode cX12_line 174 = .ok (.ireturn, 1) := by decide +kernel
theorem dX12_line_175 : decode cX12_line 175 = .ok (.aload_n 0, 1) := by decide +kernel
theorem dX12_line_176 : decode cX12_line 176 = .ok (.iconst 1, 1) := by decide +kernel
theorem dX12_line_177 : decode cX12_line 177 = .ok (.bipush 20, 2) := by decide +kernel
theorem dX12_line_179 : decode cX12_line 179 = .ok (.invokevirtual 214, 3) := by decide +kernel
theorem dX12_line_182 : decode cX12_line 182 = .ok (.ifCond .ne 5, 3) := by decide +kernel
theorem dX12_line_185 : decode cX12_line 185 = .ok (.iconst 0, 1) := by decide +kernel
theorem dX12_line_186 : decode cX12_line 186 = .ok (.ireturn, 1) := by decide +kernel
theorem dX12_line_187 : decode cX12_line 187 = .ok (.aload_n 0, 1) := by decide +kernel
theorem dX12_line_188 : decode cX12_line 188 = .ok (.getfield 37, 3) := by decide +kernel
theorem dX12_line_191 : decode cX12_line 191 = .ok (.bipush 24, 2) := by decide +kernel
theorem dX12_line_193 : decode cX12_line 193 = .ok (.iload_n 2, 1) := by decide +kernel
theorem dX12_line_194 : decode cX12_line 194 = .ok (.iadd, 1) := by decide +kernel
theorem dX12_line_195 : decode cX12_line 195 = .ok (.aload_n 0, 1) := by decide +kernel
theorem dX12_line_196 : decode cX12_line 196 = .ok (.getfield 192, 3) := by decide +kernel
theorem dX12_line_199 : decode cX12_line 199 = .ok (.iastore, 1) := by decide +kernel
theorem dX12_line_200 : decode cX12_line 200 = .ok (.iconst 0, 1) := by decide +kernel
theorem dX12_line_201 : decode cX12_line 201 = .ok (.istore_n 3, 1) := by decide +kernel
theorem dX12_line_202 : decode cX12_line 202 = .ok (.aload_n 0, 1) := by decide +kernel
theorem dX12_line_203 : decode cX12_line 203 = .ok (.bipush 59, 2) := by decide +kernel
theorem dX12_line_205 : decode cX12_line 205 = .ok (.invokevirtual 179, 3) := by decide +kernel
theorem dX12_line_208 : decode cX12_line 208 = .ok (.ifCond .ne 64, 3) := by decide +kernel
theorem dX12_line_211 : decode cX12_line 211 = .ok (.aload_n 0, 1) := by decide +kernel
theorem dX12_line_212 : decode cX12_line 212 = .ok (.invokevirtual 195, 3) := by decide +kernel
theorem dX12_line_215 : decode cX12_line 215 = .ok (.ifCond .ne 9, 3) := by decide +kernel
theorem dX12_line_218 : decode cX12_line 218 = .ok (.aload_n 0, 1) := by decide +kernel
theorem dX12_line_219 : decode cX12_line 219 = .ok (.iconst 1, 1) := by decide +kernel
theorem dX12_line_220 : decode cX12_line 220 = .ok (.invokevirtual 182, 3) := by decide +kernel
theorem dX12_line_223 : decode cX12_line 223 = .ok (.ireturn, 1) := by decide +kernel
theorem dX12_line_224 : decode cX12_line 224 = .ok (.aload_n 0, 1) := by decide +kernel
theorem dX12_line_225 : decode cX12_line 225 = .ok (.bipush 14, 2) := by decide +kernel
theorem dX12_line_227 : decode cX12_line 227 = .ok (.aload_n 0, 1) := by decide +kernel
theorem dX12_line_228 : decode cX12_line 228 = .ok (.getfield 37, 3) := by decide +kernel
theorem dX12_line_231 : decode cX12_line 231 = .ok (.iconst 0, 1) := by decide +kernel
theorem dX12_line_232 : decode cX12_line 232 = .ok (.iaload, 1) := by decide +kernel
theorem dX12_line_233 : decode cX12_line 233 = .ok (.invokevirtual 199, 3) := by decide +kernel
theorem dX12_line_236 : decode cX12_line 236 = .ok (.istore 4, 2) := by decide +kernel
theorem dX12_line_238 : decode cX12_line 238 = .ok (.iload 4, 2) := by decide +kernel
theorem dX12_line_240 : decode cX12_line 240 = .ok (.ifCond .lt 12, 3) := by decide +kernel
theorem dX12_line_243 : decode cX12_line 243 = .ok (.iload_n 3, 1) := by decide +kernel
theorem dX12_line_244 : decode cX12_line 244 = .ok (.iload 4, 2) := by decide +kernel
theorem dX12_line_246 : decode cX12_line 246 = .ok (.invokestatic 210, 3) := by decide +kernel
theorem dX12_line_249 : decode cX12_line 249 = .ok (.ifCond .eq 9, 3) := by decide +kernel
theorem dX12_line_252 : decode cX12_line 252 = .ok (.aload_n 0, 1) := by decide +kernel
theorem dX12_line_253 : decode cX12_line 253 = .ok (.iconst 3, 1) := by decide +kernel
theorem dX12_line_254 : decode cX12_line 254 = .ok (.invokevirtual 182, 3) := by decide +kernel
theorem dX12_line_257 : decode cX12_line 257 = .ok (.ireturn, 1) := by decide +kernel
theorem dX12_line_258 : decode cX12_line 258 = .ok (.iload_n 3, 1) := by decide +kernel
theorem dX12_line_259 : decode cX12_line 259 = .ok (.iconst 1, 1) := by decide +kernel
theorem dX12_line_260 : decode cX12_line 260 = .ok (.iload 4, 2) := by decide +kernel
theorem dX12_line_262 : decode cX12_line 262 = .ok (.ishl, 1) := by decide +kernel
theorem dX12_line_263 : decode cX12_line 263 = .ok (.ior, 1) := by decide +kernel
theorem dX12_line_264 : decode cX12_line 264 = .ok (.istore_n 3, 1) := by decide +kernel
theorem dX12_line_265 : decode cX12_line 265 = .ok (.aload_n 0, 1) := by decide +kernel
theorem dX12_line_266 : decode cX12_line 266 = .ok (.invokevirtual 185, 3) := by decide +kernel
theorem dX12_line_269 : decode cX12_line 269 = .ok (.goto (-67), 3) := by decide +kernel
theorem dX12_line_272 : decode cX12_line 272 = .ok (.aload_n 0, 1) := by decide +kernel
theorem dX12_line_273 : decode cX12_line 273 = .ok (.getfield 37, 3) := by decide +kernel
theorem dX12_line_276 : decode cX12_line 276 = .ok (.bipush 30, 2) := by decide +kernel
theorem dX12_line_278 : decode cX12_line 278 = .ok (.iload_n 2, 1) := by decide +kernel
theorem dX12_line_279 : decode cX12_line 279 = .ok (.iadd, 1) := by decide +kernel
theorem dX12_line_280 : decode cX12_line 280 = .ok (.iload_n 3, 1) := by decide +kernel
theorem dX12_line_281 : decode cX12_line 281 = .ok (.iastore, 1) := by decide +kernel
theorem dX12_line_282 : decode cX12_line 282 = .ok (.aload_n 0, 1) := by decide +kernel
theorem dX12_line_283 : decode cX12_line 283 = .ok (.getfield 37, 3) := by decide +kernel
theorem dX12_line_286 : decode cX12_line 286 = .ok (.iconst 1, 1) := by decide +kernel
theorem dX12_line_287 : decode cX12_line 287 = .ok (.dup2, 1) := by decide +kernel
theorem dX12_line_288 : decode cX12_line 288 = .ok (.iaload, 1) := by decide +kernel
theorem dX12_line_289 : decode cX12_line 289 = .ok (.iconst 1, 1) := by decide +kernel
theorem dX12_line_290 : decode cX12_line 290 = .ok (.iadd, 1) := by decide +kernel
theorem dX12_line_291 : decode cX12_line 291 = .ok (.iastore, 1) := by decide +kernel
theorem dX12_line_292 : decode cX12_line 292 = .ok (.iconst 1, 1) := by decide +kernel
theorem dX12_line_293 : decode cX12_line 293 = .ok (.ireturn, 1) := by decide +kernel
abbrev rm_X12_line : Room := { frames := 4, cells := 0, slots := 0, locals := 86 }
noncomputable def fX12_line_b252 (o0 : Nat) (h : z_T) : Option (Int32 × z_T) :=
  y_gd (z_ok h o0 11) <|
  y_bi (fX12_bad o0 (3 : Int32) h) fun ⟨r2, h6⟩ =>
  y_gd (y_b r2) <|
  some (r2, h6)
noncomputable def fX12_line_b202_i (o0 : Nat) (x2 : Int32) (x3 : Int32) (h : z_T) : Option ((Int32 × z_T) ⊕ (Int32 × z_T)) :=
  y_gd (z_ok h o0 11) <|
  y_bi (fX12_isSign o0 (59 : Int32) h) fun r10 =>
  y_br (r10 = 0)
    (y_bi (fX12_isName o0 h) fun r25 =>
    y_br (r25 = 0)
      (y_mp <|
      y_bi (fX12_bad o0 (1 : Int32) h) fun ⟨r52, h56⟩ =>
      y_gd (y_b r52) <|
      some (r52, h56))
      (y_bi (z_R h o0 7) fun o30 =>
      y_gd (z_ok h o30 13) <|
      y_gd (z_ix (0 : Int32) (z_N h o30)) <|
      y_bi (fX12_find o0 (14 : Int32) (z_I h o30 (0 : Int32).toNatClampNeg) h) fun r34 =>
      y_br (r34 < 0)
        (y_mp <|
        fX12_line_b252 o0 h)
        (y_bi (fX12_bitOf x3 r34) fun r41 =>
        y_br (r41 = 0)
          (y_nm ((x3 ||| ((1 : Int32) <<< (r34 &&& 31)))) fun v46 =>
          y_bi (fX12_go o0 h) fun h48 =>
          some (.inl (v46, h48)))
          (y_mp <|
          fX12_line_b252 o0 h))))
    (y_mp <|
    y_bi (z_R h o0 7) fun o17 =>
    y_gd (z_ok h o17 13) <|
    y_gd (z_ix ((30 : Int32) + x2) (z_N h o17)) <|
    y_nm (z_sI h o17 ((30 : Int32) + x2).toNatClampNeg x3) fun h20 =>
    y_gd (z_ix (1 : Int32) (z_N h20 o17)) <|
    y_gd (z_ix (1 : Int32) (z_N h20 o17)) <|
    y_nm (z_sI h20 o17 (1 : Int32).toNatClampNeg ((z_I h20 o17 (1 : Int32).toNatClampNeg) + (1 : Int32))) fun h23 =>
    some ((1 : Int32), h23))
noncomputable def fX12_line_b202 (o0 : Nat) (x2 : Int32) (x3 : Int32) (h : z_T) : Option (Int32 × z_T) := y_lp (fun q : Int32 × z_T => fX12_line_b202_i o0 x2 q.1 q.2) (x3, h)
noncomputable def fX12_line (o0 : Nat) (h : z_T) : Option (Int32 × z_T) :=
  y_gd (z_ok h o0 11) <|
  y_bi (fX12_onceOf o0 h) fun r59 =>
  y_br (r59 < 0)
    (y_bi (fX12_isWord o0 (1952805748 : Int64) h) fun r66 =>
    y_br (r66 = 0)
      (y_bi (fX12_isWord o0 (431415976301 : Int64) h) fun r72 =>
      y_br (r72 = 0)
        (y_bi (fX12_bad o0 (1 : Int32) h) fun ⟨r113, h117⟩ =>
        y_gd (y_b r113) <|
        some (r113, h117))
        (y_bi (z_R h o0 7) fun o77 =>
        y_gd (z_ok h o77 13) <|
        y_gd (z_ix (1 : Int32) (z_N h o77)) <|
        y_nm ((z_I h o77 (1 : Int32).toNatClampNeg)) fun v80 =>
        y_br (v80 = (6 : Int32))
          (y_bi (fX12_bad o0 (4 : Int32) h) fun ⟨r106, h110⟩ =>
          y_gd (y_b r106) <|
          some (r106, h110))
          (y_bi (fX12_go o0 h) fun h83 =>
          y_gd (z_ok h83 o0 11) <|
          y_bi (fX12_fresh o0 ((22 : Int32) + v80) h83) fun ⟨r85, h89⟩ =>
          y_br (r85 = 0)
            (some ((0 : Int32), h89))
            (y_gd (z_ok h89 o0 11) <|
            y_bi (fX12_takes o0 (1 : Int32) (20 : Int32) h89) fun ⟨r93, h97⟩ =>
            y_br (r93 = 0)
              (some ((0 : Int32), h97))
              (y_gd (z_ok h97 o0 11) <|
              y_bi (z_R h97 o0 7) fun o101 =>
              y_gd (z_ok h97 o101 13) <|
              y_gd (z_ix ((24 : Int32) + v80) (z_N h97 o101)) <|
              y_nm (z_sI h97 o101 ((24 : Int32) + v80).toNatClampNeg (z_I h97 o0 18)) fun h104 =>
              fX12_line_b202 o0 v80 (0 : Int32) h104)))))
      (y_bi (z_R h o0 7) fun o119 =>
      y_gd (z_ok h o119 13) <|
      y_gd (z_ix (0 : Int32) (z_N h o119)) <|
      y_nm ((z_I h o119 (0 : Int32).toNatClampNeg)) fun v122 =>
      y_br (v122 = (8 : Int32))
        (y_bi (fX12_bad o0 (4 : Int32) h) fun ⟨r163, h167⟩ =>
        y_gd (y_b r163) <|
        some (r163, h167))
        (y_bi (fX12_go o0 h) fun h125 =>
        y_gd (z_ok h125 o0 11) <|
        y_bi (fX12_fresh o0 ((14 : Int32) + v122) h125) fun ⟨r127, h131⟩ =>
        y_br (r127 = 0)
          (some ((0 : Int32), h131))
          (y_gd (z_ok h131 o0 11) <|
          y_bi (fX12_takes o0 (0 : Int32) (9 : Int32) h131) fun ⟨r135, h139⟩ =>
          y_br (r135 = 0)
            (some ((0 : Int32), h139))
            (y_gd (z_ok h139 o0 11) <|
            y_bi (z_R h139 o0 7) fun o143 =>
            y_gd (z_ok h139 o143 13) <|
            y_gd (z_ix ((8 : Int32) + v122) (z_N h139 o143)) <|
            y_nm (z_sI h139 o143 ((8 : Int32) + v122).toNatClampNeg (z_I h139 o0 18)) fun h146 =>
            y_bi (fX12_takes o0 (0 : Int32) (9 : Int32) h146) fun ⟨r148, h152⟩ =>
            y_br (r148 = 0)
              (some ((0 : Int32), h152))
              (y_gd (z_ok h152 o0 11) <|
              y_bi (z_R h152 o0 7) fun o155 =>
              y_gd (z_ok h152 o155 13) <|
              y_gd (z_ix ((16 : Int32) + v122) (z_N h152 o155)) <|
              y_nm (z_sI h152 o155 ((16 : Int32) + v122).toNatClampNeg (z_I h152 o0 18)) fun h158 =>
              y_gd (z_ix (0 : Int32) (z_N h158 o155)) <|
              y_gd (z_ix (0 : Int32) (z_N h158 o155)) <|
              y_nm (z_sI h158 o155 (0 : Int32).toNatClampNeg ((z_I h158 o155 (0 : Int32).toNatClampNeg) + (1 : Int32))) fun h161 =>
              some ((1 : Int32), h161)))))))
    (y_bi (fX12_readOnce o0 r59 h) fun ⟨r170, h174⟩ =>
    y_gd (y_b r170) <|
    some (r170, h174))
set_option maxHeartbeats 4000000 in
set_option maxRecDepth 100000 in
theorem mm_X12_line {G : z_Gt} {S : State → Prop} (hSK : z_SK S) (l : Launch) (ad : Nat → Nat) (o0 : Nat) (h : z_T) {r0 : Int32} {h9 : z_T} (hv : fX12_line o0 h = some (r0, h9)) : z_Mi G S l yX12_line cX12_line 5 (.boolean) rm_X12_line 0 0 [.ref (ad o0)] ad h h9 r0 := by
  refine z_ofW hSK (by decide) (Nat.le_of_ble_eq_true rfl) ?_
  intro p e s m args below meth c ls hc hr hnm hB hl
  have hx := hc.1.1
  have hb := hc.1.2.1
  have hown := hc.1.2.2.2.1
  have hts := hc.1.2.2.2.2
  replace hc : z_C G S ad (z_n h) p m c cX12_line 5 s args RX12 meth := hc
  replace hown : s.vm.findClass RX12 = some m.cls := hown
  replace hl : lv_has ls 5 [(0, .ref (ad o0))] := hl
  show W p l e rm_X12_line s m args below meth c s.heap [] 0 0 (MQ below (z_Qi G ad h9 (z_n h) s.heap.size r0) args s 0 0 (z_A ad (z_n h) s.heap.size)) (F0 m 0 ls [])
  obtain ⟨rs, kt⟩ : ∃ rs : Int32 × z_T, rs = (r0, h9) := ⟨_, rfl⟩
  generalize hn0 : z_n h = n0 at hc hB ⊢
  have b252 : ∀ (h : z_T) (H : Heap) (locs : List Loc) (ls : Array Slot), z_B G ad n0 s h H locs → lv_has ls 5 [(0, .ref (ad o0))] → ∀ w, fX12_line_b252 o0 h = some w → w = (r0, h9) → W p l e rm_X12_line s m args below meth c H locs 0 0 (MQ below (z_Qi G ad h9 n0 s.heap.size r0) args s 0 0 (z_A ad n0 s.heap.size)) (F0 m 252 ls []) := by
    intro h H locs ls hB hl w hv kb
    refine lv_aload_n hx hb dX12_line_252 rfl (lv_at hl 0 rfl) ?_
    refine lv_iconst (v := (3 : Int32)) hx hb dX12_line_253 (by decide) ?_
    obtain ⟨g7, hv⟩ := y_gd_e hv
    obtain ⟨⟨r2, h6⟩, c1, hv⟩ := y_bi_e hv
    refine z_thI hc hB (z_runV hc hB 11 (mm_X12_bad hSK l ad o0 (3 : Int32) h c1) md_X12_bad qmX12_182 g7 (by decide) rfl rfl rfl ⟨Nat.le_of_ble_eq_true rfl, Nat.le_of_ble_eq_true rfl⟩ rfl hl.1 rfl (Nat.le_of_ble_eq_true rfl) dX12_line_254 ⟨Nat.le_of_ble_eq_true rfl, Nat.le_of_ble_eq_true rfl⟩) (fun H locs hB => ?_)
    obtain ⟨y8, hv⟩ := y_gd_e hv
    replace hv := Option.some.inj hv
    subst hv
    obtain ⟨e1, e2⟩ := y_pr kb
    rw [← e1, ← e2]
    exact z_zret hc hB hr (y_b_n y8) dX12_line_257
  have L202 : ∀ (x2 : Int32) (nn202 : Nat) (x3 : Int32) (h : z_T) (H : Heap) (locs : List Loc) (ls : Array Slot), z_B G ad n0 s h H locs → lv_has ls 5 [(0, .ref (ad o0)), (2, .int x2), (3, .int x3)] → ∀ vv202, y_lpN (fun q : Int32 × z_T => fX12_line_b202_i o0 x2 q.1 q.2) nn202 (x3, h) = some vv202 → vv202 = (r0, h9) → W p l e rm_X12_line s m args below meth c H locs 0 0 (MQ below (z_Qi G ad h9 n0 s.heap.size r0) args s 0 0 (z_A ad n0 s.heap.size)) (F0 m 202 ls []) := by
    intro x2 nn202
    induction nn202 with
    | zero => intro x3 h H locs ls hB hl vv202 hv kv202; exact absurd hv (fun q => y_lpN_0 q)
    | succ nn202 ih202 =>
      intro x3 h H locs ls hB hl vv202 hv kv202
      obtain ⟨w, hq, kw202⟩ := y_lpN_e hv
      clear hv
      have hv : fX12_line_b202_i o0 x2 x3 h = some w := hq
      clear hq
      refine lv_aload_n hx hb dX12_line_202 rfl (lv_at hl 0 rfl) ?_
      refine lv_bipush (v := (59 : Int32)) hx hb dX12_line_203 (by decide) ?_
      obtain ⟨g14, hv⟩ := y_gd_e hv
      obtain ⟨r10, c9, hv⟩ := y_bi_e hv
      refine z_thI hc hB (z_runV hc hB 11 (mm_X12_isSign hSK l ad o0 (59 : Int32) h c9) md_X12_isSign qmX12_179 g14 (by decide) rfl rfl rfl ⟨Nat.le_of_ble_eq_true rfl, Nat.le_of_ble_eq_true rfl⟩ rfl hl.1 rfl (Nat.le_of_ble_eq_true rfl) dX12_line_205 ⟨Nat.le_of_ble_eq_true rfl, Nat.le_of_ble_eq_true rfl⟩) (fun H locs hB => ?_)
      refine lv_if_ne (tgt := 272) hx hb dX12_line_208 (by decide) (fun c15 => ?_) (fun c15 => ?_)
      · replace hv := y_br_f hv c15
        obtain ⟨t16, hq, ew⟩ := y_mp_e hv
        clear hv; subst ew
        replace kw202 : t16 = _ := kw202
        subst kw202
        have hv := hq
        clear hq
        refine lv_aload_n hx hb dX12_line_272 rfl (lv_at hl 0 rfl) ?_
        obtain ⟨o17, eo17, hv⟩ := y_bi_e hv
        refine z_getR hc hB 11 7 g14 eo17 (by decide) (by decide) rfl (z_l1 hc qfX12_37) dX12_line_273 ?_
        refine lv_bipush (v := (30 : Int32)) hx hb dX12_line_276 (by decide) ?_
        refine lv_iload_n hx hb dX12_line_278 rfl (lv_at hl 1 rfl) ?_
        refine lv_iadd hx hb dX12_line_279 ?_
        refine lv_iload_n hx hb dX12_line_280 rfl (lv_at hl 2 rfl) ?_
        obtain ⟨g18, hv⟩ := y_gd_e hv
        obtain ⟨i19, hv⟩ := y_gd_e hv
        obtain ⟨h20, eh20, hv⟩ := y_nm_e hv
        refine y_iast hc hB eh20 g18 i19 dX12_line_281 (fun H locs hB => ?_)
        refine lv_aload_n hx hb dX12_line_282 rfl (lv_at hl 0 rfl) ?_
        refine z_getR hc hB 11 7 (by rw [eh20]; exact g14) (by rw [eh20]; exact eo17) (by decide) (by decide) rfl (z_l1 hc qfX12_37) dX12_line_283 ?_
        refine lv_iconst (v := (1 : Int32)) hx hb dX12_line_286 (by decide) ?_
        refine lv_dup2_11 hx hb dX12_line_287 rfl rfl ?_
        obtain ⟨i21, hv⟩ := y_gd_e hv
        refine z_iald hc hB (by rw [eh20]; exact g18) i21 dX12_line_288 ?_
        refine lv_iconst (v := (1 : Int32)) hx hb dX12_line_289 (by decide) ?_
        refine lv_iadd hx hb dX12_line_290 ?_
        obtain ⟨i22, hv⟩ := y_gd_e hv
        obtain ⟨h23, eh23, hv⟩ := y_nm_e hv
        refine y_iast hc hB eh23 (by rw [eh20]; exact g18) i22 dX12_line_291 (fun H locs hB => ?_)
        refine lv_iconst (v := (1 : Int32)) hx hb dX12_line_292 (by decide) ?_
        replace hv := Option.some.inj hv
        subst hv
        obtain ⟨e1, e2⟩ := y_pr kv202
        rw [← e1, ← e2]
        exact z_zret hc hB hr rfl dX12_line_293
      · replace hv := y_br_t hv c15
        refine lv_aload_n hx hb dX12_line_211 rfl (lv_at hl 0 rfl) ?_
        obtain ⟨r25, c24, hv⟩ := y_bi_e hv
        refine z_thI hc hB (z_runV hc hB 11 (mm_X12_isName hSK l ad o0 h c24) md_X12_isName qmX12_195 g14 (by decide) rfl rfl rfl ⟨Nat.le_of_ble_eq_true rfl, Nat.le_of_ble_eq_true rfl⟩ rfl hl.1 rfl (Nat.le_of_ble_eq_true rfl) dX12_line_212 ⟨Nat.le_of_ble_eq_true rfl, Nat.le_of_ble_eq_true rfl⟩) (fun H locs hB => ?_)
        refine lv_if_ne (tgt := 224) hx hb dX12_line_215 (by decide) (fun c29 => ?_) (fun c29 => ?_)
        · replace hv := y_br_f hv c29
          refine lv_aload_n hx hb dX12_line_224 rfl (lv_at hl 0 rfl) ?_
          refine lv_bipush (v := (14 : Int32)) hx hb dX12_line_225 (by decide) ?_
          refine lv_aload_n hx hb dX12_line_227 rfl (lv_at hl 0 rfl) ?_
          obtain ⟨o30, eo30, hv⟩ := y_bi_e hv
          refine z_getR hc hB 11 7 g14 eo30 (by decide) (by decide) rfl (z_l1 hc qfX12_37) dX12_line_228 ?_
          refine lv_iconst (v := (0 : Int32)) hx hb dX12_line_231 (by decide) ?_
          obtain ⟨g31, hv⟩ := y_gd_e hv
          obtain ⟨i32, hv⟩ := y_gd_e hv
          refine z_iald hc hB g31 i32 dX12_line_232 ?_
          obtain ⟨r34, c33, hv⟩ := y_bi_e hv
          refine z_thI hc hB (z_runV hc hB 11 (mm_X12_find hSK l ad o0 (14 : Int32) (z_I h o30 (0 : Int32).toNatClampNeg) h c33) md_X12_find qmX12_199 g14 (by decide) rfl rfl rfl ⟨Nat.le_of_ble_eq_true rfl, Nat.le_of_ble_eq_true rfl⟩ rfl hl.1 rfl (Nat.le_of_ble_eq_true rfl) dX12_line_233 ⟨Nat.le_of_ble_eq_true rfl, Nat.le_of_ble_eq_true rfl⟩) (fun H locs hB => ?_)
          refine lv_istore (lv' := [(4, .int r34), (0, .ref (ad o0)), (2, .int x2), (3, .int x3)]) hx hb dX12_line_236 hl (by decide) rfl (fun ls hl => ?_)
          refine lv_iload hx hb dX12_line_238 (lv_at hl 0 rfl) ?_
          refine lv_if_lt (tgt := 252) hx hb dX12_line_240 (by decide) (fun c38 => ?_) (fun c38 => ?_)
          · replace hv := y_br_t hv c38
            obtain ⟨t39, hq, ew⟩ := y_mp_e hv
            clear hv; subst ew
            replace kw202 : t39 = _ := kw202
            subst kw202
            have hv := hq
            clear hq
            exact b252 h _ _ _ hB (lv_sub hl [1] rfl) _ hv kv202
          · replace hv := y_br_f hv c38
            refine lv_iload_n hx hb dX12_line_243 rfl (lv_at hl 3 rfl) ?_
            refine lv_iload hx hb dX12_line_244 (lv_at hl 0 rfl) ?_
            obtain ⟨r41, c40, hv⟩ := y_bi_e hv
            refine z_thI hc hB (z_runS hc hB (mm_X12_bitOf hSK l ad x3 r34 h c40) md_X12_bitOf qmX12_210 rfl rfl ⟨Nat.le_of_ble_eq_true rfl, Nat.le_of_ble_eq_true rfl⟩ rfl hl.1 rfl (Nat.le_of_ble_eq_true rfl) dX12_line_246 ⟨Nat.le_of_ble_eq_true rfl, Nat.le_of_ble_eq_true rfl⟩) (fun H locs hB => ?_)
            refine lv_if_eq (tgt := 258) hx hb dX12_line_249 (by decide) (fun c45 => ?_) (fun c45 => ?_)
            · replace hv := y_br_t hv c45
              refine lv_iload_n hx hb dX12_line_258 rfl (lv_at hl 3 rfl) ?_
              refine lv_iconst (v := (1 : Int32)) hx hb dX12_line_259 (by decide) ?_
              refine lv_iload hx hb dX12_line_260 (lv_at hl 0 rfl) ?_
              refine lv_ishl hx hb dX12_line_262 ?_
              refine lv_ior hx hb dX12_line_263 ?_
              obtain ⟨v46, ev46, hv⟩ := y_nm_e hv
              rw [← ev46]
              refine lv_istore_n (lv' := [(3, .int v46), (4, .int r34), (0, .ref (ad o0)), (2, .int x2)]) hx hb dX12_line_264 rfl hl (by decide) rfl (fun ls hl => ?_)
              refine lv_aload_n hx hb dX12_line_265 rfl (lv_at hl 2 rfl) ?_
              obtain ⟨h48, c47, hv⟩ := y_bi_e hv
              refine z_thV hc hB (z_runV hc hB 11 (mm_X12_go hSK l ad o0 h c47) md_X12_go qmX12_185 g14 (by decide) rfl rfl rfl ⟨Nat.le_of_ble_eq_true rfl, Nat.le_of_ble_eq_true rfl⟩ rfl hl.1 rfl (Nat.le_of_ble_eq_true rfl) dX12_line_266 ⟨Nat.le_of_ble_eq_true rfl, Nat.le_of_ble_eq_true rfl⟩) (fun H locs hB => ?_)
              refine lv_goto (tgt := 202) hx hb dX12_line_269 (by decide) ?_
              replace hv := Option.some.inj hv
              subst hv
              exact ih202 v46 h48 _ _ _ hB (lv_sub hl [2, 3, 0] rfl) _ kw202 kv202
            · replace hv := y_br_f hv c45
              obtain ⟨t49, hq, ew⟩ := y_mp_e hv
              clear hv; subst ew
              replace kw202 : t49 = _ := kw202
              subst kw202
              have hv := hq
              clear hq
              exact b252 h _ _ _ hB (lv_sub hl [1] rfl) _ hv kv202
        · replace hv := y_br_t hv c29
          obtain ⟨t50, hq, ew⟩ := y_mp_e hv
          clear hv; subst ew
          replace kw202 : t50 = _ := kw202
          subst kw202
          have hv := hq
          clear hq
          refine lv_aload_n hx hb dX12_line_218 rfl (lv_at hl 0 rfl) ?_
          refine lv_iconst (v := (1 : Int32)) hx hb dX12_line_219 (by decide) ?_
          obtain ⟨⟨r52, h56⟩, c51, hv⟩ := y_bi_e hv
          refine z_thI hc hB (z_runV hc hB 11 (mm_X12_bad hSK l ad o0 (1 : Int32) h c51) md_X12_bad qmX12_182 g14 (by decide) rfl rfl rfl ⟨Nat.le_of_ble_eq_true rfl, Nat.le_of_ble_eq_true rfl⟩ rfl hl.1 rfl (Nat.le_of_ble_eq_true rfl) dX12_line_220 ⟨Nat.le_of_ble_eq_true rfl, Nat.le_of_ble_eq_true rfl⟩) (fun H locs hB => ?_)
          obtain ⟨y57, hv⟩ := y_gd_e hv
          replace hv := Option.some.inj hv
          subst hv
          obtain ⟨e1, e2⟩ := y_pr kv202
          rw [← e1, ← e2]
          exact z_zret hc hB hr (y_b_n y57) dX12_line_223
  rw [← kt] at hv
  refine lv_aload_n hx hb dX12_line_0 rfl (lv_at hl 0 rfl) ?_
  obtain ⟨g63, hv⟩ := y_gd_e hv
  obtain ⟨r59, c58, hv⟩ := y_bi_e hv
  refine z_thI hc hB (z_runV hc hB 11 (mm_X12_onceOf hSK l ad o0 h c58) md_X12_onceOf qmX12_217 g63 (by decide) rfl rfl rfl ⟨Nat.le_of_ble_eq_true rfl, Nat.le_of_ble_eq_true rfl⟩ rfl hl.1 rfl (Nat.le_of_ble_eq_true rfl) dX12_line_1 ⟨Nat.le_of_ble_eq_true rfl, Nat.le_of_ble_eq_true rfl⟩) (fun H locs hB => ?_)
  refine lv_istore_n (lv' := [(1, .int r59), (0, .ref (ad o0))]) hx hb dX12_line_4 rfl hl (by decide) rfl (fun ls hl => ?_)
  refine lv_iload_n hx hb dX12_line_5 rfl (lv_at hl 0 rfl) ?_
  refine lv_if_lt (tgt := 15) hx hb dX12_line_6 (by decide) (fun c64 => ?_) (fun c64 => ?_)
  · replace hv := y_br_t hv c64
    refine lv_aload_n hx hb dX12_line_15 rfl (lv_at hl 1 rfl) ?_
    refine lv_ldc2 (v := (1952805748 : Int64)) hx hb hown (hts _ qkX12_99) dX12_line_16 ?_
    obtain ⟨r66, c65, hv⟩ := y_bi_e hv
    refine z_thI hc hB (z_runV hc hB 11 (mm_X12_isWord hSK l ad o0 (1952805748 : Int64) h c65) md_X12_isWord qmX12_203 g63 (by decide) rfl rfl rfl ⟨Nat.le_of_ble_eq_true rfl, Nat.le_of_ble_eq_true rfl⟩ rfl hl.1 rfl (Nat.le_of_ble_eq_true rfl) dX12_line_19 ⟨Nat.le_of_ble_eq_true rfl, Nat.le_of_ble_eq_true rfl⟩) (fun H locs hB => ?_)
    refine lv_if_eq (tgt := 123) hx hb dX12_line_22 (by decide) (fun c70 => ?_) (fun c70 => ?_)
    · replace hv := y_br_t hv c70
      refine lv_aload_n hx hb dX12_line_123 rfl (lv_at hl 1 rfl) ?_
      refine lv_ldc2 (v := (431415976301 : Int64)) hx hb hown (hts _ qkX12_101) dX12_line_124 ?_
      obtain ⟨r72, c71, hv⟩ := y_bi_e hv
      refine z_thI hc hB (z_runV hc hB 11 (mm_X12_isWord hSK l ad o0 (431415976301 : Int64) h c71) md_X12_isWord qmX12_203 g63 (by decide) rfl rfl rfl ⟨Nat.le_of_ble_eq_true rfl, Nat.le_of_ble_eq_true rfl⟩ rfl hl.1 rfl (Nat.le_of_ble_eq_true rfl) dX12_line_127 ⟨Nat.le_of_ble_eq_true rfl, Nat.le_of_ble_eq_true rfl⟩) (fun H locs hB => ?_)
      refine lv_if_ne (tgt := 139) hx hb dX12_line_130 (by decide) (fun c76 => ?_) (fun c76 => ?_)
      · replace hv := y_br_f hv c76
        refine lv_aload_n hx hb dX12_line_139 rfl (lv_at hl 1 rfl) ?_
        obtain ⟨o77, eo77, hv⟩ := y_bi_e hv
        refine z_getR hc hB 11 7 g63 eo77 (by decide) (by decide) rfl (z_l1 hc qfX12_37) dX12_line_140 ?_
        refine lv_iconst (v := (1 : Int32)) hx hb dX12_line_143 (by decide) ?_
        obtain ⟨g78, hv⟩ := y_gd_e hv
        obtain ⟨i79, hv⟩ := y_gd_e hv
        refine z_iald hc hB g78 i79 dX12_line_144 ?_
        obtain ⟨v80, ev80, hv⟩ := y_nm_e hv
        rw [← ev80]
        refine lv_istore_n (lv' := [(2, .int v80), (1, .int r59), (0, .ref (ad o0))]) hx hb dX12_line_145 rfl hl (by decide) rfl (fun ls hl => ?_)
        refine lv_iload_n hx hb dX12_line_146 rfl (lv_at hl 0 rfl) ?_
        refine lv_bipush (v := (6 : Int32)) hx hb dX12_line_147 (by decide) ?_
        refine lv_icmp_ne (tgt := 158) hx hb dX12_line_149 (by decide) (fun c81 => ?_) (fun c81 => ?_)
        · replace hv := y_br_f hv c81
          refine lv_aload_n hx hb dX12_line_158 rfl (lv_at hl 2 rfl) ?_
          obtain ⟨h83, c82, hv⟩ := y_bi_e hv
          refine z_thV hc hB (z_runV hc hB 11 (mm_X12_go hSK l ad o0 h c82) md_X12_go qmX12_185 g63 (by decide) rfl rfl rfl ⟨Nat.le_of_ble_eq_true rfl, Nat.le_of_ble_eq_true rfl⟩ rfl hl.1 rfl (Nat.le_of_ble_eq_true rfl) dX12_line_159 ⟨Nat.le_of_ble_eq_true rfl, Nat.le_of_ble_eq_true rfl⟩) (fun H locs hB => ?_)
          refine lv_aload_n hx hb dX12_line_162 rfl (lv_at hl 2 rfl) ?_
          refine lv_bipush (v := (22 : Int32)) hx hb dX12_line_163 (by decide) ?_
          refine lv_iload_n hx hb dX12_line_165 rfl (lv_at hl 0 rfl) ?_
          refine lv_iadd hx hb dX12_line_166 ?_
          obtain ⟨g90, hv⟩ := y_gd_e hv
          obtain ⟨⟨r85, h89⟩, c84, hv⟩ := y_bi_e hv
          refine z_thI hc hB (z_runV hc hB 11 (mm_X12_fresh hSK l ad o0 ((22 : Int32) + v80) h83 c84) md_X12_fresh qmX12_223 g90 (by decide) rfl rfl rfl ⟨Nat.le_of_ble_eq_true rfl, Nat.le_of_ble_eq_true rfl⟩ rfl hl.1 rfl (Nat.le_of_ble_eq_true rfl) dX12_line_167 ⟨Nat.le_of_ble_eq_true rfl, Nat.le_of_ble_eq_true rfl⟩) (fun H locs hB => ?_)
          refine lv_if_ne (tgt := 175) hx hb dX12_line_170 (by decide) (fun c91 => ?_) (fun c91 => ?_)
          · replace hv := y_br_f hv c91
            refine lv_aload_n hx hb dX12_line_175 rfl (lv_at hl 2 rfl) ?_
            refine lv_iconst (v := (1 : Int32)) hx hb dX12_line_176 (by decide) ?_
            refine lv_bipush (v := (20 : Int32)) hx hb dX12_line_177 (by decide) ?_
            obtain ⟨g98, hv⟩ := y_gd_e hv
            obtain ⟨⟨r93, h97⟩, c92, hv⟩ := y_bi_e hv
            refine z_thI hc hB (z_runV hc hB 11 (mm_X12_takes hSK l ad o0 (1 : Int32) (20 : Int32) h89 c92) md_X12_takes qmX12_214 g98 (by decide) rfl rfl rfl ⟨Nat.le_of_ble_eq_true rfl, Nat.le_of_ble_eq_true rfl⟩ rfl hl.1 rfl (Nat.le_of_ble_eq_true rfl) dX12_line_179 ⟨Nat.le_of_ble_eq_true rfl, Nat.le_of_ble_eq_true rfl⟩) (fun H locs hB => ?_)
            refine lv_if_ne (tgt := 187) hx hb dX12_line_182 (by decide) (fun c99 => ?_) (fun c99 => ?_)
            · replace hv := y_br_f hv c99
              refine lv_aload_n hx hb dX12_line_187 rfl (lv_at hl 2 rfl) ?_
              obtain ⟨g100, hv⟩ := y_gd_e hv
              obtain ⟨o101, eo101, hv⟩ := y_bi_e hv
              refine z_getR hc hB 11 7 g100 eo101 (by decide) (by decide) rfl (z_l1 hc qfX12_37) dX12_line_188 ?_
              refine lv_bipush (v := (24 : Int32)) hx hb dX12_line_191 (by decide) ?_
              refine lv_iload_n hx hb dX12_line_193 rfl (lv_at hl 0 rfl) ?_
              refine lv_iadd hx hb dX12_line_194 ?_
              refine lv_aload_n hx hb dX12_line_195 rfl (lv_at hl 2 rfl) ?_
              refine z_getI hc hB 11 18 g100 (by decide) (by decide) rfl (z_l1 hc qfX12_192) dX12_line_196 ?_
              obtain ⟨g102, hv⟩ := y_gd_e hv
              obtain ⟨i103, hv⟩ := y_gd_e hv
              obtain ⟨h104, eh104, hv⟩ := y_nm_e hv
              refine y_iast hc hB eh104 g102 i103 dX12_line_199 (fun H locs hB => ?_)
              refine lv_iconst (v := (0 : Int32)) hx hb dX12_line_200 (by decide) ?_
              refine lv_istore_n (lv' := [(3, .int (0 : Int32)), (2, .int v80), (1, .int r59), (0, .ref (ad o0))]) hx hb dX12_line_201 rfl hl (by decide) rfl (fun ls hl => ?_)
              obtain ⟨n, hv⟩ := y_lp_e hv
              exact L202 v80 n (0 : Int32) h104 _ _ _ hB (lv_sub hl [3, 1, 0] rfl) _ hv kt
            · replace hv := y_br_t hv c99
              refine lv_iconst (v := (0 : Int32)) hx hb dX12_line_185 (by decide) ?_
              replace hv := Option.some.inj hv
              subst hv
              obtain ⟨e1, e2⟩ := y_pr kt
              rw [← e1, ← e2]
              exact z_zret hc hB hr rfl dX12_line_186
          · replace hv := y_br_t hv c91
            refine lv_iconst (v := (0 : Int32)) hx hb dX12_line_173 (by decide) ?_
            replace hv := Option.some.inj hv
            subst hv
            obtain ⟨e1, e2⟩ := y_pr kt
            rw [← e1, ← e2]
            exact z_zret hc hB hr rfl dX12_line_174
        · replace hv := y_br_t hv c81
          refine lv_aload_n hx hb dX12_line_152 rfl (lv_at hl 2 rfl) ?_
          refine lv_iconst (v := (4 : Int32)) hx hb dX12_line_153 (by decide) ?_
          obtain ⟨⟨r106, h110⟩, c105, hv⟩ := y_bi_e hv
          refine z_thI hc hB (z_runV hc hB 11 (mm_X12_bad hSK l ad o0 (4 : Int32) h c105) md_X12_bad qmX12_182 g63 (by decide) rfl rfl rfl ⟨Nat.le_of_ble_eq_true rfl, Nat.le_of_ble_eq_true rfl⟩ rfl hl.1 rfl (Nat.le_of_ble_eq_true rfl) dX12_line_154 ⟨Nat.le_of_ble_eq_true rfl, Nat.le_of_ble_eq_true rfl⟩) (fun H locs hB => ?_)
          obtain ⟨y111, hv⟩ := y_gd_e hv
          replace hv := Option.some.inj hv
          subst hv
          obtain ⟨e1, e2⟩ := y_pr kt
          rw [← e1, ← e2]
          exact z_zret hc hB hr (y_b_n y111) dX12_line_157
      · replace hv := y_br_t hv c76
        refine lv_aload_n hx hb dX12_line_133 rfl (lv_at hl 1 rfl) ?_
        refine lv_iconst (v := (1 : Int32)) hx hb dX12_line_134 (by decide) ?_
        obtain ⟨⟨r113, h117⟩, c112, hv⟩ := y_bi_e hv
        refine z_thI hc hB (z_runV hc hB 11 (mm_X12_bad hSK l ad o0 (1 : Int32) h c112) md_X12_bad qmX12_182 g63 (by decide) rfl rfl rfl ⟨Nat.le_of_ble_eq_true rfl, Nat.le_of_ble_eq_true rfl⟩ rfl hl.1 rfl (Nat.le_of_ble_eq_true rfl) dX12_line_135 ⟨Nat.le_of_ble_eq_true rfl, Nat.le_of_ble_eq_true rfl⟩) (fun H locs hB => ?_)
        obtain ⟨y118, hv⟩ := y_gd_e hv
        replace hv := Option.some.inj hv
        subst hv
        obtain ⟨e1, e2⟩ := y_pr kt
        rw [← e1, ← e2]
        exact z_zret hc hB hr (y_b_n y118) dX12_line_138
    · replace hv := y_br_f hv c70
      refine lv_aload_n hx hb dX12_line_25 rfl (lv_at hl 1 rfl) ?_
      obtain ⟨o119, eo119, hv⟩ := y_bi_e hv
      refine z_getR hc hB 11 7 g63 eo119 (by decide) (by decide) rfl (z_l1 hc qfX12_37) dX12_line_26 ?_
      refine lv_iconst (v := (0 : Int32)) hx hb dX12_line_29 (by decide) ?_
      obtain ⟨g120, hv⟩ := y_gd_e hv
      obtain ⟨i121, hv⟩ := y_gd_e hv
      refine z_iald hc hB g120 i121 dX12_line_30 ?_
      obtain ⟨v122, ev122, hv⟩ := y_nm_e hv
      rw [← ev122]
      refine lv_istore_n (lv' := [(2, .int v122), (1, .int r59), (0, .ref (ad o0))]) hx hb dX12_line_31 rfl hl (by decide) rfl (fun ls hl => ?_)
      refine lv_iload_n hx hb dX12_line_32 rfl (lv_at hl 0 rfl) ?_
      refine lv_bipush (v := (8 : Int32)) hx hb dX12_line_33 (by decide) ?_
      refine lv_icmp_ne (tgt := 44) hx hb dX12_line_35 (by decide) (fun c123 => ?_) (fun c123 => ?_)
      · replace hv := y_br_f hv c123
        refine lv_aload_n hx hb dX12_line_44 rfl (lv_at hl 2 rfl) ?_
        obtain ⟨h125, c124, hv⟩ := y_bi_e hv
        refine z_thV hc hB (z_runV hc hB 11 (mm_X12_go hSK l ad o0 h c124) md_X12_go qmX12_185 g63 (by decide) rfl rfl rfl ⟨Nat.le_of_ble_eq_true rfl, Nat.le_of_ble_eq_true rfl⟩ rfl hl.1 rfl (Nat.le_of_ble_eq_true rfl) dX12_line_45 ⟨Nat.le_of_ble_eq_true rfl, Nat.le_of_ble_eq_true rfl⟩) (fun H locs hB => ?_)
        refine lv_aload_n hx hb dX12_line_48 rfl (lv_at hl 2 rfl) ?_
        refine lv_bipush (v := (14 : Int32)) hx hb dX12_line_49 (by decide) ?_
        refine lv_iload_n hx hb dX12_line_51 rfl (lv_at hl 0 rfl) ?_
        refine lv_iadd hx hb dX12_line_52 ?_
        obtain ⟨g132, hv⟩ := y_gd_e hv
        obtain ⟨⟨r127, h131⟩, c126, hv⟩ := y_bi_e hv
        refine z_thI hc hB (z_runV hc hB 11 (mm_X12_fresh hSK l ad o0 ((14 : Int32) + v122) h125 c126) md_X12_fresh qmX12_223 g132 (by decide) rfl rfl rfl ⟨Nat.le_of_ble_eq_true rfl, Nat.le_of_ble_eq_true rfl⟩ rfl hl.1 rfl (Nat.le_of_ble_eq_true rfl) dX12_line_53 ⟨Nat.le_of_ble_eq_true rfl, Nat.le_of_ble_eq_true rfl⟩) (fun H locs hB => ?_)
        refine lv_if_ne (tgt := 61) hx hb dX12_line_56 (by decide) (fun c133 => ?_) (fun c133 => ?_)
        · replace hv := y_br_f hv c133
          refine lv_aload_n hx hb dX12_line_61 rfl (lv_at hl 2 rfl) ?_
          refine lv_iconst (v := (0 : Int32)) hx hb dX12_line_62 (by decide) ?_
          refine lv_bipush (v := (9 : Int32)) hx hb dX12_line_63 (by decide) ?_
          obtain ⟨g140, hv⟩ := y_gd_e hv
          obtain ⟨⟨r135, h139⟩, c134, hv⟩ := y_bi_e hv
          refine z_thI hc hB (z_runV hc hB 11 (mm_X12_takes hSK l ad o0 (0 : Int32) (9 : Int32) h131 c134) md_X12_takes qmX12_214 g140 (by decide) rfl rfl rfl ⟨Nat.le_of_ble_eq_true rfl, Nat.le_of_ble_eq_true rfl⟩ rfl hl.1 rfl (Nat.le_of_ble_eq_true rfl) dX12_line_65 ⟨Nat.le_of_ble_eq_true rfl, Nat.le_of_ble_eq_true rfl⟩) (fun H locs hB => ?_)
          refine lv_if_ne (tgt := 73) hx hb dX12_line_68 (by decide) (fun c141 => ?_) (fun c141 => ?_)
          · replace hv := y_br_f hv c141
            refine lv_aload_n hx hb dX12_line_73 rfl (lv_at hl 2 rfl) ?_
            obtain ⟨g142, hv⟩ := y_gd_e hv
            obtain ⟨o143, eo143, hv⟩ := y_bi_e hv
            refine z_getR hc hB 11 7 g142 eo143 (by decide) (by decide) rfl (z_l1 hc qfX12_37) dX12_line_74 ?_
            refine lv_bipush (v := (8 : Int32)) hx hb dX12_line_77 (by decide) ?_
            refine lv_iload_n hx hb dX12_line_79 rfl (lv_at hl 0 rfl) ?_
            refine lv_iadd hx hb dX12_line_80 ?_
            refine lv_aload_n hx hb dX12_line_81 rfl (lv_at hl 2 rfl) ?_
            refine z_getI hc hB 11 18 g142 (by decide) (by decide) rfl (z_l1 hc qfX12_192) dX12_line_82 ?_
            obtain ⟨g144, hv⟩ := y_gd_e hv
            obtain ⟨i145, hv⟩ := y_gd_e hv
            obtain ⟨h146, eh146, hv⟩ := y_nm_e hv
            refine y_iast hc hB eh146 g144 i145 dX12_line_85 (fun H locs hB => ?_)
            refine lv_aload_n hx hb dX12_line_86 rfl (lv_at hl 2 rfl) ?_
            refine lv_iconst (v := (0 : Int32)) hx hb dX12_line_87 (by decide) ?_
            refine lv_bipush (v := (9 : Int32)) hx hb dX12_line_88 (by decide) ?_
            obtain ⟨⟨r148, h152⟩, c147, hv⟩ := y_bi_e hv
            refine z_thI hc hB (z_runV hc hB 11 (mm_X12_takes hSK l ad o0 (0 : Int32) (9 : Int32) h146 c147) md_X12_takes qmX12_214 (by rw [eh146]; exact g142) (by decide) rfl rfl rfl ⟨Nat.le_of_ble_eq_true rfl, Nat.le_of_ble_eq_true rfl⟩ rfl hl.1 rfl (Nat.le_of_ble_eq_true rfl) dX12_line_90 ⟨Nat.le_of_ble_eq_true rfl, Nat.le_of_ble_eq_true rfl⟩) (fun H locs hB => ?_)
            refine lv_if_ne (tgt := 98) hx hb dX12_line_93 (by decide) (fun c153 => ?_) (fun c153 => ?_)
            · replace hv := y_br_f hv c153
              refine lv_aload_n hx hb dX12_line_98 rfl (lv_at hl 2 rfl) ?_
              obtain ⟨g154, hv⟩ := y_gd_e hv
              obtain ⟨o155, eo155, hv⟩ := y_bi_e hv
              refine z_getR hc hB 11 7 g154 eo155 (by decide) (by decide) rfl (z_l1 hc qfX12_37) dX12_line_99 ?_
              refine lv_bipush (v := (16 : Int32)) hx hb dX12_line_102 (by decide) ?_
              refine lv_iload_n hx hb dX12_line_104 rfl (lv_at hl 0 rfl) ?_
              refine lv_iadd hx hb dX12_line_105 ?_
              refine lv_aload_n hx hb dX12_line_106 rfl (lv_at hl 2 rfl) ?_
              refine z_getI hc hB 11 18 g154 (by decide) (by decide) rfl (z_l1 hc qfX12_192) dX12_line_107 ?_
              obtain ⟨g156, hv⟩ := y_gd_e hv
              obtain ⟨i157, hv⟩ := y_gd_e hv
              obtain ⟨h158, eh158, hv⟩ := y_nm_e hv
              refine y_iast hc hB eh158 g156 i157 dX12_line_110 (fun H locs hB => ?_)
              refine lv_aload_n hx hb dX12_line_111 rfl (lv_at hl 2 rfl) ?_
              refine z_getR hc hB 11 7 (by rw [eh158]; exact g154) (by rw [eh158]; exact eo155) (by decide) (by decide) rfl (z_l1 hc qfX12_37) dX12_line_112 ?_
              refine lv_iconst (v := (0 : Int32)) hx hb dX12_line_115 (by decide) ?_
              refine lv_dup2_11 hx hb dX12_line_116 rfl rfl ?_
              obtain ⟨i159, hv⟩ := y_gd_e hv
              refine z_iald hc hB (by rw [eh158]; exact g156) i159 dX12_line_117 ?_
              refine lv_iconst (v := (1 : Int32)) hx hb dX12_line_118 (by decide) ?_
              refine lv_iadd hx hb dX12_line_119 ?_
              obtain ⟨i160, hv⟩ := y_gd_e hv
              obtain ⟨h161, eh161, hv⟩ := y_nm_e hv
              refine y_iast hc hB eh161 (by rw [eh158]; exact g156) i160 dX12_line_120 (fun H locs hB => ?_)
              refine lv_iconst (v := (1 : Int32)) hx hb dX12_line_121 (by decide) ?_
              replace hv := Option.some.inj hv
              subst hv
              obtain ⟨e1, e2⟩ := y_pr kt
              rw [← e1, ← e2]
              exact z_zret hc hB hr rfl dX12_line_122
            · replace hv := y_br_t hv c153
              refine lv_iconst (v := (0 : Int32)) hx hb dX12_line_96 (by decide) ?_
              replace hv := Option.some.inj hv
              subst hv
              obtain ⟨e1, e2⟩ := y_pr kt
              rw [← e1, ← e2]
              exact z_zret hc hB hr rfl dX12_line_97
          · replace hv := y_br_t hv c141
            refine lv_iconst (v := (0 : Int32)) hx hb dX12_line_71 (by decide) ?_
            replace hv := Option.some.inj hv
            subst hv
            obtain ⟨e1, e2⟩ := y_pr kt
            rw [← e1, ← e2]
            exact z_zret hc hB hr rfl dX12_line_72
        · replace hv := y_br_t hv c133
          refine lv_iconst (v := (0 : Int32)) hx hb dX12_line_59 (by decide) ?_
          replace hv := Option.some.inj hv
          subst hv
          obtain ⟨e1, e2⟩ := y_pr kt
          rw [← e1, ← e2]
          exact z_zret hc hB hr rfl dX12_line_60
      · replace hv := y_br_t hv c123
        refine lv_aload_n hx hb dX12_line_38 rfl (lv_at hl 2 rfl) ?_
        refine lv_iconst (v := (4 : Int32)) hx hb dX12_line_39 (by decide) ?_
        obtain ⟨⟨r163, h167⟩, c162, hv⟩ := y_bi_e hv
        refine z_thI hc hB (z_runV hc hB 11 (mm_X12_bad hSK l ad o0 (4 : Int32) h c162) md_X12_bad qmX12_182 g63 (by decide) rfl rfl rfl ⟨Nat.le_of_ble_eq_true rfl, Nat.le_of_ble_eq_true rfl⟩ rfl hl.1 rfl (Nat.le_of_ble_eq_true rfl) dX12_line_40 ⟨Nat.le_of_ble_eq_true rfl, Nat.le_of_ble_eq_true rfl⟩) (fun H locs hB => ?_)
        obtain ⟨y168, hv⟩ := y_gd_e hv
        replace hv := Option.some.inj hv
        subst hv
        obtain ⟨e1, e2⟩ := y_pr kt
        rw [← e1, ← e2]
        exact z_zret hc hB hr (y_b_n y168) dX12_line_43
  · replace hv := y_br_f hv c64
    refine lv_aload_n hx hb dX12_line_9 rfl (lv_at hl 1 rfl) ?_
    refine lv_iload_n hx hb dX12_line_10 rfl (lv_at hl 0 rfl) ?_
    obtain ⟨⟨r170, h174⟩, c169, hv⟩ := y_bi_e hv
    refine z_thI hc hB (z_runV hc hB 11 (mm_X12_readOnce hSK l ad o0 r59 h c169) md_X12_readOnce qmX12_220 g63 (by decide) rfl rfl rfl ⟨Nat.le_of_ble_eq_true rfl, Nat.le_of_ble_eq_true rfl⟩ rfl hl.1 rfl (Nat.le_of_ble_eq_true rfl) dX12_line_11 ⟨Nat.le_of_ble_eq_true rfl, Nat.le_of_ble_eq_true rfl⟩) (fun H locs hB => ?_)
    obtain ⟨y175, hv⟩ := y_gd_e hv
    replace hv := Option.some.inj hv
    subst hv
    obtain ⟨e1, e2⟩ := y_pr kt
    rw [← e1, ← e2]
    exact z_zret hc hB hr (y_b_n y175) dX12_line_14
theorem qfX12_238 : Cond.fieldLink RX12 238 "DreamTestsModel" "undoMany" "I" ∈ z_ws := List.mem_filter.mpr ⟨List.mem_append_right _ (List.mem_of_getElem? (i := 1324) (by decide +kernel)), rfl⟩
theorem qfX12_229 : Cond.fieldLink RX12 229 "DreamTestsModel" "lines" "I" ∈ z_ws := List.mem_filter.mpr ⟨List.mem_append_right _ (List.mem_of_getElem? (i := 1319) (by decide +kernel)), rfl⟩
theorem qfX12_33 : Cond.fieldLink RX12 33 "DreamTestsModel" "s" "[I" ∈ z_ws := List.mem_filter.mpr ⟨List.mem_append_right _ (List.mem_of_getElem? (i := 1306) (by decide +kernel)), rfl⟩
theorem qmX12_232 : Cond.methodLink RX12 232 yX12_line ∈ z_ws := List.mem_filter.mpr ⟨List.mem_append_right _ (List.mem_of_getElem? (i := 1494) (by decide +kernel)), rfl⟩
theorem qc_X12_line : Cond.code yX12_line cX12_line 5 (some .boolean) ∈ z_ws := List.mem_filter.mpr ⟨List.mem_append_right _ (List.mem_of_getElem? (i := 1497) (by decide +kernel)), rfl⟩
theorem qi_X12_line : Cond.instanceMethod yX12_line ∈ z_ws := List.mem_filter.mpr ⟨List.mem_append_right _ (List.mem_of_getElem? (i := 1496) (by decide +kernel)), rfl⟩
theorem qs_X12_line : Cond.selects RX12 yX12_line yX12_line ∈ z_ws := List.mem_filter.mpr ⟨List.mem_append_left _ (List.mem_of_getElem? (i := 37) (by decide +kernel)), rfl⟩
theorem md_X12_line : z_mdV yX12_line cX12_line 5 (some .boolean) 0 := ⟨⟨qn_RX12, qc_X12_line, ⟨by decide +kernel, by decide +kernel, by decide +kernel⟩⟩, qi_X12_line, qs_X12_line⟩
theorem qmX12_235 : Cond.methodLink RX12 235 yX12_sign ∈ z_ws := List.mem_filter.mpr ⟨List.mem_append_right _ (List.mem_of_getElem? (i := 1540) (by decide +kernel)), rfl⟩
theorem qc_X12_sign : Cond.code yX12_sign cX12_sign 2 (some .boolean) ∈ z_ws := List.mem_filter.mpr ⟨List.mem_append_right _ (List.mem_of_getElem? (i := 1543) (by decide +kernel)), rfl⟩
theorem qi_X12_sign : Cond.instanceMethod yX12_sign ∈ z_ws := List.mem_filter.mpr ⟨List.mem_append_right _ (List.mem_of_getElem? (i := 1542) (by decide +kernel)), rfl⟩
theorem qs_X12_sign : Cond.selects RX12 yX12_sign yX12_sign ∈ z_ws := List.mem_filter.mpr ⟨List.mem_append_left _ (List.mem_of_getElem? (i := 47) (by decide +kernel)), rfl⟩
theorem md_X12_sign : z_mdV yX12_sign cX12_sign 2 (some .boolean) 1 := ⟨⟨qn_RX12, qc_X12_sign, ⟨by decide +kernel, by decide +kernel, by decide +kernel⟩⟩, qi_X12_sign, qs_X12_sign⟩
theorem qmX12_226 : Cond.methodLink RX12 226 yX12_taken ∈ z_ws := List.mem_filter.mpr ⟨List.mem_append_right _ (List.mem_of_getElem? (i := 1476) (by decide +kernel)), rfl⟩
theorem qc_X12_taken : Cond.code yX12_taken cX12_taken 2 none ∈ z_ws := List.mem_filter.mpr ⟨List.mem_append_right _ (List.mem_of_getElem? (i := 1479) (by decide +kernel)), rfl⟩
theorem qi_X12_taken : Cond.instanceMethod yX12_taken ∈ z_ws := List.mem_filter.mpr ⟨List.mem_append_right _ (List.mem_of_getElem? (i := 1478) (by decide +kernel)), rfl⟩
theorem qs_X12_taken : Cond.selects RX12 yX12_taken yX12_taken ∈ z_ws := List.mem_filter.mpr ⟨List.mem_append_left _ (List.mem_of_getElem? (i := 34) (by decide +kernel)), rfl⟩
theorem md_X12_taken : z_mdV yX12_taken cX12_taken 2 none 1 := ⟨⟨qn_RX12, qc_X12_taken, ⟨by decide +kernel, by decide +kernel, by decide +kernel⟩⟩, qi_X12_taken, qs_X12_taken⟩
theorem qmX12_143 : Cond.methodLink RX12 143 yX12_clears ∈ z_ws := List.mem_filter.mpr ⟨List.mem_append_right _ (List.mem_of_getElem? (i := 1296) (by decide +kernel)), rfl⟩
theorem qc_X12_clears : Cond.code yX12_clears cX12_clears 2 none ∈ z_ws := List.mem_filter.mpr ⟨List.mem_append_right _ (List.mem_of_getElem? (i := 1299) (by decide +kernel)), rfl⟩
theorem qi_X12_clears : Cond.instanceMethod yX12_clears ∈ z_ws := List.mem_filter.mpr ⟨List.mem_append_right _ (List.mem_of_getElem? (i := 1298) (by decide +kernel)), rfl⟩
theorem qs_X12_clears : Cond.selects RX12 yX12_clears yX12_clears ∈ z_ws := List.mem_filter.mpr ⟨List.mem_append_left _ (List.mem_of_getElem? (i := 33) (by decide +kernel)), rfl⟩
theorem md_X12_clears : z_mdV yX12_clears cX12_clears 2 none 0 := ⟨⟨qn_RX12, qc_X12_clears, ⟨by decide +kernel, by decide +kernel, by decide +kernel⟩⟩, qi_X12_clears, qs_X12_clears⟩
theorem dX12_book_0 : decode cX12_book 0 = .ok (.aload_n 0, 1) := by decide +kernel
theorem dX12_book_1 : decode cX12_book 1 = .ok (.iconst 0, 1) := by decide +kernel
theorem dX12_book_2 : decode cX12_book 2 = .ok (.putfield 1, 3) := by decide +kernel
theorem dX12_book_5 : decode cX12_book 5 = .ok (.aload_n 0, 1) := by decide +kernel
theorem dX12_book_6 : decode cX12_book 6 = .ok (.sipush 900, 3) := by decide +kernel
theorem dX12_book_9 : decode cX12_book 9 = .ok (.invokevirtual 226, 3) := by decide +kernel
theorem dX12_book_12 : decode cX12_book 12 = .ok (.aload_n 0, 1) := by decide +kernel
theorem dX12_book_13 : decode cX12_book 13 = .ok (.iconst 0, 1) := by decide +kernel
theorem dX12_book_14 : decode cX12_book 14 = .ok (.putfield 173, 3) := by decide +kernel
theorem dX12_book_17 : decode cX12_book 17 = .ok (.aload_n 0, 1) := by decide +kernel
theorem dX12_book_18 : decode cX12_book 18 = .ok (.iconst 0, 1) := by decide +kernel
theorem dX12_book_19 : decode cX12_book 19 = .ok (.putfield 229, 3) := by decide +kernel
theorem dX12_book_22 : decode cX12_book 22 = .ok (.aload_n 0, 1) := by decide +kernel
theorem dX12_book_23 : decode cX12_book 23 = .ok (.iconst 0, 1) := by decide +kernel
theorem dX12_book_24 : decode cX12_book 24 = .ok (.putfield 207, 3) := by decide +kernel
theorem dX12_book_27 : decode cX12_book 27 = .ok (.aload_n 0, 1) := by decide +kernel
theorem dX12_book_28 : decode cX12_book 28 = .ok (.invokevirtual 143, 3) := by decide +kernel
theorem dX12_book_31 : decode cX12_book 31 = .ok (.aload_n 0, 1) := by decide +kernel
theorem dX12_book_32 : decode cX12_book 32 = .ok (.invokevirtual 185, 3) := by decide +kernel
theorem dX12_book_35 : decode cX12_book 35 = .ok (.aload_n 0, 1) := by decide +kernel
theorem dX12_book_36 : decode cX12_book 36 = .ok (.getfield 156, 3) := by decide +kernel
theorem dX12_book_39 : decode cX12_book 39 = .ok (.ifCond .eq 39, 3) := by decide +kernel
theorem dX12_book_42 : decode cX12_book 42 = .ok (.aload_n 0, 1) := by decide +kernel
theorem dX12_book_43 : decode cX12_book 43 = .ok (.invokevirtual 232, 3) := by decide +kernel
theorem dX12_book_46 : decode cX12_book 46 = .ok (.ifCond .eq 12, 3) := by decide +kernel
theorem dX12_book_49 : decode cX12_book 49 = .ok (.aload_n 0, 1) := by decide +kernel
theorem dX12_book_50 : decode cX12_book 50 = .ok (.bipush 59, 2) := by decide +kernel
theorem dX12_book_52 : decode cX12_book 52 = .ok (.invokevirtual 235, 3) := by decide +kernel
theorem dX12_book_55 : decode cX12_book 55 = .ok (.ifCond .ne 10, 3) := by decide +kernel
theorem dX12_book_58 : decode cX12_book 58 = .ok (.iconst (-1), 1) := by decide +kernel
theorem dX12_book_59 : decode cX12_book 59 = .ok (.aload_n 0, 1) := by decide +kernel
theorem dX12_book_60 : decode cX12_book 60 = .ok (.getfield 176, 3) := by decide +kernel
theorem dX12_book_63 : decode cX12_book 63 = .ok (.isub, 1) := by decide +kernel
theorem dX12_book_64 : decode cX12_book 64 = .ok (.ireturn, 1) := by decide +kernel
theorem dX12_book_65 : decode cX12_book 65 = .ok (.aload_n 0, 1) := by decide +kernel
theorem dX12_book_66 : decode cX12_book 66 = .ok (.dup, 1) := by decide +kernel
theorem dX12_book_67 : decode cX12_book 67 = .ok (.getfield 229, 3) := by decide +kernel
theorem dX12_book_70 : decode cX12_book 70 = .ok (.iconst 1, 1) := by decide +kernel
theorem dX12_book_71 : decode cX12_book 71 = .ok (.iadd, 1) := by decide +kernel
theorem dX12_book_72 : decode cX12_book 72 = .ok (.putfield 229, 3) := by decide +kernel
theorem dX12_book_75 : decode cX12_book 75 = .ok (.goto (-40), 3) := by decide +kernel
theorem dX12_book_78 : decode cX12_book 78 = .ok (.iconst 0, 1) := by decide +kernel
theorem dX12_book_79 : decode cX12_book 79 = .ok (.istore_n 1, 1) := by decide +kernel
theorem dX12_book_80 : decode cX12_book 80 = .ok (.iload_n 1, 1) := by decide +kernel
theorem dX12_book_81 : decode cX12_book 81 = .ok (.sipush 357, 3) := by decide +kernel
theorem dX12_book_84 : decode cX12_book 84 = .ok (.if_icmp .ge 31, 3) := by decide +kernel
theorem dX12_book_87 : decode cX12_book 87 = .ok (.aload_n 0, 1) := by decide +kernel
theorem dX12_book_88 : decode cX12_book 88 = .ok (.getfield 33, 3) := by decide +kernel
theorem dX12_book_91 : decode cX12_book 91 = .ok (.iload_n 1, 1) := by decide +kernel
theorem dX12_book_92 : decode cX12_book 92 = .ok (.iload_n 1, 1) := by decide +kernel
theorem dX12_book_93 : decode cX12_book 93 = .ok (.bipush 36, 2) := by decide +kernel
theorem dX12_book_95 : decode cX12_book 95 = .ok (.if_icmp .ge 12, 3) := by decide +kernel
theorem dX12_book_98 : decode cX12_book 98 = .ok (.aload_n 0, 1) := by decide +kernel
theorem dX12_book_99 : decode cX12_book 99 = .ok (.getfield 37, 3) := by decide +kernel
theorem dX12_book_102 : decode cX12_book 102 = .ok (.iload_n 1, 1) := by decide +kernel
theorem dX12_book_103 : decode cX12_book 103 = .ok (.iaload, 1) := by decide +kernel
theorem dX12_book_104 : decode cX12_book 104 = .ok (.goto 4, 3) := by decide +kernel
theorem dX12_book_107 : decode cX12_book 107 = .ok (.iconst 0, 1) := by decide +kernel
theorem dX12_book_108 : decode cX12_book 108 = .ok (.iastore, 1) := by decide +kernel
theorem dX12_book_109 : decode cX12_book 109 = .ok (.iinc 1 1, 3) := by decide +kernel
theorem dX12_book_112 : decode cX12_book 112 = .ok (.goto (-32), 3) := by decide +kernel
theorem dX12_book_115 : decode cX12_book 115 = .ok (.iconst 0, 1) := by decide +kernel
theorem dX12_book_116 : decode cX12_book 116 = .ok (.istore_n 1, 1) := by decide +kernel
theorem dX12_book_117 : decode cX12_book 117 = .ok (.iload_n 1, 1) := by decide +kernel
theorem dX12_book_118 : decode cX12_book 118 = .ok (.bipush 14, 2) := by decide +kernel
theorem dX12_book_120 : decode cX12_book 120 = .ok (.if_icmp .ge 24, 3) := by decide +kernel
theorem dX12_book_123 : decode cX12_book 123 = .ok (.aload_n 0, 1) := by decide +kernel
theorem dX12_book_124 : decode cX12_book 124 = .ok (.getfield 43, 3) := by decide +kernel
theorem dX12_book_127 : decode cX12_book 127 = .ok (.iload_n 1, 1) := by decide +kernel
theorem dX12_book_128 : decode cX12_book 128 = .ok (.aload_n 0, 1) := by decide +kernel
theorem dX12_book_129 : decode cX12_book 129 = .ok (.getfield 43, 3) := by decide +kernel
theorem dX12_book_132 : decode cX12_book 132 = .ok (.bipush 14, 2) := by decide +kernel
theorem dX12_book_134 : decode cX12_book 134 = .ok (.iload_n 1, 1) := by decide +kernel
theorem dX12_book_135 : decode cX12_book 135 = .ok (.iadd, 1) := by decide +kernel
theorem dX12_book_136 : decode cX12_book 136 = .ok (.laload, 1) := by decide +kernel
theorem dX12_book_137 : decode cX12_book 137 = .ok (.lastore, 1) := by decide +kernel
theorem dX12_book_138 : decode cX12_book 138 = .ok (.iinc 1 1, 3) := by decide +kernel
theorem dX12_book_141 : decode cX12_book 141 = .ok (.goto (-24), 3) := by decide +kernel
theorem dX12_book_144 : decode cX12_book 144 = .ok (.aload_n 0, 1) := by decide +kernel
theorem dX12_book_145 : decode cX12_book 145 = .ok (.iconst 0, 1) := by decide +kernel
theorem dX12_book_146 : decode cX12_book 146 = .ok (.putfield 238, 3) := by decide +kernel
theorem dX12_book_149 : decode cX12_book 149 = .ok (.aload_n 0, 1) := by decide +kernel
theorem dX12_book_150 : decode cX12_book 150 = .ok (.getfield 229, 3) := by decide +kernel
theorem dX12_book_153 : decode cX12_book 153 = .ok (.ireturn, 1) := by decide +kernel
abbrev rm_X12_book : Room := { frames := 5, cells := 0, slots := 0, locals := 110 }
noncomputable def fX12_book_b58 (o0 : Nat) (h : z_T) : Option (Int32 × z_T) :=
  y_gd (z_ok h o0 11) <|
  some (((-1 : Int32) - (z_I h o0 16)), h)
noncomputable def fX12_book_b117_i (o0 : Nat) (x1 : Int32) (h : z_T) : Option ((Int32 × z_T) ⊕ (Int32 × z_T)) :=
  y_br ((14 : Int32) ≤ x1)
    (y_mp <|
    y_gd (z_ok h o0 11) <|
    y_nm (z_sI h o0 24 (0 : Int32)) fun h5 =>
    some ((z_I h5 o0 19), h5))
    (y_gd (z_ok h o0 11) <|
    y_bi (z_R h o0 9) fun o7 =>
    y_gd (z_ok h o7 14) <|
    y_gd (z_ix ((14 : Int32) + x1) (z_N h o7)) <|
    y_gd (z_ix x1 (z_N h o7)) <|
    y_nm (z_sL h o7 x1.toNatClampNeg (z_L h o7 ((14 : Int32) + x1).toNatClampNeg)) fun h11 =>
    y_nm (x1 + 1) fun v12 =>
    some (.inl (v12, h11)))
noncomputable def fX12_book_b117 (o0 : Nat) (x1 : Int32) (h : z_T) : Option (Int32 × z_T) := y_lp (fun q : Int32 × z_T => fX12_book_b117_i o0 q.1 q.2) (x1, h)
noncomputable def fX12_book_b108 (o0 : Nat) (x1 : Int32) (s0 : Nat) (s1 : Int32) (s2 : Int32) (h : z_T) : Option ((Int32 × z_T) ⊕ (Int32 × z_T)) :=
  y_gd (z_ok h s0 13) <|
  y_gd (z_ix s1 (z_N h s0)) <|
  y_nm (z_sI h s0 s1.toNatClampNeg s2) fun h15 =>
  y_nm (x1 + 1) fun v16 =>
  some (.inl (v16, h15))
noncomputable def fX12_book_b80_i (o0 : Nat) (x1 : Int32) (h : z_T) : Option ((Int32 × z_T) ⊕ (Int32 × z_T)) :=
  y_br ((357 : Int32) ≤ x1)
    (y_mp <|
    fX12_book_b117 o0 (0 : Int32) h)
    (y_gd (z_ok h o0 11) <|
    y_bi (z_R h o0 6) fun o20 =>
    y_br ((36 : Int32) ≤ x1)
      (fX12_book_b108 o0 x1 o20 x1 (0 : Int32) h)
      (y_bi (z_R h o0 7) fun o22 =>
      y_gd (z_ok h o22 13) <|
      y_gd (z_ix x1 (z_N h o22)) <|
      fX12_book_b108 o0 x1 o20 x1 (z_I h o22 x1.toNatClampNeg) h))
noncomputable def fX12_book_b80 (o0 : Nat) (x1 : Int32) (h : z_T) : Option (Int32 × z_T) := y_lp (fun q : Int32 × z_T => fX12_book_b80_i o0 q.1 q.2) (x1, h)
noncomputable def fX12_book_b35_i (o0 : Nat) (h : z_T) : Option ((z_T) ⊕ (Int32 × z_T)) :=
  y_gd (z_ok h o0 11) <|
  y_br ((z_I h o0 11) = 0)
    (y_mp <|
    fX12_book_b80 o0 (0 : Int32) h)
    (y_bi (fX12_line o0 h) fun ⟨r29, h33⟩ =>
    y_br (r29 = 0)
      (y_mp <|
      fX12_book_b58 o0 h33)
      (y_gd (z_ok h33 o0 11) <|
      y_bi (fX12_sign o0 (59 : Int32) h33) fun ⟨r37, h41⟩ =>
      y_br (r37 = 0)
        (y_mp <|
        fX12_book_b58 o0 h41)
        (y_gd (z_ok h41 o0 11) <|
        y_nm (z_sI h41 o0 19 ((z_I h41 o0 19) + (1 : Int32))) fun h45 =>
        some (.inl (h45)))))
noncomputable def fX12_book_b35 (o0 : Nat) (h : z_T) : Option (Int32 × z_T) := y_lp (fun q : z_T => fX12_book_b35_i o0 q) (h)
noncomputable def fX12_book (o0 : Nat) (h : z_T) : Option (Int32 × z_T) :=
  y_gd (z_ok h o0 11) <|
  y_nm (z_sI h o0 0 (0 : Int32)) fun h48 =>
  y_bi (fX12_taken o0 (900 : Int32) h48) fun h50 =>
  y_gd (z_ok h50 o0 11) <|
  y_nm (z_sI h50 o0 15 (0 : Int32)) fun h52 =>
  y_nm (z_sI h52 o0 19 (0 : Int32)) fun h53 =>
  y_nm (z_sI h53 o0 20 (0 : Int32)) fun h54 =>
  y_bi (fX12_clears o0 h54) fun h56 =>
  y_gd (z_ok h56 o0 11) <|
  y_bi (fX12_go o0 h56) fun h58 =>
  fX12_book_b35 o0 h58
set_option maxHeartbeats 4000000 in
set_option maxRecDepth 100000 in
theorem mm_X12_book {G : z_Gt} {S : State → Prop} (hSK : z_SK S) (l : Launch) (ad : Nat → Nat) (o0 : Nat) (h : z_T) {r0 : Int32} {h9 : z_T} (hv : fX12_book o0 h = some (r0, h9)) : z_Mi G S l yX12_book cX12_book 2 (.int) rm_X12_book 0 0 [.ref (ad o0)] ad h h9 r0 := by
  refine z_ofW hSK (by decide) (Nat.le_of_ble_eq_true rfl) ?_
  intro p e s m args below meth c ls hc hr hnm hB hl
  have hx := hc.1.1
  have hb := hc.1.2.1
  have hown := hc.1.2.2.2.1
  have hts := hc.1.2.2.2.2
  replace hc : z_C G S ad (z_n h) p m c cX12_book 2 s args RX12 meth := hc
  replace hown : s.vm.findClass RX12 = some m.cls := hown
  replace hl : lv_has ls 2 [(0, .ref (ad o0))] := hl
  show W p l e rm_X12_book s m args below meth c s.heap [] 0 0 (MQ below (z_Qi G ad h9 (z_n h) s.heap.size r0) args s 0 0 (z_A ad (z_n h) s.heap.size)) (F0 m 0 ls [])
  obtain ⟨rs, kt⟩ : ∃ rs : Int32 × z_T, rs = (r0, h9) := ⟨_, rfl⟩
  generalize hn0 : z_n h = n0 at hc hB ⊢
  have b58 : ∀ (h : z_T) (H : Heap) (locs : List Loc) (ls : Array Slot), z_B G ad n0 s h H locs → lv_has ls 2 [(0, .ref (ad o0))] → ∀ w, fX12_book_b58 o0 h = some w → w = (r0, h9) → W p l e rm_X12_book s m args below meth c H locs 0 0 (MQ below (z_Qi G ad h9 n0 s.heap.size r0) args s 0 0 (z_A ad n0 s.heap.size)) (F0 m 58 ls []) := by
    intro h H locs ls hB hl w hv kb
    refine lv_iconst (v := (-1 : Int32)) hx hb dX12_book_58 (by decide) ?_
    refine lv_aload_n hx hb dX12_book_59 rfl (lv_at hl 0 rfl) ?_
    obtain ⟨g1, hv⟩ := y_gd_e hv
    refine z_getI hc hB 11 16 g1 (by decide) (by decide) rfl (z_l1 hc qfX12_176) dX12_book_60 ?_
    refine lv_isub hx hb dX12_book_63 ?_
    replace hv := Option.some.inj hv
    subst hv
    obtain ⟨e1, e2⟩ := y_pr kb
    rw [← e1, ← e2]
    exact z_iret hc hB hr dX12_book_64
  have L117 : ∀ (nn117 : Nat) (x1 : Int32) (h : z_T) (H : Heap) (locs : List Loc) (ls : Array Slot), z_B G ad n0 s h H locs → lv_has ls 2 [(0, .ref (ad o0)), (1, .int x1)] → ∀ vv117, y_lpN (fun q : Int32 × z_T => fX12_book_b117_i o0 q.1 q.2) nn117 (x1, h) = some vv117 → vv117 = (r0, h9) → W p l e rm_X12_book s m args below meth c H locs 0 0 (MQ below (z_Qi G ad h9 n0 s.heap.size r0) args s 0 0 (z_A ad n0 s.heap.size)) (F0 m 117 ls []) := by
    intro nn117
    induction nn117 with
    | zero => intro x1 h H locs ls hB hl vv117 hv kv117; exact absurd hv (fun q => y_lpN_0 q)
    | succ nn117 ih117 =>
      intro x1 h H locs ls hB hl vv117 hv kv117
      obtain ⟨w, hq, kw117⟩ := y_lpN_e hv
      clear hv
      have hv : fX12_book_b117_i o0 x1 h = some w := hq
      clear hq
      refine lv_iload_n hx hb dX12_book_117 rfl (lv_at hl 1 rfl) ?_
      refine lv_bipush (v := (14 : Int32)) hx hb dX12_book_118 (by decide) ?_
      refine lv_icmp_ge (tgt := 144) hx hb dX12_book_120 (by decide) (fun c2 => ?_) (fun c2 => ?_)
      · replace hv := y_br_t hv c2
        obtain ⟨t3, hq, ew⟩ := y_mp_e hv
        clear hv; subst ew
        replace kw117 : t3 = _ := kw117
        subst kw117
        have hv := hq
        clear hq
        refine lv_aload_n hx hb dX12_book_144 rfl (lv_at hl 0 rfl) ?_
        refine lv_iconst (v := (0 : Int32)) hx hb dX12_book_145 (by decide) ?_
        obtain ⟨g4, hv⟩ := y_gd_e hv
        obtain ⟨h5, eh5, hv⟩ := y_nm_e hv
        refine y_putI hc hB 11 24 eh5 g4 (z_l1 hc qfX12_238) dX12_book_146 (by decide) (by decide) rfl rfl rfl rfl (fun H locs hB => ?_)
        refine lv_aload_n hx hb dX12_book_149 rfl (lv_at hl 0 rfl) ?_
        refine z_getI hc hB 11 19 (by rw [eh5]; exact g4) (by decide) (by decide) rfl (z_l1 hc qfX12_229) dX12_book_150 ?_
        replace hv := Option.some.inj hv
        subst hv
        obtain ⟨e1, e2⟩ := y_pr kv117
        rw [← e1, ← e2]
        exact z_iret hc hB hr dX12_book_153
      · replace hv := y_br_f hv c2
        refine lv_aload_n hx hb dX12_book_123 rfl (lv_at hl 0 rfl) ?_
        obtain ⟨g6, hv⟩ := y_gd_e hv
        obtain ⟨o7, eo7, hv⟩ := y_bi_e hv
        refine z_getR hc hB 11 9 g6 eo7 (by decide) (by decide) rfl (z_l1 hc qfX12_43) dX12_book_124 ?_
        refine lv_iload_n hx hb dX12_book_127 rfl (lv_at hl 1 rfl) ?_
        refine lv_aload_n hx hb dX12_book_128 rfl (lv_at hl 0 rfl) ?_
        refine z_getR hc hB 11 9 g6 eo7 (by decide) (by decide) rfl (z_l1 hc qfX12_43) dX12_book_129 ?_
        refine lv_bipush (v := (14 : Int32)) hx hb dX12_book_132 (by decide) ?_
        refine lv_iload_n hx hb dX12_book_134 rfl (lv_at hl 1 rfl) ?_
        refine lv_iadd hx hb dX12_book_135 ?_
        obtain ⟨g8, hv⟩ := y_gd_e hv
        obtain ⟨i9, hv⟩ := y_gd_e hv
        refine z_lald hc hB g8 i9 dX12_book_136 ?_
        obtain ⟨i10, hv⟩ := y_gd_e hv
        obtain ⟨h11, eh11, hv⟩ := y_nm_e hv
        refine y_last hc hB eh11 g8 i10 dX12_book_137 (fun H locs hB => ?_)
        obtain ⟨v12, ev12, hv⟩ := y_nm_e hv
        refine lv_iinc (v := v12) (lv' := [(1, .int v12), (0, .ref (ad o0))]) hx hb dX12_book_138 hl (k := 1) rfl (by rw [ev12]; rfl) (by decide) rfl (fun ls hl => ?_)
        refine lv_goto (tgt := 117) hx hb dX12_book_141 (by decide) ?_
        replace hv := Option.some.inj hv
        subst hv
        exact ih117 v12 h11 _ _ _ hB (lv_sub hl [1, 0] rfl) _ kw117 kv117
  have L80 : ∀ (nn80 : Nat) (x1 : Int32) (h : z_T) (H : Heap) (locs : List Loc) (ls : Array Slot), z_B G ad n0 s h H locs → lv_has ls 2 [(0, .ref (ad o0)), (1, .int x1)] → ∀ vv80, y_lpN (fun q : Int32 × z_T => fX12_book_b80_i o0 q.1 q.2) nn80 (x1, h) = some vv80 → vv80 = (r0, h9) → W p l e rm_X12_book s m args below meth c H locs 0 0 (MQ below (z_Qi G ad h9 n0 s.heap.size r0) args s 0 0 (z_A ad n0 s.heap.size)) (F0 m 80 ls []) := by
    intro nn80
    induction nn80 with
    | zero => intro x1 h H locs ls hB hl vv80 hv kv80; exact absurd hv (fun q => y_lpN_0 q)
    | succ nn80 ih80 =>
      intro x1 h H locs ls hB hl vv80 hv kv80
      obtain ⟨w, hq, kw80⟩ := y_lpN_e hv
      clear hv
      have hv : fX12_book_b80_i o0 x1 h = some w := hq
      clear hq
      have b108 : ∀ (x1 : Int32) (s0 : Nat) (s1 : Int32) (s2 : Int32) (h : z_T) (H : Heap) (locs : List Loc) (ls : Array Slot), z_B G ad n0 s h H locs → lv_has ls 2 [(0, .ref (ad o0)), (1, .int x1)] → ∀ w, fX12_book_b108 o0 x1 s0 s1 s2 h = some w → y_lq (fun q : Int32 × z_T => fX12_book_b80_i o0 q.1 q.2) nn80 vv80 w → W p l e rm_X12_book s m args below meth c H locs 0 0 (MQ below (z_Qi G ad h9 n0 s.heap.size r0) args s 0 0 (z_A ad n0 s.heap.size)) (F0 m 108 ls [.int s2, .int s1, .ref (ad s0)]) := by
        intro x1 s0 s1 s2 h H locs ls hB hl w hv kw80
        obtain ⟨g13, hv⟩ := y_gd_e hv
        obtain ⟨i14, hv⟩ := y_gd_e hv
        obtain ⟨h15, eh15, hv⟩ := y_nm_e hv
        refine y_iast hc hB eh15 g13 i14 dX12_book_108 (fun H locs hB => ?_)
        obtain ⟨v16, ev16, hv⟩ := y_nm_e hv
        refine lv_iinc (v := v16) (lv' := [(1, .int v16), (0, .ref (ad o0))]) hx hb dX12_book_109 hl (k := 1) rfl (by rw [ev16]; rfl) (by decide) rfl (fun ls hl => ?_)
        refine lv_goto (tgt := 80) hx hb dX12_book_112 (by decide) ?_
        replace hv := Option.some.inj hv
        subst hv
        exact ih80 v16 h15 _ _ _ hB (lv_sub hl [1, 0] rfl) _ kw80 kv80
      refine lv_iload_n hx hb dX12_book_80 rfl (lv_at hl 1 rfl) ?_
      refine lv_sipush (v := (357 : Int32)) hx hb dX12_book_81 (by decide) ?_
      refine lv_icmp_ge (tgt := 115) hx hb dX12_book_84 (by decide) (fun c17 => ?_) (fun c17 => ?_)
      · replace hv := y_br_t hv c17
        obtain ⟨t18, hq, ew⟩ := y_mp_e hv
        clear hv; subst ew
        replace kw80 : t18 = _ := kw80
        subst kw80
        have hv := hq
        clear hq
        refine lv_iconst (v := (0 : Int32)) hx hb dX12_book_115 (by decide) ?_
        refine lv_istore_n (lv' := [(1, .int (0 : Int32)), (0, .ref (ad o0))]) hx hb dX12_book_116 rfl hl (by decide) rfl (fun ls hl => ?_)
        obtain ⟨n, hv⟩ := y_lp_e hv
        exact L117 n (0 : Int32) h _ _ _ hB (lv_sub hl [1, 0] rfl) _ hv kv80
      · replace hv := y_br_f hv c17
        refine lv_aload_n hx hb dX12_book_87 rfl (lv_at hl 0 rfl) ?_
        obtain ⟨g19, hv⟩ := y_gd_e hv
        obtain ⟨o20, eo20, hv⟩ := y_bi_e hv
        refine z_getR hc hB 11 6 g19 eo20 (by decide) (by decide) rfl (z_l1 hc qfX12_33) dX12_book_88 ?_
        refine lv_iload_n hx hb dX12_book_91 rfl (lv_at hl 1 rfl) ?_
        refine lv_iload_n hx hb dX12_book_92 rfl (lv_at hl 1 rfl) ?_
        refine lv_bipush (v := (36 : Int32)) hx hb dX12_book_93 (by decide) ?_
        refine lv_icmp_ge (tgt := 107) hx hb dX12_book_95 (by decide) (fun c21 => ?_) (fun c21 => ?_)
        · replace hv := y_br_t hv c21
          refine lv_iconst (v := (0 : Int32)) hx hb dX12_book_107 (by decide) ?_
          exact b108 x1 o20 x1 (0 : Int32) h _ _ _ hB (lv_sub hl [0, 1] rfl) _ hv kw80
        · replace hv := y_br_f hv c21
          refine lv_aload_n hx hb dX12_book_98 rfl (lv_at hl 0 rfl) ?_
          obtain ⟨o22, eo22, hv⟩ := y_bi_e hv
          refine z_getR hc hB 11 7 g19 eo22 (by decide) (by decide) rfl (z_l1 hc qfX12_37) dX12_book_99 ?_
          refine lv_iload_n hx hb dX12_book_102 rfl (lv_at hl 1 rfl) ?_
          obtain ⟨g23, hv⟩ := y_gd_e hv
          obtain ⟨i24, hv⟩ := y_gd_e hv
          refine z_iald hc hB g23 i24 dX12_book_103 ?_
          refine lv_goto (tgt := 108) hx hb dX12_book_104 (by decide) ?_
          exact b108 x1 o20 x1 (z_I h o22 x1.toNatClampNeg) h _ _ _ hB (lv_sub hl [0, 1] rfl) _ hv kw80
  have L35 : ∀ (nn35 : Nat) (h : z_T) (H : Heap) (locs : List Loc) (ls : Array Slot), z_B G ad n0 s h H locs → lv_has ls 2 [(0, .ref (ad o0))] → ∀ vv35, y_lpN (fun q : z_T => fX12_book_b35_i o0 q) nn35 (h) = some vv35 → vv35 = (r0, h9) → W p l e rm_X12_book s m args below meth c H locs 0 0 (MQ below (z_Qi G ad h9 n0 s.heap.size r0) args s 0 0 (z_A ad n0 s.heap.size)) (F0 m 35 ls []) := by
    intro nn35
    induction nn35 with
    | zero => intro h H locs ls hB hl vv35 hv kv35; exact absurd hv (fun q => y_lpN_0 q)
    | succ nn35 ih35 =>
      intro h H locs ls hB hl vv35 hv kv35
      obtain ⟨w, hq, kw35⟩ := y_lpN_e hv
      clear hv
      have hv : fX12_book_b35_i o0 h = some w := hq
      clear hq
      refine lv_aload_n hx hb dX12_book_35 rfl (lv_at hl 0 rfl) ?_
      obtain ⟨g25, hv⟩ := y_gd_e hv
      refine z_getI hc hB 11 11 g25 (by decide) (by decide) rfl (z_l1 hc qfX12_156) dX12_book_36 ?_
      refine lv_if_eq (tgt := 78) hx hb dX12_book_39 (by decide) (fun c26 => ?_) (fun c26 => ?_)
      · replace hv := y_br_t hv c26
        obtain ⟨t27, hq, ew⟩ := y_mp_e hv
        clear hv; subst ew
        replace kw35 : t27 = _ := kw35
        subst kw35
        have hv := hq
        clear hq
        refine lv_iconst (v := (0 : Int32)) hx hb dX12_book_78 (by decide) ?_
        refine lv_istore_n (lv' := [(1, .int (0 : Int32)), (0, .ref (ad o0))]) hx hb dX12_book_79 rfl hl (by decide) rfl (fun ls hl => ?_)
        obtain ⟨n, hv⟩ := y_lp_e hv
        exact L80 n (0 : Int32) h _ _ _ hB (lv_sub hl [1, 0] rfl) _ hv kv35
      · replace hv := y_br_f hv c26
        refine lv_aload_n hx hb dX12_book_42 rfl (lv_at hl 0 rfl) ?_
        obtain ⟨⟨r29, h33⟩, c28, hv⟩ := y_bi_e hv
        refine z_thI hc hB (z_runV hc hB 11 (mm_X12_line hSK l ad o0 h c28) md_X12_line qmX12_232 g25 (by decide) rfl rfl rfl ⟨Nat.le_of_ble_eq_true rfl, Nat.le_of_ble_eq_true rfl⟩ rfl hl.1 rfl (Nat.le_of_ble_eq_true rfl) dX12_book_43 ⟨Nat.le_of_ble_eq_true rfl, Nat.le_of_ble_eq_true rfl⟩) (fun H locs hB => ?_)
        refine lv_if_eq (tgt := 58) hx hb dX12_book_46 (by decide) (fun c34 => ?_) (fun c34 => ?_)
        · replace hv := y_br_t hv c34
          obtain ⟨t35, hq, ew⟩ := y_mp_e hv
          clear hv; subst ew
          replace kw35 : t35 = _ := kw35
          subst kw35
          have hv := hq
          clear hq
          exact b58 h33 _ _ _ hB (lv_sub hl [0] rfl) _ hv kv35
        · replace hv := y_br_f hv c34
          refine lv_aload_n hx hb dX12_book_49 rfl (lv_at hl 0 rfl) ?_
          refine lv_bipush (v := (59 : Int32)) hx hb dX12_book_50 (by decide) ?_
          obtain ⟨g42, hv⟩ := y_gd_e hv
          obtain ⟨⟨r37, h41⟩, c36, hv⟩ := y_bi_e hv
          refine z_thI hc hB (z_runV hc hB 11 (mm_X12_sign hSK l ad o0 (59 : Int32) h33 c36) md_X12_sign qmX12_235 g42 (by decide) rfl rfl rfl ⟨Nat.le_of_ble_eq_true rfl, Nat.le_of_ble_eq_true rfl⟩ rfl hl.1 rfl (Nat.le_of_ble_eq_true rfl) dX12_book_52 ⟨Nat.le_of_ble_eq_true rfl, Nat.le_of_ble_eq_true rfl⟩) (fun H locs hB => ?_)
          refine lv_if_ne (tgt := 65) hx hb dX12_book_55 (by decide) (fun c43 => ?_) (fun c43 => ?_)
          · replace hv := y_br_f hv c43
            refine lv_aload_n hx hb dX12_book_65 rfl (lv_at hl 0 rfl) ?_
            refine lv_dup hx hb dX12_book_66 rfl ?_
            obtain ⟨g44, hv⟩ := y_gd_e hv
            refine z_getI hc hB 11 19 g44 (by decide) (by decide) rfl (z_l1 hc qfX12_229) dX12_book_67 ?_
            refine lv_iconst (v := (1 : Int32)) hx hb dX12_book_70 (by decide) ?_
            refine lv_iadd hx hb dX12_book_71 ?_
            obtain ⟨h45, eh45, hv⟩ := y_nm_e hv
            refine y_putI hc hB 11 19 eh45 g44 (z_l1 hc qfX12_229) dX12_book_72 (by decide) (by decide) rfl rfl rfl rfl (fun H locs hB => ?_)
            refine lv_goto (tgt := 35) hx hb dX12_book_75 (by decide) ?_
            replace hv := Option.some.inj hv
            subst hv
            exact ih35 h45 _ _ _ hB (lv_sub hl [0] rfl) _ kw35 kv35
          · replace hv := y_br_t hv c43
            obtain ⟨t46, hq, ew⟩ := y_mp_e hv
            clear hv; subst ew
            replace kw35 : t46 = _ := kw35
            subst kw35
            have hv := hq
            clear hq
            exact b58 h41 _ _ _ hB (lv_sub hl [0] rfl) _ hv kv35
  rw [← kt] at hv
  refine lv_aload_n hx hb dX12_book_0 rfl (lv_at hl 0 rfl) ?_
  refine lv_iconst (v := (0 : Int32)) hx hb dX12_book_1 (by decide) ?_
  obtain ⟨g47, hv⟩ := y_gd_e hv
  obtain ⟨h48, eh48, hv⟩ := y_nm_e hv
  refine y_putI hc hB 11 0 eh48 g47 (z_l1 hc qfX12_1) dX12_book_2 (by decide) (by decide) rfl rfl rfl rfl (fun H locs hB => ?_)
  refine lv_aload_n hx hb dX12_book_5 rfl (lv_at hl 0 rfl) ?_
  refine lv_sipush (v := (900 : Int32)) hx hb dX12_book_6 (by decide) ?_
  obtain ⟨h50, c49, hv⟩ := y_bi_e hv
  refine z_thV hc hB (z_runV hc hB 11 (mm_X12_taken hSK l ad o0 (900 : Int32) h48 c49) md_X12_taken qmX12_226 (by rw [eh48]; exact g47) (by decide) rfl rfl rfl ⟨Nat.le_of_ble_eq_true rfl, Nat.le_of_ble_eq_true rfl⟩ rfl hl.1 rfl (Nat.le_of_ble_eq_true rfl) dX12_book_9 ⟨Nat.le_of_ble_eq_true rfl, Nat.le_of_ble_eq_true rfl⟩) (fun H locs hB => ?_)
  refine lv_aload_n hx hb dX12_book_12 rfl (lv_at hl 0 rfl) ?_
  refine lv_iconst (v := (0 : Int32)) hx hb dX12_book_13 (by decide) ?_
  obtain ⟨g51, hv⟩ := y_gd_e hv
  obtain ⟨h52, eh52, hv⟩ := y_nm_e hv
  refine y_putI hc hB 11 15 eh52 g51 (z_l1 hc qfX12_173) dX12_book_14 (by decide) (by decide) rfl rfl rfl rfl (fun H locs hB => ?_)
  refine lv_aload_n hx hb dX12_book_17 rfl (lv_at hl 0 rfl) ?_
  refine lv_iconst (v := (0 : Int32)) hx hb dX12_book_18 (by decide) ?_
  obtain ⟨h53, eh53, hv⟩ := y_nm_e hv
  refine y_putI hc hB 11 19 eh53 (by rw [eh52]; exact g51) (z_l1 hc qfX12_229) dX12_book_19 (by decide) (by decide) rfl rfl rfl rfl (fun H locs hB => ?_)
  refine lv_aload_n hx hb dX12_book_22 rfl (lv_at hl 0 rfl) ?_
  refine lv_iconst (v := (0 : Int32)) hx hb dX12_book_23 (by decide) ?_
  obtain ⟨h54, eh54, hv⟩ := y_nm_e hv
  refine y_putI hc hB 11 20 eh54 (by rw [eh53, eh52]; exact g51) (z_l1 hc qfX12_207) dX12_book_24 (by decide) (by decide) rfl rfl rfl rfl (fun H locs hB => ?_)
  refine lv_aload_n hx hb dX12_book_27 rfl (lv_at hl 0 rfl) ?_
  obtain ⟨h56, c55, hv⟩ := y_bi_e hv
  refine z_thV hc hB (z_runV hc hB 11 (mm_X12_clears hSK l ad o0 h54 c55) md_X12_clears qmX12_143 (by rw [eh54, eh53, eh52]; exact g51) (by decide) rfl rfl rfl ⟨Nat.le_of_ble_eq_true rfl, Nat.le_of_ble_eq_true rfl⟩ rfl hl.1 rfl (Nat.le_of_ble_eq_true rfl) dX12_book_28 ⟨Nat.le_of_ble_eq_true rfl, Nat.le_of_ble_eq_true rfl⟩) (fun H locs hB => ?_)
  refine lv_aload_n hx hb dX12_book_31 rfl (lv_at hl 0 rfl) ?_
  obtain ⟨g59, hv⟩ := y_gd_e hv
  obtain ⟨h58, c57, hv⟩ := y_bi_e hv
  refine z_thV hc hB (z_runV hc hB 11 (mm_X12_go hSK l ad o0 h56 c57) md_X12_go qmX12_185 g59 (by decide) rfl rfl rfl ⟨Nat.le_of_ble_eq_true rfl, Nat.le_of_ble_eq_true rfl⟩ rfl hl.1 rfl (Nat.le_of_ble_eq_true rfl) dX12_book_32 ⟨Nat.le_of_ble_eq_true rfl, Nat.le_of_ble_eq_true rfl⟩) (fun H locs hB => ?_)
  obtain ⟨n, hv⟩ := y_lp_e hv
  exact L35 n h58 _ _ _ hB (lv_sub hl [0] rfl) _ hv kt
theorem dX12_fault_0 : decode cX12_fault 0 = .ok (.aload_n 0, 1) := by decide +kernel
theorem dX12_fault_1 : decode cX12_fault 1 = .ok (.iconst 0, 1) := by decide +kernel
theorem dX12_fault_2 : decode cX12_fault 2 = .ok (.putfield 1, 3) := by decide +kernel
theorem dX12_fault_5 : decode cX12_fault 5 = .ok (.aload_n 0, 1) := by decide +kernel
theorem dX12_fault_6 : decode cX12_fault 6 = .ok (.getfield 173, 3) := by decide +kernel
theorem dX12_fault_9 : decode cX12_fault 9 = .ok (.ireturn, 1) := by decide +kernel
abbrev rm_X12_fault : Room := { frames := 0, cells := 0, slots := 0, locals := 0 }
noncomputable def fX12_fault (o0 : Nat) (h : z_T) : Option (Int32 × z_T) :=
  y_gd (z_ok h o0 11) <|
  y_nm (z_sI h o0 0 (0 : Int32)) fun h2 =>
  some ((z_I h2 o0 15), h2)
set_option maxHeartbeats 4000000 in
set_option maxRecDepth 100000 in
theorem mm_X12_fault {G : z_Gt} {S : State → Prop} (hSK : z_SK S) (l : Launch) (ad : Nat → Nat) (o0 : Nat) (h : z_T) {r0 : Int32} {h9 : z_T} (hv : fX12_fault o0 h = some (r0, h9)) : z_Mi G S l yX12_fault cX12_fault 1 (.int) rm_X12_fault 0 0 [.ref (ad o0)] ad h h9 r0 := by
  refine z_ofW hSK (by decide) (Nat.le_of_ble_eq_true rfl) ?_
  intro p e s m args below meth c ls hc hr hnm hB hl
  have hx := hc.1.1
  have hb := hc.1.2.1
  have hown := hc.1.2.2.2.1
  have hts := hc.1.2.2.2.2
  replace hc : z_C G S ad (z_n h) p m c cX12_fault 1 s args RX12 meth := hc
  replace hown : s.vm.findClass RX12 = some m.cls := hown
  replace hl : lv_has ls 1 [(0, .ref (ad o0))] := hl
  show W p l e rm_X12_fault s m args below meth c s.heap [] 0 0 (MQ below (z_Qi G ad h9 (z_n h) s.heap.size r0) args s 0 0 (z_A ad (z_n h) s.heap.size)) (F0 m 0 ls [])
  obtain ⟨rs, kt⟩ : ∃ rs : Int32 × z_T, rs = (r0, h9) := ⟨_, rfl⟩
  generalize hn0 : z_n h = n0 at hc hB ⊢
  rw [← kt] at hv
  refine lv_aload_n hx hb dX12_fault_0 rfl (lv_at hl 0 rfl) ?_
  refine lv_iconst (v := (0 : Int32)) hx hb dX12_fault_1 (by decide) ?_
  obtain ⟨g1, hv⟩ := y_gd_e hv
  obtain ⟨h2, eh2, hv⟩ := y_nm_e hv
  refine y_putI hc hB 11 0 eh2 g1 (z_l1 hc qfX12_1) dX12_fault_2 (by decide) (by decide) rfl rfl rfl rfl (fun H locs hB => ?_)
  refine lv_aload_n hx hb dX12_fault_5 rfl (lv_at hl 0 rfl) ?_
  refine z_getI hc hB 11 15 (by rw [eh2]; exact g1) (by decide) (by decide) rfl (z_l1 hc qfX12_173) dX12_fault_6 ?_
  replace hv := Option.some.inj hv
  subst hv
  obtain ⟨e1, e2⟩ := y_pr kt
  rw [← e1, ← e2]
  exact z_iret hc hB hr dX12_fault_9
theorem dX12_isTest_0 : decode cX12_isTest 0 = .ok (.iload_n 1, 1) := by decide +kernel
theorem dX12_isTest_1 : decode cX12_isTest 1 = .ok (.iconst 0, 1) := by decide +kernel
theorem dX12_isTest_2 : decode cX12_isTest 2 = .ok (.aload_n 0, 1) := by decide +kernel
theorem dX12_isTest_3 : decode cX12_isTest 3 = .ok (.getfield 33, 3) := by decide +kernel
theorem dX12_isTest_6 : decode cX12_isTest 6 = .ok (.iconst 0, 1) := by decide +kernel
theorem dX12_isTest_7 : decode cX12_isTest 7 = .ok (.iaload, 1) := by decide +kernel
theorem dX12_isTest_8 : decode cX12_isTest 8 = .ok (.iconst 1, 1) := by decide +kernel
theorem dX12_isTest_9 : decode cX12_isTest 9 = .ok (.isub, 1) := by decide +kernel
theorem dX12_isTest_10 : decode cX12_isTest 10 = .ok (.invokestatic 188, 3) := by decide +kernel
theorem dX12_isTest_13 : decode cX12_isTest 13 = .ok (.ireturn, 1) := by decide +kernel
abbrev rm_X12_isTest : Room := { frames := 1, cells := 0, slots := 0, locals := 22 }
noncomputable def fX12_isTest (o0 : Nat) (x1 : Int32) (h : z_T) : Option (Int32) :=
  y_gd (z_ok h o0 11) <|
  y_bi (z_R h o0 6) fun o2 =>
  y_gd (z_ok h o2 13) <|
  y_gd (z_ix (0 : Int32) (z_N h o2)) <|
  y_bi (fX12_isIn x1 (0 : Int32) ((z_I h o2 (0 : Int32).toNatClampNeg) - (1 : Int32))) fun r6 =>
  y_gd (y_b r6) <|
  some r6
set_option maxHeartbeats 4000000 in
set_option maxRecDepth 100000 in
theorem mm_X12_isTest {G : z_Gt} {S : State → Prop} (hSK : z_SK S) (l : Launch) (ad : Nat → Nat) (o0 : Nat) (x1 : Int32) (h : z_T) {r0 : Int32} (hv : fX12_isTest o0 x1 h = some r0) : z_Mi G S l yX12_isTest cX12_isTest 2 (.boolean) rm_X12_isTest 0 0 [.ref (ad o0), .int x1] ad h h r0 := by
  refine z_ofW hSK (by decide) (Nat.le_of_ble_eq_true rfl) ?_
  intro p e s m args below meth c ls hc hr hnm hB hl
  have hx := hc.1.1
  have hb := hc.1.2.1
  have hown := hc.1.2.2.2.1
  have hts := hc.1.2.2.2.2
  replace hc : z_C G S ad (z_n h) p m c cX12_isTest 2 s args RX12 meth := hc
  replace hown : s.vm.findClass RX12 = some m.cls := hown
  replace hl : lv_has ls 2 [(0, .ref (ad o0)), (1, .int x1)] := hl
  show W p l e rm_X12_isTest s m args below meth c s.heap [] 0 0 (MQ below (z_Qi G ad h (z_n h) s.heap.size r0) args s 0 0 (z_A ad (z_n h) s.heap.size)) (F0 m 0 ls [])
  obtain ⟨rs, kt⟩ : ∃ rs : Int32, rs = r0 := ⟨_, rfl⟩
  generalize hn0 : z_n h = n0 at hc hB ⊢
  rw [← kt] at hv
  refine lv_iload_n hx hb dX12_isTest_0 rfl (lv_at hl 1 rfl) ?_
  refine lv_iconst (v := (0 : Int32)) hx hb dX12_isTest_1 (by decide) ?_
  refine lv_aload_n hx hb dX12_isTest_2 rfl (lv_at hl 0 rfl) ?_
  obtain ⟨g1, hv⟩ := y_gd_e hv
  obtain ⟨o2, eo2, hv⟩ := y_bi_e hv
  refine z_getR hc hB 11 6 g1 eo2 (by decide) (by decide) rfl (z_l1 hc qfX12_33) dX12_isTest_3 ?_
  refine lv_iconst (v := (0 : Int32)) hx hb dX12_isTest_6 (by decide) ?_
  obtain ⟨g3, hv⟩ := y_gd_e hv
  obtain ⟨i4, hv⟩ := y_gd_e hv
  refine z_iald hc hB g3 i4 dX12_isTest_7 ?_
  refine lv_iconst (v := (1 : Int32)) hx hb dX12_isTest_8 (by decide) ?_
  refine lv_isub hx hb dX12_isTest_9 ?_
  obtain ⟨r6, c5, hv⟩ := y_bi_e hv
  refine z_thI hc hB (z_runS hc hB (mm_X12_isIn hSK l ad x1 (0 : Int32) ((z_I h o2 (0 : Int32).toNatClampNeg) - (1 : Int32)) h c5) md_X12_isIn qmX12_188 rfl rfl ⟨Nat.le_of_ble_eq_true rfl, Nat.le_of_ble_eq_true rfl⟩ rfl hl.1 rfl (Nat.le_of_ble_eq_true rfl) dX12_isTest_10 ⟨Nat.le_of_ble_eq_true rfl, Nat.le_of_ble_eq_true rfl⟩) (fun H locs hB => ?_)
  obtain ⟨y10, hv⟩ := y_gd_e hv
  replace hv := Option.some.inj hv
  subst hv
  rw [← kt]
  exact z_zret hc hB hr (y_b_n y10) dX12_isTest_13
theorem dX12_isDream_0 : decode cX12_isDream 0 = .ok (.iload_n 1, 1) := by decide +kernel
theorem dX12_isDream_1 : decode cX12_isDream 1 = .ok (.iconst 0, 1) := by decide +kernel
theorem dX12_isDream_2 : decode cX12_isDream 2 = .ok (.aload_n 0, 1) := by decide +kernel
theorem dX12_isDream_3 : decode cX12_isDream 3 = .ok (.getfield 33, 3) := by decide +kernel
theorem dX12_isDream_6 : decode cX12_isDream 6 = .ok (.iconst 1, 1) := by decide +kernel
theorem dX12_isDream_7 : decode cX12_isDream 7 = .ok (.iaload, 1) := by decide +kernel
theorem dX12_isDream_8 : decode cX12_isDream 8 = .ok (.iconst 1, 1) := by decide +kernel
theorem dX12_isDream_9 : decode cX12_isDream 9 = .ok (.isub, 1) := by decide +kernel
theorem dX12_isDream_10 : decode cX12_isDream 10 = .ok (.invokestatic 188, 3) := by decide +kernel
theorem dX12_isDream_13 : decode cX12_isDream 13 = .ok (.ireturn, 1) := by decide +kernel
abbrev rm_X12_isDream : Room := { frames := 1, cells := 0, slots := 0, locals := 22 }
noncomputable def fX12_isDream (o0 : Nat) (x1 : Int32) (h : z_T) : Option (Int32) :=
  y_gd (z_ok h o0 11) <|
  y_bi (z_R h o0 6) fun o2 =>
  y_gd (z_ok h o2 13) <|
  y_gd (z_ix (1 : Int32) (z_N h o2)) <|
  y_bi (fX12_isIn x1 (0 : Int32) ((z_I h o2 (1 : Int32).toNatClampNeg) - (1 : Int32))) fun r6 =>
  y_gd (y_b r6) <|
  some r6
set_option maxHeartbeats 4000000 in
set_option maxRecDepth 100000 in
theorem mm_X12_isDream {G : z_Gt} {S : State → Prop} (hSK : z_SK S) (l : Launch) (ad : Nat → Nat) (o0 : Nat) (x1 : Int32) (h : z_T) {r0 : Int32} (hv : fX12_isDream o0 x1 h = some r0) : z_Mi G S l yX12_isDream cX12_isDream 2 (.boolean) rm_X12_isDream 0 0 [.ref (ad o0), .int x1] ad h h r0 := by
  refine z_ofW hSK (by decide) (Nat.le_of_ble_eq_true rfl) ?_
  intro p e s m args below meth c ls hc hr hnm hB hl
  have hx := hc.1.1
  have hb := hc.1.2.1
  have hown := hc.1.2.2.2.1
  have hts := hc.1.2.2.2.2
  replace hc : z_C G S ad (z_n h) p m c cX12_isDream 2 s args RX12 meth := hc
  replace hown : s.vm.findClass RX12 = some m.cls := hown
  replace hl : lv_has ls 2 [(0, .ref (ad o0)), (1, .int x1)] := hl
  show W p l e rm_X12_isDream s m args below meth c s.heap [] 0 0 (MQ below (z_Qi G ad h (z_n h) s.heap.size r0) args s 0 0 (z_A ad (z_n h) s.heap.size)) (F0 m 0 ls [])
  obtain ⟨rs, kt⟩ : ∃ rs : Int32, rs = r0 := ⟨_, rfl⟩
  generalize hn0 : z_n h = n0 at hc hB ⊢
  rw [← kt] at hv
  refine lv_iload_n hx hb dX12_isDream_0 rfl (lv_at hl 1 rfl) ?_
  refine lv_iconst (v := (0 : Int32)) hx hb dX12_isDream_1 (by decide) ?_
  refine lv_aload_n hx hb dX12_isDream_2 rfl (lv_at hl 0 rfl) ?_
  obtain ⟨g1, hv⟩ := y_gd_e hv
  obtain ⟨o2, eo2, hv⟩ := y_bi_e hv
  refine z_getR hc hB 11 6 g1 eo2 (by decide) (by decide) rfl (z_l1 hc qfX12_33) dX12_isDream_3 ?_
  refine lv_iconst (v := (1 : Int32)) hx hb dX12_isDream_6 (by decide) ?_
  obtain ⟨g3, hv⟩ := y_gd_e hv
  obtain ⟨i4, hv⟩ := y_gd_e hv
  refine z_iald hc hB g3 i4 dX12_isDream_7 ?_
  refine lv_iconst (v := (1 : Int32)) hx hb dX12_isDream_8 (by decide) ?_
  refine lv_isub hx hb dX12_isDream_9 ?_
  obtain ⟨r6, c5, hv⟩ := y_bi_e hv
  refine z_thI hc hB (z_runS hc hB (mm_X12_isIn hSK l ad x1 (0 : Int32) ((z_I h o2 (1 : Int32).toNatClampNeg) - (1 : Int32)) h c5) md_X12_isIn qmX12_188 rfl rfl ⟨Nat.le_of_ble_eq_true rfl, Nat.le_of_ble_eq_true rfl⟩ rfl hl.1 rfl (Nat.le_of_ble_eq_true rfl) dX12_isDream_10 ⟨Nat.le_of_ble_eq_true rfl, Nat.le_of_ble_eq_true rfl⟩) (fun H locs hB => ?_)
  obtain ⟨y10, hv⟩ := y_gd_e hv
  replace hv := Option.some.inj hv
  subst hv
  rw [← kt]
  exact z_zret hc hB hr (y_b_n y10) dX12_isDream_13
theorem dX12_timesOf_0 : decode cX12_timesOf 0 = .ok (.iconst 0, 1) := by decide +kernel
theorem dX12_timesOf_1 : decode cX12_timesOf 1 = .ok (.istore_n 3, 1) := by decide +kernel
theorem dX12_timesOf_2 : decode cX12_timesOf 2 = .ok (.iconst 0, 1) := by decide +kernel
theorem dX12_timesOf_3 : decode cX12_timesOf 3 = .ok (.istore 4, 2) := by decide +kernel
theorem dX12_timesOf_5 : decode cX12_timesOf 5 = .ok (.iload 4, 2) := by decide +kernel
theorem dX12_timesOf_7 : decode cX12_timesOf 7 = .ok (.iload_n 2, 1) := by decide +kernel
theorem dX12_timesOf_8 : decode cX12_timesOf 8 = .ok (.if_icmp .ge 33, 3) := by decide +kernel
theorem dX12_timesOf_11 : decode cX12_timesOf 11 = .ok (.iload_n 3, 1) := by decide +kernel
theorem dX12_timesOf_12 : decode cX12_timesOf 12 = .ok (.aload_n 0, 1) := by decide +kernel
theorem dX12_timesOf_13 : decode cX12_timesOf 13 = .ok (.getfield 33, 3) := by decide +kernel
theorem dX12_timesOf_16 : decode cX12_timesOf 16 = .ok (.bipush 37, 2) := by decide +kernel
theorem dX12_timesOf_18 : decode cX12_timesOf 18 = .ok (.iload 4, 2) := by decide +kernel
theorem dX12_timesOf_20 : decode cX12_timesOf 20 = .ok (.iadd, 1) := by decide +kernel
theorem dX12_timesOf_21 : decode cX12_timesOf 21 = .ok (.iaload, 1) := by decide +kernel
theorem dX12_timesOf_22 : decode cX12_timesOf 22 = .ok (.iconst 2, 1) := by decide +kernel
theorem dX12_timesOf_23 : decode cX12_timesOf 23 = .ok (.idiv, 1) := by decide +kernel
theorem dX12_timesOf_24 : decode cX12_timesOf 24 = .ok (.iload_n 1, 1) := by decide +kernel
theorem dX12_timesOf_25 : decode cX12_timesOf 25 = .ok (.if_icmp .ne 7, 3) := by decide +kernel
theorem dX12_timesOf_28 : decode cX12_timesOf 28 = .ok (.iconst 1, 1) := by decide +kernel
theorem dX12_timesOf_29 : decode cX12_timesOf 29 = .ok (.goto 4, 3) := by decide +kernel
theorem dX12_timesOf_32 : decode cX12_timesOf 32 = .ok (.iconst 0, 1) := by decide +kernel
theorem dX12_timesOf_33 : decode cX12_timesOf 33 = .ok (.iadd, 1) := by decide +kernel
theorem dX12_timesOf_34 : decode cX12_timesOf 34 = .ok (.istore_n 3, 1) := by decide +kernel
theorem dX12_timesOf_35 : decode cX12_timesOf 35 = .ok (.iinc 4 1, 3) := by decide +kernel
theorem dX12_timesOf_38 : decode cX12_timesOf 38 = .ok (.goto (-33), 3) := by decide +kernel
theorem dX12_timesOf_41 : decode cX12_timesOf 41 = .ok (.iload_n 3, 1) := by decide +kernel
theorem dX12_timesOf_42 : decode cX12_timesOf 42 = .ok (.ireturn, 1) := by decide +kernel
abbrev rm_X12_timesOf : Room := { frames := 0, cells := 0, slots := 0, locals := 0 }
noncomputable def fX12_timesOf_b33 (o0 : Nat) (x1 : Int32) (x2 : Int32) (x4 : Int32) (s0 : Int32) (s1 : Int32) (h : z_T) : Option ((Int32 × Int32) ⊕ (Int32)) :=
  y_nm ((s0 + s1)) fun v1 =>
  y_nm (x4 + 1) fun v2 =>
  some (.inl (v1, v2))
noncomputable def fX12_timesOf_b5_i (o0 : Nat) (x1 : Int32) (x2 : Int32) (h : z_T) (x3 : Int32) (x4 : Int32) : Option ((Int32 × Int32) ⊕ (Int32)) :=
  y_br (x2 ≤ x4)
    (y_mp <|
    some x3)
    (y_gd (z_ok h o0 11) <|
    y_bi (z_R h o0 6) fun o6 =>
    y_gd (z_ok h o6 13) <|
    y_gd (z_ix ((37 : Int32) + x4) (z_N h o6)) <|
    y_gd (!decide ((2 : Int32) = 0)) <|
    y_br (((z_I h o6 ((37 : Int32) + x4).toNatClampNeg) / (2 : Int32)) = x1)
      (fX12_timesOf_b33 o0 x1 x2 x4 x3 (1 : Int32) h)
      (fX12_timesOf_b33 o0 x1 x2 x4 x3 (0 : Int32) h))
noncomputable def fX12_timesOf_b5 (o0 : Nat) (x1 : Int32) (x2 : Int32) (x3 : Int32) (x4 : Int32) (h : z_T) : Option (Int32) := y_lp (fun q : Int32 × Int32 => fX12_timesOf_b5_i o0 x1 x2 h q.1 q.2) (x3, x4)
noncomputable def fX12_timesOf (o0 : Nat) (x1 : Int32) (x2 : Int32) (h : z_T) : Option (Int32) :=
  fX12_timesOf_b5 o0 x1 x2 (0 : Int32) (0 : Int32) h
set_option maxHeartbeats 4000000 in
set_option maxRecDepth 100000 in
theorem mm_X12_timesOf {G : z_Gt} {S : State → Prop} (hSK : z_SK S) (l : Launch) (ad : Nat → Nat) (o0 : Nat) (x1 : Int32) (x2 : Int32) (h : z_T) {r0 : Int32} (hv : fX12_timesOf o0 x1 x2 h = some r0) : z_Mi G S l yX12_timesOf cX12_timesOf 5 (.int) rm_X12_timesOf 0 0 [.ref (ad o0), .int x1, .int x2] ad h h r0 := by
  refine z_ofW hSK (by decide) (Nat.le_of_ble_eq_true rfl) ?_
  intro p e s m args below meth c ls hc hr hnm hB hl
  have hx := hc.1.1
  have hb := hc.1.2.1
  have hown := hc.1.2.2.2.1
  have hts := hc.1.2.2.2.2
  replace hc : z_C G S ad (z_n h) p m c cX12_timesOf 5 s args RX12 meth := hc
  replace hown : s.vm.findClass RX12 = some m.cls := hown
  replace hl : lv_has ls 5 [(0, .ref (ad o0)), (1, .int x1), (2, .int x2)] := hl
  show W p l e rm_X12_timesOf s m args below meth c s.heap [] 0 0 (MQ below (z_Qi G ad h (z_n h) s.heap.size r0) args s 0 0 (z_A ad (z_n h) s.heap.size)) (F0 m 0 ls [])
  obtain ⟨rs, kt⟩ : ∃ rs : Int32, rs = r0 := ⟨_, rfl⟩
  generalize hn0 : z_n h = n0 at hc hB ⊢
  have L5 : ∀ (nn5 : Nat) (x3 : Int32) (x4 : Int32) (H : Heap) (locs : List Loc) (ls : Array Slot), z_B G ad n0 s h H locs → lv_has ls 5 [(0, .ref (ad o0)), (1, .int x1), (2, .int x2), (3, .int x3), (4, .int x4)] → ∀ vv5, y_lpN (fun q : Int32 × Int32 => fX12_timesOf_b5_i o0 x1 x2 h q.1 q.2) nn5 (x3, x4) = some vv5 → vv5 = r0 → W p l e rm_X12_timesOf s m args below meth c H locs 0 0 (MQ below (z_Qi G ad h n0 s.heap.size r0) args s 0 0 (z_A ad n0 s.heap.size)) (F0 m 5 ls []) := by
    intro nn5
    induction nn5 with
    | zero => intro x3 x4 H locs ls hB hl vv5 hv kv5; exact absurd hv (fun q => y_lpN_0 q)
    | succ nn5 ih5 =>
      intro x3 x4 H locs ls hB hl vv5 hv kv5
      obtain ⟨w, hq, kw5⟩ := y_lpN_e hv
      clear hv
      have hv : fX12_timesOf_b5_i o0 x1 x2 h x3 x4 = some w := hq
      clear hq
      have b33 : ∀ (x4 : Int32) (s0 : Int32) (s1 : Int32) (H : Heap) (locs : List Loc) (ls : Array Slot), z_B G ad n0 s h H locs → lv_has ls 5 [(0, .ref (ad o0)), (1, .int x1), (2, .int x2), (4, .int x4)] → ∀ w, fX12_timesOf_b33 o0 x1 x2 x4 s0 s1 h = some w → y_lq (fun q : Int32 × Int32 => fX12_timesOf_b5_i o0 x1 x2 h q.1 q.2) nn5 vv5 w → W p l e rm_X12_timesOf s m args below meth c H locs 0 0 (MQ below (z_Qi G ad h n0 s.heap.size r0) args s 0 0 (z_A ad n0 s.heap.size)) (F0 m 33 ls [.int s1, .int s0]) := by
        intro x4 s0 s1 H locs ls hB hl w hv kw5
        refine lv_iadd hx hb dX12_timesOf_33 ?_
        obtain ⟨v1, ev1, hv⟩ := y_nm_e hv
        rw [← ev1]
        refine lv_istore_n (lv' := [(3, .int v1), (0, .ref (ad o0)), (1, .int x1), (2, .int x2), (4, .int x4)]) hx hb dX12_timesOf_34 rfl hl (by decide) rfl (fun ls hl => ?_)
        obtain ⟨v2, ev2, hv⟩ := y_nm_e hv
        refine lv_iinc (v := v2) (lv' := [(4, .int v2), (3, .int v1), (0, .ref (ad o0)), (1, .int x1), (2, .int x2)]) hx hb dX12_timesOf_35 hl (k := 4) rfl (by rw [ev2]; rfl) (by decide) rfl (fun ls hl => ?_)
        refine lv_goto (tgt := 5) hx hb dX12_timesOf_38 (by decide) ?_
        replace hv := Option.some.inj hv
        subst hv
        exact ih5 v1 v2 _ _ _ hB (lv_sub hl [2, 3, 4, 1, 0] rfl) _ kw5 kv5
      refine lv_iload hx hb dX12_timesOf_5 (lv_at hl 4 rfl) ?_
      refine lv_iload_n hx hb dX12_timesOf_7 rfl (lv_at hl 2 rfl) ?_
      refine lv_icmp_ge (tgt := 41) hx hb dX12_timesOf_8 (by decide) (fun c3 => ?_) (fun c3 => ?_)
      · replace hv := y_br_t hv c3
        obtain ⟨t4, hq, ew⟩ := y_mp_e hv
        clear hv; subst ew
        replace kw5 : t4 = _ := kw5
        subst kw5
        have hv := hq
        clear hq
        refine lv_iload_n hx hb dX12_timesOf_41 rfl (lv_at hl 3 rfl) ?_
        replace hv := Option.some.inj hv
        subst hv
        rw [← kv5]
        exact z_iret hc hB hr dX12_timesOf_42
      · replace hv := y_br_f hv c3
        refine lv_iload_n hx hb dX12_timesOf_11 rfl (lv_at hl 3 rfl) ?_
        refine lv_aload_n hx hb dX12_timesOf_12 rfl (lv_at hl 0 rfl) ?_
        obtain ⟨g5, hv⟩ := y_gd_e hv
        obtain ⟨o6, eo6, hv⟩ := y_bi_e hv
        refine z_getR hc hB 11 6 g5 eo6 (by decide) (by decide) rfl (z_l1 hc qfX12_33) dX12_timesOf_13 ?_
        refine lv_bipush (v := (37 : Int32)) hx hb dX12_timesOf_16 (by decide) ?_
        refine lv_iload hx hb dX12_timesOf_18 (lv_at hl 4 rfl) ?_
        refine lv_iadd hx hb dX12_timesOf_20 ?_
        obtain ⟨g7, hv⟩ := y_gd_e hv
        obtain ⟨i8, hv⟩ := y_gd_e hv
        refine z_iald hc hB g7 i8 dX12_timesOf_21 ?_
        refine lv_iconst (v := (2 : Int32)) hx hb dX12_timesOf_22 (by decide) ?_
        obtain ⟨z9, hv⟩ := y_gd_e hv
        refine lv_idiv hx hb dX12_timesOf_23 (y_ne z9) ?_
        refine lv_iload_n hx hb dX12_timesOf_24 rfl (lv_at hl 1 rfl) ?_
        refine lv_icmp_ne (tgt := 32) hx hb dX12_timesOf_25 (by decide) (fun c10 => ?_) (fun c10 => ?_)
        · replace hv := y_br_f hv c10
          refine lv_iconst (v := (0 : Int32)) hx hb dX12_timesOf_32 (by decide) ?_
          exact b33 x4 x3 (0 : Int32) _ _ _ hB (lv_sub hl [0, 1, 2, 4] rfl) _ hv kw5
        · replace hv := y_br_t hv c10
          refine lv_iconst (v := (1 : Int32)) hx hb dX12_timesOf_28 (by decide) ?_
          refine lv_goto (tgt := 33) hx hb dX12_timesOf_29 (by decide) ?_
          exact b33 x4 x3 (1 : Int32) _ _ _ hB (lv_sub hl [0, 1, 2, 4] rfl) _ hv kw5
  rw [← kt] at hv
  refine lv_iconst (v := (0 : Int32)) hx hb dX12_timesOf_0 (by decide) ?_
  refine lv_istore_n (lv' := [(3, .int (0 : Int32)), (0, .ref (ad o0)), (1, .int x1), (2, .int x2)]) hx hb dX12_timesOf_1 rfl hl (by decide) rfl (fun ls hl => ?_)
  refine lv_iconst (v := (0 : Int32)) hx hb dX12_timesOf_2 (by decide) ?_
  refine lv_istore (lv' := [(4, .int (0 : Int32)), (3, .int (0 : Int32)), (0, .ref (ad o0)), (1, .int x1), (2, .int x2)]) hx hb dX12_timesOf_3 hl (by decide) rfl (fun ls hl => ?_)
  obtain ⟨n, hv⟩ := y_lp_e hv
  exact L5 n (0 : Int32) (0 : Int32) _ _ _ hB (lv_sub hl [2, 3, 4, 1, 0] rfl) _ hv kt
theorem qmX12_244 : Cond.methodLink RX12 244 yX12_timesOf ∈ z_ws := List.mem_filter.mpr ⟨List.mem_append_right _ (List.mem_of_getElem? (i := 1556) (by decide +kernel)), rfl⟩
theorem qc_X12_timesOf : Cond.code yX12_timesOf cX12_timesOf 5 (some .int) ∈ z_ws := List.mem_filter.mpr ⟨List.mem_append_right _ (List.mem_of_getElem? (i := 1559) (by decide +kernel)), rfl⟩
theorem qi_X12_timesOf : Cond.instanceMethod yX12_timesOf ∈ z_ws := List.mem_filter.mpr ⟨List.mem_append_right _ (List.mem_of_getElem? (i := 1558) (by decide +kernel)), rfl⟩
theorem qs_X12_timesOf : Cond.selects RX12 yX12_timesOf yX12_timesOf ∈ z_ws := List.mem_filter.mpr ⟨List.mem_append_left _ (List.mem_of_getElem? (i := 49) (by decide +kernel)), rfl⟩
theorem md_X12_timesOf : z_mdV yX12_timesOf cX12_timesOf 5 (some .int) 2 := ⟨⟨qn_RX12, qc_X12_timesOf, ⟨by decide +kernel, by decide +kernel, by decide +kernel⟩⟩, qi_X12_timesOf, qs_X12_timesOf⟩
theorem qmX12_241 : Cond.methodLink RX12 241 yX12_isTest ∈ z_ws := List.mem_filter.mpr ⟨List.mem_append_right _ (List.mem_of_getElem? (i := 1552) (by decide +kernel)), rfl⟩
theorem qc_X12_isTest : Cond.code yX12_isTest cX12_isTest 2 (some .boolean) ∈ z_ws := List.mem_filter.mpr ⟨List.mem_append_right _ (List.mem_of_getElem? (i := 1555) (by decide +kernel)), rfl⟩
theorem qi_X12_isTest : Cond.instanceMethod yX12_isTest ∈ z_ws := List.mem_filter.mpr ⟨List.mem_append_right _ (List.mem_of_getElem? (i := 1554) (by decide +kernel)), rfl⟩
theorem qs_X12_isTest : Cond.selects RX12 yX12_isTest yX12_isTest ∈ z_ws := List.mem_filter.mpr ⟨List.mem_append_left _ (List.mem_of_getElem? (i := 48) (by decide +kernel)), rfl⟩
theorem md_X12_isTest : z_mdV yX12_isTest cX12_isTest 2 (some .boolean) 1 := ⟨⟨qn_RX12, qc_X12_isTest, ⟨by decide +kernel, by decide +kernel, by decide +kernel⟩⟩, qi_X12_isTest, qs_X12_isTest⟩
theorem dX12_test_0 : decode cX12_test 0 = .ok (.aload_n 0, 1) := by decide +kernel
theorem dX12_test_1 : decode cX12_test 1 = .ok (.iconst 0, 1) := by decide +kernel
theorem dX12_test_2 : decode cX12_test 2 = .ok (.putfield 1, 3) := by decide +kernel
theorem dX12_test_5 : decode cX12_test 5 = .ok (.aload_n 0, 1) := by decide +kernel
theorem dX12_test_6 : decode cX12_test 6 = .ok (.iload_n 1, 1) := by decide +kernel
theorem dX12_test_7 : decode cX12_test 7 = .ok (.invokevirtual 241, 3) := by decide +kernel
theorem dX12_test_10 : decode cX12_test 10 = .ok (.ifCond .ne 5, 3) := by decide +kernel
theorem dX12_test_13 : decode cX12_test 13 = .ok (.iconst (-1), 1) := by decide +kernel
theorem dX12_test_14 : decode cX12_test 14 = .ok (.ireturn, 1) := by decide +kernel
theorem dX12_test_15 : decode cX12_test 15 = .ok (.iconst 0, 1) := by decide +kernel
theorem dX12_test_16 : decode cX12_test 16 = .ok (.istore_n 3, 1) := by decide +kernel
theorem dX12_test_17 : decode cX12_test 17 = .ok (.iconst 0, 1) := by decide +kernel
theorem dX12_test_18 : decode cX12_test 18 = .ok (.istore 4, 2) := by decide +kernel
theorem dX12_test_20 : decode cX12_test 20 = .ok (.iload 4, 2) := by decide +kernel
theorem dX12_test_22 : decode cX12_test 22 = .ok (.aload_n 0, 1) := by decide +kernel
theorem dX12_test_23 : decode cX12_test 23 = .ok (.getfield 33, 3) := by decide +kernel
theorem dX12_test_26 : decode cX12_test 26 = .ok (.iconst 1, 1) := by decide +kernel
theorem dX12_test_27 : decode cX12_test 27 = .ok (.iaload, 1) := by decide +kernel
theorem dX12_test_28 : decode cX12_test 28 = .ok (.if_icmp .ge 37, 3) := by decide +kernel
theorem dX12_test_31 : decode cX12_test 31 = .ok (.iload_n 3, 1) := by decide +kernel
theorem dX12_test_32 : decode cX12_test 32 = .ok (.aload_n 0, 1) := by decide +kernel
theorem dX12_test_33 : decode cX12_test 33 = .ok (.getfield 33, 3) := by decide +kernel
theorem dX12_test_36 : decode cX12_test 36 = .ok (.bipush 30, 2) := by decide +kernel
theorem dX12_test_38 : decode cX12_test 38 = .ok (.iload 4, 2) := by decide +kernel
theorem dX12_test_40 : decode cX12_test 40 = .ok (.iadd, 1) := by decide +kernel
theorem dX12_test_41 : decode cX12_test 41 = .ok (.iaload, 1) := by decide +kernel
theorem dX12_test_42 : decode cX12_test 42 = .ok (.iload_n 1, 1) := by decide +kernel
theorem dX12_test_43 : decode cX12_test 43 = .ok (.invokestatic 210, 3) := by decide +kernel
theorem dX12_test_46 : decode cX12_test 46 = .ok (.ifCond .eq 10, 3) := by decide +kernel
theorem dX12_test_49 : decode cX12_test 49 = .ok (.iconst 1, 1) := by decide +kernel
theorem dX12_test_50 : decode cX12_test 50 = .ok (.iload 4, 2) := by decide +kernel
theorem dX12_test_52 : decode cX12_test 52 = .ok (.ishl, 1) := by decide +kernel
theorem dX12_test_53 : decode cX12_test 53 = .ok (.goto 4, 3) := by decide +kernel
theorem dX12_test_56 : decode cX12_test 56 = .ok (.iconst 0, 1) := by decide +kernel
theorem dX12_test_57 : decode cX12_test 57 = .ok (.ior, 1) := by decide +kernel
theorem dX12_test_58 : decode cX12_test 58 = .ok (.istore_n 3, 1) := by decide +kernel
theorem dX12_test_59 : decode cX12_test 59 = .ok (.iinc 4 1, 3) := by decide +kernel
theorem dX12_test_62 : decode cX12_test 62 = .ok (.goto (-42), 3) := by decide +kernel
theorem dX12_test_65 : decode cX12_test 65 = .ok (.iload_n 2, 1) := by decide +kernel
theorem dX12_test_66 : decode cX12_test 66 = .ok (.tableswitch 65 0 3 #[30, 40, 50, 63], 30) := by decide +kernel
theorem dX12_test_96 : decode cX12_test 96 = .ok (.aload_n 0, 1) := by decide +kernel
theorem dX12_test_97 : decode cX12_test 97 = .ok (.getfield 33, 3) := by decide +kernel
theorem dX12_test_100 : decode cX12_test 100 = .ok (.bipush 8, 2) := by decide +kernel
theorem dX12_test_102 : decode cX12_test 102 = .ok (.iload_n 1, 1) := by decide +kernel
theorem dX12_test_103 : decode cX12_test 103 = .ok (.iadd, 1) := by decide +kernel
theorem dX12_test_104 : decode cX12_test 104 = .ok (.iaload, 1) := by decide +kernel
theorem dX12_test_105 : decode cX12_test 105 = .ok (.ireturn, 1) := by decide +kernel
theorem dX12_test_106 : decode cX12_test 106 = .ok (.aload_n 0, 1) := by decide +kernel
theorem dX12_test_107 : decode cX12_test 107 = .ok (.getfield 33, 3) := by decide +kernel
theorem dX12_test_110 : decode cX12_test 110 = .ok (.bipush 16, 2) := by decide +kernel
theorem dX12_test_112 : decode cX12_test 112 = .ok (.iload_n 1, 1) := by decide +kernel
theorem dX12_test_113 : decode cX12_test 113 = .ok (.iadd, 1) := by decide +kernel
theorem dX12_test_114 : decode cX12_test 114 = .ok (.iaload, 1) := by decide +kernel
theorem dX12_test_115 : decode cX12_test 115 = .ok (.ireturn, 1) := by decide +kernel
theorem dX12_test_116 : decode cX12_test 116 = .ok (.aload_n 0, 1) := by decide +kernel
theorem dX12_test_117 : decode cX12_test 117 = .ok (.iload_n 1, 1) := by decide +kernel
theorem dX12_test_118 : decode cX12_test 118 = .ok (.aload_n 0, 1) := by decide +kernel
theorem dX12_test_119 : decode cX12_test 119 = .ok (.getfield 33, 3) := by decide +kernel
theorem dX12_test_122 : decode cX12_test 122 = .ok (.bipush 36, 2) := by decide +kernel
theorem dX12_test_124 : decode cX12_test 124 = .ok (.iaload, 1) := by decide +kernel
theorem dX12_test_125 : decode cX12_test 125 = .ok (.invokevirtual 244, 3) := by decide +kernel
theorem dX12_test_128 : decode cX12_test 128 = .ok (.ireturn, 1) := by decide +kernel
theorem dX12_test_129 : decode cX12_test 129 = .ok (.iload_n 3, 1) := by decide +kernel
theorem dX12_test_130 : decode cX12_test 130 = .ok (.ireturn, 1) := by decide +kernel
theorem dX12_test_131 : decode cX12_test 131 = .ok (.iconst (-1), 1) := by decide +kernel
theorem dX12_test_132 : decode cX12_test 132 = .ok (.ireturn, 1) := by decide +kernel
abbrev rm_X12_test : Room := { frames := 2, cells := 0, slots := 0, locals := 43 }
noncomputable def fX12_test_b57 (o0 : Nat) (x1 : Int32) (x2 : Int32) (x4 : Int32) (s0 : Int32) (s1 : Int32) (h : z_T) : Option ((Int32 × Int32) ⊕ (Int32 × z_T)) :=
  y_nm ((s0 ||| s1)) fun v1 =>
  y_nm (x4 + 1) fun v2 =>
  some (.inl (v1, v2))
noncomputable def fX12_test_b20_i (o0 : Nat) (x1 : Int32) (x2 : Int32) (h : z_T) (x3 : Int32) (x4 : Int32) : Option ((Int32 × Int32) ⊕ (Int32 × z_T)) :=
  y_gd (z_ok h o0 11) <|
  y_bi (z_R h o0 6) fun o4 =>
  y_gd (z_ok h o4 13) <|
  y_gd (z_ix (1 : Int32) (z_N h o4)) <|
  y_br ((z_I h o4 (1 : Int32).toNatClampNeg) ≤ x4)
    (y_mp <|
    y_br (x2 = 0)
      (y_gd (z_ix ((8 : Int32) + x1) (z_N h o4)) <|
      some ((z_I h o4 ((8 : Int32) + x1).toNatClampNeg), h))
      (y_br (x2 = 1)
        (y_gd (z_ix ((16 : Int32) + x1) (z_N h o4)) <|
        some ((z_I h o4 ((16 : Int32) + x1).toNatClampNeg), h))
        (y_br (x2 = 2)
          (y_gd (z_ix (36 : Int32) (z_N h o4)) <|
          y_bi (fX12_timesOf o0 x1 (z_I h o4 (36 : Int32).toNatClampNeg) h) fun r16 =>
          some (r16, h))
          (y_br (x2 = 3)
            (some (x3, h))
            (some ((-1 : Int32), h))))))
    (y_gd (z_ix ((30 : Int32) + x4) (z_N h o4)) <|
    y_bi (fX12_bitOf (z_I h o4 ((30 : Int32) + x4).toNatClampNeg) x1) fun r23 =>
    y_br (r23 = 0)
      (fX12_test_b57 o0 x1 x2 x4 x3 (0 : Int32) h)
      (fX12_test_b57 o0 x1 x2 x4 x3 ((1 : Int32) <<< (x4 &&& 31)) h))
noncomputable def fX12_test_b20 (o0 : Nat) (x1 : Int32) (x2 : Int32) (x3 : Int32) (x4 : Int32) (h : z_T) : Option (Int32 × z_T) := y_lp (fun q : Int32 × Int32 => fX12_test_b20_i o0 x1 x2 h q.1 q.2) (x3, x4)
noncomputable def fX12_test (o0 : Nat) (x1 : Int32) (x2 : Int32) (h : z_T) : Option (Int32 × z_T) :=
  y_gd (z_ok h o0 11) <|
  y_nm (z_sI h o0 0 (0 : Int32)) fun h29 =>
  y_bi (fX12_isTest o0 x1 h29) fun r31 =>
  y_br (r31 = 0)
    (some ((-1 : Int32), h29))
    (fX12_test_b20 o0 x1 x2 (0 : Int32) (0 : Int32) h29)
set_option maxHeartbeats 4000000 in
set_option maxRecDepth 100000 in
theorem mm_X12_test {G : z_Gt} {S : State → Prop} (hSK : z_SK S) (l : Launch) (ad : Nat → Nat) (o0 : Nat) (x1 : Int32) (x2 : Int32) (h : z_T) {r0 : Int32} {h9 : z_T} (hv : fX12_test o0 x1 x2 h = some (r0, h9)) : z_Mi G S l yX12_test cX12_test 5 (.int) rm_X12_test 0 0 [.ref (ad o0), .int x1, .int x2] ad h h9 r0 := by
  refine z_ofW hSK (by decide) (Nat.le_of_ble_eq_true rfl) ?_
  intro p e s m args below meth c ls hc hr hnm hB hl
  have hx := hc.1.1
  have hb := hc.1.2.1
  have hown := hc.1.2.2.2.1
  have hts := hc.1.2.2.2.2
  replace hc : z_C G S ad (z_n h) p m c cX12_test 5 s args RX12 meth := hc
  replace hown : s.vm.findClass RX12 = some m.cls := hown
  replace hl : lv_has ls 5 [(0, .ref (ad o0)), (1, .int x1), (2, .int x2)] := hl
  show W p l e rm_X12_test s m args below meth c s.heap [] 0 0 (MQ below (z_Qi G ad h9 (z_n h) s.heap.size r0) args s 0 0 (z_A ad (z_n h) s.heap.size)) (F0 m 0 ls [])
  obtain ⟨rs, kt⟩ : ∃ rs : Int32 × z_T, rs = (r0, h9) := ⟨_, rfl⟩
  generalize hn0 : z_n h = n0 at hc hB ⊢
  have L20 : ∀ (h : z_T) (nn20 : Nat) (x3 : Int32) (x4 : Int32) (H : Heap) (locs : List Loc) (ls : Array Slot), z_B G ad n0 s h H locs → lv_has ls 5 [(0, .ref (ad o0)), (1, .int x1), (2, .int x2), (3, .int x3), (4, .int x4)] → ∀ vv20, y_lpN (fun q : Int32 × Int32 => fX12_test_b20_i o0 x1 x2 h q.1 q.2) nn20 (x3, x4) = some vv20 → vv20 = (r0, h9) → W p l e rm_X12_test s m args below meth c H locs 0 0 (MQ below (z_Qi G ad h9 n0 s.heap.size r0) args s 0 0 (z_A ad n0 s.heap.size)) (F0 m 20 ls []) := by
    intro h nn20
    induction nn20 with
    | zero => intro x3 x4 H locs ls hB hl vv20 hv kv20; exact absurd hv (fun q => y_lpN_0 q)
    | succ nn20 ih20 =>
      intro x3 x4 H locs ls hB hl vv20 hv kv20
      obtain ⟨w, hq, kw20⟩ := y_lpN_e hv
      clear hv
      have hv : fX12_test_b20_i o0 x1 x2 h x3 x4 = some w := hq
      clear hq
      have b57 : ∀ (x4 : Int32) (s0 : Int32) (s1 : Int32) (H : Heap) (locs : List Loc) (ls : Array Slot), z_B G ad n0 s h H locs → lv_has ls 5 [(0, .ref (ad o0)), (1, .int x1), (2, .int x2), (4, .int x4)] → ∀ w, fX12_test_b57 o0 x1 x2 x4 s0 s1 h = some w → y_lq (fun q : Int32 × Int32 => fX12_test_b20_i o0 x1 x2 h q.1 q.2) nn20 vv20 w → W p l e rm_X12_test s m args below meth c H locs 0 0 (MQ below (z_Qi G ad h9 n0 s.heap.size r0) args s 0 0 (z_A ad n0 s.heap.size)) (F0 m 57 ls [.int s1, .int s0]) := by
        intro x4 s0 s1 H locs ls hB hl w hv kw20
        refine lv_ior hx hb dX12_test_57 ?_
        obtain ⟨v1, ev1, hv⟩ := y_nm_e hv
        rw [← ev1]
        refine lv_istore_n (lv' := [(3, .int v1), (0, .ref (ad o0)), (1, .int x1), (2, .int x2), (4, .int x4)]) hx hb dX12_test_58 rfl hl (by decide) rfl (fun ls hl => ?_)
        obtain ⟨v2, ev2, hv⟩ := y_nm_e hv
        refine lv_iinc (v := v2) (lv' := [(4, .int v2), (3, .int v1), (0, .ref (ad o0)), (1, .int x1), (2, .int x2)]) hx hb dX12_test_59 hl (k := 4) rfl (by rw [ev2]; rfl) (by decide) rfl (fun ls hl => ?_)
        refine lv_goto (tgt := 20) hx hb dX12_test_62 (by decide) ?_
        replace hv := Option.some.inj hv
        subst hv
        exact ih20 v1 v2 _ _ _ hB (lv_sub hl [2, 3, 4, 1, 0] rfl) _ kw20 kv20
      refine lv_iload hx hb dX12_test_20 (lv_at hl 4 rfl) ?_
      refine lv_aload_n hx hb dX12_test_22 rfl (lv_at hl 0 rfl) ?_
      obtain ⟨g3, hv⟩ := y_gd_e hv
      obtain ⟨o4, eo4, hv⟩ := y_bi_e hv
      refine z_getR hc hB 11 6 g3 eo4 (by decide) (by decide) rfl (z_l1 hc qfX12_33) dX12_test_23 ?_
      refine lv_iconst (v := (1 : Int32)) hx hb dX12_test_26 (by decide) ?_
      obtain ⟨g5, hv⟩ := y_gd_e hv
      obtain ⟨i6, hv⟩ := y_gd_e hv
      refine z_iald hc hB g5 i6 dX12_test_27 ?_
      refine lv_icmp_ge (tgt := 65) hx hb dX12_test_28 (by decide) (fun c7 => ?_) (fun c7 => ?_)
      · replace hv := y_br_t hv c7
        obtain ⟨t8, hq, ew⟩ := y_mp_e hv
        clear hv; subst ew
        replace kw20 : t8 = _ := kw20
        subst kw20
        have hv := hq
        clear hq
        refine lv_iload_n hx hb dX12_test_65 rfl (lv_at hl 2 rfl) ?_
        by_cases c9 : x2 = 0
        · replace hv := y_br_t hv c9
          refine lv_tableIn (off := 30) (tgt := 96) hx hb dX12_test_66 (by rw [c9]; decide) (by rw [c9]; decide) (by rw [c9]; rfl) (by decide) ?_
          refine lv_aload_n hx hb dX12_test_96 rfl (lv_at hl 0 rfl) ?_
          refine z_getR hc hB 11 6 g3 eo4 (by decide) (by decide) rfl (z_l1 hc qfX12_33) dX12_test_97 ?_
          refine lv_bipush (v := (8 : Int32)) hx hb dX12_test_100 (by decide) ?_
          refine lv_iload_n hx hb dX12_test_102 rfl (lv_at hl 1 rfl) ?_
          refine lv_iadd hx hb dX12_test_103 ?_
          obtain ⟨i10, hv⟩ := y_gd_e hv
          refine z_iald hc hB g5 i10 dX12_test_104 ?_
          replace hv := Option.some.inj hv
          subst hv
          obtain ⟨e1, e2⟩ := y_pr kv20
          rw [← e1, ← e2]
          exact z_iret hc hB hr dX12_test_105
        · replace hv := y_br_f hv c9
          by_cases c11 : x2 = 1
          · replace hv := y_br_t hv c11
            refine lv_tableIn (off := 40) (tgt := 106) hx hb dX12_test_66 (by rw [c11]; decide) (by rw [c11]; decide) (by rw [c11]; rfl) (by decide) ?_
            refine lv_aload_n hx hb dX12_test_106 rfl (lv_at hl 0 rfl) ?_
            refine z_getR hc hB 11 6 g3 eo4 (by decide) (by decide) rfl (z_l1 hc qfX12_33) dX12_test_107 ?_
            refine lv_bipush (v := (16 : Int32)) hx hb dX12_test_110 (by decide) ?_
            refine lv_iload_n hx hb dX12_test_112 rfl (lv_at hl 1 rfl) ?_
            refine lv_iadd hx hb dX12_test_113 ?_
            obtain ⟨i12, hv⟩ := y_gd_e hv
            refine z_iald hc hB g5 i12 dX12_test_114 ?_
            replace hv := Option.some.inj hv
            subst hv
            obtain ⟨e1, e2⟩ := y_pr kv20
            rw [← e1, ← e2]
            exact z_iret hc hB hr dX12_test_115
          · replace hv := y_br_f hv c11
            by_cases c13 : x2 = 2
            · replace hv := y_br_t hv c13
              refine lv_tableIn (off := 50) (tgt := 116) hx hb dX12_test_66 (by rw [c13]; decide) (by rw [c13]; decide) (by rw [c13]; rfl) (by decide) ?_
              refine lv_aload_n hx hb dX12_test_116 rfl (lv_at hl 0 rfl) ?_
              refine lv_iload_n hx hb dX12_test_117 rfl (lv_at hl 1 rfl) ?_
              refine lv_aload_n hx hb dX12_test_118 rfl (lv_at hl 0 rfl) ?_
              refine z_getR hc hB 11 6 g3 eo4 (by decide) (by decide) rfl (z_l1 hc qfX12_33) dX12_test_119 ?_
              refine lv_bipush (v := (36 : Int32)) hx hb dX12_test_122 (by decide) ?_
              obtain ⟨i14, hv⟩ := y_gd_e hv
              refine z_iald hc hB g5 i14 dX12_test_124 ?_
              obtain ⟨r16, c15, hv⟩ := y_bi_e hv
              refine z_thI hc hB (z_runV hc hB 11 (mm_X12_timesOf hSK l ad o0 x1 (z_I h o4 (36 : Int32).toNatClampNeg) h c15) md_X12_timesOf qmX12_244 g3 (by decide) rfl rfl rfl ⟨Nat.le_of_ble_eq_true rfl, Nat.le_of_ble_eq_true rfl⟩ rfl hl.1 rfl (Nat.le_of_ble_eq_true rfl) dX12_test_125 ⟨Nat.le_of_ble_eq_true rfl, Nat.le_of_ble_eq_true rfl⟩) (fun H locs hB => ?_)
              replace hv := Option.some.inj hv
              subst hv
              obtain ⟨e1, e2⟩ := y_pr kv20
              rw [← e1, ← e2]
              exact z_iret hc hB hr dX12_test_128
            · replace hv := y_br_f hv c13
              by_cases c20 : x2 = 3
              · replace hv := y_br_t hv c20
                refine lv_tableIn (off := 63) (tgt := 129) hx hb dX12_test_66 (by rw [c20]; decide) (by rw [c20]; decide) (by rw [c20]; rfl) (by decide) ?_
                refine lv_iload_n hx hb dX12_test_129 rfl (lv_at hl 3 rfl) ?_
                replace hv := Option.some.inj hv
                subst hv
                obtain ⟨e1, e2⟩ := y_pr kv20
                rw [← e1, ← e2]
                exact z_iret hc hB hr dX12_test_130
              · replace hv := y_br_f hv c20
                refine lv_tableOut (tgt := 131) hx hb dX12_test_66 (by have := y_nt (z := 0) (by decide) c9; have := y_nt (z := 1) (by decide) c11; have := y_nt (z := 2) (by decide) c13; have := y_nt (z := 3) (by decide) c20; omega) (by decide) ?_
                refine lv_iconst (v := (-1 : Int32)) hx hb dX12_test_131 (by decide) ?_
                replace hv := Option.some.inj hv
                subst hv
                obtain ⟨e1, e2⟩ := y_pr kv20
                rw [← e1, ← e2]
                exact z_iret hc hB hr dX12_test_132
      · replace hv := y_br_f hv c7
        refine lv_iload_n hx hb dX12_test_31 rfl (lv_at hl 3 rfl) ?_
        refine lv_aload_n hx hb dX12_test_32 rfl (lv_at hl 0 rfl) ?_
        refine z_getR hc hB 11 6 g3 eo4 (by decide) (by decide) rfl (z_l1 hc qfX12_33) dX12_test_33 ?_
        refine lv_bipush (v := (30 : Int32)) hx hb dX12_test_36 (by decide) ?_
        refine lv_iload hx hb dX12_test_38 (lv_at hl 4 rfl) ?_
        refine lv_iadd hx hb dX12_test_40 ?_
        obtain ⟨i21, hv⟩ := y_gd_e hv
        refine z_iald hc hB g5 i21 dX12_test_41 ?_
        refine lv_iload_n hx hb dX12_test_42 rfl (lv_at hl 1 rfl) ?_
        obtain ⟨r23, c22, hv⟩ := y_bi_e hv
        refine z_thI hc hB (z_runS hc hB (mm_X12_bitOf hSK l ad (z_I h o4 ((30 : Int32) + x4).toNatClampNeg) x1 h c22) md_X12_bitOf qmX12_210 rfl rfl ⟨Nat.le_of_ble_eq_true rfl, Nat.le_of_ble_eq_true rfl⟩ rfl hl.1 rfl (Nat.le_of_ble_eq_true rfl) dX12_test_43 ⟨Nat.le_of_ble_eq_true rfl, Nat.le_of_ble_eq_true rfl⟩) (fun H locs hB => ?_)
        refine lv_if_eq (tgt := 56) hx hb dX12_test_46 (by decide) (fun c27 => ?_) (fun c27 => ?_)
        · replace hv := y_br_t hv c27
          refine lv_iconst (v := (0 : Int32)) hx hb dX12_test_56 (by decide) ?_
          exact b57 x4 x3 (0 : Int32) _ _ _ hB (lv_sub hl [0, 1, 2, 4] rfl) _ hv kw20
        · replace hv := y_br_f hv c27
          refine lv_iconst (v := (1 : Int32)) hx hb dX12_test_49 (by decide) ?_
          refine lv_iload hx hb dX12_test_50 (lv_at hl 4 rfl) ?_
          refine lv_ishl hx hb dX12_test_52 ?_
          refine lv_goto (tgt := 57) hx hb dX12_test_53 (by decide) ?_
          exact b57 x4 x3 ((1 : Int32) <<< (x4 &&& 31)) _ _ _ hB (lv_sub hl [0, 1, 2, 4] rfl) _ hv kw20
  rw [← kt] at hv
  refine lv_aload_n hx hb dX12_test_0 rfl (lv_at hl 0 rfl) ?_
  refine lv_iconst (v := (0 : Int32)) hx hb dX12_test_1 (by decide) ?_
  obtain ⟨g28, hv⟩ := y_gd_e hv
  obtain ⟨h29, eh29, hv⟩ := y_nm_e hv
  refine y_putI hc hB 11 0 eh29 g28 (z_l1 hc qfX12_1) dX12_test_2 (by decide) (by decide) rfl rfl rfl rfl (fun H locs hB => ?_)
  refine lv_aload_n hx hb dX12_test_5 rfl (lv_at hl 0 rfl) ?_
  refine lv_iload_n hx hb dX12_test_6 rfl (lv_at hl 1 rfl) ?_
  obtain ⟨r31, c30, hv⟩ := y_bi_e hv
  refine z_thI hc hB (z_runV hc hB 11 (mm_X12_isTest hSK l ad o0 x1 h29 c30) md_X12_isTest qmX12_241 (by rw [eh29]; exact g28) (by decide) rfl rfl rfl ⟨Nat.le_of_ble_eq_true rfl, Nat.le_of_ble_eq_true rfl⟩ rfl hl.1 rfl (Nat.le_of_ble_eq_true rfl) dX12_test_7 ⟨Nat.le_of_ble_eq_true rfl, Nat.le_of_ble_eq_true rfl⟩) (fun H locs hB => ?_)
  refine lv_if_ne (tgt := 15) hx hb dX12_test_10 (by decide) (fun c35 => ?_) (fun c35 => ?_)
  · replace hv := y_br_f hv c35
    refine lv_iconst (v := (0 : Int32)) hx hb dX12_test_15 (by decide) ?_
    refine lv_istore_n (lv' := [(3, .int (0 : Int32)), (0, .ref (ad o0)), (1, .int x1), (2, .int x2)]) hx hb dX12_test_16 rfl hl (by decide) rfl (fun ls hl => ?_)
    refine lv_iconst (v := (0 : Int32)) hx hb dX12_test_17 (by decide) ?_
    refine lv_istore (lv' := [(4, .int (0 : Int32)), (3, .int (0 : Int32)), (0, .ref (ad o0)), (1, .int x1), (2, .int x2)]) hx hb dX12_test_18 hl (by decide) rfl (fun ls hl => ?_)
    obtain ⟨n, hv⟩ := y_lp_e hv
    exact L20 h29 n (0 : Int32) (0 : Int32) _ _ _ hB (lv_sub hl [2, 3, 4, 1, 0] rfl) _ hv kt
  · replace hv := y_br_t hv c35
    refine lv_iconst (v := (-1 : Int32)) hx hb dX12_test_13 (by decide) ?_
    replace hv := Option.some.inj hv
    subst hv
    obtain ⟨e1, e2⟩ := y_pr kt
    rw [← e1, ← e2]
    exact z_iret hc hB hr dX12_test_14
theorem qmX12_247 : Cond.methodLink RX12 247 yX12_isDream ∈ z_ws := List.mem_filter.mpr ⟨List.mem_append_right _ (List.mem_of_getElem? (i := 1564) (by decide +kernel)), rfl⟩
theorem qc_X12_isDream : Cond.code yX12_isDream cX12_isDream 2 (some .boolean) ∈ z_ws := List.mem_filter.mpr ⟨List.mem_append_right _ (List.mem_of_getElem? (i := 1567) (by decide +kernel)), rfl⟩
theorem qi_X12_isDream : Cond.instanceMethod yX12_isDream ∈ z_ws := List.mem_filter.mpr ⟨List.mem_append_right _ (List.mem_of_getElem? (i := 1566) (by decide +kernel)), rfl⟩
theorem qs_X12_isDream : Cond.selects RX12 yX12_isDream yX12_isDream ∈ z_ws := List.mem_filter.mpr ⟨List.mem_append_left _ (List.mem_of_getElem? (i := 50) (by decide +kernel)), rfl⟩
theorem md_X12_isDream : z_mdV yX12_isDream cX12_isDream 2 (some .boolean) 1 := ⟨⟨qn_RX12, qc_X12_isDream, ⟨by decide +kernel, by decide +kernel, by decide +kernel⟩⟩, qi_X12_isDream, qs_X12_isDream⟩
theorem dX12_dream_0 : decode cX12_dream 0 = .ok (.aload_n 0, 1) := by decide +kernel
theorem dX12_dream_1 : decode cX12_dream 1 = .ok (.iconst 0, 1) := by decide +kernel
theorem dX12_dream_2 : decode cX12_dream 2 = .ok (.putfield 1, 3) := by decide +kernel
theorem dX12_dream_5 : decode cX12_dream 5 = .ok (.aload_n 0, 1) := by decide +kernel
theorem dX12_dream_6 : decode cX12_dream 6 = .ok (.iload_n 1, 1) := by decide +kernel
theorem dX12_dream_7 : decode cX12_dream 7 = .ok (.invokevirtual 247, 3) := by decide +kernel
theorem dX12_dream_10 : decode cX12_dream 10 = .ok (.ifCond .eq 40, 3) := by decide +kernel
theorem dX12_dream_13 : decode cX12_dream 13 = .ok (.iload_n 2, 1) := by decide +kernel
theorem dX12_dream_14 : decode cX12_dream 14 = .ok (.iconst 0, 1) := by decide +kernel
theorem dX12_dream_15 : decode cX12_dream 15 = .ok (.iconst 1, 1) := by decide +kernel
theorem dX12_dream_16 : decode cX12_dream 16 = .ok (.invokestatic 188, 3) := by decide +kernel
theorem dX12_dream_19 : decode cX12_dream 19 = .ok (.ifCond .eq 31, 3) := by decide +kernel
theorem dX12_dream_22 : decode cX12_dream 22 = .ok (.iload_n 2, 1) := by decide +kernel
theorem dX12_dream_23 : decode cX12_dream 23 = .ok (.ifCond .ne 15, 3) := by decide +kernel
theorem dX12_dream_26 : decode cX12_dream 26 = .ok (.aload_n 0, 1) := by decide +kernel
theorem dX12_dream_27 : decode cX12_dream 27 = .ok (.getfield 33, 3) := by decide +kernel
theorem dX12_dream_30 : decode cX12_dream 30 = .ok (.bipush 24, 2) := by decide +kernel
theorem dX12_dream_32 : decode cX12_dream 32 = .ok (.iload_n 1, 1) := by decide +kernel
theorem dX12_dream_33 : decode cX12_dream 33 = .ok (.iadd, 1) := by decide +kernel
theorem dX12_dream_34 : decode cX12_dream 34 = .ok (.iaload, 1) := by decide +kernel
theorem dX12_dream_35 : decode cX12_dream 35 = .ok (.goto 16, 3) := by decide +kernel
theorem dX12_dream_38 : decode cX12_dream 38 = .ok (.aload_n 0, 1) := by decide +kernel
theorem dX12_dream_39 : decode cX12_dream 39 = .ok (.getfield 33, 3) := by decide +kernel
theorem dX12_dream_42 : decode cX12_dream 42 = .ok (.bipush 30, 2) := by decide +kernel
theorem dX12_dream_44 : decode cX12_dream 44 = .ok (.iload_n 1, 1) := by decide +kernel
theorem dX12_dream_45 : decode cX12_dream 45 = .ok (.iadd, 1) := by decide +kernel
theorem dX12_dream_46 : decode cX12_dream 46 = .ok (.iaload, 1) := by decide +kernel
theorem dX12_dream_47 : decode cX12_dream 47 = .ok (.goto 4, 3) := by decide +kernel
theorem dX12_dream_50 : decode cX12_dream 50 = .ok (.iconst (-1), 1) := by decide +kernel
theorem dX12_dream_51 : decode cX12_dream 51 = .ok (.ireturn, 1) := by decide +kernel
abbrev rm_X12_dream : Room := { frames := 2, cells := 0, slots := 0, locals := 43 }
noncomputable def fX12_dream_b50  (h : z_T) : Option (Int32 × z_T) :=
  some ((-1 : Int32), h)
noncomputable def fX12_dream (o0 : Nat) (x1 : Int32) (x2 : Int32) (h : z_T) : Option (Int32 × z_T) :=
  y_gd (z_ok h o0 11) <|
  y_nm (z_sI h o0 0 (0 : Int32)) fun h2 =>
  y_bi (fX12_isDream o0 x1 h2) fun r4 =>
  y_br (r4 = 0)
    (fX12_dream_b50 h2)
    (y_bi (fX12_isIn x2 (0 : Int32) (1 : Int32)) fun r10 =>
    y_br (r10 = 0)
      (fX12_dream_b50 h2)
      (y_br (x2 = 0)
        (y_bi (z_R h2 o0 6) fun o19 =>
        y_gd (z_ok h2 o19 13) <|
        y_gd (z_ix ((24 : Int32) + x1) (z_N h2 o19)) <|
        some ((z_I h2 o19 ((24 : Int32) + x1).toNatClampNeg), h2))
        (y_bi (z_R h2 o0 6) fun o16 =>
        y_gd (z_ok h2 o16 13) <|
        y_gd (z_ix ((30 : Int32) + x1) (z_N h2 o16)) <|
        some ((z_I h2 o16 ((30 : Int32) + x1).toNatClampNeg), h2))))
set_option maxHeartbeats 4000000 in
set_option maxRecDepth 100000 in
theorem mm_X12_dream {G : z_Gt} {S : State → Prop} (hSK : z_SK S) (l : Launch) (ad : Nat → Nat) (o0 : Nat) (x1 : Int32) (x2 : Int32) (h : z_T) {r0 : Int32} {h9 : z_T} (hv : fX12_dream o0 x1 x2 h = some (r0, h9)) : z_Mi G S l yX12_dream cX12_dream 3 (.int) rm_X12_dream 0 0 [.ref (ad o0), .int x1, .int x2] ad h h9 r0 := by
  refine z_ofW hSK (by decide) (Nat.le_of_ble_eq_true rfl) ?_
  intro p e s m args below meth c ls hc hr hnm hB hl
  have hx := hc.1.1
  have hb := hc.1.2.1
  have hown := hc.1.2.2.2.1
  have hts := hc.1.2.2.2.2
  replace hc : z_C G S ad (z_n h) p m c cX12_dream 3 s args RX12 meth := hc
  replace hown : s.vm.findClass RX12 = some m.cls := hown
  replace hl : lv_has ls 3 [(0, .ref (ad o0)), (1, .int x1), (2, .int x2)] := hl
  show W p l e rm_X12_dream s m args below meth c s.heap [] 0 0 (MQ below (z_Qi G ad h9 (z_n h) s.heap.size r0) args s 0 0 (z_A ad (z_n h) s.heap.size)) (F0 m 0 ls [])
  obtain ⟨rs, kt⟩ : ∃ rs : Int32 × z_T, rs = (r0, h9) := ⟨_, rfl⟩
  generalize hn0 : z_n h = n0 at hc hB ⊢
  have b50 : ∀ (h : z_T) (H : Heap) (locs : List Loc) (ls : Array Slot), z_B G ad n0 s h H locs → lv_has ls 3 [] → ∀ w, fX12_dream_b50 h = some w → w = (r0, h9) → W p l e rm_X12_dream s m args below meth c H locs 0 0 (MQ below (z_Qi G ad h9 n0 s.heap.size r0) args s 0 0 (z_A ad n0 s.heap.size)) (F0 m 50 ls []) := by
    intro h H locs ls hB hl w hv kb
    refine lv_iconst (v := (-1 : Int32)) hx hb dX12_dream_50 (by decide) ?_
    replace hv := Option.some.inj hv
    subst hv
    obtain ⟨e1, e2⟩ := y_pr kb
    rw [← e1, ← e2]
    exact z_iret hc hB hr dX12_dream_51
  rw [← kt] at hv
  refine lv_aload_n hx hb dX12_dream_0 rfl (lv_at hl 0 rfl) ?_
  refine lv_iconst (v := (0 : Int32)) hx hb dX12_dream_1 (by decide) ?_
  obtain ⟨g1, hv⟩ := y_gd_e hv
  obtain ⟨h2, eh2, hv⟩ := y_nm_e hv
  refine y_putI hc hB 11 0 eh2 g1 (z_l1 hc qfX12_1) dX12_dream_2 (by decide) (by decide) rfl rfl rfl rfl (fun H locs hB => ?_)
  refine lv_aload_n hx hb dX12_dream_5 rfl (lv_at hl 0 rfl) ?_
  refine lv_iload_n hx hb dX12_dream_6 rfl (lv_at hl 1 rfl) ?_
  obtain ⟨r4, c3, hv⟩ := y_bi_e hv
  refine z_thI hc hB (z_runV hc hB 11 (mm_X12_isDream hSK l ad o0 x1 h2 c3) md_X12_isDream qmX12_247 (by rw [eh2]; exact g1) (by decide) rfl rfl rfl ⟨Nat.le_of_ble_eq_true rfl, Nat.le_of_ble_eq_true rfl⟩ rfl hl.1 rfl (Nat.le_of_ble_eq_true rfl) dX12_dream_7 ⟨Nat.le_of_ble_eq_true rfl, Nat.le_of_ble_eq_true rfl⟩) (fun H locs hB => ?_)
  refine lv_if_eq (tgt := 50) hx hb dX12_dream_10 (by decide) (fun c8 => ?_) (fun c8 => ?_)
  · replace hv := y_br_t hv c8
    exact b50 h2 _ _ _ hB (lv_sub hl [] rfl) _ hv kt
  · replace hv := y_br_f hv c8
    refine lv_iload_n hx hb dX12_dream_13 rfl (lv_at hl 2 rfl) ?_
    refine lv_iconst (v := (0 : Int32)) hx hb dX12_dream_14 (by decide) ?_
    refine lv_iconst (v := (1 : Int32)) hx hb dX12_dream_15 (by decide) ?_
    obtain ⟨r10, c9, hv⟩ := y_bi_e hv
    refine z_thI hc hB (z_runS hc hB (mm_X12_isIn hSK l ad x2 (0 : Int32) (1 : Int32) h2 c9) md_X12_isIn qmX12_188 rfl rfl ⟨Nat.le_of_ble_eq_true rfl, Nat.le_of_ble_eq_true rfl⟩ rfl hl.1 rfl (Nat.le_of_ble_eq_true rfl) dX12_dream_16 ⟨Nat.le_of_ble_eq_true rfl, Nat.le_of_ble_eq_true rfl⟩) (fun H locs hB => ?_)
    refine lv_if_eq (tgt := 50) hx hb dX12_dream_19 (by decide) (fun c14 => ?_) (fun c14 => ?_)
    · replace hv := y_br_t hv c14
      exact b50 h2 _ _ _ hB (lv_sub hl [] rfl) _ hv kt
    · replace hv := y_br_f hv c14
      refine lv_iload_n hx hb dX12_dream_22 rfl (lv_at hl 2 rfl) ?_
      refine lv_if_ne (tgt := 38) hx hb dX12_dream_23 (by decide) (fun c15 => ?_) (fun c15 => ?_)
      · replace hv := y_br_f hv c15
        refine lv_aload_n hx hb dX12_dream_38 rfl (lv_at hl 0 rfl) ?_
        obtain ⟨o16, eo16, hv⟩ := y_bi_e hv
        refine z_getR hc hB 11 6 (by rw [eh2]; exact g1) eo16 (by decide) (by decide) rfl (z_l1 hc qfX12_33) dX12_dream_39 ?_
        refine lv_bipush (v := (30 : Int32)) hx hb dX12_dream_42 (by decide) ?_
        refine lv_iload_n hx hb dX12_dream_44 rfl (lv_at hl 1 rfl) ?_
        refine lv_iadd hx hb dX12_dream_45 ?_
        obtain ⟨g17, hv⟩ := y_gd_e hv
        obtain ⟨i18, hv⟩ := y_gd_e hv
        refine z_iald hc hB g17 i18 dX12_dream_46 ?_
        refine lv_goto (tgt := 51) hx hb dX12_dream_47 (by decide) ?_
        replace hv := Option.some.inj hv
        subst hv
        obtain ⟨e1, e2⟩ := y_pr kt
        rw [← e1, ← e2]
        exact z_iret hc hB hr dX12_dream_51
      · replace hv := y_br_t hv c15
        refine lv_aload_n hx hb dX12_dream_26 rfl (lv_at hl 0 rfl) ?_
        obtain ⟨o19, eo19, hv⟩ := y_bi_e hv
        refine z_getR hc hB 11 6 (by rw [eh2]; exact g1) eo19 (by decide) (by decide) rfl (z_l1 hc qfX12_33) dX12_dream_27 ?_
        refine lv_bipush (v := (24 : Int32)) hx hb dX12_dream_30 (by decide) ?_
        refine lv_iload_n hx hb dX12_dream_32 rfl (lv_at hl 1 rfl) ?_
        refine lv_iadd hx hb dX12_dream_33 ?_
        obtain ⟨g20, hv⟩ := y_gd_e hv
        obtain ⟨i21, hv⟩ := y_gd_e hv
        refine z_iald hc hB g20 i21 dX12_dream_34 ?_
        refine lv_goto (tgt := 51) hx hb dX12_dream_35 (by decide) ?_
        replace hv := Option.some.inj hv
        subst hv
        obtain ⟨e1, e2⟩ := y_pr kt
        rw [← e1, ← e2]
        exact z_iret hc hB hr dX12_dream_51
theorem dX12_plain_0 : decode cX12_plain 0 = .ok (.iload_n 1, 1) := by decide +kernel
theorem dX12_plain_1 : decode cX12_plain 1 = .ok (.ifCond .eq 21, 3) := by decide +kernel
theorem dX12_plain_4 : decode cX12_plain 4 = .ok (.aload_n 0, 1) := by decide +kernel
theorem dX12_plain_5 : decode cX12_plain 5 = .ok (.getfield 33, 3) := by decide +kernel
theorem dX12_plain_8 : decode cX12_plain 8 = .ok (.bipush 30, 2) := by decide +kernel
theorem dX12_plain_10 : decode cX12_plain 10 = .ok (.iload_n 1, 1) := by decide +kernel
theorem dX12_plain_11 : decode cX12_plain 11 = .ok (.iadd, 1) := by decide +kernel
theorem dX12_plain_12 : decode cX12_plain 12 = .ok (.iconst 1, 1) := by decide +kernel
theorem dX12_plain_13 : decode cX12_plain 13 = .ok (.isub, 1) := by decide +kernel
theorem dX12_plain_14 : decode cX12_plain 14 = .ok (.iaload, 1) := by decide +kernel
theorem dX12_plain_15 : decode cX12_plain 15 = .ok (.iload_n 2, 1) := by decide +kernel
theorem dX12_plain_16 : decode cX12_plain 16 = .ok (.invokestatic 210, 3) := by decide +kernel
theorem dX12_plain_19 : decode cX12_plain 19 = .ok (.ifCond .eq 15, 3) := by decide +kernel
theorem dX12_plain_22 : decode cX12_plain 22 = .ok (.aload_n 0, 1) := by decide +kernel
theorem dX12_plain_23 : decode cX12_plain 23 = .ok (.getfield 33, 3) := by decide +kernel
theorem dX12_plain_26 : decode cX12_plain 26 = .ok (.bipush 8, 2) := by decide +kernel
theorem dX12_plain_28 : decode cX12_plain 28 = .ok (.iload_n 2, 1) := by decide +kernel
theorem dX12_plain_29 : decode cX12_plain 29 = .ok (.iadd, 1) := by decide +kernel
theorem dX12_plain_30 : decode cX12_plain 30 = .ok (.iaload, 1) := by decide +kernel
theorem dX12_plain_31 : decode cX12_plain 31 = .ok (.goto 12, 3) := by decide +kernel
theorem dX12_plain_34 : decode cX12_plain 34 = .ok (.aload_n 0, 1) := by decide +kernel
theorem dX12_plain_35 : decode cX12_plain 35 = .ok (.getfield 33, 3) := by decide +kernel
theorem dX12_plain_38 : decode cX12_plain 38 = .ok (.bipush 16, 2) := by decide +kernel
theorem dX12_plain_40 : decode cX12_plain 40 = .ok (.iload_n 2, 1) := by decide +kernel
theorem dX12_plain_41 : decode cX12_plain 41 = .ok (.iadd, 1) := by decide +kernel
theorem dX12_plain_42 : decode cX12_plain 42 = .ok (.iaload, 1) := by decide +kernel
theorem dX12_plain_43 : decode cX12_plain 43 = .ok (.ireturn, 1) := by decide +kernel
abbrev rm_X12_plain : Room := { frames := 1, cells := 0, slots := 0, locals := 21 }
noncomputable def fX12_plain_b22 (o0 : Nat) (x2 : Int32) (h : z_T) : Option (Int32) :=
  y_gd (z_ok h o0 11) <|
  y_bi (z_R h o0 6) fun o2 =>
  y_gd (z_ok h o2 13) <|
  y_gd (z_ix ((8 : Int32) + x2) (z_N h o2)) <|
  some (z_I h o2 ((8 : Int32) + x2).toNatClampNeg)
noncomputable def fX12_plain (o0 : Nat) (x1 : Int32) (x2 : Int32) (h : z_T) : Option (Int32) :=
  y_br (x1 = 0)
    (fX12_plain_b22 o0 x2 h)
    (y_gd (z_ok h o0 11) <|
    y_bi (z_R h o0 6) fun o7 =>
    y_gd (z_ok h o7 13) <|
    y_gd (z_ix (((30 : Int32) + x1) - (1 : Int32)) (z_N h o7)) <|
    y_bi (fX12_bitOf (z_I h o7 (((30 : Int32) + x1) - (1 : Int32)).toNatClampNeg) x2) fun r11 =>
    y_br (r11 = 0)
      (y_gd (z_ix ((16 : Int32) + x2) (z_N h o7)) <|
      some (z_I h o7 ((16 : Int32) + x2).toNatClampNeg))
      (fX12_plain_b22 o0 x2 h))
set_option maxHeartbeats 4000000 in
set_option maxRecDepth 100000 in
theorem mm_X12_plain {G : z_Gt} {S : State → Prop} (hSK : z_SK S) (l : Launch) (ad : Nat → Nat) (o0 : Nat) (x1 : Int32) (x2 : Int32) (h : z_T) {r0 : Int32} (hv : fX12_plain o0 x1 x2 h = some r0) : z_Mi G S l yX12_plain cX12_plain 3 (.int) rm_X12_plain 0 0 [.ref (ad o0), .int x1, .int x2] ad h h r0 := by
  refine z_ofW hSK (by decide) (Nat.le_of_ble_eq_true rfl) ?_
  intro p e s m args below meth c ls hc hr hnm hB hl
  have hx := hc.1.1
  have hb := hc.1.2.1
  have hown := hc.1.2.2.2.1
  have hts := hc.1.2.2.2.2
  replace hc : z_C G S ad (z_n h) p m c cX12_plain 3 s args RX12 meth := hc
  replace hown : s.vm.findClass RX12 = some m.cls := hown
  replace hl : lv_has ls 3 [(0, .ref (ad o0)), (1, .int x1), (2, .int x2)] := hl
  show W p l e rm_X12_plain s m args below meth c s.heap [] 0 0 (MQ below (z_Qi G ad h (z_n h) s.heap.size r0) args s 0 0 (z_A ad (z_n h) s.heap.size)) (F0 m 0 ls [])
  obtain ⟨rs, kt⟩ : ∃ rs : Int32, rs = r0 := ⟨_, rfl⟩
  generalize hn0 : z_n h = n0 at hc hB ⊢
  have b22 : ∀ (H : Heap) (locs : List Loc) (ls : Array Slot), z_B G ad n0 s h H locs → lv_has ls 3 [(0, .ref (ad o0)), (2, .int x2)] → ∀ w, fX12_plain_b22 o0 x2 h = some w → w = r0 → W p l e rm_X12_plain s m args below meth c H locs 0 0 (MQ below (z_Qi G ad h n0 s.heap.size r0) args s 0 0 (z_A ad n0 s.heap.size)) (F0 m 22 ls []) := by
    intro H locs ls hB hl w hv kb
    refine lv_aload_n hx hb dX12_plain_22 rfl (lv_at hl 0 rfl) ?_
    obtain ⟨g1, hv⟩ := y_gd_e hv
    obtain ⟨o2, eo2, hv⟩ := y_bi_e hv
    refine z_getR hc hB 11 6 g1 eo2 (by decide) (by decide) rfl (z_l1 hc qfX12_33) dX12_plain_23 ?_
    refine lv_bipush (v := (8 : Int32)) hx hb dX12_plain_26 (by decide) ?_
    refine lv_iload_n hx hb dX12_plain_28 rfl (lv_at hl 1 rfl) ?_
    refine lv_iadd hx hb dX12_plain_29 ?_
    obtain ⟨g3, hv⟩ := y_gd_e hv
    obtain ⟨i4, hv⟩ := y_gd_e hv
    refine z_iald hc hB g3 i4 dX12_plain_30 ?_
    refine lv_goto (tgt := 43) hx hb dX12_plain_31 (by decide) ?_
    replace hv := Option.some.inj hv
    subst hv
    rw [← kb]
    exact z_iret hc hB hr dX12_plain_43
  rw [← kt] at hv
  refine lv_iload_n hx hb dX12_plain_0 rfl (lv_at hl 1 rfl) ?_
  refine lv_if_eq (tgt := 22) hx hb dX12_plain_1 (by decide) (fun c5 => ?_) (fun c5 => ?_)
  · replace hv := y_br_t hv c5
    exact b22 _ _ _ hB (lv_sub hl [0, 2] rfl) _ hv kt
  · replace hv := y_br_f hv c5
    refine lv_aload_n hx hb dX12_plain_4 rfl (lv_at hl 0 rfl) ?_
    obtain ⟨g6, hv⟩ := y_gd_e hv
    obtain ⟨o7, eo7, hv⟩ := y_bi_e hv
    refine z_getR hc hB 11 6 g6 eo7 (by decide) (by decide) rfl (z_l1 hc qfX12_33) dX12_plain_5 ?_
    refine lv_bipush (v := (30 : Int32)) hx hb dX12_plain_8 (by decide) ?_
    refine lv_iload_n hx hb dX12_plain_10 rfl (lv_at hl 1 rfl) ?_
    refine lv_iadd hx hb dX12_plain_11 ?_
    refine lv_iconst (v := (1 : Int32)) hx hb dX12_plain_12 (by decide) ?_
    refine lv_isub hx hb dX12_plain_13 ?_
    obtain ⟨g8, hv⟩ := y_gd_e hv
    obtain ⟨i9, hv⟩ := y_gd_e hv
    refine z_iald hc hB g8 i9 dX12_plain_14 ?_
    refine lv_iload_n hx hb dX12_plain_15 rfl (lv_at hl 2 rfl) ?_
    obtain ⟨r11, c10, hv⟩ := y_bi_e hv
    refine z_thI hc hB (z_runS hc hB (mm_X12_bitOf hSK l ad (z_I h o7 (((30 : Int32) + x1) - (1 : Int32)).toNatClampNeg) x2 h c10) md_X12_bitOf qmX12_210 rfl rfl ⟨Nat.le_of_ble_eq_true rfl, Nat.le_of_ble_eq_true rfl⟩ rfl hl.1 rfl (Nat.le_of_ble_eq_true rfl) dX12_plain_16 ⟨Nat.le_of_ble_eq_true rfl, Nat.le_of_ble_eq_true rfl⟩) (fun H locs hB => ?_)
    refine lv_if_eq (tgt := 34) hx hb dX12_plain_19 (by decide) (fun c15 => ?_) (fun c15 => ?_)
    · replace hv := y_br_t hv c15
      refine lv_aload_n hx hb dX12_plain_34 rfl (lv_at hl 0 rfl) ?_
      refine z_getR hc hB 11 6 g6 eo7 (by decide) (by decide) rfl (z_l1 hc qfX12_33) dX12_plain_35 ?_
      refine lv_bipush (v := (16 : Int32)) hx hb dX12_plain_38 (by decide) ?_
      refine lv_iload_n hx hb dX12_plain_40 rfl (lv_at hl 2 rfl) ?_
      refine lv_iadd hx hb dX12_plain_41 ?_
      obtain ⟨i16, hv⟩ := y_gd_e hv
      refine z_iald hc hB g8 i16 dX12_plain_42 ?_
      replace hv := Option.some.inj hv
      subst hv
      rw [← kt]
      exact z_iret hc hB hr dX12_plain_43
    · replace hv := y_br_f hv c15
      exact b22 _ _ _ hB (lv_sub hl [0, 2] rfl) _ hv kt
theorem qmX12_250 : Cond.methodLink RX12 250 yX12_plain ∈ z_ws := List.mem_filter.mpr ⟨List.mem_append_right _ (List.mem_of_getElem? (i := 1576) (by decide +kernel)), rfl⟩
theorem qc_X12_plain : Cond.code yX12_plain cX12_plain 3 (some .int) ∈ z_ws := List.mem_filter.mpr ⟨List.mem_append_right _ (List.mem_of_getElem? (i := 1579) (by decide +kernel)), rfl⟩
theorem qi_X12_plain : Cond.instanceMethod yX12_plain ∈ z_ws := List.mem_filter.mpr ⟨List.mem_append_right _ (List.mem_of_getElem? (i := 1578) (by decide +kernel)), rfl⟩
theorem qs_X12_plain : Cond.selects RX12 yX12_plain yX12_plain ∈ z_ws := List.mem_filter.mpr ⟨List.mem_append_left _ (List.mem_of_getElem? (i := 52) (by decide +kernel)), rfl⟩
theorem md_X12_plain : z_mdV yX12_plain cX12_plain 3 (some .int) 2 := ⟨⟨qn_RX12, qc_X12_plain, ⟨by decide +kernel, by decide +kernel, by decide +kernel⟩⟩, qi_X12_plain, qs_X12_plain⟩
theorem dX12_oddsOf_0 : decode cX12_oddsOf 0 = .ok (.aload_n 0, 1) := by decide +kernel
theorem dX12_oddsOf_1 : decode cX12_oddsOf 1 = .ok (.getfield 33, 3) := by decide +kernel
theorem dX12_oddsOf_4 : decode cX12_oddsOf 4 = .ok (.iconst 3, 1) := by decide +kernel
theorem dX12_oddsOf_5 : decode cX12_oddsOf 5 = .ok (.iaload, 1) := by decide +kernel
theorem dX12_oddsOf_6 : decode cX12_oddsOf 6 = .ok (.ifCond .le 18, 3) := by decide +kernel
theorem dX12_oddsOf_9 : decode cX12_oddsOf 9 = .ok (.iload_n 3, 1) := by decide +kernel
theorem dX12_oddsOf_10 : decode cX12_oddsOf 10 = .ok (.iconst 1, 1) := by decide +kernel
theorem dX12_oddsOf_11 : decode cX12_oddsOf 11 = .ok (.iadd, 1) := by decide +kernel
theorem dX12_oddsOf_12 : decode cX12_oddsOf 12 = .ok (.aload_n 0, 1) := by decide +kernel
theorem dX12_oddsOf_13 : decode cX12_oddsOf 13 = .ok (.getfield 33, 3) := by decide +kernel
theorem dX12_oddsOf_16 : decode cX12_oddsOf 16 = .ok (.iconst 3, 1) := by decide +kernel
theorem dX12_oddsOf_17 : decode cX12_oddsOf 17 = .ok (.iaload, 1) := by decide +kernel
theorem dX12_oddsOf_18 : decode cX12_oddsOf 18 = .ok (.if_icmp .lt 6, 3) := by decide +kernel
theorem dX12_oddsOf_21 : decode cX12_oddsOf 21 = .ok (.bipush 9, 2) := by decide +kernel
theorem dX12_oddsOf_23 : decode cX12_oddsOf 23 = .ok (.ireturn, 1) := by decide +kernel
theorem dX12_oddsOf_24 : decode cX12_oddsOf 24 = .ok (.iload_n 1, 1) := by decide +kernel
theorem dX12_oddsOf_25 : decode cX12_oddsOf 25 = .ok (.ifCond .le 33, 3) := by decide +kernel
theorem dX12_oddsOf_28 : decode cX12_oddsOf 28 = .ok (.aload_n 0, 1) := by decide +kernel
theorem dX12_oddsOf_29 : decode cX12_oddsOf 29 = .ok (.getfield 33, 3) := by decide +kernel
theorem dX12_oddsOf_32 : decode cX12_oddsOf 32 = .ok (.bipush 7, 2) := by decide +kernel
theorem dX12_oddsOf_34 : decode cX12_oddsOf 34 = .ok (.iaload, 1) := by decide +kernel
theorem dX12_oddsOf_35 : decode cX12_oddsOf 35 = .ok (.iconst 1, 1) := by decide +kernel
theorem dX12_oddsOf_36 : decode cX12_oddsOf 36 = .ok (.if_icmp .ne 22, 3) := by decide +kernel
theorem dX12_oddsOf_39 : decode cX12_oddsOf 39 = .ok (.aload_n 0, 1) := by decide +kernel
theorem dX12_oddsOf_40 : decode cX12_oddsOf 40 = .ok (.iload_n 2, 1) := by decide +kernel
theorem dX12_oddsOf_41 : decode cX12_oddsOf 41 = .ok (.iload_n 3, 1) := by decide +kernel
theorem dX12_oddsOf_42 : decode cX12_oddsOf 42 = .ok (.invokevirtual 244, 3) := by decide +kernel
theorem dX12_oddsOf_45 : decode cX12_oddsOf 45 = .ok (.ifCond .le 13, 3) := by decide +kernel
theorem dX12_oddsOf_48 : decode cX12_oddsOf 48 = .ok (.aload_n 0, 1) := by decide +kernel
theorem dX12_oddsOf_49 : decode cX12_oddsOf 49 = .ok (.getfield 33, 3) := by decide +kernel
theorem dX12_oddsOf_52 : decode cX12_oddsOf 52 = .ok (.bipush 8, 2) := by decide +kernel
theorem dX12_oddsOf_54 : decode cX12_oddsOf 54 = .ok (.iload_n 2, 1) := by decide +kernel
theorem dX12_oddsOf_55 : decode cX12_oddsOf 55 = .ok (.iadd, 1) := by decide +kernel
theorem dX12_oddsOf_56 : decode cX12_oddsOf 56 = .ok (.iaload, 1) := by decide +kernel
theorem dX12_oddsOf_57 : decode cX12_oddsOf 57 = .ok (.ireturn, 1) := by decide +kernel
theorem dX12_oddsOf_58 : decode cX12_oddsOf 58 = .ok (.aload_n 0, 1) := by decide +kernel
theorem dX12_oddsOf_59 : decode cX12_oddsOf 59 = .ok (.iload_n 1, 1) := by decide +kernel
theorem dX12_oddsOf_60 : decode cX12_oddsOf 60 = .ok (.iload_n 2, 1) := by decide +kernel
theorem dX12_oddsOf_61 : decode cX12_oddsOf 61 = .ok (.invokevirtual 250, 3) := by decide +kernel
theorem dX12_oddsOf_64 : decode cX12_oddsOf 64 = .ok (.ireturn, 1) := by decide +kernel
abbrev rm_X12_oddsOf : Room := { frames := 2, cells := 0, slots := 0, locals := 43 }
noncomputable def fX12_oddsOf_b58 (o0 : Nat) (x1 : Int32) (x2 : Int32) (h : z_T) : Option (Int32) :=
  y_gd (z_ok h o0 11) <|
  y_bi (fX12_plain o0 x1 x2 h) fun r2 =>
  some r2
noncomputable def fX12_oddsOf_b24 (o0 : Nat) (x1 : Int32) (x2 : Int32) (x3 : Int32) (h : z_T) : Option (Int32) :=
  y_br (x1 ≤ 0)
    (fX12_oddsOf_b58 o0 x1 x2 h)
    (y_gd (z_ok h o0 11) <|
    y_bi (z_R h o0 6) fun o9 =>
    y_gd (z_ok h o9 13) <|
    y_gd (z_ix (7 : Int32) (z_N h o9)) <|
    y_br ((z_I h o9 (7 : Int32).toNatClampNeg) = (1 : Int32))
      (y_bi (fX12_timesOf o0 x2 x3 h) fun r14 =>
      y_br (r14 ≤ 0)
        (fX12_oddsOf_b58 o0 x1 x2 h)
        (y_gd (z_ix ((8 : Int32) + x2) (z_N h o9)) <|
        some (z_I h o9 ((8 : Int32) + x2).toNatClampNeg)))
      (fX12_oddsOf_b58 o0 x1 x2 h))
noncomputable def fX12_oddsOf (o0 : Nat) (x1 : Int32) (x2 : Int32) (x3 : Int32) (h : z_T) : Option (Int32) :=
  y_gd (z_ok h o0 11) <|
  y_bi (z_R h o0 6) fun o21 =>
  y_gd (z_ok h o21 13) <|
  y_gd (z_ix (3 : Int32) (z_N h o21)) <|
  y_br ((z_I h o21 (3 : Int32).toNatClampNeg) ≤ 0)
    (fX12_oddsOf_b24 o0 x1 x2 x3 h)
    (y_gd (z_ix (3 : Int32) (z_N h o21)) <|
    y_br ((x3 + (1 : Int32)) < (z_I h o21 (3 : Int32).toNatClampNeg))
      (fX12_oddsOf_b24 o0 x1 x2 x3 h)
      (some (9 : Int32)))
set_option maxHeartbeats 4000000 in
set_option maxRecDepth 100000 in
theorem mm_X12_oddsOf {G : z_Gt} {S : State → Prop} (hSK : z_SK S) (l : Launch) (ad : Nat → Nat) (o0 : Nat) (x1 : Int32) (x2 : Int32) (x3 : Int32) (h : z_T) {r0 : Int32} (hv : fX12_oddsOf o0 x1 x2 x3 h = some r0) : z_Mi G S l yX12_oddsOf cX12_oddsOf 4 (.int) rm_X12_oddsOf 0 0 [.ref (ad o0), .int x1, .int x2, .int x3] ad h h r0 := by
  refine z_ofW hSK (by decide) (Nat.le_of_ble_eq_true rfl) ?_
  intro p e s m args below meth c ls hc hr hnm hB hl
  have hx := hc.1.1
  have hb := hc.1.2.1
  have hown := hc.1.2.2.2.1
  have hts := hc.1.2.2.2.2
  replace hc : z_C G S ad (z_n h) p m c cX12_oddsOf 4 s args RX12 meth := hc
  replace hown : s.vm.findClass RX12 = some m.cls := hown
  replace hl : lv_has ls 4 [(0, .ref (ad o0)), (1, .int x1), (2, .int x2), (3, .int x3)] := hl
  show W p l e rm_X12_oddsOf s m args below meth c s.heap [] 0 0 (MQ below (z_Qi G ad h (z_n h) s.heap.size r0) args s 0 0 (z_A ad (z_n h) s.heap.size)) (F0 m 0 ls [])
  obtain ⟨rs, kt⟩ : ∃ rs : Int32, rs = r0 := ⟨_, rfl⟩
  generalize hn0 : z_n h = n0 at hc hB ⊢
  have b58 : ∀ (H : Heap) (locs : List Loc) (ls : Array Slot), z_B G ad n0 s h H locs → lv_has ls 4 [(0, .ref (ad o0)), (1, .int x1), (2, .int x2)] → ∀ w, fX12_oddsOf_b58 o0 x1 x2 h = some w → w = r0 → W p l e rm_X12_oddsOf s m args below meth c H locs 0 0 (MQ below (z_Qi G ad h n0 s.heap.size r0) args s 0 0 (z_A ad n0 s.heap.size)) (F0 m 58 ls []) := by
    intro H locs ls hB hl w hv kb
    refine lv_aload_n hx hb dX12_oddsOf_58 rfl (lv_at hl 0 rfl) ?_
    refine lv_iload_n hx hb dX12_oddsOf_59 rfl (lv_at hl 1 rfl) ?_
    refine lv_iload_n hx hb dX12_oddsOf_60 rfl (lv_at hl 2 rfl) ?_
    obtain ⟨g6, hv⟩ := y_gd_e hv
    obtain ⟨r2, c1, hv⟩ := y_bi_e hv
    refine z_thI hc hB (z_runV hc hB 11 (mm_X12_plain hSK l ad o0 x1 x2 h c1) md_X12_plain qmX12_250 g6 (by decide) rfl rfl rfl ⟨Nat.le_of_ble_eq_true rfl, Nat.le_of_ble_eq_true rfl⟩ rfl hl.1 rfl (Nat.le_of_ble_eq_true rfl) dX12_oddsOf_61 ⟨Nat.le_of_ble_eq_true rfl, Nat.le_of_ble_eq_true rfl⟩) (fun H locs hB => ?_)
    replace hv := Option.some.inj hv
    subst hv
    rw [← kb]
    exact z_iret hc hB hr dX12_oddsOf_64
  have b24 : ∀ (H : Heap) (locs : List Loc) (ls : Array Slot), z_B G ad n0 s h H locs → lv_has ls 4 [(0, .ref (ad o0)), (1, .int x1), (2, .int x2), (3, .int x3)] → ∀ w, fX12_oddsOf_b24 o0 x1 x2 x3 h = some w → w = r0 → W p l e rm_X12_oddsOf s m args below meth c H locs 0 0 (MQ below (z_Qi G ad h n0 s.heap.size r0) args s 0 0 (z_A ad n0 s.heap.size)) (F0 m 24 ls []) := by
    intro H locs ls hB hl w hv kb
    refine lv_iload_n hx hb dX12_oddsOf_24 rfl (lv_at hl 1 rfl) ?_
    refine lv_if_le (tgt := 58) hx hb dX12_oddsOf_25 (by decide) (fun c7 => ?_) (fun c7 => ?_)
    · replace hv := y_br_t hv c7
      exact b58 _ _ _ hB (lv_sub hl [0, 1, 2] rfl) _ hv kb
    · replace hv := y_br_f hv c7
      refine lv_aload_n hx hb dX12_oddsOf_28 rfl (lv_at hl 0 rfl) ?_
      obtain ⟨g8, hv⟩ := y_gd_e hv
      obtain ⟨o9, eo9, hv⟩ := y_bi_e hv
      refine z_getR hc hB 11 6 g8 eo9 (by decide) (by decide) rfl (z_l1 hc qfX12_33) dX12_oddsOf_29 ?_
      refine lv_bipush (v := (7 : Int32)) hx hb dX12_oddsOf_32 (by decide) ?_
      obtain ⟨g10, hv⟩ := y_gd_e hv
      obtain ⟨i11, hv⟩ := y_gd_e hv
      refine z_iald hc hB g10 i11 dX12_oddsOf_34 ?_
      refine lv_iconst (v := (1 : Int32)) hx hb dX12_oddsOf_35 (by decide) ?_
      refine lv_icmp_ne (tgt := 58) hx hb dX12_oddsOf_36 (by decide) (fun c12 => ?_) (fun c12 => ?_)
      · replace hv := y_br_f hv c12
        exact b58 _ _ _ hB (lv_sub hl [0, 1, 2] rfl) _ hv kb
      · replace hv := y_br_t hv c12
        refine lv_aload_n hx hb dX12_oddsOf_39 rfl (lv_at hl 0 rfl) ?_
        refine lv_iload_n hx hb dX12_oddsOf_40 rfl (lv_at hl 2 rfl) ?_
        refine lv_iload_n hx hb dX12_oddsOf_41 rfl (lv_at hl 3 rfl) ?_
        obtain ⟨r14, c13, hv⟩ := y_bi_e hv
        refine z_thI hc hB (z_runV hc hB 11 (mm_X12_timesOf hSK l ad o0 x2 x3 h c13) md_X12_timesOf qmX12_244 g8 (by decide) rfl rfl rfl ⟨Nat.le_of_ble_eq_true rfl, Nat.le_of_ble_eq_true rfl⟩ rfl hl.1 rfl (Nat.le_of_ble_eq_true rfl) dX12_oddsOf_42 ⟨Nat.le_of_ble_eq_true rfl, Nat.le_of_ble_eq_true rfl⟩) (fun H locs hB => ?_)
        refine lv_if_le (tgt := 58) hx hb dX12_oddsOf_45 (by decide) (fun c18 => ?_) (fun c18 => ?_)
        · replace hv := y_br_t hv c18
          exact b58 _ _ _ hB (lv_sub hl [0, 1, 2] rfl) _ hv kb
        · replace hv := y_br_f hv c18
          refine lv_aload_n hx hb dX12_oddsOf_48 rfl (lv_at hl 0 rfl) ?_
          refine z_getR hc hB 11 6 g8 eo9 (by decide) (by decide) rfl (z_l1 hc qfX12_33) dX12_oddsOf_49 ?_
          refine lv_bipush (v := (8 : Int32)) hx hb dX12_oddsOf_52 (by decide) ?_
          refine lv_iload_n hx hb dX12_oddsOf_54 rfl (lv_at hl 2 rfl) ?_
          refine lv_iadd hx hb dX12_oddsOf_55 ?_
          obtain ⟨i19, hv⟩ := y_gd_e hv
          refine z_iald hc hB g10 i19 dX12_oddsOf_56 ?_
          replace hv := Option.some.inj hv
          subst hv
          rw [← kb]
          exact z_iret hc hB hr dX12_oddsOf_57
  rw [← kt] at hv
  refine lv_aload_n hx hb dX12_oddsOf_0 rfl (lv_at hl 0 rfl) ?_
  obtain ⟨g20, hv⟩ := y_gd_e hv
  obtain ⟨o21, eo21, hv⟩ := y_bi_e hv
  refine z_getR hc hB 11 6 g20 eo21 (by decide) (by decide) rfl (z_l1 hc qfX12_33) dX12_oddsOf_1 ?_
  refine lv_iconst (v := (3 : Int32)) hx hb dX12_oddsOf_4 (by decide) ?_
  obtain ⟨g22, hv⟩ := y_gd_e hv
  obtain ⟨i23, hv⟩ := y_gd_e hv
  refine z_iald hc hB g22 i23 dX12_oddsOf_5 ?_
  refine lv_if_le (tgt := 24) hx hb dX12_oddsOf_6 (by decide) (fun c24 => ?_) (fun c24 => ?_)
  · replace hv := y_br_t hv c24
    exact b24 _ _ _ hB (lv_sub hl [0, 1, 2, 3] rfl) _ hv kt
  · replace hv := y_br_f hv c24
    refine lv_iload_n hx hb dX12_oddsOf_9 rfl (lv_at hl 3 rfl) ?_
    refine lv_iconst (v := (1 : Int32)) hx hb dX12_oddsOf_10 (by decide) ?_
    refine lv_iadd hx hb dX12_oddsOf_11 ?_
    refine lv_aload_n hx hb dX12_oddsOf_12 rfl (lv_at hl 0 rfl) ?_
    refine z_getR hc hB 11 6 g20 eo21 (by decide) (by decide) rfl (z_l1 hc qfX12_33) dX12_oddsOf_13 ?_
    refine lv_iconst (v := (3 : Int32)) hx hb dX12_oddsOf_16 (by decide) ?_
    obtain ⟨i25, hv⟩ := y_gd_e hv
    refine z_iald hc hB g22 i25 dX12_oddsOf_17 ?_
    refine lv_icmp_lt (tgt := 24) hx hb dX12_oddsOf_18 (by decide) (fun c26 => ?_) (fun c26 => ?_)
    · replace hv := y_br_t hv c26
      exact b24 _ _ _ hB (lv_sub hl [0, 1, 2, 3] rfl) _ hv kt
    · replace hv := y_br_f hv c26
      refine lv_bipush (v := (9 : Int32)) hx hb dX12_oddsOf_21 (by decide) ?_
      replace hv := Option.some.inj hv
      subst hv
      rw [← kt]
      exact z_iret hc hB hr dX12_oddsOf_23
theorem dX12_weightOf_0 : decode cX12_weightOf 0 = .ok (.iload_n 1, 1) := by decide +kernel
theorem dX12_weightOf_1 : decode cX12_weightOf 1 = .ok (.ifCond .ne 12, 3) := by decide +kernel
theorem dX12_weightOf_4 : decode cX12_weightOf 4 = .ok (.aload_n 0, 1) := by decide +kernel
theorem dX12_weightOf_5 : decode cX12_weightOf 5 = .ok (.getfield 33, 3) := by decide +kernel
theorem dX12_weightOf_8 : decode cX12_weightOf 8 = .ok (.iconst 2, 1) := by decide +kernel
theorem dX12_weightOf_9 : decode cX12_weightOf 9 = .ok (.iaload, 1) := by decide +kernel
theorem dX12_weightOf_10 : decode cX12_weightOf 10 = .ok (.goto 14, 3) := by decide +kernel
theorem dX12_weightOf_13 : decode cX12_weightOf 13 = .ok (.aload_n 0, 1) := by decide +kernel
theorem dX12_weightOf_14 : decode cX12_weightOf 14 = .ok (.getfield 33, 3) := by decide +kernel
theorem dX12_weightOf_17 : decode cX12_weightOf 17 = .ok (.bipush 24, 2) := by decide +kernel
theorem dX12_weightOf_19 : decode cX12_weightOf 19 = .ok (.iload_n 1, 1) := by decide +kernel
theorem dX12_weightOf_20 : decode cX12_weightOf 20 = .ok (.iadd, 1) := by decide +kernel
theorem dX12_weightOf_21 : decode cX12_weightOf 21 = .ok (.iconst 1, 1) := by decide +kernel
theorem dX12_weightOf_22 : decode cX12_weightOf 22 = .ok (.isub, 1) := by decide +kernel
theorem dX12_weightOf_23 : decode cX12_weightOf 23 = .ok (.iaload, 1) := by decide +kernel
theorem dX12_weightOf_24 : decode cX12_weightOf 24 = .ok (.ireturn, 1) := by decide +kernel
abbrev rm_X12_weightOf : Room := { frames := 0, cells := 0, slots := 0, locals := 0 }
noncomputable def fX12_weightOf (o0 : Nat) (x1 : Int32) (h : z_T) : Option (Int32) :=
  y_br (x1 = 0)
    (y_gd (z_ok h o0 11) <|
    y_bi (z_R h o0 6) fun o7 =>
    y_gd (z_ok h o7 13) <|
    y_gd (z_ix (2 : Int32) (z_N h o7)) <|
    some (z_I h o7 (2 : Int32).toNatClampNeg))
    (y_gd (z_ok h o0 11) <|
    y_bi (z_R h o0 6) fun o3 =>
    y_gd (z_ok h o3 13) <|
    y_gd (z_ix (((24 : Int32) + x1) - (1 : Int32)) (z_N h o3)) <|
    some (z_I h o3 (((24 : Int32) + x1) - (1 : Int32)).toNatClampNeg))
set_option maxHeartbeats 4000000 in
set_option maxRecDepth 100000 in
theorem mm_X12_weightOf {G : z_Gt} {S : State → Prop} (hSK : z_SK S) (l : Launch) (ad : Nat → Nat) (o0 : Nat) (x1 : Int32) (h : z_T) {r0 : Int32} (hv : fX12_weightOf o0 x1 h = some r0) : z_Mi G S l yX12_weightOf cX12_weightOf 2 (.int) rm_X12_weightOf 0 0 [.ref (ad o0), .int x1] ad h h r0 := by
  refine z_ofW hSK (by decide) (Nat.le_of_ble_eq_true rfl) ?_
  intro p e s m args below meth c ls hc hr hnm hB hl
  have hx := hc.1.1
  have hb := hc.1.2.1
  have hown := hc.1.2.2.2.1
  have hts := hc.1.2.2.2.2
  replace hc : z_C G S ad (z_n h) p m c cX12_weightOf 2 s args RX12 meth := hc
  replace hown : s.vm.findClass RX12 = some m.cls := hown
  replace hl : lv_has ls 2 [(0, .ref (ad o0)), (1, .int x1)] := hl
  show W p l e rm_X12_weightOf s m args below meth c s.heap [] 0 0 (MQ below (z_Qi G ad h (z_n h) s.heap.size r0) args s 0 0 (z_A ad (z_n h) s.heap.size)) (F0 m 0 ls [])
  obtain ⟨rs, kt⟩ : ∃ rs : Int32, rs = r0 := ⟨_, rfl⟩
  generalize hn0 : z_n h = n0 at hc hB ⊢
  rw [← kt] at hv
  refine lv_iload_n hx hb dX12_weightOf_0 rfl (lv_at hl 1 rfl) ?_
  refine lv_if_ne (tgt := 13) hx hb dX12_weightOf_1 (by decide) (fun c1 => ?_) (fun c1 => ?_)
  · replace hv := y_br_f hv c1
    refine lv_aload_n hx hb dX12_weightOf_13 rfl (lv_at hl 0 rfl) ?_
    obtain ⟨g2, hv⟩ := y_gd_e hv
    obtain ⟨o3, eo3, hv⟩ := y_bi_e hv
    refine z_getR hc hB 11 6 g2 eo3 (by decide) (by decide) rfl (z_l1 hc qfX12_33) dX12_weightOf_14 ?_
    refine lv_bipush (v := (24 : Int32)) hx hb dX12_weightOf_17 (by decide) ?_
    refine lv_iload_n hx hb dX12_weightOf_19 rfl (lv_at hl 1 rfl) ?_
    refine lv_iadd hx hb dX12_weightOf_20 ?_
    refine lv_iconst (v := (1 : Int32)) hx hb dX12_weightOf_21 (by decide) ?_
    refine lv_isub hx hb dX12_weightOf_22 ?_
    obtain ⟨g4, hv⟩ := y_gd_e hv
    obtain ⟨i5, hv⟩ := y_gd_e hv
    refine z_iald hc hB g4 i5 dX12_weightOf_23 ?_
    replace hv := Option.some.inj hv
    subst hv
    rw [← kt]
    exact z_iret hc hB hr dX12_weightOf_24
  · replace hv := y_br_t hv c1
    refine lv_aload_n hx hb dX12_weightOf_4 rfl (lv_at hl 0 rfl) ?_
    obtain ⟨g6, hv⟩ := y_gd_e hv
    obtain ⟨o7, eo7, hv⟩ := y_bi_e hv
    refine z_getR hc hB 11 6 g6 eo7 (by decide) (by decide) rfl (z_l1 hc qfX12_33) dX12_weightOf_5 ?_
    refine lv_iconst (v := (2 : Int32)) hx hb dX12_weightOf_8 (by decide) ?_
    obtain ⟨g8, hv⟩ := y_gd_e hv
    obtain ⟨i9, hv⟩ := y_gd_e hv
    refine z_iald hc hB g8 i9 dX12_weightOf_9 ?_
    refine lv_goto (tgt := 24) hx hb dX12_weightOf_10 (by decide) ?_
    replace hv := Option.some.inj hv
    subst hv
    rw [← kt]
    exact z_iret hc hB hr dX12_weightOf_24
theorem dX12_places_0 : decode cX12_places 0 = .ok (.aload_n 0, 1) := by decide +kernel
theorem dX12_places_1 : decode cX12_places 1 = .ok (.getfield 33, 3) := by decide +kernel
theorem dX12_places_4 : decode cX12_places 4 = .ok (.iconst 1, 1) := by decide +kernel
theorem dX12_places_5 : decode cX12_places 5 = .ok (.iaload, 1) := by decide +kernel
theorem dX12_places_6 : decode cX12_places 6 = .ok (.iconst 1, 1) := by decide +kernel
theorem dX12_places_7 : decode cX12_places 7 = .ok (.iadd, 1) := by decide +kernel
theorem dX12_places_8 : decode cX12_places 8 = .ok (.ireturn, 1) := by decide +kernel
abbrev rm_X12_places : Room := { frames := 0, cells := 0, slots := 0, locals := 0 }
noncomputable def fX12_places (o0 : Nat) (h : z_T) : Option (Int32) :=
  y_gd (z_ok h o0 11) <|
  y_bi (z_R h o0 6) fun o2 =>
  y_gd (z_ok h o2 13) <|
  y_gd (z_ix (1 : Int32) (z_N h o2)) <|
  some ((z_I h o2 (1 : Int32).toNatClampNeg) + (1 : Int32))
set_option maxHeartbeats 4000000 in
set_option maxRecDepth 100000 in
theorem mm_X12_places {G : z_Gt} {S : State → Prop} (hSK : z_SK S) (l : Launch) (ad : Nat → Nat) (o0 : Nat) (h : z_T) {r0 : Int32} (hv : fX12_places o0 h = some r0) : z_Mi G S l yX12_places cX12_places 1 (.int) rm_X12_places 0 0 [.ref (ad o0)] ad h h r0 := by
  refine z_ofW hSK (by decide) (Nat.le_of_ble_eq_true rfl) ?_
  intro p e s m args below meth c ls hc hr hnm hB hl
  have hx := hc.1.1
  have hb := hc.1.2.1
  have hown := hc.1.2.2.2.1
  have hts := hc.1.2.2.2.2
  replace hc : z_C G S ad (z_n h) p m c cX12_places 1 s args RX12 meth := hc
  replace hown : s.vm.findClass RX12 = some m.cls := hown
  replace hl : lv_has ls 1 [(0, .ref (ad o0))] := hl
  show W p l e rm_X12_places s m args below meth c s.heap [] 0 0 (MQ below (z_Qi G ad h (z_n h) s.heap.size r0) args s 0 0 (z_A ad (z_n h) s.heap.size)) (F0 m 0 ls [])
  obtain ⟨rs, kt⟩ : ∃ rs : Int32, rs = r0 := ⟨_, rfl⟩
  generalize hn0 : z_n h = n0 at hc hB ⊢
  rw [← kt] at hv
  refine lv_aload_n hx hb dX12_places_0 rfl (lv_at hl 0 rfl) ?_
  obtain ⟨g1, hv⟩ := y_gd_e hv
  obtain ⟨o2, eo2, hv⟩ := y_bi_e hv
  refine z_getR hc hB 11 6 g1 eo2 (by decide) (by decide) rfl (z_l1 hc qfX12_33) dX12_places_1 ?_
  refine lv_iconst (v := (1 : Int32)) hx hb dX12_places_4 (by decide) ?_
  obtain ⟨g3, hv⟩ := y_gd_e hv
  obtain ⟨i4, hv⟩ := y_gd_e hv
  refine z_iald hc hB g3 i4 dX12_places_5 ?_
  refine lv_iconst (v := (1 : Int32)) hx hb dX12_places_6 (by decide) ?_
  refine lv_iadd hx hb dX12_places_7 ?_
  replace hv := Option.some.inj hv
  subst hv
  rw [← kt]
  exact z_iret hc hB hr dX12_places_8
theorem qfX12_50 : Cond.fieldLink RX12 50 "DreamTestsModel" "like" "[J" ∈ z_ws := List.mem_filter.mpr ⟨List.mem_append_right _ (List.mem_of_getElem? (i := 1321) (by decide +kernel)), rfl⟩
theorem qmX12_260 : Cond.methodLink RX12 260 yX12_oddsOf ∈ z_ws := List.mem_filter.mpr ⟨List.mem_append_right _ (List.mem_of_getElem? (i := 1572) (by decide +kernel)), rfl⟩
theorem qc_X12_oddsOf : Cond.code yX12_oddsOf cX12_oddsOf 4 (some .int) ∈ z_ws := List.mem_filter.mpr ⟨List.mem_append_right _ (List.mem_of_getElem? (i := 1575) (by decide +kernel)), rfl⟩
theorem qi_X12_oddsOf : Cond.instanceMethod yX12_oddsOf ∈ z_ws := List.mem_filter.mpr ⟨List.mem_append_right _ (List.mem_of_getElem? (i := 1574) (by decide +kernel)), rfl⟩
theorem qs_X12_oddsOf : Cond.selects RX12 yX12_oddsOf yX12_oddsOf ∈ z_ws := List.mem_filter.mpr ⟨List.mem_append_left _ (List.mem_of_getElem? (i := 51) (by decide +kernel)), rfl⟩
theorem md_X12_oddsOf : z_mdV yX12_oddsOf cX12_oddsOf 4 (some .int) 3 := ⟨⟨qn_RX12, qc_X12_oddsOf, ⟨by decide +kernel, by decide +kernel, by decide +kernel⟩⟩, qi_X12_oddsOf, qs_X12_oddsOf⟩
theorem qmX12_253 : Cond.methodLink RX12 253 yX12_places ∈ z_ws := List.mem_filter.mpr ⟨List.mem_append_right _ (List.mem_of_getElem? (i := 1592) (by decide +kernel)), rfl⟩
theorem qc_X12_places : Cond.code yX12_places cX12_places 1 (some .int) ∈ z_ws := List.mem_filter.mpr ⟨List.mem_append_right _ (List.mem_of_getElem? (i := 1595) (by decide +kernel)), rfl⟩
theorem qi_X12_places : Cond.instanceMethod yX12_places ∈ z_ws := List.mem_filter.mpr ⟨List.mem_append_right _ (List.mem_of_getElem? (i := 1594) (by decide +kernel)), rfl⟩
theorem qs_X12_places : Cond.selects RX12 yX12_places yX12_places ∈ z_ws := List.mem_filter.mpr ⟨List.mem_append_left _ (List.mem_of_getElem? (i := 54) (by decide +kernel)), rfl⟩
theorem md_X12_places : z_mdV yX12_places cX12_places 1 (some .int) 0 := ⟨⟨qn_RX12, qc_X12_places, ⟨by decide +kernel, by decide +kernel, by decide +kernel⟩⟩, qi_X12_places, qs_X12_places⟩
theorem qmX12_256 : Cond.methodLink RX12 256 yX12_weightOf ∈ z_ws := List.mem_filter.mpr ⟨List.mem_append_right _ (List.mem_of_getElem? (i := 1596) (by decide +kernel)), rfl⟩
theorem qc_X12_weightOf : Cond.code yX12_weightOf cX12_weightOf 2 (some .int) ∈ z_ws := List.mem_filter.mpr ⟨List.mem_append_right _ (List.mem_of_getElem? (i := 1599) (by decide +kernel)), rfl⟩
theorem qi_X12_weightOf : Cond.instanceMethod yX12_weightOf ∈ z_ws := List.mem_filter.mpr ⟨List.mem_append_right _ (List.mem_of_getElem? (i := 1598) (by decide +kernel)), rfl⟩
theorem qs_X12_weightOf : Cond.selects RX12 yX12_weightOf yX12_weightOf ∈ z_ws := List.mem_filter.mpr ⟨List.mem_append_left _ (List.mem_of_getElem? (i := 55) (by decide +kernel)), rfl⟩
theorem md_X12_weightOf : z_mdV yX12_weightOf cX12_weightOf 2 (some .int) 1 := ⟨⟨qn_RX12, qc_X12_weightOf, ⟨by decide +kernel, by decide +kernel, by decide +kernel⟩⟩, qi_X12_weightOf, qs_X12_weightOf⟩
theorem dX12_likes_0 : decode cX12_likes 0 = .ok (.lconst 0, 1) := by decide +kernel
theorem dX12_likes_1 : decode cX12_likes 1 = .ok (.lstore_n 2, 1) := by decide +kernel
theorem dX12_likes_2 : decode cX12_likes 2 = .ok (.iconst 0, 1) := by decide +kernel
theorem dX12_likes_3 : decode cX12_likes 3 = .ok (.istore 4, 2) := by decide +kernel
theorem dX12_likes_5 : decode cX12_likes 5 = .ok (.iload 4, 2) := by decide +kernel
theorem dX12_likes_7 : decode cX12_likes 7 = .ok (.aload_n 0, 1) := by decide +kernel
theorem dX12_likes_8 : decode cX12_likes 8 = .ok (.invokevirtual 253, 3) := by decide +kernel
theorem dX12_likes_11 : decode cX12_likes 11 = .ok (.if_icmp .ge 108, 3) := by decide +kernel
theorem dX12_likes_14 : decode cX12_likes 14 = .ok (.aload_n 0, 1) := by decide +kernel
theorem dX12_likes_15 : decode cX12_likes 15 = .ok (.getfield 50, 3) := by decide +kernel
theorem dX12_likes_18 : decode cX12_likes 18 = .ok (.iload 4, 2) := by decide +kernel
theorem dX12_likes_20 : decode cX12_likes 20 = .ok (.aload_n 0, 1) := by decide +kernel
theorem dX12_likes_21 : decode cX12_likes 21 = .ok (.iload 4, 2) := by decide +kernel
theorem dX12_likes_23 : decode cX12_likes 23 = .ok (.invokevirtual 256, 3) := by decide +kernel
theorem dX12_likes_26 : decode cX12_likes 26 = .ok (.i2l, 1) := by decide +kernel
theorem dX12_likes_27 : decode cX12_likes 27 = .ok (.lastore, 1) := by decide +kernel
theorem dX12_likes_28 : decode cX12_likes 28 = .ok (.iconst 0, 1) := by decide +kernel
theorem dX12_likes_29 : decode cX12_likes 29 = .ok (.istore 5, 2) := by decide +kernel
theorem dX12_likes_31 : decode cX12_likes 31 = .ok (.iload 5, 2) := by decide +kernel
theorem dX12_likes_33 : decode cX12_likes 33 = .ok (.iload_n 1, 1) := by decide +kernel
theorem dX12_likes_34 : decode cX12_likes 34 = .ok (.if_icmp .ge 69, 3) := by decide +kernel
theorem dX12_likes_37 : decode cX12_likes 37 = .ok (.aload_n 0, 1) := by decide +kernel
theorem dX12_likes_38 : decode cX12_likes 38 = .ok (.iload 4, 2) := by decide +kernel
theorem dX12_likes_40 : decode cX12_likes 40 = .ok (.aload_n 0, 1) := by decide +kernel
theorem dX12_likes_41 : decode cX12_likes 41 = .ok (.getfield 33, 3) := by decide +kernel
theorem dX12_likes_44 : decode cX12_likes 44 = .ok (.bipush 37, 2) := by decide +kernel
theorem dX12_likes_46 : decode cX12_likes 46 = .ok (.iload 5, 2) := by decide +kernel
theorem dX12_likes_48 : decode cX12_likes 48 = .ok (.iadd, 1) := by decide +kernel
theorem dX12_likes_49 : decode cX12_likes 49 = .ok (.iaload, 1) := by decide +kernel
theorem dX12_likes_50 : decode cX12_likes 50 = .ok (.iconst 2, 1) := by decide +kernel
theorem dX12_likes_51 : decode cX12_likes 51 = .ok (.idiv, 1) := by decide +kernel
theorem dX12_likes_52 : decode cX12_likes 52 = .ok (.iload 5, 2) := by decide +kernel
theorem dX12_likes_54 : decode cX12_likes 54 = .ok (.invokevirtual 260, 3) := by decide +kernel
theorem dX12_likes_57 : decode cX12_likes 57 = .ok (.istore 6, 2) := by decide +kernel
theorem dX12_likes_59 : decode cX12_likes 59 = .ok (.aload_n 0, 1) := by decide +kernel
theorem dX12_likes_60 : decode cX12_likes 60 = .ok (.getfield 50, 3) := by decide +kernel
theorem dX12_likes_63 : decode cX12_likes 63 = .ok (.iload 4, 2) := by decide +kernel
theorem dX12_likes_65 : decode cX12_likes 65 = .ok (.dup2, 1) := by decide +kernel
theorem dX12_likes_66 : decode cX12_likes 66 = .ok (.laload, 1) := by decide +kernel
theorem dX12_likes_67 : decode cX12_likes 67 = .ok (.aload_n 0, 1) := by decide +kernel
theorem dX12_likes_68 : decode cX12_likes 68 = .ok (.getfield 33, 3) := by decide +kernel
theorem dX12_likes_71 : decode cX12_likes 71 = .ok (.bipush 37, 2) := by decide +kernel
theorem dX12_likes_73 : decode cX12_likes 73 = .ok (.iload 5, 2) := by decide +kernel
theorem dX12_likes_75 : decode cX12_likes 75 = .ok (.iadd, 1) := by decide +kernel
theorem dX12_likes_76 : decode cX12_likes 76 = .ok (.iaload, 1) := by decide +kernel
theorem dX12_likes_77 : decode cX12_likes 77 = .ok (.iconst 2, 1) := by decide +kernel
theorem dX12_likes_78 : decode cX12_likes 78 = .ok (.irem, 1) := by decide +kernel
theorem dX12_likes_79 : decode cX12_likes 79 = .ok (.iconst 1, 1) := by decide +kernel
theorem dX12_likes_80 : decode cX12_likes 80 = .ok (.if_icmp .ne 9, 3) := by decide +kernel
theorem dX12_likes_83 : decode cX12_likes 83 = .ok (.iload 6, 2) := by decide +kernel
theorem dX12_likes_85 : decode cX12_likes 85 = .ok (.i2l, 1) := by decide +kernel
theorem dX12_likes_86 : decode cX12_likes 86 = .ok (.goto 9, 3) := by decide +kernel
theorem dX12_likes_89 : decode cX12_likes 89 = .ok (.bipush 9, 2) := by decide +kernel
theorem dX12_likes_91 : decode cX12_likes 91 = .ok (.iload 6, 2) := by decide +kernel
theorem dX12_likes_93 : decode cX12_likes 93 = .ok (.isub, 1) := by decide +kernel
theorem dX12_likes_94 : decode cX12_likes 94 = .ok (.i2l, 1) := by decide +kernel
theorem dX12_likes_95 : decode cX12_likes 95 = .ok (.lmul, 1) := by decide +kernel
theorem dX12_likes_96 : decode cX12_likes 96 = .ok (.lastore, 1) := by decide +kernel
theorem dX12_likes_97 : decode cX12_likes 97 = .ok (.iinc 5 1, 3) := by decide +kernel
theorem dX12_likes_100 : decode cX12_likes 100 = .ok (.goto (-69), 3) := by decide +kernel
theorem dX12_likes_103 : decode cX12_likes 103 = .ok (.lload_n 2, 1) := by decide +kernel
theorem dX12_likes_104 : decode cX12_likes 104 = .ok (.aload_n 0, 1) := by decide +kernel
theorem dX12_likes_105 : decode cX12_likes 105 = .ok (.getfield 50, 3) := by decide +kernel
theorem dX12_likes_108 : decode cX12_likes 108 = .ok (.iload 4, 2) := by decide +kernel
theorem dX12_likes_110 : decode cX12_likes 110 = .ok (.laload, 1) := by decide +kernel
theorem dX12_likes_111 : decode cX12_likes 111 = .ok (.ladd, 1) := by decide +kernel
theorem dX12_likes_112 : decode cX12_likes 112 = .ok (.lstore_n 2, 1) := by decide +kernel
theorem dX12_likes_113 : decode cX12_likes 113 = .ok (.iinc 4 1, 3) := by decide +kernel
theorem dX12_likes_116 : decode cX12_likes 116 = .ok (.goto (-111), 3) := by decide +kernel
theorem dX12_likes_119 : decode cX12_likes 119 = .ok (.lload_n 2, 1) := by decide +kernel
theorem dX12_likes_120 : decode cX12_likes 120 = .ok (.lreturn, 1) := by decide +kernel
abbrev rm_X12_likes : Room := { frames := 3, cells := 0, slots := 0, locals := 66 }
noncomputable def fX12_likes_b95 (o0 : Nat) (x1 : Int32) (l2 : Int64) (x4 : Int32) (x5 : Int32) (s0 : Nat) (s1 : Int32) (s2 : Int64) (s3 : Int64) (h : z_T) : Option ((Int32 × z_T) ⊕ ((Int64 × Int32 × z_T) ⊕ (Int64 × z_T))) :=
  y_gd (z_ok h s0 14) <|
  y_gd (z_ix s1 (z_N h s0)) <|
  y_nm (z_sL h s0 s1.toNatClampNeg (s2 * s3)) fun h3 =>
  y_nm (x5 + 1) fun v4 =>
  some (.inl (v4, h3))
noncomputable def fX12_likes_b31_i (o0 : Nat) (x1 : Int32) (l2 : Int64) (x4 : Int32) (x5 : Int32) (h : z_T) : Option ((Int32 × z_T) ⊕ ((Int64 × Int32 × z_T) ⊕ (Int64 × z_T))) :=
  y_br (x1 ≤ x5)
    (y_mp <|
    y_gd (z_ok h o0 11) <|
    y_bi (z_R h o0 21) fun o8 =>
    y_gd (z_ok h o8 14) <|
    y_gd (z_ix x4 (z_N h o8)) <|
    y_nm ((l2 + (z_L h o8 x4.toNatClampNeg))) fun v11 =>
    y_nm (x4 + 1) fun v12 =>
    some (.inl (v11, v12, h)))
    (y_gd (z_ok h o0 11) <|
    y_bi (z_R h o0 6) fun o14 =>
    y_gd (z_ok h o14 13) <|
    y_gd (z_ix ((37 : Int32) + x5) (z_N h o14)) <|
    y_gd (!decide ((2 : Int32) = 0)) <|
    y_bi (fX12_oddsOf o0 x4 ((z_I h o14 ((37 : Int32) + x5).toNatClampNeg) / (2 : Int32)) x5 h) fun r19 =>
    y_bi (z_R h o0 21) fun o23 =>
    y_gd (z_ok h o23 14) <|
    y_gd (z_ix x4 (z_N h o23)) <|
    y_gd (z_ix ((37 : Int32) + x5) (z_N h o14)) <|
    y_gd (!decide ((2 : Int32) = 0)) <|
    y_br (((z_I h o14 ((37 : Int32) + x5).toNatClampNeg) - (z_I h o14 ((37 : Int32) + x5).toNatClampNeg) / (2 : Int32) * (2 : Int32)) = (1 : Int32))
      (fX12_likes_b95 o0 x1 l2 x4 x5 o23 x4 (z_L h o23 x4.toNatClampNeg) ((r19).toInt64) h)
      (fX12_likes_b95 o0 x1 l2 x4 x5 o23 x4 (z_L h o23 x4.toNatClampNeg) ((((9 : Int32) - r19)).toInt64) h))
noncomputable def fX12_likes_b31 (o0 : Nat) (x1 : Int32) (l2 : Int64) (x4 : Int32) (x5 : Int32) (h : z_T) : Option ((Int64 × Int32 × z_T) ⊕ (Int64 × z_T)) := y_lp (fun q : Int32 × z_T => fX12_likes_b31_i o0 x1 l2 x4 q.1 q.2) (x5, h)
noncomputable def fX12_likes_b5_i (o0 : Nat) (x1 : Int32) (l2 : Int64) (x4 : Int32) (h : z_T) : Option ((Int64 × Int32 × z_T) ⊕ (Int64 × z_T)) :=
  y_gd (z_ok h o0 11) <|
  y_bi (fX12_places o0 h) fun r30 =>
  y_br (r30 ≤ x4)
    (y_mp <|
    some (l2, h))
    (y_bi (z_R h o0 21) fun o37 =>
    y_bi (fX12_weightOf o0 x4 h) fun r39 =>
    y_gd (z_ok h o37 14) <|
    y_gd (z_ix x4 (z_N h o37)) <|
    y_nm (z_sL h o37 x4.toNatClampNeg ((r39).toInt64)) fun h45 =>
    fX12_likes_b31 o0 x1 l2 x4 (0 : Int32) h45)
noncomputable def fX12_likes_b5 (o0 : Nat) (x1 : Int32) (l2 : Int64) (x4 : Int32) (h : z_T) : Option (Int64 × z_T) := y_lp (fun q : Int64 × Int32 × z_T => fX12_likes_b5_i o0 x1 q.1 q.2.1 q.2.2) (l2, x4, h)
noncomputable def fX12_likes (o0 : Nat) (x1 : Int32) (h : z_T) : Option (Int64 × z_T) :=
  fX12_likes_b5 o0 x1 (0 : Int64) (0 : Int32) h
set_option maxHeartbeats 4000000 in
set_option maxRecDepth 100000 in
theorem mm_X12_likes {G : z_Gt} {S : State → Prop} (hSK : z_SK S) (l : Launch) (ad : Nat → Nat) (o0 : Nat) (x1 : Int32) (h : z_T) {r0 : Int64} {h9 : z_T} (hv : fX12_likes o0 x1 h = some (r0, h9)) : z_Ml G S l yX12_likes cX12_likes 7 (.long) rm_X12_likes 0 0 [.ref (ad o0), .int x1] ad h h9 r0 := by
  refine z_ofW hSK (by decide) (Nat.le_of_ble_eq_true rfl) ?_
  intro p e s m args below meth c ls hc hr hnm hB hl
  have hx := hc.1.1
  have hb := hc.1.2.1
  have hown := hc.1.2.2.2.1
  have hts := hc.1.2.2.2.2
  replace hc : z_C G S ad (z_n h) p m c cX12_likes 7 s args RX12 meth := hc
  replace hown : s.vm.findClass RX12 = some m.cls := hown
  replace hl : lv_has ls 7 [(0, .ref (ad o0)), (1, .int x1)] := hl
  show W p l e rm_X12_likes s m args below meth c s.heap [] 0 0 (MQ below (z_Ql G ad h9 (z_n h) s.heap.size r0) args s 0 0 (z_A ad (z_n h) s.heap.size)) (F0 m 0 ls [])
  obtain ⟨rs, kt⟩ : ∃ rs : Int64 × z_T, rs = (r0, h9) := ⟨_, rfl⟩
  generalize hn0 : z_n h = n0 at hc hB ⊢
  have L5 : ∀ (nn5 : Nat) (l2 : Int64) (x4 : Int32) (h : z_T) (H : Heap) (locs : List Loc) (ls : Array Slot), z_B G ad n0 s h H locs → lv_has ls 7 [(0, .ref (ad o0)), (1, .int x1), (2, .long l2), (4, .int x4)] → ∀ vv5, y_lpN (fun q : Int64 × Int32 × z_T => fX12_likes_b5_i o0 x1 q.1 q.2.1 q.2.2) nn5 (l2, x4, h) = some vv5 → vv5 = (r0, h9) → W p l e rm_X12_likes s m args below meth c H locs 0 0 (MQ below (z_Ql G ad h9 n0 s.heap.size r0) args s 0 0 (z_A ad n0 s.heap.size)) (F0 m 5 ls []) := by
    intro nn5
    induction nn5 with
    | zero => intro l2 x4 h H locs ls hB hl vv5 hv kv5; exact absurd hv (fun q => y_lpN_0 q)
    | succ nn5 ih5 =>
      intro l2 x4 h H locs ls hB hl vv5 hv kv5
      obtain ⟨w, hq, kw5⟩ := y_lpN_e hv
      clear hv
      have hv : fX12_likes_b5_i o0 x1 l2 x4 h = some w := hq
      clear hq
      have L31 : ∀ (l2 : Int64) (x4 : Int32) (nn31 : Nat) (x5 : Int32) (h : z_T) (H : Heap) (locs : List Loc) (ls : Array Slot), z_B G ad n0 s h H locs → lv_has ls 7 [(0, .ref (ad o0)), (1, .int x1), (2, .long l2), (4, .int x4), (5, .int x5)] → ∀ vv31, y_lpN (fun q : Int32 × z_T => fX12_likes_b31_i o0 x1 l2 x4 q.1 q.2) nn31 (x5, h) = some vv31 → y_lq (fun q : Int64 × Int32 × z_T => fX12_likes_b5_i o0 x1 q.1 q.2.1 q.2.2) nn5 vv5 vv31 → W p l e rm_X12_likes s m args below meth c H locs 0 0 (MQ below (z_Ql G ad h9 n0 s.heap.size r0) args s 0 0 (z_A ad n0 s.heap.size)) (F0 m 31 ls []) := by
        intro l2 x4 nn31
        induction nn31 with
        | zero => intro x5 h H locs ls hB hl vv31 hv kv31; exact absurd hv (fun q => y_lpN_0 q)
        | succ nn31 ih31 =>
          intro x5 h H locs ls hB hl vv31 hv kv31
          obtain ⟨w, hq, kw31⟩ := y_lpN_e hv
          clear hv
          have hv : fX12_likes_b31_i o0 x1 l2 x4 x5 h = some w := hq
          clear hq
          have b95 : ∀ (x5 : Int32) (s0 : Nat) (s1 : Int32) (s2 : Int64) (s3 : Int64) (h : z_T) (H : Heap) (locs : List Loc) (ls : Array Slot), z_B G ad n0 s h H locs → lv_has ls 7 [(0, .ref (ad o0)), (1, .int x1), (2, .long l2), (4, .int x4), (5, .int x5)] → ∀ w, fX12_likes_b95 o0 x1 l2 x4 x5 s0 s1 s2 s3 h = some w → y_lq (fun q : Int32 × z_T => fX12_likes_b31_i o0 x1 l2 x4 q.1 q.2) nn31 vv31 w → W p l e rm_X12_likes s m args below meth c H locs 0 0 (MQ below (z_Ql G ad h9 n0 s.heap.size r0) args s 0 0 (z_A ad n0 s.heap.size)) (F0 m 95 ls [.long s3, .long s2, .int s1, .ref (ad s0)]) := by
            intro x5 s0 s1 s2 s3 h H locs ls hB hl w hv kw31
            refine lv_lmul hx hb dX12_likes_95 ?_
            obtain ⟨g1, hv⟩ := y_gd_e hv
            obtain ⟨i2, hv⟩ := y_gd_e hv
            obtain ⟨h3, eh3, hv⟩ := y_nm_e hv
            refine y_last hc hB eh3 g1 i2 dX12_likes_96 (fun H locs hB => ?_)
            obtain ⟨v4, ev4, hv⟩ := y_nm_e hv
            refine lv_iinc (v := v4) (lv' := [(5, .int v4), (0, .ref (ad o0)), (1, .int x1), (2, .long l2), (4, .int x4)]) hx hb dX12_likes_97 hl (k := 4) rfl (by rw [ev4]; rfl) (by decide) rfl (fun ls hl => ?_)
            refine lv_goto (tgt := 31) hx hb dX12_likes_100 (by decide) ?_
            replace hv := Option.some.inj hv
            subst hv
            exact ih31 v4 h3 _ _ _ hB (lv_sub hl [1, 2, 3, 4, 0] rfl) _ kw31 kv31
          refine lv_iload hx hb dX12_likes_31 (lv_at hl 4 rfl) ?_
          refine lv_iload_n hx hb dX12_likes_33 rfl (lv_at hl 1 rfl) ?_
          refine lv_icmp_ge (tgt := 103) hx hb dX12_likes_34 (by decide) (fun c5 => ?_) (fun c5 => ?_)
          · replace hv := y_br_t hv c5
            obtain ⟨t6, hq, ew⟩ := y_mp_e hv
            clear hv; subst ew
            replace kw31 : t6 = _ := kw31
            subst kw31
            have hv := hq
            clear hq
            refine lv_lload_n hx hb dX12_likes_103 rfl (lv_at hl 2 rfl) ?_
            refine lv_aload_n hx hb dX12_likes_104 rfl (lv_at hl 0 rfl) ?_
            obtain ⟨g7, hv⟩ := y_gd_e hv
            obtain ⟨o8, eo8, hv⟩ := y_bi_e hv
            refine z_getR hc hB 11 21 g7 eo8 (by decide) (by decide) rfl (z_l1 hc qfX12_50) dX12_likes_105 ?_
            refine lv_iload hx hb dX12_likes_108 (lv_at hl 3 rfl) ?_
            obtain ⟨g9, hv⟩ := y_gd_e hv
            obtain ⟨i10, hv⟩ := y_gd_e hv
            refine z_lald hc hB g9 i10 dX12_likes_110 ?_
            refine lv_ladd hx hb dX12_likes_111 ?_
            obtain ⟨v11, ev11, hv⟩ := y_nm_e hv
            rw [← ev11]
            refine lv_lstore_n (lv' := [(2, .long v11), (0, .ref (ad o0)), (1, .int x1), (4, .int x4), (5, .int x5)]) hx hb dX12_likes_112 rfl hl (by decide) rfl (fun ls hl => ?_)
            obtain ⟨v12, ev12, hv⟩ := y_nm_e hv
            refine lv_iinc (v := v12) (lv' := [(4, .int v12), (2, .long v11), (0, .ref (ad o0)), (1, .int x1), (5, .int x5)]) hx hb dX12_likes_113 hl (k := 3) rfl (by rw [ev12]; rfl) (by decide) rfl (fun ls hl => ?_)
            refine lv_goto (tgt := 5) hx hb dX12_likes_116 (by decide) ?_
            replace hv := Option.some.inj hv
            subst hv
            exact ih5 v11 v12 h _ _ _ hB (lv_sub hl [2, 3, 1, 0] rfl) _ kv31 kv5
          · replace hv := y_br_f hv c5
            refine lv_aload_n hx hb dX12_likes_37 rfl (lv_at hl 0 rfl) ?_
            refine lv_iload hx hb dX12_likes_38 (lv_at hl 3 rfl) ?_
            refine lv_aload_n hx hb dX12_likes_40 rfl (lv_at hl 0 rfl) ?_
            obtain ⟨g13, hv⟩ := y_gd_e hv
            obtain ⟨o14, eo14, hv⟩ := y_bi_e hv
            refine z_getR hc hB 11 6 g13 eo14 (by decide) (by decide) rfl (z_l1 hc qfX12_33) dX12_likes_41 ?_
            refine lv_bipush (v := (37 : Int32)) hx hb dX12_likes_44 (by decide) ?_
            refine lv_iload hx hb dX12_likes_46 (lv_at hl 4 rfl) ?_
            refine lv_iadd hx hb dX12_likes_48 ?_
            obtain ⟨g15, hv⟩ := y_gd_e hv
            obtain ⟨i16, hv⟩ := y_gd_e hv
            refine z_iald hc hB g15 i16 dX12_likes_49 ?_
            refine lv_iconst (v := (2 : Int32)) hx hb dX12_likes_50 (by decide) ?_
            obtain ⟨z17, hv⟩ := y_gd_e hv
            refine lv_idiv hx hb dX12_likes_51 (y_ne z17) ?_
            refine lv_iload hx hb dX12_likes_52 (lv_at hl 4 rfl) ?_
            obtain ⟨r19, c18, hv⟩ := y_bi_e hv
            refine z_thI hc hB (z_runV hc hB 11 (mm_X12_oddsOf hSK l ad o0 x4 ((z_I h o14 ((37 : Int32) + x5).toNatClampNeg) / (2 : Int32)) x5 h c18) md_X12_oddsOf qmX12_260 g13 (by decide) rfl rfl rfl ⟨Nat.le_of_ble_eq_true rfl, Nat.le_of_ble_eq_true rfl⟩ rfl hl.1 rfl (Nat.le_of_ble_eq_true rfl) dX12_likes_54 ⟨Nat.le_of_ble_eq_true rfl, Nat.le_of_ble_eq_true rfl⟩) (fun H locs hB => ?_)
            refine lv_istore (lv' := [(6, .int r19), (0, .ref (ad o0)), (1, .int x1), (2, .long l2), (4, .int x4), (5, .int x5)]) hx hb dX12_likes_57 hl (by decide) rfl (fun ls hl => ?_)
            refine lv_aload_n hx hb dX12_likes_59 rfl (lv_at hl 1 rfl) ?_
            obtain ⟨o23, eo23, hv⟩ := y_bi_e hv
            refine z_getR hc hB 11 21 g13 eo23 (by decide) (by decide) rfl (z_l1 hc qfX12_50) dX12_likes_60 ?_
            refine lv_iload hx hb dX12_likes_63 (lv_at hl 4 rfl) ?_
            refine lv_dup2_11 hx hb dX12_likes_65 rfl rfl ?_
            obtain ⟨g24, hv⟩ := y_gd_e hv
            obtain ⟨i25, hv⟩ := y_gd_e hv
            refine z_lald hc hB g24 i25 dX12_likes_66 ?_
            refine lv_aload_n hx hb dX12_likes_67 rfl (lv_at hl 1 rfl) ?_
            refine z_getR hc hB 11 6 g13 eo14 (by decide) (by decide) rfl (z_l1 hc qfX12_33) dX12_likes_68 ?_
            refine lv_bipush (v := (37 : Int32)) hx hb dX12_likes_71 (by decide) ?_
            refine lv_iload hx hb dX12_likes_73 (lv_at hl 5 rfl) ?_
            refine lv_iadd hx hb dX12_likes_75 ?_
            obtain ⟨i26, hv⟩ := y_gd_e hv
            refine z_iald hc hB g15 i26 dX12_likes_76 ?_
            refine lv_iconst (v := (2 : Int32)) hx hb dX12_likes_77 (by decide) ?_
            obtain ⟨z27, hv⟩ := y_gd_e hv
            refine lv_irem hx hb dX12_likes_78 (y_ne z27) ?_
            refine lv_iconst (v := (1 : Int32)) hx hb dX12_likes_79 (by decide) ?_
            refine lv_icmp_ne (tgt := 89) hx hb dX12_likes_80 (by decide) (fun c28 => ?_) (fun c28 => ?_)
            · replace hv := y_br_f hv c28
              refine lv_bipush (v := (9 : Int32)) hx hb dX12_likes_89 (by decide) ?_
              refine lv_iload hx hb dX12_likes_91 (lv_at hl 0 rfl) ?_
              refine lv_isub hx hb dX12_likes_93 ?_
              refine lv_i2l hx hb dX12_likes_94 rfl ?_
              exact b95 x5 o23 x4 (z_L h o23 x4.toNatClampNeg) ((((9 : Int32) - r19)).toInt64) h _ _ _ hB (lv_sub hl [1, 2, 3, 4, 5] rfl) _ hv kw31
            · replace hv := y_br_t hv c28
              refine lv_iload hx hb dX12_likes_83 (lv_at hl 0 rfl) ?_
              refine lv_i2l hx hb dX12_likes_85 rfl ?_
              refine lv_goto (tgt := 95) hx hb dX12_likes_86 (by decide) ?_
              exact b95 x5 o23 x4 (z_L h o23 x4.toNatClampNeg) ((r19).toInt64) h _ _ _ hB (lv_sub hl [1, 2, 3, 4, 5] rfl) _ hv kw31
      refine lv_iload hx hb dX12_likes_5 (lv_at hl 3 rfl) ?_
      refine lv_aload_n hx hb dX12_likes_7 rfl (lv_at hl 0 rfl) ?_
      obtain ⟨g34, hv⟩ := y_gd_e hv
      obtain ⟨r30, c29, hv⟩ := y_bi_e hv
      refine z_thI hc hB (z_runV hc hB 11 (mm_X12_places hSK l ad o0 h c29) md_X12_places qmX12_253 g34 (by decide) rfl rfl rfl ⟨Nat.le_of_ble_eq_true rfl, Nat.le_of_ble_eq_true rfl⟩ rfl hl.1 rfl (Nat.le_of_ble_eq_true rfl) dX12_likes_8 ⟨Nat.le_of_ble_eq_true rfl, Nat.le_of_ble_eq_true rfl⟩) (fun H locs hB => ?_)
      refine lv_icmp_ge (tgt := 119) hx hb dX12_likes_11 (by decide) (fun c35 => ?_) (fun c35 => ?_)
      · replace hv := y_br_t hv c35
        obtain ⟨t36, hq, ew⟩ := y_mp_e hv
        clear hv; subst ew
        replace kw5 : t36 = _ := kw5
        subst kw5
        have hv := hq
        clear hq
        refine lv_lload_n hx hb dX12_likes_119 rfl (lv_at hl 2 rfl) ?_
        replace hv := Option.some.inj hv
        subst hv
        obtain ⟨e1, e2⟩ := y_pr kv5
        rw [← e1, ← e2]
        exact z_lret hc hB hr dX12_likes_120
      · replace hv := y_br_f hv c35
        refine lv_aload_n hx hb dX12_likes_14 rfl (lv_at hl 0 rfl) ?_
        obtain ⟨o37, eo37, hv⟩ := y_bi_e hv
        refine z_getR hc hB 11 21 g34 eo37 (by decide) (by decide) rfl (z_l1 hc qfX12_50) dX12_likes_15 ?_
        refine lv_iload hx hb dX12_likes_18 (lv_at hl 3 rfl) ?_
        refine lv_aload_n hx hb dX12_likes_20 rfl (lv_at hl 0 rfl) ?_
        refine lv_iload hx hb dX12_likes_21 (lv_at hl 3 rfl) ?_
        obtain ⟨r39, c38, hv⟩ := y_bi_e hv
        refine z_thI hc hB (z_runV hc hB 11 (mm_X12_weightOf hSK l ad o0 x4 h c38) md_X12_weightOf qmX12_256 g34 (by decide) rfl rfl rfl ⟨Nat.le_of_ble_eq_true rfl, Nat.le_of_ble_eq_true rfl⟩ rfl hl.1 rfl (Nat.le_of_ble_eq_true rfl) dX12_likes_23 ⟨Nat.le_of_ble_eq_true rfl, Nat.le_of_ble_eq_true rfl⟩) (fun H locs hB => ?_)
        refine lv_i2l hx hb dX12_likes_26 rfl ?_
        obtain ⟨g43, hv⟩ := y_gd_e hv
        obtain ⟨i44, hv⟩ := y_gd_e hv
        obtain ⟨h45, eh45, hv⟩ := y_nm_e hv
        refine y_last hc hB eh45 g43 i44 dX12_likes_27 (fun H locs hB => ?_)
        refine lv_iconst (v := (0 : Int32)) hx hb dX12_likes_28 (by decide) ?_
        refine lv_istore (lv' := [(5, .int (0 : Int32)), (0, .ref (ad o0)), (1, .int x1), (2, .long l2), (4, .int x4)]) hx hb dX12_likes_29 hl (by decide) rfl (fun ls hl => ?_)
        obtain ⟨n, hv⟩ := y_lp_e hv
        exact L31 l2 x4 n (0 : Int32) h45 _ _ _ hB (lv_sub hl [1, 2, 3, 4, 0] rfl) _ hv kw5
  rw [← kt] at hv
  refine lv_lconst (v := (0 : Int64)) hx hb dX12_likes_0 (by decide) ?_
  refine lv_lstore_n (lv' := [(2, .long (0 : Int64)), (0, .ref (ad o0)), (1, .int x1)]) hx hb dX12_likes_1 rfl hl (by decide) rfl (fun ls hl => ?_)
  refine lv_iconst (v := (0 : Int32)) hx hb dX12_likes_2 (by decide) ?_
  refine lv_istore (lv' := [(4, .int (0 : Int32)), (2, .long (0 : Int64)), (0, .ref (ad o0)), (1, .int x1)]) hx hb dX12_likes_3 hl (by decide) rfl (fun ls hl => ?_)
  obtain ⟨n, hv⟩ := y_lp_e hv
  exact L5 n (0 : Int64) (0 : Int32) h _ _ _ hB (lv_sub hl [2, 3, 1, 0] rfl) _ hv kt
theorem dX12_stays_0 : decode cX12_stays 0 = .ok (.aload_n 0, 1) := by decide +kernel
theorem dX12_stays_1 : decode cX12_stays 1 = .ok (.iconst 0, 1) := by decide +kernel
theorem dX12_stays_2 : decode cX12_stays 2 = .ok (.putfield 1, 3) := by decide +kernel
theorem dX12_stays_5 : decode cX12_stays 5 = .ok (.aload_n 0, 1) := by decide +kernel
theorem dX12_stays_6 : decode cX12_stays 6 = .ok (.iload_n 1, 1) := by decide +kernel
theorem dX12_stays_7 : decode cX12_stays 7 = .ok (.invokevirtual 241, 3) := by decide +kernel
theorem dX12_stays_10 : decode cX12_stays 10 = .ok (.ifCond .eq 34, 3) := by decide +kernel
theorem dX12_stays_13 : decode cX12_stays 13 = .ok (.iload_n 2, 1) := by decide +kernel
theorem dX12_stays_14 : decode cX12_stays 14 = .ok (.iconst (-1), 1) := by decide +kernel
theorem dX12_stays_15 : decode cX12_stays 15 = .ok (.if_icmp .eq 11, 3) := by decide +kernel
theorem dX12_stays_18 : decode cX12_stays 18 = .ok (.aload_n 0, 1) := by decide +kernel
theorem dX12_stays_19 : decode cX12_stays 19 = .ok (.iload_n 2, 1) := by decide +kernel
theorem dX12_stays_20 : decode cX12_stays 20 = .ok (.invokevirtual 247, 3) := by decide +kernel
theorem dX12_stays_23 : decode cX12_stays 23 = .ok (.ifCond .eq 21, 3) := by decide +kernel
theorem dX12_stays_26 : decode cX12_stays 26 = .ok (.aload_n 0, 1) := by decide +kernel
theorem dX12_stays_27 : decode cX12_stays 27 = .ok (.iload_n 2, 1) := by decide +kernel
theorem dX12_stays_28 : decode cX12_stays 28 = .ok (.iconst 1, 1) := by decide +kernel
theorem dX12_stays_29 : decode cX12_stays 29 = .ok (.iadd, 1) := by decide +kernel
theorem dX12_stays_30 : decode cX12_stays 30 = .ok (.iload_n 1, 1) := by decide +kernel
theorem dX12_stays_31 : decode cX12_stays 31 = .ok (.aload_n 0, 1) := by decide +kernel
theorem dX12_stays_32 : decode cX12_stays 32 = .ok (.getfield 33, 3) := by decide +kernel
theorem dX12_stays_35 : decode cX12_stays 35 = .ok (.bipush 36, 2) := by decide +kernel
theorem dX12_stays_37 : decode cX12_stays 37 = .ok (.iaload, 1) := by decide +kernel
theorem dX12_stays_38 : decode cX12_stays 38 = .ok (.invokevirtual 260, 3) := by decide +kernel
theorem dX12_stays_41 : decode cX12_stays 41 = .ok (.goto 4, 3) := by decide +kernel
theorem dX12_stays_44 : decode cX12_stays 44 = .ok (.iconst (-1), 1) := by decide +kernel
theorem dX12_stays_45 : decode cX12_stays 45 = .ok (.ireturn, 1) := by decide +kernel
abbrev rm_X12_stays : Room := { frames := 3, cells := 0, slots := 0, locals := 66 }
noncomputable def fX12_stays_b26 (o0 : Nat) (x1 : Int32) (x2 : Int32) (h : z_T) : Option (Int32 × z_T) :=
  y_gd (z_ok h o0 11) <|
  y_bi (z_R h o0 6) fun o2 =>
  y_gd (z_ok h o2 13) <|
  y_gd (z_ix (36 : Int32) (z_N h o2)) <|
  y_bi (fX12_oddsOf o0 (x2 + (1 : Int32)) x1 (z_I h o2 (36 : Int32).toNatClampNeg) h) fun r6 =>
  some (r6, h)
noncomputable def fX12_stays_b44  (h : z_T) : Option (Int32 × z_T) :=
  some ((-1 : Int32), h)
noncomputable def fX12_stays (o0 : Nat) (x1 : Int32) (x2 : Int32) (h : z_T) : Option (Int32 × z_T) :=
  y_gd (z_ok h o0 11) <|
  y_nm (z_sI h o0 0 (0 : Int32)) fun h11 =>
  y_bi (fX12_isTest o0 x1 h11) fun r13 =>
  y_br (r13 = 0)
    (fX12_stays_b44 h11)
    (y_br (x2 = (-1 : Int32))
      (fX12_stays_b26 o0 x1 x2 h11)
      (y_bi (fX12_isDream o0 x2 h11) fun r20 =>
      y_br (r20 = 0)
        (fX12_stays_b44 h11)
        (fX12_stays_b26 o0 x1 x2 h11)))
set_option maxHeartbeats 4000000 in
set_option maxRecDepth 100000 in
theorem mm_X12_stays {G : z_Gt} {S : State → Prop} (hSK : z_SK S) (l : Launch) (ad : Nat → Nat) (o0 : Nat) (x1 : Int32) (x2 : Int32) (h : z_T) {r0 : Int32} {h9 : z_T} (hv : fX12_stays o0 x1 x2 h = some (r0, h9)) : z_Mi G S l yX12_stays cX12_stays 3 (.int) rm_X12_stays 0 0 [.ref (ad o0), .int x1, .int x2] ad h h9 r0 := by
  refine z_ofW hSK (by decide) (Nat.le_of_ble_eq_true rfl) ?_
  intro p e s m args below meth c ls hc hr hnm hB hl
  have hx := hc.1.1
  have hb := hc.1.2.1
  have hown := hc.1.2.2.2.1
  have hts := hc.1.2.2.2.2
  replace hc : z_C G S ad (z_n h) p m c cX12_stays 3 s args RX12 meth := hc
  replace hown : s.vm.findClass RX12 = some m.cls := hown
  replace hl : lv_has ls 3 [(0, .ref (ad o0)), (1, .int x1), (2, .int x2)] := hl
  show W p l e rm_X12_stays s m args below meth c s.heap [] 0 0 (MQ below (z_Qi G ad h9 (z_n h) s.heap.size r0) args s 0 0 (z_A ad (z_n h) s.heap.size)) (F0 m 0 ls [])
  obtain ⟨rs, kt⟩ : ∃ rs : Int32 × z_T, rs = (r0, h9) := ⟨_, rfl⟩
  generalize hn0 : z_n h = n0 at hc hB ⊢
  have b26 : ∀ (h : z_T) (H : Heap) (locs : List Loc) (ls : Array Slot), z_B G ad n0 s h H locs → lv_has ls 3 [(0, .ref (ad o0)), (1, .int x1), (2, .int x2)] → ∀ w, fX12_stays_b26 o0 x1 x2 h = some w → w = (r0, h9) → W p l e rm_X12_stays s m args below meth c H locs 0 0 (MQ below (z_Qi G ad h9 n0 s.heap.size r0) args s 0 0 (z_A ad n0 s.heap.size)) (F0 m 26 ls []) := by
    intro h H locs ls hB hl w hv kb
    refine lv_aload_n hx hb dX12_stays_26 rfl (lv_at hl 0 rfl) ?_
    refine lv_iload_n hx hb dX12_stays_27 rfl (lv_at hl 2 rfl) ?_
    refine lv_iconst (v := (1 : Int32)) hx hb dX12_stays_28 (by decide) ?_
    refine lv_iadd hx hb dX12_stays_29 ?_
    refine lv_iload_n hx hb dX12_stays_30 rfl (lv_at hl 1 rfl) ?_
    refine lv_aload_n hx hb dX12_stays_31 rfl (lv_at hl 0 rfl) ?_
    obtain ⟨g1, hv⟩ := y_gd_e hv
    obtain ⟨o2, eo2, hv⟩ := y_bi_e hv
    refine z_getR hc hB 11 6 g1 eo2 (by decide) (by decide) rfl (z_l1 hc qfX12_33) dX12_stays_32 ?_
    refine lv_bipush (v := (36 : Int32)) hx hb dX12_stays_35 (by decide) ?_
    obtain ⟨g3, hv⟩ := y_gd_e hv
    obtain ⟨i4, hv⟩ := y_gd_e hv
    refine z_iald hc hB g3 i4 dX12_stays_37 ?_
    obtain ⟨r6, c5, hv⟩ := y_bi_e hv
    refine z_thI hc hB (z_runV hc hB 11 (mm_X12_oddsOf hSK l ad o0 (x2 + (1 : Int32)) x1 (z_I h o2 (36 : Int32).toNatClampNeg) h c5) md_X12_oddsOf qmX12_260 g1 (by decide) rfl rfl rfl ⟨Nat.le_of_ble_eq_true rfl, Nat.le_of_ble_eq_true rfl⟩ rfl hl.1 rfl (Nat.le_of_ble_eq_true rfl) dX12_stays_38 ⟨Nat.le_of_ble_eq_true rfl, Nat.le_of_ble_eq_true rfl⟩) (fun H locs hB => ?_)
    refine lv_goto (tgt := 45) hx hb dX12_stays_41 (by decide) ?_
    replace hv := Option.some.inj hv
    subst hv
    obtain ⟨e1, e2⟩ := y_pr kb
    rw [← e1, ← e2]
    exact z_iret hc hB hr dX12_stays_45
  have b44 : ∀ (h : z_T) (H : Heap) (locs : List Loc) (ls : Array Slot), z_B G ad n0 s h H locs → lv_has ls 3 [] → ∀ w, fX12_stays_b44 h = some w → w = (r0, h9) → W p l e rm_X12_stays s m args below meth c H locs 0 0 (MQ below (z_Qi G ad h9 n0 s.heap.size r0) args s 0 0 (z_A ad n0 s.heap.size)) (F0 m 44 ls []) := by
    intro h H locs ls hB hl w hv kb
    refine lv_iconst (v := (-1 : Int32)) hx hb dX12_stays_44 (by decide) ?_
    replace hv := Option.some.inj hv
    subst hv
    obtain ⟨e1, e2⟩ := y_pr kb
    rw [← e1, ← e2]
    exact z_iret hc hB hr dX12_stays_45
  rw [← kt] at hv
  refine lv_aload_n hx hb dX12_stays_0 rfl (lv_at hl 0 rfl) ?_
  refine lv_iconst (v := (0 : Int32)) hx hb dX12_stays_1 (by decide) ?_
  obtain ⟨g10, hv⟩ := y_gd_e hv
  obtain ⟨h11, eh11, hv⟩ := y_nm_e hv
  refine y_putI hc hB 11 0 eh11 g10 (z_l1 hc qfX12_1) dX12_stays_2 (by decide) (by decide) rfl rfl rfl rfl (fun H locs hB => ?_)
  refine lv_aload_n hx hb dX12_stays_5 rfl (lv_at hl 0 rfl) ?_
  refine lv_iload_n hx hb dX12_stays_6 rfl (lv_at hl 1 rfl) ?_
  obtain ⟨r13, c12, hv⟩ := y_bi_e hv
  refine z_thI hc hB (z_runV hc hB 11 (mm_X12_isTest hSK l ad o0 x1 h11 c12) md_X12_isTest qmX12_241 (by rw [eh11]; exact g10) (by decide) rfl rfl rfl ⟨Nat.le_of_ble_eq_true rfl, Nat.le_of_ble_eq_true rfl⟩ rfl hl.1 rfl (Nat.le_of_ble_eq_true rfl) dX12_stays_7 ⟨Nat.le_of_ble_eq_true rfl, Nat.le_of_ble_eq_true rfl⟩) (fun H locs hB => ?_)
  refine lv_if_eq (tgt := 44) hx hb dX12_stays_10 (by decide) (fun c17 => ?_) (fun c17 => ?_)
  · replace hv := y_br_t hv c17
    exact b44 h11 _ _ _ hB (lv_sub hl [] rfl) _ hv kt
  · replace hv := y_br_f hv c17
    refine lv_iload_n hx hb dX12_stays_13 rfl (lv_at hl 2 rfl) ?_
    refine lv_iconst (v := (-1 : Int32)) hx hb dX12_stays_14 (by decide) ?_
    refine lv_icmp_eq (tgt := 26) hx hb dX12_stays_15 (by decide) (fun c18 => ?_) (fun c18 => ?_)
    · replace hv := y_br_t hv c18
      exact b26 h11 _ _ _ hB (lv_sub hl [0, 1, 2] rfl) _ hv kt
    · replace hv := y_br_f hv c18
      refine lv_aload_n hx hb dX12_stays_18 rfl (lv_at hl 0 rfl) ?_
      refine lv_iload_n hx hb dX12_stays_19 rfl (lv_at hl 2 rfl) ?_
      obtain ⟨r20, c19, hv⟩ := y_bi_e hv
      refine z_thI hc hB (z_runV hc hB 11 (mm_X12_isDream hSK l ad o0 x2 h11 c19) md_X12_isDream qmX12_247 (by rw [eh11]; exact g10) (by decide) rfl rfl rfl ⟨Nat.le_of_ble_eq_true rfl, Nat.le_of_ble_eq_true rfl⟩ rfl hl.1 rfl (Nat.le_of_ble_eq_true rfl) dX12_stays_20 ⟨Nat.le_of_ble_eq_true rfl, Nat.le_of_ble_eq_true rfl⟩) (fun H locs hB => ?_)
      refine lv_if_eq (tgt := 44) hx hb dX12_stays_23 (by decide) (fun c24 => ?_) (fun c24 => ?_)
      · replace hv := y_br_t hv c24
        exact b44 h11 _ _ _ hB (lv_sub hl [] rfl) _ hv kt
      · replace hv := y_br_f hv c24
        exact b26 h11 _ _ _ hB (lv_sub hl [0, 1, 2] rfl) _ hv kt
theorem qfX12_53 : Cond.fieldLink RX12 53 "DreamTestsModel" "undone" "[I" ∈ z_ws := List.mem_filter.mpr ⟨List.mem_append_right _ (List.mem_of_getElem? (i := 1322) (by decide +kernel)), rfl⟩
theorem dX12_keep_0 : decode cX12_keep 0 = .ok (.aload_n 0, 1) := by decide +kernel
theorem dX12_keep_1 : decode cX12_keep 1 = .ok (.getfield 238, 3) := by decide +kernel
theorem dX12_keep_4 : decode cX12_keep 4 = .ok (.bipush 8, 2) := by decide +kernel
theorem dX12_keep_6 : decode cX12_keep 6 = .ok (.if_icmp .ne 38, 3) := by decide +kernel
theorem dX12_keep_9 : decode cX12_keep 9 = .ok (.iconst 0, 1) := by decide +kernel
theorem dX12_keep_10 : decode cX12_keep 10 = .ok (.istore_n 1, 1) := by decide +kernel
theorem dX12_keep_11 : decode cX12_keep 11 = .ok (.iload_n 1, 1) := by decide +kernel
theorem dX12_keep_12 : decode cX12_keep 12 = .ok (.bipush 91, 2) := by decide +kernel
theorem dX12_keep_14 : decode cX12_keep 14 = .ok (.if_icmp .ge 24, 3) := by decide +kernel
theorem dX12_keep_17 : decode cX12_keep 17 = .ok (.aload_n 0, 1) := by decide +kernel
theorem dX12_keep_18 : decode cX12_keep 18 = .ok (.getfield 53, 3) := by decide +kernel
theorem dX12_keep_21 : decode cX12_keep 21 = .ok (.iload_n 1, 1) := by decide +kernel
theorem dX12_keep_22 : decode cX12_keep 22 = .ok (.aload_n 0, 1) := by decide +kernel
theorem dX12_keep_23 : decode cX12_keep 23 = .ok (.getfield 53, 3) := by decide +kernel
theorem dX12_keep_26 : decode cX12_keep 26 = .ok (.iload_n 1, 1) := by decide +kernel
theorem dX12_keep_27 : decode cX12_keep 27 = .ok (.bipush 13, 2) := by decide +kernel
theorem dX12_keep_29 : decode cX12_keep 29 = .ok (.iadd, 1) := by decide +kernel
theorem dX12_keep_30 : decode cX12_keep 30 = .ok (.iaload, 1) := by decide +kernel
theorem dX12_keep_31 : decode cX12_keep 31 = .ok (.iastore, 1) := by decide +kernel
theorem dX12_keep_32 : decode cX12_keep 32 = .ok (.iinc 1 1, 3) := by decide +kernel
theorem dX12_keep_35 : decode cX12_keep 35 = .ok (.goto (-24), 3) := by decide +kernel
theorem dX12_keep_38 : decode cX12_keep 38 = .ok (.aload_n 0, 1) := by decide +kernel
theorem dX12_keep_39 : decode cX12_keep 39 = .ok (.bipush 7, 2) := by decide +kernel
theorem dX12_keep_41 : decode cX12_keep 41 = .ok (.putfield 238, 3) := by decide +kernel
theorem dX12_keep_44 : decode cX12_keep 44 = .ok (.iconst 0, 1) := by decide +kernel
theorem dX12_keep_45 : decode cX12_keep 45 = .ok (.istore_n 1, 1) := by decide +kernel
theorem dX12_keep_46 : decode cX12_keep 46 = .ok (.iload_n 1, 1) := by decide +kernel
theorem dX12_keep_47 : decode cX12_keep 47 = .ok (.bipush 13, 2) := by decide +kernel
theorem dX12_keep_49 : decode cX12_keep 49 = .ok (.if_icmp .ge 32, 3) := by decide +kernel
theorem dX12_keep_52 : decode cX12_keep 52 = .ok (.aload_n 0, 1) := by decide +kernel
theorem dX12_keep_53 : decode cX12_keep 53 = .ok (.getfield 53, 3) := by decide +kernel
theorem dX12_keep_56 : decode cX12_keep 56 = .ok (.bipush 13, 2) := by decide +kernel
theorem dX12_keep_58 : decode cX12_keep 58 = .ok (.aload_n 0, 1) := by decide +kernel
theorem dX12_keep_59 : decode cX12_keep 59 = .ok (.getfield 238, 3) := by decide +kernel
theorem dX12_keep_62 : decode cX12_keep 62 = .ok (.imul, 1) := by decide +kernel
theorem dX12_keep_63 : decode cX12_keep 63 = .ok (.iload_n 1, 1) := by decide +kernel
theorem dX12_keep_64 : decode cX12_keep 64 = .ok (.iadd, 1) := by decide +kernel
theorem dX12_keep_65 : decode cX12_keep 65 = .ok (.aload_n 0, 1) := by decide +kernel
theorem dX12_keep_66 : decode cX12_keep 66 = .ok (.getfield 33, 3) := by decide +kernel
theorem dX12_keep_69 : decode cX12_keep 69 = .ok (.bipush 36, 2) := by decide +kernel
theorem dX12_keep_71 : decode cX12_keep 71 = .ok (.iload_n 1, 1) := by decide +kernel
theorem dX12_keep_72 : decode cX12_keep 72 = .ok (.iadd, 1) := by decide +kernel
theorem dX12_keep_73 : decode cX12_keep 73 = .ok (.iaload, 1) := by decide +kernel
theorem dX12_keep_74 : decode cX12_keep 74 = .ok (.iastore, 1) := by decide +kernel
theorem dX12_keep_75 : decode cX12_keep 75 = .ok (.iinc 1 1, 3) := by decide +kernel
theorem dX12_keep_78 : decode cX12_keep 78 = .ok (.goto (-32), 3) := by decide +kernel
theorem dX12_keep_81 : decode cX12_keep 81 = .ok (.aload_n 0, 1) := by decide +kernel
theorem dX12_keep_82 : decode cX12_keep 82 = .ok (.dup, 1) := by decide +kernel
theorem dX12_keep_83 : decode cX12_keep 83 = .ok (.getfield 238, 3) := by decide +kernel
theorem dX12_keep_86 : decode cX12_keep 86 = .ok (.iconst 1, 1) := by decide +kernel
theorem dX12_keep_87 : decode cX12_keep 87 = .ok (.iadd, 1) := by decide +kernel
theorem dX12_keep_88 : decode cX12_keep 88 = .ok (.putfield 238, 3) := by decide +kernel
theorem dX12_keep_91 : decode cX12_keep 91 = .ok (.return_, 1) := by decide +kernel
abbrev rm_X12_keep : Room := { frames := 0, cells := 0, slots := 0, locals := 0 }
noncomputable def fX12_keep_b46_i (o0 : Nat) (x1 : Int32) (h : z_T) : Option ((Int32 × z_T) ⊕ (z_T)) :=
  y_br ((13 : Int32) ≤ x1)
    (y_mp <|
    y_gd (z_ok h o0 11) <|
    y_nm (z_sI h o0 24 ((z_I h o0 24) + (1 : Int32))) fun h4 =>
    some h4)
    (y_gd (z_ok h o0 11) <|
    y_bi (z_R h o0 22) fun o6 =>
    y_bi (z_R h o0 6) fun o7 =>
    y_gd (z_ok h o7 13) <|
    y_gd (z_ix ((36 : Int32) + x1) (z_N h o7)) <|
    y_gd (z_ok h o6 13) <|
    y_gd (z_ix (((13 : Int32) * (z_I h o0 24)) + x1) (z_N h o6)) <|
    y_nm (z_sI h o6 (((13 : Int32) * (z_I h o0 24)) + x1).toNatClampNeg (z_I h o7 ((36 : Int32) + x1).toNatClampNeg)) fun h12 =>
    y_nm (x1 + 1) fun v13 =>
    some (.inl (v13, h12)))
noncomputable def fX12_keep_b46 (o0 : Nat) (x1 : Int32) (h : z_T) : Option (z_T) := y_lp (fun q : Int32 × z_T => fX12_keep_b46_i o0 q.1 q.2) (x1, h)
noncomputable def fX12_keep_b44 (o0 : Nat) (h : z_T) : Option (z_T) :=
  fX12_keep_b46 o0 (0 : Int32) h
noncomputable def fX12_keep_b11_i (o0 : Nat) (x1 : Int32) (h : z_T) : Option ((Int32 × z_T) ⊕ (z_T)) :=
  y_br ((91 : Int32) ≤ x1)
    (y_mp <|
    y_gd (z_ok h o0 11) <|
    y_nm (z_sI h o0 24 (7 : Int32)) fun h17 =>
    fX12_keep_b44 o0 h17)
    (y_gd (z_ok h o0 11) <|
    y_bi (z_R h o0 22) fun o19 =>
    y_gd (z_ok h o19 13) <|
    y_gd (z_ix (x1 + (13 : Int32)) (z_N h o19)) <|
    y_gd (z_ix x1 (z_N h o19)) <|
    y_nm (z_sI h o19 x1.toNatClampNeg (z_I h o19 (x1 + (13 : Int32)).toNatClampNeg)) fun h23 =>
    y_nm (x1 + 1) fun v24 =>
    some (.inl (v24, h23)))
noncomputable def fX12_keep_b11 (o0 : Nat) (x1 : Int32) (h : z_T) : Option (z_T) := y_lp (fun q : Int32 × z_T => fX12_keep_b11_i o0 q.1 q.2) (x1, h)
noncomputable def fX12_keep (o0 : Nat) (h : z_T) : Option (z_T) :=
  y_gd (z_ok h o0 11) <|
  y_br ((z_I h o0 24) = (8 : Int32))
    (fX12_keep_b11 o0 (0 : Int32) h)
    (fX12_keep_b44 o0 h)
set_option maxHeartbeats 4000000 in
set_option maxRecDepth 100000 in
theorem mm_X12_keep {G : z_Gt} {S : State → Prop} (hSK : z_SK S) (l : Launch) (ad : Nat → Nat) (o0 : Nat) (h : z_T) {h9 : z_T} (hv : fX12_keep o0 h = some h9) : z_Mv G S l yX12_keep cX12_keep 2 rm_X12_keep 0 0 [.ref (ad o0)] ad h h9 := by
  refine z_ofW hSK (by decide) (Nat.le_of_ble_eq_true rfl) ?_
  intro p e s m args below meth c ls hc hr hnm hB hl
  have hx := hc.1.1
  have hb := hc.1.2.1
  have hown := hc.1.2.2.2.1
  have hts := hc.1.2.2.2.2
  replace hc : z_C G S ad (z_n h) p m c cX12_keep 2 s args RX12 meth := hc
  replace hown : s.vm.findClass RX12 = some m.cls := hown
  replace hl : lv_has ls 2 [(0, .ref (ad o0))] := hl
  show W p l e rm_X12_keep s m args below meth c s.heap [] 0 0 (MQ below (z_Qv G ad h9 (z_n h) s.heap.size) args s 0 0 (z_A ad (z_n h) s.heap.size)) (F0 m 0 ls [])
  obtain ⟨rs, kt⟩ : ∃ rs : z_T, rs = h9 := ⟨_, rfl⟩
  generalize hn0 : z_n h = n0 at hc hB ⊢
  have L46 : ∀ (nn46 : Nat) (x1 : Int32) (h : z_T) (H : Heap) (locs : List Loc) (ls : Array Slot), z_B G ad n0 s h H locs → lv_has ls 2 [(0, .ref (ad o0)), (1, .int x1)] → ∀ vv46, y_lpN (fun q : Int32 × z_T => fX12_keep_b46_i o0 q.1 q.2) nn46 (x1, h) = some vv46 → vv46 = h9 → W p l e rm_X12_keep s m args below meth c H locs 0 0 (MQ below (z_Qv G ad h9 n0 s.heap.size) args s 0 0 (z_A ad n0 s.heap.size)) (F0 m 46 ls []) := by
    intro nn46
    induction nn46 with
    | zero => intro x1 h H locs ls hB hl vv46 hv kv46; exact absurd hv (fun q => y_lpN_0 q)
    | succ nn46 ih46 =>
      intro x1 h H locs ls hB hl vv46 hv kv46
      obtain ⟨w, hq, kw46⟩ := y_lpN_e hv
      clear hv
      have hv : fX12_keep_b46_i o0 x1 h = some w := hq
      clear hq
      refine lv_iload_n hx hb dX12_keep_46 rfl (lv_at hl 1 rfl) ?_
      refine lv_bipush (v := (13 : Int32)) hx hb dX12_keep_47 (by decide) ?_
      refine lv_icmp_ge (tgt := 81) hx hb dX12_keep_49 (by decide) (fun c1 => ?_) (fun c1 => ?_)
      · replace hv := y_br_t hv c1
        obtain ⟨t2, hq, ew⟩ := y_mp_e hv
        clear hv; subst ew
        replace kw46 : t2 = _ := kw46
        subst kw46
        have hv := hq
        clear hq
        refine lv_aload_n hx hb dX12_keep_81 rfl (lv_at hl 0 rfl) ?_
        refine lv_dup hx hb dX12_keep_82 rfl ?_
        obtain ⟨g3, hv⟩ := y_gd_e hv
        refine z_getI hc hB 11 24 g3 (by decide) (by decide) rfl (z_l1 hc qfX12_238) dX12_keep_83 ?_
        refine lv_iconst (v := (1 : Int32)) hx hb dX12_keep_86 (by decide) ?_
        refine lv_iadd hx hb dX12_keep_87 ?_
        obtain ⟨h4, eh4, hv⟩ := y_nm_e hv
        refine y_putI hc hB 11 24 eh4 g3 (z_l1 hc qfX12_238) dX12_keep_88 (by decide) (by decide) rfl rfl rfl rfl (fun H locs hB => ?_)
        replace hv := Option.some.inj hv
        subst hv
        rw [← kv46]
        exact z_vret hc hB hr dX12_keep_91
      · replace hv := y_br_f hv c1
        refine lv_aload_n hx hb dX12_keep_52 rfl (lv_at hl 0 rfl) ?_
        obtain ⟨g5, hv⟩ := y_gd_e hv
        obtain ⟨o6, eo6, hv⟩ := y_bi_e hv
        refine z_getR hc hB 11 22 g5 eo6 (by decide) (by decide) rfl (z_l1 hc qfX12_53) dX12_keep_53 ?_
        refine lv_bipush (v := (13 : Int32)) hx hb dX12_keep_56 (by decide) ?_
        refine lv_aload_n hx hb dX12_keep_58 rfl (lv_at hl 0 rfl) ?_
        refine z_getI hc hB 11 24 g5 (by decide) (by decide) rfl (z_l1 hc qfX12_238) dX12_keep_59 ?_
        refine lv_imul hx hb dX12_keep_62 ?_
        refine lv_iload_n hx hb dX12_keep_63 rfl (lv_at hl 1 rfl) ?_
        refine lv_iadd hx hb dX12_keep_64 ?_
        refine lv_aload_n hx hb dX12_keep_65 rfl (lv_at hl 0 rfl) ?_
        obtain ⟨o7, eo7, hv⟩ := y_bi_e hv
        refine z_getR hc hB 11 6 g5 eo7 (by decide) (by decide) rfl (z_l1 hc qfX12_33) dX12_keep_66 ?_
        refine lv_bipush (v := (36 : Int32)) hx hb dX12_keep_69 (by decide) ?_
        refine lv_iload_n hx hb dX12_keep_71 rfl (lv_at hl 1 rfl) ?_
        refine lv_iadd hx hb dX12_keep_72 ?_
        obtain ⟨g8, hv⟩ := y_gd_e hv
        obtain ⟨i9, hv⟩ := y_gd_e hv
        refine z_iald hc hB g8 i9 dX12_keep_73 ?_
        obtain ⟨g10, hv⟩ := y_gd_e hv
        obtain ⟨i11, hv⟩ := y_gd_e hv
        obtain ⟨h12, eh12, hv⟩ := y_nm_e hv
        refine y_iast hc hB eh12 g10 i11 dX12_keep_74 (fun H locs hB => ?_)
        obtain ⟨v13, ev13, hv⟩ := y_nm_e hv
        refine lv_iinc (v := v13) (lv' := [(1, .int v13), (0, .ref (ad o0))]) hx hb dX12_keep_75 hl (k := 1) rfl (by rw [ev13]; rfl) (by decide) rfl (fun ls hl => ?_)
        refine lv_goto (tgt := 46) hx hb dX12_keep_78 (by decide) ?_
        replace hv := Option.some.inj hv
        subst hv
        exact ih46 v13 h12 _ _ _ hB (lv_sub hl [1, 0] rfl) _ kw46 kv46
  have b44 : ∀ (h : z_T) (H : Heap) (locs : List Loc) (ls : Array Slot), z_B G ad n0 s h H locs → lv_has ls 2 [(0, .ref (ad o0))] → ∀ w, fX12_keep_b44 o0 h = some w → w = h9 → W p l e rm_X12_keep s m args below meth c H locs 0 0 (MQ below (z_Qv G ad h9 n0 s.heap.size) args s 0 0 (z_A ad n0 s.heap.size)) (F0 m 44 ls []) := by
    intro h H locs ls hB hl w hv kb
    refine lv_iconst (v := (0 : Int32)) hx hb dX12_keep_44 (by decide) ?_
    refine lv_istore_n (lv' := [(1, .int (0 : Int32)), (0, .ref (ad o0))]) hx hb dX12_keep_45 rfl hl (by decide) rfl (fun ls hl => ?_)
    obtain ⟨n, hv⟩ := y_lp_e hv
    exact L46 n (0 : Int32) h _ _ _ hB (lv_sub hl [1, 0] rfl) _ hv kb
  have L11 : ∀ (nn11 : Nat) (x1 : Int32) (h : z_T) (H : Heap) (locs : List Loc) (ls : Array Slot), z_B G ad n0 s h H locs → lv_has ls 2 [(0, .ref (ad o0)), (1, .int x1)] → ∀ vv11, y_lpN (fun q : Int32 × z_T => fX12_keep_b11_i o0 q.1 q.2) nn11 (x1, h) = some vv11 → vv11 = h9 → W p l e rm_X12_keep s m args below meth c H locs 0 0 (MQ below (z_Qv G ad h9 n0 s.heap.size) args s 0 0 (z_A ad n0 s.heap.size)) (F0 m 11 ls []) := by
    intro nn11
    induction nn11 with
    | zero => intro x1 h H locs ls hB hl vv11 hv kv11; exact absurd hv (fun q => y_lpN_0 q)
    | succ nn11 ih11 =>
      intro x1 h H locs ls hB hl vv11 hv kv11
      obtain ⟨w, hq, kw11⟩ := y_lpN_e hv
      clear hv
      have hv : fX12_keep_b11_i o0 x1 h = some w := hq
      clear hq
      refine lv_iload_n hx hb dX12_keep_11 rfl (lv_at hl 1 rfl) ?_
      refine lv_bipush (v := (91 : Int32)) hx hb dX12_keep_12 (by decide) ?_
      refine lv_icmp_ge (tgt := 38) hx hb dX12_keep_14 (by decide) (fun c14 => ?_) (fun c14 => ?_)
      · replace hv := y_br_t hv c14
        obtain ⟨t15, hq, ew⟩ := y_mp_e hv
        clear hv; subst ew
        replace kw11 : t15 = _ := kw11
        subst kw11
        have hv := hq
        clear hq
        refine lv_aload_n hx hb dX12_keep_38 rfl (lv_at hl 0 rfl) ?_
        refine lv_bipush (v := (7 : Int32)) hx hb dX12_keep_39 (by decide) ?_
        obtain ⟨g16, hv⟩ := y_gd_e hv
        obtain ⟨h17, eh17, hv⟩ := y_nm_e hv
        refine y_putI hc hB 11 24 eh17 g16 (z_l1 hc qfX12_238) dX12_keep_41 (by decide) (by decide) rfl rfl rfl rfl (fun H locs hB => ?_)
        exact b44 h17 _ _ _ hB (lv_sub hl [0] rfl) _ hv kv11
      · replace hv := y_br_f hv c14
        refine lv_aload_n hx hb dX12_keep_17 rfl (lv_at hl 0 rfl) ?_
        obtain ⟨g18, hv⟩ := y_gd_e hv
        obtain ⟨o19, eo19, hv⟩ := y_bi_e hv
        refine z_getR hc hB 11 22 g18 eo19 (by decide) (by decide) rfl (z_l1 hc qfX12_53) dX12_keep_18 ?_
        refine lv_iload_n hx hb dX12_keep_21 rfl (lv_at hl 1 rfl) ?_
        refine lv_aload_n hx hb dX12_keep_22 rfl (lv_at hl 0 rfl) ?_
        refine z_getR hc hB 11 22 g18 eo19 (by decide) (by decide) rfl (z_l1 hc qfX12_53) dX12_keep_23 ?_
        refine lv_iload_n hx hb dX12_keep_26 rfl (lv_at hl 1 rfl) ?_
        refine lv_bipush (v := (13 : Int32)) hx hb dX12_keep_27 (by decide) ?_
        refine lv_iadd hx hb dX12_keep_29 ?_
        obtain ⟨g20, hv⟩ := y_gd_e hv
        obtain ⟨i21, hv⟩ := y_gd_e hv
        refine z_iald hc hB g20 i21 dX12_keep_30 ?_
        obtain ⟨i22, hv⟩ := y_gd_e hv
        obtain ⟨h23, eh23, hv⟩ := y_nm_e hv
        refine y_iast hc hB eh23 g20 i22 dX12_keep_31 (fun H locs hB => ?_)
        obtain ⟨v24, ev24, hv⟩ := y_nm_e hv
        refine lv_iinc (v := v24) (lv' := [(1, .int v24), (0, .ref (ad o0))]) hx hb dX12_keep_32 hl (k := 1) rfl (by rw [ev24]; rfl) (by decide) rfl (fun ls hl => ?_)
        refine lv_goto (tgt := 11) hx hb dX12_keep_35 (by decide) ?_
        replace hv := Option.some.inj hv
        subst hv
        exact ih11 v24 h23 _ _ _ hB (lv_sub hl [1, 0] rfl) _ kw11 kv11
  rw [← kt] at hv
  refine lv_aload_n hx hb dX12_keep_0 rfl (lv_at hl 0 rfl) ?_
  obtain ⟨g25, hv⟩ := y_gd_e hv
  refine z_getI hc hB 11 24 g25 (by decide) (by decide) rfl (z_l1 hc qfX12_238) dX12_keep_1 ?_
  refine lv_bipush (v := (8 : Int32)) hx hb dX12_keep_4 (by decide) ?_
  refine lv_icmp_ne (tgt := 44) hx hb dX12_keep_6 (by decide) (fun c26 => ?_) (fun c26 => ?_)
  · replace hv := y_br_f hv c26
    exact b44 h _ _ _ hB (lv_sub hl [0] rfl) _ hv kt
  · replace hv := y_br_t hv c26
    refine lv_iconst (v := (0 : Int32)) hx hb dX12_keep_9 (by decide) ?_
    refine lv_istore_n (lv' := [(1, .int (0 : Int32)), (0, .ref (ad o0))]) hx hb dX12_keep_10 rfl hl (by decide) rfl (fun ls hl => ?_)
    obtain ⟨n, hv⟩ := y_lp_e hv
    exact L11 n (0 : Int32) h _ _ _ hB (lv_sub hl [1, 0] rfl) _ hv kt
theorem dX12_undo_0 : decode cX12_undo 0 = .ok (.aload_n 0, 1) := by decide +kernel
theorem dX12_undo_1 : decode cX12_undo 1 = .ok (.iconst 0, 1) := by decide +kernel
theorem dX12_undo_2 : decode cX12_undo 2 = .ok (.putfield 1, 3) := by decide +kernel
theorem dX12_undo_5 : decode cX12_undo 5 = .ok (.aload_n 0, 1) := by decide +kernel
theorem dX12_undo_6 : decode cX12_undo 6 = .ok (.getfield 238, 3) := by decide +kernel
theorem dX12_undo_9 : decode cX12_undo 9 = .ok (.ifCond .ne 5, 3) := by decide +kernel
theorem dX12_undo_12 : decode cX12_undo 12 = .ok (.iconst (-1), 1) := by decide +kernel
theorem dX12_undo_13 : decode cX12_undo 13 = .ok (.ireturn, 1) := by decide +kernel
theorem dX12_undo_14 : decode cX12_undo 14 = .ok (.aload_n 0, 1) := by decide +kernel
theorem dX12_undo_15 : decode cX12_undo 15 = .ok (.dup, 1) := by decide +kernel
theorem dX12_undo_16 : decode cX12_undo 16 = .ok (.getfield 238, 3) := by decide +kernel
theorem dX12_undo_19 : decode cX12_undo 19 = .ok (.iconst 1, 1) := by decide +kernel
theorem dX12_undo_20 : decode cX12_undo 20 = .ok (.isub, 1) := by decide +kernel
theorem dX12_undo_21 : decode cX12_undo 21 = .ok (.putfield 238, 3) := by decide +kernel
theorem dX12_undo_24 : decode cX12_undo 24 = .ok (.iconst 0, 1) := by decide +kernel
theorem dX12_undo_25 : decode cX12_undo 25 = .ok (.istore_n 1, 1) := by decide +kernel
theorem dX12_undo_26 : decode cX12_undo 26 = .ok (.iload_n 1, 1) := by decide +kernel
theorem dX12_undo_27 : decode cX12_undo 27 = .ok (.bipush 13, 2) := by decide +kernel
theorem dX12_undo_29 : decode cX12_undo 29 = .ok (.if_icmp .ge 32, 3) := by decide +kernel
theorem dX12_undo_32 : decode cX12_undo 32 = .ok (.aload_n 0, 1) := by decide +kernel
theorem dX12_undo_33 : decode cX12_undo 33 = .ok (.getfield 33, 3) := by decide +kernel
theorem dX12_undo_36 : decode cX12_undo 36 = .ok (.bipush 36, 2) := by decide +kernel
theorem dX12_undo_38 : decode cX12_undo 38 = .ok (.iload_n 1, 1) := by decide +kernel
theorem dX12_undo_39 : decode cX12_undo 39 = .ok (.iadd, 1) := by decide +kernel
theorem dX12_undo_40 : decode cX12_undo 40 = .ok (.aload_n 0, 1) := by decide +kernel
theorem dX12_undo_41 : decode cX12_undo 41 = .ok (.getfield 53, 3) := by decide +kernel
theorem dX12_undo_44 : decode cX12_undo 44 = .ok (.bipush 13, 2) := by decide +kernel
theorem dX12_undo_46 : decode cX12_undo 46 = .ok (.aload_n 0, 1) := by decide +kernel
theorem dX12_undo_47 : decode cX12_undo 47 = .ok (.getfield 238, 3) := by decide +kernel
theorem dX12_undo_50 : decode cX12_undo 50 = .ok (.imul, 1) := by decide +kernel
theorem dX12_undo_51 : decode cX12_undo 51 = .ok (.iload_n 1, 1) := by decide +kernel
theorem dX12_undo_52 : decode cX12_undo 52 = .ok (.iadd, 1) := by decide +kernel
theorem dX12_undo_53 : decode cX12_undo 53 = .ok (.iaload, 1) := by decide +kernel
theorem dX12_undo_54 : decode cX12_undo 54 = .ok (.iastore, 1) := by decide +kernel
theorem dX12_undo_55 : decode cX12_undo 55 = .ok (.iinc 1 1, 3) := by decide +kernel
theorem dX12_undo_58 : decode cX12_undo 58 = .ok (.goto (-32), 3) := by decide +kernel
theorem dX12_undo_61 : decode cX12_undo 61 = .ok (.aload_n 0, 1) := by decide +kernel
theorem dX12_undo_62 : decode cX12_undo 62 = .ok (.getfield 238, 3) := by decide +kernel
theorem dX12_undo_65 : decode cX12_undo 65 = .ok (.ireturn, 1) := by decide +kernel
abbrev rm_X12_undo : Room := { frames := 0, cells := 0, slots := 0, locals := 0 }
noncomputable def fX12_undo_b26_i (o0 : Nat) (x1 : Int32) (h : z_T) : Option ((Int32 × z_T) ⊕ (Int32 × z_T)) :=
  y_br ((13 : Int32) ≤ x1)
    (y_mp <|
    y_gd (z_ok h o0 11) <|
    some ((z_I h o0 24), h))
    (y_gd (z_ok h o0 11) <|
    y_bi (z_R h o0 6) fun o5 =>
    y_bi (z_R h o0 22) fun o6 =>
    y_gd (z_ok h o6 13) <|
    y_gd (z_ix (((13 : Int32) * (z_I h o0 24)) + x1) (z_N h o6)) <|
    y_gd (z_ok h o5 13) <|
    y_gd (z_ix ((36 : Int32) + x1) (z_N h o5)) <|
    y_nm (z_sI h o5 ((36 : Int32) + x1).toNatClampNeg (z_I h o6 (((13 : Int32) * (z_I h o0 24)) + x1).toNatClampNeg)) fun h11 =>
    y_nm (x1 + 1) fun v12 =>
    some (.inl (v12, h11)))
noncomputable def fX12_undo_b26 (o0 : Nat) (x1 : Int32) (h : z_T) : Option (Int32 × z_T) := y_lp (fun q : Int32 × z_T => fX12_undo_b26_i o0 q.1 q.2) (x1, h)
noncomputable def fX12_undo (o0 : Nat) (h : z_T) : Option (Int32 × z_T) :=
  y_gd (z_ok h o0 11) <|
  y_nm (z_sI h o0 0 (0 : Int32)) fun h14 =>
  y_br ((z_I h14 o0 24) = 0)
    (some ((-1 : Int32), h14))
    (y_nm (z_sI h14 o0 24 ((z_I h14 o0 24) - (1 : Int32))) fun h16 =>
    fX12_undo_b26 o0 (0 : Int32) h16)
set_option maxHeartbeats 4000000 in
set_option maxRecDepth 100000 in
theorem mm_X12_undo {G : z_Gt} {S : State → Prop} (hSK : z_SK S) (l : Launch) (ad : Nat → Nat) (o0 : Nat) (h : z_T) {r0 : Int32} {h9 : z_T} (hv : fX12_undo o0 h = some (r0, h9)) : z_Mi G S l yX12_undo cX12_undo 2 (.int) rm_X12_undo 0 0 [.ref (ad o0)] ad h h9 r0 := by
  refine z_ofW hSK (by decide) (Nat.le_of_ble_eq_true rfl) ?_
  intro p e s m args below meth c ls hc hr hnm hB hl
  have hx := hc.1.1
  have hb := hc.1.2.1
  have hown := hc.1.2.2.2.1
  have hts := hc.1.2.2.2.2
  replace hc : z_C G S ad (z_n h) p m c cX12_undo 2 s args RX12 meth := hc
  replace hown : s.vm.findClass RX12 = some m.cls := hown
  replace hl : lv_has ls 2 [(0, .ref (ad o0))] := hl
  show W p l e rm_X12_undo s m args below meth c s.heap [] 0 0 (MQ below (z_Qi G ad h9 (z_n h) s.heap.size r0) args s 0 0 (z_A ad (z_n h) s.heap.size)) (F0 m 0 ls [])
  obtain ⟨rs, kt⟩ : ∃ rs : Int32 × z_T, rs = (r0, h9) := ⟨_, rfl⟩
  generalize hn0 : z_n h = n0 at hc hB ⊢
  have L26 : ∀ (nn26 : Nat) (x1 : Int32) (h : z_T) (H : Heap) (locs : List Loc) (ls : Array Slot), z_B G ad n0 s h H locs → lv_has ls 2 [(0, .ref (ad o0)), (1, .int x1)] → ∀ vv26, y_lpN (fun q : Int32 × z_T => fX12_undo_b26_i o0 q.1 q.2) nn26 (x1, h) = some vv26 → vv26 = (r0, h9) → W p l e rm_X12_undo s m args below meth c H locs 0 0 (MQ below (z_Qi G ad h9 n0 s.heap.size r0) args s 0 0 (z_A ad n0 s.heap.size)) (F0 m 26 ls []) := by
    intro nn26
    induction nn26 with
    | zero => intro x1 h H locs ls hB hl vv26 hv kv26; exact absurd hv (fun q => y_lpN_0 q)
    | succ nn26 ih26 =>
      intro x1 h H locs ls hB hl vv26 hv kv26
      obtain ⟨w, hq, kw26⟩ := y_lpN_e hv
      clear hv
      have hv : fX12_undo_b26_i o0 x1 h = some w := hq
      clear hq
      refine lv_iload_n hx hb dX12_undo_26 rfl (lv_at hl 1 rfl) ?_
      refine lv_bipush (v := (13 : Int32)) hx hb dX12_undo_27 (by decide) ?_
      refine lv_icmp_ge (tgt := 61) hx hb dX12_undo_29 (by decide) (fun c1 => ?_) (fun c1 => ?_)
      · replace hv := y_br_t hv c1
        obtain ⟨t2, hq, ew⟩ := y_mp_e hv
        clear hv; subst ew
        replace kw26 : t2 = _ := kw26
        subst kw26
        have hv := hq
        clear hq
        refine lv_aload_n hx hb dX12_undo_61 rfl (lv_at hl 0 rfl) ?_
        obtain ⟨g3, hv⟩ := y_gd_e hv
        refine z_getI hc hB 11 24 g3 (by decide) (by decide) rfl (z_l1 hc qfX12_238) dX12_undo_62 ?_
        replace hv := Option.some.inj hv
        subst hv
        obtain ⟨e1, e2⟩ := y_pr kv26
        rw [← e1, ← e2]
        exact z_iret hc hB hr dX12_undo_65
      · replace hv := y_br_f hv c1
        refine lv_aload_n hx hb dX12_undo_32 rfl (lv_at hl 0 rfl) ?_
        obtain ⟨g4, hv⟩ := y_gd_e hv
        obtain ⟨o5, eo5, hv⟩ := y_bi_e hv
        refine z_getR hc hB 11 6 g4 eo5 (by decide) (by decide) rfl (z_l1 hc qfX12_33) dX12_undo_33 ?_
        refine lv_bipush (v := (36 : Int32)) hx hb dX12_undo_36 (by decide) ?_
        refine lv_iload_n hx hb dX12_undo_38 rfl (lv_at hl 1 rfl) ?_
        refine lv_iadd hx hb dX12_undo_39 ?_
        refine lv_aload_n hx hb dX12_undo_40 rfl (lv_at hl 0 rfl) ?_
        obtain ⟨o6, eo6, hv⟩ := y_bi_e hv
        refine z_getR hc hB 11 22 g4 eo6 (by decide) (by decide) rfl (z_l1 hc qfX12_53) dX12_undo_41 ?_
        refine lv_bipush (v := (13 : Int32)) hx hb dX12_undo_44 (by decide) ?_
        refine lv_aload_n hx hb dX12_undo_46 rfl (lv_at hl 0 rfl) ?_
        refine z_getI hc hB 11 24 g4 (by decide) (by decide) rfl (z_l1 hc qfX12_238) dX12_undo_47 ?_
        refine lv_imul hx hb dX12_undo_50 ?_
        refine lv_iload_n hx hb dX12_undo_51 rfl (lv_at hl 1 rfl) ?_
        refine lv_iadd hx hb dX12_undo_52 ?_
        obtain ⟨g7, hv⟩ := y_gd_e hv
        obtain ⟨i8, hv⟩ := y_gd_e hv
        refine z_iald hc hB g7 i8 dX12_undo_53 ?_
        obtain ⟨g9, hv⟩ := y_gd_e hv
        obtain ⟨i10, hv⟩ := y_gd_e hv
        obtain ⟨h11, eh11, hv⟩ := y_nm_e hv
        refine y_iast hc hB eh11 g9 i10 dX12_undo_54 (fun H locs hB => ?_)
        obtain ⟨v12, ev12, hv⟩ := y_nm_e hv
        refine lv_iinc (v := v12) (lv' := [(1, .int v12), (0, .ref (ad o0))]) hx hb dX12_undo_55 hl (k := 1) rfl (by rw [ev12]; rfl) (by decide) rfl (fun ls hl => ?_)
        refine lv_goto (tgt := 26) hx hb dX12_undo_58 (by decide) ?_
        replace hv := Option.some.inj hv
        subst hv
        exact ih26 v12 h11 _ _ _ hB (lv_sub hl [1, 0] rfl) _ kw26 kv26
  rw [← kt] at hv
  refine lv_aload_n hx hb dX12_undo_0 rfl (lv_at hl 0 rfl) ?_
  refine lv_iconst (v := (0 : Int32)) hx hb dX12_undo_1 (by decide) ?_
  obtain ⟨g13, hv⟩ := y_gd_e hv
  obtain ⟨h14, eh14, hv⟩ := y_nm_e hv
  refine y_putI hc hB 11 0 eh14 g13 (z_l1 hc qfX12_1) dX12_undo_2 (by decide) (by decide) rfl rfl rfl rfl (fun H locs hB => ?_)
  refine lv_aload_n hx hb dX12_undo_5 rfl (lv_at hl 0 rfl) ?_
  refine z_getI hc hB 11 24 (by rw [eh14]; exact g13) (by decide) (by decide) rfl (z_l1 hc qfX12_238) dX12_undo_6 ?_
  refine lv_if_ne (tgt := 14) hx hb dX12_undo_9 (by decide) (fun c15 => ?_) (fun c15 => ?_)
  · replace hv := y_br_f hv c15
    refine lv_aload_n hx hb dX12_undo_14 rfl (lv_at hl 0 rfl) ?_
    refine lv_dup hx hb dX12_undo_15 rfl ?_
    refine z_getI hc hB 11 24 (by rw [eh14]; exact g13) (by decide) (by decide) rfl (z_l1 hc qfX12_238) dX12_undo_16 ?_
    refine lv_iconst (v := (1 : Int32)) hx hb dX12_undo_19 (by decide) ?_
    refine lv_isub hx hb dX12_undo_20 ?_
    obtain ⟨h16, eh16, hv⟩ := y_nm_e hv
    refine y_putI hc hB 11 24 eh16 (by rw [eh14]; exact g13) (z_l1 hc qfX12_238) dX12_undo_21 (by decide) (by decide) rfl rfl rfl rfl (fun H locs hB => ?_)
    refine lv_iconst (v := (0 : Int32)) hx hb dX12_undo_24 (by decide) ?_
    refine lv_istore_n (lv' := [(1, .int (0 : Int32)), (0, .ref (ad o0))]) hx hb dX12_undo_25 rfl hl (by decide) rfl (fun ls hl => ?_)
    obtain ⟨n, hv⟩ := y_lp_e hv
    exact L26 n (0 : Int32) h16 _ _ _ hB (lv_sub hl [1, 0] rfl) _ hv kt
  · replace hv := y_br_t hv c15
    refine lv_iconst (v := (-1 : Int32)) hx hb dX12_undo_12 (by decide) ?_
    replace hv := Option.some.inj hv
    subst hv
    obtain ⟨e1, e2⟩ := y_pr kt
    rw [← e1, ← e2]
    exact z_iret hc hB hr dX12_undo_13
