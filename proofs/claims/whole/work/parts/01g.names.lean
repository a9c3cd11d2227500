theorem dX12_turns_44 : decode cX12_turns 44 = .ok (.isub, 1) := by decide +kernel
theorem dX12_turns_45 : decode cX12_turns 45 = .ok (.iaload, 1) := by decide +kernel
theorem dX12_turns_46 : decode cX12_turns 46 = .ok (.istore 8, 2) := by decide +kernel
theorem dX12_turns_48 : decode cX12_turns 48 = .ok (.iload 6, 2) := by decide +kernel
theorem dX12_turns_50 : decode cX12_turns 50 = .ok (.ifCond .eq 8, 3) := by decide +kernel
theorem dX12_turns_53 : decode cX12_turns 53 = .ok (.iload 5, 2) := by decide +kernel
theorem dX12_turns_55 : decode cX12_turns 55 = .ok (.goto 15, 3) := by decide +kernel
theorem dX12_turns_58 : decode cX12_turns 58 = .ok (.aload_n 0, 1) := by decide +kernel
theorem dX12_turns_59 : decode cX12_turns 59 = .ok (.getfield 50, 3) := by decide +kernel
theorem dX12_turns_62 : decode cX12_turns 62 = .ok (.bipush 8, 2) := by decide +kernel
theorem dX12_turns_64 : decode cX12_turns 64 = .ok (.iload 8, 2) := by decide +kernel
theorem dX12_turns_66 : decode cX12_turns 66 = .ok (.imul, 1) := by decide +kernel
theorem dX12_turns_67 : decode cX12_turns 67 = .ok (.iload_n 3, 1) := by decide +kernel
theorem dX12_turns_68 : decode cX12_turns 68 = .ok (.iadd, 1) := by decide +kernel
theorem dX12_turns_69 : decode cX12_turns 69 = .ok (.iaload, 1) := by decide +kernel
theorem dX12_turns_70 : decode cX12_turns 70 = .ok (.istore 9, 2) := by decide +kernel
theorem dX12_turns_72 : decode cX12_turns 72 = .ok (.iload 8, 2) := by decide +kernel
theorem dX12_turns_74 : decode cX12_turns 74 = .ok (.ifCond .lt 12, 3) := by decide +kernel
theorem dX12_turns_77 : decode cX12_turns 77 = .ok (.iload 9, 2) := by decide +kernel
theorem dX12_turns_79 : decode cX12_turns 79 = .ok (.ifCond .lt 7, 3) := by decide +kernel
theorem dX12_turns_82 : decode cX12_turns 82 = .ok (.iconst 1, 1) := by decide +kernel
theorem dX12_turns_83 : decode cX12_turns 83 = .ok (.goto 4, 3) := by decide +kernel
theorem dX12_turns_86 : decode cX12_turns 86 = .ok (.iconst 0, 1) := by decide +kernel
theorem dX12_turns_87 : decode cX12_turns 87 = .ok (.istore 7, 2) := by decide +kernel
theorem dX12_turns_89 : decode cX12_turns 89 = .ok (.iload 7, 2) := by decide +kernel
theorem dX12_turns_91 : decode cX12_turns 91 = .ok (.ifCond .ne 6, 3) := by decide +kernel
theorem dX12_turns_94 : decode cX12_turns 94 = .ok (.goto (-82), 3) := by decide +kernel
theorem dX12_turns_97 : decode cX12_turns 97 = .ok (.aload_n 0, 1) := by decide +kernel
theorem dX12_turns_98 : decode cX12_turns 98 = .ok (.getfield 56, 3) := by decide +kernel
theorem dX12_turns_101 : decode cX12_turns 101 = .ok (.iload 4, 2) := by decide +kernel
theorem dX12_turns_103 : decode cX12_turns 103 = .ok (.iload 8, 2) := by decide +kernel
theorem dX12_turns_105 : decode cX12_turns 105 = .ok (.iastore, 1) := by decide +kernel
theorem dX12_turns_106 : decode cX12_turns 106 = .ok (.aload_n 0, 1) := by decide +kernel
theorem dX12_turns_107 : decode cX12_turns 107 = .ok (.getfield 59, 3) := by decide +kernel
theorem dX12_turns_110 : decode cX12_turns 110 = .ok (.iload 4, 2) := by decide +kernel
theorem dX12_turns_112 : decode cX12_turns 112 = .ok (.iload 9, 2) := by decide +kernel
theorem dX12_turns_114 : decode cX12_turns 114 = .ok (.iastore, 1) := by decide +kernel
theorem dX12_turns_115 : decode cX12_turns 115 = .ok (.iinc 4 1, 3) := by decide +kernel
theorem dX12_turns_118 : decode cX12_turns 118 = .ok (.iload 9, 2) := by decide +kernel
theorem dX12_turns_120 : decode cX12_turns 120 = .ok (.istore 5, 2) := by decide +kernel
theorem dX12_turns_122 : decode cX12_turns 122 = .ok (.iload 6, 2) := by decide +kernel
theorem dX12_turns_124 : decode cX12_turns 124 = .ok (.ifCond .ne 7, 3) := by decide +kernel
theorem dX12_turns_127 : decode cX12_turns 127 = .ok (.iconst 1, 1) := by decide +kernel
theorem dX12_turns_128 : decode cX12_turns 128 = .ok (.goto 4, 3) := by decide +kernel
theorem dX12_turns_131 : decode cX12_turns 131 = .ok (.iconst 0, 1) := by decide +kernel
theorem dX12_turns_132 : decode cX12_turns 132 = .ok (.istore 6, 2) := by decide +kernel
theorem dX12_turns_134 : decode cX12_turns 134 = .ok (.goto (-122), 3) := by decide +kernel
theorem dX12_turns_137 : decode cX12_turns 137 = .ok (.iconst 0, 1) := by decide +kernel
theorem dX12_turns_138 : decode cX12_turns 138 = .ok (.istore 8, 2) := by decide +kernel
theorem dX12_turns_140 : decode cX12_turns 140 = .ok (.iload 8, 2) := by decide +kernel
theorem dX12_turns_142 : decode cX12_turns 142 = .ok (.iload 4, 2) := by decide +kernel
theorem dX12_turns_144 : decode cX12_turns 144 = .ok (.if_icmp .ge 61, 3) := by decide +kernel
theorem dX12_turns_147 : decode cX12_turns 147 = .ok (.iload 8, 2) := by decide +kernel
theorem dX12_turns_149 : decode cX12_turns 149 = .ok (.iconst 2, 1) := by decide +kernel
theorem dX12_turns_150 : decode cX12_turns 150 = .ok (.irem, 1) := by decide +kernel
theorem dX12_turns_151 : decode cX12_turns 151 = .ok (.ifCond .ne 7, 3) := by decide +kernel
theorem dX12_turns_154 : decode cX12_turns 154 = .ok (.iload_n 2, 1) := by decide +kernel
theorem dX12_turns_155 : decode cX12_turns 155 = .ok (.goto 4, 3) := by decide +kernel
theorem dX12_turns_158 : decode cX12_turns 158 = .ok (.iload_n 3, 1) := by decide +kernel
theorem dX12_turns_159 : decode cX12_turns 159 = .ok (.istore 9, 2) := by decide +kernel
theorem dX12_turns_161 : decode cX12_turns 161 = .ok (.aload_n 0, 1) := by decide +kernel
theorem dX12_turns_162 : decode cX12_turns 162 = .ok (.getfield 50, 3) := by decide +kernel
theorem dX12_turns_165 : decode cX12_turns 165 = .ok (.bipush 8, 2) := by decide +kernel
theorem dX12_turns_167 : decode cX12_turns 167 = .ok (.aload_n 0, 1) := by decide +kernel
theorem dX12_turns_168 : decode cX12_turns 168 = .ok (.getfield 56, 3) := by decide +kernel
theorem dX12_turns_171 : decode cX12_turns 171 = .ok (.iload 8, 2) := by decide +kernel
theorem dX12_turns_173 : decode cX12_turns 173 = .ok (.iaload, 1) := by decide +kernel
theorem dX12_turns_174 : decode cX12_turns 174 = .ok (.imul, 1) := by decide +kernel
theorem dX12_turns_175 : decode cX12_turns 175 = .ok (.iload 9, 2) := by decide +kernel
theorem dX12_turns_177 : decode cX12_turns 177 = .ok (.iadd, 1) := by decide +kernel
theorem dX12_turns_178 : decode cX12_turns 178 = .ok (.iconst (-1), 1) := by decide +kernel
theorem dX12_turns_179 : decode cX12_turns 179 = .ok (.iastore, 1) := by decide +kernel
theorem dX12_turns_180 : decode cX12_turns 180 = .ok (.aload_n 0, 1) := by decide +kernel
theorem dX12_turns_181 : decode cX12_turns 181 = .ok (.getfield 53, 3) := by decide +kernel
theorem dX12_turns_184 : decode cX12_turns 184 = .ok (.bipush 8, 2) := by decide +kernel
theorem dX12_turns_186 : decode cX12_turns 186 = .ok (.aload_n 0, 1) := by decide +kernel
theorem dX12_turns_187 : decode cX12_turns 187 = .ok (.getfield 59, 3) := by decide +kernel
theorem dX12_turns_190 : decode cX12_turns 190 = .ok (.iload 8, 2) := by decide +kernel
theorem dX12_turns_192 : decode cX12_turns 192 = .ok (.iaload, 1) := by decide +kernel
theorem dX12_turns_193 : decode cX12_turns 193 = .ok (.imul, 1) := by decide +kernel
theorem dX12_turns_194 : decode cX12_turns 194 = .ok (.iload 9, 2) := by decide +kernel
theorem dX12_turns_196 : decode cX12_turns 196 = .ok (.iadd, 1) := by decide +kernel
theorem dX12_turns_197 : decode cX12_turns 197 = .ok (.iconst (-1), 1) := by decide +kernel
theorem dX12_turns_198 : decode cX12_turns 198 = .ok (.iastore, 1) := by decide +kernel
theorem dX12_turns_199 : decode cX12_turns 199 = .ok (.iinc 8 1, 3) := by decide +kernel
theorem dX12_turns_202 : decode cX12_turns 202 = .ok (.goto (-62), 3) := by decide +kernel
theorem dX12_turns_205 : decode cX12_turns 205 = .ok (.iconst 0, 1) := by decide +kernel
theorem dX12_turns_206 : decode cX12_turns 206 = .ok (.istore 8, 2) := by decide +kernel
theorem dX12_turns_208 : decode cX12_turns 208 = .ok (.iload 8, 2) := by decide +kernel
theorem dX12_turns_210 : decode cX12_turns 210 = .ok (.iload 4, 2) := by decide +kernel
theorem dX12_turns_212 : decode cX12_turns 212 = .ok (.if_icmp .ge 73, 3) := by decide +kernel
theorem dX12_turns_215 : decode cX12_turns 215 = .ok (.iload 8, 2) := by decide +kernel
theorem dX12_turns_217 : decode cX12_turns 217 = .ok (.iconst 2, 1) := by decide +kernel
theorem dX12_turns_218 : decode cX12_turns 218 = .ok (.irem, 1) := by decide +kernel
theorem dX12_turns_219 : decode cX12_turns 219 = .ok (.ifCond .ne 7, 3) := by decide +kernel
theorem dX12_turns_222 : decode cX12_turns 222 = .ok (.iload_n 3, 1) := by decide +kernel
theorem dX12_turns_223 : decode cX12_turns 223 = .ok (.goto 4, 3) := by decide +kernel
theorem dX12_turns_226 : decode cX12_turns 226 = .ok (.iload_n 2, 1) := by decide +kernel
theorem dX12_turns_227 : decode cX12_turns 227 = .ok (.istore 9, 2) := by decide +kernel
theorem dX12_turns_229 : decode cX12_turns 229 = .ok (.aload_n 0, 1) := by decide +kernel
theorem dX12_turns_230 : decode cX12_turns 230 = .ok (.getfield 50, 3) := by decide +kernel
theorem dX12_turns_233 : decode cX12_turns 233 = .ok (.bipush 8, 2) := by decide +kernel
theorem dX12_turns_235 : decode cX12_turns 235 = .ok (.aload_n 0, 1) := by decide +kernel
theorem dX12_turns_236 : decode cX12_turns 236 = .ok (.getfield 56, 3) := by decide +kernel
theorem dX12_turns_239 : decode cX12_turns 239 = .ok (.iload 8, 2) := by decide +kernel
theorem dX12_turns_241 : decode cX12_turns 241 = .ok (.iaload, 1) := by decide +kernel
theorem dX12_turns_242 : decode cX12_turns 242 = .ok (.imul, 1) := by decide +kernel
theorem dX12_turns_243 : decode cX12_turns 243 = .ok (.iload 9, 2) := by decide +kernel
theorem dX12_turns_245 : decode cX12_turns 245 = .ok (.iadd, 1) := by decide +kernel
theorem dX12_turns_246 : decode cX12_turns 246 = .ok (.aload_n 0, 1) := by decide +kernel
theorem dX12_turns_247 : decode cX12_turns 247 = .ok (.getfield 59, 3) := by decide +kernel
theorem dX12_turns_250 : decode cX12_turns 250 = .ok (.iload 8, 2) := by decide +kernel
theorem dX12_turns_252 : decode cX12_turns 252 = .ok (.iaload, 1) := by decide +kernel
theorem dX12_turns_253 : decode cX12_turns 253 = .ok (.iastore, 1) := by decide +kernel
theorem dX12_turns_254 : decode cX12_turns 254 = .ok (.aload_n 0, 1) := by decide +kernel
theorem dX12_turns_255 : decode cX12_turns 255 = .ok (.getfield 53, 3) := by decide +kernel
theorem dX12_turns_258 : decode cX12_turns 258 = .ok (.bipush 8, 2) := by decide +kernel
theorem dX12_turns_260 : decode cX12_turns 260 = .ok (.aload_n 0, 1) := by decide +kernel
theorem dX12_turns_261 : decode cX12_turns 261 = .ok (.getfield 59, 3) := by decide +kernel
theorem dX12_turns_264 : decode cX12_turns 264 = .ok (.iload 8, 2) := by decide +kernel
theorem dX12_turns_266 : decode cX12_turns 266 = .ok (.iaload, 1) := by decide +kernel
theorem dX12_turns_267 : decode cX12_turns 267 = .ok (.imul, 1) := by decide +kernel
theorem dX12_turns_268 : decode cX12_turns 268 = .ok (.iload 9, 2) := by decide +kernel
theorem dX12_turns_270 : decode cX12_turns 270 = .ok (.iadd, 1) := by decide +kernel
theorem dX12_turns_271 : decode cX12_turns 271 = .ok (.aload_n 0, 1) := by decide +kernel
theorem dX12_turns_272 : decode cX12_turns 272 = .ok (.getfield 56, 3) := by decide +kernel
theorem dX12_turns_275 : decode cX12_turns 275 = .ok (.iload 8, 2) := by decide +kernel
theorem dX12_turns_277 : decode cX12_turns 277 = .ok (.iaload, 1) := by decide +kernel
theorem dX12_turns_278 : decode cX12_turns 278 = .ok (.iastore, 1) := by decide +kernel
theorem dX12_turns_279 : decode cX12_turns 279 = .ok (.iinc 8 1, 3) := by decide +kernel
theorem dX12_turns_282 : decode cX12_turns 282 = .ok (.goto (-74), 3) := by decide +kernel
theorem dX12_turns_285 : decode cX12_turns 285 = .ok (.return_, 1) := by decide +kernel
set_option maxRecDepth 20000 in
theorem ggX12_meets_X12_isAgent : GoodIn wsX12_meets wsX12_isAgent := goodIn_r _ [9, 10, 59, 60, 61, 62, 63, 64, 65, 66, 67, 68, 69, 70, 71, 72, 73, 74, 75, 76, 77, 78, 79, 80, 81, 82, 83, 84, 85, 86, 87, 88, 89, 90, 91, 92, 93, 94, 95, 96, 97, 98, 99, 100, 101, 102, 103, 104, 105, 106, 107, 108, 109, 110, 111, 112] (by decide +kernel) (by decide +kernel)
set_option maxRecDepth 20000 in
theorem gX12_meets_X12_isAgent : GoodIn wsX12_meets (wsV RX12 167 RX12 yX12_isAgent wsX12_isAgent) := goodIn_app (goodIn_of _ (by decide +kernel)) ggX12_meets_X12_isAgent
set_option maxRecDepth 20000 in
theorem ggX12_meets_X12_isEditor : GoodIn wsX12_meets wsX12_isEditor := goodIn_r _ [14, 15, 59, 60, 61, 62, 63, 64, 65, 66, 67, 68, 69, 70, 71, 72, 73, 74, 75, 76, 77, 78, 79, 80, 81, 82, 83, 84, 85, 86, 87, 88, 89, 90, 91, 92, 93, 94, 95, 96, 97, 98, 99, 100, 101, 102, 103, 104, 105, 106, 107, 108, 109, 110, 111, 112] (by decide +kernel) (by decide +kernel)
set_option maxRecDepth 20000 in
theorem gX12_meets_X12_isEditor : GoodIn wsX12_meets (wsV RX12 170 RX12 yX12_isEditor wsX12_isEditor) := goodIn_app (goodIn_of _ (by decide +kernel)) ggX12_meets_X12_isEditor
set_option maxRecDepth 20000 in
theorem ggX12_meets_X12_refuse : GoodIn wsX12_meets wsX12_refuse := goodIn_r _ [19, 2, 59, 60, 61, 62, 63, 64, 65, 66, 67, 68, 69, 70, 71, 72, 73, 74, 75, 76, 77, 78, 79, 80, 81, 82, 83, 84, 85, 86, 87, 88, 89, 90, 91, 92, 93, 94, 95, 96, 97, 98, 99, 100, 101, 102, 103, 104, 105, 106, 107, 108, 109, 110, 111, 112] (by decide +kernel) (by decide +kernel)
set_option maxRecDepth 20000 in
theorem gX12_meets_X12_refuse : GoodIn wsX12_meets (wsV RX12 164 RX12 yX12_refuse wsX12_refuse) := goodIn_app (goodIn_of _ (by decide +kernel)) ggX12_meets_X12_refuse
set_option maxRecDepth 20000 in
theorem ggX12_meets_X12_lays : GoodIn wsX12_meets wsX12_lays := goodIn_r _ [23, 4, 24, 10, 15, 25, 26, 27, 28, 8, 29, 30, 31, 32, 33, 34, 35, 3, 36, 37, 38, 39, 40, 41, 42, 43, 44, 45, 46, 47, 48, 49, 50, 51, 52, 53, 54, 55, 56, 57, 58, 59, 60, 61, 62, 63, 64, 65, 66, 67, 68, 69, 70, 71, 72, 73, 74, 75, 76, 77, 78, 79, 80, 81, 82, 83, 84, 85, 86, 87, 88, 89, 90, 91, 92, 93, 94, 95, 96, 97, 98, 99, 100, 101, 102, 103, 104, 105, 106, 107, 108, 109, 110, 111, 112] (by decide +kernel) (by decide +kernel)
set_option maxRecDepth 20000 in
theorem gX12_meets_X12_lays : GoodIn wsX12_meets (wsV RX12 195 RX12 yX12_lays wsX12_lays) := goodIn_app (goodIn_of _ (by decide +kernel)) ggX12_meets_X12_lays
theorem dX12_meets_0 : decode cX12_meets 0 = .ok (.aload_n 0, 1) := by decide +kernel
theorem dX12_meets_1 : decode cX12_meets 1 = .ok (.iconst 0, 1) := by decide +kernel
theorem dX12_meets_2 : decode cX12_meets 2 = .ok (.putfield 134, 3) := by decide +kernel
theorem dX12_meets_5 : decode cX12_meets 5 = .ok (.aload_n 0, 1) := by decide +kernel
theorem dX12_meets_6 : decode cX12_meets 6 = .ok (.iconst 0, 1) := by decide +kernel
theorem dX12_meets_7 : decode cX12_meets 7 = .ok (.putfield 137, 3) := by decide +kernel
theorem dX12_meets_10 : decode cX12_meets 10 = .ok (.aload_n 0, 1) := by decide +kernel
theorem dX12_meets_11 : decode cX12_meets 11 = .ok (.iload_n 1, 1) := by decide +kernel
theorem dX12_meets_12 : decode cX12_meets 12 = .ok (.invokevirtual 167, 3) := by decide +kernel
theorem dX12_meets_15 : decode cX12_meets 15 = .ok (.ifCond .eq 11, 3) := by decide +kernel
theorem dX12_meets_18 : decode cX12_meets 18 = .ok (.aload_n 0, 1) := by decide +kernel
theorem dX12_meets_19 : decode cX12_meets 19 = .ok (.iload_n 2, 1) := by decide +kernel
theorem dX12_meets_20 : decode cX12_meets 20 = .ok (.invokevirtual 170, 3) := by decide +kernel
theorem dX12_meets_23 : decode cX12_meets 23 = .ok (.ifCond .ne 9, 3) := by decide +kernel
theorem dX12_meets_26 : decode cX12_meets 26 = .ok (.aload_n 0, 1) := by decide +kernel
theorem dX12_meets_27 : decode cX12_meets 27 = .ok (.iconst 1, 1) := by decide +kernel
theorem dX12_meets_28 : decode cX12_meets 28 = .ok (.invokevirtual 164, 3) := by decide +kernel
theorem dX12_meets_31 : decode cX12_meets 31 = .ok (.ireturn, 1) := by decide +kernel
theorem dX12_meets_32 : decode cX12_meets 32 = .ok (.aload_n 0, 1) := by decide +kernel
theorem dX12_meets_33 : decode cX12_meets 33 = .ok (.invokevirtual 195, 3) := by decide +kernel
theorem dX12_meets_36 : decode cX12_meets 36 = .ok (.iconst 0, 1) := by decide +kernel
theorem dX12_meets_37 : decode cX12_meets 37 = .ok (.istore_n 3, 1) := by decide +kernel
theorem dX12_meets_38 : decode cX12_meets 38 = .ok (.iload_n 3, 1) := by decide +kernel
theorem dX12_meets_39 : decode cX12_meets 39 = .ok (.aload_n 0, 1) := by decide +kernel
theorem dX12_meets_40 : decode cX12_meets 40 = .ok (.getfield 24, 3) := by decide +kernel
theorem dX12_meets_43 : decode cX12_meets 43 = .ok (.if_icmp .ge 26, 3) := by decide +kernel
theorem dX12_meets_46 : decode cX12_meets 46 = .ok (.aload_n 0, 1) := by decide +kernel
theorem dX12_meets_47 : decode cX12_meets 47 = .ok (.getfield 50, 3) := by decide +kernel
theorem dX12_meets_50 : decode cX12_meets 50 = .ok (.bipush 8, 2) := by decide +kernel
theorem dX12_meets_52 : decode cX12_meets 52 = .ok (.iload_n 1, 1) := by decide +kernel
theorem dX12_meets_53 : decode cX12_meets 53 = .ok (.imul, 1) := by decide +kernel
theorem dX12_meets_54 : decode cX12_meets 54 = .ok (.iload_n 3, 1) := by decide +kernel
theorem dX12_meets_55 : decode cX12_meets 55 = .ok (.iadd, 1) := by decide +kernel
theorem dX12_meets_56 : decode cX12_meets 56 = .ok (.iaload, 1) := by decide +kernel
theorem dX12_meets_57 : decode cX12_meets 57 = .ok (.iload_n 2, 1) := by decide +kernel
theorem dX12_meets_58 : decode cX12_meets 58 = .ok (.if_icmp .ne 5, 3) := by decide +kernel
theorem dX12_meets_61 : decode cX12_meets 61 = .ok (.iload_n 3, 1) := by decide +kernel
theorem dX12_meets_62 : decode cX12_meets 62 = .ok (.ireturn, 1) := by decide +kernel
theorem dX12_meets_63 : decode cX12_meets 63 = .ok (.iinc 3 1, 3) := by decide +kernel
theorem dX12_meets_66 : decode cX12_meets 66 = .ok (.goto (-28), 3) := by decide +kernel
theorem dX12_meets_69 : decode cX12_meets 69 = .ok (.aload_n 0, 1) := by decide +kernel
theorem dX12_meets_70 : decode cX12_meets 70 = .ok (.bipush 9, 2) := by decide +kernel
theorem dX12_meets_72 : decode cX12_meets 72 = .ok (.invokevirtual 164, 3) := by decide +kernel
theorem dX12_meets_75 : decode cX12_meets 75 = .ok (.ireturn, 1) := by decide +kernel
set_option maxRecDepth 20000 in
theorem ggX12_at_X12_isAgent : GoodIn wsX12_at wsX12_isAgent := goodIn_r _ [9, 10, 55, 56, 57, 58, 59, 60, 61, 62, 63, 64, 65, 66, 67, 68, 69, 70, 71, 72, 73, 74, 75, 76, 77, 78, 79, 80, 81, 82, 83, 84, 85, 86, 87, 88, 89, 90, 91, 92, 93, 94, 95, 96, 97, 98, 99, 100, 101, 102, 103, 104, 105, 106, 107, 108] (by decide +kernel) (by decide +kernel)
set_option maxRecDepth 20000 in
theorem gX12_at_X12_isAgent : GoodIn wsX12_at (wsV RX12 167 RX12 yX12_isAgent wsX12_isAgent) := goodIn_app (goodIn_of _ (by decide +kernel)) ggX12_at_X12_isAgent
set_option maxRecDepth 20000 in
theorem ggX12_at_X12_refuse : GoodIn wsX12_at wsX12_refuse := goodIn_r _ [14, 2, 55, 56, 57, 58, 59, 60, 61, 62, 63, 64, 65, 66, 67, 68, 69, 70, 71, 72, 73, 74, 75, 76, 77, 78, 79, 80, 81, 82, 83, 84, 85, 86, 87, 88, 89, 90, 91, 92, 93, 94, 95, 96, 97, 98, 99, 100, 101, 102, 103, 104, 105, 106, 107, 108] (by decide +kernel) (by decide +kernel)
set_option maxRecDepth 20000 in
theorem gX12_at_X12_refuse : GoodIn wsX12_at (wsV RX12 164 RX12 yX12_refuse wsX12_refuse) := goodIn_app (goodIn_of _ (by decide +kernel)) ggX12_at_X12_refuse
set_option maxRecDepth 20000 in
theorem ggX12_at_X12_lays : GoodIn wsX12_at wsX12_lays := goodIn_r _ [18, 4, 19, 10, 20, 21, 22, 23, 24, 8, 25, 26, 27, 28, 29, 30, 31, 3, 32, 33, 34, 35, 36, 37, 38, 39, 40, 41, 42, 43, 44, 45, 46, 47, 48, 49, 50, 51, 52, 53, 54, 55, 56, 57, 58, 59, 60, 61, 62, 63, 64, 65, 66, 67, 68, 69, 70, 71, 72, 73, 74, 75, 76, 77, 78, 79, 80, 81, 82, 83, 84, 85, 86, 87, 88, 89, 90, 91, 92, 93, 94, 95, 96, 97, 98, 99, 100, 101, 102, 103, 104, 105, 106, 107, 108] (by decide +kernel) (by decide +kernel)
set_option maxRecDepth 20000 in
theorem gX12_at_X12_lays : GoodIn wsX12_at (wsV RX12 195 RX12 yX12_lays wsX12_lays) := goodIn_app (goodIn_of _ (by decide +kernel)) ggX12_at_X12_lays
theorem dX12_at_0 : decode cX12_at 0 = .ok (.aload_n 0, 1) := by decide +kernel
theorem dX12_at_1 : decode cX12_at 1 = .ok (.iconst 0, 1) := by decide +kernel
theorem dX12_at_2 : decode cX12_at 2 = .ok (.putfield 134, 3) := by decide +kernel
theorem dX12_at_5 : decode cX12_at 5 = .ok (.aload_n 0, 1) := by decide +kernel
theorem dX12_at_6 : decode cX12_at 6 = .ok (.iconst 0, 1) := by decide +kernel
theorem dX12_at_7 : decode cX12_at 7 = .ok (.putfield 137, 3) := by decide +kernel
theorem dX12_at_10 : decode cX12_at 10 = .ok (.aload_n 0, 1) := by decide +kernel
theorem dX12_at_11 : decode cX12_at 11 = .ok (.iload_n 1, 1) := by decide +kernel
theorem dX12_at_12 : decode cX12_at 12 = .ok (.invokevirtual 167, 3) := by decide +kernel
theorem dX12_at_15 : decode cX12_at 15 = .ok (.ifCond .ne 9, 3) := by decide +kernel
theorem dX12_at_18 : decode cX12_at 18 = .ok (.aload_n 0, 1) := by decide +kernel
theorem dX12_at_19 : decode cX12_at 19 = .ok (.iconst 1, 1) := by decide +kernel
theorem dX12_at_20 : decode cX12_at 20 = .ok (.invokevirtual 164, 3) := by decide +kernel
theorem dX12_at_23 : decode cX12_at 23 = .ok (.ireturn, 1) := by decide +kernel
theorem dX12_at_24 : decode cX12_at 24 = .ok (.iload_n 2, 1) := by decide +kernel
theorem dX12_at_25 : decode cX12_at 25 = .ok (.ifCond .lt 11, 3) := by decide +kernel
theorem dX12_at_28 : decode cX12_at 28 = .ok (.iload_n 2, 1) := by decide +kernel
theorem dX12_at_29 : decode cX12_at 29 = .ok (.aload_n 0, 1) := by decide +kernel
theorem dX12_at_30 : decode cX12_at 30 = .ok (.getfield 24, 3) := by decide +kernel
theorem dX12_at_33 : decode cX12_at 33 = .ok (.if_icmp .lt 9, 3) := by decide +kernel
theorem dX12_at_36 : decode cX12_at 36 = .ok (.aload_n 0, 1) := by decide +kernel
theorem dX12_at_37 : decode cX12_at 37 = .ok (.iconst 2, 1) := by decide +kernel
theorem dX12_at_38 : decode cX12_at 38 = .ok (.invokevirtual 164, 3) := by decide +kernel
theorem dX12_at_41 : decode cX12_at 41 = .ok (.ireturn, 1) := by decide +kernel
theorem dX12_at_42 : decode cX12_at 42 = .ok (.aload_n 0, 1) := by decide +kernel
theorem dX12_at_43 : decode cX12_at 43 = .ok (.invokevirtual 195, 3) := by decide +kernel
theorem dX12_at_46 : decode cX12_at 46 = .ok (.aload_n 0, 1) := by decide +kernel
theorem dX12_at_47 : decode cX12_at 47 = .ok (.getfield 50, 3) := by decide +kernel
theorem dX12_at_50 : decode cX12_at 50 = .ok (.bipush 8, 2) := by decide +kernel
theorem dX12_at_52 : decode cX12_at 52 = .ok (.iload_n 1, 1) := by decide +kernel
theorem dX12_at_53 : decode cX12_at 53 = .ok (.imul, 1) := by decide +kernel
theorem dX12_at_54 : decode cX12_at 54 = .ok (.iload_n 2, 1) := by decide +kernel
theorem dX12_at_55 : decode cX12_at 55 = .ok (.iadd, 1) := by decide +kernel
theorem dX12_at_56 : decode cX12_at 56 = .ok (.iaload, 1) := by decide +kernel
theorem dX12_at_57 : decode cX12_at 57 = .ok (.istore_n 3, 1) := by decide +kernel
theorem dX12_at_58 : decode cX12_at 58 = .ok (.iload_n 3, 1) := by decide +kernel
theorem dX12_at_59 : decode cX12_at 59 = .ok (.ifCond .ge 12, 3) := by decide +kernel
theorem dX12_at_62 : decode cX12_at 62 = .ok (.aload_n 0, 1) := by decide +kernel
theorem dX12_at_63 : decode cX12_at 63 = .ok (.bipush 9, 2) := by decide +kernel
theorem dX12_at_65 : decode cX12_at 65 = .ok (.invokevirtual 164, 3) := by decide +kernel
theorem dX12_at_68 : decode cX12_at 68 = .ok (.goto 4, 3) := by decide +kernel
theorem dX12_at_71 : decode cX12_at 71 = .ok (.iload_n 3, 1) := by decide +kernel
theorem dX12_at_72 : decode cX12_at 72 = .ok (.ireturn, 1) := by decide +kernel
theorem dX12_isBook_0 : decode cX12_isBook 0 = .ok (.iload_n 1, 1) := by decide +kernel
theorem dX12_isBook_1 : decode cX12_isBook 1 = .ok (.ifCond .lt 15, 3) := by decide +kernel
theorem dX12_isBook_4 : decode cX12_isBook 4 = .ok (.iload_n 1, 1) := by decide +kernel
theorem dX12_isBook_5 : decode cX12_isBook 5 = .ok (.aload_n 0, 1) := by decide +kernel
theorem dX12_isBook_6 : decode cX12_isBook 6 = .ok (.getfield 198, 3) := by decide +kernel
theorem dX12_isBook_9 : decode cX12_isBook 9 = .ok (.if_icmp .ge 7, 3) := by decide +kernel
theorem dX12_isBook_12 : decode cX12_isBook 12 = .ok (.iconst 1, 1) := by decide +kernel
theorem dX12_isBook_13 : decode cX12_isBook 13 = .ok (.goto 4, 3) := by decide +kernel
theorem dX12_isBook_16 : decode cX12_isBook 16 = .ok (.iconst 0, 1) := by decide +kernel
theorem dX12_isBook_17 : decode cX12_isBook 17 = .ok (.ireturn, 1) := by decide +kernel
theorem dX12_isDay_0 : decode cX12_isDay 0 = .ok (.iload_n 0, 1) := by decide +kernel
theorem dX12_isDay_1 : decode cX12_isDay 1 = .ok (.ifCond .lt 14, 3) := by decide +kernel
theorem dX12_isDay_4 : decode cX12_isDay 4 = .ok (.iload_n 0, 1) := by decide +kernel
theorem dX12_isDay_5 : decode cX12_isDay 5 = .ok (.sipush 9999, 3) := by decide +kernel
theorem dX12_isDay_8 : decode cX12_isDay 8 = .ok (.if_icmp .gt 7, 3) := by decide +kernel
theorem dX12_isDay_11 : decode cX12_isDay 11 = .ok (.iconst 1, 1) := by decide +kernel
theorem dX12_isDay_12 : decode cX12_isDay 12 = .ok (.goto 4, 3) := by decide +kernel
theorem dX12_isDay_15 : decode cX12_isDay 15 = .ok (.iconst 0, 1) := by decide +kernel
theorem dX12_isDay_16 : decode cX12_isDay 16 = .ok (.ireturn, 1) := by decide +kernel
theorem dX12_isMinute_0 : decode cX12_isMinute 0 = .ok (.iload_n 0, 1) := by decide +kernel
theorem dX12_isMinute_1 : decode cX12_isMinute 1 = .ok (.ifCond .lt 13, 3) := by decide +kernel
theorem dX12_isMinute_4 : decode cX12_isMinute 4 = .ok (.iload_n 0, 1) := by decide +kernel
theorem dX12_isMinute_5 : decode cX12_isMinute 5 = .ok (.ldc 201, 2) := by decide +kernel
theorem dX12_isMinute_7 : decode cX12_isMinute 7 = .ok (.if_icmp .gt 7, 3) := by decide +kernel
theorem dX12_isMinute_10 : decode cX12_isMinute 10 = .ok (.iconst 1, 1) := by decide +kernel
theorem dX12_isMinute_11 : decode cX12_isMinute 11 = .ok (.goto 4, 3) := by decide +kernel
theorem dX12_isMinute_14 : decode cX12_isMinute 14 = .ok (.iconst 0, 1) := by decide +kernel
theorem dX12_isMinute_15 : decode cX12_isMinute 15 = .ok (.ireturn, 1) := by decide +kernel
theorem dX12_areCells_0 : decode cX12_areCells 0 = .ok (.iload_n 0, 1) := by decide +kernel
theorem dX12_areCells_1 : decode cX12_areCells 1 = .ok (.iconst 1, 1) := by decide +kernel
theorem dX12_areCells_2 : decode cX12_areCells 2 = .ok (.if_icmp .lt 36, 3) := by decide +kernel
theorem dX12_areCells_5 : decode cX12_areCells 5 = .ok (.iload_n 0, 1) := by decide +kernel
theorem dX12_areCells_6 : decode cX12_areCells 6 = .ok (.sipush 255, 3) := by decide +kernel
theorem dX12_areCells_9 : decode cX12_areCells 9 = .ok (.if_icmp .gt 29, 3) := by decide +kernel
theorem dX12_areCells_12 : decode cX12_areCells 12 = .ok (.iload_n 1, 1) := by decide +kernel
theorem dX12_areCells_13 : decode cX12_areCells 13 = .ok (.iconst 1, 1) := by decide +kernel
theorem dX12_areCells_14 : decode cX12_areCells 14 = .ok (.if_icmp .lt 24, 3) := by decide +kernel
theorem dX12_areCells_17 : decode cX12_areCells 17 = .ok (.iload_n 1, 1) := by decide +kernel
theorem dX12_areCells_18 : decode cX12_areCells 18 = .ok (.bipush 15, 2) := by decide +kernel
theorem dX12_areCells_20 : decode cX12_areCells 20 = .ok (.if_icmp .gt 18, 3) := by decide +kernel
theorem dX12_areCells_23 : decode cX12_areCells 23 = .ok (.iload_n 2, 1) := by decide +kernel
theorem dX12_areCells_24 : decode cX12_areCells 24 = .ok (.iconst 1, 1) := by decide +kernel
theorem dX12_areCells_25 : decode cX12_areCells 25 = .ok (.if_icmp .lt 13, 3) := by decide +kernel
theorem dX12_areCells_28 : decode cX12_areCells 28 = .ok (.iload_n 2, 1) := by decide +kernel
theorem dX12_areCells_29 : decode cX12_areCells 29 = .ok (.bipush 15, 2) := by decide +kernel
theorem dX12_areCells_31 : decode cX12_areCells 31 = .ok (.if_icmp .gt 7, 3) := by decide +kernel
theorem dX12_areCells_34 : decode cX12_areCells 34 = .ok (.iconst 1, 1) := by decide +kernel
theorem dX12_areCells_35 : decode cX12_areCells 35 = .ok (.goto 4, 3) := by decide +kernel
theorem dX12_areCells_38 : decode cX12_areCells 38 = .ok (.iconst 0, 1) := by decide +kernel
theorem dX12_areCells_39 : decode cX12_areCells 39 = .ok (.ireturn, 1) := by decide +kernel
set_option maxRecDepth 20000 in
theorem ggX12_areRights_X12_areCells : GoodIn wsX12_areRights wsX12_areCells := goodIn_r _ [4] (by decide +kernel) (by decide +kernel)
set_option maxRecDepth 20000 in
theorem gX12_areRights_X12_areCells : GoodIn wsX12_areRights (va_wsS RX12 202 yX12_areCells wsX12_areCells) := goodIn_app (goodIn_of _ (by decide +kernel)) ggX12_areRights_X12_areCells
set_option maxRecDepth 20000 in
theorem ggX12_areRights_X12_isDay : GoodIn wsX12_areRights wsX12_isDay := goodIn_r _ [7] (by decide +kernel) (by decide +kernel)
set_option maxRecDepth 20000 in
theorem gX12_areRights_X12_isDay : GoodIn wsX12_areRights (va_wsS RX12 206 yX12_isDay wsX12_isDay) := goodIn_app (goodIn_of _ (by decide +kernel)) ggX12_areRights_X12_isDay
theorem dX12_areRights_0 : decode cX12_areRights 0 = .ok (.iload_n 0, 1) := by decide +kernel
theorem dX12_areRights_1 : decode cX12_areRights 1 = .ok (.iload_n 1, 1) := by decide +kernel
theorem dX12_areRights_2 : decode cX12_areRights 2 = .ok (.iload_n 2, 1) := by decide +kernel
theorem dX12_areRights_3 : decode cX12_areRights 3 = .ok (.invokestatic 202, 3) := by decide +kernel
theorem dX12_areRights_6 : decode cX12_areRights 6 = .ok (.ifCond .eq 28, 3) := by decide +kernel
theorem dX12_areRights_9 : decode cX12_areRights 9 = .ok (.iload_n 3, 1) := by decide +kernel
theorem dX12_areRights_10 : decode cX12_areRights 10 = .ok (.invokestatic 206, 3) := by decide +kernel
theorem dX12_areRights_13 : decode cX12_areRights 13 = .ok (.ifCond .eq 21, 3) := by decide +kernel
theorem dX12_areRights_16 : decode cX12_areRights 16 = .ok (.iload 4, 2) := by decide +kernel
theorem dX12_areRights_18 : decode cX12_areRights 18 = .ok (.invokestatic 206, 3) := by decide +kernel
theorem dX12_areRights_21 : decode cX12_areRights 21 = .ok (.ifCond .eq 13, 3) := by decide +kernel
theorem dX12_areRights_24 : decode cX12_areRights 24 = .ok (.iload_n 3, 1) := by decide +kernel
theorem dX12_areRights_25 : decode cX12_areRights 25 = .ok (.iload 4, 2) := by decide +kernel
theorem dX12_areRights_27 : decode cX12_areRights 27 = .ok (.if_icmp .gt 7, 3) := by decide +kernel
theorem dX12_areRights_30 : decode cX12_areRights 30 = .ok (.iconst 1, 1) := by decide +kernel
theorem dX12_areRights_31 : decode cX12_areRights 31 = .ok (.goto 4, 3) := by decide +kernel
theorem dX12_areRights_34 : decode cX12_areRights 34 = .ok (.iconst 0, 1) := by decide +kernel
theorem dX12_areRights_35 : decode cX12_areRights 35 = .ok (.ireturn, 1) := by decide +kernel
set_option maxRecDepth 20000 in
theorem ggX12_book_X12_refuse : GoodIn wsX12_book wsX12_refuse := goodIn_r _ [9, 2, 10, 11, 12, 13, 14, 15, 16, 17, 18, 19, 20, 21, 22, 23, 24, 25, 26, 27, 28, 29, 30, 31, 32, 33, 34, 35, 36, 37, 38, 39, 40, 41, 42, 43, 44, 45, 46, 47, 48, 49, 50, 51, 52, 53, 54, 55, 56, 57, 58, 59, 60, 61, 62, 63] (by decide +kernel) (by decide +kernel)
set_option maxRecDepth 20000 in
theorem gX12_book_X12_refuse : GoodIn wsX12_book (wsV RX12 164 RX12 yX12_refuse wsX12_refuse) := goodIn_app (goodIn_of _ (by decide +kernel)) ggX12_book_X12_refuse
theorem dX12_book_0 : decode cX12_book 0 = .ok (.aload_n 0, 1) := by decide +kernel
theorem dX12_book_1 : decode cX12_book 1 = .ok (.iconst 0, 1) := by decide +kernel
theorem dX12_book_2 : decode cX12_book 2 = .ok (.putfield 134, 3) := by decide +kernel
theorem dX12_book_5 : decode cX12_book 5 = .ok (.aload_n 0, 1) := by decide +kernel
theorem dX12_book_6 : decode cX12_book 6 = .ok (.iconst 0, 1) := by decide +kernel
theorem dX12_book_7 : decode cX12_book 7 = .ok (.putfield 137, 3) := by decide +kernel
theorem dX12_book_10 : decode cX12_book 10 = .ok (.aload_n 0, 1) := by decide +kernel
theorem dX12_book_11 : decode cX12_book 11 = .ok (.getfield 198, 3) := by decide +kernel
theorem dX12_book_14 : decode cX12_book 14 = .ok (.bipush 12, 2) := by decide +kernel
theorem dX12_book_16 : decode cX12_book 16 = .ok (.if_icmp .ne 10, 3) := by decide +kernel
theorem dX12_book_19 : decode cX12_book 19 = .ok (.aload_n 0, 1) := by decide +kernel
theorem dX12_book_20 : decode cX12_book 20 = .ok (.bipush 7, 2) := by decide +kernel
theorem dX12_book_22 : decode cX12_book 22 = .ok (.invokevirtual 164, 3) := by decide +kernel
theorem dX12_book_25 : decode cX12_book 25 = .ok (.ireturn, 1) := by decide +kernel
theorem dX12_book_26 : decode cX12_book 26 = .ok (.aload_n 0, 1) := by decide +kernel
theorem dX12_book_27 : decode cX12_book 27 = .ok (.getfield 62, 3) := by decide +kernel
theorem dX12_book_30 : decode cX12_book 30 = .ok (.aload_n 0, 1) := by decide +kernel
theorem dX12_book_31 : decode cX12_book 31 = .ok (.getfield 198, 3) := by decide +kernel
theorem dX12_book_34 : decode cX12_book 34 = .ok (.iload_n 1, 1) := by decide +kernel
theorem dX12_book_35 : decode cX12_book 35 = .ok (.bastore, 1) := by decide +kernel
theorem dX12_book_36 : decode cX12_book 36 = .ok (.aload_n 0, 1) := by decide +kernel
theorem dX12_book_37 : decode cX12_book 37 = .ok (.dup, 1) := by decide +kernel
theorem dX12_book_38 : decode cX12_book 38 = .ok (.getfield 198, 3) := by decide +kernel
theorem dX12_book_41 : decode cX12_book 41 = .ok (.iconst 1, 1) := by decide +kernel
theorem dX12_book_42 : decode cX12_book 42 = .ok (.iadd, 1) := by decide +kernel
theorem dX12_book_43 : decode cX12_book 43 = .ok (.putfield 198, 3) := by decide +kernel
theorem dX12_book_46 : decode cX12_book 46 = .ok (.aload_n 0, 1) := by decide +kernel
theorem dX12_book_47 : decode cX12_book 47 = .ok (.getfield 198, 3) := by decide +kernel
theorem dX12_book_50 : decode cX12_book 50 = .ok (.iconst 1, 1) := by decide +kernel
theorem dX12_book_51 : decode cX12_book 51 = .ok (.isub, 1) := by decide +kernel
theorem dX12_book_52 : decode cX12_book 52 = .ok (.ireturn, 1) := by decide +kernel
set_option maxRecDepth 20000 in
theorem ggX12_list_X12_isBook : GoodIn wsX12_list wsX12_isBook := goodIn_r _ [8, 9, 19, 20, 21, 22, 23, 24, 25, 26, 27, 28, 29, 30, 31, 32, 33, 34, 35, 36, 37, 38, 39, 40, 41, 42, 43, 44, 45, 46, 47, 48, 49, 50, 51, 52, 53, 54, 55, 56, 57, 58, 59, 60, 61, 62, 63, 64, 65, 66, 67, 68, 69, 70, 71, 72] (by decide +kernel) (by decide +kernel)
set_option maxRecDepth 20000 in
theorem gX12_list_X12_isBook : GoodIn wsX12_list (wsV RX12 209 RX12 yX12_isBook wsX12_isBook) := goodIn_app (goodIn_of _ (by decide +kernel)) ggX12_list_X12_isBook
set_option maxRecDepth 20000 in
theorem ggX12_list_X12_isEditor : GoodIn wsX12_list wsX12_isEditor := goodIn_r _ [13, 14, 19, 20, 21, 22, 23, 24, 25, 26, 27, 28, 29, 30, 31, 32, 33, 34, 35, 36, 37, 38, 39, 40, 41, 42, 43, 44, 45, 46, 47, 48, 49, 50, 51, 52, 53, 54, 55, 56, 57, 58, 59, 60, 61, 62, 63, 64, 65, 66, 67, 68, 69, 70, 71, 72] (by decide +kernel) (by decide +kernel)
set_option maxRecDepth 20000 in
theorem gX12_list_X12_isEditor : GoodIn wsX12_list (wsV RX12 170 RX12 yX12_isEditor wsX12_isEditor) := goodIn_app (goodIn_of _ (by decide +kernel)) ggX12_list_X12_isEditor
set_option maxRecDepth 20000 in
theorem ggX12_list_X12_no : GoodIn wsX12_list wsX12_no := goodIn_r _ [18, 2, 19, 20, 21, 22, 23, 24, 25, 26, 27, 28, 29, 30, 31, 32, 33, 34, 35, 36, 37, 38, 39, 40, 41, 42, 43, 44, 45, 46, 47, 48, 49, 50, 51, 52, 53, 54, 55, 56, 57, 58, 59, 60, 61, 62, 63, 64, 65, 66, 67, 68, 69, 70, 71, 72] (by decide +kernel) (by decide +kernel)
set_option maxRecDepth 20000 in
theorem gX12_list_X12_no : GoodIn wsX12_list (wsV RX12 140 RX12 yX12_no wsX12_no) := goodIn_app (goodIn_of _ (by decide +kernel)) ggX12_list_X12_no
theorem dX12_list_0 : decode cX12_list 0 = .ok (.aload_n 0, 1) := by decide +kernel
theorem dX12_list_1 : decode cX12_list 1 = .ok (.iconst 0, 1) := by decide +kernel
theorem dX12_list_2 : decode cX12_list 2 = .ok (.putfield 134, 3) := by decide +kernel
theorem dX12_list_5 : decode cX12_list 5 = .ok (.aload_n 0, 1) := by decide +kernel
theorem dX12_list_6 : decode cX12_list 6 = .ok (.iconst 0, 1) := by decide +kernel
theorem dX12_list_7 : decode cX12_list 7 = .ok (.putfield 137, 3) := by decide +kernel
theorem dX12_list_10 : decode cX12_list 10 = .ok (.aload_n 0, 1) := by decide +kernel
theorem dX12_list_11 : decode cX12_list 11 = .ok (.iload_n 1, 1) := by decide +kernel
theorem dX12_list_12 : decode cX12_list 12 = .ok (.invokevirtual 209, 3) := by decide +kernel
theorem dX12_list_15 : decode cX12_list 15 = .ok (.ifCond .eq 11, 3) := by decide +kernel
theorem dX12_list_18 : decode cX12_list 18 = .ok (.aload_n 0, 1) := by decide +kernel
theorem dX12_list_19 : decode cX12_list 19 = .ok (.iload_n 2, 1) := by decide +kernel
theorem dX12_list_20 : decode cX12_list 20 = .ok (.invokevirtual 170, 3) := by decide +kernel
theorem dX12_list_23 : decode cX12_list 23 = .ok (.ifCond .ne 9, 3) := by decide +kernel
theorem dX12_list_26 : decode cX12_list 26 = .ok (.aload_n 0, 1) := by decide +kernel
theorem dX12_list_27 : decode cX12_list 27 = .ok (.iconst 1, 1) := by decide +kernel
theorem dX12_list_28 : decode cX12_list 28 = .ok (.invokevirtual 140, 3) := by decide +kernel
theorem dX12_list_31 : decode cX12_list 31 = .ok (.ireturn, 1) := by decide +kernel
theorem dX12_list_32 : decode cX12_list 32 = .ok (.aload_n 0, 1) := by decide +kernel
theorem dX12_list_33 : decode cX12_list 33 = .ok (.getfield 65, 3) := by decide +kernel
theorem dX12_list_36 : decode cX12_list 36 = .ok (.bipush 10, 2) := by decide +kernel
theorem dX12_list_38 : decode cX12_list 38 = .ok (.iload_n 1, 1) := by decide +kernel
theorem dX12_list_39 : decode cX12_list 39 = .ok (.imul, 1) := by decide +kernel
theorem dX12_list_40 : decode cX12_list 40 = .ok (.iload_n 2, 1) := by decide +kernel
theorem dX12_list_41 : decode cX12_list 41 = .ok (.iadd, 1) := by decide +kernel
theorem dX12_list_42 : decode cX12_list 42 = .ok (.baload, 1) := by decide +kernel
theorem dX12_list_43 : decode cX12_list 43 = .ok (.iload_n 3, 1) := by decide +kernel
theorem dX12_list_44 : decode cX12_list 44 = .ok (.if_icmp .ne 10, 3) := by decide +kernel
theorem dX12_list_47 : decode cX12_list 47 = .ok (.aload_n 0, 1) := by decide +kernel
theorem dX12_list_48 : decode cX12_list 48 = .ok (.bipush 8, 2) := by decide +kernel
theorem dX12_list_50 : decode cX12_list 50 = .ok (.invokevirtual 140, 3) := by decide +kernel
theorem dX12_list_53 : decode cX12_list 53 = .ok (.ireturn, 1) := by decide +kernel
theorem dX12_list_54 : decode cX12_list 54 = .ok (.aload_n 0, 1) := by decide +kernel
theorem dX12_list_55 : decode cX12_list 55 = .ok (.getfield 65, 3) := by decide +kernel
theorem dX12_list_58 : decode cX12_list 58 = .ok (.bipush 10, 2) := by decide +kernel
theorem dX12_list_60 : decode cX12_list 60 = .ok (.iload_n 1, 1) := by decide +kernel
theorem dX12_list_61 : decode cX12_list 61 = .ok (.imul, 1) := by decide +kernel
theorem dX12_list_62 : decode cX12_list 62 = .ok (.iload_n 2, 1) := by decide +kernel
theorem dX12_list_63 : decode cX12_list 63 = .ok (.iadd, 1) := by decide +kernel
theorem dX12_list_64 : decode cX12_list 64 = .ok (.iload_n 3, 1) := by decide +kernel
theorem dX12_list_65 : decode cX12_list 65 = .ok (.bastore, 1) := by decide +kernel
theorem dX12_list_66 : decode cX12_list 66 = .ok (.iconst 1, 1) := by decide +kernel
theorem dX12_list_67 : decode cX12_list 67 = .ok (.ireturn, 1) := by decide +kernel
theorem dX12_isOpenTo_0 : decode cX12_isOpenTo 0 = .ok (.aload_n 0, 1) := by decide +kernel
theorem dX12_isOpenTo_1 : decode cX12_isOpenTo 1 = .ok (.getfield 62, 3) := by decide +kernel
theorem dX12_isOpenTo_4 : decode cX12_isOpenTo 4 = .ok (.iload_n 1, 1) := by decide +kernel
theorem dX12_isOpenTo_5 : decode cX12_isOpenTo 5 = .ok (.baload, 1) := by decide +kernel
theorem dX12_isOpenTo_6 : decode cX12_isOpenTo 6 = .ok (.ifCond .eq 17, 3) := by decide +kernel
theorem dX12_isOpenTo_9 : decode cX12_isOpenTo 9 = .ok (.aload_n 0, 1) := by decide +kernel
theorem dX12_isOpenTo_10 : decode cX12_isOpenTo 10 = .ok (.getfield 65, 3) := by decide +kernel
theorem dX12_isOpenTo_13 : decode cX12_isOpenTo 13 = .ok (.bipush 10, 2) := by decide +kernel
theorem dX12_isOpenTo_15 : decode cX12_isOpenTo 15 = .ok (.iload_n 1, 1) := by decide +kernel
theorem dX12_isOpenTo_16 : decode cX12_isOpenTo 16 = .ok (.imul, 1) := by decide +kernel
theorem dX12_isOpenTo_17 : decode cX12_isOpenTo 17 = .ok (.iload_n 2, 1) := by decide +kernel
theorem dX12_isOpenTo_18 : decode cX12_isOpenTo 18 = .ok (.iadd, 1) := by decide +kernel
theorem dX12_isOpenTo_19 : decode cX12_isOpenTo 19 = .ok (.baload, 1) := by decide +kernel
theorem dX12_isOpenTo_20 : decode cX12_isOpenTo 20 = .ok (.ifCond .eq 7, 3) := by decide +kernel
theorem dX12_isOpenTo_23 : decode cX12_isOpenTo 23 = .ok (.iconst 1, 1) := by decide +kernel
theorem dX12_isOpenTo_24 : decode cX12_isOpenTo 24 = .ok (.goto 4, 3) := by decide +kernel
theorem dX12_isOpenTo_27 : decode cX12_isOpenTo 27 = .ok (.iconst 0, 1) := by decide +kernel
theorem dX12_isOpenTo_28 : decode cX12_isOpenTo 28 = .ok (.ireturn, 1) := by decide +kernel
set_option maxRecDepth 20000 in
theorem ggX12_hears_X12_isEditor : GoodIn wsX12_hears wsX12_isEditor := goodIn_r _ [7, 8, 24, 25, 26, 27, 28, 29, 30, 31, 32, 33, 34, 35, 36, 37, 38, 39, 40, 41, 42, 43, 44, 45, 46, 47, 48, 49, 50, 51, 52, 53, 54, 55, 56, 57, 58, 59, 60, 61, 62, 63, 64, 65, 66, 67, 68, 69, 70, 71, 72, 73, 74, 75, 76, 77] (by decide +kernel) (by decide +kernel)
set_option maxRecDepth 20000 in
theorem gX12_hears_X12_isEditor : GoodIn wsX12_hears (wsV RX12 170 RX12 yX12_isEditor wsX12_isEditor) := goodIn_app (goodIn_of _ (by decide +kernel)) ggX12_hears_X12_isEditor
set_option maxRecDepth 20000 in
theorem ggX12_hears_X12_refuse : GoodIn wsX12_hears wsX12_refuse := goodIn_r _ [12, 2, 24, 25, 26, 27, 28, 29, 30, 31, 32, 33, 34, 35, 36, 37, 38, 39, 40, 41, 42, 43, 44, 45, 46, 47, 48, 49, 50, 51, 52, 53, 54, 55, 56, 57, 58, 59, 60, 61, 62, 63, 64, 65, 66, 67, 68, 69, 70, 71, 72, 73, 74, 75, 76, 77] (by decide +kernel) (by decide +kernel)
set_option maxRecDepth 20000 in
theorem gX12_hears_X12_refuse : GoodIn wsX12_hears (wsV RX12 164 RX12 yX12_refuse wsX12_refuse) := goodIn_app (goodIn_of _ (by decide +kernel)) ggX12_hears_X12_refuse
set_option maxRecDepth 20000 in
theorem ggX12_hears_X12_isBook : GoodIn wsX12_hears wsX12_isBook := goodIn_r _ [16, 17, 24, 25, 26, 27, 28, 29, 30, 31, 32, 33, 34, 35, 36, 37, 38, 39, 40, 41, 42, 43, 44, 45, 46, 47, 48, 49, 50, 51, 52, 53, 54, 55, 56, 57, 58, 59, 60, 61, 62, 63, 64, 65, 66, 67, 68, 69, 70, 71, 72, 73, 74, 75, 76, 77] (by decide +kernel) (by decide +kernel)
set_option maxRecDepth 20000 in
theorem gX12_hears_X12_isBook : GoodIn wsX12_hears (wsV RX12 209 RX12 yX12_isBook wsX12_isBook) := goodIn_app (goodIn_of _ (by decide +kernel)) ggX12_hears_X12_isBook
set_option maxRecDepth 20000 in
theorem ggX12_hears_X12_isOpenTo : GoodIn wsX12_hears wsX12_isOpenTo := goodIn_r _ [21, 22, 23, 24, 25, 26, 27, 28, 29, 30, 31, 32, 33, 34, 35, 36, 37, 38, 39, 40, 41, 42, 43, 44, 45, 46, 47, 48, 49, 50, 51, 52, 53, 54, 55, 56, 57, 58, 59, 60, 61, 62, 63, 64, 65, 66, 67, 68, 69, 70, 71, 72, 73, 74, 75, 76, 77] (by decide +kernel) (by decide +kernel)
set_option maxRecDepth 20000 in
theorem gX12_hears_X12_isOpenTo : GoodIn wsX12_hears (wsV RX12 212 RX12 yX12_isOpenTo wsX12_isOpenTo) := goodIn_app (goodIn_of _ (by decide +kernel)) ggX12_hears_X12_isOpenTo
theorem dX12_hears_0 : decode cX12_hears 0 = .ok (.aload_n 0, 1) := by decide +kernel
theorem dX12_hears_1 : decode cX12_hears 1 = .ok (.iconst 0, 1) := by decide +kernel
theorem dX12_hears_2 : decode cX12_hears 2 = .ok (.putfield 134, 3) := by decide +kernel
theorem dX12_hears_5 : decode cX12_hears 5 = .ok (.aload_n 0, 1) := by decide +kernel
theorem dX12_hears_6 : decode cX12_hears 6 = .ok (.iconst 0, 1) := by decide +kernel
theorem dX12_hears_7 : decode cX12_hears 7 = .ok (.putfield 137, 3) := by decide +kernel
theorem dX12_hears_10 : decode cX12_hears 10 = .ok (.aload_n 0, 1) := by decide +kernel
theorem dX12_hears_11 : decode cX12_hears 11 = .ok (.iload_n 2, 1) := by decide +kernel
theorem dX12_hears_12 : decode cX12_hears 12 = .ok (.invokevirtual 170, 3) := by decide +kernel
theorem dX12_hears_15 : decode cX12_hears 15 = .ok (.ifCond .ne 9, 3) := by decide +kernel
theorem dX12_hears_18 : decode cX12_hears 18 = .ok (.aload_n 0, 1) := by decide +kernel
theorem dX12_hears_19 : decode cX12_hears 19 = .ok (.iconst 1, 1) := by decide +kernel
theorem dX12_hears_20 : decode cX12_hears 20 = .ok (.invokevirtual 164, 3) := by decide +kernel
theorem dX12_hears_23 : decode cX12_hears 23 = .ok (.ireturn, 1) := by decide +kernel
theorem dX12_hears_24 : decode cX12_hears 24 = .ok (.aload_n 0, 1) := by decide +kernel
theorem dX12_hears_25 : decode cX12_hears 25 = .ok (.iload_n 1, 1) := by decide +kernel
theorem dX12_hears_26 : decode cX12_hears 26 = .ok (.invokevirtual 209, 3) := by decide +kernel
theorem dX12_hears_29 : decode cX12_hears 29 = .ok (.ifCond .eq 16, 3) := by decide +kernel
theorem dX12_hears_32 : decode cX12_hears 32 = .ok (.aload_n 0, 1) := by decide +kernel
theorem dX12_hears_33 : decode cX12_hears 33 = .ok (.iload_n 1, 1) := by decide +kernel
theorem dX12_hears_34 : decode cX12_hears 34 = .ok (.iload_n 2, 1) := by decide +kernel
theorem dX12_hears_35 : decode cX12_hears 35 = .ok (.invokevirtual 212, 3) := by decide +kernel
theorem dX12_hears_38 : decode cX12_hears 38 = .ok (.ifCond .eq 7, 3) := by decide +kernel
theorem dX12_hears_41 : decode cX12_hears 41 = .ok (.iconst 1, 1) := by decide +kernel
theorem dX12_hears_42 : decode cX12_hears 42 = .ok (.goto 4, 3) := by decide +kernel
theorem dX12_hears_45 : decode cX12_hears 45 = .ok (.iconst 0, 1) := by decide +kernel
theorem dX12_hears_46 : decode cX12_hears 46 = .ok (.ireturn, 1) := by decide +kernel
theorem dX12_lastOf_0 : decode cX12_lastOf 0 = .ok (.aload_n 0, 1) := by decide +kernel
theorem dX12_lastOf_1 : decode cX12_lastOf 1 = .ok (.getfield 89, 3) := by decide +kernel
theorem dX12_lastOf_4 : decode cX12_lastOf 4 = .ok (.iload_n 1, 1) := by decide +kernel
theorem dX12_lastOf_5 : decode cX12_lastOf 5 = .ok (.iaload, 1) := by decide +kernel
theorem dX12_lastOf_6 : decode cX12_lastOf 6 = .ok (.ifCond .ge 12, 3) := by decide +kernel
theorem dX12_lastOf_9 : decode cX12_lastOf 9 = .ok (.aload_n 0, 1) := by decide +kernel
theorem dX12_lastOf_10 : decode cX12_lastOf 10 = .ok (.getfield 86, 3) := by decide +kernel
theorem dX12_lastOf_13 : decode cX12_lastOf 13 = .ok (.iload_n 1, 1) := by decide +kernel
theorem dX12_lastOf_14 : decode cX12_lastOf 14 = .ok (.iaload, 1) := by decide +kernel
theorem dX12_lastOf_15 : decode cX12_lastOf 15 = .ok (.goto 20, 3) := by decide +kernel
theorem dX12_lastOf_18 : decode cX12_lastOf 18 = .ok (.aload_n 0, 1) := by decide +kernel
theorem dX12_lastOf_19 : decode cX12_lastOf 19 = .ok (.getfield 86, 3) := by decide +kernel
theorem dX12_lastOf_22 : decode cX12_lastOf 22 = .ok (.iload_n 1, 1) := by decide +kernel
theorem dX12_lastOf_23 : decode cX12_lastOf 23 = .ok (.iaload, 1) := by decide +kernel
theorem dX12_lastOf_24 : decode cX12_lastOf 24 = .ok (.aload_n 0, 1) := by decide +kernel
theorem dX12_lastOf_25 : decode cX12_lastOf 25 = .ok (.getfield 89, 3) := by decide +kernel
theorem dX12_lastOf_28 : decode cX12_lastOf 28 = .ok (.iload_n 1, 1) := by decide +kernel
theorem dX12_lastOf_29 : decode cX12_lastOf 29 = .ok (.iaload, 1) := by decide +kernel
theorem dX12_lastOf_30 : decode cX12_lastOf 30 = .ok (.iconst 1, 1) := by decide +kernel
theorem dX12_lastOf_31 : decode cX12_lastOf 31 = .ok (.isub, 1) := by decide +kernel
theorem dX12_lastOf_32 : decode cX12_lastOf 32 = .ok (.invokestatic 216, 3) := by decide +kernel
theorem dX12_lastOf_35 : decode cX12_lastOf 35 = .ok (.ireturn, 1) := by decide +kernel
set_option maxRecDepth 20000 in
theorem ggX12_clashes_X12_lastOf : GoodIn wsX12_clashes wsX12_lastOf := goodIn_r _ [18, 19, 20, 11, 12, 9, 13, 21, 22, 23, 24, 25, 26, 27, 28, 29, 30, 31, 32, 33, 34, 35, 36, 37, 38, 39, 40, 41, 42, 43, 44, 45, 46, 47, 48, 49, 50, 51, 52, 53, 54, 55, 56, 57, 58, 59, 60, 61, 62, 63, 64, 65, 66, 67, 68, 69, 70, 71, 72, 73, 74] (by decide +kernel) (by decide +kernel)
set_option maxRecDepth 20000 in
theorem gX12_clashes_X12_lastOf : GoodIn wsX12_clashes (wsV RX12 227 RX12 yX12_lastOf wsX12_lastOf) := goodIn_app (goodIn_of _ (by decide +kernel)) ggX12_clashes_X12_lastOf
theorem dX12_clashes_0 : decode cX12_clashes 0 = .ok (.iconst 0, 1) := by decide +kernel
theorem dX12_clashes_1 : decode cX12_clashes 1 = .ok (.istore 7, 2) := by decide +kernel
theorem dX12_clashes_3 : decode cX12_clashes 3 = .ok (.iload 7, 2) := by decide +kernel
theorem dX12_clashes_5 : decode cX12_clashes 5 = .ok (.aload_n 0, 1) := by decide +kernel
theorem dX12_clashes_6 : decode cX12_clashes 6 = .ok (.getfield 221, 3) := by decide +kernel
theorem dX12_clashes_9 : decode cX12_clashes 9 = .ok (.if_icmp .ge 88, 3) := by decide +kernel
theorem dX12_clashes_12 : decode cX12_clashes 12 = .ok (.aload_n 0, 1) := by decide +kernel
theorem dX12_clashes_13 : decode cX12_clashes 13 = .ok (.getfield 68, 3) := by decide +kernel
theorem dX12_clashes_16 : decode cX12_clashes 16 = .ok (.iload 7, 2) := by decide +kernel
theorem dX12_clashes_18 : decode cX12_clashes 18 = .ok (.iaload, 1) := by decide +kernel
theorem dX12_clashes_19 : decode cX12_clashes 19 = .ok (.iload_n 1, 1) := by decide +kernel
theorem dX12_clashes_20 : decode cX12_clashes 20 = .ok (.if_icmp .ne 71, 3) := by decide +kernel
theorem dX12_clashes_23 : decode cX12_clashes 23 = .ok (.aload_n 0, 1) := by decide +kernel
theorem dX12_clashes_24 : decode cX12_clashes 24 = .ok (.getfield 74, 3) := by decide +kernel
theorem dX12_clashes_27 : decode cX12_clashes 27 = .ok (.iload 7, 2) := by decide +kernel
theorem dX12_clashes_29 : decode cX12_clashes 29 = .ok (.iaload, 1) := by decide +kernel
theorem dX12_clashes_30 : decode cX12_clashes 30 = .ok (.iload_n 2, 1) := by decide +kernel
theorem dX12_clashes_31 : decode cX12_clashes 31 = .ok (.iand, 1) := by decide +kernel
theorem dX12_clashes_32 : decode cX12_clashes 32 = .ok (.ifCond .eq 59, 3) := by decide +kernel
theorem dX12_clashes_35 : decode cX12_clashes 35 = .ok (.aload_n 0, 1) := by decide +kernel
theorem dX12_clashes_36 : decode cX12_clashes 36 = .ok (.getfield 77, 3) := by decide +kernel
theorem dX12_clashes_39 : decode cX12_clashes 39 = .ok (.iload 7, 2) := by decide +kernel
theorem dX12_clashes_41 : decode cX12_clashes 41 = .ok (.iaload, 1) := by decide +kernel
theorem dX12_clashes_42 : decode cX12_clashes 42 = .ok (.iload_n 3, 1) := by decide +kernel
theorem dX12_clashes_43 : decode cX12_clashes 43 = .ok (.iand, 1) := by decide +kernel
theorem dX12_clashes_44 : decode cX12_clashes 44 = .ok (.ifCond .eq 47, 3) := by decide +kernel
theorem dX12_clashes_47 : decode cX12_clashes 47 = .ok (.aload_n 0, 1) := by decide +kernel
theorem dX12_clashes_48 : decode cX12_clashes 48 = .ok (.getfield 80, 3) := by decide +kernel
theorem dX12_clashes_51 : decode cX12_clashes 51 = .ok (.iload 7, 2) := by decide +kernel
theorem dX12_clashes_53 : decode cX12_clashes 53 = .ok (.iaload, 1) := by decide +kernel
theorem dX12_clashes_54 : decode cX12_clashes 54 = .ok (.iload 4, 2) := by decide +kernel
theorem dX12_clashes_56 : decode cX12_clashes 56 = .ok (.iand, 1) := by decide +kernel
theorem dX12_clashes_57 : decode cX12_clashes 57 = .ok (.ifCond .ne 6, 3) := by decide +kernel
theorem dX12_clashes_60 : decode cX12_clashes 60 = .ok (.goto 31, 3) := by decide +kernel
theorem dX12_clashes_63 : decode cX12_clashes 63 = .ok (.iload 5, 2) := by decide +kernel
theorem dX12_clashes_65 : decode cX12_clashes 65 = .ok (.aload_n 0, 1) := by decide +kernel
theorem dX12_clashes_66 : decode cX12_clashes 66 = .ok (.getfield 83, 3) := by decide +kernel
theorem dX12_clashes_69 : decode cX12_clashes 69 = .ok (.iload 7, 2) := by decide +kernel
theorem dX12_clashes_71 : decode cX12_clashes 71 = .ok (.iaload, 1) := by decide +kernel
theorem dX12_clashes_72 : decode cX12_clashes 72 = .ok (.invokestatic 224, 3) := by decide +kernel
theorem dX12_clashes_75 : decode cX12_clashes 75 = .ok (.iload 6, 2) := by decide +kernel
theorem dX12_clashes_77 : decode cX12_clashes 77 = .ok (.aload_n 0, 1) := by decide +kernel
theorem dX12_clashes_78 : decode cX12_clashes 78 = .ok (.iload 7, 2) := by decide +kernel
theorem dX12_clashes_80 : decode cX12_clashes 80 = .ok (.invokevirtual 227, 3) := by decide +kernel
theorem dX12_clashes_83 : decode cX12_clashes 83 = .ok (.invokestatic 216, 3) := by decide +kernel
theorem dX12_clashes_86 : decode cX12_clashes 86 = .ok (.if_icmp .gt 5, 3) := by decide +kernel
theorem dX12_clashes_89 : decode cX12_clashes 89 = .ok (.iconst 1, 1) := by decide +kernel
theorem dX12_clashes_90 : decode cX12_clashes 90 = .ok (.ireturn, 1) := by decide +kernel
theorem dX12_clashes_91 : decode cX12_clashes 91 = .ok (.iinc 7 1, 3) := by decide +kernel
theorem dX12_clashes_94 : decode cX12_clashes 94 = .ok (.goto (-91), 3) := by decide +kernel
theorem dX12_clashes_97 : decode cX12_clashes 97 = .ok (.iconst 0, 1) := by decide +kernel
theorem dX12_clashes_98 : decode cX12_clashes 98 = .ok (.ireturn, 1) := by decide +kernel
theorem dX12_grants_0 : decode cX12_grants 0 = .ok (.aload_n 0, 1) := by decide +kernel
theorem dX12_grants_1 : decode cX12_grants 1 = .ok (.getfield 68, 3) := by decide +kernel
theorem dX12_grants_4 : decode cX12_grants 4 = .ok (.aload_n 0, 1) := by decide +kernel
theorem dX12_grants_5 : decode cX12_grants 5 = .ok (.getfield 221, 3) := by decide +kernel
theorem dX12_grants_8 : decode cX12_grants 8 = .ok (.iload_n 1, 1) := by decide +kernel
theorem dX12_grants_9 : decode cX12_grants 9 = .ok (.iastore, 1) := by decide +kernel
theorem dX12_grants_10 : decode cX12_grants 10 = .ok (.aload_n 0, 1) := by decide +kernel
theorem dX12_grants_11 : decode cX12_grants 11 = .ok (.getfield 71, 3) := by decide +kernel
theorem dX12_grants_14 : decode cX12_grants 14 = .ok (.aload_n 0, 1) := by decide +kernel
theorem dX12_grants_15 : decode cX12_grants 15 = .ok (.getfield 221, 3) := by decide +kernel
theorem dX12_grants_18 : decode cX12_grants 18 = .ok (.iload_n 2, 1) := by decide +kernel
theorem dX12_grants_19 : decode cX12_grants 19 = .ok (.iastore, 1) := by decide +kernel
theorem dX12_grants_20 : decode cX12_grants 20 = .ok (.aload_n 0, 1) := by decide +kernel
theorem dX12_grants_21 : decode cX12_grants 21 = .ok (.getfield 74, 3) := by decide +kernel
theorem dX12_grants_24 : decode cX12_grants 24 = .ok (.aload_n 0, 1) := by decide +kernel
theorem dX12_grants_25 : decode cX12_grants 25 = .ok (.getfield 221, 3) := by decide +kernel
theorem dX12_grants_28 : decode cX12_grants 28 = .ok (.iload_n 3, 1) := by decide +kernel
theorem dX12_grants_29 : decode cX12_grants 29 = .ok (.iastore, 1) := by decide +kernel
theorem dX12_grants_30 : decode cX12_grants 30 = .ok (.aload_n 0, 1) := by decide +kernel
theorem dX12_grants_31 : decode cX12_grants 31 = .ok (.getfield 77, 3) := by decide +kernel
theorem dX12_grants_34 : decode cX12_grants 34 = .ok (.aload_n 0, 1) := by decide +kernel
theorem dX12_grants_35 : decode cX12_grants 35 = .ok (.getfield 221, 3) := by decide +kernel
theorem dX12_grants_38 : decode cX12_grants 38 = .ok (.iload 4, 2) := by decide +kernel
theorem dX12_grants_40 : decode cX12_grants 40 = .ok (.iastore, 1) := by decide +kernel
theorem dX12_grants_41 : decode cX12_grants 41 = .ok (.aload_n 0, 1) := by decide +kernel
theorem dX12_grants_42 : decode cX12_grants 42 = .ok (.getfield 80, 3) := by decide +kernel
theorem dX12_grants_45 : decode cX12_grants 45 = .ok (.aload_n 0, 1) := by decide +kernel
theorem dX12_grants_46 : decode cX12_grants 46 = .ok (.getfield 221, 3) := by decide +kernel
theorem dX12_grants_49 : decode cX12_grants 49 = .ok (.iload 5, 2) := by decide +kernel
theorem dX12_grants_51 : decode cX12_grants 51 = .ok (.iastore, 1) := by decide +kernel
theorem dX12_grants_52 : decode cX12_grants 52 = .ok (.aload_n 0, 1) := by decide +kernel
theorem dX12_grants_53 : decode cX12_grants 53 = .ok (.getfield 83, 3) := by decide +kernel
theorem dX12_grants_56 : decode cX12_grants 56 = .ok (.aload_n 0, 1) := by decide +kernel
theorem dX12_grants_57 : decode cX12_grants 57 = .ok (.getfield 221, 3) := by decide +kernel
theorem dX12_grants_60 : decode cX12_grants 60 = .ok (.iload 6, 2) := by decide +kernel
theorem dX12_grants_62 : decode cX12_grants 62 = .ok (.iastore, 1) := by decide +kernel
theorem dX12_grants_63 : decode cX12_grants 63 = .ok (.aload_n 0, 1) := by decide +kernel
theorem dX12_grants_64 : decode cX12_grants 64 = .ok (.getfield 86, 3) := by decide +kernel
theorem dX12_grants_67 : decode cX12_grants 67 = .ok (.aload_n 0, 1) := by decide +kernel
theorem dX12_grants_68 : decode cX12_grants 68 = .ok (.getfield 221, 3) := by decide +kernel
theorem dX12_grants_71 : decode cX12_grants 71 = .ok (.iload 7, 2) := by decide +kernel
theorem dX12_grants_73 : decode cX12_grants 73 = .ok (.iastore, 1) := by decide +kernel
theorem dX12_grants_74 : decode cX12_grants 74 = .ok (.aload_n 0, 1) := by decide +kernel
theorem dX12_grants_75 : decode cX12_grants 75 = .ok (.getfield 89, 3) := by decide +kernel
theorem dX12_grants_78 : decode cX12_grants 78 = .ok (.aload_n 0, 1) := by decide +kernel
theorem dX12_grants_79 : decode cX12_grants 79 = .ok (.getfield 221, 3) := by decide +kernel
theorem dX12_grants_82 : decode cX12_grants 82 = .ok (.iconst (-1), 1) := by decide +kernel
theorem dX12_grants_83 : decode cX12_grants 83 = .ok (.iastore, 1) := by decide +kernel
theorem dX12_grants_84 : decode cX12_grants 84 = .ok (.aload_n 0, 1) := by decide +kernel
theorem dX12_grants_85 : decode cX12_grants 85 = .ok (.dup, 1) := by decide +kernel
theorem dX12_grants_86 : decode cX12_grants 86 = .ok (.getfield 221, 3) := by decide +kernel
theorem dX12_grants_89 : decode cX12_grants 89 = .ok (.iconst 1, 1) := by decide +kernel
theorem dX12_grants_90 : decode cX12_grants 90 = .ok (.iadd, 1) := by decide +kernel
theorem dX12_grants_91 : decode cX12_grants 91 = .ok (.putfield 221, 3) := by decide +kernel
theorem dX12_grants_94 : decode cX12_grants 94 = .ok (.aload_n 0, 1) := by decide +kernel
theorem dX12_grants_95 : decode cX12_grants 95 = .ok (.getfield 221, 3) := by decide +kernel
theorem dX12_grants_98 : decode cX12_grants 98 = .ok (.iconst 1, 1) := by decide +kernel
theorem dX12_grants_99 : decode cX12_grants 99 = .ok (.isub, 1) := by decide +kernel
theorem dX12_grants_100 : decode cX12_grants 100 = .ok (.ireturn, 1) := by decide +kernel
set_option maxRecDepth 20000 in
theorem ggX12_grant_X12_isBook : GoodIn wsX12_grant wsX12_isBook := goodIn_r _ [8, 9, 55, 56, 57, 58, 59, 60, 61, 62, 63, 64, 65, 66, 67, 68, 69, 70, 71, 72, 73, 74, 75, 76, 77, 78, 79, 80, 81, 82, 83, 84, 85, 86, 87, 88, 89, 90, 91, 92, 93, 94, 95, 96, 97, 98, 99, 100, 101, 102, 103, 104, 105, 106, 107, 108] (by decide +kernel) (by decide +kernel)
set_option maxRecDepth 20000 in
theorem gX12_grant_X12_isBook : GoodIn wsX12_grant (wsV RX12 209 RX12 yX12_isBook wsX12_isBook) := goodIn_app (goodIn_of _ (by decide +kernel)) ggX12_grant_X12_isBook
set_option maxRecDepth 20000 in
theorem ggX12_grant_X12_isEditor : GoodIn wsX12_grant wsX12_isEditor := goodIn_r _ [13, 14, 55, 56, 57, 58, 59, 60, 61, 62, 63, 64, 65, 66, 67, 68, 69, 70, 71, 72, 73, 74, 75, 76, 77, 78, 79, 80, 81, 82, 83, 84, 85, 86, 87, 88, 89, 90, 91, 92, 93, 94, 95, 96, 97, 98, 99, 100, 101, 102, 103, 104, 105, 106, 107, 108] (by decide +kernel) (by decide +kernel)
set_option maxRecDepth 20000 in
theorem gX12_grant_X12_isEditor : GoodIn wsX12_grant (wsV RX12 170 RX12 yX12_isEditor wsX12_isEditor) := goodIn_app (goodIn_of _ (by decide +kernel)) ggX12_grant_X12_isEditor
set_option maxRecDepth 20000 in
theorem ggX12_grant_X12_refuse : GoodIn wsX12_grant wsX12_refuse := goodIn_r _ [18, 2, 55, 56, 57, 58, 59, 60, 61, 62, 63, 64, 65, 66, 67, 68, 69, 70, 71, 72, 73, 74, 75, 76, 77, 78, 79, 80, 81, 82, 83, 84, 85, 86, 87, 88, 89, 90, 91, 92, 93, 94, 95, 96, 97, 98, 99, 100, 101, 102, 103, 104, 105, 106, 107, 108] (by decide +kernel) (by decide +kernel)
set_option maxRecDepth 20000 in
theorem gX12_grant_X12_refuse : GoodIn wsX12_grant (wsV RX12 164 RX12 yX12_refuse wsX12_refuse) := goodIn_app (goodIn_of _ (by decide +kernel)) ggX12_grant_X12_refuse
set_option maxRecDepth 20000 in
theorem ggX12_grant_X12_areRights : GoodIn wsX12_grant wsX12_areRights := goodIn_r _ [21, 22, 23, 7, 24, 25, 26, 27] (by decide +kernel) (by decide +kernel)
set_option maxRecDepth 20000 in
theorem gX12_grant_X12_areRights : GoodIn wsX12_grant (va_wsS RX12 230 yX12_areRights wsX12_areRights) := goodIn_app (goodIn_of _ (by decide +kernel)) ggX12_grant_X12_areRights
set_option maxRecDepth 20000 in
theorem ggX12_grant_X12_clashes : GoodIn wsX12_grant wsX12_clashes := goodIn_r _ [31, 3, 32, 33, 34, 35, 36, 37, 38, 39, 40, 41, 42, 43, 44, 45, 46, 7, 47, 48, 49, 55, 56, 57, 58, 59, 60, 61, 62, 63, 64, 65, 66, 67, 68, 69, 70, 71, 72, 73, 74, 75, 76, 77, 78, 79, 80, 81, 82, 83, 84, 85, 86, 87, 88, 89, 90, 91, 92, 93, 94, 95, 96, 97, 98, 99, 100, 101, 102, 103, 104, 105, 106, 107, 108] (by decide +kernel) (by decide +kernel)
set_option maxRecDepth 20000 in
theorem gX12_grant_X12_clashes : GoodIn wsX12_grant (wsV RX12 234 RX12 yX12_clashes wsX12_clashes) := goodIn_app (goodIn_of _ (by decide +kernel)) ggX12_grant_X12_clashes
set_option maxRecDepth 20000 in
theorem ggX12_grant_X12_grants : GoodIn wsX12_grant wsX12_grants := goodIn_r _ [53, 32, 3, 54, 33, 34, 35, 36, 49, 48, 55, 56, 57, 58, 59, 60, 61, 62, 63, 64, 65, 66, 67, 68, 69, 70, 71, 72, 73, 74, 75, 76, 77, 78, 79, 80, 81, 82, 83, 84, 85, 86, 87, 88, 89, 90, 91, 92, 93, 94, 95, 96, 97, 98, 99, 100, 101, 102, 103, 104, 105, 106, 107, 108] (by decide +kernel) (by decide +kernel)
set_option maxRecDepth 20000 in
theorem gX12_grant_X12_grants : GoodIn wsX12_grant (wsV RX12 238 RX12 yX12_grants wsX12_grants) := goodIn_app (goodIn_of _ (by decide +kernel)) ggX12_grant_X12_grants
theorem dX12_grant_0 : decode cX12_grant 0 = .ok (.aload_n 0, 1) := by decide +kernel
theorem dX12_grant_1 : decode cX12_grant 1 = .ok (.iconst 0, 1) := by decide +kernel
theorem dX12_grant_2 : decode cX12_grant 2 = .ok (.putfield 134, 3) := by decide +kernel
theorem dX12_grant_5 : decode cX12_grant 5 = .ok (.aload_n 0, 1) := by decide +kernel
theorem dX12_grant_6 : decode cX12_grant 6 = .ok (.iconst 0, 1) := by decide +kernel
theorem dX12_grant_7 : decode cX12_grant 7 = .ok (.putfield 137, 3) := by decide +kernel
theorem dX12_grant_10 : decode cX12_grant 10 = .ok (.aload_n 0, 1) := by decide +kernel
theorem dX12_grant_11 : decode cX12_grant 11 = .ok (.iload_n 1, 1) := by decide +kernel
theorem dX12_grant_12 : decode cX12_grant 12 = .ok (.invokevirtual 209, 3) := by decide +kernel
theorem dX12_grant_15 : decode cX12_grant 15 = .ok (.ifCond .eq 11, 3) := by decide +kernel
theorem dX12_grant_18 : decode cX12_grant 18 = .ok (.aload_n 0, 1) := by decide +kernel
theorem dX12_grant_19 : decode cX12_grant 19 = .ok (.iload_n 2, 1) := by decide +kernel
theorem dX12_grant_20 : decode cX12_grant 20 = .ok (.invokevirtual 170, 3) := by decide +kernel
theorem dX12_grant_23 : decode cX12_grant 23 = .ok (.ifCond .ne 9, 3) := by decide +kernel
theorem dX12_grant_26 : decode cX12_grant 26 = .ok (.aload_n 0, 1) := by decide +kernel
theorem dX12_grant_27 : decode cX12_grant 27 = .ok (.iconst 1, 1) := by decide +kernel
theorem dX12_grant_28 : decode cX12_grant 28 = .ok (.invokevirtual 164, 3) := by decide +kernel
theorem dX12_grant_31 : decode cX12_grant 31 = .ok (.ireturn, 1) := by decide +kernel
theorem dX12_grant_32 : decode cX12_grant 32 = .ok (.iload_n 3, 1) := by decide +kernel
theorem dX12_grant_33 : decode cX12_grant 33 = .ok (.iload 4, 2) := by decide +kernel
theorem dX12_grant_35 : decode cX12_grant 35 = .ok (.iload 5, 2) := by decide +kernel
theorem dX12_grant_37 : decode cX12_grant 37 = .ok (.iload 6, 2) := by decide +kernel
theorem dX12_grant_39 : decode cX12_grant 39 = .ok (.iload 7, 2) := by decide +kernel
theorem dX12_grant_41 : decode cX12_grant 41 = .ok (.invokestatic 230, 3) := by decide +kernel
theorem dX12_grant_44 : decode cX12_grant 44 = .ok (.ifCond .ne 9, 3) := by decide +kernel
theorem dX12_grant_47 : decode cX12_grant 47 = .ok (.aload_n 0, 1) := by decide +kernel
theorem dX12_grant_48 : decode cX12_grant 48 = .ok (.iconst 2, 1) := by decide +kernel
theorem dX12_grant_49 : decode cX12_grant 49 = .ok (.invokevirtual 164, 3) := by decide +kernel
theorem dX12_grant_52 : decode cX12_grant 52 = .ok (.ireturn, 1) := by decide +kernel
theorem dX12_grant_53 : decode cX12_grant 53 = .ok (.aload_n 0, 1) := by decide +kernel
theorem dX12_grant_54 : decode cX12_grant 54 = .ok (.getfield 221, 3) := by decide +kernel
theorem dX12_grant_57 : decode cX12_grant 57 = .ok (.bipush 60, 2) := by decide +kernel
theorem dX12_grant_59 : decode cX12_grant 59 = .ok (.if_icmp .ne 10, 3) := by decide +kernel
theorem dX12_grant_62 : decode cX12_grant 62 = .ok (.aload_n 0, 1) := by decide +kernel
theorem dX12_grant_63 : decode cX12_grant 63 = .ok (.bipush 7, 2) := by decide +kernel
theorem dX12_grant_65 : decode cX12_grant 65 = .ok (.invokevirtual 164, 3) := by decide +kernel
theorem dX12_grant_68 : decode cX12_grant 68 = .ok (.ireturn, 1) := by decide +kernel
theorem dX12_grant_69 : decode cX12_grant 69 = .ok (.aload_n 0, 1) := by decide +kernel
theorem dX12_grant_70 : decode cX12_grant 70 = .ok (.iload_n 1, 1) := by decide +kernel
theorem dX12_grant_71 : decode cX12_grant 71 = .ok (.iload_n 3, 1) := by decide +kernel
theorem dX12_grant_72 : decode cX12_grant 72 = .ok (.iload 4, 2) := by decide +kernel
theorem dX12_grant_74 : decode cX12_grant 74 = .ok (.iload 5, 2) := by decide +kernel
theorem dX12_grant_76 : decode cX12_grant 76 = .ok (.iload 6, 2) := by decide +kernel
theorem dX12_grant_78 : decode cX12_grant 78 = .ok (.iload 7, 2) := by decide +kernel
theorem dX12_grant_80 : decode cX12_grant 80 = .ok (.invokevirtual 234, 3) := by decide +kernel
theorem dX12_grant_83 : decode cX12_grant 83 = .ok (.ifCond .eq 10, 3) := by decide +kernel
theorem dX12_grant_86 : decode cX12_grant 86 = .ok (.aload_n 0, 1) := by decide +kernel
theorem dX12_grant_87 : decode cX12_grant 87 = .ok (.bipush 10, 2) := by decide +kernel
theorem dX12_grant_89 : decode cX12_grant 89 = .ok (.invokevirtual 164, 3) := by decide +kernel
theorem dX12_grant_92 : decode cX12_grant 92 = .ok (.ireturn, 1) := by decide +kernel
theorem dX12_grant_93 : decode cX12_grant 93 = .ok (.aload_n 0, 1) := by decide +kernel
theorem dX12_grant_94 : decode cX12_grant 94 = .ok (.iload_n 1, 1) := by decide +kernel
theorem dX12_grant_95 : decode cX12_grant 95 = .ok (.iload_n 2, 1) := by decide +kernel
theorem dX12_grant_96 : decode cX12_grant 96 = .ok (.iload_n 3, 1) := by decide +kernel
theorem dX12_grant_97 : decode cX12_grant 97 = .ok (.iload 4, 2) := by decide +kernel
theorem dX12_grant_99 : decode cX12_grant 99 = .ok (.iload 5, 2) := by decide +kernel
theorem dX12_grant_101 : decode cX12_grant 101 = .ok (.iload 6, 2) := by decide +kernel
theorem dX12_grant_103 : decode cX12_grant 103 = .ok (.iload 7, 2) := by decide +kernel
theorem dX12_grant_105 : decode cX12_grant 105 = .ok (.invokevirtual 238, 3) := by decide +kernel
theorem dX12_grant_108 : decode cX12_grant 108 = .ok (.ireturn, 1) := by decide +kernel
set_option maxRecDepth 20000 in
theorem ggX12_end_X12_no : GoodIn wsX12_end wsX12_no := goodIn_r _ [9, 2, 13, 14, 15, 16, 17, 18, 19, 20, 21, 22, 23, 24, 25, 26, 27, 28, 29, 30, 31, 32, 33, 34, 35, 36, 37, 38, 39, 40, 41, 42, 43, 44, 45, 46, 47, 48, 49, 50, 51, 52, 53, 54, 55, 56, 57, 58, 59, 60, 61, 62, 63, 64, 65, 66] (by decide +kernel) (by decide +kernel)
set_option maxRecDepth 20000 in
theorem gX12_end_X12_no : GoodIn wsX12_end (wsV RX12 140 RX12 yX12_no wsX12_no) := goodIn_app (goodIn_of _ (by decide +kernel)) ggX12_end_X12_no
set_option maxRecDepth 20000 in
theorem ggX12_end_X12_isDay : GoodIn wsX12_end wsX12_isDay := goodIn_r _ [12] (by decide +kernel) (by decide +kernel)
set_option maxRecDepth 20000 in
theorem gX12_end_X12_isDay : GoodIn wsX12_end (va_wsS RX12 206 yX12_isDay wsX12_isDay) := goodIn_app (goodIn_of _ (by decide +kernel)) ggX12_end_X12_isDay
theorem dX12_end_0 : decode cX12_end 0 = .ok (.aload_n 0, 1) := by decide +kernel
theorem dX12_end_1 : decode cX12_end 1 = .ok (.iconst 0, 1) := by decide +kernel
theorem dX12_end_2 : decode cX12_end 2 = .ok (.putfield 134, 3) := by decide +kernel
theorem dX12_end_5 : decode cX12_end 5 = .ok (.aload_n 0, 1) := by decide +kernel
theorem dX12_end_6 : decode cX12_end 6 = .ok (.iconst 0, 1) := by decide +kernel
theorem dX12_end_7 : decode cX12_end 7 = .ok (.putfield 137, 3) := by decide +kernel
theorem dX12_end_10 : decode cX12_end 10 = .ok (.iload_n 1, 1) := by decide +kernel
theorem dX12_end_11 : decode cX12_end 11 = .ok (.ifCond .lt 11, 3) := by decide +kernel
theorem dX12_end_14 : decode cX12_end 14 = .ok (.iload_n 1, 1) := by decide +kernel
theorem dX12_end_15 : decode cX12_end 15 = .ok (.aload_n 0, 1) := by decide +kernel
theorem dX12_end_16 : decode cX12_end 16 = .ok (.getfield 221, 3) := by decide +kernel
theorem dX12_end_19 : decode cX12_end 19 = .ok (.if_icmp .lt 9, 3) := by decide +kernel
theorem dX12_end_22 : decode cX12_end 22 = .ok (.aload_n 0, 1) := by decide +kernel
theorem dX12_end_23 : decode cX12_end 23 = .ok (.iconst 1, 1) := by decide +kernel
theorem dX12_end_24 : decode cX12_end 24 = .ok (.invokevirtual 140, 3) := by decide +kernel
theorem dX12_end_27 : decode cX12_end 27 = .ok (.ireturn, 1) := by decide +kernel
theorem dX12_end_28 : decode cX12_end 28 = .ok (.iload_n 2, 1) := by decide +kernel
theorem dX12_end_29 : decode cX12_end 29 = .ok (.invokestatic 206, 3) := by decide +kernel
theorem dX12_end_32 : decode cX12_end 32 = .ok (.ifCond .ne 9, 3) := by decide +kernel
theorem dX12_end_35 : decode cX12_end 35 = .ok (.aload_n 0, 1) := by decide +kernel
theorem dX12_end_36 : decode cX12_end 36 = .ok (.iconst 2, 1) := by decide +kernel
theorem dX12_end_37 : decode cX12_end 37 = .ok (.invokevirtual 140, 3) := by decide +kernel
theorem dX12_end_40 : decode cX12_end 40 = .ok (.ireturn, 1) := by decide +kernel
theorem dX12_end_41 : decode cX12_end 41 = .ok (.aload_n 0, 1) := by decide +kernel
theorem dX12_end_42 : decode cX12_end 42 = .ok (.getfield 89, 3) := by decide +kernel
theorem dX12_end_45 : decode cX12_end 45 = .ok (.iload_n 1, 1) := by decide +kernel
theorem dX12_end_46 : decode cX12_end 46 = .ok (.iaload, 1) := by decide +kernel
theorem dX12_end_47 : decode cX12_end 47 = .ok (.ifCond .lt 10, 3) := by decide +kernel
theorem dX12_end_50 : decode cX12_end 50 = .ok (.aload_n 0, 1) := by decide +kernel
theorem dX12_end_51 : decode cX12_end 51 = .ok (.bipush 8, 2) := by decide +kernel
theorem dX12_end_53 : decode cX12_end 53 = .ok (.invokevirtual 140, 3) := by decide +kernel
theorem dX12_end_56 : decode cX12_end 56 = .ok (.ireturn, 1) := by decide +kernel
theorem dX12_end_57 : decode cX12_end 57 = .ok (.aload_n 0, 1) := by decide +kernel
theorem dX12_end_58 : decode cX12_end 58 = .ok (.getfield 89, 3) := by decide +kernel
theorem dX12_end_61 : decode cX12_end 61 = .ok (.iload_n 1, 1) := by decide +kernel
theorem dX12_end_62 : decode cX12_end 62 = .ok (.iload_n 2, 1) := by decide +kernel
theorem dX12_end_63 : decode cX12_end 63 = .ok (.iastore, 1) := by decide +kernel
theorem dX12_end_64 : decode cX12_end 64 = .ok (.iconst 1, 1) := by decide +kernel
theorem dX12_end_65 : decode cX12_end 65 = .ok (.ireturn, 1) := by decide +kernel
set_option maxRecDepth 20000 in
theorem ggX12_grantOf_X12_lastOf : GoodIn wsX12_grantOf wsX12_lastOf := goodIn_r _ [11, 12, 13, 14, 15, 16, 17, 18, 19, 20, 21, 22, 23, 24, 25, 26, 27, 28, 29, 30, 31, 32, 33, 34, 35, 36, 37, 38, 39, 40, 41, 42, 43, 44, 45, 46, 47, 48, 49, 50, 51, 52, 53, 54, 55, 56, 57, 58, 59, 60, 61, 62, 63, 64, 65, 66, 67, 68, 69, 70, 71] (by decide +kernel) (by decide +kernel)
set_option maxRecDepth 20000 in
theorem gX12_grantOf_X12_lastOf : GoodIn wsX12_grantOf (wsV RX12 227 RX12 yX12_lastOf wsX12_lastOf) := goodIn_app (goodIn_of _ (by decide +kernel)) ggX12_grantOf_X12_lastOf
theorem dX12_grantOf_0 : decode cX12_grantOf 0 = .ok (.iconst 0, 1) := by decide +kernel
theorem dX12_grantOf_1 : decode cX12_grantOf 1 = .ok (.istore 6, 2) := by decide +kernel
theorem dX12_grantOf_3 : decode cX12_grantOf 3 = .ok (.iload 6, 2) := by decide +kernel
theorem dX12_grantOf_5 : decode cX12_grantOf 5 = .ok (.aload_n 0, 1) := by decide +kernel
theorem dX12_grantOf_6 : decode cX12_grantOf 6 = .ok (.getfield 221, 3) := by decide +kernel
theorem dX12_grantOf_9 : decode cX12_grantOf 9 = .ok (.if_icmp .ge 104, 3) := by decide +kernel
theorem dX12_grantOf_12 : decode cX12_grantOf 12 = .ok (.aload_n 0, 1) := by decide +kernel
theorem dX12_grantOf_13 : decode cX12_grantOf 13 = .ok (.getfield 68, 3) := by decide +kernel
theorem dX12_grantOf_16 : decode cX12_grantOf 16 = .ok (.iload 6, 2) := by decide +kernel
theorem dX12_grantOf_18 : decode cX12_grantOf 18 = .ok (.iaload, 1) := by decide +kernel
theorem dX12_grantOf_19 : decode cX12_grantOf 19 = .ok (.iload_n 1, 1) := by decide +kernel
theorem dX12_grantOf_20 : decode cX12_grantOf 20 = .ok (.if_icmp .ne 53, 3) := by decide +kernel
theorem dX12_grantOf_23 : decode cX12_grantOf 23 = .ok (.aload_n 0, 1) := by decide +kernel
theorem dX12_grantOf_24 : decode cX12_grantOf 24 = .ok (.getfield 74, 3) := by decide +kernel
theorem dX12_grantOf_27 : decode cX12_grantOf 27 = .ok (.iload 6, 2) := by decide +kernel
theorem dX12_grantOf_29 : decode cX12_grantOf 29 = .ok (.iaload, 1) := by decide +kernel
theorem dX12_grantOf_30 : decode cX12_grantOf 30 = .ok (.iload_n 2, 1) := by decide +kernel
theorem dX12_grantOf_31 : decode cX12_grantOf 31 = .ok (.ishr, 1) := by decide +kernel
theorem dX12_grantOf_32 : decode cX12_grantOf 32 = .ok (.iconst 1, 1) := by decide +kernel
theorem dX12_grantOf_33 : decode cX12_grantOf 33 = .ok (.iand, 1) := by decide +kernel
theorem dX12_grantOf_34 : decode cX12_grantOf 34 = .ok (.iconst 1, 1) := by decide +kernel
theorem dX12_grantOf_35 : decode cX12_grantOf 35 = .ok (.if_icmp .ne 38, 3) := by decide +kernel
theorem dX12_grantOf_38 : decode cX12_grantOf 38 = .ok (.aload_n 0, 1) := by decide +kernel
theorem dX12_grantOf_39 : decode cX12_grantOf 39 = .ok (.getfield 77, 3) := by decide +kernel
theorem dX12_grantOf_42 : decode cX12_grantOf 42 = .ok (.iload 6, 2) := by decide +kernel
theorem dX12_grantOf_44 : decode cX12_grantOf 44 = .ok (.iaload, 1) := by decide +kernel
theorem dX12_grantOf_45 : decode cX12_grantOf 45 = .ok (.iload_n 3, 1) := by decide +kernel
theorem dX12_grantOf_46 : decode cX12_grantOf 46 = .ok (.ishr, 1) := by decide +kernel
theorem dX12_grantOf_47 : decode cX12_grantOf 47 = .ok (.iconst 1, 1) := by decide +kernel
theorem dX12_grantOf_48 : decode cX12_grantOf 48 = .ok (.iand, 1) := by decide +kernel
theorem dX12_grantOf_49 : decode cX12_grantOf 49 = .ok (.iconst 1, 1) := by decide +kernel
theorem dX12_grantOf_50 : decode cX12_grantOf 50 = .ok (.if_icmp .ne 23, 3) := by decide +kernel
theorem dX12_grantOf_53 : decode cX12_grantOf 53 = .ok (.aload_n 0, 1) := by decide +kernel
theorem dX12_grantOf_54 : decode cX12_grantOf 54 = .ok (.getfield 80, 3) := by decide +kernel
theorem dX12_grantOf_57 : decode cX12_grantOf 57 = .ok (.iload 6, 2) := by decide +kernel
theorem dX12_grantOf_59 : decode cX12_grantOf 59 = .ok (.iaload, 1) := by decide +kernel
theorem dX12_grantOf_60 : decode cX12_grantOf 60 = .ok (.iload 4, 2) := by decide +kernel
theorem dX12_grantOf_62 : decode cX12_grantOf 62 = .ok (.ishr, 1) := by decide +kernel
theorem dX12_grantOf_63 : decode cX12_grantOf 63 = .ok (.iconst 1, 1) := by decide +kernel
theorem dX12_grantOf_64 : decode cX12_grantOf 64 = .ok (.iand, 1) := by decide +kernel
theorem dX12_grantOf_65 : decode cX12_grantOf 65 = .ok (.iconst 1, 1) := by decide +kernel
theorem dX12_grantOf_66 : decode cX12_grantOf 66 = .ok (.if_icmp .ne 7, 3) := by decide +kernel
theorem dX12_grantOf_69 : decode cX12_grantOf 69 = .ok (.iconst 1, 1) := by decide +kernel
theorem dX12_grantOf_70 : decode cX12_grantOf 70 = .ok (.goto 4, 3) := by decide +kernel
theorem dX12_grantOf_73 : decode cX12_grantOf 73 = .ok (.iconst 0, 1) := by decide +kernel
theorem dX12_grantOf_74 : decode cX12_grantOf 74 = .ok (.istore 7, 2) := by decide +kernel
theorem dX12_grantOf_76 : decode cX12_grantOf 76 = .ok (.iload 7, 2) := by decide +kernel
theorem dX12_grantOf_78 : decode cX12_grantOf 78 = .ok (.ifCond .eq 29, 3) := by decide +kernel
theorem dX12_grantOf_81 : decode cX12_grantOf 81 = .ok (.aload_n 0, 1) := by decide +kernel
theorem dX12_grantOf_82 : decode cX12_grantOf 82 = .ok (.getfield 83, 3) := by decide +kernel
theorem dX12_grantOf_85 : decode cX12_grantOf 85 = .ok (.iload 6, 2) := by decide +kernel
theorem dX12_grantOf_87 : decode cX12_grantOf 87 = .ok (.iaload, 1) := by decide +kernel
theorem dX12_grantOf_88 : decode cX12_grantOf 88 = .ok (.iload 5, 2) := by decide +kernel
theorem dX12_grantOf_90 : decode cX12_grantOf 90 = .ok (.if_icmp .gt 17, 3) := by decide +kernel
theorem dX12_grantOf_93 : decode cX12_grantOf 93 = .ok (.iload 5, 2) := by decide +kernel
theorem dX12_grantOf_95 : decode cX12_grantOf 95 = .ok (.aload_n 0, 1) := by decide +kernel
theorem dX12_grantOf_96 : decode cX12_grantOf 96 = .ok (.iload 6, 2) := by decide +kernel
theorem dX12_grantOf_98 : decode cX12_grantOf 98 = .ok (.invokevirtual 227, 3) := by decide +kernel
theorem dX12_grantOf_101 : decode cX12_grantOf 101 = .ok (.if_icmp .gt 6, 3) := by decide +kernel
theorem dX12_grantOf_104 : decode cX12_grantOf 104 = .ok (.iload 6, 2) := by decide +kernel
theorem dX12_grantOf_106 : decode cX12_grantOf 106 = .ok (.ireturn, 1) := by decide +kernel
theorem dX12_grantOf_107 : decode cX12_grantOf 107 = .ok (.iinc 6 1, 3) := by decide +kernel
theorem dX12_grantOf_110 : decode cX12_grantOf 110 = .ok (.goto (-107), 3) := by decide +kernel
theorem dX12_grantOf_113 : decode cX12_grantOf 113 = .ok (.iconst (-1), 1) := by decide +kernel
theorem dX12_grantOf_114 : decode cX12_grantOf 114 = .ok (.ireturn, 1) := by decide +kernel
set_option maxRecDepth 20000 in
theorem ggX12_has_X12_isBook : GoodIn wsX12_has wsX12_isBook := goodIn_r _ [8, 9, 37, 38, 39, 40, 41, 42, 43, 44, 45, 46, 47, 48, 49, 50, 51, 52, 53, 54, 55, 56, 57, 58, 59, 60, 61, 62, 63, 64, 65, 66, 67, 68, 69, 70, 71, 72, 73, 74, 75, 76, 77, 78, 79, 80, 81, 82, 83, 84, 85, 86, 87, 88, 89, 90] (by decide +kernel) (by decide +kernel)
set_option maxRecDepth 20000 in
theorem gX12_has_X12_isBook : GoodIn wsX12_has (wsV RX12 209 RX12 yX12_isBook wsX12_isBook) := goodIn_app (goodIn_of _ (by decide +kernel)) ggX12_has_X12_isBook
set_option maxRecDepth 20000 in
theorem ggX12_has_X12_refuse : GoodIn wsX12_has wsX12_refuse := goodIn_r _ [13, 2, 37, 38, 39, 40, 41, 42, 43, 44, 45, 46, 47, 48, 49, 50, 51, 52, 53, 54, 55, 56, 57, 58, 59, 60, 61, 62, 63, 64, 65, 66, 67, 68, 69, 70, 71, 72, 73, 74, 75, 76, 77, 78, 79, 80, 81, 82, 83, 84, 85, 86, 87, 88, 89, 90] (by decide +kernel) (by decide +kernel)
set_option maxRecDepth 20000 in
theorem gX12_has_X12_refuse : GoodIn wsX12_has (wsV RX12 164 RX12 yX12_refuse wsX12_refuse) := goodIn_app (goodIn_of _ (by decide +kernel)) ggX12_has_X12_refuse
set_option maxRecDepth 20000 in
theorem ggX12_has_X12_isDay : GoodIn wsX12_has wsX12_isDay := goodIn_r _ [16] (by decide +kernel) (by decide +kernel)
set_option maxRecDepth 20000 in
theorem gX12_has_X12_isDay : GoodIn wsX12_has (va_wsS RX12 206 yX12_isDay wsX12_isDay) := goodIn_app (goodIn_of _ (by decide +kernel)) ggX12_has_X12_isDay
set_option maxRecDepth 20000 in
theorem ggX12_has_X12_grantOf : GoodIn wsX12_has wsX12_grantOf := goodIn_r _ [20, 21, 22, 23, 24, 25, 26, 27, 28, 29, 7, 30, 31, 32, 33, 34, 35, 36, 37, 38, 39, 40, 41, 42, 43, 44, 45, 46, 47, 48, 49, 50, 51, 52, 53, 54, 55, 56, 57, 58, 59, 60, 61, 62, 63, 64, 65, 66, 67, 68, 69, 70, 71, 72, 73, 74, 75, 76, 77, 78, 79, 80, 81, 82, 83, 84, 85, 86, 87, 88, 89, 90] (by decide +kernel) (by decide +kernel)
set_option maxRecDepth 20000 in
theorem gX12_has_X12_grantOf : GoodIn wsX12_has (wsV RX12 241 RX12 yX12_grantOf wsX12_grantOf) := goodIn_app (goodIn_of _ (by decide +kernel)) ggX12_has_X12_grantOf
theorem dX12_has_0 : decode cX12_has 0 = .ok (.aload_n 0, 1) := by decide +kernel
theorem dX12_has_1 : decode cX12_has 1 = .ok (.iconst 0, 1) := by decide +kernel
theorem dX12_has_2 : decode cX12_has 2 = .ok (.putfield 134, 3) := by decide +kernel
theorem dX12_has_5 : decode cX12_has 5 = .ok (.aload_n 0, 1) := by decide +kernel
theorem dX12_has_6 : decode cX12_has 6 = .ok (.iconst 0, 1) := by decide +kernel
theorem dX12_has_7 : decode cX12_has 7 = .ok (.putfield 137, 3) := by decide +kernel
theorem dX12_has_10 : decode cX12_has 10 = .ok (.aload_n 0, 1) := by decide +kernel
theorem dX12_has_11 : decode cX12_has 11 = .ok (.iload_n 1, 1) := by decide +kernel
theorem dX12_has_12 : decode cX12_has 12 = .ok (.invokevirtual 209, 3) := by decide +kernel
theorem dX12_has_15 : decode cX12_has 15 = .ok (.ifCond .ne 9, 3) := by decide +kernel
theorem dX12_has_18 : decode cX12_has 18 = .ok (.aload_n 0, 1) := by decide +kernel
theorem dX12_has_19 : decode cX12_has 19 = .ok (.iconst 1, 1) := by decide +kernel
theorem dX12_has_20 : decode cX12_has 20 = .ok (.invokevirtual 164, 3) := by decide +kernel
theorem dX12_has_23 : decode cX12_has 23 = .ok (.ireturn, 1) := by decide +kernel
theorem dX12_has_24 : decode cX12_has 24 = .ok (.iload_n 2, 1) := by decide +kernel
theorem dX12_has_25 : decode cX12_has 25 = .ok (.ifCond .lt 37, 3) := by decide +kernel
theorem dX12_has_28 : decode cX12_has 28 = .ok (.iload_n 2, 1) := by decide +kernel
theorem dX12_has_29 : decode cX12_has 29 = .ok (.bipush 7, 2) := by decide +kernel
theorem dX12_has_31 : decode cX12_has 31 = .ok (.if_icmp .gt 31, 3) := by decide +kernel
theorem dX12_has_34 : decode cX12_has 34 = .ok (.iload_n 3, 1) := by decide +kernel
theorem dX12_has_35 : decode cX12_has 35 = .ok (.ifCond .lt 27, 3) := by decide +kernel
theorem dX12_has_38 : decode cX12_has 38 = .ok (.iload_n 3, 1) := by decide +kernel
theorem dX12_has_39 : decode cX12_has 39 = .ok (.iconst 3, 1) := by decide +kernel
theorem dX12_has_40 : decode cX12_has 40 = .ok (.if_icmp .gt 22, 3) := by decide +kernel
theorem dX12_has_43 : decode cX12_has 43 = .ok (.iload 4, 2) := by decide +kernel
theorem dX12_has_45 : decode cX12_has 45 = .ok (.ifCond .lt 17, 3) := by decide +kernel
theorem dX12_has_48 : decode cX12_has 48 = .ok (.iload 4, 2) := by decide +kernel
theorem dX12_has_50 : decode cX12_has 50 = .ok (.iconst 3, 1) := by decide +kernel
theorem dX12_has_51 : decode cX12_has 51 = .ok (.if_icmp .gt 11, 3) := by decide +kernel
theorem dX12_has_54 : decode cX12_has 54 = .ok (.iload 5, 2) := by decide +kernel
theorem dX12_has_56 : decode cX12_has 56 = .ok (.invokestatic 206, 3) := by decide +kernel
theorem dX12_has_59 : decode cX12_has 59 = .ok (.ifCond .ne 9, 3) := by decide +kernel
theorem dX12_has_62 : decode cX12_has 62 = .ok (.aload_n 0, 1) := by decide +kernel
theorem dX12_has_63 : decode cX12_has 63 = .ok (.iconst 2, 1) := by decide +kernel
theorem dX12_has_64 : decode cX12_has 64 = .ok (.invokevirtual 164, 3) := by decide +kernel
theorem dX12_has_67 : decode cX12_has 67 = .ok (.ireturn, 1) := by decide +kernel
theorem dX12_has_68 : decode cX12_has 68 = .ok (.aload_n 0, 1) := by decide +kernel
theorem dX12_has_69 : decode cX12_has 69 = .ok (.iload_n 1, 1) := by decide +kernel
theorem dX12_has_70 : decode cX12_has 70 = .ok (.iload_n 2, 1) := by decide +kernel
theorem dX12_has_71 : decode cX12_has 71 = .ok (.iload_n 3, 1) := by decide +kernel
theorem dX12_has_72 : decode cX12_has 72 = .ok (.iload 4, 2) := by decide +kernel
theorem dX12_has_74 : decode cX12_has 74 = .ok (.iload 5, 2) := by decide +kernel
theorem dX12_has_76 : decode cX12_has 76 = .ok (.invokevirtual 241, 3) := by decide +kernel
theorem dX12_has_79 : decode cX12_has 79 = .ok (.istore 6, 2) := by decide +kernel
theorem dX12_has_81 : decode cX12_has 81 = .ok (.iload 6, 2) := by decide +kernel
theorem dX12_has_83 : decode cX12_has 83 = .ok (.ifCond .ge 12, 3) := by decide +kernel
theorem dX12_has_86 : decode cX12_has 86 = .ok (.aload_n 0, 1) := by decide +kernel
theorem dX12_has_87 : decode cX12_has 87 = .ok (.bipush 9, 2) := by decide +kernel
theorem dX12_has_89 : decode cX12_has 89 = .ok (.invokevirtual 164, 3) := by decide +kernel
theorem dX12_has_92 : decode cX12_has 92 = .ok (.goto 10, 3) := by decide +kernel
theorem dX12_has_95 : decode cX12_has 95 = .ok (.aload_n 0, 1) := by decide +kernel
theorem dX12_has_96 : decode cX12_has 96 = .ok (.getfield 71, 3) := by decide +kernel
theorem dX12_has_99 : decode cX12_has 99 = .ok (.iload 6, 2) := by decide +kernel
theorem dX12_has_101 : decode cX12_has 101 = .ok (.iaload, 1) := by decide +kernel
theorem dX12_has_102 : decode cX12_has 102 = .ok (.ireturn, 1) := by decide +kernel
theorem dX12_common_0 : decode cX12_common 0 = .ok (.iload_n 0, 1) := by decide +kernel
theorem dX12_common_1 : decode cX12_common 1 = .ok (.istore_n 2, 1) := by decide +kernel
theorem dX12_common_2 : decode cX12_common 2 = .ok (.iload_n 1, 1) := by decide +kernel
theorem dX12_common_3 : decode cX12_common 3 = .ok (.istore_n 3, 1) := by decide +kernel
theorem dX12_common_4 : decode cX12_common 4 = .ok (.iload_n 3, 1) := by decide +kernel
theorem dX12_common_5 : decode cX12_common 5 = .ok (.ifCond .eq 16, 3) := by decide +kernel
theorem dX12_common_8 : decode cX12_common 8 = .ok (.iload_n 2, 1) := by decide +kernel
theorem dX12_common_9 : decode cX12_common 9 = .ok (.iload_n 3, 1) := by decide +kernel
theorem dX12_common_10 : decode cX12_common 10 = .ok (.irem, 1) := by decide +kernel
theorem dX12_common_11 : decode cX12_common 11 = .ok (.istore 4, 2) := by decide +kernel
theorem dX12_common_13 : decode cX12_common 13 = .ok (.iload_n 3, 1) := by decide +kernel
theorem dX12_common_14 : decode cX12_common 14 = .ok (.istore_n 2, 1) := by decide +kernel
theorem dX12_common_15 : decode cX12_common 15 = .ok (.iload 4, 2) := by decide +kernel
theorem dX12_common_17 : decode cX12_common 17 = .ok (.istore_n 3, 1) := by decide +kernel
theorem dX12_common_18 : decode cX12_common 18 = .ok (.goto (-14), 3) := by decide +kernel
theorem dX12_common_21 : decode cX12_common 21 = .ok (.iload_n 2, 1) := by decide +kernel
theorem dX12_common_22 : decode cX12_common 22 = .ok (.ireturn, 1) := by decide +kernel
set_option maxRecDepth 20000 in
theorem ggX12_left_X12_isBook : GoodIn wsX12_left wsX12_isBook := goodIn_r _ [9, 10, 44, 45, 46, 47, 48, 49, 50, 51, 52, 53, 54, 55, 56, 57, 58, 59, 60, 61, 62, 63, 64, 65, 66, 67, 68, 69, 70, 71, 72, 73, 74, 75, 76, 77, 78, 79, 80, 81, 82, 83, 84, 85, 86, 87, 88, 89, 90, 91, 92, 93, 94, 95, 96, 97] (by decide +kernel) (by decide +kernel)
set_option maxRecDepth 20000 in
theorem gX12_left_X12_isBook : GoodIn wsX12_left (wsV RX12 209 RX12 yX12_isBook wsX12_isBook) := goodIn_app (goodIn_of _ (by decide +kernel)) ggX12_left_X12_isBook
set_option maxRecDepth 20000 in
theorem ggX12_left_X12_no : GoodIn wsX12_left wsX12_no := goodIn_r _ [14, 2, 44, 45, 46, 47, 48, 49, 50, 51, 52, 53, 54, 55, 56, 57, 58, 59, 60, 61, 62, 63, 64, 65, 66, 67, 68, 69, 70, 71, 72, 73, 74, 75, 76, 77, 78, 79, 80, 81, 82, 83, 84, 85, 86, 87, 88, 89, 90, 91, 92, 93, 94, 95, 96, 97] (by decide +kernel) (by decide +kernel)
set_option maxRecDepth 20000 in
theorem gX12_left_X12_no : GoodIn wsX12_left (wsV RX12 140 RX12 yX12_no wsX12_no) := goodIn_app (goodIn_of _ (by decide +kernel)) ggX12_left_X12_no
set_option maxRecDepth 20000 in
theorem ggX12_left_X12_areCells : GoodIn wsX12_left wsX12_areCells := goodIn_r _ [17] (by decide +kernel) (by decide +kernel)
set_option maxRecDepth 20000 in
theorem gX12_left_X12_areCells : GoodIn wsX12_left (va_wsS RX12 202 yX12_areCells wsX12_areCells) := goodIn_app (goodIn_of _ (by decide +kernel)) ggX12_left_X12_areCells
set_option maxRecDepth 20000 in
theorem ggX12_left_X12_isDay : GoodIn wsX12_left wsX12_isDay := goodIn_r _ [20] (by decide +kernel) (by decide +kernel)
set_option maxRecDepth 20000 in
theorem gX12_left_X12_isDay : GoodIn wsX12_left (va_wsS RX12 206 yX12_isDay wsX12_isDay) := goodIn_app (goodIn_of _ (by decide +kernel)) ggX12_left_X12_isDay
set_option maxRecDepth 20000 in
theorem ggX12_left_X12_grantOf : GoodIn wsX12_left wsX12_grantOf := goodIn_r _ [24, 25, 26, 27, 28, 29, 30, 31, 32, 33, 8, 34, 35, 36, 37, 38, 39, 40, 44, 45, 46, 47, 48, 49, 50, 51, 52, 53, 54, 55, 56, 57, 58, 59, 60, 61, 62, 63, 64, 65, 66, 67, 68, 69, 70, 71, 72, 73, 74, 75, 76, 77, 78, 79, 80, 81, 82, 83, 84, 85, 86, 87, 88, 89, 90, 91, 92, 93, 94, 95, 96, 97] (by decide +kernel) (by decide +kernel)
set_option maxRecDepth 20000 in
theorem gX12_left_X12_grantOf : GoodIn wsX12_left (wsV RX12 241 RX12 yX12_grantOf wsX12_grantOf) := goodIn_app (goodIn_of _ (by decide +kernel)) ggX12_left_X12_grantOf
set_option maxRecDepth 20000 in
theorem ggX12_left_X12_common : GoodIn wsX12_left wsX12_common := goodIn_r _ [43] (by decide +kernel) (by decide +kernel)
set_option maxRecDepth 20000 in
theorem gX12_left_X12_common : GoodIn wsX12_left (va_wsS RX12 245 yX12_common wsX12_common) := goodIn_app (goodIn_of _ (by decide +kernel)) ggX12_left_X12_common
theorem dX12_left_0 : decode cX12_left 0 = .ok (.aload_n 0, 1) := by decide +kernel
theorem dX12_left_1 : decode cX12_left 1 = .ok (.iconst 0, 1) := by decide +kernel
theorem dX12_left_2 : decode cX12_left 2 = .ok (.putfield 134, 3) := by decide +kernel
theorem dX12_left_5 : decode cX12_left 5 = .ok (.aload_n 0, 1) := by decide +kernel
theorem dX12_left_6 : decode cX12_left 6 = .ok (.iconst 0, 1) := by decide +kernel
theorem dX12_left_7 : decode cX12_left 7 = .ok (.putfield 137, 3) := by decide +kernel
theorem dX12_left_10 : decode cX12_left 10 = .ok (.aload_n 0, 1) := by decide +kernel
theorem dX12_left_11 : decode cX12_left 11 = .ok (.iload_n 1, 1) := by decide +kernel
theorem dX12_left_12 : decode cX12_left 12 = .ok (.invokevirtual 209, 3) := by decide +kernel
theorem dX12_left_15 : decode cX12_left 15 = .ok (.ifCond .ne 9, 3) := by decide +kernel
theorem dX12_left_18 : decode cX12_left 18 = .ok (.aload_n 0, 1) := by decide +kernel
theorem dX12_left_19 : decode cX12_left 19 = .ok (.iconst 1, 1) := by decide +kernel
theorem dX12_left_20 : decode cX12_left 20 = .ok (.invokevirtual 140, 3) := by decide +kernel
theorem dX12_left_23 : decode cX12_left 23 = .ok (.ireturn, 1) := by decide +kernel
theorem dX12_left_24 : decode cX12_left 24 = .ok (.iload_n 2, 1) := by decide +kernel
theorem dX12_left_25 : decode cX12_left 25 = .ok (.iload_n 3, 1) := by decide +kernel
theorem dX12_left_26 : decode cX12_left 26 = .ok (.iload 4, 2) := by decide +kernel
theorem dX12_left_28 : decode cX12_left 28 = .ok (.invokestatic 202, 3) := by decide +kernel
theorem dX12_left_31 : decode cX12_left 31 = .ok (.ifCond .eq 11, 3) := by decide +kernel
theorem dX12_left_34 : decode cX12_left 34 = .ok (.iload 5, 2) := by decide +kernel
theorem dX12_left_36 : decode cX12_left 36 = .ok (.invokestatic 206, 3) := by decide +kernel
theorem dX12_left_39 : decode cX12_left 39 = .ok (.ifCond .ne 9, 3) := by decide +kernel
theorem dX12_left_42 : decode cX12_left 42 = .ok (.aload_n 0, 1) := by decide +kernel
theorem dX12_left_43 : decode cX12_left 43 = .ok (.iconst 2, 1) := by decide +kernel
theorem dX12_left_44 : decode cX12_left 44 = .ok (.invokevirtual 140, 3) := by decide +kernel
theorem dX12_left_47 : decode cX12_left 47 = .ok (.ireturn, 1) := by decide +kernel
theorem dX12_left_48 : decode cX12_left 48 = .ok (.iconst 0, 1) := by decide +kernel
theorem dX12_left_49 : decode cX12_left 49 = .ok (.istore 6, 2) := by decide +kernel
theorem dX12_left_51 : decode cX12_left 51 = .ok (.iconst 0, 1) := by decide +kernel
theorem dX12_left_52 : decode cX12_left 52 = .ok (.istore 7, 2) := by decide +kernel
theorem dX12_left_54 : decode cX12_left 54 = .ok (.iconst 0, 1) := by decide +kernel
theorem dX12_left_55 : decode cX12_left 55 = .ok (.istore 8, 2) := by decide +kernel
theorem dX12_left_57 : decode cX12_left 57 = .ok (.iload 8, 2) := by decide +kernel
theorem dX12_left_59 : decode cX12_left 59 = .ok (.bipush 8, 2) := by decide +kernel
theorem dX12_left_61 : decode cX12_left 61 = .ok (.if_icmp .ge 99, 3) := by decide +kernel
theorem dX12_left_64 : decode cX12_left 64 = .ok (.iconst 0, 1) := by decide +kernel
theorem dX12_left_65 : decode cX12_left 65 = .ok (.istore 9, 2) := by decide +kernel
theorem dX12_left_67 : decode cX12_left 67 = .ok (.iload 9, 2) := by decide +kernel
theorem dX12_left_69 : decode cX12_left 69 = .ok (.iconst 4, 1) := by decide +kernel
theorem dX12_left_70 : decode cX12_left 70 = .ok (.if_icmp .ge 84, 3) := by decide +kernel
theorem dX12_left_73 : decode cX12_left 73 = .ok (.iconst 0, 1) := by decide +kernel
theorem dX12_left_74 : decode cX12_left 74 = .ok (.istore 10, 2) := by decide +kernel
theorem dX12_left_76 : decode cX12_left 76 = .ok (.iload 10, 2) := by decide +kernel
theorem dX12_left_78 : decode cX12_left 78 = .ok (.iconst 4, 1) := by decide +kernel
theorem dX12_left_79 : decode cX12_left 79 = .ok (.if_icmp .ge 69, 3) := by decide +kernel
theorem dX12_left_82 : decode cX12_left 82 = .ok (.iload_n 2, 1) := by decide +kernel
theorem dX12_left_83 : decode cX12_left 83 = .ok (.iload 8, 2) := by decide +kernel
theorem dX12_left_85 : decode cX12_left 85 = .ok (.ishr, 1) := by decide +kernel
theorem dX12_left_86 : decode cX12_left 86 = .ok (.iconst 1, 1) := by decide +kernel
theorem dX12_left_87 : decode cX12_left 87 = .ok (.iand, 1) := by decide +kernel
theorem dX12_left_88 : decode cX12_left 88 = .ok (.ifCond .eq 54, 3) := by decide +kernel
theorem dX12_left_91 : decode cX12_left 91 = .ok (.iload_n 3, 1) := by decide +kernel
theorem dX12_left_92 : decode cX12_left 92 = .ok (.iload 9, 2) := by decide +kernel
theorem dX12_left_94 : decode cX12_left 94 = .ok (.ishr, 1) := by decide +kernel
theorem dX12_left_95 : decode cX12_left 95 = .ok (.iconst 1, 1) := by decide +kernel
theorem dX12_left_96 : decode cX12_left 96 = .ok (.iand, 1) := by decide +kernel
theorem dX12_left_97 : decode cX12_left 97 = .ok (.ifCond .eq 45, 3) := by decide +kernel
theorem dX12_left_100 : decode cX12_left 100 = .ok (.iload 4, 2) := by decide +kernel
theorem dX12_left_102 : decode cX12_left 102 = .ok (.iload 10, 2) := by decide +kernel
theorem dX12_left_104 : decode cX12_left 104 = .ok (.ishr, 1) := by decide +kernel
theorem dX12_left_105 : decode cX12_left 105 = .ok (.iconst 1, 1) := by decide +kernel
theorem dX12_left_106 : decode cX12_left 106 = .ok (.iand, 1) := by decide +kernel
theorem dX12_left_107 : decode cX12_left 107 = .ok (.ifCond .ne 6, 3) := by decide +kernel
theorem dX12_left_110 : decode cX12_left 110 = .ok (.goto 32, 3) := by decide +kernel
theorem dX12_left_113 : decode cX12_left 113 = .ok (.iinc 6 1, 3) := by decide +kernel
theorem dX12_left_116 : decode cX12_left 116 = .ok (.iload 7, 2) := by decide +kernel
theorem dX12_left_118 : decode cX12_left 118 = .ok (.aload_n 0, 1) := by decide +kernel
theorem dX12_left_119 : decode cX12_left 119 = .ok (.iload_n 1, 1) := by decide +kernel
theorem dX12_left_120 : decode cX12_left 120 = .ok (.iload 8, 2) := by decide +kernel
theorem dX12_left_122 : decode cX12_left 122 = .ok (.iload 9, 2) := by decide +kernel
theorem dX12_left_124 : decode cX12_left 124 = .ok (.iload 10, 2) := by decide +kernel
theorem dX12_left_126 : decode cX12_left 126 = .ok (.iload 5, 2) := by decide +kernel
theorem dX12_left_128 : decode cX12_left 128 = .ok (.invokevirtual 241, 3) := by decide +kernel
theorem dX12_left_131 : decode cX12_left 131 = .ok (.ifCond .ge 7, 3) := by decide +kernel
theorem dX12_left_134 : decode cX12_left 134 = .ok (.iconst 1, 1) := by decide +kernel
theorem dX12_left_135 : decode cX12_left 135 = .ok (.goto 4, 3) := by decide +kernel
theorem dX12_left_138 : decode cX12_left 138 = .ok (.iconst 0, 1) := by decide +kernel
theorem dX12_left_139 : decode cX12_left 139 = .ok (.iadd, 1) := by decide +kernel
theorem dX12_left_140 : decode cX12_left 140 = .ok (.istore 7, 2) := by decide +kernel
theorem dX12_left_142 : decode cX12_left 142 = .ok (.iinc 10 1, 3) := by decide +kernel
theorem dX12_left_145 : decode cX12_left 145 = .ok (.goto (-69), 3) := by decide +kernel
theorem dX12_left_148 : decode cX12_left 148 = .ok (.iinc 9 1, 3) := by decide +kernel
theorem dX12_left_151 : decode cX12_left 151 = .ok (.goto (-84), 3) := by decide +kernel
theorem dX12_left_154 : decode cX12_left 154 = .ok (.iinc 8 1, 3) := by decide +kernel
theorem dX12_left_157 : decode cX12_left 157 = .ok (.goto (-100), 3) := by decide +kernel
theorem dX12_left_160 : decode cX12_left 160 = .ok (.iload 7, 2) := by decide +kernel
theorem dX12_left_162 : decode cX12_left 162 = .ok (.iload 6, 2) := by decide +kernel
theorem dX12_left_164 : decode cX12_left 164 = .ok (.invokestatic 245, 3) := by decide +kernel
theorem dX12_left_167 : decode cX12_left 167 = .ok (.istore 8, 2) := by decide +kernel
theorem dX12_left_169 : decode cX12_left 169 = .ok (.aload_n 0, 1) := by decide +kernel
theorem dX12_left_170 : decode cX12_left 170 = .ok (.iload 7, 2) := by decide +kernel
theorem dX12_left_172 : decode cX12_left 172 = .ok (.iload 8, 2) := by decide +kernel
theorem dX12_left_174 : decode cX12_left 174 = .ok (.idiv, 1) := by decide +kernel
theorem dX12_left_175 : decode cX12_left 175 = .ok (.i2l, 1) := by decide +kernel
theorem dX12_left_176 : decode cX12_left 176 = .ok (.putfield 248, 3) := by decide +kernel
theorem dX12_left_179 : decode cX12_left 179 = .ok (.aload_n 0, 1) := by decide +kernel
theorem dX12_left_180 : decode cX12_left 180 = .ok (.iload 6, 2) := by decide +kernel
theorem dX12_left_182 : decode cX12_left 182 = .ok (.iload 8, 2) := by decide +kernel
theorem dX12_left_184 : decode cX12_left 184 = .ok (.idiv, 1) := by decide +kernel
theorem dX12_left_185 : decode cX12_left 185 = .ok (.i2l, 1) := by decide +kernel
theorem dX12_left_186 : decode cX12_left 186 = .ok (.putfield 7, 3) := by decide +kernel
theorem dX12_left_189 : decode cX12_left 189 = .ok (.iconst 1, 1) := by decide +kernel
theorem dX12_left_190 : decode cX12_left 190 = .ok (.ireturn, 1) := by decide +kernel
set_option maxRecDepth 20000 in
theorem ggX12_option_X12_isBook : GoodIn wsX12_option wsX12_isBook := goodIn_r _ [12, 13, 27, 28, 29, 30, 31, 32, 33, 34, 35, 36, 37, 38, 39, 40, 41, 42, 43, 44, 45, 46, 47, 48, 49, 50, 51, 52, 53, 54, 55, 56, 57, 58, 59, 60, 61, 62, 63, 64, 65, 66, 67, 68, 69, 70, 71, 72, 73, 74, 75, 76, 77, 78, 79, 80] (by decide +kernel) (by decide +kernel)
set_option maxRecDepth 20000 in
theorem gX12_option_X12_isBook : GoodIn wsX12_option (wsV RX12 209 RX12 yX12_isBook wsX12_isBook) := goodIn_app (goodIn_of _ (by decide +kernel)) ggX12_option_X12_isBook
set_option maxRecDepth 20000 in
theorem ggX12_option_X12_isEditor : GoodIn wsX12_option wsX12_isEditor := goodIn_r _ [17, 18, 27, 28, 29, 30, 31, 32, 33, 34, 35, 36, 37, 38, 39, 40, 41, 42, 43, 44, 45, 46, 47, 48, 49, 50, 51, 52, 53, 54, 55, 56, 57, 58, 59, 60, 61, 62, 63, 64, 65, 66, 67, 68, 69, 70, 71, 72, 73, 74, 75, 76, 77, 78, 79, 80] (by decide +kernel) (by decide +kernel)
set_option maxRecDepth 20000 in
theorem gX12_option_X12_isEditor : GoodIn wsX12_option (wsV RX12 170 RX12 yX12_isEditor wsX12_isEditor) := goodIn_app (goodIn_of _ (by decide +kernel)) ggX12_option_X12_isEditor
set_option maxRecDepth 20000 in
theorem ggX12_option_X12_no : GoodIn wsX12_option wsX12_no := goodIn_r _ [22, 2, 27, 28, 29, 30, 31, 32, 33, 34, 35, 36, 37, 38, 39, 40, 41, 42, 43, 44, 45, 46, 47, 48, 49, 50, 51, 52, 53, 54, 55, 56, 57, 58, 59, 60, 61, 62, 63, 64, 65, 66, 67, 68, 69, 70, 71, 72, 73, 74, 75, 76, 77, 78, 79, 80] (by decide +kernel) (by decide +kernel)
set_option maxRecDepth 20000 in
theorem gX12_option_X12_no : GoodIn wsX12_option (wsV RX12 140 RX12 yX12_no wsX12_no) := goodIn_app (goodIn_of _ (by decide +kernel)) ggX12_option_X12_no
set_option maxRecDepth 20000 in
theorem ggX12_option_X12_isMinute : GoodIn wsX12_option wsX12_isMinute := goodIn_r _ [25, 26] (by decide +kernel) (by decide +kernel)
set_option maxRecDepth 20000 in
theorem gX12_option_X12_isMinute : GoodIn wsX12_option (va_wsS RX12 251 yX12_isMinute wsX12_isMinute) := goodIn_app (goodIn_of _ (by decide +kernel)) ggX12_option_X12_isMinute
