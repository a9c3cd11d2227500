/-! ===== the law: its calls ===== -/
set_option maxRecDepth 100000 in
set_option maxHeartbeats 4000000 in
theorem law_0 {E : gEnv} {b L : Nat} {xs : Nat → Int32} (hW : LW E b L xs) {k cells slots : Nat} (hk : 10 * k + 10 ≤ L) (hc : cells + 2 ≤ 600000) (hs : slots + 18 ≤ 7302250) {T : gSh} {I : gI} {J : gJ} {R : gR} {ca : Nat → Nat} {m : Nat} {ad : Nat → Nat} {a : gI} {n : gJ} (hL : LI T I J R ca m ad a n) (hn : ∀ (T : gSh) (I : gI) (J : gJ) (R : gR) (a : gI) (n : gJ), LI T I J R ca m ad a n → WP E 4 (cells + 2) (slots + 18) T I J R 1377 [(0, .ref b), (1, .ref (ca 0)), (2, .ref m), (3, .int (nI (10 * k)))] []) : WP E 4 cells slots T I J R 160 [(0, .ref b), (1, .ref (ca 0)), (2, .ref m), (3, .int (nI (10 * k)))] [] := by
  refine wp_aload_n hW.1 1 dL_law_160 rfl rfl ?_
  refine wp_callV hW.1 (As := []) (rest := []) dL_law_161 kL_law_13 (hL.1.1.ob 0 (by decide) rfl) (c_statusQ _ hL.1 ) rfl (Nat.le_of_ble_eq_true rfl) (by decide) ⟨by show cells + 0 ≤ 600000; omega, by show slots + 0 ≤ 7302250; omega⟩ ?_
  rintro _ T1 I1 J1 R1 ⟨rfl, hF, hK1⟩
  have hM1 := hL.fr hF
  refine wp_widen (k := cells + 0) (n := slots + 0) (Nat.le_refl _) (Nat.le_refl _) ?_
  change WP E 4 (cells + 0) (slots + 0) T1 I1 J1 R1 164 [(0, .ref b), (1, .ref (ca 0)), (2, .ref m), (3, .int (nI (10 * k)))] [.int _]
  refine wp_aload_n hW.1 2 dL_law_164 rfl rfl ?_
  refine wp_callV hW.1 (As := []) (rest := [.int _]) dL_law_165 kL_law_17 hM1.1.ob (m_statusZ _ hM1.1 hM1.2.1  ) rfl (Nat.le_of_ble_eq_true rfl) (by decide) ⟨by show cells + 0 + 0 ≤ 600000; omega, by show slots + 0 + 0 ≤ 7302250; omega⟩ ?_
  rintro _ _ I2 J2 _ ⟨rfl, rfl, rfl, hX⟩
  have hL2 := LI.z hK1 hM1 hX
  change WP E 4 (cells + 0 + 0) (slots + 0 + 0) T1 I2 J2 R1 168 [(0, .ref b), (1, .ref (ca 0)), (2, .ref m), (3, .int (nI (10 * k)))] [.int _, .int _]
  refine wp_icmp_eq hW.1 1377 dL_law_168 (by decide) (fun _ => ?_) (fun z => absurd rfl z)
  refine wp_widen (k := cells + 2) (n := slots + 18) (by omega) (by omega) ?_
  exact hn _ _ _ _ _ _ hL2
set_option maxRecDepth 100000 in
set_option maxHeartbeats 4000000 in
theorem law_1 {E : gEnv} {b L : Nat} {xs : Nat → Int32} (hW : LW E b L xs) {k cells slots : Nat} (hk : 10 * k + 10 ≤ L) (hc : cells + 2 ≤ 600000) (hs : slots + 18 ≤ 7302250) {T : gSh} {I : gI} {J : gJ} {R : gR} {ca : Nat → Nat} {m : Nat} {ad : Nat → Nat} {a : gI} {n : gJ} (hL : LI T I J R ca m ad a n) (hn : ∀ (T : gSh) (I : gI) (J : gJ) (R : gR) (a : gI) (n : gJ), LI T I J R ca m ad a n → WP E 4 (cells + 2) (slots + 18) T I J R 1377 [(0, .ref b), (1, .ref (ca 0)), (2, .ref m), (3, .int (nI (10 * k)))] []) : WP E 4 cells slots T I J R 173 [(0, .ref b), (1, .ref (ca 0)), (2, .ref m), (3, .int (nI (10 * k)))] [] := by
  refine wp_aload_n hW.1 1 dL_law_173 rfl rfl ?_
  refine wp_aload_n hW.1 0 dL_law_174 rfl rfl ?_
  refine wp_iload_n hW.1 3 dL_law_175 rfl rfl ?_
  refine wp_iconst hW.1 1 dL_law_176 (by decide) ?_
  refine wp_iadd hW.1 dL_law_177 ?_
  refine wp_eqi (nI_add (10 * k) 1) ?_
  refine wp_sld hW (j := 10 * k + 1) rfl (by omega) dL_law_178 ?_
  refine wp_aload_n hW.1 0 dL_law_179 rfl rfl ?_
  refine wp_iload_n hW.1 3 dL_law_180 rfl rfl ?_
  refine wp_iconst hW.1 2 dL_law_181 (by decide) ?_
  refine wp_iadd hW.1 dL_law_182 ?_
  refine wp_eqi (nI_add (10 * k) 2) ?_
  refine wp_sld hW (j := 10 * k + 2) rfl (by omega) dL_law_183 ?_
  refine wp_aload_n hW.1 0 dL_law_184 rfl rfl ?_
  refine wp_iload_n hW.1 3 dL_law_185 rfl rfl ?_
  refine wp_iconst hW.1 3 dL_law_186 (by decide) ?_
  refine wp_iadd hW.1 dL_law_187 ?_
  refine wp_eqi (nI_add (10 * k) 3) ?_
  refine wp_sld hW (j := 10 * k + 3) rfl (by omega) dL_law_188 ?_
  refine wp_callV hW.1 (As := [.int (xs (10 * k + 1)), .int (xs (10 * k + 2)), .int (xs (10 * k + 3))]) (rest := []) dL_law_189 kL_law_18 (hL.1.1.ob 0 (by decide) rfl) (c_tray _ hL.1 (xs (10 * k + 1)) (xs (10 * k + 2)) (xs (10 * k + 3))) rfl (Nat.le_of_ble_eq_true rfl) (by decide) ⟨by show cells + 0 ≤ 600000; omega, by show slots + 0 ≤ 7302250; omega⟩ ?_
  rintro _ T1 I1 J1 R1 ⟨rfl, hF, hK1⟩
  have hM1 := hL.fr hF
  refine wp_widen (k := cells + 0) (n := slots + 0) (Nat.le_refl _) (Nat.le_refl _) ?_
  change WP E 4 (cells + 0) (slots + 0) T1 I1 J1 R1 192 [(0, .ref b), (1, .ref (ca 0)), (2, .ref m), (3, .int (nI (10 * k)))] [.int _]
  refine wp_aload_n hW.1 2 dL_law_192 rfl rfl ?_
  refine wp_aload_n hW.1 0 dL_law_193 rfl rfl ?_
  refine wp_iload_n hW.1 3 dL_law_194 rfl rfl ?_
  refine wp_iconst hW.1 1 dL_law_195 (by decide) ?_
  refine wp_iadd hW.1 dL_law_196 ?_
  refine wp_eqi (nI_add (10 * k) 1) ?_
  refine wp_sld hW (j := 10 * k + 1) rfl (by omega) dL_law_197 ?_
  refine wp_aload_n hW.1 0 dL_law_198 rfl rfl ?_
  refine wp_iload_n hW.1 3 dL_law_199 rfl rfl ?_
  refine wp_iconst hW.1 2 dL_law_200 (by decide) ?_
  refine wp_iadd hW.1 dL_law_201 ?_
  refine wp_eqi (nI_add (10 * k) 2) ?_
  refine wp_sld hW (j := 10 * k + 2) rfl (by omega) dL_law_202 ?_
  refine wp_aload_n hW.1 0 dL_law_203 rfl rfl ?_
  refine wp_iload_n hW.1 3 dL_law_204 rfl rfl ?_
  refine wp_iconst hW.1 3 dL_law_205 (by decide) ?_
  refine wp_iadd hW.1 dL_law_206 ?_
  refine wp_eqi (nI_add (10 * k) 3) ?_
  refine wp_sld hW (j := 10 * k + 3) rfl (by omega) dL_law_207 ?_
  refine wp_callV hW.1 (As := [.int (xs (10 * k + 1)), .int (xs (10 * k + 2)), .int (xs (10 * k + 3))]) (rest := [.int _]) dL_law_208 kL_law_22 hM1.1.ob (m_tray _ hM1.1 hM1.2.1  (xs (10 * k + 1)) (xs (10 * k + 2)) (xs (10 * k + 3))) rfl (Nat.le_of_ble_eq_true rfl) (by decide) ⟨by show cells + 0 + 0 ≤ 600000; omega, by show slots + 0 + 0 ≤ 7302250; omega⟩ ?_
  rintro _ _ I2 J2 _ ⟨rfl, rfl, rfl, hX⟩
  have hL2 := LI.z hK1 hM1 hX
  change WP E 4 (cells + 0 + 0) (slots + 0 + 0) T1 I2 J2 R1 211 [(0, .ref b), (1, .ref (ca 0)), (2, .ref m), (3, .int (nI (10 * k)))] [.int _, .int _]
  refine wp_icmp_eq hW.1 1377 dL_law_211 (by decide) (fun _ => ?_) (fun z => absurd rfl z)
  refine wp_widen (k := cells + 2) (n := slots + 18) (by omega) (by omega) ?_
  exact hn _ _ _ _ _ _ hL2
set_option maxRecDepth 100000 in
set_option maxHeartbeats 4000000 in
theorem law_2 {E : gEnv} {b L : Nat} {xs : Nat → Int32} (hW : LW E b L xs) {k cells slots : Nat} (hk : 10 * k + 10 ≤ L) (hc : cells + 2 ≤ 600000) (hs : slots + 18 ≤ 7302250) {T : gSh} {I : gI} {J : gJ} {R : gR} {ca : Nat → Nat} {m : Nat} {ad : Nat → Nat} {a : gI} {n : gJ} (hL : LI T I J R ca m ad a n) (hn : ∀ (T : gSh) (I : gI) (J : gJ) (R : gR) (a : gI) (n : gJ), LI T I J R ca m ad a n → WP E 4 (cells + 2) (slots + 18) T I J R 1377 [(0, .ref b), (1, .ref (ca 0)), (2, .ref m), (3, .int (nI (10 * k)))] []) : WP E 4 cells slots T I J R 216 [(0, .ref b), (1, .ref (ca 0)), (2, .ref m), (3, .int (nI (10 * k)))] [] := by
  refine wp_aload_n hW.1 1 dL_law_216 rfl rfl ?_
  refine wp_aload_n hW.1 0 dL_law_217 rfl rfl ?_
  refine wp_iload_n hW.1 3 dL_law_218 rfl rfl ?_
  refine wp_iconst hW.1 1 dL_law_219 (by decide) ?_
  refine wp_iadd hW.1 dL_law_220 ?_
  refine wp_eqi (nI_add (10 * k) 1) ?_
  refine wp_sld hW (j := 10 * k + 1) rfl (by omega) dL_law_221 ?_
  refine wp_aload_n hW.1 0 dL_law_222 rfl rfl ?_
  refine wp_iload_n hW.1 3 dL_law_223 rfl rfl ?_
  refine wp_iconst hW.1 2 dL_law_224 (by decide) ?_
  refine wp_iadd hW.1 dL_law_225 ?_
  refine wp_eqi (nI_add (10 * k) 2) ?_
  refine wp_sld hW (j := 10 * k + 2) rfl (by omega) dL_law_226 ?_
  refine wp_aload_n hW.1 0 dL_law_227 rfl rfl ?_
  refine wp_iload_n hW.1 3 dL_law_228 rfl rfl ?_
  refine wp_iconst hW.1 3 dL_law_229 (by decide) ?_
  refine wp_iadd hW.1 dL_law_230 ?_
  refine wp_eqi (nI_add (10 * k) 3) ?_
  refine wp_sld hW (j := 10 * k + 3) rfl (by omega) dL_law_231 ?_
  refine wp_i2l hW.1 dL_law_232 ?_
  refine wp_bipush hW.1 32 dL_law_233 (by decide) ?_
  refine wp_lshl hW.1 dL_law_235 ?_
  refine wp_aload_n hW.1 0 dL_law_236 rfl rfl ?_
  refine wp_iload_n hW.1 3 dL_law_237 rfl rfl ?_
  refine wp_iconst hW.1 4 dL_law_238 (by decide) ?_
  refine wp_iadd hW.1 dL_law_239 ?_
  refine wp_eqi (nI_add (10 * k) 4) ?_
  refine wp_sld hW (j := 10 * k + 4) rfl (by omega) dL_law_240 ?_
  refine wp_i2l hW.1 dL_law_241 ?_
  refine wp_ldc2 hW.1 4294967295 dL_law_242 (by decide +kernel) ?_
  refine wp_land hW.1 dL_law_245 ?_
  refine wp_lor hW.1 dL_law_246 ?_
  refine wp_callV hW.1 (As := [.int (xs (10 * k + 1)), .int (xs (10 * k + 2)), .long ((((xs (10 * k + 3)).toInt64) <<< ((32 : Int32).toInt64 &&& 63)) ||| (((xs (10 * k + 4)).toInt64) &&& 4294967295))]) (rest := []) dL_law_247 kL_law_25 (hL.1.1.ob 0 (by decide) rfl) (c_write _ hL.1 (xs (10 * k + 1)) (xs (10 * k + 2)) ((((xs (10 * k + 3)).toInt64) <<< ((32 : Int32).toInt64 &&& 63)) ||| (((xs (10 * k + 4)).toInt64) &&& 4294967295))) rfl (Nat.le_of_ble_eq_true rfl) (by decide) ⟨by show cells + 0 ≤ 600000; omega, by show slots + 0 ≤ 7302250; omega⟩ ?_
  rintro _ T1 I1 J1 R1 ⟨rfl, hF, hK1⟩
  have hM1 := hL.fr hF
  refine wp_widen (k := cells + 0) (n := slots + 0) (Nat.le_refl _) (Nat.le_refl _) ?_
  change WP E 4 (cells + 0) (slots + 0) T1 I1 J1 R1 250 [(0, .ref b), (1, .ref (ca 0)), (2, .ref m), (3, .int (nI (10 * k)))] [.int _]
  refine wp_aload_n hW.1 2 dL_law_250 rfl rfl ?_
  refine wp_aload_n hW.1 0 dL_law_251 rfl rfl ?_
  refine wp_iload_n hW.1 3 dL_law_252 rfl rfl ?_
  refine wp_iconst hW.1 1 dL_law_253 (by decide) ?_
  refine wp_iadd hW.1 dL_law_254 ?_
  refine wp_eqi (nI_add (10 * k) 1) ?_
  refine wp_sld hW (j := 10 * k + 1) rfl (by omega) dL_law_255 ?_
  refine wp_aload_n hW.1 0 dL_law_256 rfl rfl ?_
  refine wp_iload_n hW.1 3 dL_law_257 rfl rfl ?_
  refine wp_iconst hW.1 2 dL_law_258 (by decide) ?_
  refine wp_iadd hW.1 dL_law_259 ?_
  refine wp_eqi (nI_add (10 * k) 2) ?_
  refine wp_sld hW (j := 10 * k + 2) rfl (by omega) dL_law_260 ?_
  refine wp_aload_n hW.1 0 dL_law_261 rfl rfl ?_
  refine wp_iload_n hW.1 3 dL_law_262 rfl rfl ?_
  refine wp_iconst hW.1 3 dL_law_263 (by decide) ?_
  refine wp_iadd hW.1 dL_law_264 ?_
  refine wp_eqi (nI_add (10 * k) 3) ?_
  refine wp_sld hW (j := 10 * k + 3) rfl (by omega) dL_law_265 ?_
  refine wp_i2l hW.1 dL_law_266 ?_
  refine wp_bipush hW.1 32 dL_law_267 (by decide) ?_
  refine wp_lshl hW.1 dL_law_269 ?_
  refine wp_aload_n hW.1 0 dL_law_270 rfl rfl ?_
  refine wp_iload_n hW.1 3 dL_law_271 rfl rfl ?_
  refine wp_iconst hW.1 4 dL_law_272 (by decide) ?_
  refine wp_iadd hW.1 dL_law_273 ?_
  refine wp_eqi (nI_add (10 * k) 4) ?_
  refine wp_sld hW (j := 10 * k + 4) rfl (by omega) dL_law_274 ?_
  refine wp_i2l hW.1 dL_law_275 ?_
  refine wp_ldc2 hW.1 4294967295 dL_law_276 (by decide +kernel) ?_
  refine wp_land hW.1 dL_law_279 ?_
  refine wp_lor hW.1 dL_law_280 ?_
  refine wp_callV hW.1 (As := [.int (xs (10 * k + 1)), .int (xs (10 * k + 2)), .long ((((xs (10 * k + 3)).toInt64) <<< ((32 : Int32).toInt64 &&& 63)) ||| (((xs (10 * k + 4)).toInt64) &&& 4294967295))]) (rest := [.int _]) dL_law_281 kL_law_29 hM1.1.ob (m_write _ hM1.1 hM1.2.1 hL.1.okT (xs (10 * k + 1)) (xs (10 * k + 2)) ((((xs (10 * k + 3)).toInt64) <<< ((32 : Int32).toInt64 &&& 63)) ||| (((xs (10 * k + 4)).toInt64) &&& 4294967295))) rfl (Nat.le_of_ble_eq_true rfl) (by decide) ⟨by show cells + 0 + 0 ≤ 600000; omega, by show slots + 0 + 0 ≤ 7302250; omega⟩ ?_
  rintro _ _ I2 J2 _ ⟨rfl, rfl, rfl, hX⟩
  have hL2 := LI.z hK1 hM1 hX
  change WP E 4 (cells + 0 + 0) (slots + 0 + 0) T1 I2 J2 R1 284 [(0, .ref b), (1, .ref (ca 0)), (2, .ref m), (3, .int (nI (10 * k)))] [.int _, .int _]
  refine wp_icmp_eq hW.1 1377 dL_law_284 (by decide) (fun _ => ?_) (fun z => absurd rfl z)
  refine wp_widen (k := cells + 2) (n := slots + 18) (by omega) (by omega) ?_
  exact hn _ _ _ _ _ _ hL2
set_option maxRecDepth 100000 in
set_option maxHeartbeats 4000000 in
theorem law_3 {E : gEnv} {b L : Nat} {xs : Nat → Int32} (hW : LW E b L xs) {k cells slots : Nat} (hk : 10 * k + 10 ≤ L) (hc : cells + 2 ≤ 600000) (hs : slots + 18 ≤ 7302250) {T : gSh} {I : gI} {J : gJ} {R : gR} {ca : Nat → Nat} {m : Nat} {ad : Nat → Nat} {a : gI} {n : gJ} (hL : LI T I J R ca m ad a n) (hn : ∀ (T : gSh) (I : gI) (J : gJ) (R : gR) (a : gI) (n : gJ), LI T I J R ca m ad a n → WP E 4 (cells + 2) (slots + 18) T I J R 1377 [(0, .ref b), (1, .ref (ca 0)), (2, .ref m), (3, .int (nI (10 * k)))] []) : WP E 4 cells slots T I J R 289 [(0, .ref b), (1, .ref (ca 0)), (2, .ref m), (3, .int (nI (10 * k)))] [] := by
  refine wp_aload_n hW.1 1 dL_law_289 rfl rfl ?_
  refine wp_aload_n hW.1 0 dL_law_290 rfl rfl ?_
  refine wp_iload_n hW.1 3 dL_law_291 rfl rfl ?_
  refine wp_iconst hW.1 1 dL_law_292 (by decide) ?_
  refine wp_iadd hW.1 dL_law_293 ?_
  refine wp_eqi (nI_add (10 * k) 1) ?_
  refine wp_sld hW (j := 10 * k + 1) rfl (by omega) dL_law_294 ?_
  refine wp_aload_n hW.1 0 dL_law_295 rfl rfl ?_
  refine wp_iload_n hW.1 3 dL_law_296 rfl rfl ?_
  refine wp_iconst hW.1 2 dL_law_297 (by decide) ?_
  refine wp_iadd hW.1 dL_law_298 ?_
  refine wp_eqi (nI_add (10 * k) 2) ?_
  refine wp_sld hW (j := 10 * k + 2) rfl (by omega) dL_law_299 ?_
  refine wp_callV hW.1 (As := [.int (xs (10 * k + 1)), .int (xs (10 * k + 2))]) (rest := []) dL_law_300 kL_law_30 (hL.1.1.ob 0 (by decide) rfl) (c_read _ hL.1 (xs (10 * k + 1)) (xs (10 * k + 2))) rfl (Nat.le_of_ble_eq_true rfl) (by decide) ⟨by show cells + 0 ≤ 600000; omega, by show slots + 0 ≤ 7302250; omega⟩ ?_
  rintro _ T1 I1 J1 R1 ⟨rfl, hF, hK1⟩
  have hM1 := hL.fr hF
  refine wp_widen (k := cells + 0) (n := slots + 0) (Nat.le_refl _) (Nat.le_refl _) ?_
  change WP E 4 (cells + 0) (slots + 0) T1 I1 J1 R1 303 [(0, .ref b), (1, .ref (ca 0)), (2, .ref m), (3, .int (nI (10 * k)))] [.long _]
  refine wp_aload_n hW.1 2 dL_law_303 rfl rfl ?_
  refine wp_aload_n hW.1 0 dL_law_304 rfl rfl ?_
  refine wp_iload_n hW.1 3 dL_law_305 rfl rfl ?_
  refine wp_iconst hW.1 1 dL_law_306 (by decide) ?_
  refine wp_iadd hW.1 dL_law_307 ?_
  refine wp_eqi (nI_add (10 * k) 1) ?_
  refine wp_sld hW (j := 10 * k + 1) rfl (by omega) dL_law_308 ?_
  refine wp_aload_n hW.1 0 dL_law_309 rfl rfl ?_
  refine wp_iload_n hW.1 3 dL_law_310 rfl rfl ?_
  refine wp_iconst hW.1 2 dL_law_311 (by decide) ?_
  refine wp_iadd hW.1 dL_law_312 ?_
  refine wp_eqi (nI_add (10 * k) 2) ?_
  refine wp_sld hW (j := 10 * k + 2) rfl (by omega) dL_law_313 ?_
  refine wp_callV hW.1 (As := [.int (xs (10 * k + 1)), .int (xs (10 * k + 2))]) (rest := [.long _]) dL_law_314 kL_law_34 hM1.1.ob (m_read _ hM1.1 hM1.2.1 hL.1.okT (xs (10 * k + 1)) (xs (10 * k + 2))) rfl (Nat.le_of_ble_eq_true rfl) (by decide) ⟨by show cells + 0 + 0 ≤ 600000; omega, by show slots + 0 + 0 ≤ 7302250; omega⟩ ?_
  rintro _ _ I2 J2 _ ⟨rfl, rfl, rfl, hX⟩
  have hL2 := LI.z hK1 hM1 hX
  change WP E 4 (cells + 0 + 0) (slots + 0 + 0) T1 I2 J2 R1 317 [(0, .ref b), (1, .ref (ca 0)), (2, .ref m), (3, .int (nI (10 * k)))] [.long _, .long _]
  refine wp_lcmp hW.1 dL_law_317 ?_
  refine wp_if_eq hW.1 1377 dL_law_318 (by decide) (fun _ => ?_) (fun z => absurd (lc_self _) z)
  refine wp_widen (k := cells + 2) (n := slots + 18) (by omega) (by omega) ?_
  exact hn _ _ _ _ _ _ hL2
set_option maxRecDepth 100000 in
set_option maxHeartbeats 4000000 in
theorem law_4 {E : gEnv} {b L : Nat} {xs : Nat → Int32} (hW : LW E b L xs) {k cells slots : Nat} (hk : 10 * k + 10 ≤ L) (hc : cells + 2 ≤ 600000) (hs : slots + 18 ≤ 7302250) {T : gSh} {I : gI} {J : gJ} {R : gR} {ca : Nat → Nat} {m : Nat} {ad : Nat → Nat} {a : gI} {n : gJ} (hL : LI T I J R ca m ad a n) (hn : ∀ (T : gSh) (I : gI) (J : gJ) (R : gR) (a : gI) (n : gJ), LI T I J R ca m ad a n → WP E 4 (cells + 2) (slots + 18) T I J R 1377 [(0, .ref b), (1, .ref (ca 0)), (2, .ref m), (3, .int (nI (10 * k)))] []) : WP E 4 cells slots T I J R 323 [(0, .ref b), (1, .ref (ca 0)), (2, .ref m), (3, .int (nI (10 * k)))] [] := by
  refine wp_aload_n hW.1 1 dL_law_323 rfl rfl ?_
  refine wp_aload_n hW.1 0 dL_law_324 rfl rfl ?_
  refine wp_iload_n hW.1 3 dL_law_325 rfl rfl ?_
  refine wp_iconst hW.1 1 dL_law_326 (by decide) ?_
  refine wp_iadd hW.1 dL_law_327 ?_
  refine wp_eqi (nI_add (10 * k) 1) ?_
  refine wp_sld hW (j := 10 * k + 1) rfl (by omega) dL_law_328 ?_
  refine wp_aload_n hW.1 0 dL_law_329 rfl rfl ?_
  refine wp_iload_n hW.1 3 dL_law_330 rfl rfl ?_
  refine wp_iconst hW.1 2 dL_law_331 (by decide) ?_
  refine wp_iadd hW.1 dL_law_332 ?_
  refine wp_eqi (nI_add (10 * k) 2) ?_
  refine wp_sld hW (j := 10 * k + 2) rfl (by omega) dL_law_333 ?_
  refine wp_aload_n hW.1 0 dL_law_334 rfl rfl ?_
  refine wp_iload_n hW.1 3 dL_law_335 rfl rfl ?_
  refine wp_iconst hW.1 3 dL_law_336 (by decide) ?_
  refine wp_iadd hW.1 dL_law_337 ?_
  refine wp_eqi (nI_add (10 * k) 3) ?_
  refine wp_sld hW (j := 10 * k + 3) rfl (by omega) dL_law_338 ?_
  refine wp_aload_n hW.1 0 dL_law_339 rfl rfl ?_
  refine wp_iload_n hW.1 3 dL_law_340 rfl rfl ?_
  refine wp_iconst hW.1 4 dL_law_341 (by decide) ?_
  refine wp_iadd hW.1 dL_law_342 ?_
  refine wp_eqi (nI_add (10 * k) 4) ?_
  refine wp_sld hW (j := 10 * k + 4) rfl (by omega) dL_law_343 ?_
  refine wp_aload_n hW.1 0 dL_law_344 rfl rfl ?_
  refine wp_iload_n hW.1 3 dL_law_345 rfl rfl ?_
  refine wp_iconst hW.1 5 dL_law_346 (by decide) ?_
  refine wp_iadd hW.1 dL_law_347 ?_
  refine wp_eqi (nI_add (10 * k) 5) ?_
  refine wp_sld hW (j := 10 * k + 5) rfl (by omega) dL_law_348 ?_
  refine wp_callV hW.1 (As := [.int (xs (10 * k + 1)), .int (xs (10 * k + 2)), .int (xs (10 * k + 3)), .int (xs (10 * k + 4)), .int (xs (10 * k + 5))]) (rest := []) dL_law_349 kL_law_35 (hL.1.1.ob 0 (by decide) rfl) (c_pour _ hL.1 (xs (10 * k + 1)) (xs (10 * k + 2)) (xs (10 * k + 3)) (xs (10 * k + 4)) (xs (10 * k + 5))) rfl (Nat.le_of_ble_eq_true rfl) (by decide) ⟨by show cells + 0 ≤ 600000; omega, by show slots + 0 ≤ 7302250; omega⟩ ?_
  rintro _ T1 I1 J1 R1 ⟨rfl, hF, hK1⟩
  have hM1 := hL.fr hF
  refine wp_widen (k := cells + 0) (n := slots + 0) (Nat.le_refl _) (Nat.le_refl _) ?_
  change WP E 4 (cells + 0) (slots + 0) T1 I1 J1 R1 352 [(0, .ref b), (1, .ref (ca 0)), (2, .ref m), (3, .int (nI (10 * k)))] [.int _]
  refine wp_aload_n hW.1 2 dL_law_352 rfl rfl ?_
  refine wp_aload_n hW.1 0 dL_law_353 rfl rfl ?_
  refine wp_iload_n hW.1 3 dL_law_354 rfl rfl ?_
  refine wp_iconst hW.1 1 dL_law_355 (by decide) ?_
  refine wp_iadd hW.1 dL_law_356 ?_
  refine wp_eqi (nI_add (10 * k) 1) ?_
  refine wp_sld hW (j := 10 * k + 1) rfl (by omega) dL_law_357 ?_
  refine wp_aload_n hW.1 0 dL_law_358 rfl rfl ?_
  refine wp_iload_n hW.1 3 dL_law_359 rfl rfl ?_
  refine wp_iconst hW.1 2 dL_law_360 (by decide) ?_
  refine wp_iadd hW.1 dL_law_361 ?_
  refine wp_eqi (nI_add (10 * k) 2) ?_
  refine wp_sld hW (j := 10 * k + 2) rfl (by omega) dL_law_362 ?_
  refine wp_aload_n hW.1 0 dL_law_363 rfl rfl ?_
  refine wp_iload_n hW.1 3 dL_law_364 rfl rfl ?_
  refine wp_iconst hW.1 3 dL_law_365 (by decide) ?_
  refine wp_iadd hW.1 dL_law_366 ?_
  refine wp_eqi (nI_add (10 * k) 3) ?_
  refine wp_sld hW (j := 10 * k + 3) rfl (by omega) dL_law_367 ?_
  refine wp_aload_n hW.1 0 dL_law_368 rfl rfl ?_
  refine wp_iload_n hW.1 3 dL_law_369 rfl rfl ?_
  refine wp_iconst hW.1 4 dL_law_370 (by decide) ?_
  refine wp_iadd hW.1 dL_law_371 ?_
  refine wp_eqi (nI_add (10 * k) 4) ?_
  refine wp_sld hW (j := 10 * k + 4) rfl (by omega) dL_law_372 ?_
  refine wp_aload_n hW.1 0 dL_law_373 rfl rfl ?_
  refine wp_iload_n hW.1 3 dL_law_374 rfl rfl ?_
  refine wp_iconst hW.1 5 dL_law_375 (by decide) ?_
  refine wp_iadd hW.1 dL_law_376 ?_
  refine wp_eqi (nI_add (10 * k) 5) ?_
  refine wp_sld hW (j := 10 * k + 5) rfl (by omega) dL_law_377 ?_
  refine wp_callV hW.1 (As := [.int (xs (10 * k + 1)), .int (xs (10 * k + 2)), .int (xs (10 * k + 3)), .int (xs (10 * k + 4)), .int (xs (10 * k + 5))]) (rest := [.int _]) dL_law_378 kL_law_39 hM1.1.ob (m_pour _ hM1.1 hM1.2.1 hL.1.okT (xs (10 * k + 1)) (xs (10 * k + 2)) (xs (10 * k + 3)) (xs (10 * k + 4)) (xs (10 * k + 5))) rfl (Nat.le_of_ble_eq_true rfl) (by decide) ⟨by show cells + 0 + 0 ≤ 600000; omega, by show slots + 0 + 0 ≤ 7302250; omega⟩ ?_
  rintro _ _ I2 J2 _ ⟨rfl, rfl, rfl, hX⟩
  have hL2 := LI.z hK1 hM1 hX
  change WP E 4 (cells + 0 + 0) (slots + 0 + 0) T1 I2 J2 R1 381 [(0, .ref b), (1, .ref (ca 0)), (2, .ref m), (3, .int (nI (10 * k)))] [.int _, .int _]
  refine wp_icmp_eq hW.1 1377 dL_law_381 (by decide) (fun _ => ?_) (fun z => absurd rfl z)
  refine wp_widen (k := cells + 2) (n := slots + 18) (by omega) (by omega) ?_
  exact hn _ _ _ _ _ _ hL2
set_option maxRecDepth 100000 in
set_option maxHeartbeats 4000000 in
theorem law_5 {E : gEnv} {b L : Nat} {xs : Nat → Int32} (hW : LW E b L xs) {k cells slots : Nat} (hk : 10 * k + 10 ≤ L) (hc : cells + 2 ≤ 600000) (hs : slots + 18 ≤ 7302250) {T : gSh} {I : gI} {J : gJ} {R : gR} {ca : Nat → Nat} {m : Nat} {ad : Nat → Nat} {a : gI} {n : gJ} (hL : LI T I J R ca m ad a n) (hn : ∀ (T : gSh) (I : gI) (J : gJ) (R : gR) (a : gI) (n : gJ), LI T I J R ca m ad a n → WP E 4 (cells + 2) (slots + 18) T I J R 1377 [(0, .ref b), (1, .ref (ca 0)), (2, .ref m), (3, .int (nI (10 * k)))] []) : WP E 4 cells slots T I J R 386 [(0, .ref b), (1, .ref (ca 0)), (2, .ref m), (3, .int (nI (10 * k)))] [] := by
  refine wp_aload_n hW.1 1 dL_law_386 rfl rfl ?_
  refine wp_callV hW.1 (As := []) (rest := []) dL_law_387 kL_law_40 (hL.1.1.ob 0 (by decide) rfl) (c_agent _ hL.1 ) rfl (Nat.le_of_ble_eq_true rfl) (by decide) ⟨by show cells + 0 ≤ 600000; omega, by show slots + 0 ≤ 7302250; omega⟩ ?_
  rintro _ T1 I1 J1 R1 ⟨rfl, hF, hK1⟩
  have hM1 := hL.fr hF
  refine wp_widen (k := cells + 0) (n := slots + 0) (Nat.le_refl _) (Nat.le_refl _) ?_
  change WP E 4 (cells + 0) (slots + 0) T1 I1 J1 R1 390 [(0, .ref b), (1, .ref (ca 0)), (2, .ref m), (3, .int (nI (10 * k)))] [.int _]
  refine wp_aload_n hW.1 2 dL_law_390 rfl rfl ?_
  refine wp_callV hW.1 (As := []) (rest := [.int _]) dL_law_391 kL_law_43 hM1.1.ob (m_agent _ hM1.1 hM1.2.1 hL.1.okN ) rfl (Nat.le_of_ble_eq_true rfl) (by decide) ⟨by show cells + 0 + 0 ≤ 600000; omega, by show slots + 0 + 0 ≤ 7302250; omega⟩ ?_
  rintro _ _ I2 J2 _ ⟨rfl, rfl, rfl, hX⟩
  have hL2 := LI.z hK1 hM1 hX
  change WP E 4 (cells + 0 + 0) (slots + 0 + 0) T1 I2 J2 R1 394 [(0, .ref b), (1, .ref (ca 0)), (2, .ref m), (3, .int (nI (10 * k)))] [.int _, .int _]
  refine wp_icmp_eq hW.1 1377 dL_law_394 (by decide) (fun _ => ?_) (fun z => absurd rfl z)
  refine wp_widen (k := cells + 2) (n := slots + 18) (by omega) (by omega) ?_
  exact hn _ _ _ _ _ _ hL2
set_option maxRecDepth 100000 in
set_option maxHeartbeats 4000000 in
theorem law_6 {E : gEnv} {b L : Nat} {xs : Nat → Int32} (hW : LW E b L xs) {k cells slots : Nat} (hk : 10 * k + 10 ≤ L) (hc : cells + 2 ≤ 600000) (hs : slots + 18 ≤ 7302250) {T : gSh} {I : gI} {J : gJ} {R : gR} {ca : Nat → Nat} {m : Nat} {ad : Nat → Nat} {a : gI} {n : gJ} (hL : LI T I J R ca m ad a n) (hn : ∀ (T : gSh) (I : gI) (J : gJ) (R : gR) (a : gI) (n : gJ), LI T I J R ca m ad a n → WP E 4 (cells + 2) (slots + 18) T I J R 1377 [(0, .ref b), (1, .ref (ca 0)), (2, .ref m), (3, .int (nI (10 * k)))] []) : WP E 4 cells slots T I J R 399 [(0, .ref b), (1, .ref (ca 0)), (2, .ref m), (3, .int (nI (10 * k)))] [] := by
  refine wp_aload_n hW.1 1 dL_law_399 rfl rfl ?_
  refine wp_callV hW.1 (As := []) (rest := []) dL_law_400 kL_law_44 (hL.1.1.ob 0 (by decide) rfl) (c_editor _ hL.1 ) rfl (Nat.le_of_ble_eq_true rfl) (by decide) ⟨by show cells + 0 ≤ 600000; omega, by show slots + 0 ≤ 7302250; omega⟩ ?_
  rintro _ T1 I1 J1 R1 ⟨rfl, hF, hK1⟩
  have hM1 := hL.fr hF
  refine wp_widen (k := cells + 0) (n := slots + 0) (Nat.le_refl _) (Nat.le_refl _) ?_
  change WP E 4 (cells + 0) (slots + 0) T1 I1 J1 R1 403 [(0, .ref b), (1, .ref (ca 0)), (2, .ref m), (3, .int (nI (10 * k)))] [.int _]
  refine wp_aload_n hW.1 2 dL_law_403 rfl rfl ?_
  refine wp_callV hW.1 (As := []) (rest := [.int _]) dL_law_404 kL_law_47 hM1.1.ob (m_editor _ hM1.1 hM1.2.1 hL.1.okN ) rfl (Nat.le_of_ble_eq_true rfl) (by decide) ⟨by show cells + 0 + 0 ≤ 600000; omega, by show slots + 0 + 0 ≤ 7302250; omega⟩ ?_
  rintro _ _ I2 J2 _ ⟨rfl, rfl, rfl, hX⟩
  have hL2 := LI.z hK1 hM1 hX
  change WP E 4 (cells + 0 + 0) (slots + 0 + 0) T1 I2 J2 R1 407 [(0, .ref b), (1, .ref (ca 0)), (2, .ref m), (3, .int (nI (10 * k)))] [.int _, .int _]
  refine wp_icmp_eq hW.1 1377 dL_law_407 (by decide) (fun _ => ?_) (fun z => absurd rfl z)
  refine wp_widen (k := cells + 2) (n := slots + 18) (by omega) (by omega) ?_
  exact hn _ _ _ _ _ _ hL2
set_option maxRecDepth 100000 in
set_option maxHeartbeats 4000000 in
theorem law_7 {E : gEnv} {b L : Nat} {xs : Nat → Int32} (hW : LW E b L xs) {k cells slots : Nat} (hk : 10 * k + 10 ≤ L) (hc : cells + 2 ≤ 600000) (hs : slots + 18 ≤ 7302250) {T : gSh} {I : gI} {J : gJ} {R : gR} {ca : Nat → Nat} {m : Nat} {ad : Nat → Nat} {a : gI} {n : gJ} (hL : LI T I J R ca m ad a n) (hn : ∀ (T : gSh) (I : gI) (J : gJ) (R : gR) (a : gI) (n : gJ), LI T I J R ca m ad a n → WP E 4 (cells + 2) (slots + 18) T I J R 1377 [(0, .ref b), (1, .ref (ca 0)), (2, .ref m), (3, .int (nI (10 * k)))] []) : WP E 4 cells slots T I J R 412 [(0, .ref b), (1, .ref (ca 0)), (2, .ref m), (3, .int (nI (10 * k)))] [] := by
  refine wp_aload_n hW.1 1 dL_law_412 rfl rfl ?_
  refine wp_aload_n hW.1 0 dL_law_413 rfl rfl ?_
  refine wp_iload_n hW.1 3 dL_law_414 rfl rfl ?_
  refine wp_iconst hW.1 1 dL_law_415 (by decide) ?_
  refine wp_iadd hW.1 dL_law_416 ?_
  refine wp_eqi (nI_add (10 * k) 1) ?_
  refine wp_sld hW (j := 10 * k + 1) rfl (by omega) dL_law_417 ?_
  refine wp_callV hW.1 (As := [.int (xs (10 * k + 1))]) (rest := []) dL_law_418 kL_law_48 (hL.1.1.ob 0 (by decide) rfl) (c_hours _ hL.1 (xs (10 * k + 1))) rfl (Nat.le_of_ble_eq_true rfl) (by decide) ⟨by show cells + 0 ≤ 600000; omega, by show slots + 0 ≤ 7302250; omega⟩ ?_
  rintro _ T1 I1 J1 R1 ⟨rfl, hF, hK1⟩
  have hM1 := hL.fr hF
  refine wp_widen (k := cells + 0) (n := slots + 0) (Nat.le_refl _) (Nat.le_refl _) ?_
  change WP E 4 (cells + 0) (slots + 0) T1 I1 J1 R1 421 [(0, .ref b), (1, .ref (ca 0)), (2, .ref m), (3, .int (nI (10 * k)))] [.int _]
  refine wp_aload_n hW.1 2 dL_law_421 rfl rfl ?_
  refine wp_aload_n hW.1 0 dL_law_422 rfl rfl ?_
  refine wp_iload_n hW.1 3 dL_law_423 rfl rfl ?_
  refine wp_iconst hW.1 1 dL_law_424 (by decide) ?_
  refine wp_iadd hW.1 dL_law_425 ?_
  refine wp_eqi (nI_add (10 * k) 1) ?_
  refine wp_sld hW (j := 10 * k + 1) rfl (by omega) dL_law_426 ?_
  refine wp_callV hW.1 (As := [.int (xs (10 * k + 1))]) (rest := [.int _]) dL_law_427 kL_law_52 hM1.1.ob (m_hours _ hM1.1 hM1.2.1  (xs (10 * k + 1))) rfl (Nat.le_of_ble_eq_true rfl) (by decide) ⟨by show cells + 0 + 0 ≤ 600000; omega, by show slots + 0 + 0 ≤ 7302250; omega⟩ ?_
  rintro _ _ I2 J2 _ ⟨rfl, rfl, rfl, hX⟩
  have hL2 := LI.z hK1 hM1 hX
  change WP E 4 (cells + 0 + 0) (slots + 0 + 0) T1 I2 J2 R1 430 [(0, .ref b), (1, .ref (ca 0)), (2, .ref m), (3, .int (nI (10 * k)))] [.int _, .int _]
  refine wp_icmp_eq hW.1 1377 dL_law_430 (by decide) (fun _ => ?_) (fun z => absurd rfl z)
  refine wp_widen (k := cells + 2) (n := slots + 18) (by omega) (by omega) ?_
  exact hn _ _ _ _ _ _ hL2
set_option maxRecDepth 100000 in
set_option maxHeartbeats 4000000 in
theorem law_8 {E : gEnv} {b L : Nat} {xs : Nat → Int32} (hW : LW E b L xs) {k cells slots : Nat} (hk : 10 * k + 10 ≤ L) (hc : cells + 2 ≤ 600000) (hs : slots + 18 ≤ 7302250) {T : gSh} {I : gI} {J : gJ} {R : gR} {ca : Nat → Nat} {m : Nat} {ad : Nat → Nat} {a : gI} {n : gJ} (hL : LI T I J R ca m ad a n) (hn : ∀ (T : gSh) (I : gI) (J : gJ) (R : gR) (a : gI) (n : gJ), LI T I J R ca m ad a n → WP E 4 (cells + 2) (slots + 18) T I J R 1377 [(0, .ref b), (1, .ref (ca 0)), (2, .ref m), (3, .int (nI (10 * k)))] []) : WP E 4 cells slots T I J R 435 [(0, .ref b), (1, .ref (ca 0)), (2, .ref m), (3, .int (nI (10 * k)))] [] := by
  refine wp_aload_n hW.1 1 dL_law_435 rfl rfl ?_
  refine wp_aload_n hW.1 0 dL_law_436 rfl rfl ?_
  refine wp_iload_n hW.1 3 dL_law_437 rfl rfl ?_
  refine wp_iconst hW.1 1 dL_law_438 (by decide) ?_
  refine wp_iadd hW.1 dL_law_439 ?_
  refine wp_eqi (nI_add (10 * k) 1) ?_
  refine wp_sld hW (j := 10 * k + 1) rfl (by omega) dL_law_440 ?_
  refine wp_aload_n hW.1 0 dL_law_441 rfl rfl ?_
  refine wp_iload_n hW.1 3 dL_law_442 rfl rfl ?_
  refine wp_iconst hW.1 2 dL_law_443 (by decide) ?_
  refine wp_iadd hW.1 dL_law_444 ?_
  refine wp_eqi (nI_add (10 * k) 2) ?_
  refine wp_sld hW (j := 10 * k + 2) rfl (by omega) dL_law_445 ?_
  refine wp_aload_n hW.1 0 dL_law_446 rfl rfl ?_
  refine wp_iload_n hW.1 3 dL_law_447 rfl rfl ?_
  refine wp_iconst hW.1 3 dL_law_448 (by decide) ?_
  refine wp_iadd hW.1 dL_law_449 ?_
  refine wp_eqi (nI_add (10 * k) 3) ?_
  refine wp_sld hW (j := 10 * k + 3) rfl (by omega) dL_law_450 ?_
  refine wp_callV hW.1 (As := [.int (xs (10 * k + 1)), .int (xs (10 * k + 2)), .int (xs (10 * k + 3))]) (rest := []) dL_law_451 kL_law_53 (hL.1.1.ob 0 (by decide) rfl) (c_worth _ hL.1 (xs (10 * k + 1)) (xs (10 * k + 2)) (xs (10 * k + 3))) rfl (Nat.le_of_ble_eq_true rfl) (by decide) ⟨by show cells + 0 ≤ 600000; omega, by show slots + 0 ≤ 7302250; omega⟩ ?_
  rintro _ T1 I1 J1 R1 ⟨rfl, hF, hK1⟩
  have hM1 := hL.fr hF
  refine wp_widen (k := cells + 0) (n := slots + 0) (Nat.le_refl _) (Nat.le_refl _) ?_
  change WP E 4 (cells + 0) (slots + 0) T1 I1 J1 R1 454 [(0, .ref b), (1, .ref (ca 0)), (2, .ref m), (3, .int (nI (10 * k)))] [.int _]
  refine wp_aload_n hW.1 2 dL_law_454 rfl rfl ?_
  refine wp_aload_n hW.1 0 dL_law_455 rfl rfl ?_
  refine wp_iload_n hW.1 3 dL_law_456 rfl rfl ?_
  refine wp_iconst hW.1 1 dL_law_457 (by decide) ?_
  refine wp_iadd hW.1 dL_law_458 ?_
  refine wp_eqi (nI_add (10 * k) 1) ?_
  refine wp_sld hW (j := 10 * k + 1) rfl (by omega) dL_law_459 ?_
  refine wp_aload_n hW.1 0 dL_law_460 rfl rfl ?_
  refine wp_iload_n hW.1 3 dL_law_461 rfl rfl ?_
  refine wp_iconst hW.1 2 dL_law_462 (by decide) ?_
  refine wp_iadd hW.1 dL_law_463 ?_
  refine wp_eqi (nI_add (10 * k) 2) ?_
  refine wp_sld hW (j := 10 * k + 2) rfl (by omega) dL_law_464 ?_
  refine wp_aload_n hW.1 0 dL_law_465 rfl rfl ?_
  refine wp_iload_n hW.1 3 dL_law_466 rfl rfl ?_
  refine wp_iconst hW.1 3 dL_law_467 (by decide) ?_
  refine wp_iadd hW.1 dL_law_468 ?_
  refine wp_eqi (nI_add (10 * k) 3) ?_
  refine wp_sld hW (j := 10 * k + 3) rfl (by omega) dL_law_469 ?_
  refine wp_callV hW.1 (As := [.int (xs (10 * k + 1)), .int (xs (10 * k + 2)), .int (xs (10 * k + 3))]) (rest := [.int _]) dL_law_470 kL_law_56 hM1.1.ob (m_worth _ hM1.1 hM1.2.1 hL.1.okN (xs (10 * k + 1)) (xs (10 * k + 2)) (xs (10 * k + 3))) rfl (Nat.le_of_ble_eq_true rfl) (by decide) ⟨by show cells + 0 + 0 ≤ 600000; omega, by show slots + 0 + 0 ≤ 7302250; omega⟩ ?_
  rintro _ _ I2 J2 _ ⟨rfl, rfl, rfl, hX⟩
  have hL2 := LI.z hK1 hM1 hX
  change WP E 4 (cells + 0 + 0) (slots + 0 + 0) T1 I2 J2 R1 473 [(0, .ref b), (1, .ref (ca 0)), (2, .ref m), (3, .int (nI (10 * k)))] [.int _, .int _]
  refine wp_icmp_eq hW.1 1377 dL_law_473 (by decide) (fun _ => ?_) (fun z => absurd rfl z)
  refine wp_widen (k := cells + 2) (n := slots + 18) (by omega) (by omega) ?_
  exact hn _ _ _ _ _ _ hL2
set_option maxRecDepth 100000 in
set_option maxHeartbeats 4000000 in
theorem law_9 {E : gEnv} {b L : Nat} {xs : Nat → Int32} (hW : LW E b L xs) {k cells slots : Nat} (hk : 10 * k + 10 ≤ L) (hc : cells + 2 ≤ 600000) (hs : slots + 18 ≤ 7302250) {T : gSh} {I : gI} {J : gJ} {R : gR} {ca : Nat → Nat} {m : Nat} {ad : Nat → Nat} {a : gI} {n : gJ} (hL : LI T I J R ca m ad a n) (hn : ∀ (T : gSh) (I : gI) (J : gJ) (R : gR) (a : gI) (n : gJ), LI T I J R ca m ad a n → WP E 4 (cells + 2) (slots + 18) T I J R 1377 [(0, .ref b), (1, .ref (ca 0)), (2, .ref m), (3, .int (nI (10 * k)))] []) : WP E 4 cells slots T I J R 478 [(0, .ref b), (1, .ref (ca 0)), (2, .ref m), (3, .int (nI (10 * k)))] [] := by
  refine wp_aload_n hW.1 1 dL_law_478 rfl rfl ?_
  refine wp_callV hW.1 (As := []) (rest := []) dL_law_479 kL_law_57 (hL.1.1.ob 0 (by decide) rfl) (c_best _ hL.1 ) rfl (Nat.le_of_ble_eq_true rfl) (by decide) ⟨by show cells + 0 ≤ 600000; omega, by show slots + 0 ≤ 7302250; omega⟩ ?_
  rintro _ T1 I1 J1 R1 ⟨rfl, hF, hK1⟩
  have hM1 := hL.fr hF
  refine wp_widen (k := cells + 0) (n := slots + 0) (Nat.le_refl _) (Nat.le_refl _) ?_
  change WP E 4 (cells + 0) (slots + 0) T1 I1 J1 R1 482 [(0, .ref b), (1, .ref (ca 0)), (2, .ref m), (3, .int (nI (10 * k)))] [.int _]
  refine wp_aload_n hW.1 2 dL_law_482 rfl rfl ?_
  obtain ⟨A0, B0, h0, w0, okw, -⟩ := hL.1.2.2.2.2.1.okW
  refine wp_callV hW.1 (As := []) (rest := [.int _]) dL_law_483 kL_law_60 hM1.1.ob (m_best _ hM1.1 hM1.2.1 okw ) rfl (Nat.le_of_ble_eq_true rfl) (by decide) ⟨by show cells + 0 + 0 ≤ 600000; omega, by show slots + 0 + 0 ≤ 7302250; omega⟩ ?_
  rintro _ _ I2 J2 _ ⟨rfl, rfl, rfl, hX⟩
  have hL2 := LI.z hK1 hM1 hX
  change WP E 4 (cells + 0 + 0) (slots + 0 + 0) T1 I2 J2 R1 486 [(0, .ref b), (1, .ref (ca 0)), (2, .ref m), (3, .int (nI (10 * k)))] [.int _, .int _]
  refine wp_icmp_eq hW.1 1377 dL_law_486 (by decide) (fun _ => ?_) (fun z => absurd rfl z)
  refine wp_widen (k := cells + 2) (n := slots + 18) (by omega) (by omega) ?_
  exact hn _ _ _ _ _ _ hL2
set_option maxRecDepth 100000 in
set_option maxHeartbeats 4000000 in
theorem law_10 {E : gEnv} {b L : Nat} {xs : Nat → Int32} (hW : LW E b L xs) {k cells slots : Nat} (hk : 10 * k + 10 ≤ L) (hc : cells + 2 ≤ 600000) (hs : slots + 18 ≤ 7302250) {T : gSh} {I : gI} {J : gJ} {R : gR} {ca : Nat → Nat} {m : Nat} {ad : Nat → Nat} {a : gI} {n : gJ} (hL : LI T I J R ca m ad a n) (hn : ∀ (T : gSh) (I : gI) (J : gJ) (R : gR) (a : gI) (n : gJ), LI T I J R ca m ad a n → WP E 4 (cells + 2) (slots + 18) T I J R 1377 [(0, .ref b), (1, .ref (ca 0)), (2, .ref m), (3, .int (nI (10 * k)))] []) : WP E 4 cells slots T I J R 491 [(0, .ref b), (1, .ref (ca 0)), (2, .ref m), (3, .int (nI (10 * k)))] [] := by
  refine wp_aload_n hW.1 1 dL_law_491 rfl rfl ?_
  refine wp_aload_n hW.1 0 dL_law_492 rfl rfl ?_
  refine wp_iload_n hW.1 3 dL_law_493 rfl rfl ?_
  refine wp_iconst hW.1 1 dL_law_494 (by decide) ?_
  refine wp_iadd hW.1 dL_law_495 ?_
  refine wp_eqi (nI_add (10 * k) 1) ?_
  refine wp_sld hW (j := 10 * k + 1) rfl (by omega) dL_law_496 ?_
  refine wp_aload_n hW.1 0 dL_law_497 rfl rfl ?_
  refine wp_iload_n hW.1 3 dL_law_498 rfl rfl ?_
  refine wp_iconst hW.1 2 dL_law_499 (by decide) ?_
  refine wp_iadd hW.1 dL_law_500 ?_
  refine wp_eqi (nI_add (10 * k) 2) ?_
  refine wp_sld hW (j := 10 * k + 2) rfl (by omega) dL_law_501 ?_
  refine wp_callV hW.1 (As := [.int (xs (10 * k + 1)), .int (xs (10 * k + 2))]) (rest := []) dL_law_502 kL_law_61 (hL.1.1.ob 0 (by decide) rfl) (c_meets _ hL.1 (xs (10 * k + 1)) (xs (10 * k + 2))) rfl (Nat.le_of_ble_eq_true rfl) (by decide) ⟨by show cells + 0 ≤ 600000; omega, by show slots + 0 ≤ 7302250; omega⟩ ?_
  rintro _ T1 I1 J1 R1 ⟨rfl, hF, hK1⟩
  have hM1 := hL.fr hF
  refine wp_widen (k := cells + 0) (n := slots + 0) (Nat.le_refl _) (Nat.le_refl _) ?_
  change WP E 4 (cells + 0) (slots + 0) T1 I1 J1 R1 505 [(0, .ref b), (1, .ref (ca 0)), (2, .ref m), (3, .int (nI (10 * k)))] [.int _]
  refine wp_aload_n hW.1 2 dL_law_505 rfl rfl ?_
  refine wp_aload_n hW.1 0 dL_law_506 rfl rfl ?_
  refine wp_iload_n hW.1 3 dL_law_507 rfl rfl ?_
  refine wp_iconst hW.1 1 dL_law_508 (by decide) ?_
  refine wp_iadd hW.1 dL_law_509 ?_
  refine wp_eqi (nI_add (10 * k) 1) ?_
  refine wp_sld hW (j := 10 * k + 1) rfl (by omega) dL_law_510 ?_
  refine wp_aload_n hW.1 0 dL_law_511 rfl rfl ?_
  refine wp_iload_n hW.1 3 dL_law_512 rfl rfl ?_
  refine wp_iconst hW.1 2 dL_law_513 (by decide) ?_
  refine wp_iadd hW.1 dL_law_514 ?_
  refine wp_eqi (nI_add (10 * k) 2) ?_
  refine wp_sld hW (j := 10 * k + 2) rfl (by omega) dL_law_515 ?_
  obtain ⟨A0, B0, h0, w0, okw, -⟩ := hL.1.2.2.2.2.1.okW
  refine wp_callV hW.1 (As := [.int (xs (10 * k + 1)), .int (xs (10 * k + 2))]) (rest := [.int _]) dL_law_516 kL_law_65 hM1.1.ob (m_meets _ hM1.1 hM1.2.1 okw (xs (10 * k + 1)) (xs (10 * k + 2))) rfl (Nat.le_of_ble_eq_true rfl) (by decide) ⟨by show cells + 0 + 0 ≤ 600000; omega, by show slots + 0 + 0 ≤ 7302250; omega⟩ ?_
  rintro _ _ I2 J2 _ ⟨rfl, rfl, rfl, hX⟩
  have hL2 := LI.z hK1 hM1 hX
  change WP E 4 (cells + 0 + 0) (slots + 0 + 0) T1 I2 J2 R1 519 [(0, .ref b), (1, .ref (ca 0)), (2, .ref m), (3, .int (nI (10 * k)))] [.int _, .int _]
  refine wp_icmp_eq hW.1 1377 dL_law_519 (by decide) (fun _ => ?_) (fun z => absurd rfl z)
  refine wp_widen (k := cells + 2) (n := slots + 18) (by omega) (by omega) ?_
  exact hn _ _ _ _ _ _ hL2
set_option maxRecDepth 100000 in
set_option maxHeartbeats 4000000 in
theorem law_11 {E : gEnv} {b L : Nat} {xs : Nat → Int32} (hW : LW E b L xs) {k cells slots : Nat} (hk : 10 * k + 10 ≤ L) (hc : cells + 2 ≤ 600000) (hs : slots + 18 ≤ 7302250) {T : gSh} {I : gI} {J : gJ} {R : gR} {ca : Nat → Nat} {m : Nat} {ad : Nat → Nat} {a : gI} {n : gJ} (hL : LI T I J R ca m ad a n) (hn : ∀ (T : gSh) (I : gI) (J : gJ) (R : gR) (a : gI) (n : gJ), LI T I J R ca m ad a n → WP E 4 (cells + 2) (slots + 18) T I J R 1377 [(0, .ref b), (1, .ref (ca 0)), (2, .ref m), (3, .int (nI (10 * k)))] []) : WP E 4 cells slots T I J R 524 [(0, .ref b), (1, .ref (ca 0)), (2, .ref m), (3, .int (nI (10 * k)))] [] := by
  refine wp_aload_n hW.1 1 dL_law_524 rfl rfl ?_
  refine wp_aload_n hW.1 0 dL_law_525 rfl rfl ?_
  refine wp_iload_n hW.1 3 dL_law_526 rfl rfl ?_
  refine wp_iconst hW.1 1 dL_law_527 (by decide) ?_
  refine wp_iadd hW.1 dL_law_528 ?_
  refine wp_eqi (nI_add (10 * k) 1) ?_
  refine wp_sld hW (j := 10 * k + 1) rfl (by omega) dL_law_529 ?_
  refine wp_aload_n hW.1 0 dL_law_530 rfl rfl ?_
  refine wp_iload_n hW.1 3 dL_law_531 rfl rfl ?_
  refine wp_iconst hW.1 2 dL_law_532 (by decide) ?_
  refine wp_iadd hW.1 dL_law_533 ?_
  refine wp_eqi (nI_add (10 * k) 2) ?_
  refine wp_sld hW (j := 10 * k + 2) rfl (by omega) dL_law_534 ?_
  refine wp_callV hW.1 (As := [.int (xs (10 * k + 1)), .int (xs (10 * k + 2))]) (rest := []) dL_law_535 kL_law_66 (hL.1.1.ob 0 (by decide) rfl) (c_at _ hL.1 (xs (10 * k + 1)) (xs (10 * k + 2))) rfl (Nat.le_of_ble_eq_true rfl) (by decide) ⟨by show cells + 0 ≤ 600000; omega, by show slots + 0 ≤ 7302250; omega⟩ ?_
  rintro _ T1 I1 J1 R1 ⟨rfl, hF, hK1⟩
  have hM1 := hL.fr hF
  refine wp_widen (k := cells + 0) (n := slots + 0) (Nat.le_refl _) (Nat.le_refl _) ?_
  change WP E 4 (cells + 0) (slots + 0) T1 I1 J1 R1 538 [(0, .ref b), (1, .ref (ca 0)), (2, .ref m), (3, .int (nI (10 * k)))] [.int _]
  refine wp_aload_n hW.1 2 dL_law_538 rfl rfl ?_
  refine wp_aload_n hW.1 0 dL_law_539 rfl rfl ?_
  refine wp_iload_n hW.1 3 dL_law_540 rfl rfl ?_
  refine wp_iconst hW.1 1 dL_law_541 (by decide) ?_
  refine wp_iadd hW.1 dL_law_542 ?_
  refine wp_eqi (nI_add (10 * k) 1) ?_
  refine wp_sld hW (j := 10 * k + 1) rfl (by omega) dL_law_543 ?_
  refine wp_aload_n hW.1 0 dL_law_544 rfl rfl ?_
  refine wp_iload_n hW.1 3 dL_law_545 rfl rfl ?_
  refine wp_iconst hW.1 2 dL_law_546 (by decide) ?_
  refine wp_iadd hW.1 dL_law_547 ?_
  refine wp_eqi (nI_add (10 * k) 2) ?_
  refine wp_sld hW (j := 10 * k + 2) rfl (by omega) dL_law_548 ?_
  obtain ⟨A0, B0, h0, w0, okw, -⟩ := hL.1.2.2.2.2.1.okW
  refine wp_callV hW.1 (As := [.int (xs (10 * k + 1)), .int (xs (10 * k + 2))]) (rest := [.int _]) dL_law_549 kL_law_69 hM1.1.ob (m_at _ hM1.1 hM1.2.1 okw (xs (10 * k + 1)) (xs (10 * k + 2))) rfl (Nat.le_of_ble_eq_true rfl) (by decide) ⟨by show cells + 0 + 0 ≤ 600000; omega, by show slots + 0 + 0 ≤ 7302250; omega⟩ ?_
  rintro _ _ I2 J2 _ ⟨rfl, rfl, rfl, hX⟩
  have hL2 := LI.z hK1 hM1 hX
  change WP E 4 (cells + 0 + 0) (slots + 0 + 0) T1 I2 J2 R1 552 [(0, .ref b), (1, .ref (ca 0)), (2, .ref m), (3, .int (nI (10 * k)))] [.int _, .int _]
  refine wp_icmp_eq hW.1 1377 dL_law_552 (by decide) (fun _ => ?_) (fun z => absurd rfl z)
  refine wp_widen (k := cells + 2) (n := slots + 18) (by omega) (by omega) ?_
  exact hn _ _ _ _ _ _ hL2
set_option maxRecDepth 100000 in
set_option maxHeartbeats 4000000 in
theorem law_12 {E : gEnv} {b L : Nat} {xs : Nat → Int32} (hW : LW E b L xs) {k cells slots : Nat} (hk : 10 * k + 10 ≤ L) (hc : cells + 2 ≤ 600000) (hs : slots + 18 ≤ 7302250) {T : gSh} {I : gI} {J : gJ} {R : gR} {ca : Nat → Nat} {m : Nat} {ad : Nat → Nat} {a : gI} {n : gJ} (hL : LI T I J R ca m ad a n) (hn : ∀ (T : gSh) (I : gI) (J : gJ) (R : gR) (a : gI) (n : gJ), LI T I J R ca m ad a n → WP E 4 (cells + 2) (slots + 18) T I J R 1377 [(0, .ref b), (1, .ref (ca 0)), (2, .ref m), (3, .int (nI (10 * k)))] []) : WP E 4 cells slots T I J R 557 [(0, .ref b), (1, .ref (ca 0)), (2, .ref m), (3, .int (nI (10 * k)))] [] := by
  by_cases hz : xs (10 * k + 1) = 0
  · refine wp_aload_n hW.1 1 dL_law_557 rfl rfl ?_
    refine wp_aload_n hW.1 0 dL_law_558 rfl rfl ?_
    refine wp_iload_n hW.1 3 dL_law_559 rfl rfl ?_
    refine wp_iconst hW.1 1 dL_law_560 (by decide) ?_
    refine wp_iadd hW.1 dL_law_561 ?_
    refine wp_eqi (nI_add (10 * k) 1) ?_
    refine wp_sld hW (j := 10 * k + 1) rfl (by omega) dL_law_562 ?_
    refine wp_if_eq hW.1 570 dL_law_563 (by decide) (fun _ => ?_) (fun z => absurd hz z)
    refine wp_iconst hW.1 0 dL_law_570 (by decide) ?_
    refine wp_callV hW.1 (As := [.int 0]) (rest := []) dL_law_571 kL_law_70 (hL.1.1.ob 0 (by decide) rfl) (c_book _ hL.1 (s := 0) (by decide)) rfl (Nat.le_of_ble_eq_true rfl) (by decide) ⟨by show cells + 0 ≤ 600000; omega, by show slots + 0 ≤ 7302250; omega⟩ ?_
    rintro _ T1 I1 J1 R1 ⟨rfl, hF, hK1⟩
    have hM1 := hL.fr hF
    refine wp_widen (k := cells + 0) (n := slots + 0) (Nat.le_refl _) (Nat.le_refl _) ?_
    change WP E 4 (cells + 0) (slots + 0) T1 I1 J1 R1 574 [(0, .ref b), (1, .ref (ca 0)), (2, .ref m), (3, .int (nI (10 * k)))] [.int _]
    refine wp_aload_n hW.1 2 dL_law_574 rfl rfl ?_
    refine wp_aload_n hW.1 0 dL_law_575 rfl rfl ?_
    refine wp_iload_n hW.1 3 dL_law_576 rfl rfl ?_
    refine wp_iconst hW.1 1 dL_law_577 (by decide) ?_
    refine wp_iadd hW.1 dL_law_578 ?_
    refine wp_eqi (nI_add (10 * k) 1) ?_
    refine wp_sld hW (j := 10 * k + 1) rfl (by omega) dL_law_579 ?_
    refine wp_if_eq hW.1 587 dL_law_580 (by decide) (fun _ => ?_) (fun z => absurd hz z)
    refine wp_iconst hW.1 0 dL_law_587 (by decide) ?_
    refine wp_callV hW.1 (As := [.int 0]) (rest := [.int _]) dL_law_588 kL_law_74 hM1.1.ob (m_book _ hM1.1 hM1.2.1 hL.1.okB (s := 0) (by decide)) rfl (Nat.le_of_ble_eq_true rfl) (by decide) ⟨by show cells + 0 + 0 ≤ 600000; omega, by show slots + 0 + 0 ≤ 7302250; omega⟩ ?_
    rintro _ _ I2 J2 _ ⟨rfl, rfl, rfl, hX⟩
    have hL2 := LI.z hK1 hM1 hX
    change WP E 4 (cells + 0 + 0) (slots + 0 + 0) T1 I2 J2 R1 591 [(0, .ref b), (1, .ref (ca 0)), (2, .ref m), (3, .int (nI (10 * k)))] [.int _, .int _]
    refine wp_icmp_eq hW.1 1377 dL_law_591 (by decide) (fun _ => ?_) (fun z => absurd rfl z)
    refine wp_widen (k := cells + 2) (n := slots + 18) (by omega) (by omega) ?_
    exact hn _ _ _ _ _ _ hL2
  · refine wp_aload_n hW.1 1 dL_law_557 rfl rfl ?_
    refine wp_aload_n hW.1 0 dL_law_558 rfl rfl ?_
    refine wp_iload_n hW.1 3 dL_law_559 rfl rfl ?_
    refine wp_iconst hW.1 1 dL_law_560 (by decide) ?_
    refine wp_iadd hW.1 dL_law_561 ?_
    refine wp_eqi (nI_add (10 * k) 1) ?_
    refine wp_sld hW (j := 10 * k + 1) rfl (by omega) dL_law_562 ?_
    refine wp_if_eq hW.1 570 dL_law_563 (by decide) (fun z => absurd z hz) (fun _ => ?_)
    refine wp_iconst hW.1 1 dL_law_566 (by decide) ?_
    refine wp_goto hW.1 571 dL_law_567 (by decide) ?_
    refine wp_callV hW.1 (As := [.int 1]) (rest := []) dL_law_571 kL_law_70 (hL.1.1.ob 0 (by decide) rfl) (c_book _ hL.1 (s := 1) (by decide)) rfl (Nat.le_of_ble_eq_true rfl) (by decide) ⟨by show cells + 0 ≤ 600000; omega, by show slots + 0 ≤ 7302250; omega⟩ ?_
    rintro _ T1 I1 J1 R1 ⟨rfl, hF, hK1⟩
    have hM1 := hL.fr hF
    refine wp_widen (k := cells + 0) (n := slots + 0) (Nat.le_refl _) (Nat.le_refl _) ?_
    change WP E 4 (cells + 0) (slots + 0) T1 I1 J1 R1 574 [(0, .ref b), (1, .ref (ca 0)), (2, .ref m), (3, .int (nI (10 * k)))] [.int _]
    refine wp_aload_n hW.1 2 dL_law_574 rfl rfl ?_
    refine wp_aload_n hW.1 0 dL_law_575 rfl rfl ?_
    refine wp_iload_n hW.1 3 dL_law_576 rfl rfl ?_
    refine wp_iconst hW.1 1 dL_law_577 (by decide) ?_
    refine wp_iadd hW.1 dL_law_578 ?_
    refine wp_eqi (nI_add (10 * k) 1) ?_
    refine wp_sld hW (j := 10 * k + 1) rfl (by omega) dL_law_579 ?_
    refine wp_if_eq hW.1 587 dL_law_580 (by decide) (fun z => absurd z hz) (fun _ => ?_)
    refine wp_iconst hW.1 1 dL_law_583 (by decide) ?_
    refine wp_goto hW.1 588 dL_law_584 (by decide) ?_
    refine wp_callV hW.1 (As := [.int 1]) (rest := [.int _]) dL_law_588 kL_law_74 hM1.1.ob (m_book _ hM1.1 hM1.2.1 hL.1.okB (s := 1) (by decide)) rfl (Nat.le_of_ble_eq_true rfl) (by decide) ⟨by show cells + 0 + 0 ≤ 600000; omega, by show slots + 0 + 0 ≤ 7302250; omega⟩ ?_
    rintro _ _ I2 J2 _ ⟨rfl, rfl, rfl, hX⟩
    have hL2 := LI.z hK1 hM1 hX
    change WP E 4 (cells + 0 + 0) (slots + 0 + 0) T1 I2 J2 R1 591 [(0, .ref b), (1, .ref (ca 0)), (2, .ref m), (3, .int (nI (10 * k)))] [.int _, .int _]
    refine wp_icmp_eq hW.1 1377 dL_law_591 (by decide) (fun _ => ?_) (fun z => absurd rfl z)
    refine wp_widen (k := cells + 2) (n := slots + 18) (by omega) (by omega) ?_
    exact hn _ _ _ _ _ _ hL2
set_option maxRecDepth 100000 in
set_option maxHeartbeats 4000000 in
theorem law_13 {E : gEnv} {b L : Nat} {xs : Nat → Int32} (hW : LW E b L xs) {k cells slots : Nat} (hk : 10 * k + 10 ≤ L) (hc : cells + 2 ≤ 600000) (hs : slots + 18 ≤ 7302250) {T : gSh} {I : gI} {J : gJ} {R : gR} {ca : Nat → Nat} {m : Nat} {ad : Nat → Nat} {a : gI} {n : gJ} (hL : LI T I J R ca m ad a n) (hn : ∀ (T : gSh) (I : gI) (J : gJ) (R : gR) (a : gI) (n : gJ), LI T I J R ca m ad a n → WP E 4 (cells + 2) (slots + 18) T I J R 1377 [(0, .ref b), (1, .ref (ca 0)), (2, .ref m), (3, .int (nI (10 * k)))] []) : WP E 4 cells slots T I J R 596 [(0, .ref b), (1, .ref (ca 0)), (2, .ref m), (3, .int (nI (10 * k)))] [] := by
  by_cases hz : xs (10 * k + 3) = 0
  · refine wp_aload_n hW.1 1 dL_law_596 rfl rfl ?_
    refine wp_aload_n hW.1 0 dL_law_597 rfl rfl ?_
    refine wp_iload_n hW.1 3 dL_law_598 rfl rfl ?_
    refine wp_iconst hW.1 1 dL_law_599 (by decide) ?_
    refine wp_iadd hW.1 dL_law_600 ?_
    refine wp_eqi (nI_add (10 * k) 1) ?_
    refine wp_sld hW (j := 10 * k + 1) rfl (by omega) dL_law_601 ?_
    refine wp_aload_n hW.1 0 dL_law_602 rfl rfl ?_
    refine wp_iload_n hW.1 3 dL_law_603 rfl rfl ?_
    refine wp_iconst hW.1 2 dL_law_604 (by decide) ?_
    refine wp_iadd hW.1 dL_law_605 ?_
    refine wp_eqi (nI_add (10 * k) 2) ?_
    refine wp_sld hW (j := 10 * k + 2) rfl (by omega) dL_law_606 ?_
    refine wp_aload_n hW.1 0 dL_law_607 rfl rfl ?_
    refine wp_iload_n hW.1 3 dL_law_608 rfl rfl ?_
    refine wp_iconst hW.1 3 dL_law_609 (by decide) ?_
    refine wp_iadd hW.1 dL_law_610 ?_
    refine wp_eqi (nI_add (10 * k) 3) ?_
    refine wp_sld hW (j := 10 * k + 3) rfl (by omega) dL_law_611 ?_
    refine wp_if_eq hW.1 619 dL_law_612 (by decide) (fun _ => ?_) (fun z => absurd hz z)
    refine wp_iconst hW.1 0 dL_law_619 (by decide) ?_
    refine wp_callV hW.1 (As := [.int (xs (10 * k + 1)), .int (xs (10 * k + 2)), .int 0]) (rest := []) dL_law_620 kL_law_75 (hL.1.1.ob 0 (by decide) rfl) (c_list _ hL.1 (xs (10 * k + 1)) (xs (10 * k + 2)) (s := 0) (by decide)) rfl (Nat.le_of_ble_eq_true rfl) (by decide) ⟨by show cells + 0 ≤ 600000; omega, by show slots + 0 ≤ 7302250; omega⟩ ?_
    rintro _ T1 I1 J1 R1 ⟨rfl, hF, hK1⟩
    have hM1 := hL.fr hF
    refine wp_widen (k := cells + 0) (n := slots + 0) (Nat.le_refl _) (Nat.le_refl _) ?_
    change WP E 4 (cells + 0) (slots + 0) T1 I1 J1 R1 623 [(0, .ref b), (1, .ref (ca 0)), (2, .ref m), (3, .int (nI (10 * k)))] [.int _]
    refine wp_aload_n hW.1 2 dL_law_623 rfl rfl ?_
    refine wp_aload_n hW.1 0 dL_law_624 rfl rfl ?_
    refine wp_iload_n hW.1 3 dL_law_625 rfl rfl ?_
    refine wp_iconst hW.1 1 dL_law_626 (by decide) ?_
    refine wp_iadd hW.1 dL_law_627 ?_
    refine wp_eqi (nI_add (10 * k) 1) ?_
    refine wp_sld hW (j := 10 * k + 1) rfl (by omega) dL_law_628 ?_
    refine wp_aload_n hW.1 0 dL_law_629 rfl rfl ?_
    refine wp_iload_n hW.1 3 dL_law_630 rfl rfl ?_
    refine wp_iconst hW.1 2 dL_law_631 (by decide) ?_
    refine wp_iadd hW.1 dL_law_632 ?_
    refine wp_eqi (nI_add (10 * k) 2) ?_
    refine wp_sld hW (j := 10 * k + 2) rfl (by omega) dL_law_633 ?_
    refine wp_aload_n hW.1 0 dL_law_634 rfl rfl ?_
    refine wp_iload_n hW.1 3 dL_law_635 rfl rfl ?_
    refine wp_iconst hW.1 3 dL_law_636 (by decide) ?_
    refine wp_iadd hW.1 dL_law_637 ?_
    refine wp_eqi (nI_add (10 * k) 3) ?_
    refine wp_sld hW (j := 10 * k + 3) rfl (by omega) dL_law_638 ?_
    refine wp_if_eq hW.1 646 dL_law_639 (by decide) (fun _ => ?_) (fun z => absurd hz z)
    refine wp_iconst hW.1 0 dL_law_646 (by decide) ?_
    refine wp_callV hW.1 (As := [.int (xs (10 * k + 1)), .int (xs (10 * k + 2)), .int 0]) (rest := [.int _]) dL_law_647 kL_law_79 hM1.1.ob (m_list _ hM1.1 hM1.2.1 hL.1.okN hL.1.okB (xs (10 * k + 1)) (xs (10 * k + 2)) (s := 0) (by decide)) rfl (Nat.le_of_ble_eq_true rfl) (by decide) ⟨by show cells + 0 + 0 ≤ 600000; omega, by show slots + 0 + 0 ≤ 7302250; omega⟩ ?_
    rintro _ _ I2 J2 _ ⟨rfl, rfl, rfl, hX⟩
    have hL2 := LI.z hK1 hM1 hX
    change WP E 4 (cells + 0 + 0) (slots + 0 + 0) T1 I2 J2 R1 650 [(0, .ref b), (1, .ref (ca 0)), (2, .ref m), (3, .int (nI (10 * k)))] [.int _, .int _]
    refine wp_icmp_eq hW.1 1377 dL_law_650 (by decide) (fun _ => ?_) (fun z => absurd rfl z)
    refine wp_widen (k := cells + 2) (n := slots + 18) (by omega) (by omega) ?_
    exact hn _ _ _ _ _ _ hL2
  · refine wp_aload_n hW.1 1 dL_law_596 rfl rfl ?_
    refine wp_aload_n hW.1 0 dL_law_597 rfl rfl ?_
    refine wp_iload_n hW.1 3 dL_law_598 rfl rfl ?_
    refine wp_iconst hW.1 1 dL_law_599 (by decide) ?_
    refine wp_iadd hW.1 dL_law_600 ?_
    refine wp_eqi (nI_add (10 * k) 1) ?_
    refine wp_sld hW (j := 10 * k + 1) rfl (by omega) dL_law_601 ?_
    refine wp_aload_n hW.1 0 dL_law_602 rfl rfl ?_
    refine wp_iload_n hW.1 3 dL_law_603 rfl rfl ?_
    refine wp_iconst hW.1 2 dL_law_604 (by decide) ?_
    refine wp_iadd hW.1 dL_law_605 ?_
    refine wp_eqi (nI_add (10 * k) 2) ?_
    refine wp_sld hW (j := 10 * k + 2) rfl (by omega) dL_law_606 ?_
    refine wp_aload_n hW.1 0 dL_law_607 rfl rfl ?_
    refine wp_iload_n hW.1 3 dL_law_608 rfl rfl ?_
    refine wp_iconst hW.1 3 dL_law_609 (by decide) ?_
    refine wp_iadd hW.1 dL_law_610 ?_
    refine wp_eqi (nI_add (10 * k) 3) ?_
    refine wp_sld hW (j := 10 * k + 3) rfl (by omega) dL_law_611 ?_
    refine wp_if_eq hW.1 619 dL_law_612 (by decide) (fun z => absurd z hz) (fun _ => ?_)
    refine wp_iconst hW.1 1 dL_law_615 (by decide) ?_
    refine wp_goto hW.1 620 dL_law_616 (by decide) ?_
    refine wp_callV hW.1 (As := [.int (xs (10 * k + 1)), .int (xs (10 * k + 2)), .int 1]) (rest := []) dL_law_620 kL_law_75 (hL.1.1.ob 0 (by decide) rfl) (c_list _ hL.1 (xs (10 * k + 1)) (xs (10 * k + 2)) (s := 1) (by decide)) rfl (Nat.le_of_ble_eq_true rfl) (by decide) ⟨by show cells + 0 ≤ 600000; omega, by show slots + 0 ≤ 7302250; omega⟩ ?_
    rintro _ T1 I1 J1 R1 ⟨rfl, hF, hK1⟩
    have hM1 := hL.fr hF
    refine wp_widen (k := cells + 0) (n := slots + 0) (Nat.le_refl _) (Nat.le_refl _) ?_
    change WP E 4 (cells + 0) (slots + 0) T1 I1 J1 R1 623 [(0, .ref b), (1, .ref (ca 0)), (2, .ref m), (3, .int (nI (10 * k)))] [.int _]
    refine wp_aload_n hW.1 2 dL_law_623 rfl rfl ?_
    refine wp_aload_n hW.1 0 dL_law_624 rfl rfl ?_
    refine wp_iload_n hW.1 3 dL_law_625 rfl rfl ?_
    refine wp_iconst hW.1 1 dL_law_626 (by decide) ?_
    refine wp_iadd hW.1 dL_law_627 ?_
    refine wp_eqi (nI_add (10 * k) 1) ?_
    refine wp_sld hW (j := 10 * k + 1) rfl (by omega) dL_law_628 ?_
    refine wp_aload_n hW.1 0 dL_law_629 rfl rfl ?_
    refine wp_iload_n hW.1 3 dL_law_630 rfl rfl ?_
    refine wp_iconst hW.1 2 dL_law_631 (by decide) ?_
    refine wp_iadd hW.1 dL_law_632 ?_
    refine wp_eqi (nI_add (10 * k) 2) ?_
    refine wp_sld hW (j := 10 * k + 2) rfl (by omega) dL_law_633 ?_
    refine wp_aload_n hW.1 0 dL_law_634 rfl rfl ?_
    refine wp_iload_n hW.1 3 dL_law_635 rfl rfl ?_
    refine wp_iconst hW.1 3 dL_law_636 (by decide) ?_
    refine wp_iadd hW.1 dL_law_637 ?_
    refine wp_eqi (nI_add (10 * k) 3) ?_
    refine wp_sld hW (j := 10 * k + 3) rfl (by omega) dL_law_638 ?_
    refine wp_if_eq hW.1 646 dL_law_639 (by decide) (fun z => absurd z hz) (fun _ => ?_)
    refine wp_iconst hW.1 1 dL_law_642 (by decide) ?_
    refine wp_goto hW.1 647 dL_law_643 (by decide) ?_
    refine wp_callV hW.1 (As := [.int (xs (10 * k + 1)), .int (xs (10 * k + 2)), .int 1]) (rest := [.int _]) dL_law_647 kL_law_79 hM1.1.ob (m_list _ hM1.1 hM1.2.1 hL.1.okN hL.1.okB (xs (10 * k + 1)) (xs (10 * k + 2)) (s := 1) (by decide)) rfl (Nat.le_of_ble_eq_true rfl) (by decide) ⟨by show cells + 0 + 0 ≤ 600000; omega, by show slots + 0 + 0 ≤ 7302250; omega⟩ ?_
    rintro _ _ I2 J2 _ ⟨rfl, rfl, rfl, hX⟩
    have hL2 := LI.z hK1 hM1 hX
    change WP E 4 (cells + 0 + 0) (slots + 0 + 0) T1 I2 J2 R1 650 [(0, .ref b), (1, .ref (ca 0)), (2, .ref m), (3, .int (nI (10 * k)))] [.int _, .int _]
    refine wp_icmp_eq hW.1 1377 dL_law_650 (by decide) (fun _ => ?_) (fun z => absurd rfl z)
    refine wp_widen (k := cells + 2) (n := slots + 18) (by omega) (by omega) ?_
    exact hn _ _ _ _ _ _ hL2
