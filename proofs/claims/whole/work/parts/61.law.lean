/-! the law: its cases -/
theorem n_sld {f : jF} {lv : List (Nat × Value)} {w : jS} {pc : Nat} {st : List Value} {i : Nat} (hd : decode (jyc f.2.1) pc = .ok (.iaload, 1)) (hi : i < jaN f.1) (hb : jaN f.1 < 2 ^ 31) (kk : jJ f lv w (pc + 1) (.int (jxs f.1 i) :: st)) : jJ f lv w pc (.int (nI i) :: .ref (jaS f.1) :: st) := by
  have e : (nI i).toNatClampNeg = i := nI_clamp (by omega)
  refine j_sld hd ?_ (by rw [e]; exact kk)
  rintro (h | h)
  · exact nI_pos (by omega) h
  · omega
theorem lgc_rfl (x : Int64) : lg_cmp x x = 0 := by
  unfold lg_cmp
  rw [if_neg (by rw [gt_iff_lt]; exact Int64.lt_irrefl), if_pos rfl]
/-- a key of two cells of the script -/
def kxy (p q : Int32) : Int64 := (p.toInt64 <<< ((nI 32).toInt64 &&& 63)) ||| (q.toInt64 &&& 4294967295)
theorem law_key (g : jG) (kC kS : Nat) (Q : jQ) (V : Nat → Nat → Nat) (L : Nat → Nat → Int64) (k n i : Nat) (hk : k + 1 ≤ kC) (hn : n + 6 ≤ kS) (hi : i + 6 ≤ jaN g) (hb : jaN g < 2 ^ 31) (V1 V2 : Nat → Nat → Nat) (L1 L2 : Nat → Nat → Int64) (c : Nat) (hc : c < 3) (hW : jK1 g Y_W_key (7, 110) [.ref (jb g + 0), .long (kxy (jxs g (i + 1)) (jxs g (i + 2))), .long (kxy (jxs g (i + 3)) (jxs g (i + 4)))] V L (jA0 (some (.int (nI c))) V1 L1)) (hM : jK g Y_M_key (0, 0) [.ref (jb g + 85), .long (kxy (jxs g (i + 1)) (jxs g (i + 2))), .long (kxy (jxs g (i + 3)) (jxs g (i + 4)))] V1 L1 (jA0 none V2 L2)) (hth : V2 85 0 = c) (kk : jJ (g, Y_W_law, (10, 388), kC, kS, Q) [(0, .ref (jaS g)), (1, .ref (jb g + 0)), (2, .ref (jb g + 85)), (3, .ref (jb g + 103)), (4, .int (nI i))] (jv (g, Y_W_law, (10, 388), kC, kS, Q) V2 L2 (k + 1) (n + 6)) 1296 []) : jJ (g, Y_W_law, (10, 388), kC, kS, Q) [(0, .ref (jaS g)), (1, .ref (jb g + 0)), (2, .ref (jb g + 85)), (3, .ref (jb g + 103)), (4, .int (nI i))] (jv (g, Y_W_law, (10, 388), kC, kS, Q) V L k n) 132 [] := by
  refine j_aload_n d_W_law_132 rfl 1 rfl ?_
  refine j_aload_n d_W_law_133 rfl 0 rfl ?_
  refine j_iload d_W_law_134 4 rfl ?_
  refine n_iconst d_W_law_136 1 (by decide) ?_
  refine n_add d_W_law_137 ?_
  refine n_sld d_W_law_138 (Nat.lt_of_lt_of_le (by omega) hi) hb ?_
  refine j_i2l d_W_law_139 rfl ?_
  refine n_bipush d_W_law_140 32 (by decide) ?_
  refine j_lshl d_W_law_142 rfl ?_
  refine j_aload_n d_W_law_143 rfl 0 rfl ?_
  refine j_iload d_W_law_144 4 rfl ?_
  refine n_iconst d_W_law_146 2 (by decide) ?_
  refine n_add d_W_law_147 ?_
  refine n_sld d_W_law_148 (Nat.lt_of_lt_of_le (by omega) hi) hb ?_
  refine j_i2l d_W_law_149 rfl ?_
  refine j_ldc2 d_W_law_150 ct_W_64 ?_
  refine j_land d_W_law_153 ?_
  refine j_lor d_W_law_154 ?_
  refine j_aload_n d_W_law_155 rfl 0 rfl ?_
  refine j_iload d_W_law_156 4 rfl ?_
  refine n_iconst d_W_law_158 3 (by decide) ?_
  refine n_add d_W_law_159 ?_
  refine n_sld d_W_law_160 (Nat.lt_of_lt_of_le (by omega) hi) hb ?_
  refine j_i2l d_W_law_161 rfl ?_
  refine n_bipush d_W_law_162 32 (by decide) ?_
  refine j_lshl d_W_law_164 rfl ?_
  refine j_aload_n d_W_law_165 rfl 0 rfl ?_
  refine j_iload d_W_law_166 4 rfl ?_
  refine n_iconst d_W_law_168 4 (by decide) ?_
  refine n_add d_W_law_169 ?_
  refine n_sld d_W_law_170 (Nat.lt_of_lt_of_le (by omega) hi) hb ?_
  refine j_i2l d_W_law_171 rfl ?_
  refine j_ldc2 d_W_law_172 ct_W_64 ?_
  refine j_land d_W_law_175 ?_
  refine j_lor d_W_law_176 ?_
  refine v_callW d_W_law_177 mw_W_key lm_W_66 sm_W_key ⟨Nat.le_of_ble_eq_true rfl, Nat.le_of_ble_eq_true rfl⟩ hk hn (Nat.le_of_ble_eq_true rfl) rfl (hW) rfl ?_
  rintro _ _ _ ⟨rfl, rfl, rfl⟩
  refine j_istore d_W_law_180 (i := 5) (Nat.le_of_ble_eq_true rfl) (lv' := [_, _, _, _, _, _]) rfl ?_
  refine j_aload_n d_W_law_182 rfl 3 rfl ?_
  refine j_aload_n d_W_law_183 rfl 1 rfl ?_
  refine j_iload d_W_law_184 5 rfl ?_
  refine n_iconst d_W_law_186 1 (by decide) ?_
  refine n_add d_W_law_187 ?_
  refine n_sld d_W_law_188 (Nat.lt_of_lt_of_le (by omega) hi) hb ?_
  refine j_i2l d_W_law_189 rfl ?_
  refine n_bipush d_W_law_190 32 (by decide) ?_
  refine j_lshl d_W_law_192 rfl ?_
  refine j_aload_n d_W_law_193 rfl 1 rfl ?_
  refine j_iload d_W_law_194 5 rfl ?_
  refine n_iconst d_W_law_196 2 (by decide) ?_
  refine n_add d_W_law_197 ?_
  refine n_sld d_W_law_198 (Nat.lt_of_lt_of_le (by omega) hi) hb ?_
  refine j_i2l d_W_law_199 rfl ?_
  refine j_ldc2 d_W_law_200 ct_W_64 ?_
  refine j_land d_W_law_203 ?_
  refine j_lor d_W_law_204 ?_
  refine j_aload_n d_W_law_205 rfl 1 rfl ?_
  refine j_iload d_W_law_206 5 rfl ?_
  refine n_iconst d_W_law_208 3 (by decide) ?_
  refine n_add d_W_law_209 ?_
  refine n_sld d_W_law_210 (Nat.lt_of_lt_of_le (by omega) hi) hb ?_
  refine j_i2l d_W_law_211 rfl ?_
  refine n_bipush d_W_law_212 32 (by decide) ?_
  refine j_lshl d_W_law_214 rfl ?_
  refine j_aload_n d_W_law_215 rfl 1 rfl ?_
  refine j_iload d_W_law_216 5 rfl ?_
  refine n_iconst d_W_law_218 4 (by decide) ?_
  refine n_add d_W_law_219 ?_
  refine n_sld d_W_law_220 (Nat.lt_of_lt_of_le (by omega) hi) hb ?_
  refine j_i2l d_W_law_221 rfl ?_
  refine j_ldc2 d_W_law_222 ct_W_64 ?_
  refine j_land d_W_law_225 ?_
  refine j_lor d_W_law_226 ?_
  refine v_callV d_W_law_227 mt_M_key ln_W_71 im_M_key se_M_key rfl (Nat.le_of_ble_eq_true rfl) rfl rfl ⟨Nat.le_of_ble_eq_true rfl, Nat.le_of_ble_eq_true rfl⟩ (Nat.le_of_ble_eq_true rfl) rfl hk hn (hM) rfl ?_
  rintro _ _ _ ⟨rfl, rfl, rfl⟩
  refine j_aload_n d_W_law_230 rfl 3 rfl ?_
  refine v_callV d_W_law_231 mt_M_thrown ln_W_72 im_M_thrown se_M_thrown rfl (Nat.le_of_ble_eq_true rfl) rfl rfl ⟨Nat.le_of_ble_eq_true rfl, Nat.le_of_ble_eq_true rfl⟩ (Nat.le_of_ble_eq_true rfl) rfl hk hn (c_M_thrown g V2 L2) rfl ?_
  rintro _ _ _ ⟨rfl, rfl, rfl⟩
  rw [hth]
  refine j_iload d_W_law_234 0 rfl ?_
  refine n_icmp_eq d_W_law_236 241 rfl (by omega) (by omega) (fun h => ?_) (fun h => absurd h (by omega))
  refine j_goto d_W_law_241 1296 rfl ?_
  refine j_lv [1, 2, 3, 4, 5] rfl ?_
  exact kk
theorem law_word (g : jG) (kC kS : Nat) (Q : jQ) (V : Nat → Nat → Nat) (L : Nat → Nat → Int64) (k n i : Nat) (hk : k + 1 ≤ kC) (hn : n + 6 ≤ kS) (hi : i + 6 ≤ jaN g) (hb : jaN g < 2 ^ 31) (V1 V2 : Nat → Nat → Nat) (L1 L2 : Nat → Nat → Int64) (z : Int32) (hC : jK g Y_D_word (1, 20) [.ref (jb g + 0), .int (jxs g (i + 1)), .int (jxs g (i + 2))] V L (jA0 (some (.int z)) V1 L1)) (hM : jK g Y_M_word (1, 20) [.ref (jb g + 85), .int (jxs g (i + 1)), .int (jxs g (i + 2))] V1 L1 (jA0 (some (.int z)) V2 L2)) (kk : jJ (g, Y_W_law, (10, 388), kC, kS, Q) [(0, .ref (jaS g)), (1, .ref (jb g + 0)), (2, .ref (jb g + 85)), (3, .ref (jb g + 103)), (4, .int (nI i))] (jv (g, Y_W_law, (10, 388), kC, kS, Q) V2 L2 k n) 1296 []) : jJ (g, Y_W_law, (10, 388), kC, kS, Q) [(0, .ref (jaS g)), (1, .ref (jb g + 0)), (2, .ref (jb g + 85)), (3, .ref (jb g + 103)), (4, .int (nI i))] (jv (g, Y_W_law, (10, 388), kC, kS, Q) V L k n) 244 [] := by
  refine j_aload_n d_W_law_244 rfl 1 rfl ?_
  refine j_aload_n d_W_law_245 rfl 0 rfl ?_
  refine j_iload d_W_law_246 4 rfl ?_
  refine n_iconst d_W_law_248 1 (by decide) ?_
  refine n_add d_W_law_249 ?_
  refine n_sld d_W_law_250 (Nat.lt_of_lt_of_le (by omega) hi) hb ?_
  refine j_aload_n d_W_law_251 rfl 0 rfl ?_
  refine j_iload d_W_law_252 4 rfl ?_
  refine n_iconst d_W_law_254 2 (by decide) ?_
  refine n_add d_W_law_255 ?_
  refine n_sld d_W_law_256 (Nat.lt_of_lt_of_le (by omega) hi) hb ?_
  refine v_callV d_W_law_257 mt_D_word ln_W_76 im_D_word se_D_word rfl (Nat.le_of_ble_eq_true rfl) rfl rfl ⟨Nat.le_of_ble_eq_true rfl, Nat.le_of_ble_eq_true rfl⟩ (Nat.le_of_ble_eq_true rfl) rfl (show k ≤ kC by omega) (show n ≤ kS by omega) (hC) rfl ?_
  rintro _ _ _ ⟨rfl, rfl, rfl⟩
  refine j_aload_n d_W_law_260 rfl 2 rfl ?_
  refine j_aload_n d_W_law_261 rfl 0 rfl ?_
  refine j_iload d_W_law_262 4 rfl ?_
  refine n_iconst d_W_law_264 1 (by decide) ?_
  refine n_add d_W_law_265 ?_
  refine n_sld d_W_law_266 (Nat.lt_of_lt_of_le (by omega) hi) hb ?_
  refine j_aload_n d_W_law_267 rfl 0 rfl ?_
  refine j_iload d_W_law_268 4 rfl ?_
  refine n_iconst d_W_law_270 2 (by decide) ?_
  refine n_add d_W_law_271 ?_
  refine n_sld d_W_law_272 (Nat.lt_of_lt_of_le (by omega) hi) hb ?_
  refine v_callV d_W_law_273 mt_M_word ln_W_79 im_M_word se_M_word rfl (Nat.le_of_ble_eq_true rfl) rfl rfl ⟨Nat.le_of_ble_eq_true rfl, Nat.le_of_ble_eq_true rfl⟩ (Nat.le_of_ble_eq_true rfl) rfl (show k ≤ kC by omega) (show n ≤ kS by omega) (hM) rfl ?_
  rintro _ _ _ ⟨rfl, rfl, rfl⟩
  exact j_icmp_eq d_W_law_276 1296 rfl (fun _ => kk) (fun h => absurd rfl h)
theorem law_file (g : jG) (kC kS : Nat) (Q : jQ) (V : Nat → Nat → Nat) (L : Nat → Nat → Int64) (k n i : Nat) (hk : k + 1 ≤ kC) (hn : n + 6 ≤ kS) (hi : i + 6 ≤ jaN g) (hb : jaN g < 2 ^ 31) (V1 V2 : Nat → Nat → Nat) (L1 L2 : Nat → Nat → Int64) (c : Nat) (hc : c < 3) (hW : jK1 g Y_W_file (7, 137) [.ref (jb g + 0), .int (jxs g (i + 1)), .ref (jb g + 103)] V L (jA0 (some (.int (nI c))) V1 L1)) (z : Int32) (hM : jK g Y_M_file (3, 81) [.ref (jb g + 85), .int (jxs g (i + 1))] V1 L1 (jA0 (some (.int z)) V2 L2)) (hth : V2 85 0 = c) (hz : c = 0 → L2 103 0 = z.toInt64) (kk : jJ (g, Y_W_law, (10, 388), kC, kS, Q) [(0, .ref (jaS g)), (1, .ref (jb g + 0)), (2, .ref (jb g + 85)), (3, .ref (jb g + 103)), (4, .int (nI i))] (jv (g, Y_W_law, (10, 388), kC, kS, Q) V2 L2 (k + 1) (n + 6)) 1296 []) : jJ (g, Y_W_law, (10, 388), kC, kS, Q) [(0, .ref (jaS g)), (1, .ref (jb g + 0)), (2, .ref (jb g + 85)), (3, .ref (jb g + 103)), (4, .int (nI i))] (jv (g, Y_W_law, (10, 388), kC, kS, Q) V L k n) 281 [] := by
  refine j_aload_n d_W_law_281 rfl 1 rfl ?_
  refine j_aload_n d_W_law_282 rfl 0 rfl ?_
  refine j_iload d_W_law_283 4 rfl ?_
  refine n_iconst d_W_law_285 1 (by decide) ?_
  refine n_add d_W_law_286 ?_
  refine n_sld d_W_law_287 (Nat.lt_of_lt_of_le (by omega) hi) hb ?_
  refine j_aload_n d_W_law_288 rfl 3 rfl ?_
  refine v_callW d_W_law_289 mw_W_file lm_W_80 sm_W_file ⟨Nat.le_of_ble_eq_true rfl, Nat.le_of_ble_eq_true rfl⟩ hk hn (Nat.le_of_ble_eq_true rfl) rfl (hW) rfl ?_
  rintro _ _ _ ⟨rfl, rfl, rfl⟩
  refine j_istore d_W_law_292 (i := 5) (Nat.le_of_ble_eq_true rfl) (lv' := [_, _, _, _, _, _]) rfl ?_
  refine j_aload_n d_W_law_294 rfl 3 rfl ?_
  refine j_aload_n d_W_law_295 rfl 1 rfl ?_
  refine j_iload d_W_law_296 5 rfl ?_
  refine n_iconst d_W_law_298 1 (by decide) ?_
  refine n_add d_W_law_299 ?_
  refine n_sld d_W_law_300 (Nat.lt_of_lt_of_le (by omega) hi) hb ?_
  refine v_callV d_W_law_301 mt_M_file ln_W_83 im_M_file se_M_file rfl (Nat.le_of_ble_eq_true rfl) rfl rfl ⟨Nat.le_of_ble_eq_true rfl, Nat.le_of_ble_eq_true rfl⟩ (Nat.le_of_ble_eq_true rfl) rfl hk hn (hM) rfl ?_
  rintro _ _ _ ⟨rfl, rfl, rfl⟩
  refine j_istore d_W_law_304 (i := 6) (Nat.le_of_ble_eq_true rfl) (lv' := [_, _, _, _, _, _, _]) rfl ?_
  refine j_aload_n d_W_law_306 rfl 4 rfl ?_
  refine v_callV d_W_law_307 mt_M_thrown ln_W_72 im_M_thrown se_M_thrown rfl (Nat.le_of_ble_eq_true rfl) rfl rfl ⟨Nat.le_of_ble_eq_true rfl, Nat.le_of_ble_eq_true rfl⟩ (Nat.le_of_ble_eq_true rfl) rfl hk hn (c_M_thrown g V2 L2) rfl ?_
  rintro _ _ _ ⟨rfl, rfl, rfl⟩
  rw [hth]
  refine j_iload d_W_law_310 1 rfl ?_
  refine n_icmp_eq d_W_law_312 317 rfl (by omega) (by omega) (fun h => ?_) (fun h => absurd h (by omega))
  refine j_iload d_W_law_317 1 rfl ?_
  refine n_if_ne d_W_law_319 334 rfl (by omega) (fun h0 => ?_) (fun h0 => ?_)
  · refine j_goto d_W_law_334 1296 rfl ?_
    refine j_lv [2, 3, 4, 5, 6] rfl ?_
    exact kk
  · refine j_aload_n d_W_law_322 rfl 5 rfl ?_
    refine n_iconst d_W_law_323 0 (by decide) ?_
    refine v_lld d_W_law_324 rfl rfl (Nat.le_of_ble_eq_true rfl) rfl (by omega) (by omega) ?_
    rw [hz h0]
    refine j_iload d_W_law_325 0 rfl ?_
    refine j_i2l d_W_law_327 rfl ?_
    refine j_lcmp d_W_law_328 ?_
    refine j_if_eq d_W_law_329 334 rfl (fun _ => ?_) (fun h => absurd (lgc_rfl _) h)
    refine j_goto d_W_law_334 1296 rfl ?_
    refine j_lv [2, 3, 4, 5, 6] rfl ?_
    exact kk
theorem law_place (g : jG) (kC kS : Nat) (Q : jQ) (V : Nat → Nat → Nat) (L : Nat → Nat → Int64) (k n i : Nat) (hk : k + 1 ≤ kC) (hn : n + 6 ≤ kS) (hi : i + 6 ≤ jaN g) (hb : jaN g < 2 ^ 31) (V1 V2 : Nat → Nat → Nat) (L1 L2 : Nat → Nat → Int64) (c : Nat) (hc : c < 3) (hW : jK1 g Y_W_place (7, 117) [.ref (jb g + 0), .int (jxs g (i + 1)), .int (jxs g (i + 2)), .ref (jb g + 103)] V L (jA0 (some (.int (nI c))) V1 L1)) (b : Nat) (hb1 : b ≤ 1) (hM : jK g Y_M_place (2, 46) [.ref (jb g + 85), .int (jxs g (i + 1)), .int (jxs g (i + 2))] V1 L1 (jA0 (some (.int (nI b))) V2 L2)) (hth : V2 85 0 = c) (hz : c = 0 → L2 103 0 = lN b) (kk : jJ (g, Y_W_law, (10, 388), kC, kS, Q) [(0, .ref (jaS g)), (1, .ref (jb g + 0)), (2, .ref (jb g + 85)), (3, .ref (jb g + 103)), (4, .int (nI i))] (jv (g, Y_W_law, (10, 388), kC, kS, Q) V2 L2 (k + 1) (n + 6)) 1296 []) : jJ (g, Y_W_law, (10, 388), kC, kS, Q) [(0, .ref (jaS g)), (1, .ref (jb g + 0)), (2, .ref (jb g + 85)), (3, .ref (jb g + 103)), (4, .int (nI i))] (jv (g, Y_W_law, (10, 388), kC, kS, Q) V L k n) 337 [] := by
  refine j_aload_n d_W_law_337 rfl 1 rfl ?_
  refine j_aload_n d_W_law_338 rfl 0 rfl ?_
  refine j_iload d_W_law_339 4 rfl ?_
  refine n_iconst d_W_law_341 1 (by decide) ?_
  refine n_add d_W_law_342 ?_
  refine n_sld d_W_law_343 (Nat.lt_of_lt_of_le (by omega) hi) hb ?_
  refine j_aload_n d_W_law_344 rfl 0 rfl ?_
  refine j_iload d_W_law_345 4 rfl ?_
  refine n_iconst d_W_law_347 2 (by decide) ?_
  refine n_add d_W_law_348 ?_
  refine n_sld d_W_law_349 (Nat.lt_of_lt_of_le (by omega) hi) hb ?_
  refine j_aload_n d_W_law_350 rfl 3 rfl ?_
  refine v_callW d_W_law_351 mw_W_place lm_W_84 sm_W_place ⟨Nat.le_of_ble_eq_true rfl, Nat.le_of_ble_eq_true rfl⟩ hk hn (Nat.le_of_ble_eq_true rfl) rfl (hW) rfl ?_
  rintro _ _ _ ⟨rfl, rfl, rfl⟩
  refine j_istore d_W_law_354 (i := 5) (Nat.le_of_ble_eq_true rfl) (lv' := [_, _, _, _, _, _]) rfl ?_
  refine j_aload_n d_W_law_356 rfl 3 rfl ?_
  refine j_aload_n d_W_law_357 rfl 1 rfl ?_
  refine j_iload d_W_law_358 5 rfl ?_
  refine n_iconst d_W_law_360 1 (by decide) ?_
  refine n_add d_W_law_361 ?_
  refine n_sld d_W_law_362 (Nat.lt_of_lt_of_le (by omega) hi) hb ?_
  refine j_aload_n d_W_law_363 rfl 1 rfl ?_
  refine j_iload d_W_law_364 5 rfl ?_
  refine n_iconst d_W_law_366 2 (by decide) ?_
  refine n_add d_W_law_367 ?_
  refine n_sld d_W_law_368 (Nat.lt_of_lt_of_le (by omega) hi) hb ?_
  refine v_callV d_W_law_369 mt_M_place ln_W_87 im_M_place se_M_place rfl (Nat.le_of_ble_eq_true rfl) rfl rfl ⟨Nat.le_of_ble_eq_true rfl, Nat.le_of_ble_eq_true rfl⟩ (Nat.le_of_ble_eq_true rfl) rfl hk hn (hM) rfl ?_
  rintro _ _ _ ⟨rfl, rfl, rfl⟩
  refine j_istore d_W_law_372 (i := 6) (Nat.le_of_ble_eq_true rfl) (lv' := [_, _, _, _, _, _, _]) rfl ?_
  refine j_aload_n d_W_law_374 rfl 4 rfl ?_
  refine v_callV d_W_law_375 mt_M_thrown ln_W_72 im_M_thrown se_M_thrown rfl (Nat.le_of_ble_eq_true rfl) rfl rfl ⟨Nat.le_of_ble_eq_true rfl, Nat.le_of_ble_eq_true rfl⟩ (Nat.le_of_ble_eq_true rfl) rfl hk hn (c_M_thrown g V2 L2) rfl ?_
  rintro _ _ _ ⟨rfl, rfl, rfl⟩
  rw [hth]
  refine j_iload d_W_law_378 1 rfl ?_
  refine n_icmp_eq d_W_law_380 385 rfl (by omega) (by omega) (fun h => ?_) (fun h => absurd h (by omega))
  refine j_iload d_W_law_385 1 rfl ?_
  refine n_if_ne d_W_law_387 409 rfl (by omega) (fun h0 => ?_) (fun h0 => ?_)
  · refine j_goto d_W_law_409 1296 rfl ?_
    refine j_lv [2, 3, 4, 5, 6] rfl ?_
    exact kk
  · refine j_aload_n d_W_law_390 rfl 5 rfl ?_
    refine n_iconst d_W_law_391 0 (by decide) ?_
    refine v_lld d_W_law_392 rfl rfl (Nat.le_of_ble_eq_true rfl) rfl (by omega) (by omega) ?_
    rw [hz h0]
    refine j_iload d_W_law_393 0 rfl ?_
    refine n_if_eq d_W_law_395 402 rfl (by omega) (fun h9 => ?_) (fun h9 => ?_)
    · subst h9
      refine j_lconst d_W_law_402 (v := lN 0) (by decide) ?_
      refine j_lcmp d_W_law_403 ?_
      refine j_if_eq d_W_law_404 409 rfl (fun _ => ?_) (fun h => absurd (lgc_rfl _) h)
      refine j_goto d_W_law_409 1296 rfl ?_
      refine j_lv [2, 3, 4, 5, 6] rfl ?_
      exact kk
    · obtain rfl : b = 1 := by omega
      refine j_lconst d_W_law_398 (v := lN 1) (by decide) ?_
      refine j_goto d_W_law_399 403 rfl ?_
      refine j_lcmp d_W_law_403 ?_
      refine j_if_eq d_W_law_404 409 rfl (fun _ => ?_) (fun h => absurd (lgc_rfl _) h)
      refine j_goto d_W_law_409 1296 rfl ?_
      refine j_lv [2, 3, 4, 5, 6] rfl ?_
      exact kk
theorem law_lose (g : jG) (kC kS : Nat) (Q : jQ) (V : Nat → Nat → Nat) (L : Nat → Nat → Int64) (k n i : Nat) (hk : k + 1 ≤ kC) (hn : n + 6 ≤ kS) (hi : i + 6 ≤ jaN g) (hb : jaN g < 2 ^ 31) (V1 V2 : Nat → Nat → Nat) (L1 L2 : Nat → Nat → Int64) (c : Nat) (hc : c < 3) (hW : jK1 g Y_W_lose (7, 110) [.ref (jb g + 0), .int (jxs g (i + 1)), .int (jxs g (i + 2)), .int (jxs g (i + 3)), .ref (jb g + 103)] V L (jA0 (some (.int (nI c))) V1 L1)) (b : Nat) (hb1 : b ≤ 1) (hM : jK g Y_M_lose (3, 66) [.ref (jb g + 85), .int (jxs g (i + 1)), .int (jxs g (i + 2)), .int (jxs g (i + 3))] V1 L1 (jA0 (some (.int (nI b))) V2 L2)) (hth : V2 85 0 = c) (hz : c = 0 → L2 103 0 = lN b) (kk : jJ (g, Y_W_law, (10, 388), kC, kS, Q) [(0, .ref (jaS g)), (1, .ref (jb g + 0)), (2, .ref (jb g + 85)), (3, .ref (jb g + 103)), (4, .int (nI i))] (jv (g, Y_W_law, (10, 388), kC, kS, Q) V2 L2 (k + 1) (n + 6)) 1296 []) : jJ (g, Y_W_law, (10, 388), kC, kS, Q) [(0, .ref (jaS g)), (1, .ref (jb g + 0)), (2, .ref (jb g + 85)), (3, .ref (jb g + 103)), (4, .int (nI i))] (jv (g, Y_W_law, (10, 388), kC, kS, Q) V L k n) 412 [] := by
  refine j_aload_n d_W_law_412 rfl 1 rfl ?_
  refine j_aload_n d_W_law_413 rfl 0 rfl ?_
  refine j_iload d_W_law_414 4 rfl ?_
  refine n_iconst d_W_law_416 1 (by decide) ?_
  refine n_add d_W_law_417 ?_
  refine n_sld d_W_law_418 (Nat.lt_of_lt_of_le (by omega) hi) hb ?_
  refine j_aload_n d_W_law_419 rfl 0 rfl ?_
  refine j_iload d_W_law_420 4 rfl ?_
  refine n_iconst d_W_law_422 2 (by decide) ?_
  refine n_add d_W_law_423 ?_
  refine n_sld d_W_law_424 (Nat.lt_of_lt_of_le (by omega) hi) hb ?_
  refine j_aload_n d_W_law_425 rfl 0 rfl ?_
  refine j_iload d_W_law_426 4 rfl ?_
  refine n_iconst d_W_law_428 3 (by decide) ?_
  refine n_add d_W_law_429 ?_
  refine n_sld d_W_law_430 (Nat.lt_of_lt_of_le (by omega) hi) hb ?_
  refine j_aload_n d_W_law_431 rfl 3 rfl ?_
  refine v_callW d_W_law_432 mw_W_lose lm_W_88 sm_W_lose ⟨Nat.le_of_ble_eq_true rfl, Nat.le_of_ble_eq_true rfl⟩ hk hn (Nat.le_of_ble_eq_true rfl) rfl (hW) rfl ?_
  rintro _ _ _ ⟨rfl, rfl, rfl⟩
  refine j_istore d_W_law_435 (i := 5) (Nat.le_of_ble_eq_true rfl) (lv' := [_, _, _, _, _, _]) rfl ?_
  refine j_aload_n d_W_law_437 rfl 3 rfl ?_
  refine j_aload_n d_W_law_438 rfl 1 rfl ?_
  refine j_iload d_W_law_439 5 rfl ?_
  refine n_iconst d_W_law_441 1 (by decide) ?_
  refine n_add d_W_law_442 ?_
  refine n_sld d_W_law_443 (Nat.lt_of_lt_of_le (by omega) hi) hb ?_
  refine j_aload_n d_W_law_444 rfl 1 rfl ?_
  refine j_iload d_W_law_445 5 rfl ?_
  refine n_iconst d_W_law_447 2 (by decide) ?_
  refine n_add d_W_law_448 ?_
  refine n_sld d_W_law_449 (Nat.lt_of_lt_of_le (by omega) hi) hb ?_
  refine j_aload_n d_W_law_450 rfl 1 rfl ?_
  refine j_iload d_W_law_451 5 rfl ?_
  refine n_iconst d_W_law_453 3 (by decide) ?_
  refine n_add d_W_law_454 ?_
  refine n_sld d_W_law_455 (Nat.lt_of_lt_of_le (by omega) hi) hb ?_
  refine v_callV d_W_law_456 mt_M_lose ln_W_91 im_M_lose se_M_lose rfl (Nat.le_of_ble_eq_true rfl) rfl rfl ⟨Nat.le_of_ble_eq_true rfl, Nat.le_of_ble_eq_true rfl⟩ (Nat.le_of_ble_eq_true rfl) rfl hk hn (hM) rfl ?_
  rintro _ _ _ ⟨rfl, rfl, rfl⟩
  refine j_istore d_W_law_459 (i := 6) (Nat.le_of_ble_eq_true rfl) (lv' := [_, _, _, _, _, _, _]) rfl ?_
  refine j_aload_n d_W_law_461 rfl 4 rfl ?_
  refine v_callV d_W_law_462 mt_M_thrown ln_W_72 im_M_thrown se_M_thrown rfl (Nat.le_of_ble_eq_true rfl) rfl rfl ⟨Nat.le_of_ble_eq_true rfl, Nat.le_of_ble_eq_true rfl⟩ (Nat.le_of_ble_eq_true rfl) rfl hk hn (c_M_thrown g V2 L2) rfl ?_
  rintro _ _ _ ⟨rfl, rfl, rfl⟩
  rw [hth]
  refine j_iload d_W_law_465 1 rfl ?_
  refine n_icmp_eq d_W_law_467 472 rfl (by omega) (by omega) (fun h => ?_) (fun h => absurd h (by omega))
  refine j_iload d_W_law_472 1 rfl ?_
  refine n_if_ne d_W_law_474 496 rfl (by omega) (fun h0 => ?_) (fun h0 => ?_)
  · refine j_goto d_W_law_496 1296 rfl ?_
    refine j_lv [2, 3, 4, 5, 6] rfl ?_
    exact kk
  · refine j_aload_n d_W_law_477 rfl 5 rfl ?_
    refine n_iconst d_W_law_478 0 (by decide) ?_
    refine v_lld d_W_law_479 rfl rfl (Nat.le_of_ble_eq_true rfl) rfl (by omega) (by omega) ?_
    rw [hz h0]
    refine j_iload d_W_law_480 0 rfl ?_
    refine n_if_eq d_W_law_482 489 rfl (by omega) (fun h9 => ?_) (fun h9 => ?_)
    · subst h9
      refine j_lconst d_W_law_489 (v := lN 0) (by decide) ?_
      refine j_lcmp d_W_law_490 ?_
      refine j_if_eq d_W_law_491 496 rfl (fun _ => ?_) (fun h => absurd (lgc_rfl _) h)
      refine j_goto d_W_law_496 1296 rfl ?_
      refine j_lv [2, 3, 4, 5, 6] rfl ?_
      exact kk
    · obtain rfl : b = 1 := by omega
      refine j_lconst d_W_law_485 (v := lN 1) (by decide) ?_
      refine j_goto d_W_law_486 490 rfl ?_
      refine j_lcmp d_W_law_490 ?_
      refine j_if_eq d_W_law_491 496 rfl (fun _ => ?_) (fun h => absurd (lgc_rfl _) h)
      refine j_goto d_W_law_496 1296 rfl ?_
      refine j_lv [2, 3, 4, 5, 6] rfl ?_
      exact kk
theorem law_change (g : jG) (kC kS : Nat) (Q : jQ) (V : Nat → Nat → Nat) (L : Nat → Nat → Int64) (k n i : Nat) (hk : k + 1 ≤ kC) (hn : n + 6 ≤ kS) (hi : i + 6 ≤ jaN g) (hb : jaN g < 2 ^ 31) (V1 V2 : Nat → Nat → Nat) (L1 L2 : Nat → Nat → Int64) (c : Nat) (hc : c < 3) (hW : jK1 g Y_W_change (7, 113) [.ref (jb g + 0), .int (jxs g (i + 1)), .int (jxs g (i + 2)), .int (jxs g (i + 3)), .int (jxs g (i + 4)), .int (jxs g (i + 5)), .ref (jb g + 103)] V L (jA0 (some (.int (nI c))) V1 L1)) (z : Int32) (hM : jK g Y_M_change (3, 66) [.ref (jb g + 85), .int (jxs g (i + 1)), .int (jxs g (i + 2)), .int (jxs g (i + 3)), .int (jxs g (i + 4)), .int (jxs g (i + 5))] V1 L1 (jA0 (some (.int z)) V2 L2)) (hth : V2 85 0 = c) (hz : c = 0 → L2 103 0 = z.toInt64) (kk : jJ (g, Y_W_law, (10, 388), kC, kS, Q) [(0, .ref (jaS g)), (1, .ref (jb g + 0)), (2, .ref (jb g + 85)), (3, .ref (jb g + 103)), (4, .int (nI i))] (jv (g, Y_W_law, (10, 388), kC, kS, Q) V2 L2 (k + 1) (n + 6)) 1296 []) : jJ (g, Y_W_law, (10, 388), kC, kS, Q) [(0, .ref (jaS g)), (1, .ref (jb g + 0)), (2, .ref (jb g + 85)), (3, .ref (jb g + 103)), (4, .int (nI i))] (jv (g, Y_W_law, (10, 388), kC, kS, Q) V L k n) 499 [] := by
  refine j_aload_n d_W_law_499 rfl 1 rfl ?_
  refine j_aload_n d_W_law_500 rfl 0 rfl ?_
  refine j_iload d_W_law_501 4 rfl ?_
  refine n_iconst d_W_law_503 1 (by decide) ?_
  refine n_add d_W_law_504 ?_
  refine n_sld d_W_law_505 (Nat.lt_of_lt_of_le (by omega) hi) hb ?_
  refine j_aload_n d_W_law_506 rfl 0 rfl ?_
  refine j_iload d_W_law_507 4 rfl ?_
  refine n_iconst d_W_law_509 2 (by decide) ?_
  refine n_add d_W_law_510 ?_
  refine n_sld d_W_law_511 (Nat.lt_of_lt_of_le (by omega) hi) hb ?_
  refine j_aload_n d_W_law_512 rfl 0 rfl ?_
  refine j_iload d_W_law_513 4 rfl ?_
  refine n_iconst d_W_law_515 3 (by decide) ?_
  refine n_add d_W_law_516 ?_
  refine n_sld d_W_law_517 (Nat.lt_of_lt_of_le (by omega) hi) hb ?_
  refine j_aload_n d_W_law_518 rfl 0 rfl ?_
  refine j_iload d_W_law_519 4 rfl ?_
  refine n_iconst d_W_law_521 4 (by decide) ?_
  refine n_add d_W_law_522 ?_
  refine n_sld d_W_law_523 (Nat.lt_of_lt_of_le (by omega) hi) hb ?_
  refine j_aload_n d_W_law_524 rfl 0 rfl ?_
  refine j_iload d_W_law_525 4 rfl ?_
  refine n_iconst d_W_law_527 5 (by decide) ?_
  refine n_add d_W_law_528 ?_
  refine n_sld d_W_law_529 (Nat.lt_of_lt_of_le (by omega) hi) hb ?_
  refine j_aload_n d_W_law_530 rfl 3 rfl ?_
  refine v_callW d_W_law_531 mw_W_change lm_W_92 sm_W_change ⟨Nat.le_of_ble_eq_true rfl, Nat.le_of_ble_eq_true rfl⟩ hk hn (Nat.le_of_ble_eq_true rfl) rfl (hW) rfl ?_
  rintro _ _ _ ⟨rfl, rfl, rfl⟩
  refine j_istore d_W_law_534 (i := 5) (Nat.le_of_ble_eq_true rfl) (lv' := [_, _, _, _, _, _]) rfl ?_
  refine j_aload_n d_W_law_536 rfl 3 rfl ?_
  refine j_aload_n d_W_law_537 rfl 1 rfl ?_
  refine j_iload d_W_law_538 5 rfl ?_
  refine n_iconst d_W_law_540 1 (by decide) ?_
  refine n_add d_W_law_541 ?_
  refine n_sld d_W_law_542 (Nat.lt_of_lt_of_le (by omega) hi) hb ?_
  refine j_aload_n d_W_law_543 rfl 1 rfl ?_
  refine j_iload d_W_law_544 5 rfl ?_
  refine n_iconst d_W_law_546 2 (by decide) ?_
  refine n_add d_W_law_547 ?_
  refine n_sld d_W_law_548 (Nat.lt_of_lt_of_le (by omega) hi) hb ?_
  refine j_aload_n d_W_law_549 rfl 1 rfl ?_
  refine j_iload d_W_law_550 5 rfl ?_
  refine n_iconst d_W_law_552 3 (by decide) ?_
  refine n_add d_W_law_553 ?_
  refine n_sld d_W_law_554 (Nat.lt_of_lt_of_le (by omega) hi) hb ?_
  refine j_aload_n d_W_law_555 rfl 1 rfl ?_
  refine j_iload d_W_law_556 5 rfl ?_
  refine n_iconst d_W_law_558 4 (by decide) ?_
  refine n_add d_W_law_559 ?_
  refine n_sld d_W_law_560 (Nat.lt_of_lt_of_le (by omega) hi) hb ?_
  refine j_aload_n d_W_law_561 rfl 1 rfl ?_
  refine j_iload d_W_law_562 5 rfl ?_
  refine n_iconst d_W_law_564 5 (by decide) ?_
  refine n_add d_W_law_565 ?_
  refine n_sld d_W_law_566 (Nat.lt_of_lt_of_le (by omega) hi) hb ?_
  refine v_callV d_W_law_567 mt_M_change ln_W_95 im_M_change se_M_change rfl (Nat.le_of_ble_eq_true rfl) rfl rfl ⟨Nat.le_of_ble_eq_true rfl, Nat.le_of_ble_eq_true rfl⟩ (Nat.le_of_ble_eq_true rfl) rfl hk hn (hM) rfl ?_
  rintro _ _ _ ⟨rfl, rfl, rfl⟩
  refine j_istore d_W_law_570 (i := 6) (Nat.le_of_ble_eq_true rfl) (lv' := [_, _, _, _, _, _, _]) rfl ?_
  refine j_aload_n d_W_law_572 rfl 4 rfl ?_
  refine v_callV d_W_law_573 mt_M_thrown ln_W_72 im_M_thrown se_M_thrown rfl (Nat.le_of_ble_eq_true rfl) rfl rfl ⟨Nat.le_of_ble_eq_true rfl, Nat.le_of_ble_eq_true rfl⟩ (Nat.le_of_ble_eq_true rfl) rfl hk hn (c_M_thrown g V2 L2) rfl ?_
  rintro _ _ _ ⟨rfl, rfl, rfl⟩
  rw [hth]
  refine j_iload d_W_law_576 1 rfl ?_
  refine n_icmp_eq d_W_law_578 583 rfl (by omega) (by omega) (fun h => ?_) (fun h => absurd h (by omega))
  refine j_iload d_W_law_583 1 rfl ?_
  refine n_if_ne d_W_law_585 600 rfl (by omega) (fun h0 => ?_) (fun h0 => ?_)
  · refine j_goto d_W_law_600 1296 rfl ?_
    refine j_lv [2, 3, 4, 5, 6] rfl ?_
    exact kk
  · refine j_aload_n d_W_law_588 rfl 5 rfl ?_
    refine n_iconst d_W_law_589 0 (by decide) ?_
    refine v_lld d_W_law_590 rfl rfl (Nat.le_of_ble_eq_true rfl) rfl (by omega) (by omega) ?_
    rw [hz h0]
    refine j_iload d_W_law_591 0 rfl ?_
    refine j_i2l d_W_law_593 rfl ?_
    refine j_lcmp d_W_law_594 ?_
    refine j_if_eq d_W_law_595 600 rfl (fun _ => ?_) (fun h => absurd (lgc_rfl _) h)
    refine j_goto d_W_law_600 1296 rfl ?_
    refine j_lv [2, 3, 4, 5, 6] rfl ?_
    exact kk
theorem law_challenge (g : jG) (kC kS : Nat) (Q : jQ) (V : Nat → Nat → Nat) (L : Nat → Nat → Int64) (k n i : Nat) (hk : k + 1 ≤ kC) (hn : n + 6 ≤ kS) (hi : i + 6 ≤ jaN g) (hb : jaN g < 2 ^ 31) (V1 V2 : Nat → Nat → Nat) (L1 L2 : Nat → Nat → Int64) (c : Nat) (hc : c < 3) (hW : jK1 g Y_W_challenge (7, 110) [.ref (jb g + 0), .int (jxs g (i + 1)), .int (jxs g (i + 2)), .int (jxs g (i + 3)), .int (jxs g (i + 4)), .ref (jb g + 103)] V L (jA0 (some (.int (nI c))) V1 L1)) (z : Int32) (hM : jK g Y_M_challenge (2, 43) [.ref (jb g + 85), .int (jxs g (i + 1)), .int (jxs g (i + 2)), .int (jxs g (i + 3)), .int (jxs g (i + 4))] V1 L1 (jA0 (some (.int z)) V2 L2)) (hth : V2 85 0 = c) (hz : c = 0 → L2 103 0 = z.toInt64) (kk : jJ (g, Y_W_law, (10, 388), kC, kS, Q) [(0, .ref (jaS g)), (1, .ref (jb g + 0)), (2, .ref (jb g + 85)), (3, .ref (jb g + 103)), (4, .int (nI i))] (jv (g, Y_W_law, (10, 388), kC, kS, Q) V2 L2 (k + 1) (n + 6)) 1296 []) : jJ (g, Y_W_law, (10, 388), kC, kS, Q) [(0, .ref (jaS g)), (1, .ref (jb g + 0)), (2, .ref (jb g + 85)), (3, .ref (jb g + 103)), (4, .int (nI i))] (jv (g, Y_W_law, (10, 388), kC, kS, Q) V L k n) 603 [] := by
  refine j_aload_n d_W_law_603 rfl 1 rfl ?_
  refine j_aload_n d_W_law_604 rfl 0 rfl ?_
  refine j_iload d_W_law_605 4 rfl ?_
  refine n_iconst d_W_law_607 1 (by decide) ?_
  refine n_add d_W_law_608 ?_
  refine n_sld d_W_law_609 (Nat.lt_of_lt_of_le (by omega) hi) hb ?_
  refine j_aload_n d_W_law_610 rfl 0 rfl ?_
  refine j_iload d_W_law_611 4 rfl ?_
  refine n_iconst d_W_law_613 2 (by decide) ?_
  refine n_add d_W_law_614 ?_
  refine n_sld d_W_law_615 (Nat.lt_of_lt_of_le (by omega) hi) hb ?_
  refine j_aload_n d_W_law_616 rfl 0 rfl ?_
  refine j_iload d_W_law_617 4 rfl ?_
  refine n_iconst d_W_law_619 3 (by decide) ?_
  refine n_add d_W_law_620 ?_
  refine n_sld d_W_law_621 (Nat.lt_of_lt_of_le (by omega) hi) hb ?_
  refine j_aload_n d_W_law_622 rfl 0 rfl ?_
  refine j_iload d_W_law_623 4 rfl ?_
  refine n_iconst d_W_law_625 4 (by decide) ?_
  refine n_add d_W_law_626 ?_
  refine n_sld d_W_law_627 (Nat.lt_of_lt_of_le (by omega) hi) hb ?_
  refine j_aload_n d_W_law_628 rfl 3 rfl ?_
  refine v_callW d_W_law_629 mw_W_challenge lm_W_96 sm_W_challenge ⟨Nat.le_of_ble_eq_true rfl, Nat.le_of_ble_eq_true rfl⟩ hk hn (Nat.le_of_ble_eq_true rfl) rfl (hW) rfl ?_
  rintro _ _ _ ⟨rfl, rfl, rfl⟩
  refine j_istore d_W_law_632 (i := 5) (Nat.le_of_ble_eq_true rfl) (lv' := [_, _, _, _, _, _]) rfl ?_
  refine j_aload_n d_W_law_634 rfl 3 rfl ?_
  refine j_aload_n d_W_law_635 rfl 1 rfl ?_
  refine j_iload d_W_law_636 5 rfl ?_
  refine n_iconst d_W_law_638 1 (by decide) ?_
  refine n_add d_W_law_639 ?_
  refine n_sld d_W_law_640 (Nat.lt_of_lt_of_le (by omega) hi) hb ?_
  refine j_aload_n d_W_law_641 rfl 1 rfl ?_
  refine j_iload d_W_law_642 5 rfl ?_
  refine n_iconst d_W_law_644 2 (by decide) ?_
  refine n_add d_W_law_645 ?_
  refine n_sld d_W_law_646 (Nat.lt_of_lt_of_le (by omega) hi) hb ?_
  refine j_aload_n d_W_law_647 rfl 1 rfl ?_
  refine j_iload d_W_law_648 5 rfl ?_
  refine n_iconst d_W_law_650 3 (by decide) ?_
  refine n_add d_W_law_651 ?_
  refine n_sld d_W_law_652 (Nat.lt_of_lt_of_le (by omega) hi) hb ?_
  refine j_aload_n d_W_law_653 rfl 1 rfl ?_
  refine j_iload d_W_law_654 5 rfl ?_
  refine n_iconst d_W_law_656 4 (by decide) ?_
  refine n_add d_W_law_657 ?_
  refine n_sld d_W_law_658 (Nat.lt_of_lt_of_le (by omega) hi) hb ?_
  refine v_callV d_W_law_659 mt_M_challenge ln_W_99 im_M_challenge se_M_challenge rfl (Nat.le_of_ble_eq_true rfl) rfl rfl ⟨Nat.le_of_ble_eq_true rfl, Nat.le_of_ble_eq_true rfl⟩ (Nat.le_of_ble_eq_true rfl) rfl hk hn (hM) rfl ?_
  rintro _ _ _ ⟨rfl, rfl, rfl⟩
  refine j_istore d_W_law_662 (i := 6) (Nat.le_of_ble_eq_true rfl) (lv' := [_, _, _, _, _, _, _]) rfl ?_
  refine j_aload_n d_W_law_664 rfl 4 rfl ?_
  refine v_callV d_W_law_665 mt_M_thrown ln_W_72 im_M_thrown se_M_thrown rfl (Nat.le_of_ble_eq_true rfl) rfl rfl ⟨Nat.le_of_ble_eq_true rfl, Nat.le_of_ble_eq_true rfl⟩ (Nat.le_of_ble_eq_true rfl) rfl hk hn (c_M_thrown g V2 L2) rfl ?_
  rintro _ _ _ ⟨rfl, rfl, rfl⟩
  rw [hth]
  refine j_iload d_W_law_668 1 rfl ?_
  refine n_icmp_eq d_W_law_670 675 rfl (by omega) (by omega) (fun h => ?_) (fun h => absurd h (by omega))
  refine j_iload d_W_law_675 1 rfl ?_
  refine n_if_ne d_W_law_677 692 rfl (by omega) (fun h0 => ?_) (fun h0 => ?_)
  · refine j_goto d_W_law_692 1296 rfl ?_
    refine j_lv [2, 3, 4, 5, 6] rfl ?_
    exact kk
  · refine j_aload_n d_W_law_680 rfl 5 rfl ?_
    refine n_iconst d_W_law_681 0 (by decide) ?_
    refine v_lld d_W_law_682 rfl rfl (Nat.le_of_ble_eq_true rfl) rfl (by omega) (by omega) ?_
    rw [hz h0]
    refine j_iload d_W_law_683 0 rfl ?_
    refine j_i2l d_W_law_685 rfl ?_
    refine j_lcmp d_W_law_686 ?_
    refine j_if_eq d_W_law_687 692 rfl (fun _ => ?_) (fun h => absurd (lgc_rfl _) h)
    refine j_goto d_W_law_692 1296 rfl ?_
    refine j_lv [2, 3, 4, 5, 6] rfl ?_
    exact kk
theorem law_asked (g : jG) (kC kS : Nat) (Q : jQ) (V : Nat → Nat → Nat) (L : Nat → Nat → Int64) (k n i : Nat) (hk : k + 1 ≤ kC) (hn : n + 6 ≤ kS) (hi : i + 6 ≤ jaN g) (hb : jaN g < 2 ^ 31) (V1 V2 : Nat → Nat → Nat) (L1 L2 : Nat → Nat → Int64) (z : Int32) (hC : jK g Y_D_asked (0, 0) [.ref (jb g + 0), .int (jxs g (i + 1)), .int (jxs g (i + 2))] V L (jA0 (some (.int z)) V1 L1)) (hM : jK g Y_M_asked (0, 0) [.ref (jb g + 85), .int (jxs g (i + 1)), .int (jxs g (i + 2))] V1 L1 (jA0 (some (.int z)) V2 L2)) (kk : jJ (g, Y_W_law, (10, 388), kC, kS, Q) [(0, .ref (jaS g)), (1, .ref (jb g + 0)), (2, .ref (jb g + 85)), (3, .ref (jb g + 103)), (4, .int (nI i))] (jv (g, Y_W_law, (10, 388), kC, kS, Q) V2 L2 k n) 1296 []) : jJ (g, Y_W_law, (10, 388), kC, kS, Q) [(0, .ref (jaS g)), (1, .ref (jb g + 0)), (2, .ref (jb g + 85)), (3, .ref (jb g + 103)), (4, .int (nI i))] (jv (g, Y_W_law, (10, 388), kC, kS, Q) V L k n) 695 [] := by
  refine j_aload_n d_W_law_695 rfl 1 rfl ?_
  refine j_aload_n d_W_law_696 rfl 0 rfl ?_
  refine j_iload d_W_law_697 4 rfl ?_
  refine n_iconst d_W_law_699 1 (by decide) ?_
  refine n_add d_W_law_700 ?_
  refine n_sld d_W_law_701 (Nat.lt_of_lt_of_le (by omega) hi) hb ?_
  refine j_aload_n d_W_law_702 rfl 0 rfl ?_
  refine j_iload d_W_law_703 4 rfl ?_
  refine n_iconst d_W_law_705 2 (by decide) ?_
  refine n_add d_W_law_706 ?_
  refine n_sld d_W_law_707 (Nat.lt_of_lt_of_le (by omega) hi) hb ?_
  refine v_callV d_W_law_708 mt_D_asked ln_W_100 im_D_asked se_D_asked rfl (Nat.le_of_ble_eq_true rfl) rfl rfl ⟨Nat.le_of_ble_eq_true rfl, Nat.le_of_ble_eq_true rfl⟩ (Nat.le_of_ble_eq_true rfl) rfl (show k ≤ kC by omega) (show n ≤ kS by omega) (hC) rfl ?_
  rintro _ _ _ ⟨rfl, rfl, rfl⟩
  refine j_aload_n d_W_law_711 rfl 2 rfl ?_
  refine j_aload_n d_W_law_712 rfl 0 rfl ?_
  refine j_iload d_W_law_713 4 rfl ?_
  refine n_iconst d_W_law_715 1 (by decide) ?_
  refine n_add d_W_law_716 ?_
  refine n_sld d_W_law_717 (Nat.lt_of_lt_of_le (by omega) hi) hb ?_
  refine j_aload_n d_W_law_718 rfl 0 rfl ?_
  refine j_iload d_W_law_719 4 rfl ?_
  refine n_iconst d_W_law_721 2 (by decide) ?_
  refine n_add d_W_law_722 ?_
  refine n_sld d_W_law_723 (Nat.lt_of_lt_of_le (by omega) hi) hb ?_
  refine v_callV d_W_law_724 mt_M_asked ln_W_103 im_M_asked se_M_asked rfl (Nat.le_of_ble_eq_true rfl) rfl rfl ⟨Nat.le_of_ble_eq_true rfl, Nat.le_of_ble_eq_true rfl⟩ (Nat.le_of_ble_eq_true rfl) rfl (show k ≤ kC by omega) (show n ≤ kS by omega) (hM) rfl ?_
  rintro _ _ _ ⟨rfl, rfl, rfl⟩
  exact j_icmp_eq d_W_law_727 1296 rfl (fun _ => kk) (fun h => absurd rfl h)
theorem law_tamper (g : jG) (kC kS : Nat) (Q : jQ) (V : Nat → Nat → Nat) (L : Nat → Nat → Int64) (k n i : Nat) (hk : k + 1 ≤ kC) (hn : n + 6 ≤ kS) (hi : i + 6 ≤ jaN g) (hb : jaN g < 2 ^ 31) (V1 V2 : Nat → Nat → Nat) (L1 L2 : Nat → Nat → Int64) (z : Int32) (hC : jK g Y_D_tamper (1, 21) [.ref (jb g + 0), .int (jxs g (i + 1)), .int (jxs g (i + 2))] V L (jA0 (some (.int z)) V1 L1)) (hM : jK g Y_M_tamper (1, 20) [.ref (jb g + 85), .int (jxs g (i + 1)), .int (jxs g (i + 2))] V1 L1 (jA0 (some (.int z)) V2 L2)) (kk : jJ (g, Y_W_law, (10, 388), kC, kS, Q) [(0, .ref (jaS g)), (1, .ref (jb g + 0)), (2, .ref (jb g + 85)), (3, .ref (jb g + 103)), (4, .int (nI i))] (jv (g, Y_W_law, (10, 388), kC, kS, Q) V2 L2 k n) 1296 []) : jJ (g, Y_W_law, (10, 388), kC, kS, Q) [(0, .ref (jaS g)), (1, .ref (jb g + 0)), (2, .ref (jb g + 85)), (3, .ref (jb g + 103)), (4, .int (nI i))] (jv (g, Y_W_law, (10, 388), kC, kS, Q) V L k n) 732 [] := by
  refine j_aload_n d_W_law_732 rfl 1 rfl ?_
  refine j_aload_n d_W_law_733 rfl 0 rfl ?_
  refine j_iload d_W_law_734 4 rfl ?_
  refine n_iconst d_W_law_736 1 (by decide) ?_
  refine n_add d_W_law_737 ?_
  refine n_sld d_W_law_738 (Nat.lt_of_lt_of_le (by omega) hi) hb ?_
  refine j_aload_n d_W_law_739 rfl 0 rfl ?_
  refine j_iload d_W_law_740 4 rfl ?_
  refine n_iconst d_W_law_742 2 (by decide) ?_
  refine n_add d_W_law_743 ?_
  refine n_sld d_W_law_744 (Nat.lt_of_lt_of_le (by omega) hi) hb ?_
  refine v_callV d_W_law_745 mt_D_tamper ln_W_104 im_D_tamper se_D_tamper rfl (Nat.le_of_ble_eq_true rfl) rfl rfl ⟨Nat.le_of_ble_eq_true rfl, Nat.le_of_ble_eq_true rfl⟩ (Nat.le_of_ble_eq_true rfl) rfl (show k ≤ kC by omega) (show n ≤ kS by omega) (hC) rfl ?_
  rintro _ _ _ ⟨rfl, rfl, rfl⟩
  refine j_aload_n d_W_law_748 rfl 2 rfl ?_
  refine j_aload_n d_W_law_749 rfl 0 rfl ?_
  refine j_iload d_W_law_750 4 rfl ?_
  refine n_iconst d_W_law_752 1 (by decide) ?_
  refine n_add d_W_law_753 ?_
  refine n_sld d_W_law_754 (Nat.lt_of_lt_of_le (by omega) hi) hb ?_
  refine j_aload_n d_W_law_755 rfl 0 rfl ?_
  refine j_iload d_W_law_756 4 rfl ?_
  refine n_iconst d_W_law_758 2 (by decide) ?_
  refine n_add d_W_law_759 ?_
  refine n_sld d_W_law_760 (Nat.lt_of_lt_of_le (by omega) hi) hb ?_
  refine v_callV d_W_law_761 mt_M_tamper ln_W_107 im_M_tamper se_M_tamper rfl (Nat.le_of_ble_eq_true rfl) rfl rfl ⟨Nat.le_of_ble_eq_true rfl, Nat.le_of_ble_eq_true rfl⟩ (Nat.le_of_ble_eq_true rfl) rfl (show k ≤ kC by omega) (show n ≤ kS by omega) (hM) rfl ?_
  rintro _ _ _ ⟨rfl, rfl, rfl⟩
  exact j_icmp_eq d_W_law_764 1296 rfl (fun _ => kk) (fun h => absurd rfl h)
theorem law_judge (g : jG) (kC kS : Nat) (Q : jQ) (V : Nat → Nat → Nat) (L : Nat → Nat → Int64) (k n i : Nat) (hk : k + 1 ≤ kC) (hn : n + 6 ≤ kS) (hi : i + 6 ≤ jaN g) (hb : jaN g < 2 ^ 31) (V1 V2 : Nat → Nat → Nat) (L1 L2 : Nat → Nat → Int64) (c : Nat) (hc : c < 3) (hW : jK1 g Y_W_judge (7, 107) [.ref (jb g + 0), .ref (jb g + 103)] V L (jA0 (some (.int (nI c))) V1 L1)) (b : Nat) (hb1 : b ≤ 1) (hM : jK g Y_M_judge (1, 24) [.ref (jb g + 85)] V1 L1 (jA0 (some (.int (nI b))) V2 L2)) (hth : V2 85 0 = c) (hz : c = 0 → L2 103 0 = lN b) (kk : jJ (g, Y_W_law, (10, 388), kC, kS, Q) [(0, .ref (jaS g)), (1, .ref (jb g + 0)), (2, .ref (jb g + 85)), (3, .ref (jb g + 103)), (4, .int (nI i))] (jv (g, Y_W_law, (10, 388), kC, kS, Q) V2 L2 (k + 1) (n + 6)) 1296 []) : jJ (g, Y_W_law, (10, 388), kC, kS, Q) [(0, .ref (jaS g)), (1, .ref (jb g + 0)), (2, .ref (jb g + 85)), (3, .ref (jb g + 103)), (4, .int (nI i))] (jv (g, Y_W_law, (10, 388), kC, kS, Q) V L k n) 769 [] := by
  refine j_aload_n d_W_law_769 rfl 1 rfl ?_
  refine j_aload_n d_W_law_770 rfl 3 rfl ?_
  refine v_callW d_W_law_771 mw_W_judge lm_W_108 sm_W_judge ⟨Nat.le_of_ble_eq_true rfl, Nat.le_of_ble_eq_true rfl⟩ hk hn (Nat.le_of_ble_eq_true rfl) rfl (hW) rfl ?_
  rintro _ _ _ ⟨rfl, rfl, rfl⟩
  refine j_istore d_W_law_774 (i := 5) (Nat.le_of_ble_eq_true rfl) (lv' := [_, _, _, _, _, _]) rfl ?_
  refine j_aload_n d_W_law_776 rfl 3 rfl ?_
  refine v_callV d_W_law_777 mt_M_judge ln_W_111 im_M_judge se_M_judge rfl (Nat.le_of_ble_eq_true rfl) rfl rfl ⟨Nat.le_of_ble_eq_true rfl, Nat.le_of_ble_eq_true rfl⟩ (Nat.le_of_ble_eq_true rfl) rfl hk hn (hM) rfl ?_
  rintro _ _ _ ⟨rfl, rfl, rfl⟩
  refine j_istore d_W_law_780 (i := 6) (Nat.le_of_ble_eq_true rfl) (lv' := [_, _, _, _, _, _, _]) rfl ?_
  refine j_aload_n d_W_law_782 rfl 4 rfl ?_
  refine v_callV d_W_law_783 mt_M_thrown ln_W_72 im_M_thrown se_M_thrown rfl (Nat.le_of_ble_eq_true rfl) rfl rfl ⟨Nat.le_of_ble_eq_true rfl, Nat.le_of_ble_eq_true rfl⟩ (Nat.le_of_ble_eq_true rfl) rfl hk hn (c_M_thrown g V2 L2) rfl ?_
  rintro _ _ _ ⟨rfl, rfl, rfl⟩
  rw [hth]
  refine j_iload d_W_law_786 1 rfl ?_
  refine n_icmp_eq d_W_law_788 793 rfl (by omega) (by omega) (fun h => ?_) (fun h => absurd h (by omega))
  refine j_iload d_W_law_793 1 rfl ?_
  refine n_if_ne d_W_law_795 817 rfl (by omega) (fun h0 => ?_) (fun h0 => ?_)
  · refine j_goto d_W_law_817 1296 rfl ?_
    refine j_lv [2, 3, 4, 5, 6] rfl ?_
    exact kk
  · refine j_aload_n d_W_law_798 rfl 5 rfl ?_
    refine n_iconst d_W_law_799 0 (by decide) ?_
    refine v_lld d_W_law_800 rfl rfl (Nat.le_of_ble_eq_true rfl) rfl (by omega) (by omega) ?_
    rw [hz h0]
    refine j_iload d_W_law_801 0 rfl ?_
    refine n_if_eq d_W_law_803 810 rfl (by omega) (fun h9 => ?_) (fun h9 => ?_)
    · subst h9
      refine j_lconst d_W_law_810 (v := lN 0) (by decide) ?_
      refine j_lcmp d_W_law_811 ?_
      refine j_if_eq d_W_law_812 817 rfl (fun _ => ?_) (fun h => absurd (lgc_rfl _) h)
      refine j_goto d_W_law_817 1296 rfl ?_
      refine j_lv [2, 3, 4, 5, 6] rfl ?_
      exact kk
    · obtain rfl : b = 1 := by omega
      refine j_lconst d_W_law_806 (v := lN 1) (by decide) ?_
      refine j_goto d_W_law_807 811 rfl ?_
      refine j_lcmp d_W_law_811 ?_
      refine j_if_eq d_W_law_812 817 rfl (fun _ => ?_) (fun h => absurd (lgc_rfl _) h)
      refine j_goto d_W_law_817 1296 rfl ?_
      refine j_lv [2, 3, 4, 5, 6] rfl ?_
      exact kk
theorem law_locate (g : jG) (kC kS : Nat) (Q : jQ) (V : Nat → Nat → Nat) (L : Nat → Nat → Int64) (k n i : Nat) (hk : k + 1 ≤ kC) (hn : n + 6 ≤ kS) (hi : i + 6 ≤ jaN g) (hb : jaN g < 2 ^ 31) (V1 V2 : Nat → Nat → Nat) (L1 L2 : Nat → Nat → Int64) (c : Nat) (hc : c < 3) (hW : jK1 g Y_W_locate (7, 109) [.ref (jb g + 0), .int (jxs g (i + 1)), .int (jxs g (i + 2)), .ref (jb g + 103)] V L (jA0 (some (.int (nI c))) V1 L1)) (z : Int32) (hM : jK g Y_M_locate (3, 75) [.ref (jb g + 85), .int (jxs g (i + 1)), .int (jxs g (i + 2))] V1 L1 (jA0 (some (.int z)) V2 L2)) (hth : V2 85 0 = c) (hz : c = 0 → L2 103 0 = z.toInt64) (kk : jJ (g, Y_W_law, (10, 388), kC, kS, Q) [(0, .ref (jaS g)), (1, .ref (jb g + 0)), (2, .ref (jb g + 85)), (3, .ref (jb g + 103)), (4, .int (nI i))] (jv (g, Y_W_law, (10, 388), kC, kS, Q) V2 L2 (k + 1) (n + 6)) 1296 []) : jJ (g, Y_W_law, (10, 388), kC, kS, Q) [(0, .ref (jaS g)), (1, .ref (jb g + 0)), (2, .ref (jb g + 85)), (3, .ref (jb g + 103)), (4, .int (nI i))] (jv (g, Y_W_law, (10, 388), kC, kS, Q) V L k n) 820 [] := by
  refine j_aload_n d_W_law_820 rfl 1 rfl ?_
  refine j_aload_n d_W_law_821 rfl 0 rfl ?_
  refine j_iload d_W_law_822 4 rfl ?_
  refine n_iconst d_W_law_824 1 (by decide) ?_
  refine n_add d_W_law_825 ?_
  refine n_sld d_W_law_826 (Nat.lt_of_lt_of_le (by omega) hi) hb ?_
  refine j_aload_n d_W_law_827 rfl 0 rfl ?_
  refine j_iload d_W_law_828 4 rfl ?_
  refine n_iconst d_W_law_830 2 (by decide) ?_
  refine n_add d_W_law_831 ?_
  refine n_sld d_W_law_832 (Nat.lt_of_lt_of_le (by omega) hi) hb ?_
  refine j_aload_n d_W_law_833 rfl 3 rfl ?_
  refine v_callW d_W_law_834 mw_W_locate lm_W_112 sm_W_locate ⟨Nat.le_of_ble_eq_true rfl, Nat.le_of_ble_eq_true rfl⟩ hk hn (Nat.le_of_ble_eq_true rfl) rfl (hW) rfl ?_
  rintro _ _ _ ⟨rfl, rfl, rfl⟩
  refine j_istore d_W_law_837 (i := 5) (Nat.le_of_ble_eq_true rfl) (lv' := [_, _, _, _, _, _]) rfl ?_
  refine j_aload_n d_W_law_839 rfl 3 rfl ?_
  refine j_aload_n d_W_law_840 rfl 1 rfl ?_
  refine j_iload d_W_law_841 5 rfl ?_
  refine n_iconst d_W_law_843 1 (by decide) ?_
  refine n_add d_W_law_844 ?_
  refine n_sld d_W_law_845 (Nat.lt_of_lt_of_le (by omega) hi) hb ?_
  refine j_aload_n d_W_law_846 rfl 1 rfl ?_
  refine j_iload d_W_law_847 5 rfl ?_
  refine n_iconst d_W_law_849 2 (by decide) ?_
  refine n_add d_W_law_850 ?_
  refine n_sld d_W_law_851 (Nat.lt_of_lt_of_le (by omega) hi) hb ?_
  refine v_callV d_W_law_852 mt_M_locate ln_W_114 im_M_locate se_M_locate rfl (Nat.le_of_ble_eq_true rfl) rfl rfl ⟨Nat.le_of_ble_eq_true rfl, Nat.le_of_ble_eq_true rfl⟩ (Nat.le_of_ble_eq_true rfl) rfl hk hn (hM) rfl ?_
  rintro _ _ _ ⟨rfl, rfl, rfl⟩
  refine j_istore d_W_law_855 (i := 6) (Nat.le_of_ble_eq_true rfl) (lv' := [_, _, _, _, _, _, _]) rfl ?_
  refine j_aload_n d_W_law_857 rfl 4 rfl ?_
  refine v_callV d_W_law_858 mt_M_thrown ln_W_72 im_M_thrown se_M_thrown rfl (Nat.le_of_ble_eq_true rfl) rfl rfl ⟨Nat.le_of_ble_eq_true rfl, Nat.le_of_ble_eq_true rfl⟩ (Nat.le_of_ble_eq_true rfl) rfl hk hn (c_M_thrown g V2 L2) rfl ?_
  rintro _ _ _ ⟨rfl, rfl, rfl⟩
  rw [hth]
  refine j_iload d_W_law_861 1 rfl ?_
  refine n_icmp_eq d_W_law_863 868 rfl (by omega) (by omega) (fun h => ?_) (fun h => absurd h (by omega))
  refine j_iload d_W_law_868 1 rfl ?_
  refine n_if_ne d_W_law_870 885 rfl (by omega) (fun h0 => ?_) (fun h0 => ?_)
  · refine j_goto d_W_law_885 1296 rfl ?_
    refine j_lv [2, 3, 4, 5, 6] rfl ?_
    exact kk
  · refine j_aload_n d_W_law_873 rfl 5 rfl ?_
    refine n_iconst d_W_law_874 0 (by decide) ?_
    refine v_lld d_W_law_875 rfl rfl (Nat.le_of_ble_eq_true rfl) rfl (by omega) (by omega) ?_
    rw [hz h0]
    refine j_iload d_W_law_876 0 rfl ?_
    refine j_i2l d_W_law_878 rfl ?_
    refine j_lcmp d_W_law_879 ?_
    refine j_if_eq d_W_law_880 885 rfl (fun _ => ?_) (fun h => absurd (lgc_rfl _) h)
    refine j_goto d_W_law_885 1296 rfl ?_
    refine j_lv [2, 3, 4, 5, 6] rfl ?_
    exact kk
theorem law_found (g : jG) (kC kS : Nat) (Q : jQ) (V : Nat → Nat → Nat) (L : Nat → Nat → Int64) (k n i : Nat) (hk : k + 1 ≤ kC) (hn : n + 6 ≤ kS) (hi : i + 6 ≤ jaN g) (hb : jaN g < 2 ^ 31) (V1 V2 : Nat → Nat → Nat) (L1 L2 : Nat → Nat → Int64) (z : Int32) (hC : jK g Y_D_found (0, 0) [.ref (jb g + 0), .int (jxs g (i + 1))] V L (jA0 (some (.int z)) V1 L1)) (hM : jK g Y_M_found (0, 0) [.ref (jb g + 85), .int (jxs g (i + 1))] V1 L1 (jA0 (some (.int z)) V2 L2)) (kk : jJ (g, Y_W_law, (10, 388), kC, kS, Q) [(0, .ref (jaS g)), (1, .ref (jb g + 0)), (2, .ref (jb g + 85)), (3, .ref (jb g + 103)), (4, .int (nI i))] (jv (g, Y_W_law, (10, 388), kC, kS, Q) V2 L2 k n) 1296 []) : jJ (g, Y_W_law, (10, 388), kC, kS, Q) [(0, .ref (jaS g)), (1, .ref (jb g + 0)), (2, .ref (jb g + 85)), (3, .ref (jb g + 103)), (4, .int (nI i))] (jv (g, Y_W_law, (10, 388), kC, kS, Q) V L k n) 888 [] := by
  refine j_aload_n d_W_law_888 rfl 1 rfl ?_
  refine j_aload_n d_W_law_889 rfl 0 rfl ?_
  refine j_iload d_W_law_890 4 rfl ?_
  refine n_iconst d_W_law_892 1 (by decide) ?_
  refine n_add d_W_law_893 ?_
  refine n_sld d_W_law_894 (Nat.lt_of_lt_of_le (by omega) hi) hb ?_
  refine v_callV d_W_law_895 mt_D_found ln_W_115 im_D_found se_D_found rfl (Nat.le_of_ble_eq_true rfl) rfl rfl ⟨Nat.le_of_ble_eq_true rfl, Nat.le_of_ble_eq_true rfl⟩ (Nat.le_of_ble_eq_true rfl) rfl (show k ≤ kC by omega) (show n ≤ kS by omega) (hC) rfl ?_
  rintro _ _ _ ⟨rfl, rfl, rfl⟩
  refine j_aload_n d_W_law_898 rfl 2 rfl ?_
  refine j_aload_n d_W_law_899 rfl 0 rfl ?_
  refine j_iload d_W_law_900 4 rfl ?_
  refine n_iconst d_W_law_902 1 (by decide) ?_
  refine n_add d_W_law_903 ?_
  refine n_sld d_W_law_904 (Nat.lt_of_lt_of_le (by omega) hi) hb ?_
  refine v_callV d_W_law_905 mt_M_found ln_W_118 im_M_found se_M_found rfl (Nat.le_of_ble_eq_true rfl) rfl rfl ⟨Nat.le_of_ble_eq_true rfl, Nat.le_of_ble_eq_true rfl⟩ (Nat.le_of_ble_eq_true rfl) rfl (show k ≤ kC by omega) (show n ≤ kS by omega) (hM) rfl ?_
  rintro _ _ _ ⟨rfl, rfl, rfl⟩
  exact j_icmp_eq d_W_law_908 1296 rfl (fun _ => kk) (fun h => absurd rfl h)
theorem law_repair (g : jG) (kC kS : Nat) (Q : jQ) (V : Nat → Nat → Nat) (L : Nat → Nat → Int64) (k n i : Nat) (hk : k + 1 ≤ kC) (hn : n + 6 ≤ kS) (hi : i + 6 ≤ jaN g) (hb : jaN g < 2 ^ 31) (V1 V2 : Nat → Nat → Nat) (L1 L2 : Nat → Nat → Int64) (c : Nat) (hc : c < 3) (hW : jK1 g Y_W_repair (7, 169) [.ref (jb g + 0), .int (jxs g (i + 1)), .int (jxs g (i + 2)), .ref (jb g + 103)] V L (jA0 (some (.int (nI c))) V1 L1)) (z : Int32) (hM : jK g Y_M_repair (5, 123) [.ref (jb g + 85), .int (jxs g (i + 1)), .int (jxs g (i + 2))] V1 L1 (jA0 (some (.int z)) V2 L2)) (hth : V2 85 0 = c) (hz : c = 0 → L2 103 0 = z.toInt64) (kk : jJ (g, Y_W_law, (10, 388), kC, kS, Q) [(0, .ref (jaS g)), (1, .ref (jb g + 0)), (2, .ref (jb g + 85)), (3, .ref (jb g + 103)), (4, .int (nI i))] (jv (g, Y_W_law, (10, 388), kC, kS, Q) V2 L2 (k + 1) (n + 6)) 1296 []) : jJ (g, Y_W_law, (10, 388), kC, kS, Q) [(0, .ref (jaS g)), (1, .ref (jb g + 0)), (2, .ref (jb g + 85)), (3, .ref (jb g + 103)), (4, .int (nI i))] (jv (g, Y_W_law, (10, 388), kC, kS, Q) V L k n) 913 [] := by
  refine j_aload_n d_W_law_913 rfl 1 rfl ?_
  refine j_aload_n d_W_law_914 rfl 0 rfl ?_
  refine j_iload d_W_law_915 4 rfl ?_
  refine n_iconst d_W_law_917 1 (by decide) ?_
  refine n_add d_W_law_918 ?_
  refine n_sld d_W_law_919 (Nat.lt_of_lt_of_le (by omega) hi) hb ?_
  refine j_aload_n d_W_law_920 rfl 0 rfl ?_
  refine j_iload d_W_law_921 4 rfl ?_
  refine n_iconst d_W_law_923 2 (by decide) ?_
  refine n_add d_W_law_924 ?_
  refine n_sld d_W_law_925 (Nat.lt_of_lt_of_le (by omega) hi) hb ?_
  refine j_aload_n d_W_law_926 rfl 3 rfl ?_
  refine v_callW d_W_law_927 mw_W_repair lm_W_119 sm_W_repair ⟨Nat.le_of_ble_eq_true rfl, Nat.le_of_ble_eq_true rfl⟩ hk hn (Nat.le_of_ble_eq_true rfl) rfl (hW) rfl ?_
  rintro _ _ _ ⟨rfl, rfl, rfl⟩
  refine j_istore d_W_law_930 (i := 5) (Nat.le_of_ble_eq_true rfl) (lv' := [_, _, _, _, _, _]) rfl ?_
  refine j_aload_n d_W_law_932 rfl 3 rfl ?_
  refine j_aload_n d_W_law_933 rfl 1 rfl ?_
  refine j_iload d_W_law_934 5 rfl ?_
  refine n_iconst d_W_law_936 1 (by decide) ?_
  refine n_add d_W_law_937 ?_
  refine n_sld d_W_law_938 (Nat.lt_of_lt_of_le (by omega) hi) hb ?_
  refine j_aload_n d_W_law_939 rfl 1 rfl ?_
  refine j_iload d_W_law_940 5 rfl ?_
  refine n_iconst d_W_law_942 2 (by decide) ?_
  refine n_add d_W_law_943 ?_
  refine n_sld d_W_law_944 (Nat.lt_of_lt_of_le (by omega) hi) hb ?_
  refine v_callV d_W_law_945 mt_M_repair ln_W_121 im_M_repair se_M_repair rfl (Nat.le_of_ble_eq_true rfl) rfl rfl ⟨Nat.le_of_ble_eq_true rfl, Nat.le_of_ble_eq_true rfl⟩ (Nat.le_of_ble_eq_true rfl) rfl hk hn (hM) rfl ?_
  rintro _ _ _ ⟨rfl, rfl, rfl⟩
  refine j_istore d_W_law_948 (i := 6) (Nat.le_of_ble_eq_true rfl) (lv' := [_, _, _, _, _, _, _]) rfl ?_
  refine j_aload_n d_W_law_950 rfl 4 rfl ?_
  refine v_callV d_W_law_951 mt_M_thrown ln_W_72 im_M_thrown se_M_thrown rfl (Nat.le_of_ble_eq_true rfl) rfl rfl ⟨Nat.le_of_ble_eq_true rfl, Nat.le_of_ble_eq_true rfl⟩ (Nat.le_of_ble_eq_true rfl) rfl hk hn (c_M_thrown g V2 L2) rfl ?_
  rintro _ _ _ ⟨rfl, rfl, rfl⟩
  rw [hth]
  refine j_iload d_W_law_954 1 rfl ?_
  refine n_icmp_eq d_W_law_956 961 rfl (by omega) (by omega) (fun h => ?_) (fun h => absurd h (by omega))
  refine j_iload d_W_law_961 1 rfl ?_
  refine n_if_ne d_W_law_963 978 rfl (by omega) (fun h0 => ?_) (fun h0 => ?_)
  · refine j_goto d_W_law_978 1296 rfl ?_
    refine j_lv [2, 3, 4, 5, 6] rfl ?_
    exact kk
  · refine j_aload_n d_W_law_966 rfl 5 rfl ?_
    refine n_iconst d_W_law_967 0 (by decide) ?_
    refine v_lld d_W_law_968 rfl rfl (Nat.le_of_ble_eq_true rfl) rfl (by omega) (by omega) ?_
    rw [hz h0]
    refine j_iload d_W_law_969 0 rfl ?_
    refine j_i2l d_W_law_971 rfl ?_
    refine j_lcmp d_W_law_972 ?_
    refine j_if_eq d_W_law_973 978 rfl (fun _ => ?_) (fun h => absurd (lgc_rfl _) h)
    refine j_goto d_W_law_978 1296 rfl ?_
    refine j_lv [2, 3, 4, 5, 6] rfl ?_
    exact kk
theorem law_fetch (g : jG) (kC kS : Nat) (Q : jQ) (V : Nat → Nat → Nat) (L : Nat → Nat → Int64) (k n i : Nat) (hk : k + 1 ≤ kC) (hn : n + 6 ≤ kS) (hi : i + 6 ≤ jaN g) (hb : jaN g < 2 ^ 31) (V1 V2 : Nat → Nat → Nat) (L1 L2 : Nat → Nat → Int64) (c : Nat) (hc : c < 3) (hW : jK1 g Y_W_fetch (7, 168) [.ref (jb g + 0), .int (jxs g (i + 1)), .ref (jb g + 103)] V L (jA0 (some (.int (nI c))) V1 L1)) (z : Int32) (hM : jK g Y_M_fetch (5, 123) [.ref (jb g + 85), .int (jxs g (i + 1))] V1 L1 (jA0 (some (.int z)) V2 L2)) (hth : V2 85 0 = c) (hz : c = 0 → L2 103 0 = z.toInt64) (kk : jJ (g, Y_W_law, (10, 388), kC, kS, Q) [(0, .ref (jaS g)), (1, .ref (jb g + 0)), (2, .ref (jb g + 85)), (3, .ref (jb g + 103)), (4, .int (nI i))] (jv (g, Y_W_law, (10, 388), kC, kS, Q) V2 L2 (k + 1) (n + 6)) 1296 []) : jJ (g, Y_W_law, (10, 388), kC, kS, Q) [(0, .ref (jaS g)), (1, .ref (jb g + 0)), (2, .ref (jb g + 85)), (3, .ref (jb g + 103)), (4, .int (nI i))] (jv (g, Y_W_law, (10, 388), kC, kS, Q) V L k n) 981 [] := by
  refine j_aload_n d_W_law_981 rfl 1 rfl ?_
  refine j_aload_n d_W_law_982 rfl 0 rfl ?_
  refine j_iload d_W_law_983 4 rfl ?_
  refine n_iconst d_W_law_985 1 (by decide) ?_
  refine n_add d_W_law_986 ?_
  refine n_sld d_W_law_987 (Nat.lt_of_lt_of_le (by omega) hi) hb ?_
  refine j_aload_n d_W_law_988 rfl 3 rfl ?_
  refine v_callW d_W_law_989 mw_W_fetch lm_W_122 sm_W_fetch ⟨Nat.le_of_ble_eq_true rfl, Nat.le_of_ble_eq_true rfl⟩ hk hn (Nat.le_of_ble_eq_true rfl) rfl (hW) rfl ?_
  rintro _ _ _ ⟨rfl, rfl, rfl⟩
  refine j_istore d_W_law_992 (i := 5) (Nat.le_of_ble_eq_true rfl) (lv' := [_, _, _, _, _, _]) rfl ?_
  refine j_aload_n d_W_law_994 rfl 3 rfl ?_
  refine j_aload_n d_W_law_995 rfl 1 rfl ?_
  refine j_iload d_W_law_996 5 rfl ?_
  refine n_iconst d_W_law_998 1 (by decide) ?_
  refine n_add d_W_law_999 ?_
  refine n_sld d_W_law_1000 (Nat.lt_of_lt_of_le (by omega) hi) hb ?_
  refine v_callV d_W_law_1001 mt_M_fetch ln_W_124 im_M_fetch se_M_fetch rfl (Nat.le_of_ble_eq_true rfl) rfl rfl ⟨Nat.le_of_ble_eq_true rfl, Nat.le_of_ble_eq_true rfl⟩ (Nat.le_of_ble_eq_true rfl) rfl hk hn (hM) rfl ?_
  rintro _ _ _ ⟨rfl, rfl, rfl⟩
  refine j_istore d_W_law_1004 (i := 6) (Nat.le_of_ble_eq_true rfl) (lv' := [_, _, _, _, _, _, _]) rfl ?_
  refine j_aload_n d_W_law_1006 rfl 4 rfl ?_
  refine v_callV d_W_law_1007 mt_M_thrown ln_W_72 im_M_thrown se_M_thrown rfl (Nat.le_of_ble_eq_true rfl) rfl rfl ⟨Nat.le_of_ble_eq_true rfl, Nat.le_of_ble_eq_true rfl⟩ (Nat.le_of_ble_eq_true rfl) rfl hk hn (c_M_thrown g V2 L2) rfl ?_
  rintro _ _ _ ⟨rfl, rfl, rfl⟩
  rw [hth]
  refine j_iload d_W_law_1010 1 rfl ?_
  refine n_icmp_eq d_W_law_1012 1017 rfl (by omega) (by omega) (fun h => ?_) (fun h => absurd h (by omega))
  refine j_iload d_W_law_1017 1 rfl ?_
  refine n_if_ne d_W_law_1019 1034 rfl (by omega) (fun h0 => ?_) (fun h0 => ?_)
  · refine j_goto d_W_law_1034 1296 rfl ?_
    refine j_lv [2, 3, 4, 5, 6] rfl ?_
    exact kk
  · refine j_aload_n d_W_law_1022 rfl 5 rfl ?_
    refine n_iconst d_W_law_1023 0 (by decide) ?_
    refine v_lld d_W_law_1024 rfl rfl (Nat.le_of_ble_eq_true rfl) rfl (by omega) (by omega) ?_
    rw [hz h0]
    refine j_iload d_W_law_1025 0 rfl ?_
    refine j_i2l d_W_law_1027 rfl ?_
    refine j_lcmp d_W_law_1028 ?_
    refine j_if_eq d_W_law_1029 1034 rfl (fun _ => ?_) (fun h => absurd (lgc_rfl _) h)
    refine j_goto d_W_law_1034 1296 rfl ?_
    refine j_lv [2, 3, 4, 5, 6] rfl ?_
    exact kk
theorem law_fetched (g : jG) (kC kS : Nat) (Q : jQ) (V : Nat → Nat → Nat) (L : Nat → Nat → Int64) (k n i : Nat) (hk : k + 1 ≤ kC) (hn : n + 6 ≤ kS) (hi : i + 6 ≤ jaN g) (hb : jaN g < 2 ^ 31) (V1 V2 : Nat → Nat → Nat) (L1 L2 : Nat → Nat → Int64) (z : Int32) (hC : jK g Y_D_fetched (0, 0) [.ref (jb g + 0), .int (jxs g (i + 1))] V L (jA0 (some (.int z)) V1 L1)) (hM : jK g Y_M_fetched (0, 0) [.ref (jb g + 85), .int (jxs g (i + 1))] V1 L1 (jA0 (some (.int z)) V2 L2)) (kk : jJ (g, Y_W_law, (10, 388), kC, kS, Q) [(0, .ref (jaS g)), (1, .ref (jb g + 0)), (2, .ref (jb g + 85)), (3, .ref (jb g + 103)), (4, .int (nI i))] (jv (g, Y_W_law, (10, 388), kC, kS, Q) V2 L2 k n) 1296 []) : jJ (g, Y_W_law, (10, 388), kC, kS, Q) [(0, .ref (jaS g)), (1, .ref (jb g + 0)), (2, .ref (jb g + 85)), (3, .ref (jb g + 103)), (4, .int (nI i))] (jv (g, Y_W_law, (10, 388), kC, kS, Q) V L k n) 1037 [] := by
  refine j_aload_n d_W_law_1037 rfl 1 rfl ?_
  refine j_aload_n d_W_law_1038 rfl 0 rfl ?_
  refine j_iload d_W_law_1039 4 rfl ?_
  refine n_iconst d_W_law_1041 1 (by decide) ?_
  refine n_add d_W_law_1042 ?_
  refine n_sld d_W_law_1043 (Nat.lt_of_lt_of_le (by omega) hi) hb ?_
  refine v_callV d_W_law_1044 mt_D_fetched ln_W_125 im_D_fetched se_D_fetched rfl (Nat.le_of_ble_eq_true rfl) rfl rfl ⟨Nat.le_of_ble_eq_true rfl, Nat.le_of_ble_eq_true rfl⟩ (Nat.le_of_ble_eq_true rfl) rfl (show k ≤ kC by omega) (show n ≤ kS by omega) (hC) rfl ?_
  rintro _ _ _ ⟨rfl, rfl, rfl⟩
  refine j_aload_n d_W_law_1047 rfl 2 rfl ?_
  refine j_aload_n d_W_law_1048 rfl 0 rfl ?_
  refine j_iload d_W_law_1049 4 rfl ?_
  refine n_iconst d_W_law_1051 1 (by decide) ?_
  refine n_add d_W_law_1052 ?_
  refine n_sld d_W_law_1053 (Nat.lt_of_lt_of_le (by omega) hi) hb ?_
  refine v_callV d_W_law_1054 mt_M_fetched ln_W_128 im_M_fetched se_M_fetched rfl (Nat.le_of_ble_eq_true rfl) rfl rfl ⟨Nat.le_of_ble_eq_true rfl, Nat.le_of_ble_eq_true rfl⟩ (Nat.le_of_ble_eq_true rfl) rfl (show k ≤ kC by omega) (show n ≤ kS by omega) (hM) rfl ?_
  rintro _ _ _ ⟨rfl, rfl, rfl⟩
  exact j_icmp_eq d_W_law_1057 1296 rfl (fun _ => kk) (fun h => absurd rfl h)
theorem law_made (g : jG) (kC kS : Nat) (Q : jQ) (V : Nat → Nat → Nat) (L : Nat → Nat → Int64) (k n i : Nat) (hk : k + 1 ≤ kC) (hn : n + 6 ≤ kS) (hi : i + 6 ≤ jaN g) (hb : jaN g < 2 ^ 31) (V1 V2 : Nat → Nat → Nat) (L1 L2 : Nat → Nat → Int64) (c : Nat) (hc : c < 3) (hW : jK1 g Y_W_made (7, 109) [.ref (jb g + 0), .int (jxs g (i + 1)), .int (jxs g (i + 2)), .int (jxs g (i + 3)), .ref (jb g + 103)] V L (jA0 (some (.int (nI c))) V1 L1)) (z : Int32) (hM : jK g Y_M_made (1, 21) [.ref (jb g + 85), .int (jxs g (i + 1)), .int (jxs g (i + 2)), .int (jxs g (i + 3))] V1 L1 (jA0 (some (.int z)) V2 L2)) (hth : V2 85 0 = c) (hz : c = 0 → L2 103 0 = z.toInt64) (kk : jJ (g, Y_W_law, (10, 388), kC, kS, Q) [(0, .ref (jaS g)), (1, .ref (jb g + 0)), (2, .ref (jb g + 85)), (3, .ref (jb g + 103)), (4, .int (nI i))] (jv (g, Y_W_law, (10, 388), kC, kS, Q) V2 L2 (k + 1) (n + 6)) 1296 []) : jJ (g, Y_W_law, (10, 388), kC, kS, Q) [(0, .ref (jaS g)), (1, .ref (jb g + 0)), (2, .ref (jb g + 85)), (3, .ref (jb g + 103)), (4, .int (nI i))] (jv (g, Y_W_law, (10, 388), kC, kS, Q) V L k n) 1062 [] := by
  refine j_aload_n d_W_law_1062 rfl 1 rfl ?_
  refine j_aload_n d_W_law_1063 rfl 0 rfl ?_
  refine j_iload d_W_law_1064 4 rfl ?_
  refine n_iconst d_W_law_1066 1 (by decide) ?_
  refine n_add d_W_law_1067 ?_
  refine n_sld d_W_law_1068 (Nat.lt_of_lt_of_le (by omega) hi) hb ?_
  refine j_aload_n d_W_law_1069 rfl 0 rfl ?_
  refine j_iload d_W_law_1070 4 rfl ?_
  refine n_iconst d_W_law_1072 2 (by decide) ?_
  refine n_add d_W_law_1073 ?_
  refine n_sld d_W_law_1074 (Nat.lt_of_lt_of_le (by omega) hi) hb ?_
  refine j_aload_n d_W_law_1075 rfl 0 rfl ?_
  refine j_iload d_W_law_1076 4 rfl ?_
  refine n_iconst d_W_law_1078 3 (by decide) ?_
  refine n_add d_W_law_1079 ?_
  refine n_sld d_W_law_1080 (Nat.lt_of_lt_of_le (by omega) hi) hb ?_
  refine j_aload_n d_W_law_1081 rfl 3 rfl ?_
  refine v_callW d_W_law_1082 mw_W_made lm_W_129 sm_W_made ⟨Nat.le_of_ble_eq_true rfl, Nat.le_of_ble_eq_true rfl⟩ hk hn (Nat.le_of_ble_eq_true rfl) rfl (hW) rfl ?_
  rintro _ _ _ ⟨rfl, rfl, rfl⟩
  refine j_istore d_W_law_1085 (i := 5) (Nat.le_of_ble_eq_true rfl) (lv' := [_, _, _, _, _, _]) rfl ?_
  refine j_aload_n d_W_law_1087 rfl 3 rfl ?_
  refine j_aload_n d_W_law_1088 rfl 1 rfl ?_
  refine j_iload d_W_law_1089 5 rfl ?_
  refine n_iconst d_W_law_1091 1 (by decide) ?_
  refine n_add d_W_law_1092 ?_
  refine n_sld d_W_law_1093 (Nat.lt_of_lt_of_le (by omega) hi) hb ?_
  refine j_aload_n d_W_law_1094 rfl 1 rfl ?_
  refine j_iload d_W_law_1095 5 rfl ?_
  refine n_iconst d_W_law_1097 2 (by decide) ?_
  refine n_add d_W_law_1098 ?_
  refine n_sld d_W_law_1099 (Nat.lt_of_lt_of_le (by omega) hi) hb ?_
  refine j_aload_n d_W_law_1100 rfl 1 rfl ?_
  refine j_iload d_W_law_1101 5 rfl ?_
  refine n_iconst d_W_law_1103 3 (by decide) ?_
  refine n_add d_W_law_1104 ?_
  refine n_sld d_W_law_1105 (Nat.lt_of_lt_of_le (by omega) hi) hb ?_
  refine v_callV d_W_law_1106 mt_M_made ln_W_131 im_M_made se_M_made rfl (Nat.le_of_ble_eq_true rfl) rfl rfl ⟨Nat.le_of_ble_eq_true rfl, Nat.le_of_ble_eq_true rfl⟩ (Nat.le_of_ble_eq_true rfl) rfl hk hn (hM) rfl ?_
  rintro _ _ _ ⟨rfl, rfl, rfl⟩
  refine j_istore d_W_law_1109 (i := 6) (Nat.le_of_ble_eq_true rfl) (lv' := [_, _, _, _, _, _, _]) rfl ?_
  refine j_aload_n d_W_law_1111 rfl 4 rfl ?_
  refine v_callV d_W_law_1112 mt_M_thrown ln_W_72 im_M_thrown se_M_thrown rfl (Nat.le_of_ble_eq_true rfl) rfl rfl ⟨Nat.le_of_ble_eq_true rfl, Nat.le_of_ble_eq_true rfl⟩ (Nat.le_of_ble_eq_true rfl) rfl hk hn (c_M_thrown g V2 L2) rfl ?_
  rintro _ _ _ ⟨rfl, rfl, rfl⟩
  rw [hth]
  refine j_iload d_W_law_1115 1 rfl ?_
  refine n_icmp_eq d_W_law_1117 1122 rfl (by omega) (by omega) (fun h => ?_) (fun h => absurd h (by omega))
  refine j_iload d_W_law_1122 1 rfl ?_
  refine n_if_ne d_W_law_1124 1139 rfl (by omega) (fun h0 => ?_) (fun h0 => ?_)
  · refine j_goto d_W_law_1139 1296 rfl ?_
    refine j_lv [2, 3, 4, 5, 6] rfl ?_
    exact kk
  · refine j_aload_n d_W_law_1127 rfl 5 rfl ?_
    refine n_iconst d_W_law_1128 0 (by decide) ?_
    refine v_lld d_W_law_1129 rfl rfl (Nat.le_of_ble_eq_true rfl) rfl (by omega) (by omega) ?_
    rw [hz h0]
    refine j_iload d_W_law_1130 0 rfl ?_
    refine j_i2l d_W_law_1132 rfl ?_
    refine j_lcmp d_W_law_1133 ?_
    refine j_if_eq d_W_law_1134 1139 rfl (fun _ => ?_) (fun h => absurd (lgc_rfl _) h)
    refine j_goto d_W_law_1139 1296 rfl ?_
    refine j_lv [2, 3, 4, 5, 6] rfl ?_
    exact kk
theorem law_kept (g : jG) (kC kS : Nat) (Q : jQ) (V : Nat → Nat → Nat) (L : Nat → Nat → Int64) (k n i : Nat) (hk : k + 1 ≤ kC) (hn : n + 6 ≤ kS) (hi : i + 6 ≤ jaN g) (hb : jaN g < 2 ^ 31) (V1 V2 : Nat → Nat → Nat) (L1 L2 : Nat → Nat → Int64) (c : Nat) (hc : c < 3) (hW : jK1 g Y_W_kept (7, 111) [.ref (jb g + 0), .int (jxs g (i + 1)), .int (jxs g (i + 2)), .int (jxs g (i + 3)), .int (jxs g (i + 4)), .ref (jb g + 103)] V L (jA0 (some (.int (nI c))) V1 L1)) (z : Int32) (hM : jK g Y_M_kept (3, 66) [.ref (jb g + 85), .int (jxs g (i + 1)), .int (jxs g (i + 2)), .int (jxs g (i + 3)), .int (jxs g (i + 4))] V1 L1 (jA0 (some (.int z)) V2 L2)) (hth : V2 85 0 = c) (hz : c = 0 → L2 103 0 = z.toInt64) (kk : jJ (g, Y_W_law, (10, 388), kC, kS, Q) [(0, .ref (jaS g)), (1, .ref (jb g + 0)), (2, .ref (jb g + 85)), (3, .ref (jb g + 103)), (4, .int (nI i))] (jv (g, Y_W_law, (10, 388), kC, kS, Q) V2 L2 (k + 1) (n + 6)) 1296 []) : jJ (g, Y_W_law, (10, 388), kC, kS, Q) [(0, .ref (jaS g)), (1, .ref (jb g + 0)), (2, .ref (jb g + 85)), (3, .ref (jb g + 103)), (4, .int (nI i))] (jv (g, Y_W_law, (10, 388), kC, kS, Q) V L k n) 1142 [] := by
  refine j_aload_n d_W_law_1142 rfl 1 rfl ?_
  refine j_aload_n d_W_law_1143 rfl 0 rfl ?_
  refine j_iload d_W_law_1144 4 rfl ?_
  refine n_iconst d_W_law_1146 1 (by decide) ?_
  refine n_add d_W_law_1147 ?_
  refine n_sld d_W_law_1148 (Nat.lt_of_lt_of_le (by omega) hi) hb ?_
  refine j_aload_n d_W_law_1149 rfl 0 rfl ?_
  refine j_iload d_W_law_1150 4 rfl ?_
  refine n_iconst d_W_law_1152 2 (by decide) ?_
  refine n_add d_W_law_1153 ?_
  refine n_sld d_W_law_1154 (Nat.lt_of_lt_of_le (by omega) hi) hb ?_
  refine j_aload_n d_W_law_1155 rfl 0 rfl ?_
  refine j_iload d_W_law_1156 4 rfl ?_
  refine n_iconst d_W_law_1158 3 (by decide) ?_
  refine n_add d_W_law_1159 ?_
  refine n_sld d_W_law_1160 (Nat.lt_of_lt_of_le (by omega) hi) hb ?_
  refine j_aload_n d_W_law_1161 rfl 0 rfl ?_
  refine j_iload d_W_law_1162 4 rfl ?_
  refine n_iconst d_W_law_1164 4 (by decide) ?_
  refine n_add d_W_law_1165 ?_
  refine n_sld d_W_law_1166 (Nat.lt_of_lt_of_le (by omega) hi) hb ?_
  refine j_aload_n d_W_law_1167 rfl 3 rfl ?_
  refine v_callW d_W_law_1168 mw_W_kept lm_W_132 sm_W_kept ⟨Nat.le_of_ble_eq_true rfl, Nat.le_of_ble_eq_true rfl⟩ hk hn (Nat.le_of_ble_eq_true rfl) rfl (hW) rfl ?_
  rintro _ _ _ ⟨rfl, rfl, rfl⟩
  refine j_istore d_W_law_1171 (i := 5) (Nat.le_of_ble_eq_true rfl) (lv' := [_, _, _, _, _, _]) rfl ?_
  refine j_aload_n d_W_law_1173 rfl 3 rfl ?_
  refine j_aload_n d_W_law_1174 rfl 1 rfl ?_
  refine j_iload d_W_law_1175 5 rfl ?_
  refine n_iconst d_W_law_1177 1 (by decide) ?_
  refine n_add d_W_law_1178 ?_
  refine n_sld d_W_law_1179 (Nat.lt_of_lt_of_le (by omega) hi) hb ?_
  refine j_aload_n d_W_law_1180 rfl 1 rfl ?_
  refine j_iload d_W_law_1181 5 rfl ?_
  refine n_iconst d_W_law_1183 2 (by decide) ?_
  refine n_add d_W_law_1184 ?_
  refine n_sld d_W_law_1185 (Nat.lt_of_lt_of_le (by omega) hi) hb ?_
  refine j_aload_n d_W_law_1186 rfl 1 rfl ?_
  refine j_iload d_W_law_1187 5 rfl ?_
  refine n_iconst d_W_law_1189 3 (by decide) ?_
  refine n_add d_W_law_1190 ?_
  refine n_sld d_W_law_1191 (Nat.lt_of_lt_of_le (by omega) hi) hb ?_
  refine j_aload_n d_W_law_1192 rfl 1 rfl ?_
  refine j_iload d_W_law_1193 5 rfl ?_
  refine n_iconst d_W_law_1195 4 (by decide) ?_
  refine n_add d_W_law_1196 ?_
  refine n_sld d_W_law_1197 (Nat.lt_of_lt_of_le (by omega) hi) hb ?_
  refine v_callV d_W_law_1198 mt_M_kept ln_W_134 im_M_kept se_M_kept rfl (Nat.le_of_ble_eq_true rfl) rfl rfl ⟨Nat.le_of_ble_eq_true rfl, Nat.le_of_ble_eq_true rfl⟩ (Nat.le_of_ble_eq_true rfl) rfl hk hn (hM) rfl ?_
  rintro _ _ _ ⟨rfl, rfl, rfl⟩
  refine j_istore d_W_law_1201 (i := 6) (Nat.le_of_ble_eq_true rfl) (lv' := [_, _, _, _, _, _, _]) rfl ?_
  refine j_aload_n d_W_law_1203 rfl 4 rfl ?_
  refine v_callV d_W_law_1204 mt_M_thrown ln_W_72 im_M_thrown se_M_thrown rfl (Nat.le_of_ble_eq_true rfl) rfl rfl ⟨Nat.le_of_ble_eq_true rfl, Nat.le_of_ble_eq_true rfl⟩ (Nat.le_of_ble_eq_true rfl) rfl hk hn (c_M_thrown g V2 L2) rfl ?_
  rintro _ _ _ ⟨rfl, rfl, rfl⟩
  rw [hth]
  refine j_iload d_W_law_1207 1 rfl ?_
  refine n_icmp_eq d_W_law_1209 1214 rfl (by omega) (by omega) (fun h => ?_) (fun h => absurd h (by omega))
  refine j_iload d_W_law_1214 1 rfl ?_
  refine n_if_ne d_W_law_1216 1231 rfl (by omega) (fun h0 => ?_) (fun h0 => ?_)
  · refine j_goto d_W_law_1231 1296 rfl ?_
    refine j_lv [2, 3, 4, 5, 6] rfl ?_
    exact kk
  · refine j_aload_n d_W_law_1219 rfl 5 rfl ?_
    refine n_iconst d_W_law_1220 0 (by decide) ?_
    refine v_lld d_W_law_1221 rfl rfl (Nat.le_of_ble_eq_true rfl) rfl (by omega) (by omega) ?_
    rw [hz h0]
    refine j_iload d_W_law_1222 0 rfl ?_
    refine j_i2l d_W_law_1224 rfl ?_
    refine j_lcmp d_W_law_1225 ?_
    refine j_if_eq d_W_law_1226 1231 rfl (fun _ => ?_) (fun h => absurd (lgc_rfl _) h)
    refine j_goto d_W_law_1231 1296 rfl ?_
    refine j_lv [2, 3, 4, 5, 6] rfl ?_
    exact kk
theorem law_rota (g : jG) (kC kS : Nat) (Q : jQ) (V : Nat → Nat → Nat) (L : Nat → Nat → Int64) (k n i : Nat) (hk : k + 1 ≤ kC) (hn : n + 6 ≤ kS) (hi : i + 6 ≤ jaN g) (hb : jaN g < 2 ^ 31) (V1 V2 : Nat → Nat → Nat) (L1 L2 : Nat → Nat → Int64) (z : Int32) (hC : jK g Y_D_rota (1, 23) [.ref (jb g + 0), .int (jxs g (i + 1))] V L (jA0 (some (.int z)) V1 L1)) (hM : jK g Y_M_rota (0, 0) [.ref (jb g + 85), .int (jxs g (i + 1))] V1 L1 (jA0 (some (.int z)) V2 L2)) (kk : jJ (g, Y_W_law, (10, 388), kC, kS, Q) [(0, .ref (jaS g)), (1, .ref (jb g + 0)), (2, .ref (jb g + 85)), (3, .ref (jb g + 103)), (4, .int (nI i))] (jv (g, Y_W_law, (10, 388), kC, kS, Q) V2 L2 k n) 1296 []) : jJ (g, Y_W_law, (10, 388), kC, kS, Q) [(0, .ref (jaS g)), (1, .ref (jb g + 0)), (2, .ref (jb g + 85)), (3, .ref (jb g + 103)), (4, .int (nI i))] (jv (g, Y_W_law, (10, 388), kC, kS, Q) V L k n) 1234 [] := by
  refine j_aload_n d_W_law_1234 rfl 1 rfl ?_
  refine j_aload_n d_W_law_1235 rfl 0 rfl ?_
  refine j_iload d_W_law_1236 4 rfl ?_
  refine n_iconst d_W_law_1238 1 (by decide) ?_
  refine n_add d_W_law_1239 ?_
  refine n_sld d_W_law_1240 (Nat.lt_of_lt_of_le (by omega) hi) hb ?_
  refine v_callV d_W_law_1241 mt_D_rota ln_W_135 im_D_rota se_D_rota rfl (Nat.le_of_ble_eq_true rfl) rfl rfl ⟨Nat.le_of_ble_eq_true rfl, Nat.le_of_ble_eq_true rfl⟩ (Nat.le_of_ble_eq_true rfl) rfl (show k ≤ kC by omega) (show n ≤ kS by omega) (hC) rfl ?_
  rintro _ _ _ ⟨rfl, rfl, rfl⟩
  refine j_aload_n d_W_law_1244 rfl 2 rfl ?_
  refine j_aload_n d_W_law_1245 rfl 0 rfl ?_
  refine j_iload d_W_law_1246 4 rfl ?_
  refine n_iconst d_W_law_1248 1 (by decide) ?_
  refine n_add d_W_law_1249 ?_
  refine n_sld d_W_law_1250 (Nat.lt_of_lt_of_le (by omega) hi) hb ?_
  refine v_callV d_W_law_1251 mt_M_rota ln_W_138 im_M_rota se_M_rota rfl (Nat.le_of_ble_eq_true rfl) rfl rfl ⟨Nat.le_of_ble_eq_true rfl, Nat.le_of_ble_eq_true rfl⟩ (Nat.le_of_ble_eq_true rfl) rfl (show k ≤ kC by omega) (show n ≤ kS by omega) (hM) rfl ?_
  rintro _ _ _ ⟨rfl, rfl, rfl⟩
  exact j_icmp_eq d_W_law_1254 1296 rfl (fun _ => kk) (fun h => absurd rfl h)
theorem law_score (g : jG) (kC kS : Nat) (Q : jQ) (V : Nat → Nat → Nat) (L : Nat → Nat → Int64) (k n i : Nat) (hk : k + 1 ≤ kC) (hn : n + 6 ≤ kS) (hi : i + 6 ≤ jaN g) (hb : jaN g < 2 ^ 31) (V1 V2 : Nat → Nat → Nat) (L1 L2 : Nat → Nat → Int64) (z : Int32) (hC : jK g Y_D_score (1, 21) [.ref (jb g + 0), .int (jxs g (i + 1)), .int (jxs g (i + 2))] V L (jA0 (some (.int z)) V1 L1)) (hM : jK g Y_M_score (1, 21) [.ref (jb g + 85), .int (jxs g (i + 1)), .int (jxs g (i + 2))] V1 L1 (jA0 (some (.int z)) V2 L2)) (kk : jJ (g, Y_W_law, (10, 388), kC, kS, Q) [(0, .ref (jaS g)), (1, .ref (jb g + 0)), (2, .ref (jb g + 85)), (3, .ref (jb g + 103)), (4, .int (nI i))] (jv (g, Y_W_law, (10, 388), kC, kS, Q) V2 L2 k n) 1296 []) : jJ (g, Y_W_law, (10, 388), kC, kS, Q) [(0, .ref (jaS g)), (1, .ref (jb g + 0)), (2, .ref (jb g + 85)), (3, .ref (jb g + 103)), (4, .int (nI i))] (jv (g, Y_W_law, (10, 388), kC, kS, Q) V L k n) 1259 [] := by
  refine j_aload_n d_W_law_1259 rfl 1 rfl ?_
  refine j_aload_n d_W_law_1260 rfl 0 rfl ?_
  refine j_iload d_W_law_1261 4 rfl ?_
  refine n_iconst d_W_law_1263 1 (by decide) ?_
  refine n_add d_W_law_1264 ?_
  refine n_sld d_W_law_1265 (Nat.lt_of_lt_of_le (by omega) hi) hb ?_
  refine j_aload_n d_W_law_1266 rfl 0 rfl ?_
  refine j_iload d_W_law_1267 4 rfl ?_
  refine n_iconst d_W_law_1269 2 (by decide) ?_
  refine n_add d_W_law_1270 ?_
  refine n_sld d_W_law_1271 (Nat.lt_of_lt_of_le (by omega) hi) hb ?_
  refine v_callV d_W_law_1272 mt_D_score ln_W_139 im_D_score se_D_score rfl (Nat.le_of_ble_eq_true rfl) rfl rfl ⟨Nat.le_of_ble_eq_true rfl, Nat.le_of_ble_eq_true rfl⟩ (Nat.le_of_ble_eq_true rfl) rfl (show k ≤ kC by omega) (show n ≤ kS by omega) (hC) rfl ?_
  rintro _ _ _ ⟨rfl, rfl, rfl⟩
  refine j_aload_n d_W_law_1275 rfl 2 rfl ?_
  refine j_aload_n d_W_law_1276 rfl 0 rfl ?_
  refine j_iload d_W_law_1277 4 rfl ?_
  refine n_iconst d_W_law_1279 1 (by decide) ?_
  refine n_add d_W_law_1280 ?_
  refine n_sld d_W_law_1281 (Nat.lt_of_lt_of_le (by omega) hi) hb ?_
  refine j_aload_n d_W_law_1282 rfl 0 rfl ?_
  refine j_iload d_W_law_1283 4 rfl ?_
  refine n_iconst d_W_law_1285 2 (by decide) ?_
  refine n_add d_W_law_1286 ?_
  refine n_sld d_W_law_1287 (Nat.lt_of_lt_of_le (by omega) hi) hb ?_
  refine v_callV d_W_law_1288 mt_M_score ln_W_142 im_M_score se_M_score rfl (Nat.le_of_ble_eq_true rfl) rfl rfl ⟨Nat.le_of_ble_eq_true rfl, Nat.le_of_ble_eq_true rfl⟩ (Nat.le_of_ble_eq_true rfl) rfl (show k ≤ kC by omega) (show n ≤ kS by omega) (hM) rfl ?_
  rintro _ _ _ ⟨rfl, rfl, rfl⟩
  exact j_icmp_eq d_W_law_1291 1296 rfl (fun _ => kk) (fun h => absurd rfl h)
