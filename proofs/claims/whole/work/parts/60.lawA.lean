section LAW
variable {G : GP} {X : CX} {Q : State → Prop} {M : Mem} {b N t : Nat} {sc : Nat → Int32} {s : Sg} {lq : Int32}
theorem law_c0 (F : FX G X RL cL_law (some .boolean) 10 600000 7302249) (hX : scr G X b N sc) (ht : 6 * t + 6 ≤ N) (I : Inv G M s lq) (tail : ∀ M2 s2 lq2, Inv G M2 s2 lq2 → V G X 832 382631 Q M2 none 918 (LL G b t) []) : V G X 832 382631 Q M none 128 (LL G b t) [] := by
  obtain ⟨hC, hM, hK⟩ := I
  obtain ⟨fs, ho⟩ := hC.obj
  have h60 : sNq s ≤ 60 := hM.2.2.2.2.1
  have hmo : sMo s ≤ 2000 := hM.2.2.2.2.2.2.1
  have hN := hX.2.2
  refine V_aload_n F dL_law_128 rfl ?_
  refine V_aload_n F dL_law_129 rfl ?_
  refine V_iload_n F dL_law_130 rfl ?_
  refine V_iconst F dL_law_131 ki_1 ?_
  refine V_iadd F dL_law_132 ?_
  refine V_sld F hX dL_law_133 (6 * t + 1) (by simp only [nI_add]) (by omega) ?_
  refine V_aload_n F dL_law_134 rfl ?_
  refine V_iload_n F dL_law_135 rfl ?_
  refine V_iconst F dL_law_136 ki_2 ?_
  refine V_iadd F dL_law_137 ?_
  refine V_sld F hX dL_law_138 (6 * t + 2) (by simp only [nI_add]) (by omega) ?_
  refine V_aload_n F dL_law_139 rfl ?_
  refine V_iload_n F dL_law_140 rfl ?_
  refine V_iconst F dL_law_141 ki_3 ?_
  refine V_iadd F dL_law_142 ?_
  refine V_sld F hX dL_law_143 (6 * t + 3) (by simp only [nI_add]) (by omega) ?_
  refine V_ivP F iv_L_13 dL_law_144 (As := [_, _, _]) (c_X6_bag hC _ _ _) ho rfl rfl rfl rfl ?_
  rintro _ M1 _ ⟨rfl, hC1, e1, rfl⟩
  have hM1 := hM.frame (fun z hz => e1 z (Or.inr hz))
  obtain ⟨fs1, ho1⟩ := hM1.obj
  refine V_aload_n F dL_law_147 rfl ?_
  refine V_aload_n F dL_law_148 rfl ?_
  refine V_iload_n F dL_law_149 rfl ?_
  refine V_iconst F dL_law_150 ki_1 ?_
  refine V_iadd F dL_law_151 ?_
  refine V_sld F hX dL_law_152 (6 * t + 1) (by simp only [nI_add]) (by omega) ?_
  refine V_aload_n F dL_law_153 rfl ?_
  refine V_iload_n F dL_law_154 rfl ?_
  refine V_iconst F dL_law_155 ki_2 ?_
  refine V_iadd F dL_law_156 ?_
  refine V_sld F hX dL_law_157 (6 * t + 2) (by simp only [nI_add]) (by omega) ?_
  refine V_aload_n F dL_law_158 rfl ?_
  refine V_iload_n F dL_law_159 rfl ?_
  refine V_iconst F dL_law_160 ki_3 ?_
  refine V_iadd F dL_law_161 ?_
  refine V_sld F hX dL_law_162 (6 * t + 3) (by simp only [nI_add]) (by omega) ?_
  refine V_ivP F iv_L_17 dL_law_163 (As := [_, _, _]) (c_X7_bag hM1 _ _ _) ho1 rfl rfl rfl rfl ?_
  rintro _ M2 _ ⟨rfl, hM2, e2, rfl⟩
  refine V_icmp_eq F 918 dL_law_166 (by decide) (fun _ => ?_) (fun c => absurd rfl c)
  exact tail M2 _ _ ⟨hC1.frame (fun z z1 z2 => e2 z z2), hM2, hK.cbag _ _ _⟩
theorem law_c1 (F : FX G X RL cL_law (some .boolean) 10 600000 7302249) (hX : scr G X b N sc) (ht : 6 * t + 6 ≤ N) (I : Inv G M s lq) (tail : ∀ M2 s2 lq2, Inv G M2 s2 lq2 → V G X 832 382631 Q M2 none 918 (LL G b t) []) : V G X 832 382631 Q M none 171 (LL G b t) [] := by
  obtain ⟨hC, hM, hK⟩ := I
  obtain ⟨fs, ho⟩ := hC.obj
  have h60 : sNq s ≤ 60 := hM.2.2.2.2.1
  have hmo : sMo s ≤ 2000 := hM.2.2.2.2.2.2.1
  have hN := hX.2.2
  refine V_aload_n F dL_law_171 rfl ?_
  refine V_aload_n F dL_law_172 rfl ?_
  refine V_iload_n F dL_law_173 rfl ?_
  refine V_iconst F dL_law_174 ki_1 ?_
  refine V_iadd F dL_law_175 ?_
  refine V_sld F hX dL_law_176 (6 * t + 1) (by simp only [nI_add]) (by omega) ?_
  refine V_aload_n F dL_law_177 rfl ?_
  refine V_iload_n F dL_law_178 rfl ?_
  refine V_iconst F dL_law_179 ki_2 ?_
  refine V_iadd F dL_law_180 ?_
  refine V_sld F hX dL_law_181 (6 * t + 2) (by simp only [nI_add]) (by omega) ?_
  refine V_aload_n F dL_law_182 rfl ?_
  refine V_iload_n F dL_law_183 rfl ?_
  refine V_iconst F dL_law_184 ki_3 ?_
  refine V_iadd F dL_law_185 ?_
  refine V_sld F hX dL_law_186 (6 * t + 3) (by simp only [nI_add]) (by omega) ?_
  refine V_i2l F dL_law_187 ?_
  refine V_bipush F dL_law_188 kb_32 ?_
  refine V_lshl F dL_law_190 ?_
  refine V_aload_n F dL_law_191 rfl ?_
  refine V_iload_n F dL_law_192 rfl ?_
  refine V_iconst F dL_law_193 ki_4 ?_
  refine V_iadd F dL_law_194 ?_
  refine V_sld F hX dL_law_195 (6 * t + 4) (by simp only [nI_add]) (by omega) ?_
  refine V_i2l F dL_law_196 ?_
  refine V_ldc2 F dL_law_197 kl_L_18 ?_
  refine V_land F dL_law_200 ?_
  refine V_lor F dL_law_201 ?_
  refine V_ivP F iv_L_20 dL_law_202 (As := [_, _, _]) (c_X6_put hC _ _ _) ho rfl rfl rfl rfl ?_
  rintro _ M1 _ ⟨rfl, hC1, e1, rfl⟩
  have hM1 := hM.frame (fun z hz => e1 z (Or.inr hz))
  obtain ⟨fs1, ho1⟩ := hM1.obj
  refine V_aload_n F dL_law_205 rfl ?_
  refine V_aload_n F dL_law_206 rfl ?_
  refine V_iload_n F dL_law_207 rfl ?_
  refine V_iconst F dL_law_208 ki_1 ?_
  refine V_iadd F dL_law_209 ?_
  refine V_sld F hX dL_law_210 (6 * t + 1) (by simp only [nI_add]) (by omega) ?_
  refine V_aload_n F dL_law_211 rfl ?_
  refine V_iload_n F dL_law_212 rfl ?_
  refine V_iconst F dL_law_213 ki_2 ?_
  refine V_iadd F dL_law_214 ?_
  refine V_sld F hX dL_law_215 (6 * t + 2) (by simp only [nI_add]) (by omega) ?_
  refine V_aload_n F dL_law_216 rfl ?_
  refine V_iload_n F dL_law_217 rfl ?_
  refine V_iconst F dL_law_218 ki_3 ?_
  refine V_iadd F dL_law_219 ?_
  refine V_sld F hX dL_law_220 (6 * t + 3) (by simp only [nI_add]) (by omega) ?_
  refine V_i2l F dL_law_221 ?_
  refine V_bipush F dL_law_222 kb_32 ?_
  refine V_lshl F dL_law_224 ?_
  refine V_aload_n F dL_law_225 rfl ?_
  refine V_iload_n F dL_law_226 rfl ?_
  refine V_iconst F dL_law_227 ki_4 ?_
  refine V_iadd F dL_law_228 ?_
  refine V_sld F hX dL_law_229 (6 * t + 4) (by simp only [nI_add]) (by omega) ?_
  refine V_i2l F dL_law_230 ?_
  refine V_ldc2 F dL_law_231 kl_L_18 ?_
  refine V_land F dL_law_234 ?_
  refine V_lor F dL_law_235 ?_
  refine V_ivP F iv_L_24 dL_law_236 (As := [_, _, _]) (c_X7_put hM1 _ _ _) ho1 rfl rfl rfl rfl ?_
  rintro _ M2 _ ⟨rfl, hM2, e2, rfl⟩
  refine V_icmp_eq F 918 dL_law_239 (by decide) (fun _ => ?_) (fun c => absurd rfl c)
  exact tail M2 _ _ ⟨hC1.frame (fun z z1 z2 => e2 z z2), hM2, hK.cput _ _ _⟩
theorem law_c2 (F : FX G X RL cL_law (some .boolean) 10 600000 7302249) (hX : scr G X b N sc) (ht : 6 * t + 6 ≤ N) (I : Inv G M s lq) (tail : ∀ M2 s2 lq2, Inv G M2 s2 lq2 → V G X 832 382631 Q M2 none 918 (LL G b t) []) : V G X 832 382631 Q M none 244 (LL G b t) [] := by
  obtain ⟨hC, hM, hK⟩ := I
  obtain ⟨fs, ho⟩ := hC.obj
  have h60 : sNq s ≤ 60 := hM.2.2.2.2.1
  have hmo : sMo s ≤ 2000 := hM.2.2.2.2.2.2.1
  have hN := hX.2.2
  refine V_aload_n F dL_law_244 rfl ?_
  refine V_aload_n F dL_law_245 rfl ?_
  refine V_iload_n F dL_law_246 rfl ?_
  refine V_iconst F dL_law_247 ki_1 ?_
  refine V_iadd F dL_law_248 ?_
  refine V_sld F hX dL_law_249 (6 * t + 1) (by simp only [nI_add]) (by omega) ?_
  refine V_aload_n F dL_law_250 rfl ?_
  refine V_iload_n F dL_law_251 rfl ?_
  refine V_iconst F dL_law_252 ki_2 ?_
  refine V_iadd F dL_law_253 ?_
  refine V_sld F hX dL_law_254 (6 * t + 2) (by simp only [nI_add]) (by omega) ?_
  refine V_aload_n F dL_law_255 rfl ?_
  refine V_iload_n F dL_law_256 rfl ?_
  refine V_iconst F dL_law_257 ki_3 ?_
  refine V_iadd F dL_law_258 ?_
  refine V_sld F hX dL_law_259 (6 * t + 3) (by simp only [nI_add]) (by omega) ?_
  refine V_aload_n F dL_law_260 rfl ?_
  refine V_iload_n F dL_law_261 rfl ?_
  refine V_iconst F dL_law_262 ki_4 ?_
  refine V_iadd F dL_law_263 ?_
  refine V_sld F hX dL_law_264 (6 * t + 4) (by simp only [nI_add]) (by omega) ?_
  refine V_aload_n F dL_law_265 rfl ?_
  refine V_iload_n F dL_law_266 rfl ?_
  refine V_iconst F dL_law_267 ki_5 ?_
  refine V_iadd F dL_law_268 ?_
  refine V_sld F hX dL_law_269 (6 * t + 5) (by simp only [nI_add]) (by omega) ?_
  refine V_ivP F iv_L_25 dL_law_270 (As := [_, _, _, _, _]) (c_X6_copy hC _ _ _ _ _) ho rfl rfl rfl rfl ?_
  rintro _ M1 _ ⟨rfl, hC1, e1, rfl⟩
  have hM1 := hM.frame (fun z hz => e1 z (Or.inr hz))
  obtain ⟨fs1, ho1⟩ := hM1.obj
  refine V_aload_n F dL_law_273 rfl ?_
  refine V_aload_n F dL_law_274 rfl ?_
  refine V_iload_n F dL_law_275 rfl ?_
  refine V_iconst F dL_law_276 ki_1 ?_
  refine V_iadd F dL_law_277 ?_
  refine V_sld F hX dL_law_278 (6 * t + 1) (by simp only [nI_add]) (by omega) ?_
  refine V_aload_n F dL_law_279 rfl ?_
  refine V_iload_n F dL_law_280 rfl ?_
  refine V_iconst F dL_law_281 ki_2 ?_
  refine V_iadd F dL_law_282 ?_
  refine V_sld F hX dL_law_283 (6 * t + 2) (by simp only [nI_add]) (by omega) ?_
  refine V_aload_n F dL_law_284 rfl ?_
  refine V_iload_n F dL_law_285 rfl ?_
  refine V_iconst F dL_law_286 ki_3 ?_
  refine V_iadd F dL_law_287 ?_
  refine V_sld F hX dL_law_288 (6 * t + 3) (by simp only [nI_add]) (by omega) ?_
  refine V_aload_n F dL_law_289 rfl ?_
  refine V_iload_n F dL_law_290 rfl ?_
  refine V_iconst F dL_law_291 ki_4 ?_
  refine V_iadd F dL_law_292 ?_
  refine V_sld F hX dL_law_293 (6 * t + 4) (by simp only [nI_add]) (by omega) ?_
  refine V_aload_n F dL_law_294 rfl ?_
  refine V_iload_n F dL_law_295 rfl ?_
  refine V_iconst F dL_law_296 ki_5 ?_
  refine V_iadd F dL_law_297 ?_
  refine V_sld F hX dL_law_298 (6 * t + 5) (by simp only [nI_add]) (by omega) ?_
  refine V_ivP F iv_L_29 dL_law_299 (As := [_, _, _, _, _]) (c_X7_copy hM1 _ _ _ _ _) ho1 rfl rfl rfl rfl ?_
  rintro _ M2 _ ⟨rfl, hM2, e2, rfl⟩
  refine V_icmp_eq F 918 dL_law_302 (by decide) (fun _ => ?_) (fun c => absurd rfl c)
  exact tail M2 _ _ ⟨hC1.frame (fun z z1 z2 => e2 z z2), hM2, hK.ccopy _ _ _ _ _⟩
theorem law_c3 (F : FX G X RL cL_law (some .boolean) 10 600000 7302249) (hX : scr G X b N sc) (ht : 6 * t + 6 ≤ N) (I : Inv G M s lq) (tail : ∀ M2 s2 lq2, Inv G M2 s2 lq2 → V G X 832 382631 Q M2 none 918 (LL G b t) []) : V G X 832 382631 Q M none 307 (LL G b t) [] := by
  obtain ⟨hC, hM, hK⟩ := I
  obtain ⟨fs, ho⟩ := hC.obj
  have h60 : sNq s ≤ 60 := hM.2.2.2.2.1
  have hmo : sMo s ≤ 2000 := hM.2.2.2.2.2.2.1
  have hN := hX.2.2
  refine V_aload_n F dL_law_307 rfl ?_
  refine V_aload_n F dL_law_308 rfl ?_
  refine V_iload_n F dL_law_309 rfl ?_
  refine V_iconst F dL_law_310 ki_1 ?_
  refine V_iadd F dL_law_311 ?_
  refine V_sld F hX dL_law_312 (6 * t + 1) (by simp only [nI_add]) (by omega) ?_
  refine V_aload_n F dL_law_313 rfl ?_
  refine V_iload_n F dL_law_314 rfl ?_
  refine V_iconst F dL_law_315 ki_2 ?_
  refine V_iadd F dL_law_316 ?_
  refine V_sld F hX dL_law_317 (6 * t + 2) (by simp only [nI_add]) (by omega) ?_
  refine V_aload_n F dL_law_318 rfl ?_
  refine V_iload_n F dL_law_319 rfl ?_
  refine V_iconst F dL_law_320 ki_3 ?_
  refine V_iadd F dL_law_321 ?_
  refine V_sld F hX dL_law_322 (6 * t + 3) (by simp only [nI_add]) (by omega) ?_
  refine V_i2l F dL_law_323 ?_
  refine V_bipush F dL_law_324 kb_32 ?_
  refine V_lshl F dL_law_326 ?_
  refine V_aload_n F dL_law_327 rfl ?_
  refine V_iload_n F dL_law_328 rfl ?_
  refine V_iconst F dL_law_329 ki_4 ?_
  refine V_iadd F dL_law_330 ?_
  refine V_sld F hX dL_law_331 (6 * t + 4) (by simp only [nI_add]) (by omega) ?_
  refine V_i2l F dL_law_332 ?_
  refine V_ldc2 F dL_law_333 kl_L_18 ?_
  refine V_land F dL_law_336 ?_
  refine V_lor F dL_law_337 ?_
  refine V_ivP F iv_L_30 dL_law_338 (As := [_, _, _]) (c_X6_holds hC _ _ _) ho rfl rfl rfl rfl ?_
  rintro _ M1 _ ⟨rfl, hC1, e1, rfl⟩
  have hM1 := hM.frame (fun z hz => e1 z (Or.inr hz))
  obtain ⟨fs1, ho1⟩ := hM1.obj
  refine V_aload_n F dL_law_341 rfl ?_
  refine V_aload_n F dL_law_342 rfl ?_
  refine V_iload_n F dL_law_343 rfl ?_
  refine V_iconst F dL_law_344 ki_1 ?_
  refine V_iadd F dL_law_345 ?_
  refine V_sld F hX dL_law_346 (6 * t + 1) (by simp only [nI_add]) (by omega) ?_
  refine V_aload_n F dL_law_347 rfl ?_
  refine V_iload_n F dL_law_348 rfl ?_
  refine V_iconst F dL_law_349 ki_2 ?_
  refine V_iadd F dL_law_350 ?_
  refine V_sld F hX dL_law_351 (6 * t + 2) (by simp only [nI_add]) (by omega) ?_
  refine V_aload_n F dL_law_352 rfl ?_
  refine V_iload_n F dL_law_353 rfl ?_
  refine V_iconst F dL_law_354 ki_3 ?_
  refine V_iadd F dL_law_355 ?_
  refine V_sld F hX dL_law_356 (6 * t + 3) (by simp only [nI_add]) (by omega) ?_
  refine V_i2l F dL_law_357 ?_
  refine V_bipush F dL_law_358 kb_32 ?_
  refine V_lshl F dL_law_360 ?_
  refine V_aload_n F dL_law_361 rfl ?_
  refine V_iload_n F dL_law_362 rfl ?_
  refine V_iconst F dL_law_363 ki_4 ?_
  refine V_iadd F dL_law_364 ?_
  refine V_sld F hX dL_law_365 (6 * t + 4) (by simp only [nI_add]) (by omega) ?_
  refine V_i2l F dL_law_366 ?_
  refine V_ldc2 F dL_law_367 kl_L_18 ?_
  refine V_land F dL_law_370 ?_
  refine V_lor F dL_law_371 ?_
  refine V_ivP F iv_L_33 dL_law_372 (As := [_, _, _]) (c_X7_holds hM1 _ _ _) ho1 rfl rfl rfl rfl ?_
  rintro _ M2 _ ⟨rfl, hM2, e2, rfl⟩
  refine V_icmp_eq F 918 dL_law_375 (by decide) (fun _ => ?_) (fun c => absurd rfl c)
  exact tail M2 _ _ ⟨hC1.frame (fun z z1 z2 => e2 z z2), hM2, hK⟩
theorem law_c4 (F : FX G X RL cL_law (some .boolean) 10 600000 7302249) (hX : scr G X b N sc) (ht : 6 * t + 6 ≤ N) (I : Inv G M s lq) (tail : ∀ M2 s2 lq2, Inv G M2 s2 lq2 → V G X 832 382631 Q M2 none 918 (LL G b t) []) : V G X 832 382631 Q M none 380 (LL G b t) [] := by
  obtain ⟨hC, hM, hK⟩ := I
  obtain ⟨fs, ho⟩ := hC.obj
  have h60 : sNq s ≤ 60 := hM.2.2.2.2.1
  have hmo : sMo s ≤ 2000 := hM.2.2.2.2.2.2.1
  have hN := hX.2.2
  refine V_aload_n F dL_law_380 rfl ?_
  refine V_aload_n F dL_law_381 rfl ?_
  refine V_iload_n F dL_law_382 rfl ?_
  refine V_iconst F dL_law_383 ki_1 ?_
  refine V_iadd F dL_law_384 ?_
  refine V_sld F hX dL_law_385 (6 * t + 1) (by simp only [nI_add]) (by omega) ?_
  refine V_aload_n F dL_law_386 rfl ?_
  refine V_iload_n F dL_law_387 rfl ?_
  refine V_iconst F dL_law_388 ki_2 ?_
  refine V_iadd F dL_law_389 ?_
  refine V_sld F hX dL_law_390 (6 * t + 2) (by simp only [nI_add]) (by omega) ?_
  refine V_ivP F iv_L_34 dL_law_391 (As := [_, _]) (c_X6_quad hC _ _) ho rfl rfl rfl rfl ?_
  rintro _ M1 _ ⟨rfl, hC1, e1, rfl⟩
  have hM1 := hM.frame (fun z hz => e1 z (Or.inr hz))
  obtain ⟨fs1, ho1⟩ := hM1.obj
  refine V_aload_n F dL_law_394 rfl ?_
  refine V_aload_n F dL_law_395 rfl ?_
  refine V_iload_n F dL_law_396 rfl ?_
  refine V_iconst F dL_law_397 ki_1 ?_
  refine V_iadd F dL_law_398 ?_
  refine V_sld F hX dL_law_399 (6 * t + 1) (by simp only [nI_add]) (by omega) ?_
  refine V_aload_n F dL_law_400 rfl ?_
  refine V_iload_n F dL_law_401 rfl ?_
  refine V_iconst F dL_law_402 ki_2 ?_
  refine V_iadd F dL_law_403 ?_
  refine V_sld F hX dL_law_404 (6 * t + 2) (by simp only [nI_add]) (by omega) ?_
  refine V_ivP F iv_L_38 dL_law_405 (As := [_, _]) (c_X7_quad hM1 _ _) ho1 rfl rfl rfl rfl ?_
  rintro _ M2 _ ⟨rfl, hM2, e2, rfl⟩
  refine V_icmp_eq F 918 dL_law_408 (by decide) (fun _ => ?_) (fun c => absurd rfl c)
  exact tail M2 _ _ ⟨hC1.frame (fun z z1 z2 => e2 z z2), hM2, hK.cquad _ _⟩
theorem law_c5 (F : FX G X RL cL_law (some .boolean) 10 600000 7302249) (hX : scr G X b N sc) (ht : 6 * t + 6 ≤ N) (I : Inv G M s lq) (tail : ∀ M2 s2 lq2, Inv G M2 s2 lq2 → V G X 832 382631 Q M2 none 918 (LL G b t) []) : V G X 832 382631 Q M none 413 (LL G b t) [] := by
  obtain ⟨hC, hM, hK⟩ := I
  obtain ⟨fs, ho⟩ := hC.obj
  have h60 : sNq s ≤ 60 := hM.2.2.2.2.1
  have hmo : sMo s ≤ 2000 := hM.2.2.2.2.2.2.1
  have hN := hX.2.2
  refine V_aload_n F dL_law_413 rfl ?_
  refine V_aload_n F dL_law_414 rfl ?_
  refine V_iload_n F dL_law_415 rfl ?_
  refine V_iconst F dL_law_416 ki_1 ?_
  refine V_iadd F dL_law_417 ?_
  refine V_sld F hX dL_law_418 (6 * t + 1) (by simp only [nI_add]) (by omega) ?_
  refine V_aload_n F dL_law_419 rfl ?_
  refine V_iload_n F dL_law_420 rfl ?_
  refine V_iconst F dL_law_421 ki_2 ?_
  refine V_iadd F dL_law_422 ?_
  refine V_sld F hX dL_law_423 (6 * t + 2) (by simp only [nI_add]) (by omega) ?_
  refine V_ivP F iv_L_39 dL_law_424 (As := [_, _]) (c_X6_swap hC _ _) ho rfl rfl rfl rfl ?_
  rintro _ M1 _ ⟨rfl, hC1, e1, rfl⟩
  have hM1 := hM.frame (fun z hz => e1 z (Or.inr hz))
  obtain ⟨fs1, ho1⟩ := hM1.obj
  refine V_aload_n F dL_law_427 rfl ?_
  refine V_aload_n F dL_law_428 rfl ?_
  refine V_iload_n F dL_law_429 rfl ?_
  refine V_iconst F dL_law_430 ki_1 ?_
  refine V_iadd F dL_law_431 ?_
  refine V_sld F hX dL_law_432 (6 * t + 1) (by simp only [nI_add]) (by omega) ?_
  refine V_aload_n F dL_law_433 rfl ?_
  refine V_iload_n F dL_law_434 rfl ?_
  refine V_iconst F dL_law_435 ki_2 ?_
  refine V_iadd F dL_law_436 ?_
  refine V_sld F hX dL_law_437 (6 * t + 2) (by simp only [nI_add]) (by omega) ?_
  refine V_ivP F iv_L_42 dL_law_438 (As := [_, _]) (c_X7_swap hM1 _ _) ho1 rfl rfl rfl rfl ?_
  rintro _ M2 _ ⟨rfl, hM2, e2, rfl⟩
  refine V_icmp_eq F 918 dL_law_441 (by decide) (fun _ => ?_) (fun c => absurd rfl c)
  exact tail M2 _ _ ⟨hC1.frame (fun z z1 z2 => e2 z z2), hM2, hK.cswap h60 _ _⟩
theorem law_c6 (F : FX G X RL cL_law (some .boolean) 10 600000 7302249) (hX : scr G X b N sc) (ht : 6 * t + 6 ≤ N) (I : Inv G M s lq) (tail : ∀ M2 s2 lq2, Inv G M2 s2 lq2 → V G X 832 382631 Q M2 none 918 (LL G b t) []) : V G X 832 382631 Q M none 446 (LL G b t) [] := by
  obtain ⟨hC, hM, hK⟩ := I
  obtain ⟨fs, ho⟩ := hC.obj
  have h60 : sNq s ≤ 60 := hM.2.2.2.2.1
  have hmo : sMo s ≤ 2000 := hM.2.2.2.2.2.2.1
  have hN := hX.2.2
  refine V_aload_n F dL_law_446 rfl ?_
  refine V_aload_n F dL_law_447 rfl ?_
  refine V_iload_n F dL_law_448 rfl ?_
  refine V_iconst F dL_law_449 ki_1 ?_
  refine V_iadd F dL_law_450 ?_
  refine V_sld F hX dL_law_451 (6 * t + 1) (by simp only [nI_add]) (by omega) ?_
  refine V_aload_n F dL_law_452 rfl ?_
  refine V_iload_n F dL_law_453 rfl ?_
  refine V_iconst F dL_law_454 ki_2 ?_
  refine V_iadd F dL_law_455 ?_
  refine V_sld F hX dL_law_456 (6 * t + 2) (by simp only [nI_add]) (by omega) ?_
  refine V_aload_n F dL_law_457 rfl ?_
  refine V_iload_n F dL_law_458 rfl ?_
  refine V_iconst F dL_law_459 ki_3 ?_
  refine V_iadd F dL_law_460 ?_
  refine V_sld F hX dL_law_461 (6 * t + 3) (by simp only [nI_add]) (by omega) ?_
  refine V_ivP F iv_L_43 dL_law_462 (As := [_, _, _]) (c_X6_coin hC _ _ _) ho rfl rfl rfl rfl ?_
  rintro _ M1 _ ⟨rfl, hC1, e1, rfl⟩
  have hM1 := hM.frame (fun z hz => e1 z (Or.inr hz))
  obtain ⟨fs1, ho1⟩ := hM1.obj
  refine V_aload_n F dL_law_465 rfl ?_
  refine V_aload_n F dL_law_466 rfl ?_
  refine V_iload_n F dL_law_467 rfl ?_
  refine V_iconst F dL_law_468 ki_1 ?_
  refine V_iadd F dL_law_469 ?_
  refine V_sld F hX dL_law_470 (6 * t + 1) (by simp only [nI_add]) (by omega) ?_
  refine V_aload_n F dL_law_471 rfl ?_
  refine V_iload_n F dL_law_472 rfl ?_
  refine V_iconst F dL_law_473 ki_2 ?_
  refine V_iadd F dL_law_474 ?_
  refine V_sld F hX dL_law_475 (6 * t + 2) (by simp only [nI_add]) (by omega) ?_
  refine V_aload_n F dL_law_476 rfl ?_
  refine V_iload_n F dL_law_477 rfl ?_
  refine V_iconst F dL_law_478 ki_3 ?_
  refine V_iadd F dL_law_479 ?_
  refine V_sld F hX dL_law_480 (6 * t + 3) (by simp only [nI_add]) (by omega) ?_
  refine V_ivP F iv_L_46 dL_law_481 (As := [_, _, _]) (c_X7_coin hM1 _ _ _) ho1 rfl rfl rfl rfl ?_
  rintro _ M2 _ ⟨rfl, hM2, e2, rfl⟩
  refine V_icmp_eq F 918 dL_law_484 (by decide) (fun _ => ?_) (fun c => absurd rfl c)
  exact tail M2 _ _ ⟨hC1.frame (fun z z1 z2 => e2 z z2), hM2, hK⟩
theorem law_c7 (F : FX G X RL cL_law (some .boolean) 10 600000 7302249) (hX : scr G X b N sc) (ht : 6 * t + 6 ≤ N) (I : Inv G M s lq) (tail : ∀ M2 s2 lq2, Inv G M2 s2 lq2 → V G X 832 382631 Q M2 none 918 (LL G b t) []) : V G X 832 382631 Q M none 489 (LL G b t) [] := by
  obtain ⟨hC, hM, hK⟩ := I
  obtain ⟨fs, ho⟩ := hC.obj
  have h60 : sNq s ≤ 60 := hM.2.2.2.2.1
  have hmo : sMo s ≤ 2000 := hM.2.2.2.2.2.2.1
  have hN := hX.2.2
  refine V_aload_n F dL_law_489 rfl ?_
  refine V_aload_n F dL_law_490 rfl ?_
  refine V_iload_n F dL_law_491 rfl ?_
  refine V_iconst F dL_law_492 ki_1 ?_
  refine V_iadd F dL_law_493 ?_
  refine V_sld F hX dL_law_494 (6 * t + 1) (by simp only [nI_add]) (by omega) ?_
  refine V_ivP F iv_L_47 dL_law_495 (As := [_]) (c_X6_from hC _) ho rfl rfl rfl rfl ?_
  rintro _ M1 _ ⟨rfl, hC1, e1, rfl⟩
  have hM1 := hM.frame (fun z hz => e1 z (Or.inr hz))
  obtain ⟨fs1, ho1⟩ := hM1.obj
  refine V_aload_n F dL_law_498 rfl ?_
  refine V_aload_n F dL_law_499 rfl ?_
  refine V_iload_n F dL_law_500 rfl ?_
  refine V_iconst F dL_law_501 ki_1 ?_
  refine V_iadd F dL_law_502 ?_
  refine V_sld F hX dL_law_503 (6 * t + 1) (by simp only [nI_add]) (by omega) ?_
  refine V_ivP F iv_L_51 dL_law_504 (As := [_]) (c_X7_from hM1 _) ho1 rfl rfl rfl rfl ?_
  rintro _ M2 _ ⟨rfl, hM2, e2, rfl⟩
  refine V_icmp_eq F 918 dL_law_507 (by decide) (fun _ => ?_) (fun c => absurd rfl c)
  exact tail M2 _ _ ⟨hC1.frame (fun z z1 z2 => e2 z z2), hM2, hK⟩
theorem law_c8 (F : FX G X RL cL_law (some .boolean) 10 600000 7302249) (hX : scr G X b N sc) (ht : 6 * t + 6 ≤ N) (I : Inv G M s lq) (tail : ∀ M2 s2 lq2, Inv G M2 s2 lq2 → V G X 832 382631 Q M2 none 918 (LL G b t) []) : V G X 832 382631 Q M none 512 (LL G b t) [] := by
  obtain ⟨hC, hM, hK⟩ := I
  obtain ⟨fs, ho⟩ := hC.obj
  have h60 : sNq s ≤ 60 := hM.2.2.2.2.1
  have hmo : sMo s ≤ 2000 := hM.2.2.2.2.2.2.1
  have hN := hX.2.2
  refine V_aload_n F dL_law_512 rfl ?_
  refine V_aload_n F dL_law_513 rfl ?_
  refine V_iload_n F dL_law_514 rfl ?_
  refine V_iconst F dL_law_515 ki_1 ?_
  refine V_iadd F dL_law_516 ?_
  refine V_sld F hX dL_law_517 (6 * t + 1) (by simp only [nI_add]) (by omega) ?_
  refine V_ivP F iv_L_52 dL_law_518 (As := [_]) (c_X6_steps hC _) ho rfl rfl rfl rfl ?_
  rintro _ M1 _ ⟨rfl, hC1, e1, rfl⟩
  have hM1 := hM.frame (fun z hz => e1 z (Or.inr hz))
  obtain ⟨fs1, ho1⟩ := hM1.obj
  refine V_aload_n F dL_law_521 rfl ?_
  refine V_aload_n F dL_law_522 rfl ?_
  refine V_iload_n F dL_law_523 rfl ?_
  refine V_iconst F dL_law_524 ki_1 ?_
  refine V_iadd F dL_law_525 ?_
  refine V_sld F hX dL_law_526 (6 * t + 1) (by simp only [nI_add]) (by omega) ?_
  refine V_ivP F iv_L_55 dL_law_527 (As := [_]) (c_X7_steps hM1 hK.st _) ho1 rfl rfl rfl rfl ?_
  rintro _ M2 _ ⟨rfl, hM2, e2, rfl⟩
  refine V_icmp_eq F 918 dL_law_530 (by decide) (fun _ => ?_) (fun c => absurd rfl c)
  exact tail M2 _ _ ⟨hC1.frame (fun z z1 z2 => e2 z z2), hM2, hK⟩
theorem law_c9 (F : FX G X RL cL_law (some .boolean) 10 600000 7302249) (hX : scr G X b N sc) (ht : 6 * t + 6 ≤ N) (I : Inv G M s lq) (tail : ∀ M2 s2 lq2, Inv G M2 s2 lq2 → V G X 832 382631 Q M2 none 918 (LL G b t) []) : V G X 832 382631 Q M none 535 (LL G b t) [] := by
  obtain ⟨hC, hM, hK⟩ := I
  obtain ⟨fs, ho⟩ := hC.obj
  have h60 : sNq s ≤ 60 := hM.2.2.2.2.1
  have hmo : sMo s ≤ 2000 := hM.2.2.2.2.2.2.1
  have hN := hX.2.2
  refine V_aload_n F dL_law_535 rfl ?_
  refine V_aload_n F dL_law_536 rfl ?_
  refine V_iload_n F dL_law_537 rfl ?_
  refine V_iconst F dL_law_538 ki_1 ?_
  refine V_iadd F dL_law_539 ?_
  refine V_sld F hX dL_law_540 (6 * t + 1) (by simp only [nI_add]) (by omega) ?_
  refine V_aload_n F dL_law_541 rfl ?_
  refine V_iload_n F dL_law_542 rfl ?_
  refine V_iconst F dL_law_543 ki_2 ?_
  refine V_iadd F dL_law_544 ?_
  refine V_sld F hX dL_law_545 (6 * t + 2) (by simp only [nI_add]) (by omega) ?_
  refine V_ivP F iv_L_56 dL_law_546 (As := [_, _]) (c_X6_step hC _ _) ho rfl rfl rfl rfl ?_
  rintro _ M1 _ ⟨rfl, hC1, e1, rfl⟩
  have hM1 := hM.frame (fun z hz => e1 z (Or.inr hz))
  obtain ⟨fs1, ho1⟩ := hM1.obj
  refine V_aload_n F dL_law_549 rfl ?_
  refine V_aload_n F dL_law_550 rfl ?_
  refine V_iload_n F dL_law_551 rfl ?_
  refine V_iconst F dL_law_552 ki_1 ?_
  refine V_iadd F dL_law_553 ?_
  refine V_sld F hX dL_law_554 (6 * t + 1) (by simp only [nI_add]) (by omega) ?_
  refine V_aload_n F dL_law_555 rfl ?_
  refine V_iload_n F dL_law_556 rfl ?_
  refine V_iconst F dL_law_557 ki_2 ?_
  refine V_iadd F dL_law_558 ?_
  refine V_sld F hX dL_law_559 (6 * t + 2) (by simp only [nI_add]) (by omega) ?_
  refine V_ivP F iv_L_59 dL_law_560 (As := [_, _]) (c_X7_step hM1 hK.st _ _) ho1 rfl rfl rfl rfl ?_
  rintro _ M2 _ ⟨rfl, hM2, e2, rfl⟩
  refine V_icmp_eq F 918 dL_law_563 (by decide) (fun _ => ?_) (fun c => absurd rfl c)
  exact tail M2 _ _ ⟨hC1.frame (fun z z1 z2 => e2 z z2), hM2, hK⟩
end LAW
