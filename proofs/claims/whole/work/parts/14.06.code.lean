/-! ===== the code tables hold: the law ===== -/
theorem dL_law_0 : decode cL_law 0 = .ok (.new 8, 3) := by decide +kernel
theorem dL_law_3 : decode cL_law 3 = .ok (.dup, 1) := by decide +kernel
theorem dL_law_4 : decode cL_law 4 = .ok (.invokespecial 148, 3) := by decide +kernel
theorem dL_law_7 : decode cL_law 7 = .ok (.astore_n 1, 1) := by decide +kernel
theorem dL_law_8 : decode cL_law 8 = .ok (.new 149, 3) := by decide +kernel
theorem dL_law_11 : decode cL_law 11 = .ok (.dup, 1) := by decide +kernel
theorem dL_law_12 : decode cL_law 12 = .ok (.invokespecial 151, 3) := by decide +kernel
theorem dL_law_15 : decode cL_law 15 = .ok (.astore_n 2, 1) := by decide +kernel
theorem dL_law_16 : decode cL_law 16 = .ok (.iconst 1, 1) := by decide +kernel
theorem dL_law_17 : decode cL_law 17 = .ok (.newarray .long, 2) := by decide +kernel
theorem dL_law_19 : decode cL_law 19 = .ok (.astore_n 3, 1) := by decide +kernel
theorem dL_law_20 : decode cL_law 20 = .ok (.iconst 1, 1) := by decide +kernel
theorem dL_law_21 : decode cL_law 21 = .ok (.newarray .double, 2) := by decide +kernel
theorem dL_law_23 : decode cL_law 23 = .ok (.astore 4, 2) := by decide +kernel
theorem dL_law_25 : decode cL_law 25 = .ok (.iconst 0, 1) := by decide +kernel
theorem dL_law_26 : decode cL_law 26 = .ok (.istore 5, 2) := by decide +kernel
theorem dL_law_28 : decode cL_law 28 = .ok (.iload 5, 2) := by decide +kernel
theorem dL_law_30 : decode cL_law 30 = .ok (.aload_n 0, 1) := by decide +kernel
theorem dL_law_31 : decode cL_law 31 = .ok (.arraylength, 1) := by decide +kernel
theorem dL_law_32 : decode cL_law 32 = .ok (.iconst 5, 1) := by decide +kernel
theorem dL_law_33 : decode cL_law 33 = .ok (.isub, 1) := by decide +kernel
theorem dL_law_34 : decode cL_law 34 = .ok (.if_icmp .gt 2642, 3) := by decide +kernel
theorem dL_law_37 : decode cL_law 37 = .ok (.aload_n 0, 1) := by decide +kernel
theorem dL_law_38 : decode cL_law 38 = .ok (.iload 5, 2) := by decide +kernel
theorem dL_law_40 : decode cL_law 40 = .ok (.iaload, 1) := by decide +kernel
theorem dL_law_41 : decode cL_law 41 = .ok (.bipush 63, 2) := by decide +kernel
theorem dL_law_43 : decode cL_law 43 = .ok (.iand, 1) := by decide +kernel
theorem dL_law_44 : decode cL_law 44 = .ok (.tableswitch 2626 0 40 #[180, 248, 356, 436, 504, 560, 616, 672, 740, 808, 864, 932, 988, 1044, 1112, 1192, 1260, 1316, 1372, 1428, 1484, 1552, 1608, 1676, 1732, 1807, 1875, 1931, 1987, 2043, 2101, 2145, 2158, 2214, 2270, 2326, 2404, 2469, 2525, 2569, 2582], 180) := by decide +kernel
theorem dL_law_224 : decode cL_law 224 = .ok (.aload_n 1, 1) := by decide +kernel
theorem dL_law_225 : decode cL_law 225 = .ok (.aload_n 0, 1) := by decide +kernel
theorem dL_law_226 : decode cL_law 226 = .ok (.iload 5, 2) := by decide +kernel
theorem dL_law_228 : decode cL_law 228 = .ok (.iconst 1, 1) := by decide +kernel
theorem dL_law_229 : decode cL_law 229 = .ok (.iadd, 1) := by decide +kernel
theorem dL_law_230 : decode cL_law 230 = .ok (.iaload, 1) := by decide +kernel
theorem dL_law_231 : decode cL_law 231 = .ok (.aload_n 0, 1) := by decide +kernel
theorem dL_law_232 : decode cL_law 232 = .ok (.iload 5, 2) := by decide +kernel
theorem dL_law_234 : decode cL_law 234 = .ok (.iconst 2, 1) := by decide +kernel
theorem dL_law_235 : decode cL_law 235 = .ok (.iadd, 1) := by decide +kernel
theorem dL_law_236 : decode cL_law 236 = .ok (.iaload, 1) := by decide +kernel
theorem dL_law_237 : decode cL_law 237 = .ok (.aload_n 3, 1) := by decide +kernel
theorem ab_k0_0 (K : ab_Kt) : ∀ q ∈ ab_l0_0 K, ab_OK K ab_mt ab_g0 q.1 q.2 := by
  unfold ab_l0_0
  exact List.forall_mem_cons.mpr ⟨ab_newo_ok (C := RX6) (T := TX6) (N := 9) (ci := 10) (ty0 := tyX6) dL_law_0 rfl ab_ic10 tyX6_ok (ab_l3 ab_w0 ab_w1 ab_w2) (by decide +kernel) rfl rfl, List.forall_mem_cons.mpr ⟨ab_dup_ok dL_law_3, List.forall_mem_cons.mpr ⟨ab_callI_ok' (G' := ab_g1) dL_law_4 ab_m1 rfl (by decide) (by decide) ab_w3 (ab_l3 ab_w4 ab_w5 ab_w2) rfl ⟨rfl, by decide, by decide, by decide +kernel⟩, List.forall_mem_cons.mpr ⟨ab_astore_n_ok dL_law_7 rfl, List.forall_mem_cons.mpr ⟨ab_newo_ok (C := RX7) (T := TX7) (N := 19) (ci := 11) (ty0 := tyX7) dL_law_8 rfl ab_ic11 tyX7_ok (ab_l3 ab_w6 ab_w7 ab_w8) (by decide +kernel) rfl rfl, List.forall_mem_cons.mpr ⟨ab_dup_ok dL_law_11, List.forall_mem_cons.mpr ⟨ab_callI_ok' (G' := ab_g2) dL_law_12 ab_m2 rfl (by decide) (by decide) ab_w9 (ab_l3 ab_w10 ab_w11 ab_w8) rfl ⟨rfl, by decide, by decide, by decide +kernel⟩, List.forall_mem_cons.mpr ⟨ab_astore_n_ok dL_law_15 rfl, List.forall_mem_cons.mpr ⟨ab_iconst_ok dL_law_16 (by decide), List.forall_mem_cons.mpr ⟨ab_newa2_ok dL_law_17 ab_w12, List.forall_mem_cons.mpr ⟨ab_astore_n_ok dL_law_19 rfl, List.forall_mem_cons.mpr ⟨ab_iconst_ok dL_law_20 (by decide), List.forall_mem_cons.mpr ⟨ab_newa5_ok dL_law_21 ab_w13, List.forall_mem_cons.mpr ⟨ab_astore_ok dL_law_23, List.forall_mem_cons.mpr ⟨ab_iconst_ok dL_law_25 (by decide), List.forall_mem_cons.mpr ⟨ab_istore_ok dL_law_26, List.forall_mem_cons.mpr ⟨ab_iload_ok dL_law_28, List.forall_mem_cons.mpr ⟨ab_aload_n_ok dL_law_30 rfl, List.forall_mem_cons.mpr ⟨ab_scl_ok dL_law_31, List.forall_mem_cons.mpr ⟨ab_iconst_ok dL_law_32 (by decide), List.forall_mem_cons.mpr ⟨ab_isub_ok dL_law_33, List.forall_mem_cons.mpr ⟨ab_icmp_gt_ok dL_law_34 (by decide), List.forall_mem_cons.mpr ⟨ab_aload_n_ok dL_law_37 rfl, List.forall_mem_cons.mpr ⟨ab_iload_ok dL_law_38, List.forall_mem_cons.mpr ⟨ab_scr_ok dL_law_40, List.forall_mem_cons.mpr ⟨ab_bipush_ok dL_law_41 (by decide), List.forall_mem_cons.mpr ⟨ab_iand_ok dL_law_43, List.forall_mem_cons.mpr ⟨ab_tsw_ok dL_law_44 (by decide) (by decide) (by decide), List.forall_mem_cons.mpr ⟨ab_aload_n_ok dL_law_224 rfl, List.forall_mem_cons.mpr ⟨ab_aload_n_ok dL_law_225 rfl, List.forall_mem_cons.mpr ⟨ab_iload_ok dL_law_226, List.forall_mem_cons.mpr ⟨ab_iconst_ok dL_law_228 (by decide), List.forall_mem_cons.mpr ⟨ab_iadd_ok dL_law_229, List.forall_mem_cons.mpr ⟨ab_scr_ok dL_law_230, List.forall_mem_cons.mpr ⟨ab_aload_n_ok dL_law_231 rfl, List.forall_mem_cons.mpr ⟨ab_iload_ok dL_law_232, List.forall_mem_cons.mpr ⟨ab_iconst_ok dL_law_234 (by decide), List.forall_mem_cons.mpr ⟨ab_iadd_ok dL_law_235, List.forall_mem_cons.mpr ⟨ab_scr_ok dL_law_236, List.forall_mem_cons.mpr ⟨ab_aload_n_ok dL_law_237 rfl, fun _ h => absurd h List.not_mem_nil⟩⟩⟩⟩⟩⟩⟩⟩⟩⟩⟩⟩⟩⟩⟩⟩⟩⟩⟩⟩⟩⟩⟩⟩⟩⟩⟩⟩⟩⟩⟩⟩⟩⟩⟩⟩⟩⟩⟩⟩
theorem dL_law_238 : decode cL_law 238 = .ok (.invokestatic 152, 3) := by decide +kernel
theorem dL_law_241 : decode cL_law 241 = .ok (.istore 6, 2) := by decide +kernel
theorem dL_law_243 : decode cL_law 243 = .ok (.aload_n 2, 1) := by decide +kernel
theorem dL_law_244 : decode cL_law 244 = .ok (.aload_n 0, 1) := by decide +kernel
theorem dL_law_245 : decode cL_law 245 = .ok (.iload 5, 2) := by decide +kernel
theorem dL_law_247 : decode cL_law 247 = .ok (.iconst 1, 1) := by decide +kernel
theorem dL_law_248 : decode cL_law 248 = .ok (.iadd, 1) := by decide +kernel
theorem dL_law_249 : decode cL_law 249 = .ok (.iaload, 1) := by decide +kernel
theorem dL_law_250 : decode cL_law 250 = .ok (.aload_n 0, 1) := by decide +kernel
theorem dL_law_251 : decode cL_law 251 = .ok (.iload 5, 2) := by decide +kernel
theorem dL_law_253 : decode cL_law 253 = .ok (.iconst 2, 1) := by decide +kernel
theorem dL_law_254 : decode cL_law 254 = .ok (.iadd, 1) := by decide +kernel
theorem dL_law_255 : decode cL_law 255 = .ok (.iaload, 1) := by decide +kernel
theorem dL_law_256 : decode cL_law 256 = .ok (.invokevirtual 157, 3) := by decide +kernel
theorem dL_law_259 : decode cL_law 259 = .ok (.istore 7, 2) := by decide +kernel
theorem dL_law_261 : decode cL_law 261 = .ok (.aload_n 2, 1) := by decide +kernel
theorem dL_law_262 : decode cL_law 262 = .ok (.invokevirtual 158, 3) := by decide +kernel
theorem dL_law_265 : decode cL_law 265 = .ok (.iload 6, 2) := by decide +kernel
theorem dL_law_267 : decode cL_law 267 = .ok (.if_icmp .eq 5, 3) := by decide +kernel
theorem dL_law_270 : decode cL_law 270 = .ok (.iconst 0, 1) := by decide +kernel
theorem dL_law_271 : decode cL_law 271 = .ok (.ireturn, 1) := by decide +kernel
theorem dL_law_272 : decode cL_law 272 = .ok (.iload 6, 2) := by decide +kernel
theorem dL_law_274 : decode cL_law 274 = .ok (.ifCond .ne 15, 3) := by decide +kernel
theorem dL_law_277 : decode cL_law 277 = .ok (.aload_n 3, 1) := by decide +kernel
theorem dL_law_278 : decode cL_law 278 = .ok (.iconst 0, 1) := by decide +kernel
theorem dL_law_279 : decode cL_law 279 = .ok (.laload, 1) := by decide +kernel
theorem dL_law_280 : decode cL_law 280 = .ok (.iload 7, 2) := by decide +kernel
theorem dL_law_282 : decode cL_law 282 = .ok (.i2l, 1) := by decide +kernel
theorem dL_law_283 : decode cL_law 283 = .ok (.lcmp, 1) := by decide +kernel
theorem dL_law_284 : decode cL_law 284 = .ok (.ifCond .eq 5, 3) := by decide +kernel
theorem dL_law_287 : decode cL_law 287 = .ok (.iconst 0, 1) := by decide +kernel
theorem dL_law_288 : decode cL_law 288 = .ok (.ireturn, 1) := by decide +kernel
theorem dL_law_289 : decode cL_law 289 = .ok (.goto 2381, 3) := by decide +kernel
theorem dL_law_292 : decode cL_law 292 = .ok (.aload_n 1, 1) := by decide +kernel
theorem dL_law_293 : decode cL_law 293 = .ok (.aload_n 0, 1) := by decide +kernel
theorem dL_law_294 : decode cL_law 294 = .ok (.iload 5, 2) := by decide +kernel
theorem dL_law_296 : decode cL_law 296 = .ok (.iconst 1, 1) := by decide +kernel
theorem dL_law_297 : decode cL_law 297 = .ok (.iadd, 1) := by decide +kernel
theorem dL_law_298 : decode cL_law 298 = .ok (.iaload, 1) := by decide +kernel
theorem dL_law_299 : decode cL_law 299 = .ok (.aload_n 0, 1) := by decide +kernel
theorem ab_k0_1 (K : ab_Kt) : ∀ q ∈ ab_l0_1 K, ab_OK K ab_mt ab_g0 q.1 q.2 := by
  unfold ab_l0_1
  exact List.forall_mem_cons.mpr ⟨ab_callSX_ok' (G' := ab_g84) dL_law_238 ab_m84 (by decide) (by decide) (ab_l3 ab_w301 ab_w302 ab_w16) ab_w303 rfl ⟨by decide, by decide, by decide +kernel⟩, List.forall_mem_cons.mpr ⟨ab_istore_ok dL_law_241, List.forall_mem_cons.mpr ⟨ab_aload_n_ok dL_law_243 rfl, List.forall_mem_cons.mpr ⟨ab_aload_n_ok dL_law_244 rfl, List.forall_mem_cons.mpr ⟨ab_iload_ok dL_law_245, List.forall_mem_cons.mpr ⟨ab_iconst_ok dL_law_247 (by decide), List.forall_mem_cons.mpr ⟨ab_iadd_ok dL_law_248, List.forall_mem_cons.mpr ⟨ab_scr_ok dL_law_249, List.forall_mem_cons.mpr ⟨ab_aload_n_ok dL_law_250 rfl, List.forall_mem_cons.mpr ⟨ab_iload_ok dL_law_251, List.forall_mem_cons.mpr ⟨ab_iconst_ok dL_law_253 (by decide), List.forall_mem_cons.mpr ⟨ab_iadd_ok dL_law_254, List.forall_mem_cons.mpr ⟨ab_scr_ok dL_law_255, List.forall_mem_cons.mpr ⟨ab_callV_ok' (G' := ab_g85) (C := RX7) (T := TX7) (N := 19) dL_law_256 ab_m85 rfl rfl (by decide) (by decide) (ab_l4 ab_w304 ab_w305 ab_w306 ab_w8) ab_w307 rfl ⟨by decide, by decide, by decide +kernel⟩, List.forall_mem_cons.mpr ⟨ab_istore_ok dL_law_259, List.forall_mem_cons.mpr ⟨ab_aload_n_ok dL_law_261 rfl, List.forall_mem_cons.mpr ⟨ab_callV_ok' (G' := ab_g5) (C := RX7) (T := TX7) (N := 19) dL_law_262 ab_m5 rfl rfl (by decide) (by decide) (ab_l4 ab_w22 ab_w23 ab_w24 ab_w8) ab_w25 rfl ⟨by decide, by decide, by decide +kernel⟩, List.forall_mem_cons.mpr ⟨ab_iload_ok dL_law_265, List.forall_mem_cons.mpr ⟨ab_icmp_eq_ok dL_law_267 (by decide), List.forall_mem_cons.mpr ⟨ab_iconst_ok dL_law_270 (by decide), List.forall_mem_cons.mpr ⟨ab_zret_ok dL_law_271 rfl, List.forall_mem_cons.mpr ⟨ab_iload_ok dL_law_272, List.forall_mem_cons.mpr ⟨ab_if_ne_ok dL_law_274 (by decide), List.forall_mem_cons.mpr ⟨ab_aload_n_ok dL_law_277 rfl, List.forall_mem_cons.mpr ⟨ab_iconst_ok dL_law_278 (by decide), List.forall_mem_cons.mpr ⟨ab_lald_ok dL_law_279, List.forall_mem_cons.mpr ⟨ab_iload_ok dL_law_280, List.forall_mem_cons.mpr ⟨ab_i2l_ok dL_law_282, List.forall_mem_cons.mpr ⟨ab_lcmp_ok dL_law_283, List.forall_mem_cons.mpr ⟨ab_if_eq_ok dL_law_284 (by decide), List.forall_mem_cons.mpr ⟨ab_iconst_ok dL_law_287 (by decide), List.forall_mem_cons.mpr ⟨ab_zret_ok dL_law_288 rfl, List.forall_mem_cons.mpr ⟨ab_goto_ok dL_law_289 (by decide), List.forall_mem_cons.mpr ⟨ab_aload_n_ok dL_law_292 rfl, List.forall_mem_cons.mpr ⟨ab_aload_n_ok dL_law_293 rfl, List.forall_mem_cons.mpr ⟨ab_iload_ok dL_law_294, List.forall_mem_cons.mpr ⟨ab_iconst_ok dL_law_296 (by decide), List.forall_mem_cons.mpr ⟨ab_iadd_ok dL_law_297, List.forall_mem_cons.mpr ⟨ab_scr_ok dL_law_298, List.forall_mem_cons.mpr ⟨ab_aload_n_ok dL_law_299 rfl, fun _ h => absurd h List.not_mem_nil⟩⟩⟩⟩⟩⟩⟩⟩⟩⟩⟩⟩⟩⟩⟩⟩⟩⟩⟩⟩⟩⟩⟩⟩⟩⟩⟩⟩⟩⟩⟩⟩⟩⟩⟩⟩⟩⟩⟩⟩
theorem dL_law_300 : decode cL_law 300 = .ok (.iload 5, 2) := by decide +kernel
theorem dL_law_302 : decode cL_law 302 = .ok (.iconst 2, 1) := by decide +kernel
theorem dL_law_303 : decode cL_law 303 = .ok (.iadd, 1) := by decide +kernel
theorem dL_law_304 : decode cL_law 304 = .ok (.iaload, 1) := by decide +kernel
theorem dL_law_305 : decode cL_law 305 = .ok (.aload_n 0, 1) := by decide +kernel
theorem dL_law_306 : decode cL_law 306 = .ok (.iload 5, 2) := by decide +kernel
theorem dL_law_308 : decode cL_law 308 = .ok (.iconst 3, 1) := by decide +kernel
theorem dL_law_309 : decode cL_law 309 = .ok (.iadd, 1) := by decide +kernel
theorem dL_law_310 : decode cL_law 310 = .ok (.iaload, 1) := by decide +kernel
theorem dL_law_311 : decode cL_law 311 = .ok (.aload_n 0, 1) := by decide +kernel
theorem dL_law_312 : decode cL_law 312 = .ok (.iload 5, 2) := by decide +kernel
theorem dL_law_314 : decode cL_law 314 = .ok (.iconst 4, 1) := by decide +kernel
theorem dL_law_315 : decode cL_law 315 = .ok (.iadd, 1) := by decide +kernel
theorem dL_law_316 : decode cL_law 316 = .ok (.iaload, 1) := by decide +kernel
theorem dL_law_317 : decode cL_law 317 = .ok (.ifCond .eq 7, 3) := by decide +kernel
theorem dL_law_320 : decode cL_law 320 = .ok (.iconst 1, 1) := by decide +kernel
theorem dL_law_321 : decode cL_law 321 = .ok (.goto 4, 3) := by decide +kernel
theorem dL_law_324 : decode cL_law 324 = .ok (.iconst 0, 1) := by decide +kernel
theorem dL_law_325 : decode cL_law 325 = .ok (.aload_n 3, 1) := by decide +kernel
theorem dL_law_326 : decode cL_law 326 = .ok (.invokestatic 161, 3) := by decide +kernel
theorem dL_law_329 : decode cL_law 329 = .ok (.istore 6, 2) := by decide +kernel
theorem dL_law_331 : decode cL_law 331 = .ok (.aload_n 2, 1) := by decide +kernel
theorem dL_law_332 : decode cL_law 332 = .ok (.aload_n 0, 1) := by decide +kernel
theorem dL_law_333 : decode cL_law 333 = .ok (.iload 5, 2) := by decide +kernel
theorem dL_law_335 : decode cL_law 335 = .ok (.iconst 1, 1) := by decide +kernel
theorem dL_law_336 : decode cL_law 336 = .ok (.iadd, 1) := by decide +kernel
theorem dL_law_337 : decode cL_law 337 = .ok (.iaload, 1) := by decide +kernel
theorem dL_law_338 : decode cL_law 338 = .ok (.aload_n 0, 1) := by decide +kernel
theorem dL_law_339 : decode cL_law 339 = .ok (.iload 5, 2) := by decide +kernel
theorem dL_law_341 : decode cL_law 341 = .ok (.iconst 2, 1) := by decide +kernel
theorem dL_law_342 : decode cL_law 342 = .ok (.iadd, 1) := by decide +kernel
theorem dL_law_343 : decode cL_law 343 = .ok (.iaload, 1) := by decide +kernel
theorem dL_law_344 : decode cL_law 344 = .ok (.aload_n 0, 1) := by decide +kernel
theorem dL_law_345 : decode cL_law 345 = .ok (.iload 5, 2) := by decide +kernel
theorem dL_law_347 : decode cL_law 347 = .ok (.iconst 3, 1) := by decide +kernel
theorem dL_law_348 : decode cL_law 348 = .ok (.iadd, 1) := by decide +kernel
theorem dL_law_349 : decode cL_law 349 = .ok (.iaload, 1) := by decide +kernel
theorem dL_law_350 : decode cL_law 350 = .ok (.aload_n 0, 1) := by decide +kernel
theorem dL_law_351 : decode cL_law 351 = .ok (.iload 5, 2) := by decide +kernel
theorem dL_law_353 : decode cL_law 353 = .ok (.iconst 4, 1) := by decide +kernel
theorem ab_k0_2 (K : ab_Kt) : ∀ q ∈ ab_l0_2 K, ab_OK K ab_mt ab_g0 q.1 q.2 := by
  unfold ab_l0_2
  exact List.forall_mem_cons.mpr ⟨ab_iload_ok dL_law_300, List.forall_mem_cons.mpr ⟨ab_iconst_ok dL_law_302 (by decide), List.forall_mem_cons.mpr ⟨ab_iadd_ok dL_law_303, List.forall_mem_cons.mpr ⟨ab_scr_ok dL_law_304, List.forall_mem_cons.mpr ⟨ab_aload_n_ok dL_law_305 rfl, List.forall_mem_cons.mpr ⟨ab_iload_ok dL_law_306, List.forall_mem_cons.mpr ⟨ab_iconst_ok dL_law_308 (by decide), List.forall_mem_cons.mpr ⟨ab_iadd_ok dL_law_309, List.forall_mem_cons.mpr ⟨ab_scr_ok dL_law_310, List.forall_mem_cons.mpr ⟨ab_aload_n_ok dL_law_311 rfl, List.forall_mem_cons.mpr ⟨ab_iload_ok dL_law_312, List.forall_mem_cons.mpr ⟨ab_iconst_ok dL_law_314 (by decide), List.forall_mem_cons.mpr ⟨ab_iadd_ok dL_law_315, List.forall_mem_cons.mpr ⟨ab_scr_ok dL_law_316, List.forall_mem_cons.mpr ⟨ab_if_eq_ok dL_law_317 (by decide), List.forall_mem_cons.mpr ⟨ab_iconst_ok dL_law_320 (by decide), List.forall_mem_cons.mpr ⟨ab_goto_ok dL_law_321 (by decide), List.forall_mem_cons.mpr ⟨ab_iconst_ok dL_law_324 (by decide), List.forall_mem_cons.mpr ⟨ab_aload_n_ok dL_law_325 rfl, List.forall_mem_cons.mpr ⟨ab_callSX_ok' (G' := ab_g82) dL_law_326 ab_m82 (by decide) (by decide) (ab_l3 ab_w294 ab_w295 ab_w16) ab_w296 rfl ⟨by decide, by decide, by decide +kernel⟩, List.forall_mem_cons.mpr ⟨ab_istore_ok dL_law_329, List.forall_mem_cons.mpr ⟨ab_aload_n_ok dL_law_331 rfl, List.forall_mem_cons.mpr ⟨ab_aload_n_ok dL_law_332 rfl, List.forall_mem_cons.mpr ⟨ab_iload_ok dL_law_333, List.forall_mem_cons.mpr ⟨ab_iconst_ok dL_law_335 (by decide), List.forall_mem_cons.mpr ⟨ab_iadd_ok dL_law_336, List.forall_mem_cons.mpr ⟨ab_scr_ok dL_law_337, List.forall_mem_cons.mpr ⟨ab_aload_n_ok dL_law_338 rfl, List.forall_mem_cons.mpr ⟨ab_iload_ok dL_law_339, List.forall_mem_cons.mpr ⟨ab_iconst_ok dL_law_341 (by decide), List.forall_mem_cons.mpr ⟨ab_iadd_ok dL_law_342, List.forall_mem_cons.mpr ⟨ab_scr_ok dL_law_343, List.forall_mem_cons.mpr ⟨ab_aload_n_ok dL_law_344 rfl, List.forall_mem_cons.mpr ⟨ab_iload_ok dL_law_345, List.forall_mem_cons.mpr ⟨ab_iconst_ok dL_law_347 (by decide), List.forall_mem_cons.mpr ⟨ab_iadd_ok dL_law_348, List.forall_mem_cons.mpr ⟨ab_scr_ok dL_law_349, List.forall_mem_cons.mpr ⟨ab_aload_n_ok dL_law_350 rfl, List.forall_mem_cons.mpr ⟨ab_iload_ok dL_law_351, List.forall_mem_cons.mpr ⟨ab_iconst_ok dL_law_353 (by decide), fun _ h => absurd h List.not_mem_nil⟩⟩⟩⟩⟩⟩⟩⟩⟩⟩⟩⟩⟩⟩⟩⟩⟩⟩⟩⟩⟩⟩⟩⟩⟩⟩⟩⟩⟩⟩⟩⟩⟩⟩⟩⟩⟩⟩⟩⟩
theorem dL_law_354 : decode cL_law 354 = .ok (.iadd, 1) := by decide +kernel
theorem dL_law_355 : decode cL_law 355 = .ok (.iaload, 1) := by decide +kernel
theorem dL_law_356 : decode cL_law 356 = .ok (.ifCond .eq 7, 3) := by decide +kernel
theorem dL_law_359 : decode cL_law 359 = .ok (.iconst 1, 1) := by decide +kernel
theorem dL_law_360 : decode cL_law 360 = .ok (.goto 4, 3) := by decide +kernel
theorem dL_law_363 : decode cL_law 363 = .ok (.iconst 0, 1) := by decide +kernel
theorem dL_law_364 : decode cL_law 364 = .ok (.invokevirtual 164, 3) := by decide +kernel
theorem dL_law_367 : decode cL_law 367 = .ok (.istore 7, 2) := by decide +kernel
theorem dL_law_369 : decode cL_law 369 = .ok (.aload_n 2, 1) := by decide +kernel
theorem dL_law_370 : decode cL_law 370 = .ok (.invokevirtual 158, 3) := by decide +kernel
theorem dL_law_373 : decode cL_law 373 = .ok (.iload 6, 2) := by decide +kernel
theorem dL_law_375 : decode cL_law 375 = .ok (.if_icmp .eq 5, 3) := by decide +kernel
theorem dL_law_378 : decode cL_law 378 = .ok (.iconst 0, 1) := by decide +kernel
theorem dL_law_379 : decode cL_law 379 = .ok (.ireturn, 1) := by decide +kernel
theorem dL_law_380 : decode cL_law 380 = .ok (.iload 6, 2) := by decide +kernel
theorem dL_law_382 : decode cL_law 382 = .ok (.ifCond .ne 15, 3) := by decide +kernel
theorem dL_law_385 : decode cL_law 385 = .ok (.aload_n 3, 1) := by decide +kernel
theorem dL_law_386 : decode cL_law 386 = .ok (.iconst 0, 1) := by decide +kernel
theorem dL_law_387 : decode cL_law 387 = .ok (.laload, 1) := by decide +kernel
theorem dL_law_388 : decode cL_law 388 = .ok (.iload 7, 2) := by decide +kernel
theorem dL_law_390 : decode cL_law 390 = .ok (.i2l, 1) := by decide +kernel
theorem dL_law_391 : decode cL_law 391 = .ok (.lcmp, 1) := by decide +kernel
theorem dL_law_392 : decode cL_law 392 = .ok (.ifCond .eq 5, 3) := by decide +kernel
theorem dL_law_395 : decode cL_law 395 = .ok (.iconst 0, 1) := by decide +kernel
theorem dL_law_396 : decode cL_law 396 = .ok (.ireturn, 1) := by decide +kernel
theorem dL_law_397 : decode cL_law 397 = .ok (.goto 2273, 3) := by decide +kernel
theorem dL_law_400 : decode cL_law 400 = .ok (.aload_n 1, 1) := by decide +kernel
theorem dL_law_401 : decode cL_law 401 = .ok (.aload_n 0, 1) := by decide +kernel
theorem dL_law_402 : decode cL_law 402 = .ok (.iload 5, 2) := by decide +kernel
theorem dL_law_404 : decode cL_law 404 = .ok (.iconst 1, 1) := by decide +kernel
theorem dL_law_405 : decode cL_law 405 = .ok (.iadd, 1) := by decide +kernel
theorem dL_law_406 : decode cL_law 406 = .ok (.iaload, 1) := by decide +kernel
theorem dL_law_407 : decode cL_law 407 = .ok (.aload_n 0, 1) := by decide +kernel
theorem dL_law_408 : decode cL_law 408 = .ok (.iload 5, 2) := by decide +kernel
theorem dL_law_410 : decode cL_law 410 = .ok (.iconst 2, 1) := by decide +kernel
theorem dL_law_411 : decode cL_law 411 = .ok (.iadd, 1) := by decide +kernel
theorem dL_law_412 : decode cL_law 412 = .ok (.iaload, 1) := by decide +kernel
theorem dL_law_413 : decode cL_law 413 = .ok (.aload_n 0, 1) := by decide +kernel
theorem dL_law_414 : decode cL_law 414 = .ok (.iload 5, 2) := by decide +kernel
theorem dL_law_416 : decode cL_law 416 = .ok (.iconst 3, 1) := by decide +kernel
theorem ab_k0_3 (K : ab_Kt) : ∀ q ∈ ab_l0_3 K, ab_OK K ab_mt ab_g0 q.1 q.2 := by
  unfold ab_l0_3
  exact List.forall_mem_cons.mpr ⟨ab_iadd_ok dL_law_354, List.forall_mem_cons.mpr ⟨ab_scr_ok dL_law_355, List.forall_mem_cons.mpr ⟨ab_if_eq_ok dL_law_356 (by decide), List.forall_mem_cons.mpr ⟨ab_iconst_ok dL_law_359 (by decide), List.forall_mem_cons.mpr ⟨ab_goto_ok dL_law_360 (by decide), List.forall_mem_cons.mpr ⟨ab_iconst_ok dL_law_363 (by decide), List.forall_mem_cons.mpr ⟨ab_callV_ok' (G' := ab_g83) (C := RX7) (T := TX7) (N := 19) dL_law_364 ab_m83 rfl rfl (by decide) (by decide) (ab_l4 ab_w297 ab_w298 ab_w299 ab_w8) ab_w300 rfl ⟨by decide, by decide, by decide +kernel⟩, List.forall_mem_cons.mpr ⟨ab_istore_ok dL_law_367, List.forall_mem_cons.mpr ⟨ab_aload_n_ok dL_law_369 rfl, List.forall_mem_cons.mpr ⟨ab_callV_ok' (G' := ab_g5) (C := RX7) (T := TX7) (N := 19) dL_law_370 ab_m5 rfl rfl (by decide) (by decide) (ab_l4 ab_w22 ab_w23 ab_w24 ab_w8) ab_w25 rfl ⟨by decide, by decide, by decide +kernel⟩, List.forall_mem_cons.mpr ⟨ab_iload_ok dL_law_373, List.forall_mem_cons.mpr ⟨ab_icmp_eq_ok dL_law_375 (by decide), List.forall_mem_cons.mpr ⟨ab_iconst_ok dL_law_378 (by decide), List.forall_mem_cons.mpr ⟨ab_zret_ok dL_law_379 rfl, List.forall_mem_cons.mpr ⟨ab_iload_ok dL_law_380, List.forall_mem_cons.mpr ⟨ab_if_ne_ok dL_law_382 (by decide), List.forall_mem_cons.mpr ⟨ab_aload_n_ok dL_law_385 rfl, List.forall_mem_cons.mpr ⟨ab_iconst_ok dL_law_386 (by decide), List.forall_mem_cons.mpr ⟨ab_lald_ok dL_law_387, List.forall_mem_cons.mpr ⟨ab_iload_ok dL_law_388, List.forall_mem_cons.mpr ⟨ab_i2l_ok dL_law_390, List.forall_mem_cons.mpr ⟨ab_lcmp_ok dL_law_391, List.forall_mem_cons.mpr ⟨ab_if_eq_ok dL_law_392 (by decide), List.forall_mem_cons.mpr ⟨ab_iconst_ok dL_law_395 (by decide), List.forall_mem_cons.mpr ⟨ab_zret_ok dL_law_396 rfl, List.forall_mem_cons.mpr ⟨ab_goto_ok dL_law_397 (by decide), List.forall_mem_cons.mpr ⟨ab_aload_n_ok dL_law_400 rfl, List.forall_mem_cons.mpr ⟨ab_aload_n_ok dL_law_401 rfl, List.forall_mem_cons.mpr ⟨ab_iload_ok dL_law_402, List.forall_mem_cons.mpr ⟨ab_iconst_ok dL_law_404 (by decide), List.forall_mem_cons.mpr ⟨ab_iadd_ok dL_law_405, List.forall_mem_cons.mpr ⟨ab_scr_ok dL_law_406, List.forall_mem_cons.mpr ⟨ab_aload_n_ok dL_law_407 rfl, List.forall_mem_cons.mpr ⟨ab_iload_ok dL_law_408, List.forall_mem_cons.mpr ⟨ab_iconst_ok dL_law_410 (by decide), List.forall_mem_cons.mpr ⟨ab_iadd_ok dL_law_411, List.forall_mem_cons.mpr ⟨ab_scr_ok dL_law_412, List.forall_mem_cons.mpr ⟨ab_aload_n_ok dL_law_413 rfl, List.forall_mem_cons.mpr ⟨ab_iload_ok dL_law_414, List.forall_mem_cons.mpr ⟨ab_iconst_ok dL_law_416 (by decide), fun _ h => absurd h List.not_mem_nil⟩⟩⟩⟩⟩⟩⟩⟩⟩⟩⟩⟩⟩⟩⟩⟩⟩⟩⟩⟩⟩⟩⟩⟩⟩⟩⟩⟩⟩⟩⟩⟩⟩⟩⟩⟩⟩⟩⟩⟩
theorem dL_law_417 : decode cL_law 417 = .ok (.iadd, 1) := by decide +kernel
theorem dL_law_418 : decode cL_law 418 = .ok (.iaload, 1) := by decide +kernel
theorem dL_law_419 : decode cL_law 419 = .ok (.aload_n 3, 1) := by decide +kernel
theorem dL_law_420 : decode cL_law 420 = .ok (.invokestatic 165, 3) := by decide +kernel
theorem dL_law_423 : decode cL_law 423 = .ok (.istore 6, 2) := by decide +kernel
theorem dL_law_425 : decode cL_law 425 = .ok (.aload_n 2, 1) := by decide +kernel
theorem dL_law_426 : decode cL_law 426 = .ok (.aload_n 0, 1) := by decide +kernel
theorem dL_law_427 : decode cL_law 427 = .ok (.iload 5, 2) := by decide +kernel
theorem dL_law_429 : decode cL_law 429 = .ok (.iconst 1, 1) := by decide +kernel
theorem dL_law_430 : decode cL_law 430 = .ok (.iadd, 1) := by decide +kernel
theorem dL_law_431 : decode cL_law 431 = .ok (.iaload, 1) := by decide +kernel
theorem dL_law_432 : decode cL_law 432 = .ok (.aload_n 0, 1) := by decide +kernel
theorem dL_law_433 : decode cL_law 433 = .ok (.iload 5, 2) := by decide +kernel
theorem dL_law_435 : decode cL_law 435 = .ok (.iconst 2, 1) := by decide +kernel
theorem dL_law_436 : decode cL_law 436 = .ok (.iadd, 1) := by decide +kernel
theorem dL_law_437 : decode cL_law 437 = .ok (.iaload, 1) := by decide +kernel
theorem dL_law_438 : decode cL_law 438 = .ok (.aload_n 0, 1) := by decide +kernel
theorem dL_law_439 : decode cL_law 439 = .ok (.iload 5, 2) := by decide +kernel
theorem dL_law_441 : decode cL_law 441 = .ok (.iconst 3, 1) := by decide +kernel
theorem dL_law_442 : decode cL_law 442 = .ok (.iadd, 1) := by decide +kernel
theorem dL_law_443 : decode cL_law 443 = .ok (.iaload, 1) := by decide +kernel
theorem dL_law_444 : decode cL_law 444 = .ok (.invokevirtual 168, 3) := by decide +kernel
theorem dL_law_447 : decode cL_law 447 = .ok (.istore 7, 2) := by decide +kernel
theorem dL_law_449 : decode cL_law 449 = .ok (.aload_n 2, 1) := by decide +kernel
theorem dL_law_450 : decode cL_law 450 = .ok (.invokevirtual 158, 3) := by decide +kernel
theorem dL_law_453 : decode cL_law 453 = .ok (.iload 6, 2) := by decide +kernel
theorem dL_law_455 : decode cL_law 455 = .ok (.if_icmp .eq 5, 3) := by decide +kernel
theorem dL_law_458 : decode cL_law 458 = .ok (.iconst 0, 1) := by decide +kernel
theorem dL_law_459 : decode cL_law 459 = .ok (.ireturn, 1) := by decide +kernel
theorem dL_law_460 : decode cL_law 460 = .ok (.iload 6, 2) := by decide +kernel
theorem dL_law_462 : decode cL_law 462 = .ok (.ifCond .ne 15, 3) := by decide +kernel
theorem dL_law_465 : decode cL_law 465 = .ok (.aload_n 3, 1) := by decide +kernel
theorem dL_law_466 : decode cL_law 466 = .ok (.iconst 0, 1) := by decide +kernel
theorem dL_law_467 : decode cL_law 467 = .ok (.laload, 1) := by decide +kernel
theorem dL_law_468 : decode cL_law 468 = .ok (.iload 7, 2) := by decide +kernel
theorem dL_law_470 : decode cL_law 470 = .ok (.i2l, 1) := by decide +kernel
theorem dL_law_471 : decode cL_law 471 = .ok (.lcmp, 1) := by decide +kernel
theorem dL_law_472 : decode cL_law 472 = .ok (.ifCond .eq 5, 3) := by decide +kernel
theorem dL_law_475 : decode cL_law 475 = .ok (.iconst 0, 1) := by decide +kernel
theorem dL_law_476 : decode cL_law 476 = .ok (.ireturn, 1) := by decide +kernel
theorem ab_k0_4 (K : ab_Kt) : ∀ q ∈ ab_l0_4 K, ab_OK K ab_mt ab_g0 q.1 q.2 := by
  unfold ab_l0_4
  exact List.forall_mem_cons.mpr ⟨ab_iadd_ok dL_law_417, List.forall_mem_cons.mpr ⟨ab_scr_ok dL_law_418, List.forall_mem_cons.mpr ⟨ab_aload_n_ok dL_law_419 rfl, List.forall_mem_cons.mpr ⟨ab_callSX_ok' (G' := ab_g80) dL_law_420 ab_m80 (by decide) (by decide) (ab_l3 ab_w287 ab_w288 ab_w16) ab_w289 rfl ⟨by decide, by decide, by decide +kernel⟩, List.forall_mem_cons.mpr ⟨ab_istore_ok dL_law_423, List.forall_mem_cons.mpr ⟨ab_aload_n_ok dL_law_425 rfl, List.forall_mem_cons.mpr ⟨ab_aload_n_ok dL_law_426 rfl, List.forall_mem_cons.mpr ⟨ab_iload_ok dL_law_427, List.forall_mem_cons.mpr ⟨ab_iconst_ok dL_law_429 (by decide), List.forall_mem_cons.mpr ⟨ab_iadd_ok dL_law_430, List.forall_mem_cons.mpr ⟨ab_scr_ok dL_law_431, List.forall_mem_cons.mpr ⟨ab_aload_n_ok dL_law_432 rfl, List.forall_mem_cons.mpr ⟨ab_iload_ok dL_law_433, List.forall_mem_cons.mpr ⟨ab_iconst_ok dL_law_435 (by decide), List.forall_mem_cons.mpr ⟨ab_iadd_ok dL_law_436, List.forall_mem_cons.mpr ⟨ab_scr_ok dL_law_437, List.forall_mem_cons.mpr ⟨ab_aload_n_ok dL_law_438 rfl, List.forall_mem_cons.mpr ⟨ab_iload_ok dL_law_439, List.forall_mem_cons.mpr ⟨ab_iconst_ok dL_law_441 (by decide), List.forall_mem_cons.mpr ⟨ab_iadd_ok dL_law_442, List.forall_mem_cons.mpr ⟨ab_scr_ok dL_law_443, List.forall_mem_cons.mpr ⟨ab_callV_ok' (G' := ab_g81) (C := RX7) (T := TX7) (N := 19) dL_law_444 ab_m81 rfl rfl (by decide) (by decide) (ab_l4 ab_w290 ab_w291 ab_w292 ab_w8) ab_w293 rfl ⟨by decide, by decide, by decide +kernel⟩, List.forall_mem_cons.mpr ⟨ab_istore_ok dL_law_447, List.forall_mem_cons.mpr ⟨ab_aload_n_ok dL_law_449 rfl, List.forall_mem_cons.mpr ⟨ab_callV_ok' (G' := ab_g5) (C := RX7) (T := TX7) (N := 19) dL_law_450 ab_m5 rfl rfl (by decide) (by decide) (ab_l4 ab_w22 ab_w23 ab_w24 ab_w8) ab_w25 rfl ⟨by decide, by decide, by decide +kernel⟩, List.forall_mem_cons.mpr ⟨ab_iload_ok dL_law_453, List.forall_mem_cons.mpr ⟨ab_icmp_eq_ok dL_law_455 (by decide), List.forall_mem_cons.mpr ⟨ab_iconst_ok dL_law_458 (by decide), List.forall_mem_cons.mpr ⟨ab_zret_ok dL_law_459 rfl, List.forall_mem_cons.mpr ⟨ab_iload_ok dL_law_460, List.forall_mem_cons.mpr ⟨ab_if_ne_ok dL_law_462 (by decide), List.forall_mem_cons.mpr ⟨ab_aload_n_ok dL_law_465 rfl, List.forall_mem_cons.mpr ⟨ab_iconst_ok dL_law_466 (by decide), List.forall_mem_cons.mpr ⟨ab_lald_ok dL_law_467, List.forall_mem_cons.mpr ⟨ab_iload_ok dL_law_468, List.forall_mem_cons.mpr ⟨ab_i2l_ok dL_law_470, List.forall_mem_cons.mpr ⟨ab_lcmp_ok dL_law_471, List.forall_mem_cons.mpr ⟨ab_if_eq_ok dL_law_472 (by decide), List.forall_mem_cons.mpr ⟨ab_iconst_ok dL_law_475 (by decide), List.forall_mem_cons.mpr ⟨ab_zret_ok dL_law_476 rfl, fun _ h => absurd h List.not_mem_nil⟩⟩⟩⟩⟩⟩⟩⟩⟩⟩⟩⟩⟩⟩⟩⟩⟩⟩⟩⟩⟩⟩⟩⟩⟩⟩⟩⟩⟩⟩⟩⟩⟩⟩⟩⟩⟩⟩⟩⟩
theorem dL_law_477 : decode cL_law 477 = .ok (.goto 2193, 3) := by decide +kernel
theorem dL_law_480 : decode cL_law 480 = .ok (.aload_n 1, 1) := by decide +kernel
theorem dL_law_481 : decode cL_law 481 = .ok (.aload_n 0, 1) := by decide +kernel
theorem dL_law_482 : decode cL_law 482 = .ok (.iload 5, 2) := by decide +kernel
theorem dL_law_484 : decode cL_law 484 = .ok (.iconst 1, 1) := by decide +kernel
theorem dL_law_485 : decode cL_law 485 = .ok (.iadd, 1) := by decide +kernel
theorem dL_law_486 : decode cL_law 486 = .ok (.iaload, 1) := by decide +kernel
theorem dL_law_487 : decode cL_law 487 = .ok (.aload_n 0, 1) := by decide +kernel
theorem dL_law_488 : decode cL_law 488 = .ok (.iload 5, 2) := by decide +kernel
theorem dL_law_490 : decode cL_law 490 = .ok (.iconst 2, 1) := by decide +kernel
theorem dL_law_491 : decode cL_law 491 = .ok (.iadd, 1) := by decide +kernel
theorem dL_law_492 : decode cL_law 492 = .ok (.iaload, 1) := by decide +kernel
theorem dL_law_493 : decode cL_law 493 = .ok (.aload_n 3, 1) := by decide +kernel
theorem dL_law_494 : decode cL_law 494 = .ok (.invokestatic 169, 3) := by decide +kernel
theorem dL_law_497 : decode cL_law 497 = .ok (.istore 6, 2) := by decide +kernel
theorem dL_law_499 : decode cL_law 499 = .ok (.aload_n 2, 1) := by decide +kernel
theorem dL_law_500 : decode cL_law 500 = .ok (.aload_n 0, 1) := by decide +kernel
theorem dL_law_501 : decode cL_law 501 = .ok (.iload 5, 2) := by decide +kernel
theorem dL_law_503 : decode cL_law 503 = .ok (.iconst 1, 1) := by decide +kernel
theorem dL_law_504 : decode cL_law 504 = .ok (.iadd, 1) := by decide +kernel
theorem dL_law_505 : decode cL_law 505 = .ok (.iaload, 1) := by decide +kernel
theorem dL_law_506 : decode cL_law 506 = .ok (.aload_n 0, 1) := by decide +kernel
theorem dL_law_507 : decode cL_law 507 = .ok (.iload 5, 2) := by decide +kernel
theorem dL_law_509 : decode cL_law 509 = .ok (.iconst 2, 1) := by decide +kernel
theorem dL_law_510 : decode cL_law 510 = .ok (.iadd, 1) := by decide +kernel
theorem dL_law_511 : decode cL_law 511 = .ok (.iaload, 1) := by decide +kernel
theorem dL_law_512 : decode cL_law 512 = .ok (.invokevirtual 171, 3) := by decide +kernel
theorem dL_law_515 : decode cL_law 515 = .ok (.istore 7, 2) := by decide +kernel
theorem dL_law_517 : decode cL_law 517 = .ok (.aload_n 2, 1) := by decide +kernel
theorem dL_law_518 : decode cL_law 518 = .ok (.invokevirtual 158, 3) := by decide +kernel
theorem dL_law_521 : decode cL_law 521 = .ok (.iload 6, 2) := by decide +kernel
theorem dL_law_523 : decode cL_law 523 = .ok (.if_icmp .eq 5, 3) := by decide +kernel
theorem dL_law_526 : decode cL_law 526 = .ok (.iconst 0, 1) := by decide +kernel
theorem dL_law_527 : decode cL_law 527 = .ok (.ireturn, 1) := by decide +kernel
theorem dL_law_528 : decode cL_law 528 = .ok (.iload 6, 2) := by decide +kernel
theorem dL_law_530 : decode cL_law 530 = .ok (.ifCond .ne 15, 3) := by decide +kernel
theorem dL_law_533 : decode cL_law 533 = .ok (.aload_n 3, 1) := by decide +kernel
theorem dL_law_534 : decode cL_law 534 = .ok (.iconst 0, 1) := by decide +kernel
theorem dL_law_535 : decode cL_law 535 = .ok (.laload, 1) := by decide +kernel
theorem dL_law_536 : decode cL_law 536 = .ok (.iload 7, 2) := by decide +kernel
theorem ab_k0_5 (K : ab_Kt) : ∀ q ∈ ab_l0_5 K, ab_OK K ab_mt ab_g0 q.1 q.2 := by
  unfold ab_l0_5
  exact List.forall_mem_cons.mpr ⟨ab_goto_ok dL_law_477 (by decide), List.forall_mem_cons.mpr ⟨ab_aload_n_ok dL_law_480 rfl, List.forall_mem_cons.mpr ⟨ab_aload_n_ok dL_law_481 rfl, List.forall_mem_cons.mpr ⟨ab_iload_ok dL_law_482, List.forall_mem_cons.mpr ⟨ab_iconst_ok dL_law_484 (by decide), List.forall_mem_cons.mpr ⟨ab_iadd_ok dL_law_485, List.forall_mem_cons.mpr ⟨ab_scr_ok dL_law_486, List.forall_mem_cons.mpr ⟨ab_aload_n_ok dL_law_487 rfl, List.forall_mem_cons.mpr ⟨ab_iload_ok dL_law_488, List.forall_mem_cons.mpr ⟨ab_iconst_ok dL_law_490 (by decide), List.forall_mem_cons.mpr ⟨ab_iadd_ok dL_law_491, List.forall_mem_cons.mpr ⟨ab_scr_ok dL_law_492, List.forall_mem_cons.mpr ⟨ab_aload_n_ok dL_law_493 rfl, List.forall_mem_cons.mpr ⟨ab_callSX_ok' (G' := ab_g78) dL_law_494 ab_m78 (by decide) (by decide) (ab_l3 ab_w280 ab_w281 ab_w16) ab_w282 rfl ⟨by decide, by decide, by decide +kernel⟩, List.forall_mem_cons.mpr ⟨ab_istore_ok dL_law_497, List.forall_mem_cons.mpr ⟨ab_aload_n_ok dL_law_499 rfl, List.forall_mem_cons.mpr ⟨ab_aload_n_ok dL_law_500 rfl, List.forall_mem_cons.mpr ⟨ab_iload_ok dL_law_501, List.forall_mem_cons.mpr ⟨ab_iconst_ok dL_law_503 (by decide), List.forall_mem_cons.mpr ⟨ab_iadd_ok dL_law_504, List.forall_mem_cons.mpr ⟨ab_scr_ok dL_law_505, List.forall_mem_cons.mpr ⟨ab_aload_n_ok dL_law_506 rfl, List.forall_mem_cons.mpr ⟨ab_iload_ok dL_law_507, List.forall_mem_cons.mpr ⟨ab_iconst_ok dL_law_509 (by decide), List.forall_mem_cons.mpr ⟨ab_iadd_ok dL_law_510, List.forall_mem_cons.mpr ⟨ab_scr_ok dL_law_511, List.forall_mem_cons.mpr ⟨ab_callV_ok' (G' := ab_g79) (C := RX7) (T := TX7) (N := 19) dL_law_512 ab_m79 rfl rfl (by decide) (by decide) (ab_l4 ab_w283 ab_w284 ab_w285 ab_w8) ab_w286 rfl ⟨by decide, by decide, by decide +kernel⟩, List.forall_mem_cons.mpr ⟨ab_istore_ok dL_law_515, List.forall_mem_cons.mpr ⟨ab_aload_n_ok dL_law_517 rfl, List.forall_mem_cons.mpr ⟨ab_callV_ok' (G' := ab_g5) (C := RX7) (T := TX7) (N := 19) dL_law_518 ab_m5 rfl rfl (by decide) (by decide) (ab_l4 ab_w22 ab_w23 ab_w24 ab_w8) ab_w25 rfl ⟨by decide, by decide, by decide +kernel⟩, List.forall_mem_cons.mpr ⟨ab_iload_ok dL_law_521, List.forall_mem_cons.mpr ⟨ab_icmp_eq_ok dL_law_523 (by decide), List.forall_mem_cons.mpr ⟨ab_iconst_ok dL_law_526 (by decide), List.forall_mem_cons.mpr ⟨ab_zret_ok dL_law_527 rfl, List.forall_mem_cons.mpr ⟨ab_iload_ok dL_law_528, List.forall_mem_cons.mpr ⟨ab_if_ne_ok dL_law_530 (by decide), List.forall_mem_cons.mpr ⟨ab_aload_n_ok dL_law_533 rfl, List.forall_mem_cons.mpr ⟨ab_iconst_ok dL_law_534 (by decide), List.forall_mem_cons.mpr ⟨ab_lald_ok dL_law_535, List.forall_mem_cons.mpr ⟨ab_iload_ok dL_law_536, fun _ h => absurd h List.not_mem_nil⟩⟩⟩⟩⟩⟩⟩⟩⟩⟩⟩⟩⟩⟩⟩⟩⟩⟩⟩⟩⟩⟩⟩⟩⟩⟩⟩⟩⟩⟩⟩⟩⟩⟩⟩⟩⟩⟩⟩⟩
theorem dL_law_538 : decode cL_law 538 = .ok (.i2l, 1) := by decide +kernel
theorem dL_law_539 : decode cL_law 539 = .ok (.lcmp, 1) := by decide +kernel
theorem dL_law_540 : decode cL_law 540 = .ok (.ifCond .eq 5, 3) := by decide +kernel
theorem dL_law_543 : decode cL_law 543 = .ok (.iconst 0, 1) := by decide +kernel
theorem dL_law_544 : decode cL_law 544 = .ok (.ireturn, 1) := by decide +kernel
theorem dL_law_545 : decode cL_law 545 = .ok (.goto 2125, 3) := by decide +kernel
theorem dL_law_548 : decode cL_law 548 = .ok (.aload_n 1, 1) := by decide +kernel
theorem dL_law_549 : decode cL_law 549 = .ok (.aload_n 0, 1) := by decide +kernel
theorem dL_law_550 : decode cL_law 550 = .ok (.iload 5, 2) := by decide +kernel
theorem dL_law_552 : decode cL_law 552 = .ok (.iconst 1, 1) := by decide +kernel
theorem dL_law_553 : decode cL_law 553 = .ok (.iadd, 1) := by decide +kernel
theorem dL_law_554 : decode cL_law 554 = .ok (.iaload, 1) := by decide +kernel
theorem dL_law_555 : decode cL_law 555 = .ok (.aload_n 3, 1) := by decide +kernel
theorem dL_law_556 : decode cL_law 556 = .ok (.invokestatic 172, 3) := by decide +kernel
theorem dL_law_559 : decode cL_law 559 = .ok (.istore 6, 2) := by decide +kernel
theorem dL_law_561 : decode cL_law 561 = .ok (.aload_n 2, 1) := by decide +kernel
theorem dL_law_562 : decode cL_law 562 = .ok (.aload_n 0, 1) := by decide +kernel
theorem dL_law_563 : decode cL_law 563 = .ok (.iload 5, 2) := by decide +kernel
theorem dL_law_565 : decode cL_law 565 = .ok (.iconst 1, 1) := by decide +kernel
theorem dL_law_566 : decode cL_law 566 = .ok (.iadd, 1) := by decide +kernel
theorem dL_law_567 : decode cL_law 567 = .ok (.iaload, 1) := by decide +kernel
theorem dL_law_568 : decode cL_law 568 = .ok (.invokevirtual 175, 3) := by decide +kernel
theorem dL_law_571 : decode cL_law 571 = .ok (.istore 7, 2) := by decide +kernel
theorem dL_law_573 : decode cL_law 573 = .ok (.aload_n 2, 1) := by decide +kernel
theorem dL_law_574 : decode cL_law 574 = .ok (.invokevirtual 158, 3) := by decide +kernel
theorem dL_law_577 : decode cL_law 577 = .ok (.iload 6, 2) := by decide +kernel
theorem dL_law_579 : decode cL_law 579 = .ok (.if_icmp .eq 5, 3) := by decide +kernel
theorem dL_law_582 : decode cL_law 582 = .ok (.iconst 0, 1) := by decide +kernel
theorem dL_law_583 : decode cL_law 583 = .ok (.ireturn, 1) := by decide +kernel
theorem dL_law_584 : decode cL_law 584 = .ok (.iload 6, 2) := by decide +kernel
theorem dL_law_586 : decode cL_law 586 = .ok (.ifCond .ne 15, 3) := by decide +kernel
theorem dL_law_589 : decode cL_law 589 = .ok (.aload_n 3, 1) := by decide +kernel
theorem dL_law_590 : decode cL_law 590 = .ok (.iconst 0, 1) := by decide +kernel
theorem dL_law_591 : decode cL_law 591 = .ok (.laload, 1) := by decide +kernel
theorem dL_law_592 : decode cL_law 592 = .ok (.iload 7, 2) := by decide +kernel
theorem dL_law_594 : decode cL_law 594 = .ok (.i2l, 1) := by decide +kernel
theorem dL_law_595 : decode cL_law 595 = .ok (.lcmp, 1) := by decide +kernel
theorem dL_law_596 : decode cL_law 596 = .ok (.ifCond .eq 5, 3) := by decide +kernel
theorem dL_law_599 : decode cL_law 599 = .ok (.iconst 0, 1) := by decide +kernel
theorem dL_law_600 : decode cL_law 600 = .ok (.ireturn, 1) := by decide +kernel
theorem ab_k0_6 (K : ab_Kt) : ∀ q ∈ ab_l0_6 K, ab_OK K ab_mt ab_g0 q.1 q.2 := by
  unfold ab_l0_6
  exact List.forall_mem_cons.mpr ⟨ab_i2l_ok dL_law_538, List.forall_mem_cons.mpr ⟨ab_lcmp_ok dL_law_539, List.forall_mem_cons.mpr ⟨ab_if_eq_ok dL_law_540 (by decide), List.forall_mem_cons.mpr ⟨ab_iconst_ok dL_law_543 (by decide), List.forall_mem_cons.mpr ⟨ab_zret_ok dL_law_544 rfl, List.forall_mem_cons.mpr ⟨ab_goto_ok dL_law_545 (by decide), List.forall_mem_cons.mpr ⟨ab_aload_n_ok dL_law_548 rfl, List.forall_mem_cons.mpr ⟨ab_aload_n_ok dL_law_549 rfl, List.forall_mem_cons.mpr ⟨ab_iload_ok dL_law_550, List.forall_mem_cons.mpr ⟨ab_iconst_ok dL_law_552 (by decide), List.forall_mem_cons.mpr ⟨ab_iadd_ok dL_law_553, List.forall_mem_cons.mpr ⟨ab_scr_ok dL_law_554, List.forall_mem_cons.mpr ⟨ab_aload_n_ok dL_law_555 rfl, List.forall_mem_cons.mpr ⟨ab_callSX_ok' (G' := ab_g76) dL_law_556 ab_m76 (by decide) (by decide) (ab_l3 ab_w273 ab_w274 ab_w16) ab_w275 rfl ⟨by decide, by decide, by decide +kernel⟩, List.forall_mem_cons.mpr ⟨ab_istore_ok dL_law_559, List.forall_mem_cons.mpr ⟨ab_aload_n_ok dL_law_561 rfl, List.forall_mem_cons.mpr ⟨ab_aload_n_ok dL_law_562 rfl, List.forall_mem_cons.mpr ⟨ab_iload_ok dL_law_563, List.forall_mem_cons.mpr ⟨ab_iconst_ok dL_law_565 (by decide), List.forall_mem_cons.mpr ⟨ab_iadd_ok dL_law_566, List.forall_mem_cons.mpr ⟨ab_scr_ok dL_law_567, List.forall_mem_cons.mpr ⟨ab_callV_ok' (G' := ab_g77) (C := RX7) (T := TX7) (N := 19) dL_law_568 ab_m77 rfl rfl (by decide) (by decide) (ab_l4 ab_w276 ab_w277 ab_w278 ab_w8) ab_w279 rfl ⟨by decide, by decide, by decide +kernel⟩, List.forall_mem_cons.mpr ⟨ab_istore_ok dL_law_571, List.forall_mem_cons.mpr ⟨ab_aload_n_ok dL_law_573 rfl, List.forall_mem_cons.mpr ⟨ab_callV_ok' (G' := ab_g5) (C := RX7) (T := TX7) (N := 19) dL_law_574 ab_m5 rfl rfl (by decide) (by decide) (ab_l4 ab_w22 ab_w23 ab_w24 ab_w8) ab_w25 rfl ⟨by decide, by decide, by decide +kernel⟩, List.forall_mem_cons.mpr ⟨ab_iload_ok dL_law_577, List.forall_mem_cons.mpr ⟨ab_icmp_eq_ok dL_law_579 (by decide), List.forall_mem_cons.mpr ⟨ab_iconst_ok dL_law_582 (by decide), List.forall_mem_cons.mpr ⟨ab_zret_ok dL_law_583 rfl, List.forall_mem_cons.mpr ⟨ab_iload_ok dL_law_584, List.forall_mem_cons.mpr ⟨ab_if_ne_ok dL_law_586 (by decide), List.forall_mem_cons.mpr ⟨ab_aload_n_ok dL_law_589 rfl, List.forall_mem_cons.mpr ⟨ab_iconst_ok dL_law_590 (by decide), List.forall_mem_cons.mpr ⟨ab_lald_ok dL_law_591, List.forall_mem_cons.mpr ⟨ab_iload_ok dL_law_592, List.forall_mem_cons.mpr ⟨ab_i2l_ok dL_law_594, List.forall_mem_cons.mpr ⟨ab_lcmp_ok dL_law_595, List.forall_mem_cons.mpr ⟨ab_if_eq_ok dL_law_596 (by decide), List.forall_mem_cons.mpr ⟨ab_iconst_ok dL_law_599 (by decide), List.forall_mem_cons.mpr ⟨ab_zret_ok dL_law_600 rfl, fun _ h => absurd h List.not_mem_nil⟩⟩⟩⟩⟩⟩⟩⟩⟩⟩⟩⟩⟩⟩⟩⟩⟩⟩⟩⟩⟩⟩⟩⟩⟩⟩⟩⟩⟩⟩⟩⟩⟩⟩⟩⟩⟩⟩⟩⟩
theorem dL_law_601 : decode cL_law 601 = .ok (.goto 2069, 3) := by decide +kernel
theorem dL_law_604 : decode cL_law 604 = .ok (.aload_n 1, 1) := by decide +kernel
theorem dL_law_605 : decode cL_law 605 = .ok (.aload_n 0, 1) := by decide +kernel
theorem dL_law_606 : decode cL_law 606 = .ok (.iload 5, 2) := by decide +kernel
theorem dL_law_608 : decode cL_law 608 = .ok (.iconst 1, 1) := by decide +kernel
theorem dL_law_609 : decode cL_law 609 = .ok (.iadd, 1) := by decide +kernel
theorem dL_law_610 : decode cL_law 610 = .ok (.iaload, 1) := by decide +kernel
theorem dL_law_611 : decode cL_law 611 = .ok (.aload_n 3, 1) := by decide +kernel
theorem dL_law_612 : decode cL_law 612 = .ok (.invokestatic 176, 3) := by decide +kernel
theorem dL_law_615 : decode cL_law 615 = .ok (.istore 6, 2) := by decide +kernel
theorem dL_law_617 : decode cL_law 617 = .ok (.aload_n 2, 1) := by decide +kernel
theorem dL_law_618 : decode cL_law 618 = .ok (.aload_n 0, 1) := by decide +kernel
theorem dL_law_619 : decode cL_law 619 = .ok (.iload 5, 2) := by decide +kernel
theorem dL_law_621 : decode cL_law 621 = .ok (.iconst 1, 1) := by decide +kernel
theorem dL_law_622 : decode cL_law 622 = .ok (.iadd, 1) := by decide +kernel
theorem dL_law_623 : decode cL_law 623 = .ok (.iaload, 1) := by decide +kernel
theorem dL_law_624 : decode cL_law 624 = .ok (.invokevirtual 178, 3) := by decide +kernel
theorem dL_law_627 : decode cL_law 627 = .ok (.istore 7, 2) := by decide +kernel
theorem dL_law_629 : decode cL_law 629 = .ok (.aload_n 2, 1) := by decide +kernel
theorem dL_law_630 : decode cL_law 630 = .ok (.invokevirtual 158, 3) := by decide +kernel
theorem dL_law_633 : decode cL_law 633 = .ok (.iload 6, 2) := by decide +kernel
theorem dL_law_635 : decode cL_law 635 = .ok (.if_icmp .eq 5, 3) := by decide +kernel
theorem dL_law_638 : decode cL_law 638 = .ok (.iconst 0, 1) := by decide +kernel
theorem dL_law_639 : decode cL_law 639 = .ok (.ireturn, 1) := by decide +kernel
theorem dL_law_640 : decode cL_law 640 = .ok (.iload 6, 2) := by decide +kernel
theorem dL_law_642 : decode cL_law 642 = .ok (.ifCond .ne 15, 3) := by decide +kernel
theorem dL_law_645 : decode cL_law 645 = .ok (.aload_n 3, 1) := by decide +kernel
theorem dL_law_646 : decode cL_law 646 = .ok (.iconst 0, 1) := by decide +kernel
theorem dL_law_647 : decode cL_law 647 = .ok (.laload, 1) := by decide +kernel
theorem dL_law_648 : decode cL_law 648 = .ok (.iload 7, 2) := by decide +kernel
theorem dL_law_650 : decode cL_law 650 = .ok (.i2l, 1) := by decide +kernel
theorem dL_law_651 : decode cL_law 651 = .ok (.lcmp, 1) := by decide +kernel
theorem dL_law_652 : decode cL_law 652 = .ok (.ifCond .eq 5, 3) := by decide +kernel
theorem dL_law_655 : decode cL_law 655 = .ok (.iconst 0, 1) := by decide +kernel
theorem dL_law_656 : decode cL_law 656 = .ok (.ireturn, 1) := by decide +kernel
theorem dL_law_657 : decode cL_law 657 = .ok (.goto 2013, 3) := by decide +kernel
theorem dL_law_660 : decode cL_law 660 = .ok (.aload_n 1, 1) := by decide +kernel
theorem dL_law_661 : decode cL_law 661 = .ok (.aload_n 0, 1) := by decide +kernel
theorem dL_law_662 : decode cL_law 662 = .ok (.iload 5, 2) := by decide +kernel
theorem dL_law_664 : decode cL_law 664 = .ok (.iconst 1, 1) := by decide +kernel
theorem ab_k0_7 (K : ab_Kt) : ∀ q ∈ ab_l0_7 K, ab_OK K ab_mt ab_g0 q.1 q.2 := by
  unfold ab_l0_7
  exact List.forall_mem_cons.mpr ⟨ab_goto_ok dL_law_601 (by decide), List.forall_mem_cons.mpr ⟨ab_aload_n_ok dL_law_604 rfl, List.forall_mem_cons.mpr ⟨ab_aload_n_ok dL_law_605 rfl, List.forall_mem_cons.mpr ⟨ab_iload_ok dL_law_606, List.forall_mem_cons.mpr ⟨ab_iconst_ok dL_law_608 (by decide), List.forall_mem_cons.mpr ⟨ab_iadd_ok dL_law_609, List.forall_mem_cons.mpr ⟨ab_scr_ok dL_law_610, List.forall_mem_cons.mpr ⟨ab_aload_n_ok dL_law_611 rfl, List.forall_mem_cons.mpr ⟨ab_callSX_ok' (G' := ab_g74) dL_law_612 ab_m74 (by decide) (by decide) (ab_l3 ab_w266 ab_w267 ab_w16) ab_w268 rfl ⟨by decide, by decide, by decide +kernel⟩, List.forall_mem_cons.mpr ⟨ab_istore_ok dL_law_615, List.forall_mem_cons.mpr ⟨ab_aload_n_ok dL_law_617 rfl, List.forall_mem_cons.mpr ⟨ab_aload_n_ok dL_law_618 rfl, List.forall_mem_cons.mpr ⟨ab_iload_ok dL_law_619, List.forall_mem_cons.mpr ⟨ab_iconst_ok dL_law_621 (by decide), List.forall_mem_cons.mpr ⟨ab_iadd_ok dL_law_622, List.forall_mem_cons.mpr ⟨ab_scr_ok dL_law_623, List.forall_mem_cons.mpr ⟨ab_callV_ok' (G' := ab_g75) (C := RX7) (T := TX7) (N := 19) dL_law_624 ab_m75 rfl rfl (by decide) (by decide) (ab_l4 ab_w269 ab_w270 ab_w271 ab_w8) ab_w272 rfl ⟨by decide, by decide, by decide +kernel⟩, List.forall_mem_cons.mpr ⟨ab_istore_ok dL_law_627, List.forall_mem_cons.mpr ⟨ab_aload_n_ok dL_law_629 rfl, List.forall_mem_cons.mpr ⟨ab_callV_ok' (G' := ab_g5) (C := RX7) (T := TX7) (N := 19) dL_law_630 ab_m5 rfl rfl (by decide) (by decide) (ab_l4 ab_w22 ab_w23 ab_w24 ab_w8) ab_w25 rfl ⟨by decide, by decide, by decide +kernel⟩, List.forall_mem_cons.mpr ⟨ab_iload_ok dL_law_633, List.forall_mem_cons.mpr ⟨ab_icmp_eq_ok dL_law_635 (by decide), List.forall_mem_cons.mpr ⟨ab_iconst_ok dL_law_638 (by decide), List.forall_mem_cons.mpr ⟨ab_zret_ok dL_law_639 rfl, List.forall_mem_cons.mpr ⟨ab_iload_ok dL_law_640, List.forall_mem_cons.mpr ⟨ab_if_ne_ok dL_law_642 (by decide), List.forall_mem_cons.mpr ⟨ab_aload_n_ok dL_law_645 rfl, List.forall_mem_cons.mpr ⟨ab_iconst_ok dL_law_646 (by decide), List.forall_mem_cons.mpr ⟨ab_lald_ok dL_law_647, List.forall_mem_cons.mpr ⟨ab_iload_ok dL_law_648, List.forall_mem_cons.mpr ⟨ab_i2l_ok dL_law_650, List.forall_mem_cons.mpr ⟨ab_lcmp_ok dL_law_651, List.forall_mem_cons.mpr ⟨ab_if_eq_ok dL_law_652 (by decide), List.forall_mem_cons.mpr ⟨ab_iconst_ok dL_law_655 (by decide), List.forall_mem_cons.mpr ⟨ab_zret_ok dL_law_656 rfl, List.forall_mem_cons.mpr ⟨ab_goto_ok dL_law_657 (by decide), List.forall_mem_cons.mpr ⟨ab_aload_n_ok dL_law_660 rfl, List.forall_mem_cons.mpr ⟨ab_aload_n_ok dL_law_661 rfl, List.forall_mem_cons.mpr ⟨ab_iload_ok dL_law_662, List.forall_mem_cons.mpr ⟨ab_iconst_ok dL_law_664 (by decide), fun _ h => absurd h List.not_mem_nil⟩⟩⟩⟩⟩⟩⟩⟩⟩⟩⟩⟩⟩⟩⟩⟩⟩⟩⟩⟩⟩⟩⟩⟩⟩⟩⟩⟩⟩⟩⟩⟩⟩⟩⟩⟩⟩⟩⟩⟩
theorem dL_law_665 : decode cL_law 665 = .ok (.iadd, 1) := by decide +kernel
theorem dL_law_666 : decode cL_law 666 = .ok (.iaload, 1) := by decide +kernel
theorem dL_law_667 : decode cL_law 667 = .ok (.aload_n 3, 1) := by decide +kernel
theorem dL_law_668 : decode cL_law 668 = .ok (.invokestatic 179, 3) := by decide +kernel
theorem dL_law_671 : decode cL_law 671 = .ok (.istore 6, 2) := by decide +kernel
theorem dL_law_673 : decode cL_law 673 = .ok (.aload_n 2, 1) := by decide +kernel
theorem dL_law_674 : decode cL_law 674 = .ok (.aload_n 0, 1) := by decide +kernel
theorem dL_law_675 : decode cL_law 675 = .ok (.iload 5, 2) := by decide +kernel
theorem dL_law_677 : decode cL_law 677 = .ok (.iconst 1, 1) := by decide +kernel
theorem dL_law_678 : decode cL_law 678 = .ok (.iadd, 1) := by decide +kernel
theorem dL_law_679 : decode cL_law 679 = .ok (.iaload, 1) := by decide +kernel
theorem dL_law_680 : decode cL_law 680 = .ok (.invokevirtual 181, 3) := by decide +kernel
theorem dL_law_683 : decode cL_law 683 = .ok (.istore 7, 2) := by decide +kernel
theorem dL_law_685 : decode cL_law 685 = .ok (.aload_n 2, 1) := by decide +kernel
theorem dL_law_686 : decode cL_law 686 = .ok (.invokevirtual 158, 3) := by decide +kernel
theorem dL_law_689 : decode cL_law 689 = .ok (.iload 6, 2) := by decide +kernel
theorem dL_law_691 : decode cL_law 691 = .ok (.if_icmp .eq 5, 3) := by decide +kernel
theorem dL_law_694 : decode cL_law 694 = .ok (.iconst 0, 1) := by decide +kernel
theorem dL_law_695 : decode cL_law 695 = .ok (.ireturn, 1) := by decide +kernel
theorem dL_law_696 : decode cL_law 696 = .ok (.iload 6, 2) := by decide +kernel
theorem dL_law_698 : decode cL_law 698 = .ok (.ifCond .ne 15, 3) := by decide +kernel
theorem dL_law_701 : decode cL_law 701 = .ok (.aload_n 3, 1) := by decide +kernel
theorem dL_law_702 : decode cL_law 702 = .ok (.iconst 0, 1) := by decide +kernel
theorem dL_law_703 : decode cL_law 703 = .ok (.laload, 1) := by decide +kernel
theorem dL_law_704 : decode cL_law 704 = .ok (.iload 7, 2) := by decide +kernel
theorem dL_law_706 : decode cL_law 706 = .ok (.i2l, 1) := by decide +kernel
theorem dL_law_707 : decode cL_law 707 = .ok (.lcmp, 1) := by decide +kernel
theorem dL_law_708 : decode cL_law 708 = .ok (.ifCond .eq 5, 3) := by decide +kernel
theorem dL_law_711 : decode cL_law 711 = .ok (.iconst 0, 1) := by decide +kernel
theorem dL_law_712 : decode cL_law 712 = .ok (.ireturn, 1) := by decide +kernel
theorem dL_law_713 : decode cL_law 713 = .ok (.goto 1957, 3) := by decide +kernel
theorem dL_law_716 : decode cL_law 716 = .ok (.aload_n 1, 1) := by decide +kernel
theorem dL_law_717 : decode cL_law 717 = .ok (.aload_n 0, 1) := by decide +kernel
theorem dL_law_718 : decode cL_law 718 = .ok (.iload 5, 2) := by decide +kernel
theorem dL_law_720 : decode cL_law 720 = .ok (.iconst 1, 1) := by decide +kernel
theorem dL_law_721 : decode cL_law 721 = .ok (.iadd, 1) := by decide +kernel
theorem dL_law_722 : decode cL_law 722 = .ok (.iaload, 1) := by decide +kernel
theorem dL_law_723 : decode cL_law 723 = .ok (.aload_n 0, 1) := by decide +kernel
theorem dL_law_724 : decode cL_law 724 = .ok (.iload 5, 2) := by decide +kernel
theorem dL_law_726 : decode cL_law 726 = .ok (.iconst 2, 1) := by decide +kernel
theorem ab_k0_8 (K : ab_Kt) : ∀ q ∈ ab_l0_8 K, ab_OK K ab_mt ab_g0 q.1 q.2 := by
  unfold ab_l0_8
  exact List.forall_mem_cons.mpr ⟨ab_iadd_ok dL_law_665, List.forall_mem_cons.mpr ⟨ab_scr_ok dL_law_666, List.forall_mem_cons.mpr ⟨ab_aload_n_ok dL_law_667 rfl, List.forall_mem_cons.mpr ⟨ab_callSX_ok' (G' := ab_g72) dL_law_668 ab_m72 (by decide) (by decide) (ab_l3 ab_w259 ab_w260 ab_w16) ab_w261 rfl ⟨by decide, by decide, by decide +kernel⟩, List.forall_mem_cons.mpr ⟨ab_istore_ok dL_law_671, List.forall_mem_cons.mpr ⟨ab_aload_n_ok dL_law_673 rfl, List.forall_mem_cons.mpr ⟨ab_aload_n_ok dL_law_674 rfl, List.forall_mem_cons.mpr ⟨ab_iload_ok dL_law_675, List.forall_mem_cons.mpr ⟨ab_iconst_ok dL_law_677 (by decide), List.forall_mem_cons.mpr ⟨ab_iadd_ok dL_law_678, List.forall_mem_cons.mpr ⟨ab_scr_ok dL_law_679, List.forall_mem_cons.mpr ⟨ab_callV_ok' (G' := ab_g73) (C := RX7) (T := TX7) (N := 19) dL_law_680 ab_m73 rfl rfl (by decide) (by decide) (ab_l4 ab_w262 ab_w263 ab_w264 ab_w8) ab_w265 rfl ⟨by decide, by decide, by decide +kernel⟩, List.forall_mem_cons.mpr ⟨ab_istore_ok dL_law_683, List.forall_mem_cons.mpr ⟨ab_aload_n_ok dL_law_685 rfl, List.forall_mem_cons.mpr ⟨ab_callV_ok' (G' := ab_g5) (C := RX7) (T := TX7) (N := 19) dL_law_686 ab_m5 rfl rfl (by decide) (by decide) (ab_l4 ab_w22 ab_w23 ab_w24 ab_w8) ab_w25 rfl ⟨by decide, by decide, by decide +kernel⟩, List.forall_mem_cons.mpr ⟨ab_iload_ok dL_law_689, List.forall_mem_cons.mpr ⟨ab_icmp_eq_ok dL_law_691 (by decide), List.forall_mem_cons.mpr ⟨ab_iconst_ok dL_law_694 (by decide), List.forall_mem_cons.mpr ⟨ab_zret_ok dL_law_695 rfl, List.forall_mem_cons.mpr ⟨ab_iload_ok dL_law_696, List.forall_mem_cons.mpr ⟨ab_if_ne_ok dL_law_698 (by decide), List.forall_mem_cons.mpr ⟨ab_aload_n_ok dL_law_701 rfl, List.forall_mem_cons.mpr ⟨ab_iconst_ok dL_law_702 (by decide), List.forall_mem_cons.mpr ⟨ab_lald_ok dL_law_703, List.forall_mem_cons.mpr ⟨ab_iload_ok dL_law_704, List.forall_mem_cons.mpr ⟨ab_i2l_ok dL_law_706, List.forall_mem_cons.mpr ⟨ab_lcmp_ok dL_law_707, List.forall_mem_cons.mpr ⟨ab_if_eq_ok dL_law_708 (by decide), List.forall_mem_cons.mpr ⟨ab_iconst_ok dL_law_711 (by decide), List.forall_mem_cons.mpr ⟨ab_zret_ok dL_law_712 rfl, List.forall_mem_cons.mpr ⟨ab_goto_ok dL_law_713 (by decide), List.forall_mem_cons.mpr ⟨ab_aload_n_ok dL_law_716 rfl, List.forall_mem_cons.mpr ⟨ab_aload_n_ok dL_law_717 rfl, List.forall_mem_cons.mpr ⟨ab_iload_ok dL_law_718, List.forall_mem_cons.mpr ⟨ab_iconst_ok dL_law_720 (by decide), List.forall_mem_cons.mpr ⟨ab_iadd_ok dL_law_721, List.forall_mem_cons.mpr ⟨ab_scr_ok dL_law_722, List.forall_mem_cons.mpr ⟨ab_aload_n_ok dL_law_723 rfl, List.forall_mem_cons.mpr ⟨ab_iload_ok dL_law_724, List.forall_mem_cons.mpr ⟨ab_iconst_ok dL_law_726 (by decide), fun _ h => absurd h List.not_mem_nil⟩⟩⟩⟩⟩⟩⟩⟩⟩⟩⟩⟩⟩⟩⟩⟩⟩⟩⟩⟩⟩⟩⟩⟩⟩⟩⟩⟩⟩⟩⟩⟩⟩⟩⟩⟩⟩⟩⟩⟩
theorem dL_law_727 : decode cL_law 727 = .ok (.iadd, 1) := by decide +kernel
theorem dL_law_728 : decode cL_law 728 = .ok (.iaload, 1) := by decide +kernel
theorem dL_law_729 : decode cL_law 729 = .ok (.aload_n 3, 1) := by decide +kernel
theorem dL_law_730 : decode cL_law 730 = .ok (.invokestatic 182, 3) := by decide +kernel
theorem dL_law_733 : decode cL_law 733 = .ok (.istore 6, 2) := by decide +kernel
theorem dL_law_735 : decode cL_law 735 = .ok (.aload_n 2, 1) := by decide +kernel
theorem dL_law_736 : decode cL_law 736 = .ok (.aload_n 0, 1) := by decide +kernel
theorem dL_law_737 : decode cL_law 737 = .ok (.iload 5, 2) := by decide +kernel
theorem dL_law_739 : decode cL_law 739 = .ok (.iconst 1, 1) := by decide +kernel
theorem dL_law_740 : decode cL_law 740 = .ok (.iadd, 1) := by decide +kernel
theorem dL_law_741 : decode cL_law 741 = .ok (.iaload, 1) := by decide +kernel
theorem dL_law_742 : decode cL_law 742 = .ok (.aload_n 0, 1) := by decide +kernel
theorem dL_law_743 : decode cL_law 743 = .ok (.iload 5, 2) := by decide +kernel
theorem dL_law_745 : decode cL_law 745 = .ok (.iconst 2, 1) := by decide +kernel
theorem dL_law_746 : decode cL_law 746 = .ok (.iadd, 1) := by decide +kernel
theorem dL_law_747 : decode cL_law 747 = .ok (.iaload, 1) := by decide +kernel
theorem dL_law_748 : decode cL_law 748 = .ok (.invokevirtual 184, 3) := by decide +kernel
theorem dL_law_751 : decode cL_law 751 = .ok (.istore 7, 2) := by decide +kernel
theorem dL_law_753 : decode cL_law 753 = .ok (.aload_n 2, 1) := by decide +kernel
theorem dL_law_754 : decode cL_law 754 = .ok (.invokevirtual 158, 3) := by decide +kernel
theorem dL_law_757 : decode cL_law 757 = .ok (.iload 6, 2) := by decide +kernel
theorem dL_law_759 : decode cL_law 759 = .ok (.if_icmp .eq 5, 3) := by decide +kernel
theorem dL_law_762 : decode cL_law 762 = .ok (.iconst 0, 1) := by decide +kernel
theorem dL_law_763 : decode cL_law 763 = .ok (.ireturn, 1) := by decide +kernel
theorem dL_law_764 : decode cL_law 764 = .ok (.iload 6, 2) := by decide +kernel
theorem dL_law_766 : decode cL_law 766 = .ok (.ifCond .ne 15, 3) := by decide +kernel
theorem dL_law_769 : decode cL_law 769 = .ok (.aload_n 3, 1) := by decide +kernel
theorem dL_law_770 : decode cL_law 770 = .ok (.iconst 0, 1) := by decide +kernel
theorem dL_law_771 : decode cL_law 771 = .ok (.laload, 1) := by decide +kernel
theorem dL_law_772 : decode cL_law 772 = .ok (.iload 7, 2) := by decide +kernel
theorem dL_law_774 : decode cL_law 774 = .ok (.i2l, 1) := by decide +kernel
theorem dL_law_775 : decode cL_law 775 = .ok (.lcmp, 1) := by decide +kernel
theorem dL_law_776 : decode cL_law 776 = .ok (.ifCond .eq 5, 3) := by decide +kernel
theorem dL_law_779 : decode cL_law 779 = .ok (.iconst 0, 1) := by decide +kernel
theorem dL_law_780 : decode cL_law 780 = .ok (.ireturn, 1) := by decide +kernel
theorem dL_law_781 : decode cL_law 781 = .ok (.goto 1889, 3) := by decide +kernel
theorem dL_law_784 : decode cL_law 784 = .ok (.aload_n 1, 1) := by decide +kernel
theorem dL_law_785 : decode cL_law 785 = .ok (.aload_n 0, 1) := by decide +kernel
theorem dL_law_786 : decode cL_law 786 = .ok (.iload 5, 2) := by decide +kernel
theorem dL_law_788 : decode cL_law 788 = .ok (.iconst 1, 1) := by decide +kernel
theorem ab_k0_9 (K : ab_Kt) : ∀ q ∈ ab_l0_9 K, ab_OK K ab_mt ab_g0 q.1 q.2 := by
  unfold ab_l0_9
  exact List.forall_mem_cons.mpr ⟨ab_iadd_ok dL_law_727, List.forall_mem_cons.mpr ⟨ab_scr_ok dL_law_728, List.forall_mem_cons.mpr ⟨ab_aload_n_ok dL_law_729 rfl, List.forall_mem_cons.mpr ⟨ab_callSX_ok' (G' := ab_g70) dL_law_730 ab_m70 (by decide) (by decide) (ab_l3 ab_w252 ab_w253 ab_w16) ab_w254 rfl ⟨by decide, by decide, by decide +kernel⟩, List.forall_mem_cons.mpr ⟨ab_istore_ok dL_law_733, List.forall_mem_cons.mpr ⟨ab_aload_n_ok dL_law_735 rfl, List.forall_mem_cons.mpr ⟨ab_aload_n_ok dL_law_736 rfl, List.forall_mem_cons.mpr ⟨ab_iload_ok dL_law_737, List.forall_mem_cons.mpr ⟨ab_iconst_ok dL_law_739 (by decide), List.forall_mem_cons.mpr ⟨ab_iadd_ok dL_law_740, List.forall_mem_cons.mpr ⟨ab_scr_ok dL_law_741, List.forall_mem_cons.mpr ⟨ab_aload_n_ok dL_law_742 rfl, List.forall_mem_cons.mpr ⟨ab_iload_ok dL_law_743, List.forall_mem_cons.mpr ⟨ab_iconst_ok dL_law_745 (by decide), List.forall_mem_cons.mpr ⟨ab_iadd_ok dL_law_746, List.forall_mem_cons.mpr ⟨ab_scr_ok dL_law_747, List.forall_mem_cons.mpr ⟨ab_callV_ok' (G' := ab_g71) (C := RX7) (T := TX7) (N := 19) dL_law_748 ab_m71 rfl rfl (by decide) (by decide) (ab_l4 ab_w255 ab_w256 ab_w257 ab_w8) ab_w258 rfl ⟨by decide, by decide, by decide +kernel⟩, List.forall_mem_cons.mpr ⟨ab_istore_ok dL_law_751, List.forall_mem_cons.mpr ⟨ab_aload_n_ok dL_law_753 rfl, List.forall_mem_cons.mpr ⟨ab_callV_ok' (G' := ab_g5) (C := RX7) (T := TX7) (N := 19) dL_law_754 ab_m5 rfl rfl (by decide) (by decide) (ab_l4 ab_w22 ab_w23 ab_w24 ab_w8) ab_w25 rfl ⟨by decide, by decide, by decide +kernel⟩, List.forall_mem_cons.mpr ⟨ab_iload_ok dL_law_757, List.forall_mem_cons.mpr ⟨ab_icmp_eq_ok dL_law_759 (by decide), List.forall_mem_cons.mpr ⟨ab_iconst_ok dL_law_762 (by decide), List.forall_mem_cons.mpr ⟨ab_zret_ok dL_law_763 rfl, List.forall_mem_cons.mpr ⟨ab_iload_ok dL_law_764, List.forall_mem_cons.mpr ⟨ab_if_ne_ok dL_law_766 (by decide), List.forall_mem_cons.mpr ⟨ab_aload_n_ok dL_law_769 rfl, List.forall_mem_cons.mpr ⟨ab_iconst_ok dL_law_770 (by decide), List.forall_mem_cons.mpr ⟨ab_lald_ok dL_law_771, List.forall_mem_cons.mpr ⟨ab_iload_ok dL_law_772, List.forall_mem_cons.mpr ⟨ab_i2l_ok dL_law_774, List.forall_mem_cons.mpr ⟨ab_lcmp_ok dL_law_775, List.forall_mem_cons.mpr ⟨ab_if_eq_ok dL_law_776 (by decide), List.forall_mem_cons.mpr ⟨ab_iconst_ok dL_law_779 (by decide), List.forall_mem_cons.mpr ⟨ab_zret_ok dL_law_780 rfl, List.forall_mem_cons.mpr ⟨ab_goto_ok dL_law_781 (by decide), List.forall_mem_cons.mpr ⟨ab_aload_n_ok dL_law_784 rfl, List.forall_mem_cons.mpr ⟨ab_aload_n_ok dL_law_785 rfl, List.forall_mem_cons.mpr ⟨ab_iload_ok dL_law_786, List.forall_mem_cons.mpr ⟨ab_iconst_ok dL_law_788 (by decide), fun _ h => absurd h List.not_mem_nil⟩⟩⟩⟩⟩⟩⟩⟩⟩⟩⟩⟩⟩⟩⟩⟩⟩⟩⟩⟩⟩⟩⟩⟩⟩⟩⟩⟩⟩⟩⟩⟩⟩⟩⟩⟩⟩⟩⟩⟩
theorem dL_law_789 : decode cL_law 789 = .ok (.iadd, 1) := by decide +kernel
theorem dL_law_790 : decode cL_law 790 = .ok (.iaload, 1) := by decide +kernel
theorem dL_law_791 : decode cL_law 791 = .ok (.aload_n 0, 1) := by decide +kernel
theorem dL_law_792 : decode cL_law 792 = .ok (.iload 5, 2) := by decide +kernel
theorem dL_law_794 : decode cL_law 794 = .ok (.iconst 2, 1) := by decide +kernel
theorem dL_law_795 : decode cL_law 795 = .ok (.iadd, 1) := by decide +kernel
theorem dL_law_796 : decode cL_law 796 = .ok (.iaload, 1) := by decide +kernel
theorem dL_law_797 : decode cL_law 797 = .ok (.aload_n 3, 1) := by decide +kernel
theorem dL_law_798 : decode cL_law 798 = .ok (.invokestatic 185, 3) := by decide +kernel
theorem dL_law_801 : decode cL_law 801 = .ok (.istore 6, 2) := by decide +kernel
theorem dL_law_803 : decode cL_law 803 = .ok (.aload_n 2, 1) := by decide +kernel
theorem dL_law_804 : decode cL_law 804 = .ok (.aload_n 0, 1) := by decide +kernel
theorem dL_law_805 : decode cL_law 805 = .ok (.iload 5, 2) := by decide +kernel
theorem dL_law_807 : decode cL_law 807 = .ok (.iconst 1, 1) := by decide +kernel
theorem dL_law_808 : decode cL_law 808 = .ok (.iadd, 1) := by decide +kernel
theorem dL_law_809 : decode cL_law 809 = .ok (.iaload, 1) := by decide +kernel
theorem dL_law_810 : decode cL_law 810 = .ok (.aload_n 0, 1) := by decide +kernel
theorem dL_law_811 : decode cL_law 811 = .ok (.iload 5, 2) := by decide +kernel
theorem dL_law_813 : decode cL_law 813 = .ok (.iconst 2, 1) := by decide +kernel
theorem dL_law_814 : decode cL_law 814 = .ok (.iadd, 1) := by decide +kernel
theorem dL_law_815 : decode cL_law 815 = .ok (.iaload, 1) := by decide +kernel
theorem dL_law_816 : decode cL_law 816 = .ok (.invokevirtual 187, 3) := by decide +kernel
theorem dL_law_819 : decode cL_law 819 = .ok (.istore 7, 2) := by decide +kernel
theorem dL_law_821 : decode cL_law 821 = .ok (.aload_n 2, 1) := by decide +kernel
theorem dL_law_822 : decode cL_law 822 = .ok (.invokevirtual 158, 3) := by decide +kernel
theorem dL_law_825 : decode cL_law 825 = .ok (.iload 6, 2) := by decide +kernel
theorem dL_law_827 : decode cL_law 827 = .ok (.if_icmp .eq 5, 3) := by decide +kernel
theorem dL_law_830 : decode cL_law 830 = .ok (.iconst 0, 1) := by decide +kernel
theorem dL_law_831 : decode cL_law 831 = .ok (.ireturn, 1) := by decide +kernel
theorem dL_law_832 : decode cL_law 832 = .ok (.iload 6, 2) := by decide +kernel
theorem dL_law_834 : decode cL_law 834 = .ok (.ifCond .ne 15, 3) := by decide +kernel
theorem dL_law_837 : decode cL_law 837 = .ok (.aload_n 3, 1) := by decide +kernel
theorem dL_law_838 : decode cL_law 838 = .ok (.iconst 0, 1) := by decide +kernel
theorem dL_law_839 : decode cL_law 839 = .ok (.laload, 1) := by decide +kernel
theorem dL_law_840 : decode cL_law 840 = .ok (.iload 7, 2) := by decide +kernel
theorem dL_law_842 : decode cL_law 842 = .ok (.i2l, 1) := by decide +kernel
theorem dL_law_843 : decode cL_law 843 = .ok (.lcmp, 1) := by decide +kernel
theorem dL_law_844 : decode cL_law 844 = .ok (.ifCond .eq 5, 3) := by decide +kernel
theorem dL_law_847 : decode cL_law 847 = .ok (.iconst 0, 1) := by decide +kernel
theorem dL_law_848 : decode cL_law 848 = .ok (.ireturn, 1) := by decide +kernel
theorem ab_k0_10 (K : ab_Kt) : ∀ q ∈ ab_l0_10 K, ab_OK K ab_mt ab_g0 q.1 q.2 := by
  unfold ab_l0_10
  exact List.forall_mem_cons.mpr ⟨ab_iadd_ok dL_law_789, List.forall_mem_cons.mpr ⟨ab_scr_ok dL_law_790, List.forall_mem_cons.mpr ⟨ab_aload_n_ok dL_law_791 rfl, List.forall_mem_cons.mpr ⟨ab_iload_ok dL_law_792, List.forall_mem_cons.mpr ⟨ab_iconst_ok dL_law_794 (by decide), List.forall_mem_cons.mpr ⟨ab_iadd_ok dL_law_795, List.forall_mem_cons.mpr ⟨ab_scr_ok dL_law_796, List.forall_mem_cons.mpr ⟨ab_aload_n_ok dL_law_797 rfl, List.forall_mem_cons.mpr ⟨ab_callSX_ok' (G' := ab_g68) dL_law_798 ab_m68 (by decide) (by decide) (ab_l3 ab_w245 ab_w246 ab_w16) ab_w247 rfl ⟨by decide, by decide, by decide +kernel⟩, List.forall_mem_cons.mpr ⟨ab_istore_ok dL_law_801, List.forall_mem_cons.mpr ⟨ab_aload_n_ok dL_law_803 rfl, List.forall_mem_cons.mpr ⟨ab_aload_n_ok dL_law_804 rfl, List.forall_mem_cons.mpr ⟨ab_iload_ok dL_law_805, List.forall_mem_cons.mpr ⟨ab_iconst_ok dL_law_807 (by decide), List.forall_mem_cons.mpr ⟨ab_iadd_ok dL_law_808, List.forall_mem_cons.mpr ⟨ab_scr_ok dL_law_809, List.forall_mem_cons.mpr ⟨ab_aload_n_ok dL_law_810 rfl, List.forall_mem_cons.mpr ⟨ab_iload_ok dL_law_811, List.forall_mem_cons.mpr ⟨ab_iconst_ok dL_law_813 (by decide), List.forall_mem_cons.mpr ⟨ab_iadd_ok dL_law_814, List.forall_mem_cons.mpr ⟨ab_scr_ok dL_law_815, List.forall_mem_cons.mpr ⟨ab_callV_ok' (G' := ab_g69) (C := RX7) (T := TX7) (N := 19) dL_law_816 ab_m69 rfl rfl (by decide) (by decide) (ab_l4 ab_w248 ab_w249 ab_w250 ab_w8) ab_w251 rfl ⟨by decide, by decide, by decide +kernel⟩, List.forall_mem_cons.mpr ⟨ab_istore_ok dL_law_819, List.forall_mem_cons.mpr ⟨ab_aload_n_ok dL_law_821 rfl, List.forall_mem_cons.mpr ⟨ab_callV_ok' (G' := ab_g5) (C := RX7) (T := TX7) (N := 19) dL_law_822 ab_m5 rfl rfl (by decide) (by decide) (ab_l4 ab_w22 ab_w23 ab_w24 ab_w8) ab_w25 rfl ⟨by decide, by decide, by decide +kernel⟩, List.forall_mem_cons.mpr ⟨ab_iload_ok dL_law_825, List.forall_mem_cons.mpr ⟨ab_icmp_eq_ok dL_law_827 (by decide), List.forall_mem_cons.mpr ⟨ab_iconst_ok dL_law_830 (by decide), List.forall_mem_cons.mpr ⟨ab_zret_ok dL_law_831 rfl, List.forall_mem_cons.mpr ⟨ab_iload_ok dL_law_832, List.forall_mem_cons.mpr ⟨ab_if_ne_ok dL_law_834 (by decide), List.forall_mem_cons.mpr ⟨ab_aload_n_ok dL_law_837 rfl, List.forall_mem_cons.mpr ⟨ab_iconst_ok dL_law_838 (by decide), List.forall_mem_cons.mpr ⟨ab_lald_ok dL_law_839, List.forall_mem_cons.mpr ⟨ab_iload_ok dL_law_840, List.forall_mem_cons.mpr ⟨ab_i2l_ok dL_law_842, List.forall_mem_cons.mpr ⟨ab_lcmp_ok dL_law_843, List.forall_mem_cons.mpr ⟨ab_if_eq_ok dL_law_844 (by decide), List.forall_mem_cons.mpr ⟨ab_iconst_ok dL_law_847 (by decide), List.forall_mem_cons.mpr ⟨ab_zret_ok dL_law_848 rfl, fun _ h => absurd h List.not_mem_nil⟩⟩⟩⟩⟩⟩⟩⟩⟩⟩⟩⟩⟩⟩⟩⟩⟩⟩⟩⟩⟩⟩⟩⟩⟩⟩⟩⟩⟩⟩⟩⟩⟩⟩⟩⟩⟩⟩⟩⟩
theorem dL_law_849 : decode cL_law 849 = .ok (.goto 1821, 3) := by decide +kernel
theorem dL_law_852 : decode cL_law 852 = .ok (.aload_n 1, 1) := by decide +kernel
theorem dL_law_853 : decode cL_law 853 = .ok (.aload_n 0, 1) := by decide +kernel
theorem dL_law_854 : decode cL_law 854 = .ok (.iload 5, 2) := by decide +kernel
theorem dL_law_856 : decode cL_law 856 = .ok (.iconst 1, 1) := by decide +kernel
theorem dL_law_857 : decode cL_law 857 = .ok (.iadd, 1) := by decide +kernel
theorem dL_law_858 : decode cL_law 858 = .ok (.iaload, 1) := by decide +kernel
theorem dL_law_859 : decode cL_law 859 = .ok (.aload_n 3, 1) := by decide +kernel
theorem dL_law_860 : decode cL_law 860 = .ok (.invokestatic 188, 3) := by decide +kernel
theorem dL_law_863 : decode cL_law 863 = .ok (.istore 6, 2) := by decide +kernel
theorem dL_law_865 : decode cL_law 865 = .ok (.aload_n 2, 1) := by decide +kernel
theorem dL_law_866 : decode cL_law 866 = .ok (.aload_n 0, 1) := by decide +kernel
theorem dL_law_867 : decode cL_law 867 = .ok (.iload 5, 2) := by decide +kernel
theorem dL_law_869 : decode cL_law 869 = .ok (.iconst 1, 1) := by decide +kernel
theorem dL_law_870 : decode cL_law 870 = .ok (.iadd, 1) := by decide +kernel
theorem dL_law_871 : decode cL_law 871 = .ok (.iaload, 1) := by decide +kernel
theorem dL_law_872 : decode cL_law 872 = .ok (.invokevirtual 190, 3) := by decide +kernel
theorem dL_law_875 : decode cL_law 875 = .ok (.istore 7, 2) := by decide +kernel
theorem dL_law_877 : decode cL_law 877 = .ok (.aload_n 2, 1) := by decide +kernel
theorem dL_law_878 : decode cL_law 878 = .ok (.invokevirtual 158, 3) := by decide +kernel
theorem dL_law_881 : decode cL_law 881 = .ok (.iload 6, 2) := by decide +kernel
theorem dL_law_883 : decode cL_law 883 = .ok (.if_icmp .eq 5, 3) := by decide +kernel
theorem dL_law_886 : decode cL_law 886 = .ok (.iconst 0, 1) := by decide +kernel
theorem dL_law_887 : decode cL_law 887 = .ok (.ireturn, 1) := by decide +kernel
theorem dL_law_888 : decode cL_law 888 = .ok (.iload 6, 2) := by decide +kernel
theorem dL_law_890 : decode cL_law 890 = .ok (.ifCond .ne 15, 3) := by decide +kernel
theorem dL_law_893 : decode cL_law 893 = .ok (.aload_n 3, 1) := by decide +kernel
theorem dL_law_894 : decode cL_law 894 = .ok (.iconst 0, 1) := by decide +kernel
theorem dL_law_895 : decode cL_law 895 = .ok (.laload, 1) := by decide +kernel
theorem dL_law_896 : decode cL_law 896 = .ok (.iload 7, 2) := by decide +kernel
theorem dL_law_898 : decode cL_law 898 = .ok (.i2l, 1) := by decide +kernel
theorem dL_law_899 : decode cL_law 899 = .ok (.lcmp, 1) := by decide +kernel
theorem dL_law_900 : decode cL_law 900 = .ok (.ifCond .eq 5, 3) := by decide +kernel
theorem dL_law_903 : decode cL_law 903 = .ok (.iconst 0, 1) := by decide +kernel
theorem dL_law_904 : decode cL_law 904 = .ok (.ireturn, 1) := by decide +kernel
theorem dL_law_905 : decode cL_law 905 = .ok (.goto 1765, 3) := by decide +kernel
theorem dL_law_908 : decode cL_law 908 = .ok (.aload_n 1, 1) := by decide +kernel
theorem dL_law_909 : decode cL_law 909 = .ok (.aload_n 0, 1) := by decide +kernel
theorem dL_law_910 : decode cL_law 910 = .ok (.iload 5, 2) := by decide +kernel
theorem dL_law_912 : decode cL_law 912 = .ok (.iconst 1, 1) := by decide +kernel
theorem ab_k0_11 (K : ab_Kt) : ∀ q ∈ ab_l0_11 K, ab_OK K ab_mt ab_g0 q.1 q.2 := by
  unfold ab_l0_11
  exact List.forall_mem_cons.mpr ⟨ab_goto_ok dL_law_849 (by decide), List.forall_mem_cons.mpr ⟨ab_aload_n_ok dL_law_852 rfl, List.forall_mem_cons.mpr ⟨ab_aload_n_ok dL_law_853 rfl, List.forall_mem_cons.mpr ⟨ab_iload_ok dL_law_854, List.forall_mem_cons.mpr ⟨ab_iconst_ok dL_law_856 (by decide), List.forall_mem_cons.mpr ⟨ab_iadd_ok dL_law_857, List.forall_mem_cons.mpr ⟨ab_scr_ok dL_law_858, List.forall_mem_cons.mpr ⟨ab_aload_n_ok dL_law_859 rfl, List.forall_mem_cons.mpr ⟨ab_callSX_ok' (G' := ab_g66) dL_law_860 ab_m66 (by decide) (by decide) (ab_l3 ab_w238 ab_w239 ab_w16) ab_w240 rfl ⟨by decide, by decide, by decide +kernel⟩, List.forall_mem_cons.mpr ⟨ab_istore_ok dL_law_863, List.forall_mem_cons.mpr ⟨ab_aload_n_ok dL_law_865 rfl, List.forall_mem_cons.mpr ⟨ab_aload_n_ok dL_law_866 rfl, List.forall_mem_cons.mpr ⟨ab_iload_ok dL_law_867, List.forall_mem_cons.mpr ⟨ab_iconst_ok dL_law_869 (by decide), List.forall_mem_cons.mpr ⟨ab_iadd_ok dL_law_870, List.forall_mem_cons.mpr ⟨ab_scr_ok dL_law_871, List.forall_mem_cons.mpr ⟨ab_callV_ok' (G' := ab_g67) (C := RX7) (T := TX7) (N := 19) dL_law_872 ab_m67 rfl rfl (by decide) (by decide) (ab_l4 ab_w241 ab_w242 ab_w243 ab_w8) ab_w244 rfl ⟨by decide, by decide, by decide +kernel⟩, List.forall_mem_cons.mpr ⟨ab_istore_ok dL_law_875, List.forall_mem_cons.mpr ⟨ab_aload_n_ok dL_law_877 rfl, List.forall_mem_cons.mpr ⟨ab_callV_ok' (G' := ab_g5) (C := RX7) (T := TX7) (N := 19) dL_law_878 ab_m5 rfl rfl (by decide) (by decide) (ab_l4 ab_w22 ab_w23 ab_w24 ab_w8) ab_w25 rfl ⟨by decide, by decide, by decide +kernel⟩, List.forall_mem_cons.mpr ⟨ab_iload_ok dL_law_881, List.forall_mem_cons.mpr ⟨ab_icmp_eq_ok dL_law_883 (by decide), List.forall_mem_cons.mpr ⟨ab_iconst_ok dL_law_886 (by decide), List.forall_mem_cons.mpr ⟨ab_zret_ok dL_law_887 rfl, List.forall_mem_cons.mpr ⟨ab_iload_ok dL_law_888, List.forall_mem_cons.mpr ⟨ab_if_ne_ok dL_law_890 (by decide), List.forall_mem_cons.mpr ⟨ab_aload_n_ok dL_law_893 rfl, List.forall_mem_cons.mpr ⟨ab_iconst_ok dL_law_894 (by decide), List.forall_mem_cons.mpr ⟨ab_lald_ok dL_law_895, List.forall_mem_cons.mpr ⟨ab_iload_ok dL_law_896, List.forall_mem_cons.mpr ⟨ab_i2l_ok dL_law_898, List.forall_mem_cons.mpr ⟨ab_lcmp_ok dL_law_899, List.forall_mem_cons.mpr ⟨ab_if_eq_ok dL_law_900 (by decide), List.forall_mem_cons.mpr ⟨ab_iconst_ok dL_law_903 (by decide), List.forall_mem_cons.mpr ⟨ab_zret_ok dL_law_904 rfl, List.forall_mem_cons.mpr ⟨ab_goto_ok dL_law_905 (by decide), List.forall_mem_cons.mpr ⟨ab_aload_n_ok dL_law_908 rfl, List.forall_mem_cons.mpr ⟨ab_aload_n_ok dL_law_909 rfl, List.forall_mem_cons.mpr ⟨ab_iload_ok dL_law_910, List.forall_mem_cons.mpr ⟨ab_iconst_ok dL_law_912 (by decide), fun _ h => absurd h List.not_mem_nil⟩⟩⟩⟩⟩⟩⟩⟩⟩⟩⟩⟩⟩⟩⟩⟩⟩⟩⟩⟩⟩⟩⟩⟩⟩⟩⟩⟩⟩⟩⟩⟩⟩⟩⟩⟩⟩⟩⟩⟩
theorem dL_law_913 : decode cL_law 913 = .ok (.iadd, 1) := by decide +kernel
theorem dL_law_914 : decode cL_law 914 = .ok (.iaload, 1) := by decide +kernel
theorem dL_law_915 : decode cL_law 915 = .ok (.aload_n 0, 1) := by decide +kernel
theorem dL_law_916 : decode cL_law 916 = .ok (.iload 5, 2) := by decide +kernel
theorem dL_law_918 : decode cL_law 918 = .ok (.iconst 2, 1) := by decide +kernel
theorem dL_law_919 : decode cL_law 919 = .ok (.iadd, 1) := by decide +kernel
theorem dL_law_920 : decode cL_law 920 = .ok (.iaload, 1) := by decide +kernel
theorem dL_law_921 : decode cL_law 921 = .ok (.aload_n 3, 1) := by decide +kernel
theorem dL_law_922 : decode cL_law 922 = .ok (.invokestatic 191, 3) := by decide +kernel
theorem dL_law_925 : decode cL_law 925 = .ok (.istore 6, 2) := by decide +kernel
theorem dL_law_927 : decode cL_law 927 = .ok (.aload_n 2, 1) := by decide +kernel
theorem dL_law_928 : decode cL_law 928 = .ok (.aload_n 0, 1) := by decide +kernel
theorem dL_law_929 : decode cL_law 929 = .ok (.iload 5, 2) := by decide +kernel
theorem dL_law_931 : decode cL_law 931 = .ok (.iconst 1, 1) := by decide +kernel
theorem dL_law_932 : decode cL_law 932 = .ok (.iadd, 1) := by decide +kernel
theorem dL_law_933 : decode cL_law 933 = .ok (.iaload, 1) := by decide +kernel
theorem dL_law_934 : decode cL_law 934 = .ok (.aload_n 0, 1) := by decide +kernel
theorem dL_law_935 : decode cL_law 935 = .ok (.iload 5, 2) := by decide +kernel
theorem dL_law_937 : decode cL_law 937 = .ok (.iconst 2, 1) := by decide +kernel
theorem dL_law_938 : decode cL_law 938 = .ok (.iadd, 1) := by decide +kernel
theorem dL_law_939 : decode cL_law 939 = .ok (.iaload, 1) := by decide +kernel
theorem dL_law_940 : decode cL_law 940 = .ok (.invokevirtual 193, 3) := by decide +kernel
theorem dL_law_943 : decode cL_law 943 = .ok (.istore 7, 2) := by decide +kernel
theorem dL_law_945 : decode cL_law 945 = .ok (.aload_n 2, 1) := by decide +kernel
theorem dL_law_946 : decode cL_law 946 = .ok (.invokevirtual 158, 3) := by decide +kernel
theorem dL_law_949 : decode cL_law 949 = .ok (.iload 6, 2) := by decide +kernel
theorem dL_law_951 : decode cL_law 951 = .ok (.if_icmp .eq 5, 3) := by decide +kernel
theorem dL_law_954 : decode cL_law 954 = .ok (.iconst 0, 1) := by decide +kernel
theorem dL_law_955 : decode cL_law 955 = .ok (.ireturn, 1) := by decide +kernel
theorem dL_law_956 : decode cL_law 956 = .ok (.iload 6, 2) := by decide +kernel
theorem dL_law_958 : decode cL_law 958 = .ok (.ifCond .ne 15, 3) := by decide +kernel
theorem dL_law_961 : decode cL_law 961 = .ok (.aload_n 3, 1) := by decide +kernel
theorem dL_law_962 : decode cL_law 962 = .ok (.iconst 0, 1) := by decide +kernel
theorem dL_law_963 : decode cL_law 963 = .ok (.laload, 1) := by decide +kernel
theorem dL_law_964 : decode cL_law 964 = .ok (.iload 7, 2) := by decide +kernel
theorem dL_law_966 : decode cL_law 966 = .ok (.i2l, 1) := by decide +kernel
theorem dL_law_967 : decode cL_law 967 = .ok (.lcmp, 1) := by decide +kernel
theorem dL_law_968 : decode cL_law 968 = .ok (.ifCond .eq 5, 3) := by decide +kernel
theorem dL_law_971 : decode cL_law 971 = .ok (.iconst 0, 1) := by decide +kernel
theorem dL_law_972 : decode cL_law 972 = .ok (.ireturn, 1) := by decide +kernel
theorem ab_k0_12 (K : ab_Kt) : ∀ q ∈ ab_l0_12 K, ab_OK K ab_mt ab_g0 q.1 q.2 := by
  unfold ab_l0_12
  exact List.forall_mem_cons.mpr ⟨ab_iadd_ok dL_law_913, List.forall_mem_cons.mpr ⟨ab_scr_ok dL_law_914, List.forall_mem_cons.mpr ⟨ab_aload_n_ok dL_law_915 rfl, List.forall_mem_cons.mpr ⟨ab_iload_ok dL_law_916, List.forall_mem_cons.mpr ⟨ab_iconst_ok dL_law_918 (by decide), List.forall_mem_cons.mpr ⟨ab_iadd_ok dL_law_919, List.forall_mem_cons.mpr ⟨ab_scr_ok dL_law_920, List.forall_mem_cons.mpr ⟨ab_aload_n_ok dL_law_921 rfl, List.forall_mem_cons.mpr ⟨ab_callSX_ok' (G' := ab_g64) dL_law_922 ab_m64 (by decide) (by decide) (ab_l3 ab_w231 ab_w232 ab_w16) ab_w233 rfl ⟨by decide, by decide, by decide +kernel⟩, List.forall_mem_cons.mpr ⟨ab_istore_ok dL_law_925, List.forall_mem_cons.mpr ⟨ab_aload_n_ok dL_law_927 rfl, List.forall_mem_cons.mpr ⟨ab_aload_n_ok dL_law_928 rfl, List.forall_mem_cons.mpr ⟨ab_iload_ok dL_law_929, List.forall_mem_cons.mpr ⟨ab_iconst_ok dL_law_931 (by decide), List.forall_mem_cons.mpr ⟨ab_iadd_ok dL_law_932, List.forall_mem_cons.mpr ⟨ab_scr_ok dL_law_933, List.forall_mem_cons.mpr ⟨ab_aload_n_ok dL_law_934 rfl, List.forall_mem_cons.mpr ⟨ab_iload_ok dL_law_935, List.forall_mem_cons.mpr ⟨ab_iconst_ok dL_law_937 (by decide), List.forall_mem_cons.mpr ⟨ab_iadd_ok dL_law_938, List.forall_mem_cons.mpr ⟨ab_scr_ok dL_law_939, List.forall_mem_cons.mpr ⟨ab_callV_ok' (G' := ab_g65) (C := RX7) (T := TX7) (N := 19) dL_law_940 ab_m65 rfl rfl (by decide) (by decide) (ab_l4 ab_w234 ab_w235 ab_w236 ab_w8) ab_w237 rfl ⟨by decide, by decide, by decide +kernel⟩, List.forall_mem_cons.mpr ⟨ab_istore_ok dL_law_943, List.forall_mem_cons.mpr ⟨ab_aload_n_ok dL_law_945 rfl, List.forall_mem_cons.mpr ⟨ab_callV_ok' (G' := ab_g5) (C := RX7) (T := TX7) (N := 19) dL_law_946 ab_m5 rfl rfl (by decide) (by decide) (ab_l4 ab_w22 ab_w23 ab_w24 ab_w8) ab_w25 rfl ⟨by decide, by decide, by decide +kernel⟩, List.forall_mem_cons.mpr ⟨ab_iload_ok dL_law_949, List.forall_mem_cons.mpr ⟨ab_icmp_eq_ok dL_law_951 (by decide), List.forall_mem_cons.mpr ⟨ab_iconst_ok dL_law_954 (by decide), List.forall_mem_cons.mpr ⟨ab_zret_ok dL_law_955 rfl, List.forall_mem_cons.mpr ⟨ab_iload_ok dL_law_956, List.forall_mem_cons.mpr ⟨ab_if_ne_ok dL_law_958 (by decide), List.forall_mem_cons.mpr ⟨ab_aload_n_ok dL_law_961 rfl, List.forall_mem_cons.mpr ⟨ab_iconst_ok dL_law_962 (by decide), List.forall_mem_cons.mpr ⟨ab_lald_ok dL_law_963, List.forall_mem_cons.mpr ⟨ab_iload_ok dL_law_964, List.forall_mem_cons.mpr ⟨ab_i2l_ok dL_law_966, List.forall_mem_cons.mpr ⟨ab_lcmp_ok dL_law_967, List.forall_mem_cons.mpr ⟨ab_if_eq_ok dL_law_968 (by decide), List.forall_mem_cons.mpr ⟨ab_iconst_ok dL_law_971 (by decide), List.forall_mem_cons.mpr ⟨ab_zret_ok dL_law_972 rfl, fun _ h => absurd h List.not_mem_nil⟩⟩⟩⟩⟩⟩⟩⟩⟩⟩⟩⟩⟩⟩⟩⟩⟩⟩⟩⟩⟩⟩⟩⟩⟩⟩⟩⟩⟩⟩⟩⟩⟩⟩⟩⟩⟩⟩⟩⟩
theorem dL_law_973 : decode cL_law 973 = .ok (.goto 1697, 3) := by decide +kernel
theorem dL_law_976 : decode cL_law 976 = .ok (.aload_n 1, 1) := by decide +kernel
theorem dL_law_977 : decode cL_law 977 = .ok (.aload_n 0, 1) := by decide +kernel
theorem dL_law_978 : decode cL_law 978 = .ok (.iload 5, 2) := by decide +kernel
theorem dL_law_980 : decode cL_law 980 = .ok (.iconst 1, 1) := by decide +kernel
theorem dL_law_981 : decode cL_law 981 = .ok (.iadd, 1) := by decide +kernel
theorem dL_law_982 : decode cL_law 982 = .ok (.iaload, 1) := by decide +kernel
theorem dL_law_983 : decode cL_law 983 = .ok (.aload_n 3, 1) := by decide +kernel
theorem dL_law_984 : decode cL_law 984 = .ok (.invokestatic 194, 3) := by decide +kernel
theorem dL_law_987 : decode cL_law 987 = .ok (.istore 6, 2) := by decide +kernel
theorem dL_law_989 : decode cL_law 989 = .ok (.aload_n 2, 1) := by decide +kernel
theorem dL_law_990 : decode cL_law 990 = .ok (.aload_n 0, 1) := by decide +kernel
theorem dL_law_991 : decode cL_law 991 = .ok (.iload 5, 2) := by decide +kernel
theorem dL_law_993 : decode cL_law 993 = .ok (.iconst 1, 1) := by decide +kernel
theorem dL_law_994 : decode cL_law 994 = .ok (.iadd, 1) := by decide +kernel
theorem dL_law_995 : decode cL_law 995 = .ok (.iaload, 1) := by decide +kernel
theorem dL_law_996 : decode cL_law 996 = .ok (.invokevirtual 196, 3) := by decide +kernel
theorem dL_law_999 : decode cL_law 999 = .ok (.istore 7, 2) := by decide +kernel
theorem dL_law_1001 : decode cL_law 1001 = .ok (.aload_n 2, 1) := by decide +kernel
theorem dL_law_1002 : decode cL_law 1002 = .ok (.invokevirtual 158, 3) := by decide +kernel
theorem dL_law_1005 : decode cL_law 1005 = .ok (.iload 6, 2) := by decide +kernel
theorem dL_law_1007 : decode cL_law 1007 = .ok (.if_icmp .eq 5, 3) := by decide +kernel
theorem dL_law_1010 : decode cL_law 1010 = .ok (.iconst 0, 1) := by decide +kernel
theorem dL_law_1011 : decode cL_law 1011 = .ok (.ireturn, 1) := by decide +kernel
theorem dL_law_1012 : decode cL_law 1012 = .ok (.iload 6, 2) := by decide +kernel
theorem dL_law_1014 : decode cL_law 1014 = .ok (.ifCond .ne 15, 3) := by decide +kernel
theorem dL_law_1017 : decode cL_law 1017 = .ok (.aload_n 3, 1) := by decide +kernel
theorem dL_law_1018 : decode cL_law 1018 = .ok (.iconst 0, 1) := by decide +kernel
theorem dL_law_1019 : decode cL_law 1019 = .ok (.laload, 1) := by decide +kernel
theorem dL_law_1020 : decode cL_law 1020 = .ok (.iload 7, 2) := by decide +kernel
theorem dL_law_1022 : decode cL_law 1022 = .ok (.i2l, 1) := by decide +kernel
theorem dL_law_1023 : decode cL_law 1023 = .ok (.lcmp, 1) := by decide +kernel
theorem dL_law_1024 : decode cL_law 1024 = .ok (.ifCond .eq 5, 3) := by decide +kernel
theorem dL_law_1027 : decode cL_law 1027 = .ok (.iconst 0, 1) := by decide +kernel
theorem dL_law_1028 : decode cL_law 1028 = .ok (.ireturn, 1) := by decide +kernel
theorem dL_law_1029 : decode cL_law 1029 = .ok (.goto 1641, 3) := by decide +kernel
theorem dL_law_1032 : decode cL_law 1032 = .ok (.aload_n 1, 1) := by decide +kernel
theorem dL_law_1033 : decode cL_law 1033 = .ok (.aload_n 0, 1) := by decide +kernel
theorem dL_law_1034 : decode cL_law 1034 = .ok (.iload 5, 2) := by decide +kernel
theorem dL_law_1036 : decode cL_law 1036 = .ok (.iconst 1, 1) := by decide +kernel
theorem ab_k0_13 (K : ab_Kt) : ∀ q ∈ ab_l0_13 K, ab_OK K ab_mt ab_g0 q.1 q.2 := by
  unfold ab_l0_13
  exact List.forall_mem_cons.mpr ⟨ab_goto_ok dL_law_973 (by decide), List.forall_mem_cons.mpr ⟨ab_aload_n_ok dL_law_976 rfl, List.forall_mem_cons.mpr ⟨ab_aload_n_ok dL_law_977 rfl, List.forall_mem_cons.mpr ⟨ab_iload_ok dL_law_978, List.forall_mem_cons.mpr ⟨ab_iconst_ok dL_law_980 (by decide), List.forall_mem_cons.mpr ⟨ab_iadd_ok dL_law_981, List.forall_mem_cons.mpr ⟨ab_scr_ok dL_law_982, List.forall_mem_cons.mpr ⟨ab_aload_n_ok dL_law_983 rfl, List.forall_mem_cons.mpr ⟨ab_callSX_ok' (G' := ab_g62) dL_law_984 ab_m62 (by decide) (by decide) (ab_l3 ab_w224 ab_w225 ab_w16) ab_w226 rfl ⟨by decide, by decide, by decide +kernel⟩, List.forall_mem_cons.mpr ⟨ab_istore_ok dL_law_987, List.forall_mem_cons.mpr ⟨ab_aload_n_ok dL_law_989 rfl, List.forall_mem_cons.mpr ⟨ab_aload_n_ok dL_law_990 rfl, List.forall_mem_cons.mpr ⟨ab_iload_ok dL_law_991, List.forall_mem_cons.mpr ⟨ab_iconst_ok dL_law_993 (by decide), List.forall_mem_cons.mpr ⟨ab_iadd_ok dL_law_994, List.forall_mem_cons.mpr ⟨ab_scr_ok dL_law_995, List.forall_mem_cons.mpr ⟨ab_callV_ok' (G' := ab_g63) (C := RX7) (T := TX7) (N := 19) dL_law_996 ab_m63 rfl rfl (by decide) (by decide) (ab_l4 ab_w227 ab_w228 ab_w229 ab_w8) ab_w230 rfl ⟨by decide, by decide, by decide +kernel⟩, List.forall_mem_cons.mpr ⟨ab_istore_ok dL_law_999, List.forall_mem_cons.mpr ⟨ab_aload_n_ok dL_law_1001 rfl, List.forall_mem_cons.mpr ⟨ab_callV_ok' (G' := ab_g5) (C := RX7) (T := TX7) (N := 19) dL_law_1002 ab_m5 rfl rfl (by decide) (by decide) (ab_l4 ab_w22 ab_w23 ab_w24 ab_w8) ab_w25 rfl ⟨by decide, by decide, by decide +kernel⟩, List.forall_mem_cons.mpr ⟨ab_iload_ok dL_law_1005, List.forall_mem_cons.mpr ⟨ab_icmp_eq_ok dL_law_1007 (by decide), List.forall_mem_cons.mpr ⟨ab_iconst_ok dL_law_1010 (by decide), List.forall_mem_cons.mpr ⟨ab_zret_ok dL_law_1011 rfl, List.forall_mem_cons.mpr ⟨ab_iload_ok dL_law_1012, List.forall_mem_cons.mpr ⟨ab_if_ne_ok dL_law_1014 (by decide), List.forall_mem_cons.mpr ⟨ab_aload_n_ok dL_law_1017 rfl, List.forall_mem_cons.mpr ⟨ab_iconst_ok dL_law_1018 (by decide), List.forall_mem_cons.mpr ⟨ab_lald_ok dL_law_1019, List.forall_mem_cons.mpr ⟨ab_iload_ok dL_law_1020, List.forall_mem_cons.mpr ⟨ab_i2l_ok dL_law_1022, List.forall_mem_cons.mpr ⟨ab_lcmp_ok dL_law_1023, List.forall_mem_cons.mpr ⟨ab_if_eq_ok dL_law_1024 (by decide), List.forall_mem_cons.mpr ⟨ab_iconst_ok dL_law_1027 (by decide), List.forall_mem_cons.mpr ⟨ab_zret_ok dL_law_1028 rfl, List.forall_mem_cons.mpr ⟨ab_goto_ok dL_law_1029 (by decide), List.forall_mem_cons.mpr ⟨ab_aload_n_ok dL_law_1032 rfl, List.forall_mem_cons.mpr ⟨ab_aload_n_ok dL_law_1033 rfl, List.forall_mem_cons.mpr ⟨ab_iload_ok dL_law_1034, List.forall_mem_cons.mpr ⟨ab_iconst_ok dL_law_1036 (by decide), fun _ h => absurd h List.not_mem_nil⟩⟩⟩⟩⟩⟩⟩⟩⟩⟩⟩⟩⟩⟩⟩⟩⟩⟩⟩⟩⟩⟩⟩⟩⟩⟩⟩⟩⟩⟩⟩⟩⟩⟩⟩⟩⟩⟩⟩⟩
