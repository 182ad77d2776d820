/-! ===== the code tables hold: X6_init .. ===== -/
theorem dX6_init_0 : decode cX6_init 0 = .ok (.aload_n 0, 1) := by decide +kernel
theorem dX6_init_1 : decode cX6_init 1 = .ok (.invokespecial 1, 3) := by decide +kernel
theorem dX6_init_4 : decode cX6_init 4 = .ok (.aload_n 0, 1) := by decide +kernel
theorem dX6_init_5 : decode cX6_init 5 = .ok (.new 7, 3) := by decide +kernel
theorem dX6_init_8 : decode cX6_init 8 = .ok (.dup, 1) := by decide +kernel
theorem dX6_init_9 : decode cX6_init 9 = .ok (.invokespecial 9, 3) := by decide +kernel
theorem dX6_init_12 : decode cX6_init 12 = .ok (.putfield 10, 3) := by decide +kernel
theorem dX6_init_15 : decode cX6_init 15 = .ok (.aload_n 0, 1) := by decide +kernel
theorem dX6_init_16 : decode cX6_init 16 = .ok (.aload_n 0, 1) := by decide +kernel
theorem dX6_init_17 : decode cX6_init 17 = .ok (.getfield 10, 3) := by decide +kernel
theorem dX6_init_20 : decode cX6_init 20 = .ok (.getfield 16, 3) := by decide +kernel
theorem dX6_init_23 : decode cX6_init 23 = .ok (.putfield 20, 3) := by decide +kernel
theorem dX6_init_26 : decode cX6_init 26 = .ok (.aload_n 0, 1) := by decide +kernel
theorem dX6_init_27 : decode cX6_init 27 = .ok (.new 21, 3) := by decide +kernel
theorem dX6_init_30 : decode cX6_init 30 = .ok (.dup, 1) := by decide +kernel
theorem dX6_init_31 : decode cX6_init 31 = .ok (.invokespecial 23, 3) := by decide +kernel
theorem dX6_init_34 : decode cX6_init 34 = .ok (.putfield 24, 3) := by decide +kernel
theorem dX6_init_37 : decode cX6_init 37 = .ok (.aload_n 0, 1) := by decide +kernel
theorem dX6_init_38 : decode cX6_init 38 = .ok (.new 28, 3) := by decide +kernel
theorem dX6_init_41 : decode cX6_init 41 = .ok (.dup, 1) := by decide +kernel
theorem dX6_init_42 : decode cX6_init 42 = .ok (.invokespecial 30, 3) := by decide +kernel
theorem dX6_init_45 : decode cX6_init 45 = .ok (.putfield 31, 3) := by decide +kernel
theorem dX6_init_48 : decode cX6_init 48 = .ok (.aload_n 0, 1) := by decide +kernel
theorem dX6_init_49 : decode cX6_init 49 = .ok (.new 34, 3) := by decide +kernel
theorem dX6_init_52 : decode cX6_init 52 = .ok (.dup, 1) := by decide +kernel
theorem dX6_init_53 : decode cX6_init 53 = .ok (.invokespecial 36, 3) := by decide +kernel
theorem dX6_init_56 : decode cX6_init 56 = .ok (.putfield 37, 3) := by decide +kernel
theorem dX6_init_59 : decode cX6_init 59 = .ok (.aload_n 0, 1) := by decide +kernel
theorem dX6_init_60 : decode cX6_init 60 = .ok (.iconst (-1), 1) := by decide +kernel
theorem dX6_init_61 : decode cX6_init 61 = .ok (.putfield 41, 3) := by decide +kernel
theorem dX6_init_64 : decode cX6_init 64 = .ok (.aload_n 0, 1) := by decide +kernel
theorem dX6_init_65 : decode cX6_init 65 = .ok (.new 45, 3) := by decide +kernel
theorem dX6_init_68 : decode cX6_init 68 = .ok (.dup, 1) := by decide +kernel
theorem dX6_init_69 : decode cX6_init 69 = .ok (.invokespecial 47, 3) := by decide +kernel
theorem dX6_init_72 : decode cX6_init 72 = .ok (.putfield 48, 3) := by decide +kernel
theorem dX6_init_75 : decode cX6_init 75 = .ok (.aload_n 0, 1) := by decide +kernel
theorem dX6_init_76 : decode cX6_init 76 = .ok (.bipush 6, 2) := by decide +kernel
theorem dX6_init_78 : decode cX6_init 78 = .ok (.newarray .int, 2) := by decide +kernel
theorem dX6_init_80 : decode cX6_init 80 = .ok (.putfield 52, 3) := by decide +kernel
theorem dX6_init_83 : decode cX6_init 83 = .ok (.return_, 1) := by decide +kernel
theorem ab_k1_0 (K : ab_Kt) : ∀ q ∈ ab_l1_0, ab_OK K ab_mt ab_g1 q.1 q.2 := by
  unfold ab_l1_0
  exact List.forall_mem_cons.mpr ⟨ab_aload_n_ok dX6_init_0 rfl, List.forall_mem_cons.mpr ⟨ab_oini_ok dX6_init_1 (ab_l3 ab_w308 ab_w309 ab_w310), List.forall_mem_cons.mpr ⟨ab_aload_n_ok dX6_init_4 rfl, List.forall_mem_cons.mpr ⟨ab_newo_ok (C := RX0) (T := TX0) (N := 5) (ci := 4) (ty0 := tyX0) dX6_init_5 rfl ab_ic4 tyX0_ok (ab_l3 ab_w311 ab_w312 ab_w313) (by decide +kernel) rfl rfl, List.forall_mem_cons.mpr ⟨ab_dup_ok dX6_init_8, List.forall_mem_cons.mpr ⟨ab_callIN_ok' (G' := ab_g86) (host := "BookBindery") dX6_init_9 ab_m86 rfl (by decide) (by decide) ab_w314 (ab_l2 ab_w315 ab_w313) (by simp [ab_nw]; decide) rfl ⟨rfl, by decide, by decide, by decide +kernel⟩, List.forall_mem_cons.mpr ⟨ab_putf_ok (C := RX6) (T := TX6) (N := 9) (ci := 10) (k := 0) (ty0 := tyX6) dX6_init_12 rfl ab_ic10 tyX6_ok nmX6 (by decide) ab_w316 rfl (Or.inr ⟨rfl, rfl, rfl⟩), List.forall_mem_cons.mpr ⟨ab_aload_n_ok dX6_init_15 rfl, List.forall_mem_cons.mpr ⟨ab_aload_n_ok dX6_init_16 rfl, List.forall_mem_cons.mpr ⟨ab_getf_ok (C := RX6) (T := TX6) (N := 9) (ci := 10) (k := 0) dX6_init_17 rfl ab_ic10 (by decide) ab_w316, List.forall_mem_cons.mpr ⟨ab_getf_ok (C := RX0) (T := TX0) (N := 5) (ci := 4) (k := 0) dX6_init_20 rfl ab_ic4 (by decide) ab_w317, List.forall_mem_cons.mpr ⟨ab_putf_ok (C := RX6) (T := TX6) (N := 9) (ci := 10) (k := 1) (ty0 := tyX6) dX6_init_23 rfl ab_ic10 tyX6_ok nmX6 (by decide) ab_w318 rfl (Or.inr ⟨rfl, rfl, rfl⟩), List.forall_mem_cons.mpr ⟨ab_aload_n_ok dX6_init_26 rfl, List.forall_mem_cons.mpr ⟨ab_newo_ok (C := RX3) (T := TX3) (N := 3) (ci := 7) (ty0 := tyX3) dX6_init_27 rfl ab_ic7 tyX3_ok (ab_l3 ab_w319 ab_w320 ab_w321) (by decide +kernel) rfl rfl, List.forall_mem_cons.mpr ⟨ab_dup_ok dX6_init_30, List.forall_mem_cons.mpr ⟨ab_callI_ok' (G' := ab_g87) dX6_init_31 ab_m87 rfl (by decide) (by decide) ab_w322 (ab_l3 ab_w323 ab_w324 ab_w321) rfl ⟨rfl, by decide, by decide, by decide +kernel⟩, List.forall_mem_cons.mpr ⟨ab_putf_ok (C := RX6) (T := TX6) (N := 9) (ci := 10) (k := 2) (ty0 := tyX6) dX6_init_34 rfl ab_ic10 tyX6_ok nmX6 (by decide) ab_w325 rfl (Or.inr ⟨rfl, rfl, rfl⟩), List.forall_mem_cons.mpr ⟨ab_aload_n_ok dX6_init_37 rfl, List.forall_mem_cons.mpr ⟨ab_newo_ok (C := RX5) (T := TX5) (N := 10) (ci := 9) (ty0 := tyX5) dX6_init_38 rfl ab_ic9 tyX5_ok (ab_l3 ab_w326 ab_w327 ab_w328) (by decide +kernel) rfl rfl, List.forall_mem_cons.mpr ⟨ab_dup_ok dX6_init_41, List.forall_mem_cons.mpr ⟨ab_callI_ok' (G' := ab_g88) dX6_init_42 ab_m88 rfl (by decide) (by decide) ab_w329 (ab_l3 ab_w330 ab_w331 ab_w328) rfl ⟨rfl, by decide, by decide, by decide +kernel⟩, List.forall_mem_cons.mpr ⟨ab_putf_ok (C := RX6) (T := TX6) (N := 9) (ci := 10) (k := 3) (ty0 := tyX6) dX6_init_45 rfl ab_ic10 tyX6_ok nmX6 (by decide) ab_w332 rfl (Or.inr ⟨rfl, rfl, rfl⟩), List.forall_mem_cons.mpr ⟨ab_aload_n_ok dX6_init_48 rfl, List.forall_mem_cons.mpr ⟨ab_newo_ok (C := RX2) (T := TX2) (N := 8) (ci := 6) (ty0 := tyX2) dX6_init_49 rfl ab_ic6 tyX2_ok (ab_l3 ab_w333 ab_w334 ab_w335) (by decide +kernel) rfl rfl, List.forall_mem_cons.mpr ⟨ab_dup_ok dX6_init_52, List.forall_mem_cons.mpr ⟨ab_callIN_ok' (G' := ab_g89) (host := "BookBindery") dX6_init_53 ab_m89 rfl (by decide) (by decide) ab_w336 (ab_l2 ab_w337 ab_w335) (by simp [ab_nw]; decide) rfl ⟨rfl, by decide, by decide, by decide +kernel⟩, List.forall_mem_cons.mpr ⟨ab_putf_ok (C := RX6) (T := TX6) (N := 9) (ci := 10) (k := 5) (ty0 := tyX6) dX6_init_56 rfl ab_ic10 tyX6_ok nmX6 (by decide) ab_w338 rfl (Or.inr ⟨rfl, rfl, rfl⟩), List.forall_mem_cons.mpr ⟨ab_aload_n_ok dX6_init_59 rfl, List.forall_mem_cons.mpr ⟨ab_iconst_ok dX6_init_60 (by decide), List.forall_mem_cons.mpr ⟨ab_putf_ok (C := RX6) (T := TX6) (N := 9) (ci := 10) (k := 6) (ty0 := tyX6) dX6_init_61 rfl ab_ic10 tyX6_ok nmX6 (by decide) ab_w339 rfl (Or.inl rfl), List.forall_mem_cons.mpr ⟨ab_aload_n_ok dX6_init_64 rfl, List.forall_mem_cons.mpr ⟨ab_newo_ok (C := RJ4) (T := TJ4) (N := 4) (ci := 1) (ty0 := tyJ4) dX6_init_65 rfl ab_ic1 tyJ4_ok (ab_l3 ab_w340 ab_w341 ab_w342) (by decide +kernel) rfl rfl, List.forall_mem_cons.mpr ⟨ab_dup_ok dX6_init_68, List.forall_mem_cons.mpr ⟨ab_callI_ok' (G' := ab_g90) dX6_init_69 ab_m90 rfl (by decide) (by decide) ab_w343 (ab_l3 ab_w344 ab_w345 ab_w342) rfl ⟨rfl, by decide, by decide, by decide +kernel⟩, List.forall_mem_cons.mpr ⟨ab_putf_ok (C := RX6) (T := TX6) (N := 9) (ci := 10) (k := 7) (ty0 := tyX6) dX6_init_72 rfl ab_ic10 tyX6_ok nmX6 (by decide) ab_w346 rfl (Or.inr ⟨rfl, rfl, rfl⟩), List.forall_mem_cons.mpr ⟨ab_aload_n_ok dX6_init_75 rfl, List.forall_mem_cons.mpr ⟨ab_bipush_ok dX6_init_76 (by decide), List.forall_mem_cons.mpr ⟨ab_newa0_ok dX6_init_78 ab_w347, List.forall_mem_cons.mpr ⟨ab_putf_ok (C := RX6) (T := TX6) (N := 9) (ci := 10) (k := 8) (ty0 := tyX6) dX6_init_80 rfl ab_ic10 tyX6_ok nmX6 (by decide) ab_w348 rfl (Or.inr ⟨rfl, rfl, rfl⟩), List.forall_mem_cons.mpr ⟨ab_vret_ok dX6_init_83 rfl, fun _ h => absurd h List.not_mem_nil⟩⟩⟩⟩⟩⟩⟩⟩⟩⟩⟩⟩⟩⟩⟩⟩⟩⟩⟩⟩⟩⟩⟩⟩⟩⟩⟩⟩⟩⟩⟩⟩⟩⟩⟩⟩⟩⟩⟩⟩
theorem ab_k1 (K : ab_Kt) : ∀ pc, ab_OK K ab_mt ab_g1 pc (ab_c1 pc) := ab_lk2_ok _ (List.forall_mem_cons.mpr ⟨ab_k1_0 K, fun _ h => absurd h List.not_mem_nil⟩)
theorem dX7_init_0 : decode cX7_init 0 = .ok (.aload_n 0, 1) := by decide +kernel
theorem dX7_init_1 : decode cX7_init 1 = .ok (.invokespecial 1, 3) := by decide +kernel
theorem dX7_init_4 : decode cX7_init 4 = .ok (.aload_n 0, 1) := by decide +kernel
theorem dX7_init_5 : decode cX7_init 5 = .ok (.sipush 322, 3) := by decide +kernel
theorem dX7_init_8 : decode cX7_init 8 = .ok (.newarray .int, 2) := by decide +kernel
theorem dX7_init_10 : decode cX7_init 10 = .ok (.putfield 7, 3) := by decide +kernel
theorem dX7_init_13 : decode cX7_init 13 = .ok (.aload_n 0, 1) := by decide +kernel
theorem dX7_init_14 : decode cX7_init 14 = .ok (.sipush 2576, 3) := by decide +kernel
theorem dX7_init_17 : decode cX7_init 17 = .ok (.newarray .int, 2) := by decide +kernel
theorem dX7_init_19 : decode cX7_init 19 = .ok (.putfield 13, 3) := by decide +kernel
theorem dX7_init_22 : decode cX7_init 22 = .ok (.aload_n 0, 1) := by decide +kernel
theorem dX7_init_23 : decode cX7_init 23 = .ok (.sipush 322, 3) := by decide +kernel
theorem dX7_init_26 : decode cX7_init 26 = .ok (.newarray .int, 2) := by decide +kernel
theorem dX7_init_28 : decode cX7_init 28 = .ok (.putfield 16, 3) := by decide +kernel
theorem dX7_init_31 : decode cX7_init 31 = .ok (.aload_n 0, 1) := by decide +kernel
theorem dX7_init_32 : decode cX7_init 32 = .ok (.sipush 322, 3) := by decide +kernel
theorem dX7_init_35 : decode cX7_init 35 = .ok (.newarray .int, 2) := by decide +kernel
theorem dX7_init_37 : decode cX7_init 37 = .ok (.putfield 19, 3) := by decide +kernel
theorem dX7_init_40 : decode cX7_init 40 = .ok (.aload_n 0, 1) := by decide +kernel
theorem dX7_init_41 : decode cX7_init 41 = .ok (.bipush 60, 2) := by decide +kernel
theorem dX7_init_43 : decode cX7_init 43 = .ok (.newarray .int, 2) := by decide +kernel
theorem dX7_init_45 : decode cX7_init 45 = .ok (.putfield 22, 3) := by decide +kernel
theorem dX7_init_48 : decode cX7_init 48 = .ok (.aload_n 0, 1) := by decide +kernel
theorem dX7_init_49 : decode cX7_init 49 = .ok (.iconst (-1), 1) := by decide +kernel
theorem dX7_init_50 : decode cX7_init 50 = .ok (.putfield 25, 3) := by decide +kernel
theorem dX7_init_53 : decode cX7_init 53 = .ok (.aload_n 0, 1) := by decide +kernel
theorem dX7_init_54 : decode cX7_init 54 = .ok (.sipush 140, 3) := by decide +kernel
theorem dX7_init_57 : decode cX7_init 57 = .ok (.newarray .char, 2) := by decide +kernel
theorem dX7_init_59 : decode cX7_init 59 = .ok (.putfield 29, 3) := by decide +kernel
theorem dX7_init_62 : decode cX7_init 62 = .ok (.aload_n 0, 1) := by decide +kernel
theorem dX7_init_63 : decode cX7_init 63 = .ok (.sipush 160, 3) := by decide +kernel
theorem dX7_init_66 : decode cX7_init 66 = .ok (.newarray .int, 2) := by decide +kernel
theorem dX7_init_68 : decode cX7_init 68 = .ok (.putfield 33, 3) := by decide +kernel
theorem dX7_init_71 : decode cX7_init 71 = .ok (.aload_n 0, 1) := by decide +kernel
theorem dX7_init_72 : decode cX7_init 72 = .ok (.getfield 7, 3) := by decide +kernel
theorem dX7_init_75 : decode cX7_init 75 = .ok (.iconst 1, 1) := by decide +kernel
theorem dX7_init_76 : decode cX7_init 76 = .ok (.bipush 20, 2) := by decide +kernel
theorem dX7_init_78 : decode cX7_init 78 = .ok (.iastore, 1) := by decide +kernel
theorem dX7_init_79 : decode cX7_init 79 = .ok (.aload_n 0, 1) := by decide +kernel
theorem dX7_init_80 : decode cX7_init 80 = .ok (.getfield 7, 3) := by decide +kernel
theorem ab_k2_0 (K : ab_Kt) : ∀ q ∈ ab_l2_0, ab_OK K ab_mt ab_g2 q.1 q.2 := by
  unfold ab_l2_0
  exact List.forall_mem_cons.mpr ⟨ab_aload_n_ok dX7_init_0 rfl, List.forall_mem_cons.mpr ⟨ab_oini_ok dX7_init_1 (ab_l3 ab_w349 ab_w309 ab_w310), List.forall_mem_cons.mpr ⟨ab_aload_n_ok dX7_init_4 rfl, List.forall_mem_cons.mpr ⟨ab_sipush_ok dX7_init_5 (by decide), List.forall_mem_cons.mpr ⟨ab_newa0_ok dX7_init_8 ab_w347, List.forall_mem_cons.mpr ⟨ab_putf_ok (C := RX7) (T := TX7) (N := 19) (ci := 11) (k := 0) (ty0 := tyX7) dX7_init_10 rfl ab_ic11 tyX7_ok nmX7 (by decide) ab_w350 rfl (Or.inr ⟨rfl, rfl, rfl⟩), List.forall_mem_cons.mpr ⟨ab_aload_n_ok dX7_init_13 rfl, List.forall_mem_cons.mpr ⟨ab_sipush_ok dX7_init_14 (by decide), List.forall_mem_cons.mpr ⟨ab_newa0_ok dX7_init_17 ab_w347, List.forall_mem_cons.mpr ⟨ab_putf_ok (C := RX7) (T := TX7) (N := 19) (ci := 11) (k := 1) (ty0 := tyX7) dX7_init_19 rfl ab_ic11 tyX7_ok nmX7 (by decide) ab_w351 rfl (Or.inr ⟨rfl, rfl, rfl⟩), List.forall_mem_cons.mpr ⟨ab_aload_n_ok dX7_init_22 rfl, List.forall_mem_cons.mpr ⟨ab_sipush_ok dX7_init_23 (by decide), List.forall_mem_cons.mpr ⟨ab_newa0_ok dX7_init_26 ab_w347, List.forall_mem_cons.mpr ⟨ab_putf_ok (C := RX7) (T := TX7) (N := 19) (ci := 11) (k := 2) (ty0 := tyX7) dX7_init_28 rfl ab_ic11 tyX7_ok nmX7 (by decide) ab_w352 rfl (Or.inr ⟨rfl, rfl, rfl⟩), List.forall_mem_cons.mpr ⟨ab_aload_n_ok dX7_init_31 rfl, List.forall_mem_cons.mpr ⟨ab_sipush_ok dX7_init_32 (by decide), List.forall_mem_cons.mpr ⟨ab_newa0_ok dX7_init_35 ab_w347, List.forall_mem_cons.mpr ⟨ab_putf_ok (C := RX7) (T := TX7) (N := 19) (ci := 11) (k := 3) (ty0 := tyX7) dX7_init_37 rfl ab_ic11 tyX7_ok nmX7 (by decide) ab_w353 rfl (Or.inr ⟨rfl, rfl, rfl⟩), List.forall_mem_cons.mpr ⟨ab_aload_n_ok dX7_init_40 rfl, List.forall_mem_cons.mpr ⟨ab_bipush_ok dX7_init_41 (by decide), List.forall_mem_cons.mpr ⟨ab_newa0_ok dX7_init_43 ab_w347, List.forall_mem_cons.mpr ⟨ab_putf_ok (C := RX7) (T := TX7) (N := 19) (ci := 11) (k := 11) (ty0 := tyX7) dX7_init_45 rfl ab_ic11 tyX7_ok nmX7 (by decide) ab_w354 rfl (Or.inr ⟨rfl, rfl, rfl⟩), List.forall_mem_cons.mpr ⟨ab_aload_n_ok dX7_init_48 rfl, List.forall_mem_cons.mpr ⟨ab_iconst_ok dX7_init_49 (by decide), List.forall_mem_cons.mpr ⟨ab_putf_ok (C := RX7) (T := TX7) (N := 19) (ci := 11) (k := 13) (ty0 := tyX7) dX7_init_50 rfl ab_ic11 tyX7_ok nmX7 (by decide) ab_w355 rfl (Or.inl rfl), List.forall_mem_cons.mpr ⟨ab_aload_n_ok dX7_init_53 rfl, List.forall_mem_cons.mpr ⟨ab_sipush_ok dX7_init_54 (by decide), List.forall_mem_cons.mpr ⟨ab_newa3_ok dX7_init_57 ab_w356, List.forall_mem_cons.mpr ⟨ab_putf_ok (C := RX7) (T := TX7) (N := 19) (ci := 11) (k := 14) (ty0 := tyX7) dX7_init_59 rfl ab_ic11 tyX7_ok nmX7 (by decide) ab_w357 rfl (Or.inr ⟨rfl, rfl, rfl⟩), List.forall_mem_cons.mpr ⟨ab_aload_n_ok dX7_init_62 rfl, List.forall_mem_cons.mpr ⟨ab_sipush_ok dX7_init_63 (by decide), List.forall_mem_cons.mpr ⟨ab_newa0_ok dX7_init_66 ab_w347, List.forall_mem_cons.mpr ⟨ab_putf_ok (C := RX7) (T := TX7) (N := 19) (ci := 11) (k := 17) (ty0 := tyX7) dX7_init_68 rfl ab_ic11 tyX7_ok nmX7 (by decide) ab_w358 rfl (Or.inr ⟨rfl, rfl, rfl⟩), List.forall_mem_cons.mpr ⟨ab_aload_n_ok dX7_init_71 rfl, List.forall_mem_cons.mpr ⟨ab_getf_ok (C := RX7) (T := TX7) (N := 19) (ci := 11) (k := 0) dX7_init_72 rfl ab_ic11 (by decide) ab_w350, List.forall_mem_cons.mpr ⟨ab_iconst_ok dX7_init_75 (by decide), List.forall_mem_cons.mpr ⟨ab_bipush_ok dX7_init_76 (by decide), List.forall_mem_cons.mpr ⟨ab_ast0_ok dX7_init_78, List.forall_mem_cons.mpr ⟨ab_aload_n_ok dX7_init_79 rfl, List.forall_mem_cons.mpr ⟨ab_getf_ok (C := RX7) (T := TX7) (N := 19) (ci := 11) (k := 0) dX7_init_80 rfl ab_ic11 (by decide) ab_w350, fun _ h => absurd h List.not_mem_nil⟩⟩⟩⟩⟩⟩⟩⟩⟩⟩⟩⟩⟩⟩⟩⟩⟩⟩⟩⟩⟩⟩⟩⟩⟩⟩⟩⟩⟩⟩⟩⟩⟩⟩⟩⟩⟩⟩⟩⟩
theorem dX7_init_83 : decode cX7_init 83 = .ok (.iconst 2, 1) := by decide +kernel
theorem dX7_init_84 : decode cX7_init 84 = .ok (.bipush 100, 2) := by decide +kernel
theorem dX7_init_86 : decode cX7_init 86 = .ok (.iastore, 1) := by decide +kernel
theorem dX7_init_87 : decode cX7_init 87 = .ok (.return_, 1) := by decide +kernel
theorem ab_k2_1 (K : ab_Kt) : ∀ q ∈ ab_l2_1, ab_OK K ab_mt ab_g2 q.1 q.2 := by
  unfold ab_l2_1
  exact List.forall_mem_cons.mpr ⟨ab_iconst_ok dX7_init_83 (by decide), List.forall_mem_cons.mpr ⟨ab_bipush_ok dX7_init_84 (by decide), List.forall_mem_cons.mpr ⟨ab_ast0_ok dX7_init_86, List.forall_mem_cons.mpr ⟨ab_vret_ok dX7_init_87 rfl, fun _ h => absurd h List.not_mem_nil⟩⟩⟩⟩
theorem ab_k2 (K : ab_Kt) : ∀ pc, ab_OK K ab_mt ab_g2 pc (ab_c2 pc) := ab_lk2_ok _ (List.forall_mem_cons.mpr ⟨ab_k2_0 K, List.forall_mem_cons.mpr ⟨ab_k2_1 K, fun _ h => absurd h List.not_mem_nil⟩⟩)
theorem dL_restore_0 : decode cL_restore 0 = .ok (.aload_n 1, 1) := by decide +kernel
theorem dL_restore_1 : decode cL_restore 1 = .ok (.iconst 0, 1) := by decide +kernel
theorem dL_restore_2 : decode cL_restore 2 = .ok (.aload_n 0, 1) := by decide +kernel
theorem dL_restore_3 : decode cL_restore 3 = .ok (.invokevirtual 145, 3) := by decide +kernel
theorem dL_restore_6 : decode cL_restore 6 = .ok (.i2l, 1) := by decide +kernel
theorem dL_restore_7 : decode cL_restore 7 = .ok (.lastore, 1) := by decide +kernel
theorem dL_restore_8 : decode cL_restore 8 = .ok (.goto 6, 3) := by decide +kernel
theorem dL_restore_11 : decode cL_restore 11 = .ok (.astore_n 2, 1) := by decide +kernel
theorem dL_restore_12 : decode cL_restore 12 = .ok (.iconst 1, 1) := by decide +kernel
theorem dL_restore_13 : decode cL_restore 13 = .ok (.ireturn, 1) := by decide +kernel
theorem dL_restore_14 : decode cL_restore 14 = .ok (.iconst 0, 1) := by decide +kernel
theorem dL_restore_15 : decode cL_restore 15 = .ok (.ireturn, 1) := by decide +kernel
theorem ab_k3_0 (K : ab_Kt) : ∀ q ∈ ab_l3_0, ab_OK K ab_mt ab_g3 q.1 q.2 := by
  unfold ab_l3_0
  exact List.forall_mem_cons.mpr ⟨ab_aload_n_ok dL_restore_0 rfl, List.forall_mem_cons.mpr ⟨ab_iconst_ok dL_restore_1 (by decide), List.forall_mem_cons.mpr ⟨ab_aload_n_ok dL_restore_2 rfl, List.forall_mem_cons.mpr ⟨ab_callV_ok' (G' := ab_g91) (C := RX6) (T := TX6) (N := 9) dL_restore_3 ab_m91 rfl rfl (by decide) (by decide) (ab_l4 ab_w359 ab_w360 ab_w361 ab_w2) ab_w362 rfl ⟨by decide, by decide, by decide +kernel⟩, List.forall_mem_cons.mpr ⟨ab_i2l_ok dL_restore_6, List.forall_mem_cons.mpr ⟨ab_last_ok dL_restore_7, List.forall_mem_cons.mpr ⟨ab_goto_ok dL_restore_8 (by decide), List.forall_mem_cons.mpr ⟨ab_astore_n_ok dL_restore_11 rfl, List.forall_mem_cons.mpr ⟨ab_iconst_ok dL_restore_12 (by decide), List.forall_mem_cons.mpr ⟨ab_iret_ok dL_restore_13 rfl, List.forall_mem_cons.mpr ⟨ab_iconst_ok dL_restore_14 (by decide), List.forall_mem_cons.mpr ⟨ab_iret_ok dL_restore_15 rfl, fun _ h => absurd h List.not_mem_nil⟩⟩⟩⟩⟩⟩⟩⟩⟩⟩⟩⟩
theorem ab_k3 (K : ab_Kt) : ∀ pc, ab_OK K ab_mt ab_g3 pc (ab_c3 pc) := ab_lk2_ok _ (List.forall_mem_cons.mpr ⟨ab_k3_0 K, fun _ h => absurd h List.not_mem_nil⟩)
theorem dX7_restore_0 : decode cX7_restore 0 = .ok (.aload_n 0, 1) := by decide +kernel
theorem dX7_restore_1 : decode cX7_restore 1 = .ok (.aload_n 0, 1) := by decide +kernel
theorem dX7_restore_2 : decode cX7_restore 2 = .ok (.getfield 249, 3) := by decide +kernel
theorem dX7_restore_5 : decode cX7_restore 5 = .ok (.ifCond .eq 7, 3) := by decide +kernel
theorem dX7_restore_8 : decode cX7_restore 8 = .ok (.iconst 0, 1) := by decide +kernel
theorem dX7_restore_9 : decode cX7_restore 9 = .ok (.goto 4, 3) := by decide +kernel
theorem dX7_restore_12 : decode cX7_restore 12 = .ok (.iconst 1, 1) := by decide +kernel
theorem dX7_restore_13 : decode cX7_restore 13 = .ok (.invokevirtual 162, 3) := by decide +kernel
theorem dX7_restore_16 : decode cX7_restore 16 = .ok (.ifCond .eq 5, 3) := by decide +kernel
theorem dX7_restore_19 : decode cX7_restore 19 = .ok (.iconst 0, 1) := by decide +kernel
theorem dX7_restore_20 : decode cX7_restore 20 = .ok (.ireturn, 1) := by decide +kernel
theorem dX7_restore_21 : decode cX7_restore 21 = .ok (.aload_n 0, 1) := by decide +kernel
theorem dX7_restore_22 : decode cX7_restore 22 = .ok (.getfield 16, 3) := by decide +kernel
theorem dX7_restore_25 : decode cX7_restore 25 = .ok (.iconst 0, 1) := by decide +kernel
theorem dX7_restore_26 : decode cX7_restore 26 = .ok (.aload_n 0, 1) := by decide +kernel
theorem dX7_restore_27 : decode cX7_restore 27 = .ok (.getfield 7, 3) := by decide +kernel
theorem dX7_restore_30 : decode cX7_restore 30 = .ok (.iconst 0, 1) := by decide +kernel
theorem dX7_restore_31 : decode cX7_restore 31 = .ok (.invokestatic 55, 3) := by decide +kernel
theorem dX7_restore_34 : decode cX7_restore 34 = .ok (.aload_n 0, 1) := by decide +kernel
theorem dX7_restore_35 : decode cX7_restore 35 = .ok (.iconst 0, 1) := by decide +kernel
theorem dX7_restore_36 : decode cX7_restore 36 = .ok (.putfield 52, 3) := by decide +kernel
theorem dX7_restore_39 : decode cX7_restore 39 = .ok (.aload_n 0, 1) := by decide +kernel
theorem dX7_restore_40 : decode cX7_restore 40 = .ok (.getfield 7, 3) := by decide +kernel
theorem dX7_restore_43 : decode cX7_restore 43 = .ok (.iconst 3, 1) := by decide +kernel
theorem dX7_restore_44 : decode cX7_restore 44 = .ok (.iaload, 1) := by decide +kernel
theorem dX7_restore_45 : decode cX7_restore 45 = .ok (.ireturn, 1) := by decide +kernel
theorem ab_k4_0 (K : ab_Kt) : ∀ q ∈ ab_l4_0, ab_OK K ab_mt ab_g4 q.1 q.2 := by
  unfold ab_l4_0
  exact List.forall_mem_cons.mpr ⟨ab_aload_n_ok dX7_restore_0 rfl, List.forall_mem_cons.mpr ⟨ab_aload_n_ok dX7_restore_1 rfl, List.forall_mem_cons.mpr ⟨ab_getf_ok (C := RX7) (T := TX7) (N := 19) (ci := 11) (k := 4) dX7_restore_2 rfl ab_ic11 (by decide) ab_w363, List.forall_mem_cons.mpr ⟨ab_if_eq_ok dX7_restore_5 (by decide), List.forall_mem_cons.mpr ⟨ab_iconst_ok dX7_restore_8 (by decide), List.forall_mem_cons.mpr ⟨ab_goto_ok dX7_restore_9 (by decide), List.forall_mem_cons.mpr ⟨ab_iconst_ok dX7_restore_12 (by decide), List.forall_mem_cons.mpr ⟨ab_callV_ok' (G' := ab_g92) (C := RX7) (T := TX7) (N := 19) dX7_restore_13 ab_m92 rfl rfl (by decide) (by decide) (ab_l4 ab_w364 ab_w365 ab_w366 ab_w8) ab_w367 rfl ⟨by decide, by decide, by decide +kernel⟩, List.forall_mem_cons.mpr ⟨ab_if_eq_ok dX7_restore_16 (by decide), List.forall_mem_cons.mpr ⟨ab_iconst_ok dX7_restore_19 (by decide), List.forall_mem_cons.mpr ⟨ab_iret_ok dX7_restore_20 rfl, List.forall_mem_cons.mpr ⟨ab_aload_n_ok dX7_restore_21 rfl, List.forall_mem_cons.mpr ⟨ab_getf_ok (C := RX7) (T := TX7) (N := 19) (ci := 11) (k := 2) dX7_restore_22 rfl ab_ic11 (by decide) ab_w352, List.forall_mem_cons.mpr ⟨ab_iconst_ok dX7_restore_25 (by decide), List.forall_mem_cons.mpr ⟨ab_aload_n_ok dX7_restore_26 rfl, List.forall_mem_cons.mpr ⟨ab_getf_ok (C := RX7) (T := TX7) (N := 19) (ci := 11) (k := 0) dX7_restore_27 rfl ab_ic11 (by decide) ab_w350, List.forall_mem_cons.mpr ⟨ab_iconst_ok dX7_restore_30 (by decide), List.forall_mem_cons.mpr ⟨ab_callS_ok' (G' := ab_g93) dX7_restore_31 ab_m93 (by decide) (by decide) (ab_l3 ab_w368 ab_w369 ab_w8) ab_w370 rfl ⟨by decide, by decide, by decide +kernel⟩, List.forall_mem_cons.mpr ⟨ab_aload_n_ok dX7_restore_34 rfl, List.forall_mem_cons.mpr ⟨ab_iconst_ok dX7_restore_35 (by decide), List.forall_mem_cons.mpr ⟨ab_putf_ok (C := RX7) (T := TX7) (N := 19) (ci := 11) (k := 5) (ty0 := tyX7) dX7_restore_36 rfl ab_ic11 tyX7_ok nmX7 (by decide) ab_w371 rfl (Or.inl rfl), List.forall_mem_cons.mpr ⟨ab_aload_n_ok dX7_restore_39 rfl, List.forall_mem_cons.mpr ⟨ab_getf_ok (C := RX7) (T := TX7) (N := 19) (ci := 11) (k := 0) dX7_restore_40 rfl ab_ic11 (by decide) ab_w350, List.forall_mem_cons.mpr ⟨ab_iconst_ok dX7_restore_43 (by decide), List.forall_mem_cons.mpr ⟨ab_ald0_ok dX7_restore_44, List.forall_mem_cons.mpr ⟨ab_iret_ok dX7_restore_45 rfl, fun _ h => absurd h List.not_mem_nil⟩⟩⟩⟩⟩⟩⟩⟩⟩⟩⟩⟩⟩⟩⟩⟩⟩⟩⟩⟩⟩⟩⟩⟩⟩⟩
theorem ab_k4 (K : ab_Kt) : ∀ pc, ab_OK K ab_mt ab_g4 pc (ab_c4 pc) := ab_lk2_ok _ (List.forall_mem_cons.mpr ⟨ab_k4_0 K, fun _ h => absurd h List.not_mem_nil⟩)
theorem dX7_thrown_0 : decode cX7_thrown 0 = .ok (.aload_n 0, 1) := by decide +kernel
theorem dX7_thrown_1 : decode cX7_thrown 1 = .ok (.getfield 36, 3) := by decide +kernel
theorem dX7_thrown_4 : decode cX7_thrown 4 = .ok (.ireturn, 1) := by decide +kernel
theorem ab_k5_0 (K : ab_Kt) : ∀ q ∈ ab_l5_0, ab_OK K ab_mt ab_g5 q.1 q.2 := by
  unfold ab_l5_0
  exact List.forall_mem_cons.mpr ⟨ab_aload_n_ok dX7_thrown_0 rfl, List.forall_mem_cons.mpr ⟨ab_getf_ok (C := RX7) (T := TX7) (N := 19) (ci := 11) (k := 7) dX7_thrown_1 rfl ab_ic11 (by decide) ab_w372, List.forall_mem_cons.mpr ⟨ab_iret_ok dX7_thrown_4 rfl, fun _ h => absurd h List.not_mem_nil⟩⟩⟩
theorem ab_k5 (K : ab_Kt) : ∀ pc, ab_OK K ab_mt ab_g5 pc (ab_c5 pc) := ab_lk2_ok _ (List.forall_mem_cons.mpr ⟨ab_k5_0 K, fun _ h => absurd h List.not_mem_nil⟩)
theorem dX6_save_0 : decode cX6_save 0 = .ok (.aload_n 0, 1) := by decide +kernel
theorem dX6_save_1 : decode cX6_save 1 = .ok (.getfield 31, 3) := by decide +kernel
theorem dX6_save_4 : decode cX6_save 4 = .ok (.aload_n 0, 1) := by decide +kernel
theorem dX6_save_5 : decode cX6_save 5 = .ok (.getfield 20, 3) := by decide +kernel
theorem dX6_save_8 : decode cX6_save 8 = .ok (.invokevirtual 326, 3) := by decide +kernel
theorem dX6_save_11 : decode cX6_save 11 = .ok (.aload_n 0, 1) := by decide +kernel
theorem dX6_save_12 : decode cX6_save 12 = .ok (.iconst 1, 1) := by decide +kernel
theorem dX6_save_13 : decode cX6_save 13 = .ok (.putfield 329, 3) := by decide +kernel
theorem dX6_save_16 : decode cX6_save 16 = .ok (.aload_n 0, 1) := by decide +kernel
theorem dX6_save_17 : decode cX6_save 17 = .ok (.getfield 20, 3) := by decide +kernel
theorem dX6_save_20 : decode cX6_save 20 = .ok (.getfield 229, 3) := by decide +kernel
theorem dX6_save_23 : decode cX6_save 23 = .ok (.ireturn, 1) := by decide +kernel
theorem ab_k6_0 (K : ab_Kt) : ∀ q ∈ ab_l6_0, ab_OK K ab_mt ab_g6 q.1 q.2 := by
  unfold ab_l6_0
  exact List.forall_mem_cons.mpr ⟨ab_aload_n_ok dX6_save_0 rfl, List.forall_mem_cons.mpr ⟨ab_getf_ok (C := RX6) (T := TX6) (N := 9) (ci := 10) (k := 3) dX6_save_1 rfl ab_ic10 (by decide) ab_w332, List.forall_mem_cons.mpr ⟨ab_aload_n_ok dX6_save_4 rfl, List.forall_mem_cons.mpr ⟨ab_getf_ok (C := RX6) (T := TX6) (N := 9) (ci := 10) (k := 1) dX6_save_5 rfl ab_ic10 (by decide) ab_w318, List.forall_mem_cons.mpr ⟨ab_callV_ok' (G' := ab_g94) (C := RX5) (T := TX5) (N := 10) dX6_save_8 ab_m94 rfl rfl (by decide) (by decide) (ab_l4 ab_w373 ab_w374 ab_w375 ab_w328) ab_w376 rfl ⟨by decide, by decide, by decide +kernel⟩, List.forall_mem_cons.mpr ⟨ab_aload_n_ok dX6_save_11 rfl, List.forall_mem_cons.mpr ⟨ab_iconst_ok dX6_save_12 (by decide), List.forall_mem_cons.mpr ⟨ab_putf_ok (C := RX6) (T := TX6) (N := 9) (ci := 10) (k := 4) (ty0 := tyX6) dX6_save_13 rfl ab_ic10 tyX6_ok nmX6 (by decide) ab_w377 rfl (Or.inl rfl), List.forall_mem_cons.mpr ⟨ab_aload_n_ok dX6_save_16 rfl, List.forall_mem_cons.mpr ⟨ab_getf_ok (C := RX6) (T := TX6) (N := 9) (ci := 10) (k := 1) dX6_save_17 rfl ab_ic10 (by decide) ab_w318, List.forall_mem_cons.mpr ⟨ab_getf_ok (C := RX5) (T := TX5) (N := 10) (ci := 9) (k := 2) dX6_save_20 rfl ab_ic9 (by decide) ab_w378, List.forall_mem_cons.mpr ⟨ab_iret_ok dX6_save_23 rfl, fun _ h => absurd h List.not_mem_nil⟩⟩⟩⟩⟩⟩⟩⟩⟩⟩⟩⟩
theorem ab_k6 (K : ab_Kt) : ∀ pc, ab_OK K ab_mt ab_g6 pc (ab_c6 pc) := ab_lk2_ok _ (List.forall_mem_cons.mpr ⟨ab_k6_0 K, fun _ h => absurd h List.not_mem_nil⟩)
theorem dX7_save_0 : decode cX7_save 0 = .ok (.aload_n 0, 1) := by decide +kernel
theorem dX7_save_1 : decode cX7_save 1 = .ok (.iconst 0, 1) := by decide +kernel
theorem dX7_save_2 : decode cX7_save 2 = .ok (.putfield 36, 3) := by decide +kernel
theorem dX7_save_5 : decode cX7_save 5 = .ok (.aload_n 0, 1) := by decide +kernel
theorem dX7_save_6 : decode cX7_save 6 = .ok (.iconst 1, 1) := by decide +kernel
theorem dX7_save_7 : decode cX7_save 7 = .ok (.putfield 249, 3) := by decide +kernel
theorem dX7_save_10 : decode cX7_save 10 = .ok (.aload_n 0, 1) := by decide +kernel
theorem dX7_save_11 : decode cX7_save 11 = .ok (.getfield 7, 3) := by decide +kernel
theorem dX7_save_14 : decode cX7_save 14 = .ok (.iconst 0, 1) := by decide +kernel
theorem dX7_save_15 : decode cX7_save 15 = .ok (.aload_n 0, 1) := by decide +kernel
theorem dX7_save_16 : decode cX7_save 16 = .ok (.getfield 16, 3) := by decide +kernel
theorem dX7_save_19 : decode cX7_save 19 = .ok (.iconst 0, 1) := by decide +kernel
theorem dX7_save_20 : decode cX7_save 20 = .ok (.invokestatic 55, 3) := by decide +kernel
theorem dX7_save_23 : decode cX7_save 23 = .ok (.aload_n 0, 1) := by decide +kernel
theorem dX7_save_24 : decode cX7_save 24 = .ok (.getfield 7, 3) := by decide +kernel
theorem dX7_save_27 : decode cX7_save 27 = .ok (.iconst 3, 1) := by decide +kernel
theorem dX7_save_28 : decode cX7_save 28 = .ok (.iaload, 1) := by decide +kernel
theorem dX7_save_29 : decode cX7_save 29 = .ok (.ireturn, 1) := by decide +kernel
theorem ab_k7_0 (K : ab_Kt) : ∀ q ∈ ab_l7_0, ab_OK K ab_mt ab_g7 q.1 q.2 := by
  unfold ab_l7_0
  exact List.forall_mem_cons.mpr ⟨ab_aload_n_ok dX7_save_0 rfl, List.forall_mem_cons.mpr ⟨ab_iconst_ok dX7_save_1 (by decide), List.forall_mem_cons.mpr ⟨ab_putf_ok (C := RX7) (T := TX7) (N := 19) (ci := 11) (k := 7) (ty0 := tyX7) dX7_save_2 rfl ab_ic11 tyX7_ok nmX7 (by decide) ab_w372 rfl (Or.inl rfl), List.forall_mem_cons.mpr ⟨ab_aload_n_ok dX7_save_5 rfl, List.forall_mem_cons.mpr ⟨ab_iconst_ok dX7_save_6 (by decide), List.forall_mem_cons.mpr ⟨ab_putf_ok (C := RX7) (T := TX7) (N := 19) (ci := 11) (k := 4) (ty0 := tyX7) dX7_save_7 rfl ab_ic11 tyX7_ok nmX7 (by decide) ab_w363 rfl (Or.inl rfl), List.forall_mem_cons.mpr ⟨ab_aload_n_ok dX7_save_10 rfl, List.forall_mem_cons.mpr ⟨ab_getf_ok (C := RX7) (T := TX7) (N := 19) (ci := 11) (k := 0) dX7_save_11 rfl ab_ic11 (by decide) ab_w350, List.forall_mem_cons.mpr ⟨ab_iconst_ok dX7_save_14 (by decide), List.forall_mem_cons.mpr ⟨ab_aload_n_ok dX7_save_15 rfl, List.forall_mem_cons.mpr ⟨ab_getf_ok (C := RX7) (T := TX7) (N := 19) (ci := 11) (k := 2) dX7_save_16 rfl ab_ic11 (by decide) ab_w352, List.forall_mem_cons.mpr ⟨ab_iconst_ok dX7_save_19 (by decide), List.forall_mem_cons.mpr ⟨ab_callS_ok' (G' := ab_g93) dX7_save_20 ab_m93 (by decide) (by decide) (ab_l3 ab_w368 ab_w369 ab_w8) ab_w370 rfl ⟨by decide, by decide, by decide +kernel⟩, List.forall_mem_cons.mpr ⟨ab_aload_n_ok dX7_save_23 rfl, List.forall_mem_cons.mpr ⟨ab_getf_ok (C := RX7) (T := TX7) (N := 19) (ci := 11) (k := 0) dX7_save_24 rfl ab_ic11 (by decide) ab_w350, List.forall_mem_cons.mpr ⟨ab_iconst_ok dX7_save_27 (by decide), List.forall_mem_cons.mpr ⟨ab_ald0_ok dX7_save_28, List.forall_mem_cons.mpr ⟨ab_iret_ok dX7_save_29 rfl, fun _ h => absurd h List.not_mem_nil⟩⟩⟩⟩⟩⟩⟩⟩⟩⟩⟩⟩⟩⟩⟩⟩⟩⟩
theorem ab_k7 (K : ab_Kt) : ∀ pc, ab_OK K ab_mt ab_g7 pc (ab_c7 pc) := ab_lk2_ok _ (List.forall_mem_cons.mpr ⟨ab_k7_0 K, fun _ h => absurd h List.not_mem_nil⟩)
theorem dL_undo_0 : decode cL_undo 0 = .ok (.aload_n 1, 1) := by decide +kernel
theorem dL_undo_1 : decode cL_undo 1 = .ok (.iconst 0, 1) := by decide +kernel
theorem dL_undo_2 : decode cL_undo 2 = .ok (.aload_n 0, 1) := by decide +kernel
theorem dL_undo_3 : decode cL_undo 3 = .ok (.invokevirtual 142, 3) := by decide +kernel
theorem dL_undo_6 : decode cL_undo 6 = .ok (.i2l, 1) := by decide +kernel
theorem dL_undo_7 : decode cL_undo 7 = .ok (.lastore, 1) := by decide +kernel
theorem dL_undo_8 : decode cL_undo 8 = .ok (.goto 6, 3) := by decide +kernel
theorem dL_undo_11 : decode cL_undo 11 = .ok (.astore_n 2, 1) := by decide +kernel
theorem dL_undo_12 : decode cL_undo 12 = .ok (.iconst 1, 1) := by decide +kernel
theorem dL_undo_13 : decode cL_undo 13 = .ok (.ireturn, 1) := by decide +kernel
theorem dL_undo_14 : decode cL_undo 14 = .ok (.iconst 0, 1) := by decide +kernel
theorem dL_undo_15 : decode cL_undo 15 = .ok (.ireturn, 1) := by decide +kernel
theorem ab_k8_0 (K : ab_Kt) : ∀ q ∈ ab_l8_0, ab_OK K ab_mt ab_g8 q.1 q.2 := by
  unfold ab_l8_0
  exact List.forall_mem_cons.mpr ⟨ab_aload_n_ok dL_undo_0 rfl, List.forall_mem_cons.mpr ⟨ab_iconst_ok dL_undo_1 (by decide), List.forall_mem_cons.mpr ⟨ab_aload_n_ok dL_undo_2 rfl, List.forall_mem_cons.mpr ⟨ab_callV_ok' (G' := ab_g95) (C := RX6) (T := TX6) (N := 9) dL_undo_3 ab_m95 rfl rfl (by decide) (by decide) (ab_l4 ab_w379 ab_w380 ab_w381 ab_w2) ab_w382 rfl ⟨by decide, by decide, by decide +kernel⟩, List.forall_mem_cons.mpr ⟨ab_i2l_ok dL_undo_6, List.forall_mem_cons.mpr ⟨ab_last_ok dL_undo_7, List.forall_mem_cons.mpr ⟨ab_goto_ok dL_undo_8 (by decide), List.forall_mem_cons.mpr ⟨ab_astore_n_ok dL_undo_11 rfl, List.forall_mem_cons.mpr ⟨ab_iconst_ok dL_undo_12 (by decide), List.forall_mem_cons.mpr ⟨ab_iret_ok dL_undo_13 rfl, List.forall_mem_cons.mpr ⟨ab_iconst_ok dL_undo_14 (by decide), List.forall_mem_cons.mpr ⟨ab_iret_ok dL_undo_15 rfl, fun _ h => absurd h List.not_mem_nil⟩⟩⟩⟩⟩⟩⟩⟩⟩⟩⟩⟩
theorem ab_k8 (K : ab_Kt) : ∀ pc, ab_OK K ab_mt ab_g8 pc (ab_c8 pc) := ab_lk2_ok _ (List.forall_mem_cons.mpr ⟨ab_k8_0 K, fun _ h => absurd h List.not_mem_nil⟩)
theorem dX7_undo_0 : decode cX7_undo 0 = .ok (.aload_n 0, 1) := by decide +kernel
theorem dX7_undo_1 : decode cX7_undo 1 = .ok (.aload_n 0, 1) := by decide +kernel
theorem dX7_undo_2 : decode cX7_undo 2 = .ok (.getfield 52, 3) := by decide +kernel
theorem dX7_undo_5 : decode cX7_undo 5 = .ok (.ifCond .ne 7, 3) := by decide +kernel
theorem dX7_undo_8 : decode cX7_undo 8 = .ok (.iconst 1, 1) := by decide +kernel
theorem dX7_undo_9 : decode cX7_undo 9 = .ok (.goto 4, 3) := by decide +kernel
theorem dX7_undo_12 : decode cX7_undo 12 = .ok (.iconst 0, 1) := by decide +kernel
theorem dX7_undo_13 : decode cX7_undo 13 = .ok (.invokevirtual 162, 3) := by decide +kernel
theorem dX7_undo_16 : decode cX7_undo 16 = .ok (.ifCond .eq 5, 3) := by decide +kernel
theorem dX7_undo_19 : decode cX7_undo 19 = .ok (.iconst 0, 1) := by decide +kernel
theorem dX7_undo_20 : decode cX7_undo 20 = .ok (.ireturn, 1) := by decide +kernel
theorem dX7_undo_21 : decode cX7_undo 21 = .ok (.aload_n 0, 1) := by decide +kernel
theorem dX7_undo_22 : decode cX7_undo 22 = .ok (.dup, 1) := by decide +kernel
theorem dX7_undo_23 : decode cX7_undo 23 = .ok (.getfield 52, 3) := by decide +kernel
theorem dX7_undo_26 : decode cX7_undo 26 = .ok (.iconst 1, 1) := by decide +kernel
theorem dX7_undo_27 : decode cX7_undo 27 = .ok (.isub, 1) := by decide +kernel
theorem dX7_undo_28 : decode cX7_undo 28 = .ok (.putfield 52, 3) := by decide +kernel
theorem dX7_undo_31 : decode cX7_undo 31 = .ok (.aload_n 0, 1) := by decide +kernel
theorem dX7_undo_32 : decode cX7_undo 32 = .ok (.getfield 13, 3) := by decide +kernel
theorem dX7_undo_35 : decode cX7_undo 35 = .ok (.sipush 322, 3) := by decide +kernel
theorem dX7_undo_38 : decode cX7_undo 38 = .ok (.aload_n 0, 1) := by decide +kernel
theorem dX7_undo_39 : decode cX7_undo 39 = .ok (.getfield 52, 3) := by decide +kernel
theorem dX7_undo_42 : decode cX7_undo 42 = .ok (.imul, 1) := by decide +kernel
theorem dX7_undo_43 : decode cX7_undo 43 = .ok (.aload_n 0, 1) := by decide +kernel
theorem dX7_undo_44 : decode cX7_undo 44 = .ok (.getfield 7, 3) := by decide +kernel
theorem dX7_undo_47 : decode cX7_undo 47 = .ok (.iconst 0, 1) := by decide +kernel
theorem dX7_undo_48 : decode cX7_undo 48 = .ok (.invokestatic 55, 3) := by decide +kernel
theorem dX7_undo_51 : decode cX7_undo 51 = .ok (.aload_n 0, 1) := by decide +kernel
theorem dX7_undo_52 : decode cX7_undo 52 = .ok (.getfield 52, 3) := by decide +kernel
theorem dX7_undo_55 : decode cX7_undo 55 = .ok (.ireturn, 1) := by decide +kernel
theorem ab_k9_0 (K : ab_Kt) : ∀ q ∈ ab_l9_0, ab_OK K ab_mt ab_g9 q.1 q.2 := by
  unfold ab_l9_0
  exact List.forall_mem_cons.mpr ⟨ab_aload_n_ok dX7_undo_0 rfl, List.forall_mem_cons.mpr ⟨ab_aload_n_ok dX7_undo_1 rfl, List.forall_mem_cons.mpr ⟨ab_getf_ok (C := RX7) (T := TX7) (N := 19) (ci := 11) (k := 5) dX7_undo_2 rfl ab_ic11 (by decide) ab_w371, List.forall_mem_cons.mpr ⟨ab_if_ne_ok dX7_undo_5 (by decide), List.forall_mem_cons.mpr ⟨ab_iconst_ok dX7_undo_8 (by decide), List.forall_mem_cons.mpr ⟨ab_goto_ok dX7_undo_9 (by decide), List.forall_mem_cons.mpr ⟨ab_iconst_ok dX7_undo_12 (by decide), List.forall_mem_cons.mpr ⟨ab_callV_ok' (G' := ab_g92) (C := RX7) (T := TX7) (N := 19) dX7_undo_13 ab_m92 rfl rfl (by decide) (by decide) (ab_l4 ab_w364 ab_w365 ab_w366 ab_w8) ab_w367 rfl ⟨by decide, by decide, by decide +kernel⟩, List.forall_mem_cons.mpr ⟨ab_if_eq_ok dX7_undo_16 (by decide), List.forall_mem_cons.mpr ⟨ab_iconst_ok dX7_undo_19 (by decide), List.forall_mem_cons.mpr ⟨ab_iret_ok dX7_undo_20 rfl, List.forall_mem_cons.mpr ⟨ab_aload_n_ok dX7_undo_21 rfl, List.forall_mem_cons.mpr ⟨ab_dup_ok dX7_undo_22, List.forall_mem_cons.mpr ⟨ab_getf_ok (C := RX7) (T := TX7) (N := 19) (ci := 11) (k := 5) dX7_undo_23 rfl ab_ic11 (by decide) ab_w371, List.forall_mem_cons.mpr ⟨ab_iconst_ok dX7_undo_26 (by decide), List.forall_mem_cons.mpr ⟨ab_isub_ok dX7_undo_27, List.forall_mem_cons.mpr ⟨ab_putf_ok (C := RX7) (T := TX7) (N := 19) (ci := 11) (k := 5) (ty0 := tyX7) dX7_undo_28 rfl ab_ic11 tyX7_ok nmX7 (by decide) ab_w371 rfl (Or.inl rfl), List.forall_mem_cons.mpr ⟨ab_aload_n_ok dX7_undo_31 rfl, List.forall_mem_cons.mpr ⟨ab_getf_ok (C := RX7) (T := TX7) (N := 19) (ci := 11) (k := 1) dX7_undo_32 rfl ab_ic11 (by decide) ab_w351, List.forall_mem_cons.mpr ⟨ab_sipush_ok dX7_undo_35 (by decide), List.forall_mem_cons.mpr ⟨ab_aload_n_ok dX7_undo_38 rfl, List.forall_mem_cons.mpr ⟨ab_getf_ok (C := RX7) (T := TX7) (N := 19) (ci := 11) (k := 5) dX7_undo_39 rfl ab_ic11 (by decide) ab_w371, List.forall_mem_cons.mpr ⟨ab_imul_ok dX7_undo_42, List.forall_mem_cons.mpr ⟨ab_aload_n_ok dX7_undo_43 rfl, List.forall_mem_cons.mpr ⟨ab_getf_ok (C := RX7) (T := TX7) (N := 19) (ci := 11) (k := 0) dX7_undo_44 rfl ab_ic11 (by decide) ab_w350, List.forall_mem_cons.mpr ⟨ab_iconst_ok dX7_undo_47 (by decide), List.forall_mem_cons.mpr ⟨ab_callS_ok' (G' := ab_g93) dX7_undo_48 ab_m93 (by decide) (by decide) (ab_l3 ab_w368 ab_w369 ab_w8) ab_w370 rfl ⟨by decide, by decide, by decide +kernel⟩, List.forall_mem_cons.mpr ⟨ab_aload_n_ok dX7_undo_51 rfl, List.forall_mem_cons.mpr ⟨ab_getf_ok (C := RX7) (T := TX7) (N := 19) (ci := 11) (k := 5) dX7_undo_52 rfl ab_ic11 (by decide) ab_w371, List.forall_mem_cons.mpr ⟨ab_iret_ok dX7_undo_55 rfl, fun _ h => absurd h List.not_mem_nil⟩⟩⟩⟩⟩⟩⟩⟩⟩⟩⟩⟩⟩⟩⟩⟩⟩⟩⟩⟩⟩⟩⟩⟩⟩⟩⟩⟩⟩⟩
theorem ab_k9 (K : ab_Kt) : ∀ pc, ab_OK K ab_mt ab_g9 pc (ab_c9 pc) := ab_lk2_ok _ (List.forall_mem_cons.mpr ⟨ab_k9_0 K, fun _ h => absurd h List.not_mem_nil⟩)
theorem dL_account_0 : decode cL_account 0 = .ok (.aload_n 2, 1) := by decide +kernel
theorem dL_account_1 : decode cL_account 1 = .ok (.iconst 0, 1) := by decide +kernel
theorem dL_account_2 : decode cL_account 2 = .ok (.aload_n 0, 1) := by decide +kernel
theorem dL_account_3 : decode cL_account 3 = .ok (.iload_n 1, 1) := by decide +kernel
theorem dL_account_4 : decode cL_account 4 = .ok (.invokevirtual 139, 3) := by decide +kernel
theorem dL_account_7 : decode cL_account 7 = .ok (.i2l, 1) := by decide +kernel
theorem dL_account_8 : decode cL_account 8 = .ok (.lastore, 1) := by decide +kernel
theorem dL_account_9 : decode cL_account 9 = .ok (.goto 6, 3) := by decide +kernel
theorem dL_account_12 : decode cL_account 12 = .ok (.astore_n 3, 1) := by decide +kernel
theorem dL_account_13 : decode cL_account 13 = .ok (.iconst 1, 1) := by decide +kernel
theorem dL_account_14 : decode cL_account 14 = .ok (.ireturn, 1) := by decide +kernel
theorem dL_account_15 : decode cL_account 15 = .ok (.iconst 0, 1) := by decide +kernel
theorem dL_account_16 : decode cL_account 16 = .ok (.ireturn, 1) := by decide +kernel
theorem ab_k10_0 (K : ab_Kt) : ∀ q ∈ ab_l10_0, ab_OK K ab_mt ab_g10 q.1 q.2 := by
  unfold ab_l10_0
  exact List.forall_mem_cons.mpr ⟨ab_aload_n_ok dL_account_0 rfl, List.forall_mem_cons.mpr ⟨ab_iconst_ok dL_account_1 (by decide), List.forall_mem_cons.mpr ⟨ab_aload_n_ok dL_account_2 rfl, List.forall_mem_cons.mpr ⟨ab_iload_n_ok dL_account_3 rfl, List.forall_mem_cons.mpr ⟨ab_callV_ok' (G' := ab_g96) (C := RX6) (T := TX6) (N := 9) dL_account_4 ab_m96 rfl rfl (by decide) (by decide) (ab_l4 ab_w383 ab_w384 ab_w385 ab_w2) ab_w386 rfl ⟨by decide, by decide, by decide +kernel⟩, List.forall_mem_cons.mpr ⟨ab_i2l_ok dL_account_7, List.forall_mem_cons.mpr ⟨ab_last_ok dL_account_8, List.forall_mem_cons.mpr ⟨ab_goto_ok dL_account_9 (by decide), List.forall_mem_cons.mpr ⟨ab_astore_n_ok dL_account_12 rfl, List.forall_mem_cons.mpr ⟨ab_iconst_ok dL_account_13 (by decide), List.forall_mem_cons.mpr ⟨ab_iret_ok dL_account_14 rfl, List.forall_mem_cons.mpr ⟨ab_iconst_ok dL_account_15 (by decide), List.forall_mem_cons.mpr ⟨ab_iret_ok dL_account_16 rfl, fun _ h => absurd h List.not_mem_nil⟩⟩⟩⟩⟩⟩⟩⟩⟩⟩⟩⟩⟩
theorem ab_k10 (K : ab_Kt) : ∀ pc, ab_OK K ab_mt ab_g10 pc (ab_c10 pc) := ab_lk2_ok _ (List.forall_mem_cons.mpr ⟨ab_k10_0 K, fun _ h => absurd h List.not_mem_nil⟩)
theorem dX7_account_0 : decode cX7_account 0 = .ok (.aload_n 0, 1) := by decide +kernel
theorem dX7_account_1 : decode cX7_account 1 = .ok (.iload_n 1, 1) := by decide +kernel
theorem dX7_account_2 : decode cX7_account 2 = .ok (.iconst 0, 1) := by decide +kernel
theorem dX7_account_3 : decode cX7_account 3 = .ok (.bipush 12, 2) := by decide +kernel
theorem dX7_account_5 : decode cX7_account 5 = .ok (.invokestatic 59, 3) := by decide +kernel
theorem dX7_account_8 : decode cX7_account 8 = .ok (.ifCond .eq 7, 3) := by decide +kernel
theorem dX7_account_11 : decode cX7_account 11 = .ok (.iconst 0, 1) := by decide +kernel
theorem dX7_account_12 : decode cX7_account 12 = .ok (.goto 4, 3) := by decide +kernel
theorem dX7_account_15 : decode cX7_account 15 = .ok (.iconst 1, 1) := by decide +kernel
theorem dX7_account_16 : decode cX7_account 16 = .ok (.invokevirtual 162, 3) := by decide +kernel
theorem dX7_account_19 : decode cX7_account 19 = .ok (.ifCond .eq 5, 3) := by decide +kernel
theorem dX7_account_22 : decode cX7_account 22 = .ok (.iconst 0, 1) := by decide +kernel
theorem dX7_account_23 : decode cX7_account 23 = .ok (.ireturn, 1) := by decide +kernel
theorem dX7_account_24 : decode cX7_account 24 = .ok (.iload_n 1, 1) := by decide +kernel
theorem dX7_account_25 : decode cX7_account 25 = .ok (.tableswitch 128 0 11 #[63, 63, 63, 63, 70, 82, 87, 93, 100, 107, 115, 123], 63) := by decide +kernel
theorem dX7_account_88 : decode cX7_account 88 = .ok (.aload_n 0, 1) := by decide +kernel
theorem dX7_account_89 : decode cX7_account 89 = .ok (.getfield 7, 3) := by decide +kernel
theorem dX7_account_92 : decode cX7_account 92 = .ok (.iload_n 1, 1) := by decide +kernel
theorem dX7_account_93 : decode cX7_account 93 = .ok (.iaload, 1) := by decide +kernel
theorem dX7_account_94 : decode cX7_account 94 = .ok (.ireturn, 1) := by decide +kernel
theorem dX7_account_95 : decode cX7_account 95 = .ok (.aload_n 0, 1) := by decide +kernel
theorem dX7_account_96 : decode cX7_account 96 = .ok (.iconst 0, 1) := by decide +kernel
theorem dX7_account_97 : decode cX7_account 97 = .ok (.invokevirtual 140, 3) := by decide +kernel
theorem dX7_account_100 : decode cX7_account 100 = .ok (.aload_n 0, 1) := by decide +kernel
theorem dX7_account_101 : decode cX7_account 101 = .ok (.iconst 1, 1) := by decide +kernel
theorem dX7_account_102 : decode cX7_account 102 = .ok (.invokevirtual 140, 3) := by decide +kernel
theorem dX7_account_105 : decode cX7_account 105 = .ok (.iadd, 1) := by decide +kernel
theorem dX7_account_106 : decode cX7_account 106 = .ok (.ireturn, 1) := by decide +kernel
theorem dX7_account_107 : decode cX7_account 107 = .ok (.aload_n 0, 1) := by decide +kernel
theorem dX7_account_108 : decode cX7_account 108 = .ok (.invokevirtual 246, 3) := by decide +kernel
theorem dX7_account_111 : decode cX7_account 111 = .ok (.ireturn, 1) := by decide +kernel
theorem dX7_account_112 : decode cX7_account 112 = .ok (.aload_n 0, 1) := by decide +kernel
theorem dX7_account_113 : decode cX7_account 113 = .ok (.iconst 3, 1) := by decide +kernel
theorem dX7_account_114 : decode cX7_account 114 = .ok (.invokevirtual 243, 3) := by decide +kernel
theorem dX7_account_117 : decode cX7_account 117 = .ok (.ireturn, 1) := by decide +kernel
theorem dX7_account_118 : decode cX7_account 118 = .ok (.aload_n 0, 1) := by decide +kernel
theorem dX7_account_119 : decode cX7_account 119 = .ok (.getfield 7, 3) := by decide +kernel
theorem dX7_account_122 : decode cX7_account 122 = .ok (.iconst 4, 1) := by decide +kernel
theorem dX7_account_123 : decode cX7_account 123 = .ok (.iaload, 1) := by decide +kernel
theorem dX7_account_124 : decode cX7_account 124 = .ok (.ireturn, 1) := by decide +kernel
theorem ab_k11_0 (K : ab_Kt) : ∀ q ∈ ab_l11_0, ab_OK K ab_mt ab_g11 q.1 q.2 := by
  unfold ab_l11_0
  exact List.forall_mem_cons.mpr ⟨ab_aload_n_ok dX7_account_0 rfl, List.forall_mem_cons.mpr ⟨ab_iload_n_ok dX7_account_1 rfl, List.forall_mem_cons.mpr ⟨ab_iconst_ok dX7_account_2 (by decide), List.forall_mem_cons.mpr ⟨ab_bipush_ok dX7_account_3 (by decide), List.forall_mem_cons.mpr ⟨ab_callS_ok' (G' := ab_g97) dX7_account_5 ab_m97 (by decide) (by decide) (ab_l3 ab_w387 ab_w388 ab_w8) ab_w389 rfl ⟨by decide, by decide, by decide +kernel⟩, List.forall_mem_cons.mpr ⟨ab_if_eq_ok dX7_account_8 (by decide), List.forall_mem_cons.mpr ⟨ab_iconst_ok dX7_account_11 (by decide), List.forall_mem_cons.mpr ⟨ab_goto_ok dX7_account_12 (by decide), List.forall_mem_cons.mpr ⟨ab_iconst_ok dX7_account_15 (by decide), List.forall_mem_cons.mpr ⟨ab_callV_ok' (G' := ab_g92) (C := RX7) (T := TX7) (N := 19) dX7_account_16 ab_m92 rfl rfl (by decide) (by decide) (ab_l4 ab_w364 ab_w365 ab_w366 ab_w8) ab_w367 rfl ⟨by decide, by decide, by decide +kernel⟩, List.forall_mem_cons.mpr ⟨ab_if_eq_ok dX7_account_19 (by decide), List.forall_mem_cons.mpr ⟨ab_iconst_ok dX7_account_22 (by decide), List.forall_mem_cons.mpr ⟨ab_iret_ok dX7_account_23 rfl, List.forall_mem_cons.mpr ⟨ab_iload_n_ok dX7_account_24 rfl, List.forall_mem_cons.mpr ⟨ab_tsw_ok dX7_account_25 (by decide) (by decide) (by decide), List.forall_mem_cons.mpr ⟨ab_aload_n_ok dX7_account_88 rfl, List.forall_mem_cons.mpr ⟨ab_getf_ok (C := RX7) (T := TX7) (N := 19) (ci := 11) (k := 0) dX7_account_89 rfl ab_ic11 (by decide) ab_w350, List.forall_mem_cons.mpr ⟨ab_iload_n_ok dX7_account_92 rfl, List.forall_mem_cons.mpr ⟨ab_ald0_ok dX7_account_93, List.forall_mem_cons.mpr ⟨ab_iret_ok dX7_account_94 rfl, List.forall_mem_cons.mpr ⟨ab_aload_n_ok dX7_account_95 rfl, List.forall_mem_cons.mpr ⟨ab_iconst_ok dX7_account_96 (by decide), List.forall_mem_cons.mpr ⟨ab_callV_ok' (G' := ab_g100) (C := RX7) (T := TX7) (N := 19) dX7_account_97 ab_m100 rfl rfl (by decide) (by decide) (ab_l4 ab_w399 ab_w400 ab_w401 ab_w8) ab_w402 rfl ⟨by decide, by decide, by decide +kernel⟩, List.forall_mem_cons.mpr ⟨ab_aload_n_ok dX7_account_100 rfl, List.forall_mem_cons.mpr ⟨ab_iconst_ok dX7_account_101 (by decide), List.forall_mem_cons.mpr ⟨ab_callV_ok' (G' := ab_g100) (C := RX7) (T := TX7) (N := 19) dX7_account_102 ab_m100 rfl rfl (by decide) (by decide) (ab_l4 ab_w399 ab_w400 ab_w401 ab_w8) ab_w402 rfl ⟨by decide, by decide, by decide +kernel⟩, List.forall_mem_cons.mpr ⟨ab_iadd_ok dX7_account_105, List.forall_mem_cons.mpr ⟨ab_iret_ok dX7_account_106 rfl, List.forall_mem_cons.mpr ⟨ab_aload_n_ok dX7_account_107 rfl, List.forall_mem_cons.mpr ⟨ab_callV_ok' (G' := ab_g99) (C := RX7) (T := TX7) (N := 19) dX7_account_108 ab_m99 rfl rfl (by decide) (by decide) (ab_l4 ab_w395 ab_w396 ab_w397 ab_w8) ab_w398 rfl ⟨by decide, by decide, by decide +kernel⟩, List.forall_mem_cons.mpr ⟨ab_iret_ok dX7_account_111 rfl, List.forall_mem_cons.mpr ⟨ab_aload_n_ok dX7_account_112 rfl, List.forall_mem_cons.mpr ⟨ab_iconst_ok dX7_account_113 (by decide), List.forall_mem_cons.mpr ⟨ab_callV_ok' (G' := ab_g98) (C := RX7) (T := TX7) (N := 19) dX7_account_114 ab_m98 rfl rfl (by decide) (by decide) (ab_l4 ab_w391 ab_w392 ab_w393 ab_w8) ab_w394 rfl ⟨by decide, by decide, by decide +kernel⟩, List.forall_mem_cons.mpr ⟨ab_iret_ok dX7_account_117 rfl, List.forall_mem_cons.mpr ⟨ab_aload_n_ok dX7_account_118 rfl, List.forall_mem_cons.mpr ⟨ab_getf_ok (C := RX7) (T := TX7) (N := 19) (ci := 11) (k := 0) dX7_account_119 rfl ab_ic11 (by decide) ab_w350, List.forall_mem_cons.mpr ⟨ab_iconst_ok dX7_account_122 (by decide), List.forall_mem_cons.mpr ⟨ab_ald0_ok dX7_account_123, List.forall_mem_cons.mpr ⟨ab_iret_ok dX7_account_124 rfl, fun _ h => absurd h List.not_mem_nil⟩⟩⟩⟩⟩⟩⟩⟩⟩⟩⟩⟩⟩⟩⟩⟩⟩⟩⟩⟩⟩⟩⟩⟩⟩⟩⟩⟩⟩⟩⟩⟩⟩⟩⟩⟩⟩⟩⟩⟩
theorem dX7_account_125 : decode cX7_account 125 = .ok (.aload_n 0, 1) := by decide +kernel
theorem dX7_account_126 : decode cX7_account 126 = .ok (.getfield 7, 3) := by decide +kernel
theorem dX7_account_129 : decode cX7_account 129 = .ok (.iconst 5, 1) := by decide +kernel
theorem dX7_account_130 : decode cX7_account 130 = .ok (.iaload, 1) := by decide +kernel
theorem dX7_account_131 : decode cX7_account 131 = .ok (.ireturn, 1) := by decide +kernel
theorem dX7_account_132 : decode cX7_account 132 = .ok (.aload_n 0, 1) := by decide +kernel
theorem dX7_account_133 : decode cX7_account 133 = .ok (.getfield 7, 3) := by decide +kernel
theorem dX7_account_136 : decode cX7_account 136 = .ok (.bipush 6, 2) := by decide +kernel
theorem dX7_account_138 : decode cX7_account 138 = .ok (.iaload, 1) := by decide +kernel
theorem dX7_account_139 : decode cX7_account 139 = .ok (.ireturn, 1) := by decide +kernel
theorem dX7_account_140 : decode cX7_account 140 = .ok (.aload_n 0, 1) := by decide +kernel
theorem dX7_account_141 : decode cX7_account 141 = .ok (.getfield 7, 3) := by decide +kernel
theorem dX7_account_144 : decode cX7_account 144 = .ok (.bipush 7, 2) := by decide +kernel
theorem dX7_account_146 : decode cX7_account 146 = .ok (.iaload, 1) := by decide +kernel
theorem dX7_account_147 : decode cX7_account 147 = .ok (.ireturn, 1) := by decide +kernel
theorem dX7_account_148 : decode cX7_account 148 = .ok (.aload_n 0, 1) := by decide +kernel
theorem dX7_account_149 : decode cX7_account 149 = .ok (.getfield 52, 3) := by decide +kernel
theorem dX7_account_152 : decode cX7_account 152 = .ok (.ireturn, 1) := by decide +kernel
theorem dX7_account_153 : decode cX7_account 153 = .ok (.aload_n 0, 1) := by decide +kernel
theorem dX7_account_154 : decode cX7_account 154 = .ok (.getfield 174, 3) := by decide +kernel
theorem dX7_account_157 : decode cX7_account 157 = .ok (.ireturn, 1) := by decide +kernel
theorem ab_k11_1 (K : ab_Kt) : ∀ q ∈ ab_l11_1, ab_OK K ab_mt ab_g11 q.1 q.2 := by
  unfold ab_l11_1
  exact List.forall_mem_cons.mpr ⟨ab_aload_n_ok dX7_account_125 rfl, List.forall_mem_cons.mpr ⟨ab_getf_ok (C := RX7) (T := TX7) (N := 19) (ci := 11) (k := 0) dX7_account_126 rfl ab_ic11 (by decide) ab_w350, List.forall_mem_cons.mpr ⟨ab_iconst_ok dX7_account_129 (by decide), List.forall_mem_cons.mpr ⟨ab_ald0_ok dX7_account_130, List.forall_mem_cons.mpr ⟨ab_iret_ok dX7_account_131 rfl, List.forall_mem_cons.mpr ⟨ab_aload_n_ok dX7_account_132 rfl, List.forall_mem_cons.mpr ⟨ab_getf_ok (C := RX7) (T := TX7) (N := 19) (ci := 11) (k := 0) dX7_account_133 rfl ab_ic11 (by decide) ab_w350, List.forall_mem_cons.mpr ⟨ab_bipush_ok dX7_account_136 (by decide), List.forall_mem_cons.mpr ⟨ab_ald0_ok dX7_account_138, List.forall_mem_cons.mpr ⟨ab_iret_ok dX7_account_139 rfl, List.forall_mem_cons.mpr ⟨ab_aload_n_ok dX7_account_140 rfl, List.forall_mem_cons.mpr ⟨ab_getf_ok (C := RX7) (T := TX7) (N := 19) (ci := 11) (k := 0) dX7_account_141 rfl ab_ic11 (by decide) ab_w350, List.forall_mem_cons.mpr ⟨ab_bipush_ok dX7_account_144 (by decide), List.forall_mem_cons.mpr ⟨ab_ald0_ok dX7_account_146, List.forall_mem_cons.mpr ⟨ab_iret_ok dX7_account_147 rfl, List.forall_mem_cons.mpr ⟨ab_aload_n_ok dX7_account_148 rfl, List.forall_mem_cons.mpr ⟨ab_getf_ok (C := RX7) (T := TX7) (N := 19) (ci := 11) (k := 5) dX7_account_149 rfl ab_ic11 (by decide) ab_w371, List.forall_mem_cons.mpr ⟨ab_iret_ok dX7_account_152 rfl, List.forall_mem_cons.mpr ⟨ab_aload_n_ok dX7_account_153 rfl, List.forall_mem_cons.mpr ⟨ab_getf_ok (C := RX7) (T := TX7) (N := 19) (ci := 11) (k := 12) dX7_account_154 rfl ab_ic11 (by decide) ab_w390, List.forall_mem_cons.mpr ⟨ab_iret_ok dX7_account_157 rfl, fun _ h => absurd h List.not_mem_nil⟩⟩⟩⟩⟩⟩⟩⟩⟩⟩⟩⟩⟩⟩⟩⟩⟩⟩⟩⟩⟩
theorem ab_k11 (K : ab_Kt) : ∀ pc, ab_OK K ab_mt ab_g11 pc (ab_c11 pc) := ab_lk2_ok _ (List.forall_mem_cons.mpr ⟨ab_k11_0 K, List.forall_mem_cons.mpr ⟨ab_k11_1 K, fun _ h => absurd h List.not_mem_nil⟩⟩)
theorem dL_meanSignatures_0 : decode cL_meanSignatures 0 = .ok (.aload_n 1, 1) := by decide +kernel
theorem dL_meanSignatures_1 : decode cL_meanSignatures 1 = .ok (.iconst 0, 1) := by decide +kernel
theorem dL_meanSignatures_2 : decode cL_meanSignatures 2 = .ok (.aload_n 0, 1) := by decide +kernel
theorem dL_meanSignatures_3 : decode cL_meanSignatures 3 = .ok (.invokevirtual 135, 3) := by decide +kernel
theorem dL_meanSignatures_6 : decode cL_meanSignatures 6 = .ok (.dastore, 1) := by decide +kernel
theorem dL_meanSignatures_7 : decode cL_meanSignatures 7 = .ok (.goto 6, 3) := by decide +kernel
theorem dL_meanSignatures_10 : decode cL_meanSignatures 10 = .ok (.astore_n 2, 1) := by decide +kernel
theorem dL_meanSignatures_11 : decode cL_meanSignatures 11 = .ok (.iconst 1, 1) := by decide +kernel
theorem dL_meanSignatures_12 : decode cL_meanSignatures 12 = .ok (.ireturn, 1) := by decide +kernel
theorem dL_meanSignatures_13 : decode cL_meanSignatures 13 = .ok (.iconst 0, 1) := by decide +kernel
theorem dL_meanSignatures_14 : decode cL_meanSignatures 14 = .ok (.ireturn, 1) := by decide +kernel
theorem ab_k12_0 (K : ab_Kt) : ∀ q ∈ ab_l12_0, ab_OK K ab_mt ab_g12 q.1 q.2 := by
  unfold ab_l12_0
  exact List.forall_mem_cons.mpr ⟨ab_aload_n_ok dL_meanSignatures_0 rfl, List.forall_mem_cons.mpr ⟨ab_iconst_ok dL_meanSignatures_1 (by decide), List.forall_mem_cons.mpr ⟨ab_aload_n_ok dL_meanSignatures_2 rfl, List.forall_mem_cons.mpr ⟨ab_callV_ok' (G' := ab_g101) (C := RX6) (T := TX6) (N := 9) dL_meanSignatures_3 ab_m101 rfl rfl (by decide) (by decide) (ab_l4 ab_w403 ab_w404 ab_w405 ab_w2) ab_w406 rfl ⟨by decide, by decide, by decide +kernel⟩, List.forall_mem_cons.mpr ⟨ab_dast_ok dL_meanSignatures_6, List.forall_mem_cons.mpr ⟨ab_goto_ok dL_meanSignatures_7 (by decide), List.forall_mem_cons.mpr ⟨ab_astore_n_ok dL_meanSignatures_10 rfl, List.forall_mem_cons.mpr ⟨ab_iconst_ok dL_meanSignatures_11 (by decide), List.forall_mem_cons.mpr ⟨ab_iret_ok dL_meanSignatures_12 rfl, List.forall_mem_cons.mpr ⟨ab_iconst_ok dL_meanSignatures_13 (by decide), List.forall_mem_cons.mpr ⟨ab_iret_ok dL_meanSignatures_14 rfl, fun _ h => absurd h List.not_mem_nil⟩⟩⟩⟩⟩⟩⟩⟩⟩⟩⟩
theorem ab_k12 (K : ab_Kt) : ∀ pc, ab_OK K ab_mt ab_g12 pc (ab_c12 pc) := ab_lk2_ok _ (List.forall_mem_cons.mpr ⟨ab_k12_0 K, fun _ h => absurd h List.not_mem_nil⟩)
theorem dX7_meanSignatures_0 : decode cX7_meanSignatures 0 = .ok (.aload_n 0, 1) := by decide +kernel
theorem dX7_meanSignatures_1 : decode cX7_meanSignatures 1 = .ok (.aload_n 0, 1) := by decide +kernel
theorem dX7_meanSignatures_2 : decode cX7_meanSignatures 2 = .ok (.getfield 7, 3) := by decide +kernel
theorem dX7_meanSignatures_5 : decode cX7_meanSignatures 5 = .ok (.iconst 3, 1) := by decide +kernel
theorem dX7_meanSignatures_6 : decode cX7_meanSignatures 6 = .ok (.iaload, 1) := by decide +kernel
theorem dX7_meanSignatures_7 : decode cX7_meanSignatures 7 = .ok (.ifCond .ne 7, 3) := by decide +kernel
theorem dX7_meanSignatures_10 : decode cX7_meanSignatures 10 = .ok (.iconst 1, 1) := by decide +kernel
theorem dX7_meanSignatures_11 : decode cX7_meanSignatures 11 = .ok (.goto 4, 3) := by decide +kernel
theorem dX7_meanSignatures_14 : decode cX7_meanSignatures 14 = .ok (.iconst 0, 1) := by decide +kernel
theorem dX7_meanSignatures_15 : decode cX7_meanSignatures 15 = .ok (.invokevirtual 162, 3) := by decide +kernel
theorem dX7_meanSignatures_18 : decode cX7_meanSignatures 18 = .ok (.ifCond .eq 7, 3) := by decide +kernel
theorem dX7_meanSignatures_21 : decode cX7_meanSignatures 21 = .ok (.dconst 0, 1) := by decide +kernel
theorem dX7_meanSignatures_22 : decode cX7_meanSignatures 22 = .ok (.goto 17, 3) := by decide +kernel
theorem dX7_meanSignatures_25 : decode cX7_meanSignatures 25 = .ok (.aload_n 0, 1) := by decide +kernel
theorem dX7_meanSignatures_26 : decode cX7_meanSignatures 26 = .ok (.iconst 3, 1) := by decide +kernel
theorem dX7_meanSignatures_27 : decode cX7_meanSignatures 27 = .ok (.invokevirtual 243, 3) := by decide +kernel
theorem dX7_meanSignatures_30 : decode cX7_meanSignatures 30 = .ok (.i2d, 1) := by decide +kernel
theorem dX7_meanSignatures_31 : decode cX7_meanSignatures 31 = .ok (.aload_n 0, 1) := by decide +kernel
theorem dX7_meanSignatures_32 : decode cX7_meanSignatures 32 = .ok (.getfield 7, 3) := by decide +kernel
theorem dX7_meanSignatures_35 : decode cX7_meanSignatures 35 = .ok (.iconst 3, 1) := by decide +kernel
theorem dX7_meanSignatures_36 : decode cX7_meanSignatures 36 = .ok (.iaload, 1) := by decide +kernel
theorem dX7_meanSignatures_37 : decode cX7_meanSignatures 37 = .ok (.i2d, 1) := by decide +kernel
theorem dX7_meanSignatures_38 : decode cX7_meanSignatures 38 = .ok (.ddiv, 1) := by decide +kernel
theorem dX7_meanSignatures_39 : decode cX7_meanSignatures 39 = .ok (.dreturn, 1) := by decide +kernel
theorem ab_k13_0 (K : ab_Kt) : ∀ q ∈ ab_l13_0, ab_OK K ab_mt ab_g13 q.1 q.2 := by
  unfold ab_l13_0
  exact List.forall_mem_cons.mpr ⟨ab_aload_n_ok dX7_meanSignatures_0 rfl, List.forall_mem_cons.mpr ⟨ab_aload_n_ok dX7_meanSignatures_1 rfl, List.forall_mem_cons.mpr ⟨ab_getf_ok (C := RX7) (T := TX7) (N := 19) (ci := 11) (k := 0) dX7_meanSignatures_2 rfl ab_ic11 (by decide) ab_w350, List.forall_mem_cons.mpr ⟨ab_iconst_ok dX7_meanSignatures_5 (by decide), List.forall_mem_cons.mpr ⟨ab_ald0_ok dX7_meanSignatures_6, List.forall_mem_cons.mpr ⟨ab_if_ne_ok dX7_meanSignatures_7 (by decide), List.forall_mem_cons.mpr ⟨ab_iconst_ok dX7_meanSignatures_10 (by decide), List.forall_mem_cons.mpr ⟨ab_goto_ok dX7_meanSignatures_11 (by decide), List.forall_mem_cons.mpr ⟨ab_iconst_ok dX7_meanSignatures_14 (by decide), List.forall_mem_cons.mpr ⟨ab_callV_ok' (G' := ab_g92) (C := RX7) (T := TX7) (N := 19) dX7_meanSignatures_15 ab_m92 rfl rfl (by decide) (by decide) (ab_l4 ab_w364 ab_w365 ab_w366 ab_w8) ab_w367 rfl ⟨by decide, by decide, by decide +kernel⟩, List.forall_mem_cons.mpr ⟨ab_if_eq_ok dX7_meanSignatures_18 (by decide), List.forall_mem_cons.mpr ⟨ab_dconst0_ok dX7_meanSignatures_21, List.forall_mem_cons.mpr ⟨ab_goto_ok dX7_meanSignatures_22 (by decide), List.forall_mem_cons.mpr ⟨ab_aload_n_ok dX7_meanSignatures_25 rfl, List.forall_mem_cons.mpr ⟨ab_iconst_ok dX7_meanSignatures_26 (by decide), List.forall_mem_cons.mpr ⟨ab_callV_ok' (G' := ab_g98) (C := RX7) (T := TX7) (N := 19) dX7_meanSignatures_27 ab_m98 rfl rfl (by decide) (by decide) (ab_l4 ab_w391 ab_w392 ab_w393 ab_w8) ab_w394 rfl ⟨by decide, by decide, by decide +kernel⟩, List.forall_mem_cons.mpr ⟨ab_i2d_ok dX7_meanSignatures_30, List.forall_mem_cons.mpr ⟨ab_aload_n_ok dX7_meanSignatures_31 rfl, List.forall_mem_cons.mpr ⟨ab_getf_ok (C := RX7) (T := TX7) (N := 19) (ci := 11) (k := 0) dX7_meanSignatures_32 rfl ab_ic11 (by decide) ab_w350, List.forall_mem_cons.mpr ⟨ab_iconst_ok dX7_meanSignatures_35 (by decide), List.forall_mem_cons.mpr ⟨ab_ald0_ok dX7_meanSignatures_36, List.forall_mem_cons.mpr ⟨ab_i2d_ok dX7_meanSignatures_37, List.forall_mem_cons.mpr ⟨ab_ddiv_ok dX7_meanSignatures_38, List.forall_mem_cons.mpr ⟨ab_dret_ok dX7_meanSignatures_39 rfl, fun _ h => absurd h List.not_mem_nil⟩⟩⟩⟩⟩⟩⟩⟩⟩⟩⟩⟩⟩⟩⟩⟩⟩⟩⟩⟩⟩⟩⟩⟩
theorem ab_k13 (K : ab_Kt) : ∀ pc, ab_OK K ab_mt ab_g13 pc (ab_c13 pc) := ab_lk2_ok _ (List.forall_mem_cons.mpr ⟨ab_k13_0 K, fun _ h => absurd h List.not_mem_nil⟩)
theorem dL_rightShare_0 : decode cL_rightShare 0 = .ok (.aload_n 2, 1) := by decide +kernel
theorem dL_rightShare_1 : decode cL_rightShare 1 = .ok (.iconst 0, 1) := by decide +kernel
theorem dL_rightShare_2 : decode cL_rightShare 2 = .ok (.aload_n 0, 1) := by decide +kernel
theorem dL_rightShare_3 : decode cL_rightShare 3 = .ok (.iload_n 1, 1) := by decide +kernel
theorem dL_rightShare_4 : decode cL_rightShare 4 = .ok (.invokevirtual 129, 3) := by decide +kernel
theorem dL_rightShare_7 : decode cL_rightShare 7 = .ok (.f2d, 1) := by decide +kernel
theorem dL_rightShare_8 : decode cL_rightShare 8 = .ok (.dastore, 1) := by decide +kernel
theorem dL_rightShare_9 : decode cL_rightShare 9 = .ok (.goto 9, 3) := by decide +kernel
theorem dL_rightShare_12 : decode cL_rightShare 12 = .ok (.astore_n 3, 1) := by decide +kernel
theorem dL_rightShare_13 : decode cL_rightShare 13 = .ok (.iconst 1, 1) := by decide +kernel
theorem dL_rightShare_14 : decode cL_rightShare 14 = .ok (.ireturn, 1) := by decide +kernel
theorem dL_rightShare_15 : decode cL_rightShare 15 = .ok (.astore_n 3, 1) := by decide +kernel
theorem dL_rightShare_16 : decode cL_rightShare 16 = .ok (.iconst 2, 1) := by decide +kernel
theorem dL_rightShare_17 : decode cL_rightShare 17 = .ok (.ireturn, 1) := by decide +kernel
theorem dL_rightShare_18 : decode cL_rightShare 18 = .ok (.iconst 0, 1) := by decide +kernel
theorem dL_rightShare_19 : decode cL_rightShare 19 = .ok (.ireturn, 1) := by decide +kernel
theorem ab_k14_0 (K : ab_Kt) : ∀ q ∈ ab_l14_0, ab_OK K ab_mt ab_g14 q.1 q.2 := by
  unfold ab_l14_0
  exact List.forall_mem_cons.mpr ⟨ab_aload_n_ok dL_rightShare_0 rfl, List.forall_mem_cons.mpr ⟨ab_iconst_ok dL_rightShare_1 (by decide), List.forall_mem_cons.mpr ⟨ab_aload_n_ok dL_rightShare_2 rfl, List.forall_mem_cons.mpr ⟨ab_iload_n_ok dL_rightShare_3 rfl, List.forall_mem_cons.mpr ⟨ab_callV_ok' (G' := ab_g102) (C := RX6) (T := TX6) (N := 9) dL_rightShare_4 ab_m102 rfl rfl (by decide) (by decide) (ab_l4 ab_w407 ab_w408 ab_w409 ab_w2) ab_w410 rfl ⟨by decide, by decide, by decide +kernel⟩, List.forall_mem_cons.mpr ⟨ab_f2d_ok dL_rightShare_7, List.forall_mem_cons.mpr ⟨ab_dast_ok dL_rightShare_8, List.forall_mem_cons.mpr ⟨ab_goto_ok dL_rightShare_9 (by decide), List.forall_mem_cons.mpr ⟨ab_astore_n_ok dL_rightShare_12 rfl, List.forall_mem_cons.mpr ⟨ab_iconst_ok dL_rightShare_13 (by decide), List.forall_mem_cons.mpr ⟨ab_iret_ok dL_rightShare_14 rfl, List.forall_mem_cons.mpr ⟨ab_astore_n_ok dL_rightShare_15 rfl, List.forall_mem_cons.mpr ⟨ab_iconst_ok dL_rightShare_16 (by decide), List.forall_mem_cons.mpr ⟨ab_iret_ok dL_rightShare_17 rfl, List.forall_mem_cons.mpr ⟨ab_iconst_ok dL_rightShare_18 (by decide), List.forall_mem_cons.mpr ⟨ab_iret_ok dL_rightShare_19 rfl, fun _ h => absurd h List.not_mem_nil⟩⟩⟩⟩⟩⟩⟩⟩⟩⟩⟩⟩⟩⟩⟩⟩
theorem ab_k14 (K : ab_Kt) : ∀ pc, ab_OK K ab_mt ab_g14 pc (ab_c14 pc) := ab_lk2_ok _ (List.forall_mem_cons.mpr ⟨ab_k14_0 K, fun _ h => absurd h List.not_mem_nil⟩)
theorem dX7_rightShare_0 : decode cX7_rightShare 0 = .ok (.aload_n 0, 1) := by decide +kernel
theorem dX7_rightShare_1 : decode cX7_rightShare 1 = .ok (.aload_n 0, 1) := by decide +kernel
theorem dX7_rightShare_2 : decode cX7_rightShare 2 = .ok (.iload_n 1, 1) := by decide +kernel
theorem dX7_rightShare_3 : decode cX7_rightShare 3 = .ok (.invokevirtual 94, 3) := by decide +kernel
theorem dX7_rightShare_6 : decode cX7_rightShare 6 = .ok (.ifCond .ne 7, 3) := by decide +kernel
theorem dX7_rightShare_9 : decode cX7_rightShare 9 = .ok (.iconst 1, 1) := by decide +kernel
theorem dX7_rightShare_10 : decode cX7_rightShare 10 = .ok (.goto 16, 3) := by decide +kernel
theorem dX7_rightShare_13 : decode cX7_rightShare 13 = .ok (.aload_n 0, 1) := by decide +kernel
theorem dX7_rightShare_14 : decode cX7_rightShare 14 = .ok (.iload_n 1, 1) := by decide +kernel
theorem dX7_rightShare_15 : decode cX7_rightShare 15 = .ok (.invokevirtual 80, 3) := by decide +kernel
theorem dX7_rightShare_18 : decode cX7_rightShare 18 = .ok (.ifCond .ne 7, 3) := by decide +kernel
theorem dX7_rightShare_21 : decode cX7_rightShare 21 = .ok (.iconst 2, 1) := by decide +kernel
theorem dX7_rightShare_22 : decode cX7_rightShare 22 = .ok (.goto 4, 3) := by decide +kernel
theorem dX7_rightShare_25 : decode cX7_rightShare 25 = .ok (.iconst 0, 1) := by decide +kernel
theorem dX7_rightShare_26 : decode cX7_rightShare 26 = .ok (.invokevirtual 162, 3) := by decide +kernel
theorem dX7_rightShare_29 : decode cX7_rightShare 29 = .ok (.ifCond .eq 5, 3) := by decide +kernel
theorem dX7_rightShare_32 : decode cX7_rightShare 32 = .ok (.fconst 0, 1) := by decide +kernel
theorem dX7_rightShare_33 : decode cX7_rightShare 33 = .ok (.freturn, 1) := by decide +kernel
theorem dX7_rightShare_34 : decode cX7_rightShare 34 = .ok (.aload_n 0, 1) := by decide +kernel
theorem dX7_rightShare_35 : decode cX7_rightShare 35 = .ok (.iload_n 1, 1) := by decide +kernel
theorem dX7_rightShare_36 : decode cX7_rightShare 36 = .ok (.invokevirtual 80, 3) := by decide +kernel
theorem dX7_rightShare_39 : decode cX7_rightShare 39 = .ok (.aload_n 0, 1) := by decide +kernel
theorem dX7_rightShare_40 : decode cX7_rightShare 40 = .ok (.iload_n 1, 1) := by decide +kernel
theorem dX7_rightShare_41 : decode cX7_rightShare 41 = .ok (.invokevirtual 125, 3) := by decide +kernel
theorem dX7_rightShare_44 : decode cX7_rightShare 44 = .ok (.isub, 1) := by decide +kernel
theorem dX7_rightShare_45 : decode cX7_rightShare 45 = .ok (.i2f, 1) := by decide +kernel
theorem dX7_rightShare_46 : decode cX7_rightShare 46 = .ok (.aload_n 0, 1) := by decide +kernel
theorem dX7_rightShare_47 : decode cX7_rightShare 47 = .ok (.iload_n 1, 1) := by decide +kernel
theorem dX7_rightShare_48 : decode cX7_rightShare 48 = .ok (.invokevirtual 80, 3) := by decide +kernel
theorem dX7_rightShare_51 : decode cX7_rightShare 51 = .ok (.i2f, 1) := by decide +kernel
theorem dX7_rightShare_52 : decode cX7_rightShare 52 = .ok (.fdiv, 1) := by decide +kernel
theorem dX7_rightShare_53 : decode cX7_rightShare 53 = .ok (.freturn, 1) := by decide +kernel
theorem ab_k15_0 (K : ab_Kt) : ∀ q ∈ ab_l15_0, ab_OK K ab_mt ab_g15 q.1 q.2 := by
  unfold ab_l15_0
  exact List.forall_mem_cons.mpr ⟨ab_aload_n_ok dX7_rightShare_0 rfl, List.forall_mem_cons.mpr ⟨ab_aload_n_ok dX7_rightShare_1 rfl, List.forall_mem_cons.mpr ⟨ab_iload_n_ok dX7_rightShare_2 rfl, List.forall_mem_cons.mpr ⟨ab_callV_ok' (G' := ab_g103) (C := RX7) (T := TX7) (N := 19) dX7_rightShare_3 ab_m103 rfl rfl (by decide) (by decide) (ab_l4 ab_w411 ab_w412 ab_w413 ab_w8) ab_w414 rfl ⟨by decide, by decide, by decide +kernel⟩, List.forall_mem_cons.mpr ⟨ab_if_ne_ok dX7_rightShare_6 (by decide), List.forall_mem_cons.mpr ⟨ab_iconst_ok dX7_rightShare_9 (by decide), List.forall_mem_cons.mpr ⟨ab_goto_ok dX7_rightShare_10 (by decide), List.forall_mem_cons.mpr ⟨ab_aload_n_ok dX7_rightShare_13 rfl, List.forall_mem_cons.mpr ⟨ab_iload_n_ok dX7_rightShare_14 rfl, List.forall_mem_cons.mpr ⟨ab_callV_ok' (G' := ab_g104) (C := RX7) (T := TX7) (N := 19) dX7_rightShare_15 ab_m104 rfl rfl (by decide) (by decide) (ab_l4 ab_w415 ab_w416 ab_w417 ab_w8) ab_w418 rfl ⟨by decide, by decide, by decide +kernel⟩, List.forall_mem_cons.mpr ⟨ab_if_ne_ok dX7_rightShare_18 (by decide), List.forall_mem_cons.mpr ⟨ab_iconst_ok dX7_rightShare_21 (by decide), List.forall_mem_cons.mpr ⟨ab_goto_ok dX7_rightShare_22 (by decide), List.forall_mem_cons.mpr ⟨ab_iconst_ok dX7_rightShare_25 (by decide), List.forall_mem_cons.mpr ⟨ab_callV_ok' (G' := ab_g92) (C := RX7) (T := TX7) (N := 19) dX7_rightShare_26 ab_m92 rfl rfl (by decide) (by decide) (ab_l4 ab_w364 ab_w365 ab_w366 ab_w8) ab_w367 rfl ⟨by decide, by decide, by decide +kernel⟩, List.forall_mem_cons.mpr ⟨ab_if_eq_ok dX7_rightShare_29 (by decide), List.forall_mem_cons.mpr ⟨ab_fconst0_ok dX7_rightShare_32, List.forall_mem_cons.mpr ⟨ab_fret_ok dX7_rightShare_33 rfl, List.forall_mem_cons.mpr ⟨ab_aload_n_ok dX7_rightShare_34 rfl, List.forall_mem_cons.mpr ⟨ab_iload_n_ok dX7_rightShare_35 rfl, List.forall_mem_cons.mpr ⟨ab_callV_ok' (G' := ab_g104) (C := RX7) (T := TX7) (N := 19) dX7_rightShare_36 ab_m104 rfl rfl (by decide) (by decide) (ab_l4 ab_w415 ab_w416 ab_w417 ab_w8) ab_w418 rfl ⟨by decide, by decide, by decide +kernel⟩, List.forall_mem_cons.mpr ⟨ab_aload_n_ok dX7_rightShare_39 rfl, List.forall_mem_cons.mpr ⟨ab_iload_n_ok dX7_rightShare_40 rfl, List.forall_mem_cons.mpr ⟨ab_callV_ok' (G' := ab_g105) (C := RX7) (T := TX7) (N := 19) dX7_rightShare_41 ab_m105 rfl rfl (by decide) (by decide) (ab_l4 ab_w419 ab_w420 ab_w421 ab_w8) ab_w422 rfl ⟨by decide, by decide, by decide +kernel⟩, List.forall_mem_cons.mpr ⟨ab_isub_ok dX7_rightShare_44, List.forall_mem_cons.mpr ⟨ab_i2f_ok dX7_rightShare_45, List.forall_mem_cons.mpr ⟨ab_aload_n_ok dX7_rightShare_46 rfl, List.forall_mem_cons.mpr ⟨ab_iload_n_ok dX7_rightShare_47 rfl, List.forall_mem_cons.mpr ⟨ab_callV_ok' (G' := ab_g104) (C := RX7) (T := TX7) (N := 19) dX7_rightShare_48 ab_m104 rfl rfl (by decide) (by decide) (ab_l4 ab_w415 ab_w416 ab_w417 ab_w8) ab_w418 rfl ⟨by decide, by decide, by decide +kernel⟩, List.forall_mem_cons.mpr ⟨ab_i2f_ok dX7_rightShare_51, List.forall_mem_cons.mpr ⟨ab_fdiv_ok dX7_rightShare_52, List.forall_mem_cons.mpr ⟨ab_fret_ok dX7_rightShare_53 rfl, fun _ h => absurd h List.not_mem_nil⟩⟩⟩⟩⟩⟩⟩⟩⟩⟩⟩⟩⟩⟩⟩⟩⟩⟩⟩⟩⟩⟩⟩⟩⟩⟩⟩⟩⟩⟩⟩⟩
theorem ab_k15 (K : ab_Kt) : ∀ pc, ab_OK K ab_mt ab_g15 pc (ab_c15 pc) := ab_lk2_ok _ (List.forall_mem_cons.mpr ⟨ab_k15_0 K, fun _ h => absurd h List.not_mem_nil⟩)
theorem dL_character_0 : decode cL_character 0 = .ok (.aload_n 2, 1) := by decide +kernel
theorem dL_character_1 : decode cL_character 1 = .ok (.iconst 0, 1) := by decide +kernel
theorem dL_character_2 : decode cL_character 2 = .ok (.aload_n 0, 1) := by decide +kernel
theorem dL_character_3 : decode cL_character 3 = .ok (.iload_n 1, 1) := by decide +kernel
theorem dL_character_4 : decode cL_character 4 = .ok (.invokevirtual 125, 3) := by decide +kernel
theorem dL_character_7 : decode cL_character 7 = .ok (.i2l, 1) := by decide +kernel
theorem dL_character_8 : decode cL_character 8 = .ok (.lastore, 1) := by decide +kernel
theorem dL_character_9 : decode cL_character 9 = .ok (.goto 6, 3) := by decide +kernel
theorem dL_character_12 : decode cL_character 12 = .ok (.astore_n 3, 1) := by decide +kernel
theorem dL_character_13 : decode cL_character 13 = .ok (.iconst 1, 1) := by decide +kernel
theorem dL_character_14 : decode cL_character 14 = .ok (.ireturn, 1) := by decide +kernel
theorem dL_character_15 : decode cL_character 15 = .ok (.iconst 0, 1) := by decide +kernel
theorem dL_character_16 : decode cL_character 16 = .ok (.ireturn, 1) := by decide +kernel
theorem ab_k16_0 (K : ab_Kt) : ∀ q ∈ ab_l16_0, ab_OK K ab_mt ab_g16 q.1 q.2 := by
  unfold ab_l16_0
  exact List.forall_mem_cons.mpr ⟨ab_aload_n_ok dL_character_0 rfl, List.forall_mem_cons.mpr ⟨ab_iconst_ok dL_character_1 (by decide), List.forall_mem_cons.mpr ⟨ab_aload_n_ok dL_character_2 rfl, List.forall_mem_cons.mpr ⟨ab_iload_n_ok dL_character_3 rfl, List.forall_mem_cons.mpr ⟨ab_callV_ok' (G' := ab_g106) (C := RX6) (T := TX6) (N := 9) dL_character_4 ab_m106 rfl rfl (by decide) (by decide) (ab_l4 ab_w423 ab_w424 ab_w425 ab_w2) ab_w426 rfl ⟨by decide, by decide, by decide +kernel⟩, List.forall_mem_cons.mpr ⟨ab_i2l_ok dL_character_7, List.forall_mem_cons.mpr ⟨ab_last_ok dL_character_8, List.forall_mem_cons.mpr ⟨ab_goto_ok dL_character_9 (by decide), List.forall_mem_cons.mpr ⟨ab_astore_n_ok dL_character_12 rfl, List.forall_mem_cons.mpr ⟨ab_iconst_ok dL_character_13 (by decide), List.forall_mem_cons.mpr ⟨ab_iret_ok dL_character_14 rfl, List.forall_mem_cons.mpr ⟨ab_iconst_ok dL_character_15 (by decide), List.forall_mem_cons.mpr ⟨ab_iret_ok dL_character_16 rfl, fun _ h => absurd h List.not_mem_nil⟩⟩⟩⟩⟩⟩⟩⟩⟩⟩⟩⟩⟩
theorem ab_k16 (K : ab_Kt) : ∀ pc, ab_OK K ab_mt ab_g16 pc (ab_c16 pc) := ab_lk2_ok _ (List.forall_mem_cons.mpr ⟨ab_k16_0 K, fun _ h => absurd h List.not_mem_nil⟩)
theorem dX7_character_0 : decode cX7_character 0 = .ok (.aload_n 0, 1) := by decide +kernel
theorem dX7_character_1 : decode cX7_character 1 = .ok (.iload_n 1, 1) := by decide +kernel
theorem dX7_character_2 : decode cX7_character 2 = .ok (.iconst 0, 1) := by decide +kernel
theorem dX7_character_3 : decode cX7_character 3 = .ok (.aload_n 0, 1) := by decide +kernel
theorem dX7_character_4 : decode cX7_character 4 = .ok (.getfield 233, 3) := by decide +kernel
theorem dX7_character_7 : decode cX7_character 7 = .ok (.iconst 1, 1) := by decide +kernel
theorem dX7_character_8 : decode cX7_character 8 = .ok (.isub, 1) := by decide +kernel
theorem dX7_character_9 : decode cX7_character 9 = .ok (.invokestatic 59, 3) := by decide +kernel
theorem dX7_character_12 : decode cX7_character 12 = .ok (.ifCond .eq 7, 3) := by decide +kernel
theorem dX7_character_15 : decode cX7_character 15 = .ok (.iconst 0, 1) := by decide +kernel
theorem dX7_character_16 : decode cX7_character 16 = .ok (.goto 4, 3) := by decide +kernel
theorem dX7_character_19 : decode cX7_character 19 = .ok (.iconst 1, 1) := by decide +kernel
theorem dX7_character_20 : decode cX7_character 20 = .ok (.invokevirtual 162, 3) := by decide +kernel
theorem dX7_character_23 : decode cX7_character 23 = .ok (.ifCond .eq 8, 3) := by decide +kernel
theorem dX7_character_26 : decode cX7_character 26 = .ok (.bipush 32, 2) := by decide +kernel
theorem dX7_character_28 : decode cX7_character 28 = .ok (.goto 9, 3) := by decide +kernel
theorem dX7_character_31 : decode cX7_character 31 = .ok (.aload_n 0, 1) := by decide +kernel
theorem dX7_character_32 : decode cX7_character 32 = .ok (.getfield 29, 3) := by decide +kernel
theorem dX7_character_35 : decode cX7_character 35 = .ok (.iload_n 1, 1) := by decide +kernel
theorem dX7_character_36 : decode cX7_character 36 = .ok (.caload, 1) := by decide +kernel
theorem dX7_character_37 : decode cX7_character 37 = .ok (.ireturn, 1) := by decide +kernel
theorem ab_k17_0 (K : ab_Kt) : ∀ q ∈ ab_l17_0, ab_OK K ab_mt ab_g17 q.1 q.2 := by
  unfold ab_l17_0
  exact List.forall_mem_cons.mpr ⟨ab_aload_n_ok dX7_character_0 rfl, List.forall_mem_cons.mpr ⟨ab_iload_n_ok dX7_character_1 rfl, List.forall_mem_cons.mpr ⟨ab_iconst_ok dX7_character_2 (by decide), List.forall_mem_cons.mpr ⟨ab_aload_n_ok dX7_character_3 rfl, List.forall_mem_cons.mpr ⟨ab_getf_ok (C := RX7) (T := TX7) (N := 19) (ci := 11) (k := 15) dX7_character_4 rfl ab_ic11 (by decide) ab_w427, List.forall_mem_cons.mpr ⟨ab_iconst_ok dX7_character_7 (by decide), List.forall_mem_cons.mpr ⟨ab_isub_ok dX7_character_8, List.forall_mem_cons.mpr ⟨ab_callS_ok' (G' := ab_g97) dX7_character_9 ab_m97 (by decide) (by decide) (ab_l3 ab_w387 ab_w388 ab_w8) ab_w389 rfl ⟨by decide, by decide, by decide +kernel⟩, List.forall_mem_cons.mpr ⟨ab_if_eq_ok dX7_character_12 (by decide), List.forall_mem_cons.mpr ⟨ab_iconst_ok dX7_character_15 (by decide), List.forall_mem_cons.mpr ⟨ab_goto_ok dX7_character_16 (by decide), List.forall_mem_cons.mpr ⟨ab_iconst_ok dX7_character_19 (by decide), List.forall_mem_cons.mpr ⟨ab_callV_ok' (G' := ab_g92) (C := RX7) (T := TX7) (N := 19) dX7_character_20 ab_m92 rfl rfl (by decide) (by decide) (ab_l4 ab_w364 ab_w365 ab_w366 ab_w8) ab_w367 rfl ⟨by decide, by decide, by decide +kernel⟩, List.forall_mem_cons.mpr ⟨ab_if_eq_ok dX7_character_23 (by decide), List.forall_mem_cons.mpr ⟨ab_bipush_ok dX7_character_26 (by decide), List.forall_mem_cons.mpr ⟨ab_goto_ok dX7_character_28 (by decide), List.forall_mem_cons.mpr ⟨ab_aload_n_ok dX7_character_31 rfl, List.forall_mem_cons.mpr ⟨ab_getf_ok (C := RX7) (T := TX7) (N := 19) (ci := 11) (k := 14) dX7_character_32 rfl ab_ic11 (by decide) ab_w357, List.forall_mem_cons.mpr ⟨ab_iload_n_ok dX7_character_35 rfl, List.forall_mem_cons.mpr ⟨ab_ald3_ok dX7_character_36, List.forall_mem_cons.mpr ⟨ab_cret_ok dX7_character_37 rfl, fun _ h => absurd h List.not_mem_nil⟩⟩⟩⟩⟩⟩⟩⟩⟩⟩⟩⟩⟩⟩⟩⟩⟩⟩⟩⟩⟩
theorem ab_k17 (K : ab_Kt) : ∀ pc, ab_OK K ab_mt ab_g17 pc (ab_c17 pc) := ab_lk2_ok _ (List.forall_mem_cons.mpr ⟨ab_k17_0 K, fun _ h => absurd h List.not_mem_nil⟩)
theorem dL_line_0 : decode cL_line 0 = .ok (.aload_n 2, 1) := by decide +kernel
theorem dL_line_1 : decode cL_line 1 = .ok (.iconst 0, 1) := by decide +kernel
theorem dL_line_2 : decode cL_line 2 = .ok (.aload_n 0, 1) := by decide +kernel
theorem dL_line_3 : decode cL_line 3 = .ok (.iload_n 1, 1) := by decide +kernel
theorem dL_line_4 : decode cL_line 4 = .ok (.invokevirtual 122, 3) := by decide +kernel
theorem dL_line_7 : decode cL_line 7 = .ok (.i2l, 1) := by decide +kernel
theorem dL_line_8 : decode cL_line 8 = .ok (.lastore, 1) := by decide +kernel
theorem dL_line_9 : decode cL_line 9 = .ok (.goto 6, 3) := by decide +kernel
theorem dL_line_12 : decode cL_line 12 = .ok (.astore_n 3, 1) := by decide +kernel
theorem dL_line_13 : decode cL_line 13 = .ok (.iconst 1, 1) := by decide +kernel
theorem dL_line_14 : decode cL_line 14 = .ok (.ireturn, 1) := by decide +kernel
theorem dL_line_15 : decode cL_line 15 = .ok (.iconst 0, 1) := by decide +kernel
theorem dL_line_16 : decode cL_line 16 = .ok (.ireturn, 1) := by decide +kernel
theorem ab_k18_0 (K : ab_Kt) : ∀ q ∈ ab_l18_0, ab_OK K ab_mt ab_g18 q.1 q.2 := by
  unfold ab_l18_0
  exact List.forall_mem_cons.mpr ⟨ab_aload_n_ok dL_line_0 rfl, List.forall_mem_cons.mpr ⟨ab_iconst_ok dL_line_1 (by decide), List.forall_mem_cons.mpr ⟨ab_aload_n_ok dL_line_2 rfl, List.forall_mem_cons.mpr ⟨ab_iload_n_ok dL_line_3 rfl, List.forall_mem_cons.mpr ⟨ab_callV_ok' (G' := ab_g107) (C := RX6) (T := TX6) (N := 9) dL_line_4 ab_m107 rfl rfl (by decide) (by decide) (ab_l4 ab_w428 ab_w429 ab_w430 ab_w2) ab_w431 rfl ⟨by decide, by decide, by decide +kernel⟩, List.forall_mem_cons.mpr ⟨ab_i2l_ok dL_line_7, List.forall_mem_cons.mpr ⟨ab_last_ok dL_line_8, List.forall_mem_cons.mpr ⟨ab_goto_ok dL_line_9 (by decide), List.forall_mem_cons.mpr ⟨ab_astore_n_ok dL_line_12 rfl, List.forall_mem_cons.mpr ⟨ab_iconst_ok dL_line_13 (by decide), List.forall_mem_cons.mpr ⟨ab_iret_ok dL_line_14 rfl, List.forall_mem_cons.mpr ⟨ab_iconst_ok dL_line_15 (by decide), List.forall_mem_cons.mpr ⟨ab_iret_ok dL_line_16 rfl, fun _ h => absurd h List.not_mem_nil⟩⟩⟩⟩⟩⟩⟩⟩⟩⟩⟩⟩⟩
theorem ab_k18 (K : ab_Kt) : ∀ pc, ab_OK K ab_mt ab_g18 pc (ab_c18 pc) := ab_lk2_ok _ (List.forall_mem_cons.mpr ⟨ab_k18_0 K, fun _ h => absurd h List.not_mem_nil⟩)
theorem dX7_line_0 : decode cX7_line 0 = .ok (.aload_n 0, 1) := by decide +kernel
theorem dX7_line_1 : decode cX7_line 1 = .ok (.aload_n 0, 1) := by decide +kernel
theorem dX7_line_2 : decode cX7_line 2 = .ok (.iload_n 1, 1) := by decide +kernel
theorem dX7_line_3 : decode cX7_line 3 = .ok (.invokevirtual 94, 3) := by decide +kernel
theorem dX7_line_6 : decode cX7_line 6 = .ok (.ifCond .eq 7, 3) := by decide +kernel
theorem dX7_line_9 : decode cX7_line 9 = .ok (.iconst 0, 1) := by decide +kernel
theorem dX7_line_10 : decode cX7_line 10 = .ok (.goto 4, 3) := by decide +kernel
theorem dX7_line_13 : decode cX7_line 13 = .ok (.iconst 1, 1) := by decide +kernel
theorem dX7_line_14 : decode cX7_line 14 = .ok (.invokevirtual 162, 3) := by decide +kernel
theorem dX7_line_17 : decode cX7_line 17 = .ok (.ifCond .eq 5, 3) := by decide +kernel
theorem dX7_line_20 : decode cX7_line 20 = .ok (.iconst 0, 1) := by decide +kernel
theorem dX7_line_21 : decode cX7_line 21 = .ok (.ireturn, 1) := by decide +kernel
theorem dX7_line_22 : decode cX7_line 22 = .ok (.aload_n 0, 1) := by decide +kernel
theorem dX7_line_23 : decode cX7_line 23 = .ok (.iconst 0, 1) := by decide +kernel
theorem dX7_line_24 : decode cX7_line 24 = .ok (.putfield 233, 3) := by decide +kernel
theorem dX7_line_27 : decode cX7_line 27 = .ok (.aload_n 0, 1) := by decide +kernel
theorem dX7_line_28 : decode cX7_line 28 = .ok (.iload_n 1, 1) := by decide +kernel
theorem dX7_line_29 : decode cX7_line 29 = .ok (.invokevirtual 240, 3) := by decide +kernel
theorem dX7_line_32 : decode cX7_line 32 = .ok (.aload_n 0, 1) := by decide +kernel
theorem dX7_line_33 : decode cX7_line 33 = .ok (.bipush 58, 2) := by decide +kernel
theorem dX7_line_35 : decode cX7_line 35 = .ok (.invokevirtual 236, 3) := by decide +kernel
theorem dX7_line_38 : decode cX7_line 38 = .ok (.iconst 0, 1) := by decide +kernel
theorem dX7_line_39 : decode cX7_line 39 = .ok (.istore_n 2, 1) := by decide +kernel
theorem dX7_line_40 : decode cX7_line 40 = .ok (.iload_n 2, 1) := by decide +kernel
theorem dX7_line_41 : decode cX7_line 41 = .ok (.aload_n 0, 1) := by decide +kernel
theorem dX7_line_42 : decode cX7_line 42 = .ok (.iload_n 1, 1) := by decide +kernel
theorem dX7_line_43 : decode cX7_line 43 = .ok (.iconst 3, 1) := by decide +kernel
theorem dX7_line_44 : decode cX7_line 44 = .ok (.invokevirtual 63, 3) := by decide +kernel
theorem dX7_line_47 : decode cX7_line 47 = .ok (.if_icmp .ge 85, 3) := by decide +kernel
theorem dX7_line_50 : decode cX7_line 50 = .ok (.aload_n 0, 1) := by decide +kernel
theorem dX7_line_51 : decode cX7_line 51 = .ok (.bipush 32, 2) := by decide +kernel
theorem dX7_line_53 : decode cX7_line 53 = .ok (.invokevirtual 236, 3) := by decide +kernel
theorem dX7_line_56 : decode cX7_line 56 = .ok (.aload_n 0, 1) := by decide +kernel
theorem dX7_line_57 : decode cX7_line 57 = .ok (.aload_n 0, 1) := by decide +kernel
theorem dX7_line_58 : decode cX7_line 58 = .ok (.iload_n 1, 1) := by decide +kernel
theorem dX7_line_59 : decode cX7_line 59 = .ok (.iload_n 2, 1) := by decide +kernel
theorem dX7_line_60 : decode cX7_line 60 = .ok (.iconst 0, 1) := by decide +kernel
theorem dX7_line_61 : decode cX7_line 61 = .ok (.invokevirtual 67, 3) := by decide +kernel
theorem dX7_line_64 : decode cX7_line 64 = .ok (.invokevirtual 240, 3) := by decide +kernel
theorem dX7_line_67 : decode cX7_line 67 = .ok (.aload_n 0, 1) := by decide +kernel
theorem ab_k19_0 (K : ab_Kt) : ∀ q ∈ ab_l19_0, ab_OK K ab_mt ab_g19 q.1 q.2 := by
  unfold ab_l19_0
  exact List.forall_mem_cons.mpr ⟨ab_aload_n_ok dX7_line_0 rfl, List.forall_mem_cons.mpr ⟨ab_aload_n_ok dX7_line_1 rfl, List.forall_mem_cons.mpr ⟨ab_iload_n_ok dX7_line_2 rfl, List.forall_mem_cons.mpr ⟨ab_callV_ok' (G' := ab_g103) (C := RX7) (T := TX7) (N := 19) dX7_line_3 ab_m103 rfl rfl (by decide) (by decide) (ab_l4 ab_w411 ab_w412 ab_w413 ab_w8) ab_w414 rfl ⟨by decide, by decide, by decide +kernel⟩, List.forall_mem_cons.mpr ⟨ab_if_eq_ok dX7_line_6 (by decide), List.forall_mem_cons.mpr ⟨ab_iconst_ok dX7_line_9 (by decide), List.forall_mem_cons.mpr ⟨ab_goto_ok dX7_line_10 (by decide), List.forall_mem_cons.mpr ⟨ab_iconst_ok dX7_line_13 (by decide), List.forall_mem_cons.mpr ⟨ab_callV_ok' (G' := ab_g92) (C := RX7) (T := TX7) (N := 19) dX7_line_14 ab_m92 rfl rfl (by decide) (by decide) (ab_l4 ab_w364 ab_w365 ab_w366 ab_w8) ab_w367 rfl ⟨by decide, by decide, by decide +kernel⟩, List.forall_mem_cons.mpr ⟨ab_if_eq_ok dX7_line_17 (by decide), List.forall_mem_cons.mpr ⟨ab_iconst_ok dX7_line_20 (by decide), List.forall_mem_cons.mpr ⟨ab_iret_ok dX7_line_21 rfl, List.forall_mem_cons.mpr ⟨ab_aload_n_ok dX7_line_22 rfl, List.forall_mem_cons.mpr ⟨ab_iconst_ok dX7_line_23 (by decide), List.forall_mem_cons.mpr ⟨ab_putf_ok (C := RX7) (T := TX7) (N := 19) (ci := 11) (k := 15) (ty0 := tyX7) dX7_line_24 rfl ab_ic11 tyX7_ok nmX7 (by decide) ab_w427 rfl (Or.inl rfl), List.forall_mem_cons.mpr ⟨ab_aload_n_ok dX7_line_27 rfl, List.forall_mem_cons.mpr ⟨ab_iload_n_ok dX7_line_28 rfl, List.forall_mem_cons.mpr ⟨ab_callV_ok' (G' := ab_g108) (C := RX7) (T := TX7) (N := 19) dX7_line_29 ab_m108 rfl rfl (by decide) (by decide) (ab_l4 ab_w432 ab_w433 ab_w434 ab_w8) ab_w435 rfl ⟨by decide, by decide, by decide +kernel⟩, List.forall_mem_cons.mpr ⟨ab_aload_n_ok dX7_line_32 rfl, List.forall_mem_cons.mpr ⟨ab_bipush_ok dX7_line_33 (by decide), List.forall_mem_cons.mpr ⟨ab_callV_ok' (G' := ab_g109) (C := RX7) (T := TX7) (N := 19) dX7_line_35 ab_m109 rfl rfl (by decide) (by decide) (ab_l4 ab_w436 ab_w437 ab_w438 ab_w8) ab_w439 rfl ⟨by decide, by decide, by decide +kernel⟩, List.forall_mem_cons.mpr ⟨ab_iconst_ok dX7_line_38 (by decide), List.forall_mem_cons.mpr ⟨ab_istore_n_ok dX7_line_39 rfl, List.forall_mem_cons.mpr ⟨ab_iload_n_ok dX7_line_40 rfl, List.forall_mem_cons.mpr ⟨ab_aload_n_ok dX7_line_41 rfl, List.forall_mem_cons.mpr ⟨ab_iload_n_ok dX7_line_42 rfl, List.forall_mem_cons.mpr ⟨ab_iconst_ok dX7_line_43 (by decide), List.forall_mem_cons.mpr ⟨ab_callV_ok' (G' := ab_g110) (C := RX7) (T := TX7) (N := 19) dX7_line_44 ab_m110 rfl rfl (by decide) (by decide) (ab_l4 ab_w440 ab_w441 ab_w442 ab_w8) ab_w443 rfl ⟨by decide, by decide, by decide +kernel⟩, List.forall_mem_cons.mpr ⟨ab_icmp_ge_ok dX7_line_47 (by decide), List.forall_mem_cons.mpr ⟨ab_aload_n_ok dX7_line_50 rfl, List.forall_mem_cons.mpr ⟨ab_bipush_ok dX7_line_51 (by decide), List.forall_mem_cons.mpr ⟨ab_callV_ok' (G' := ab_g109) (C := RX7) (T := TX7) (N := 19) dX7_line_53 ab_m109 rfl rfl (by decide) (by decide) (ab_l4 ab_w436 ab_w437 ab_w438 ab_w8) ab_w439 rfl ⟨by decide, by decide, by decide +kernel⟩, List.forall_mem_cons.mpr ⟨ab_aload_n_ok dX7_line_56 rfl, List.forall_mem_cons.mpr ⟨ab_aload_n_ok dX7_line_57 rfl, List.forall_mem_cons.mpr ⟨ab_iload_n_ok dX7_line_58 rfl, List.forall_mem_cons.mpr ⟨ab_iload_n_ok dX7_line_59 rfl, List.forall_mem_cons.mpr ⟨ab_iconst_ok dX7_line_60 (by decide), List.forall_mem_cons.mpr ⟨ab_callV_ok' (G' := ab_g111) (C := RX7) (T := TX7) (N := 19) dX7_line_61 ab_m111 rfl rfl (by decide) (by decide) (ab_l4 ab_w444 ab_w445 ab_w446 ab_w8) ab_w447 rfl ⟨by decide, by decide, by decide +kernel⟩, List.forall_mem_cons.mpr ⟨ab_callV_ok' (G' := ab_g108) (C := RX7) (T := TX7) (N := 19) dX7_line_64 ab_m108 rfl rfl (by decide) (by decide) (ab_l4 ab_w432 ab_w433 ab_w434 ab_w8) ab_w435 rfl ⟨by decide, by decide, by decide +kernel⟩, List.forall_mem_cons.mpr ⟨ab_aload_n_ok dX7_line_67 rfl, fun _ h => absurd h List.not_mem_nil⟩⟩⟩⟩⟩⟩⟩⟩⟩⟩⟩⟩⟩⟩⟩⟩⟩⟩⟩⟩⟩⟩⟩⟩⟩⟩⟩⟩⟩⟩⟩⟩⟩⟩⟩⟩⟩⟩⟩⟩
theorem dX7_line_68 : decode cX7_line 68 = .ok (.bipush 45, 2) := by decide +kernel
theorem dX7_line_70 : decode cX7_line 70 = .ok (.invokevirtual 236, 3) := by decide +kernel
theorem dX7_line_73 : decode cX7_line 73 = .ok (.aload_n 0, 1) := by decide +kernel
theorem dX7_line_74 : decode cX7_line 74 = .ok (.aload_n 0, 1) := by decide +kernel
theorem dX7_line_75 : decode cX7_line 75 = .ok (.iload_n 1, 1) := by decide +kernel
theorem dX7_line_76 : decode cX7_line 76 = .ok (.iload_n 2, 1) := by decide +kernel
theorem dX7_line_77 : decode cX7_line 77 = .ok (.iconst 0, 1) := by decide +kernel
theorem dX7_line_78 : decode cX7_line 78 = .ok (.invokevirtual 67, 3) := by decide +kernel
theorem dX7_line_81 : decode cX7_line 81 = .ok (.aload_n 0, 1) := by decide +kernel
theorem dX7_line_82 : decode cX7_line 82 = .ok (.iload_n 1, 1) := by decide +kernel
theorem dX7_line_83 : decode cX7_line 83 = .ok (.iload_n 2, 1) := by decide +kernel
theorem dX7_line_84 : decode cX7_line 84 = .ok (.invokevirtual 71, 3) := by decide +kernel
theorem dX7_line_87 : decode cX7_line 87 = .ok (.iadd, 1) := by decide +kernel
theorem dX7_line_88 : decode cX7_line 88 = .ok (.iconst 1, 1) := by decide +kernel
theorem dX7_line_89 : decode cX7_line 89 = .ok (.isub, 1) := by decide +kernel
theorem dX7_line_90 : decode cX7_line 90 = .ok (.invokevirtual 240, 3) := by decide +kernel
theorem dX7_line_93 : decode cX7_line 93 = .ok (.aload_n 0, 1) := by decide +kernel
theorem dX7_line_94 : decode cX7_line 94 = .ok (.iload_n 1, 1) := by decide +kernel
theorem dX7_line_95 : decode cX7_line 95 = .ok (.iload_n 2, 1) := by decide +kernel
theorem dX7_line_96 : decode cX7_line 96 = .ok (.iconst 2, 1) := by decide +kernel
theorem dX7_line_97 : decode cX7_line 97 = .ok (.invokevirtual 67, 3) := by decide +kernel
theorem dX7_line_100 : decode cX7_line 100 = .ok (.iconst 1, 1) := by decide +kernel
theorem dX7_line_101 : decode cX7_line 101 = .ok (.if_icmp .ne 9, 3) := by decide +kernel
theorem dX7_line_104 : decode cX7_line 104 = .ok (.aload_n 0, 1) := by decide +kernel
theorem dX7_line_105 : decode cX7_line 105 = .ok (.bipush 33, 2) := by decide +kernel
theorem dX7_line_107 : decode cX7_line 107 = .ok (.invokevirtual 236, 3) := by decide +kernel
theorem dX7_line_110 : decode cX7_line 110 = .ok (.iload_n 2, 1) := by decide +kernel
theorem dX7_line_111 : decode cX7_line 111 = .ok (.aload_n 0, 1) := by decide +kernel
theorem dX7_line_112 : decode cX7_line 112 = .ok (.iload_n 1, 1) := by decide +kernel
theorem dX7_line_113 : decode cX7_line 113 = .ok (.iconst 4, 1) := by decide +kernel
theorem dX7_line_114 : decode cX7_line 114 = .ok (.invokevirtual 63, 3) := by decide +kernel
theorem dX7_line_117 : decode cX7_line 117 = .ok (.if_icmp .ge 9, 3) := by decide +kernel
theorem dX7_line_120 : decode cX7_line 120 = .ok (.aload_n 0, 1) := by decide +kernel
theorem dX7_line_121 : decode cX7_line 121 = .ok (.bipush 115, 2) := by decide +kernel
theorem dX7_line_123 : decode cX7_line 123 = .ok (.invokevirtual 236, 3) := by decide +kernel
theorem dX7_line_126 : decode cX7_line 126 = .ok (.iinc 2 1, 3) := by decide +kernel
theorem dX7_line_129 : decode cX7_line 129 = .ok (.goto (-89), 3) := by decide +kernel
theorem dX7_line_132 : decode cX7_line 132 = .ok (.aload_n 0, 1) := by decide +kernel
theorem dX7_line_133 : decode cX7_line 133 = .ok (.getfield 233, 3) := by decide +kernel
theorem dX7_line_136 : decode cX7_line 136 = .ok (.ireturn, 1) := by decide +kernel
theorem ab_k19_1 (K : ab_Kt) : ∀ q ∈ ab_l19_1, ab_OK K ab_mt ab_g19 q.1 q.2 := by
  unfold ab_l19_1
  exact List.forall_mem_cons.mpr ⟨ab_bipush_ok dX7_line_68 (by decide), List.forall_mem_cons.mpr ⟨ab_callV_ok' (G' := ab_g109) (C := RX7) (T := TX7) (N := 19) dX7_line_70 ab_m109 rfl rfl (by decide) (by decide) (ab_l4 ab_w436 ab_w437 ab_w438 ab_w8) ab_w439 rfl ⟨by decide, by decide, by decide +kernel⟩, List.forall_mem_cons.mpr ⟨ab_aload_n_ok dX7_line_73 rfl, List.forall_mem_cons.mpr ⟨ab_aload_n_ok dX7_line_74 rfl, List.forall_mem_cons.mpr ⟨ab_iload_n_ok dX7_line_75 rfl, List.forall_mem_cons.mpr ⟨ab_iload_n_ok dX7_line_76 rfl, List.forall_mem_cons.mpr ⟨ab_iconst_ok dX7_line_77 (by decide), List.forall_mem_cons.mpr ⟨ab_callV_ok' (G' := ab_g111) (C := RX7) (T := TX7) (N := 19) dX7_line_78 ab_m111 rfl rfl (by decide) (by decide) (ab_l4 ab_w444 ab_w445 ab_w446 ab_w8) ab_w447 rfl ⟨by decide, by decide, by decide +kernel⟩, List.forall_mem_cons.mpr ⟨ab_aload_n_ok dX7_line_81 rfl, List.forall_mem_cons.mpr ⟨ab_iload_n_ok dX7_line_82 rfl, List.forall_mem_cons.mpr ⟨ab_iload_n_ok dX7_line_83 rfl, List.forall_mem_cons.mpr ⟨ab_callV_ok' (G' := ab_g112) (C := RX7) (T := TX7) (N := 19) dX7_line_84 ab_m112 rfl rfl (by decide) (by decide) (ab_l4 ab_w448 ab_w449 ab_w450 ab_w8) ab_w451 rfl ⟨by decide, by decide, by decide +kernel⟩, List.forall_mem_cons.mpr ⟨ab_iadd_ok dX7_line_87, List.forall_mem_cons.mpr ⟨ab_iconst_ok dX7_line_88 (by decide), List.forall_mem_cons.mpr ⟨ab_isub_ok dX7_line_89, List.forall_mem_cons.mpr ⟨ab_callV_ok' (G' := ab_g108) (C := RX7) (T := TX7) (N := 19) dX7_line_90 ab_m108 rfl rfl (by decide) (by decide) (ab_l4 ab_w432 ab_w433 ab_w434 ab_w8) ab_w435 rfl ⟨by decide, by decide, by decide +kernel⟩, List.forall_mem_cons.mpr ⟨ab_aload_n_ok dX7_line_93 rfl, List.forall_mem_cons.mpr ⟨ab_iload_n_ok dX7_line_94 rfl, List.forall_mem_cons.mpr ⟨ab_iload_n_ok dX7_line_95 rfl, List.forall_mem_cons.mpr ⟨ab_iconst_ok dX7_line_96 (by decide), List.forall_mem_cons.mpr ⟨ab_callV_ok' (G' := ab_g111) (C := RX7) (T := TX7) (N := 19) dX7_line_97 ab_m111 rfl rfl (by decide) (by decide) (ab_l4 ab_w444 ab_w445 ab_w446 ab_w8) ab_w447 rfl ⟨by decide, by decide, by decide +kernel⟩, List.forall_mem_cons.mpr ⟨ab_iconst_ok dX7_line_100 (by decide), List.forall_mem_cons.mpr ⟨ab_icmp_ne_ok dX7_line_101 (by decide), List.forall_mem_cons.mpr ⟨ab_aload_n_ok dX7_line_104 rfl, List.forall_mem_cons.mpr ⟨ab_bipush_ok dX7_line_105 (by decide), List.forall_mem_cons.mpr ⟨ab_callV_ok' (G' := ab_g109) (C := RX7) (T := TX7) (N := 19) dX7_line_107 ab_m109 rfl rfl (by decide) (by decide) (ab_l4 ab_w436 ab_w437 ab_w438 ab_w8) ab_w439 rfl ⟨by decide, by decide, by decide +kernel⟩, List.forall_mem_cons.mpr ⟨ab_iload_n_ok dX7_line_110 rfl, List.forall_mem_cons.mpr ⟨ab_aload_n_ok dX7_line_111 rfl, List.forall_mem_cons.mpr ⟨ab_iload_n_ok dX7_line_112 rfl, List.forall_mem_cons.mpr ⟨ab_iconst_ok dX7_line_113 (by decide), List.forall_mem_cons.mpr ⟨ab_callV_ok' (G' := ab_g110) (C := RX7) (T := TX7) (N := 19) dX7_line_114 ab_m110 rfl rfl (by decide) (by decide) (ab_l4 ab_w440 ab_w441 ab_w442 ab_w8) ab_w443 rfl ⟨by decide, by decide, by decide +kernel⟩, List.forall_mem_cons.mpr ⟨ab_icmp_ge_ok dX7_line_117 (by decide), List.forall_mem_cons.mpr ⟨ab_aload_n_ok dX7_line_120 rfl, List.forall_mem_cons.mpr ⟨ab_bipush_ok dX7_line_121 (by decide), List.forall_mem_cons.mpr ⟨ab_callV_ok' (G' := ab_g109) (C := RX7) (T := TX7) (N := 19) dX7_line_123 ab_m109 rfl rfl (by decide) (by decide) (ab_l4 ab_w436 ab_w437 ab_w438 ab_w8) ab_w439 rfl ⟨by decide, by decide, by decide +kernel⟩, List.forall_mem_cons.mpr ⟨ab_iinc_ok dX7_line_126 (by decide), List.forall_mem_cons.mpr ⟨ab_goto_ok dX7_line_129 (by decide), List.forall_mem_cons.mpr ⟨ab_aload_n_ok dX7_line_132 rfl, List.forall_mem_cons.mpr ⟨ab_getf_ok (C := RX7) (T := TX7) (N := 19) (ci := 11) (k := 15) dX7_line_133 rfl ab_ic11 (by decide) ab_w427, List.forall_mem_cons.mpr ⟨ab_iret_ok dX7_line_136 rfl, fun _ h => absurd h List.not_mem_nil⟩⟩⟩⟩⟩⟩⟩⟩⟩⟩⟩⟩⟩⟩⟩⟩⟩⟩⟩⟩⟩⟩⟩⟩⟩⟩⟩⟩⟩⟩⟩⟩⟩⟩⟩⟩⟩⟩⟩⟩
theorem ab_k19 (K : ab_Kt) : ∀ pc, ab_OK K ab_mt ab_g19 pc (ab_c19 pc) := ab_lk2_ok _ (List.forall_mem_cons.mpr ⟨ab_k19_0 K, List.forall_mem_cons.mpr ⟨ab_k19_1 K, fun _ h => absurd h List.not_mem_nil⟩⟩)
theorem dL_reason_0 : decode cL_reason 0 = .ok (.aload_n 2, 1) := by decide +kernel
theorem dL_reason_1 : decode cL_reason 1 = .ok (.iconst 0, 1) := by decide +kernel
theorem dL_reason_2 : decode cL_reason 2 = .ok (.aload_n 0, 1) := by decide +kernel
theorem dL_reason_3 : decode cL_reason 3 = .ok (.iload_n 1, 1) := by decide +kernel
theorem dL_reason_4 : decode cL_reason 4 = .ok (.invokevirtual 119, 3) := by decide +kernel
theorem dL_reason_7 : decode cL_reason 7 = .ok (.i2l, 1) := by decide +kernel
theorem dL_reason_8 : decode cL_reason 8 = .ok (.lastore, 1) := by decide +kernel
theorem dL_reason_9 : decode cL_reason 9 = .ok (.goto 9, 3) := by decide +kernel
theorem dL_reason_12 : decode cL_reason 12 = .ok (.astore_n 3, 1) := by decide +kernel
theorem dL_reason_13 : decode cL_reason 13 = .ok (.iconst 1, 1) := by decide +kernel
theorem dL_reason_14 : decode cL_reason 14 = .ok (.ireturn, 1) := by decide +kernel
theorem dL_reason_15 : decode cL_reason 15 = .ok (.astore_n 3, 1) := by decide +kernel
theorem dL_reason_16 : decode cL_reason 16 = .ok (.iconst 2, 1) := by decide +kernel
theorem dL_reason_17 : decode cL_reason 17 = .ok (.ireturn, 1) := by decide +kernel
theorem dL_reason_18 : decode cL_reason 18 = .ok (.iconst 0, 1) := by decide +kernel
theorem dL_reason_19 : decode cL_reason 19 = .ok (.ireturn, 1) := by decide +kernel
theorem ab_k20_0 (K : ab_Kt) : ∀ q ∈ ab_l20_0, ab_OK K ab_mt ab_g20 q.1 q.2 := by
  unfold ab_l20_0
  exact List.forall_mem_cons.mpr ⟨ab_aload_n_ok dL_reason_0 rfl, List.forall_mem_cons.mpr ⟨ab_iconst_ok dL_reason_1 (by decide), List.forall_mem_cons.mpr ⟨ab_aload_n_ok dL_reason_2 rfl, List.forall_mem_cons.mpr ⟨ab_iload_n_ok dL_reason_3 rfl, List.forall_mem_cons.mpr ⟨ab_callV_ok' (G' := ab_g113) (C := RX6) (T := TX6) (N := 9) dL_reason_4 ab_m113 rfl rfl (by decide) (by decide) (ab_l4 ab_w452 ab_w453 ab_w454 ab_w2) ab_w455 rfl ⟨by decide, by decide, by decide +kernel⟩, List.forall_mem_cons.mpr ⟨ab_i2l_ok dL_reason_7, List.forall_mem_cons.mpr ⟨ab_last_ok dL_reason_8, List.forall_mem_cons.mpr ⟨ab_goto_ok dL_reason_9 (by decide), List.forall_mem_cons.mpr ⟨ab_astore_n_ok dL_reason_12 rfl, List.forall_mem_cons.mpr ⟨ab_iconst_ok dL_reason_13 (by decide), List.forall_mem_cons.mpr ⟨ab_iret_ok dL_reason_14 rfl, List.forall_mem_cons.mpr ⟨ab_astore_n_ok dL_reason_15 rfl, List.forall_mem_cons.mpr ⟨ab_iconst_ok dL_reason_16 (by decide), List.forall_mem_cons.mpr ⟨ab_iret_ok dL_reason_17 rfl, List.forall_mem_cons.mpr ⟨ab_iconst_ok dL_reason_18 (by decide), List.forall_mem_cons.mpr ⟨ab_iret_ok dL_reason_19 rfl, fun _ h => absurd h List.not_mem_nil⟩⟩⟩⟩⟩⟩⟩⟩⟩⟩⟩⟩⟩⟩⟩⟩
theorem ab_k20 (K : ab_Kt) : ∀ pc, ab_OK K ab_mt ab_g20 pc (ab_c20 pc) := ab_lk2_ok _ (List.forall_mem_cons.mpr ⟨ab_k20_0 K, fun _ h => absurd h List.not_mem_nil⟩)
theorem dX7_reason_0 : decode cX7_reason 0 = .ok (.aload_n 0, 1) := by decide +kernel
theorem dX7_reason_1 : decode cX7_reason 1 = .ok (.iload_n 1, 1) := by decide +kernel
theorem dX7_reason_2 : decode cX7_reason 2 = .ok (.iconst 0, 1) := by decide +kernel
theorem dX7_reason_3 : decode cX7_reason 3 = .ok (.iconst 2, 1) := by decide +kernel
theorem dX7_reason_4 : decode cX7_reason 4 = .ok (.invokestatic 59, 3) := by decide +kernel
theorem dX7_reason_7 : decode cX7_reason 7 = .ok (.ifCond .ne 7, 3) := by decide +kernel
theorem dX7_reason_10 : decode cX7_reason 10 = .ok (.iconst 1, 1) := by decide +kernel
theorem dX7_reason_11 : decode cX7_reason 11 = .ok (.goto 15, 3) := by decide +kernel
theorem dX7_reason_14 : decode cX7_reason 14 = .ok (.aload_n 0, 1) := by decide +kernel
theorem dX7_reason_15 : decode cX7_reason 15 = .ok (.getfield 39, 3) := by decide +kernel
theorem dX7_reason_18 : decode cX7_reason 18 = .ok (.ifCond .ne 7, 3) := by decide +kernel
theorem dX7_reason_21 : decode cX7_reason 21 = .ok (.iconst 2, 1) := by decide +kernel
theorem dX7_reason_22 : decode cX7_reason 22 = .ok (.goto 4, 3) := by decide +kernel
theorem dX7_reason_25 : decode cX7_reason 25 = .ok (.iconst 0, 1) := by decide +kernel
theorem dX7_reason_26 : decode cX7_reason 26 = .ok (.invokevirtual 162, 3) := by decide +kernel
theorem dX7_reason_29 : decode cX7_reason 29 = .ok (.ifCond .eq 5, 3) := by decide +kernel
theorem dX7_reason_32 : decode cX7_reason 32 = .ok (.iconst 0, 1) := by decide +kernel
theorem dX7_reason_33 : decode cX7_reason 33 = .ok (.ireturn, 1) := by decide +kernel
theorem dX7_reason_34 : decode cX7_reason 34 = .ok (.iload_n 1, 1) := by decide +kernel
theorem dX7_reason_35 : decode cX7_reason 35 = .ok (.ifCond .ne 10, 3) := by decide +kernel
theorem dX7_reason_38 : decode cX7_reason 38 = .ok (.aload_n 0, 1) := by decide +kernel
theorem dX7_reason_39 : decode cX7_reason 39 = .ok (.getfield 39, 3) := by decide +kernel
theorem dX7_reason_42 : decode cX7_reason 42 = .ok (.goto 19, 3) := by decide +kernel
theorem dX7_reason_45 : decode cX7_reason 45 = .ok (.iload_n 1, 1) := by decide +kernel
theorem dX7_reason_46 : decode cX7_reason 46 = .ok (.iconst 1, 1) := by decide +kernel
theorem dX7_reason_47 : decode cX7_reason 47 = .ok (.if_icmp .ne 10, 3) := by decide +kernel
theorem dX7_reason_50 : decode cX7_reason 50 = .ok (.aload_n 0, 1) := by decide +kernel
theorem dX7_reason_51 : decode cX7_reason 51 = .ok (.getfield 42, 3) := by decide +kernel
theorem dX7_reason_54 : decode cX7_reason 54 = .ok (.goto 7, 3) := by decide +kernel
theorem dX7_reason_57 : decode cX7_reason 57 = .ok (.aload_n 0, 1) := by decide +kernel
theorem dX7_reason_58 : decode cX7_reason 58 = .ok (.getfield 45, 3) := by decide +kernel
theorem dX7_reason_61 : decode cX7_reason 61 = .ok (.ireturn, 1) := by decide +kernel
theorem ab_k21_0 (K : ab_Kt) : ∀ q ∈ ab_l21_0, ab_OK K ab_mt ab_g21 q.1 q.2 := by
  unfold ab_l21_0
  exact List.forall_mem_cons.mpr ⟨ab_aload_n_ok dX7_reason_0 rfl, List.forall_mem_cons.mpr ⟨ab_iload_n_ok dX7_reason_1 rfl, List.forall_mem_cons.mpr ⟨ab_iconst_ok dX7_reason_2 (by decide), List.forall_mem_cons.mpr ⟨ab_iconst_ok dX7_reason_3 (by decide), List.forall_mem_cons.mpr ⟨ab_callS_ok' (G' := ab_g97) dX7_reason_4 ab_m97 (by decide) (by decide) (ab_l3 ab_w387 ab_w388 ab_w8) ab_w389 rfl ⟨by decide, by decide, by decide +kernel⟩, List.forall_mem_cons.mpr ⟨ab_if_ne_ok dX7_reason_7 (by decide), List.forall_mem_cons.mpr ⟨ab_iconst_ok dX7_reason_10 (by decide), List.forall_mem_cons.mpr ⟨ab_goto_ok dX7_reason_11 (by decide), List.forall_mem_cons.mpr ⟨ab_aload_n_ok dX7_reason_14 rfl, List.forall_mem_cons.mpr ⟨ab_getf_ok (C := RX7) (T := TX7) (N := 19) (ci := 11) (k := 8) dX7_reason_15 rfl ab_ic11 (by decide) ab_w456, List.forall_mem_cons.mpr ⟨ab_if_ne_ok dX7_reason_18 (by decide), List.forall_mem_cons.mpr ⟨ab_iconst_ok dX7_reason_21 (by decide), List.forall_mem_cons.mpr ⟨ab_goto_ok dX7_reason_22 (by decide), List.forall_mem_cons.mpr ⟨ab_iconst_ok dX7_reason_25 (by decide), List.forall_mem_cons.mpr ⟨ab_callV_ok' (G' := ab_g92) (C := RX7) (T := TX7) (N := 19) dX7_reason_26 ab_m92 rfl rfl (by decide) (by decide) (ab_l4 ab_w364 ab_w365 ab_w366 ab_w8) ab_w367 rfl ⟨by decide, by decide, by decide +kernel⟩, List.forall_mem_cons.mpr ⟨ab_if_eq_ok dX7_reason_29 (by decide), List.forall_mem_cons.mpr ⟨ab_iconst_ok dX7_reason_32 (by decide), List.forall_mem_cons.mpr ⟨ab_iret_ok dX7_reason_33 rfl, List.forall_mem_cons.mpr ⟨ab_iload_n_ok dX7_reason_34 rfl, List.forall_mem_cons.mpr ⟨ab_if_ne_ok dX7_reason_35 (by decide), List.forall_mem_cons.mpr ⟨ab_aload_n_ok dX7_reason_38 rfl, List.forall_mem_cons.mpr ⟨ab_getf_ok (C := RX7) (T := TX7) (N := 19) (ci := 11) (k := 8) dX7_reason_39 rfl ab_ic11 (by decide) ab_w456, List.forall_mem_cons.mpr ⟨ab_goto_ok dX7_reason_42 (by decide), List.forall_mem_cons.mpr ⟨ab_iload_n_ok dX7_reason_45 rfl, List.forall_mem_cons.mpr ⟨ab_iconst_ok dX7_reason_46 (by decide), List.forall_mem_cons.mpr ⟨ab_icmp_ne_ok dX7_reason_47 (by decide), List.forall_mem_cons.mpr ⟨ab_aload_n_ok dX7_reason_50 rfl, List.forall_mem_cons.mpr ⟨ab_getf_ok (C := RX7) (T := TX7) (N := 19) (ci := 11) (k := 9) dX7_reason_51 rfl ab_ic11 (by decide) ab_w457, List.forall_mem_cons.mpr ⟨ab_goto_ok dX7_reason_54 (by decide), List.forall_mem_cons.mpr ⟨ab_aload_n_ok dX7_reason_57 rfl, List.forall_mem_cons.mpr ⟨ab_getf_ok (C := RX7) (T := TX7) (N := 19) (ci := 11) (k := 10) dX7_reason_58 rfl ab_ic11 (by decide) ab_w458, List.forall_mem_cons.mpr ⟨ab_iret_ok dX7_reason_61 rfl, fun _ h => absurd h List.not_mem_nil⟩⟩⟩⟩⟩⟩⟩⟩⟩⟩⟩⟩⟩⟩⟩⟩⟩⟩⟩⟩⟩⟩⟩⟩⟩⟩⟩⟩⟩⟩⟩⟩
theorem ab_k21 (K : ab_Kt) : ∀ pc, ab_OK K ab_mt ab_g21 pc (ab_c21 pc) := ab_lk2_ok _ (List.forall_mem_cons.mpr ⟨ab_k21_0 K, fun _ h => absurd h List.not_mem_nil⟩)
theorem dX6_faultPosition_0 : decode cX6_faultPosition 0 = .ok (.aload_n 0, 1) := by decide +kernel
theorem dX6_faultPosition_1 : decode cX6_faultPosition 1 = .ok (.getfield 41, 3) := by decide +kernel
theorem dX6_faultPosition_4 : decode cX6_faultPosition 4 = .ok (.ireturn, 1) := by decide +kernel
theorem ab_k22_0 (K : ab_Kt) : ∀ q ∈ ab_l22_0, ab_OK K ab_mt ab_g22 q.1 q.2 := by
  unfold ab_l22_0
  exact List.forall_mem_cons.mpr ⟨ab_aload_n_ok dX6_faultPosition_0 rfl, List.forall_mem_cons.mpr ⟨ab_getf_ok (C := RX6) (T := TX6) (N := 9) (ci := 10) (k := 6) dX6_faultPosition_1 rfl ab_ic10 (by decide) ab_w339, List.forall_mem_cons.mpr ⟨ab_iret_ok dX6_faultPosition_4 rfl, fun _ h => absurd h List.not_mem_nil⟩⟩⟩
theorem ab_k22 (K : ab_Kt) : ∀ pc, ab_OK K ab_mt ab_g22 pc (ab_c22 pc) := ab_lk2_ok _ (List.forall_mem_cons.mpr ⟨ab_k22_0 K, fun _ h => absurd h List.not_mem_nil⟩)
theorem dX7_faultPosition_0 : decode cX7_faultPosition 0 = .ok (.aload_n 0, 1) := by decide +kernel
theorem dX7_faultPosition_1 : decode cX7_faultPosition 1 = .ok (.iconst 0, 1) := by decide +kernel
theorem dX7_faultPosition_2 : decode cX7_faultPosition 2 = .ok (.putfield 36, 3) := by decide +kernel
theorem dX7_faultPosition_5 : decode cX7_faultPosition 5 = .ok (.aload_n 0, 1) := by decide +kernel
theorem dX7_faultPosition_6 : decode cX7_faultPosition 6 = .ok (.getfield 25, 3) := by decide +kernel
theorem dX7_faultPosition_9 : decode cX7_faultPosition 9 = .ok (.ireturn, 1) := by decide +kernel
theorem ab_k23_0 (K : ab_Kt) : ∀ q ∈ ab_l23_0, ab_OK K ab_mt ab_g23 q.1 q.2 := by
  unfold ab_l23_0
  exact List.forall_mem_cons.mpr ⟨ab_aload_n_ok dX7_faultPosition_0 rfl, List.forall_mem_cons.mpr ⟨ab_iconst_ok dX7_faultPosition_1 (by decide), List.forall_mem_cons.mpr ⟨ab_putf_ok (C := RX7) (T := TX7) (N := 19) (ci := 11) (k := 7) (ty0 := tyX7) dX7_faultPosition_2 rfl ab_ic11 tyX7_ok nmX7 (by decide) ab_w372 rfl (Or.inl rfl), List.forall_mem_cons.mpr ⟨ab_aload_n_ok dX7_faultPosition_5 rfl, List.forall_mem_cons.mpr ⟨ab_getf_ok (C := RX7) (T := TX7) (N := 19) (ci := 11) (k := 13) dX7_faultPosition_6 rfl ab_ic11 (by decide) ab_w355, List.forall_mem_cons.mpr ⟨ab_iret_ok dX7_faultPosition_9 rfl, fun _ h => absurd h List.not_mem_nil⟩⟩⟩⟩⟩⟩
theorem ab_k23 (K : ab_Kt) : ∀ pc, ab_OK K ab_mt ab_g23 pc (ab_c23 pc) := ab_lk2_ok _ (List.forall_mem_cons.mpr ⟨ab_k23_0 K, fun _ h => absurd h List.not_mem_nil⟩)
theorem dL_commands_0 : decode cL_commands 0 = .ok (.aload_n 1, 1) := by decide +kernel
theorem dL_commands_1 : decode cL_commands 1 = .ok (.iconst 0, 1) := by decide +kernel
theorem dL_commands_2 : decode cL_commands 2 = .ok (.aload_n 0, 1) := by decide +kernel
theorem dL_commands_3 : decode cL_commands 3 = .ok (.invokevirtual 115, 3) := by decide +kernel
theorem dL_commands_6 : decode cL_commands 6 = .ok (.i2l, 1) := by decide +kernel
theorem dL_commands_7 : decode cL_commands 7 = .ok (.lastore, 1) := by decide +kernel
theorem dL_commands_8 : decode cL_commands 8 = .ok (.goto 9, 3) := by decide +kernel
theorem dL_commands_11 : decode cL_commands 11 = .ok (.astore_n 2, 1) := by decide +kernel
theorem dL_commands_12 : decode cL_commands 12 = .ok (.iconst 1, 1) := by decide +kernel
theorem dL_commands_13 : decode cL_commands 13 = .ok (.ireturn, 1) := by decide +kernel
theorem dL_commands_14 : decode cL_commands 14 = .ok (.astore_n 2, 1) := by decide +kernel
theorem dL_commands_15 : decode cL_commands 15 = .ok (.iconst 2, 1) := by decide +kernel
theorem dL_commands_16 : decode cL_commands 16 = .ok (.ireturn, 1) := by decide +kernel
theorem dL_commands_17 : decode cL_commands 17 = .ok (.iconst 0, 1) := by decide +kernel
theorem dL_commands_18 : decode cL_commands 18 = .ok (.ireturn, 1) := by decide +kernel
theorem ab_k24_0 (K : ab_Kt) : ∀ q ∈ ab_l24_0, ab_OK K ab_mt ab_g24 q.1 q.2 := by
  unfold ab_l24_0
  exact List.forall_mem_cons.mpr ⟨ab_aload_n_ok dL_commands_0 rfl, List.forall_mem_cons.mpr ⟨ab_iconst_ok dL_commands_1 (by decide), List.forall_mem_cons.mpr ⟨ab_aload_n_ok dL_commands_2 rfl, List.forall_mem_cons.mpr ⟨ab_callV_ok' (G' := ab_g114) (C := RX6) (T := TX6) (N := 9) dL_commands_3 ab_m114 rfl rfl (by decide) (by decide) (ab_l4 ab_w459 ab_w460 ab_w461 ab_w2) ab_w462 rfl ⟨by decide, by decide, by decide +kernel⟩, List.forall_mem_cons.mpr ⟨ab_i2l_ok dL_commands_6, List.forall_mem_cons.mpr ⟨ab_last_ok dL_commands_7, List.forall_mem_cons.mpr ⟨ab_goto_ok dL_commands_8 (by decide), List.forall_mem_cons.mpr ⟨ab_astore_n_ok dL_commands_11 rfl, List.forall_mem_cons.mpr ⟨ab_iconst_ok dL_commands_12 (by decide), List.forall_mem_cons.mpr ⟨ab_iret_ok dL_commands_13 rfl, List.forall_mem_cons.mpr ⟨ab_astore_n_ok dL_commands_14 rfl, List.forall_mem_cons.mpr ⟨ab_iconst_ok dL_commands_15 (by decide), List.forall_mem_cons.mpr ⟨ab_iret_ok dL_commands_16 rfl, List.forall_mem_cons.mpr ⟨ab_iconst_ok dL_commands_17 (by decide), List.forall_mem_cons.mpr ⟨ab_iret_ok dL_commands_18 rfl, fun _ h => absurd h List.not_mem_nil⟩⟩⟩⟩⟩⟩⟩⟩⟩⟩⟩⟩⟩⟩⟩
theorem ab_k24 (K : ab_Kt) : ∀ pc, ab_OK K ab_mt ab_g24 pc (ab_c24 pc) := ab_lk2_ok _ (List.forall_mem_cons.mpr ⟨ab_k24_0 K, fun _ h => absurd h List.not_mem_nil⟩)
theorem dX7_commands_0 : decode cX7_commands 0 = .ok (.aload_n 0, 1) := by decide +kernel
theorem dX7_commands_1 : decode cX7_commands 1 = .ok (.invokevirtual 227, 3) := by decide +kernel
theorem dX7_commands_4 : decode cX7_commands 4 = .ok (.istore_n 1, 1) := by decide +kernel
theorem dX7_commands_5 : decode cX7_commands 5 = .ok (.aload_n 0, 1) := by decide +kernel
theorem dX7_commands_6 : decode cX7_commands 6 = .ok (.iload_n 1, 1) := by decide +kernel
theorem dX7_commands_7 : decode cX7_commands 7 = .ok (.ifCond .eq 7, 3) := by decide +kernel
theorem dX7_commands_10 : decode cX7_commands 10 = .ok (.iconst (-1), 1) := by decide +kernel
theorem dX7_commands_11 : decode cX7_commands 11 = .ok (.goto 7, 3) := by decide +kernel
theorem dX7_commands_14 : decode cX7_commands 14 = .ok (.aload_n 0, 1) := by decide +kernel
theorem dX7_commands_15 : decode cX7_commands 15 = .ok (.getfield 177, 3) := by decide +kernel
theorem dX7_commands_18 : decode cX7_commands 18 = .ok (.putfield 25, 3) := by decide +kernel
theorem dX7_commands_21 : decode cX7_commands 21 = .ok (.aload_n 0, 1) := by decide +kernel
theorem dX7_commands_22 : decode cX7_commands 22 = .ok (.iconst 0, 1) := by decide +kernel
theorem dX7_commands_23 : decode cX7_commands 23 = .ok (.putfield 174, 3) := by decide +kernel
theorem dX7_commands_26 : decode cX7_commands 26 = .ok (.aload_n 0, 1) := by decide +kernel
theorem dX7_commands_27 : decode cX7_commands 27 = .ok (.iload_n 1, 1) := by decide +kernel
theorem dX7_commands_28 : decode cX7_commands 28 = .ok (.ifCond .eq 7, 3) := by decide +kernel
theorem dX7_commands_31 : decode cX7_commands 31 = .ok (.iconst 0, 1) := by decide +kernel
theorem dX7_commands_32 : decode cX7_commands 32 = .ok (.goto 4, 3) := by decide +kernel
theorem dX7_commands_35 : decode cX7_commands 35 = .ok (.iconst 1, 1) := by decide +kernel
theorem dX7_commands_36 : decode cX7_commands 36 = .ok (.invokevirtual 162, 3) := by decide +kernel
theorem dX7_commands_39 : decode cX7_commands 39 = .ok (.ifCond .eq 5, 3) := by decide +kernel
theorem dX7_commands_42 : decode cX7_commands 42 = .ok (.iconst 0, 1) := by decide +kernel
theorem dX7_commands_43 : decode cX7_commands 43 = .ok (.ireturn, 1) := by decide +kernel
theorem dX7_commands_44 : decode cX7_commands 44 = .ok (.aload_n 0, 1) := by decide +kernel
theorem dX7_commands_45 : decode cX7_commands 45 = .ok (.getfield 7, 3) := by decide +kernel
theorem dX7_commands_48 : decode cX7_commands 48 = .ok (.iconst 0, 1) := by decide +kernel
theorem dX7_commands_49 : decode cX7_commands 49 = .ok (.aload_n 0, 1) := by decide +kernel
theorem dX7_commands_50 : decode cX7_commands 50 = .ok (.getfield 19, 3) := by decide +kernel
theorem dX7_commands_53 : decode cX7_commands 53 = .ok (.iconst 0, 1) := by decide +kernel
theorem dX7_commands_54 : decode cX7_commands 54 = .ok (.invokestatic 55, 3) := by decide +kernel
theorem dX7_commands_57 : decode cX7_commands 57 = .ok (.aload_n 0, 1) := by decide +kernel
theorem dX7_commands_58 : decode cX7_commands 58 = .ok (.iconst 1, 1) := by decide +kernel
theorem dX7_commands_59 : decode cX7_commands 59 = .ok (.putfield 48, 3) := by decide +kernel
theorem dX7_commands_62 : decode cX7_commands 62 = .ok (.iconst 0, 1) := by decide +kernel
theorem dX7_commands_63 : decode cX7_commands 63 = .ok (.istore_n 2, 1) := by decide +kernel
theorem dX7_commands_64 : decode cX7_commands 64 = .ok (.iconst 0, 1) := by decide +kernel
theorem dX7_commands_65 : decode cX7_commands 65 = .ok (.istore_n 3, 1) := by decide +kernel
theorem dX7_commands_66 : decode cX7_commands 66 = .ok (.iload_n 2, 1) := by decide +kernel
theorem dX7_commands_67 : decode cX7_commands 67 = .ok (.aload_n 0, 1) := by decide +kernel
theorem ab_k25_0 (K : ab_Kt) : ∀ q ∈ ab_l25_0, ab_OK K ab_mt ab_g25 q.1 q.2 := by
  unfold ab_l25_0
  exact List.forall_mem_cons.mpr ⟨ab_aload_n_ok dX7_commands_0 rfl, List.forall_mem_cons.mpr ⟨ab_callV_ok' (G' := ab_g115) (C := RX7) (T := TX7) (N := 19) dX7_commands_1 ab_m115 rfl rfl (by decide) (by decide) (ab_l4 ab_w463 ab_w464 ab_w465 ab_w8) ab_w466 rfl ⟨by decide, by decide, by decide +kernel⟩, List.forall_mem_cons.mpr ⟨ab_istore_n_ok dX7_commands_4 rfl, List.forall_mem_cons.mpr ⟨ab_aload_n_ok dX7_commands_5 rfl, List.forall_mem_cons.mpr ⟨ab_iload_n_ok dX7_commands_6 rfl, List.forall_mem_cons.mpr ⟨ab_if_eq_ok dX7_commands_7 (by decide), List.forall_mem_cons.mpr ⟨ab_iconst_ok dX7_commands_10 (by decide), List.forall_mem_cons.mpr ⟨ab_goto_ok dX7_commands_11 (by decide), List.forall_mem_cons.mpr ⟨ab_aload_n_ok dX7_commands_14 rfl, List.forall_mem_cons.mpr ⟨ab_getf_ok (C := RX7) (T := TX7) (N := 19) (ci := 11) (k := 16) dX7_commands_15 rfl ab_ic11 (by decide) ab_w477, List.forall_mem_cons.mpr ⟨ab_putf_ok (C := RX7) (T := TX7) (N := 19) (ci := 11) (k := 13) (ty0 := tyX7) dX7_commands_18 rfl ab_ic11 tyX7_ok nmX7 (by decide) ab_w355 rfl (Or.inl rfl), List.forall_mem_cons.mpr ⟨ab_aload_n_ok dX7_commands_21 rfl, List.forall_mem_cons.mpr ⟨ab_iconst_ok dX7_commands_22 (by decide), List.forall_mem_cons.mpr ⟨ab_putf_ok (C := RX7) (T := TX7) (N := 19) (ci := 11) (k := 12) (ty0 := tyX7) dX7_commands_23 rfl ab_ic11 tyX7_ok nmX7 (by decide) ab_w390 rfl (Or.inl rfl), List.forall_mem_cons.mpr ⟨ab_aload_n_ok dX7_commands_26 rfl, List.forall_mem_cons.mpr ⟨ab_iload_n_ok dX7_commands_27 rfl, List.forall_mem_cons.mpr ⟨ab_if_eq_ok dX7_commands_28 (by decide), List.forall_mem_cons.mpr ⟨ab_iconst_ok dX7_commands_31 (by decide), List.forall_mem_cons.mpr ⟨ab_goto_ok dX7_commands_32 (by decide), List.forall_mem_cons.mpr ⟨ab_iconst_ok dX7_commands_35 (by decide), List.forall_mem_cons.mpr ⟨ab_callV_ok' (G' := ab_g92) (C := RX7) (T := TX7) (N := 19) dX7_commands_36 ab_m92 rfl rfl (by decide) (by decide) (ab_l4 ab_w364 ab_w365 ab_w366 ab_w8) ab_w367 rfl ⟨by decide, by decide, by decide +kernel⟩, List.forall_mem_cons.mpr ⟨ab_if_eq_ok dX7_commands_39 (by decide), List.forall_mem_cons.mpr ⟨ab_iconst_ok dX7_commands_42 (by decide), List.forall_mem_cons.mpr ⟨ab_iret_ok dX7_commands_43 rfl, List.forall_mem_cons.mpr ⟨ab_aload_n_ok dX7_commands_44 rfl, List.forall_mem_cons.mpr ⟨ab_getf_ok (C := RX7) (T := TX7) (N := 19) (ci := 11) (k := 0) dX7_commands_45 rfl ab_ic11 (by decide) ab_w350, List.forall_mem_cons.mpr ⟨ab_iconst_ok dX7_commands_48 (by decide), List.forall_mem_cons.mpr ⟨ab_aload_n_ok dX7_commands_49 rfl, List.forall_mem_cons.mpr ⟨ab_getf_ok (C := RX7) (T := TX7) (N := 19) (ci := 11) (k := 3) dX7_commands_50 rfl ab_ic11 (by decide) ab_w353, List.forall_mem_cons.mpr ⟨ab_iconst_ok dX7_commands_53 (by decide), List.forall_mem_cons.mpr ⟨ab_callS_ok' (G' := ab_g93) dX7_commands_54 ab_m93 (by decide) (by decide) (ab_l3 ab_w368 ab_w369 ab_w8) ab_w370 rfl ⟨by decide, by decide, by decide +kernel⟩, List.forall_mem_cons.mpr ⟨ab_aload_n_ok dX7_commands_57 rfl, List.forall_mem_cons.mpr ⟨ab_iconst_ok dX7_commands_58 (by decide), List.forall_mem_cons.mpr ⟨ab_putf_ok (C := RX7) (T := TX7) (N := 19) (ci := 11) (k := 6) (ty0 := tyX7) dX7_commands_59 rfl ab_ic11 tyX7_ok nmX7 (by decide) ab_w467 rfl (Or.inl rfl), List.forall_mem_cons.mpr ⟨ab_iconst_ok dX7_commands_62 (by decide), List.forall_mem_cons.mpr ⟨ab_istore_n_ok dX7_commands_63 rfl, List.forall_mem_cons.mpr ⟨ab_iconst_ok dX7_commands_64 (by decide), List.forall_mem_cons.mpr ⟨ab_istore_n_ok dX7_commands_65 rfl, List.forall_mem_cons.mpr ⟨ab_iload_n_ok dX7_commands_66 rfl, List.forall_mem_cons.mpr ⟨ab_aload_n_ok dX7_commands_67 rfl, fun _ h => absurd h List.not_mem_nil⟩⟩⟩⟩⟩⟩⟩⟩⟩⟩⟩⟩⟩⟩⟩⟩⟩⟩⟩⟩⟩⟩⟩⟩⟩⟩⟩⟩⟩⟩⟩⟩⟩⟩⟩⟩⟩⟩⟩⟩
theorem dX7_commands_68 : decode cX7_commands 68 = .ok (.getfield 189, 3) := by decide +kernel
theorem dX7_commands_71 : decode cX7_commands 71 = .ok (.if_icmp .ge 24, 3) := by decide +kernel
theorem dX7_commands_74 : decode cX7_commands 74 = .ok (.aload_n 0, 1) := by decide +kernel
theorem dX7_commands_75 : decode cX7_commands 75 = .ok (.getfield 36, 3) := by decide +kernel
theorem dX7_commands_78 : decode cX7_commands 78 = .ok (.ifCond .ne 17, 3) := by decide +kernel
theorem dX7_commands_81 : decode cX7_commands 81 = .ok (.aload_n 0, 1) := by decide +kernel
theorem dX7_commands_82 : decode cX7_commands 82 = .ok (.iconst 5, 1) := by decide +kernel
theorem dX7_commands_83 : decode cX7_commands 83 = .ok (.iload_n 2, 1) := by decide +kernel
theorem dX7_commands_84 : decode cX7_commands 84 = .ok (.imul, 1) := by decide +kernel
theorem dX7_commands_85 : decode cX7_commands 85 = .ok (.invokevirtual 230, 3) := by decide +kernel
theorem dX7_commands_88 : decode cX7_commands 88 = .ok (.istore_n 3, 1) := by decide +kernel
theorem dX7_commands_89 : decode cX7_commands 89 = .ok (.iinc 2 1, 3) := by decide +kernel
theorem dX7_commands_92 : decode cX7_commands 92 = .ok (.goto (-26), 3) := by decide +kernel
theorem dX7_commands_95 : decode cX7_commands 95 = .ok (.aload_n 0, 1) := by decide +kernel
theorem dX7_commands_96 : decode cX7_commands 96 = .ok (.iconst 0, 1) := by decide +kernel
theorem dX7_commands_97 : decode cX7_commands 97 = .ok (.putfield 48, 3) := by decide +kernel
theorem dX7_commands_100 : decode cX7_commands 100 = .ok (.aload_n 0, 1) := by decide +kernel
theorem dX7_commands_101 : decode cX7_commands 101 = .ok (.getfield 36, 3) := by decide +kernel
theorem dX7_commands_104 : decode cX7_commands 104 = .ok (.ifCond .le 38, 3) := by decide +kernel
theorem dX7_commands_107 : decode cX7_commands 107 = .ok (.aload_n 0, 1) := by decide +kernel
theorem dX7_commands_108 : decode cX7_commands 108 = .ok (.getfield 19, 3) := by decide +kernel
theorem dX7_commands_111 : decode cX7_commands 111 = .ok (.iconst 0, 1) := by decide +kernel
theorem dX7_commands_112 : decode cX7_commands 112 = .ok (.aload_n 0, 1) := by decide +kernel
theorem dX7_commands_113 : decode cX7_commands 113 = .ok (.getfield 7, 3) := by decide +kernel
theorem dX7_commands_116 : decode cX7_commands 116 = .ok (.iconst 0, 1) := by decide +kernel
theorem dX7_commands_117 : decode cX7_commands 117 = .ok (.invokestatic 55, 3) := by decide +kernel
theorem dX7_commands_120 : decode cX7_commands 120 = .ok (.aload_n 0, 1) := by decide +kernel
theorem dX7_commands_121 : decode cX7_commands 121 = .ok (.iload_n 2, 1) := by decide +kernel
theorem dX7_commands_122 : decode cX7_commands 122 = .ok (.iconst 1, 1) := by decide +kernel
theorem dX7_commands_123 : decode cX7_commands 123 = .ok (.isub, 1) := by decide +kernel
theorem dX7_commands_124 : decode cX7_commands 124 = .ok (.putfield 45, 3) := by decide +kernel
theorem dX7_commands_127 : decode cX7_commands 127 = .ok (.aload_n 0, 1) := by decide +kernel
theorem dX7_commands_128 : decode cX7_commands 128 = .ok (.iconst 2, 1) := by decide +kernel
theorem dX7_commands_129 : decode cX7_commands 129 = .ok (.putfield 36, 3) := by decide +kernel
theorem dX7_commands_132 : decode cX7_commands 132 = .ok (.iload_n 3, 1) := by decide +kernel
theorem dX7_commands_133 : decode cX7_commands 133 = .ok (.ifCond .ge 7, 3) := by decide +kernel
theorem dX7_commands_136 : decode cX7_commands 136 = .ok (.iload_n 3, 1) := by decide +kernel
theorem dX7_commands_137 : decode cX7_commands 137 = .ok (.goto 4, 3) := by decide +kernel
theorem dX7_commands_140 : decode cX7_commands 140 = .ok (.iconst 0, 1) := by decide +kernel
theorem dX7_commands_141 : decode cX7_commands 141 = .ok (.ireturn, 1) := by decide +kernel
theorem ab_k25_1 (K : ab_Kt) : ∀ q ∈ ab_l25_1, ab_OK K ab_mt ab_g25 q.1 q.2 := by
  unfold ab_l25_1
  exact List.forall_mem_cons.mpr ⟨ab_getf_ok (C := RX7) (T := TX7) (N := 19) (ci := 11) (k := 18) dX7_commands_68 rfl ab_ic11 (by decide) ab_w468, List.forall_mem_cons.mpr ⟨ab_icmp_ge_ok dX7_commands_71 (by decide), List.forall_mem_cons.mpr ⟨ab_aload_n_ok dX7_commands_74 rfl, List.forall_mem_cons.mpr ⟨ab_getf_ok (C := RX7) (T := TX7) (N := 19) (ci := 11) (k := 7) dX7_commands_75 rfl ab_ic11 (by decide) ab_w372, List.forall_mem_cons.mpr ⟨ab_if_ne_ok dX7_commands_78 (by decide), List.forall_mem_cons.mpr ⟨ab_aload_n_ok dX7_commands_81 rfl, List.forall_mem_cons.mpr ⟨ab_iconst_ok dX7_commands_82 (by decide), List.forall_mem_cons.mpr ⟨ab_iload_n_ok dX7_commands_83 rfl, List.forall_mem_cons.mpr ⟨ab_imul_ok dX7_commands_84, List.forall_mem_cons.mpr ⟨ab_callV_ok' (G' := ab_g116) (C := RX7) (T := TX7) (N := 19) dX7_commands_85 ab_m116 rfl rfl (by decide) (by decide) (ab_l4 ab_w469 ab_w470 ab_w471 ab_w8) ab_w472 rfl ⟨by decide, by decide, by decide +kernel⟩, List.forall_mem_cons.mpr ⟨ab_istore_n_ok dX7_commands_88 rfl, List.forall_mem_cons.mpr ⟨ab_iinc_ok dX7_commands_89 (by decide), List.forall_mem_cons.mpr ⟨ab_goto_ok dX7_commands_92 (by decide), List.forall_mem_cons.mpr ⟨ab_aload_n_ok dX7_commands_95 rfl, List.forall_mem_cons.mpr ⟨ab_iconst_ok dX7_commands_96 (by decide), List.forall_mem_cons.mpr ⟨ab_putf_ok (C := RX7) (T := TX7) (N := 19) (ci := 11) (k := 6) (ty0 := tyX7) dX7_commands_97 rfl ab_ic11 tyX7_ok nmX7 (by decide) ab_w467 rfl (Or.inl rfl), List.forall_mem_cons.mpr ⟨ab_aload_n_ok dX7_commands_100 rfl, List.forall_mem_cons.mpr ⟨ab_getf_ok (C := RX7) (T := TX7) (N := 19) (ci := 11) (k := 7) dX7_commands_101 rfl ab_ic11 (by decide) ab_w372, List.forall_mem_cons.mpr ⟨ab_if_le_ok dX7_commands_104 (by decide), List.forall_mem_cons.mpr ⟨ab_aload_n_ok dX7_commands_107 rfl, List.forall_mem_cons.mpr ⟨ab_getf_ok (C := RX7) (T := TX7) (N := 19) (ci := 11) (k := 3) dX7_commands_108 rfl ab_ic11 (by decide) ab_w353, List.forall_mem_cons.mpr ⟨ab_iconst_ok dX7_commands_111 (by decide), List.forall_mem_cons.mpr ⟨ab_aload_n_ok dX7_commands_112 rfl, List.forall_mem_cons.mpr ⟨ab_getf_ok (C := RX7) (T := TX7) (N := 19) (ci := 11) (k := 0) dX7_commands_113 rfl ab_ic11 (by decide) ab_w350, List.forall_mem_cons.mpr ⟨ab_iconst_ok dX7_commands_116 (by decide), List.forall_mem_cons.mpr ⟨ab_callS_ok' (G' := ab_g93) dX7_commands_117 ab_m93 (by decide) (by decide) (ab_l3 ab_w368 ab_w369 ab_w8) ab_w370 rfl ⟨by decide, by decide, by decide +kernel⟩, List.forall_mem_cons.mpr ⟨ab_aload_n_ok dX7_commands_120 rfl, List.forall_mem_cons.mpr ⟨ab_iload_n_ok dX7_commands_121 rfl, List.forall_mem_cons.mpr ⟨ab_iconst_ok dX7_commands_122 (by decide), List.forall_mem_cons.mpr ⟨ab_isub_ok dX7_commands_123, List.forall_mem_cons.mpr ⟨ab_putf_ok (C := RX7) (T := TX7) (N := 19) (ci := 11) (k := 10) (ty0 := tyX7) dX7_commands_124 rfl ab_ic11 tyX7_ok nmX7 (by decide) ab_w458 rfl (Or.inl rfl), List.forall_mem_cons.mpr ⟨ab_aload_n_ok dX7_commands_127 rfl, List.forall_mem_cons.mpr ⟨ab_iconst_ok dX7_commands_128 (by decide), List.forall_mem_cons.mpr ⟨ab_putf_ok (C := RX7) (T := TX7) (N := 19) (ci := 11) (k := 7) (ty0 := tyX7) dX7_commands_129 rfl ab_ic11 tyX7_ok nmX7 (by decide) ab_w372 rfl (Or.inl rfl), List.forall_mem_cons.mpr ⟨ab_iload_n_ok dX7_commands_132 rfl, List.forall_mem_cons.mpr ⟨ab_if_ge_ok dX7_commands_133 (by decide), List.forall_mem_cons.mpr ⟨ab_iload_n_ok dX7_commands_136 rfl, List.forall_mem_cons.mpr ⟨ab_goto_ok dX7_commands_137 (by decide), List.forall_mem_cons.mpr ⟨ab_iconst_ok dX7_commands_140 (by decide), List.forall_mem_cons.mpr ⟨ab_iret_ok dX7_commands_141 rfl, fun _ h => absurd h List.not_mem_nil⟩⟩⟩⟩⟩⟩⟩⟩⟩⟩⟩⟩⟩⟩⟩⟩⟩⟩⟩⟩⟩⟩⟩⟩⟩⟩⟩⟩⟩⟩⟩⟩⟩⟩⟩⟩⟩⟩⟩⟩
theorem dX7_commands_142 : decode cX7_commands 142 = .ok (.aload_n 0, 1) := by decide +kernel
theorem dX7_commands_143 : decode cX7_commands 143 = .ok (.aload_n 0, 1) := by decide +kernel
theorem dX7_commands_144 : decode cX7_commands 144 = .ok (.getfield 19, 3) := by decide +kernel
theorem dX7_commands_147 : decode cX7_commands 147 = .ok (.invokevirtual 104, 3) := by decide +kernel
theorem dX7_commands_150 : decode cX7_commands 150 = .ok (.aload_n 0, 1) := by decide +kernel
theorem dX7_commands_151 : decode cX7_commands 151 = .ok (.getfield 189, 3) := by decide +kernel
theorem dX7_commands_154 : decode cX7_commands 154 = .ok (.ireturn, 1) := by decide +kernel
theorem ab_k25_2 (K : ab_Kt) : ∀ q ∈ ab_l25_2, ab_OK K ab_mt ab_g25 q.1 q.2 := by
  unfold ab_l25_2
  exact List.forall_mem_cons.mpr ⟨ab_aload_n_ok dX7_commands_142 rfl, List.forall_mem_cons.mpr ⟨ab_aload_n_ok dX7_commands_143 rfl, List.forall_mem_cons.mpr ⟨ab_getf_ok (C := RX7) (T := TX7) (N := 19) (ci := 11) (k := 3) dX7_commands_144 rfl ab_ic11 (by decide) ab_w353, List.forall_mem_cons.mpr ⟨ab_callV_ok' (G' := ab_g117) (C := RX7) (T := TX7) (N := 19) dX7_commands_147 ab_m117 rfl rfl (by decide) (by decide) (ab_l4 ab_w473 ab_w474 ab_w475 ab_w8) ab_w476 rfl ⟨by decide, by decide, by decide +kernel⟩, List.forall_mem_cons.mpr ⟨ab_aload_n_ok dX7_commands_150 rfl, List.forall_mem_cons.mpr ⟨ab_getf_ok (C := RX7) (T := TX7) (N := 19) (ci := 11) (k := 18) dX7_commands_151 rfl ab_ic11 (by decide) ab_w468, List.forall_mem_cons.mpr ⟨ab_iret_ok dX7_commands_154 rfl, fun _ h => absurd h List.not_mem_nil⟩⟩⟩⟩⟩⟩⟩
theorem ab_k25 (K : ab_Kt) : ∀ pc, ab_OK K ab_mt ab_g25 pc (ab_c25 pc) := ab_lk2_ok _ (List.forall_mem_cons.mpr ⟨ab_k25_0 K, List.forall_mem_cons.mpr ⟨ab_k25_1 K, List.forall_mem_cons.mpr ⟨ab_k25_2 K, fun _ h => absurd h List.not_mem_nil⟩⟩⟩)
theorem dL_append_0 : decode cL_append 0 = .ok (.aload_n 2, 1) := by decide +kernel
theorem dL_append_1 : decode cL_append 1 = .ok (.iconst 0, 1) := by decide +kernel
theorem dL_append_2 : decode cL_append 2 = .ok (.aload_n 0, 1) := by decide +kernel
theorem dL_append_3 : decode cL_append 3 = .ok (.iload_n 1, 1) := by decide +kernel
theorem dL_append_4 : decode cL_append 4 = .ok (.invokevirtual 109, 3) := by decide +kernel
theorem dL_append_7 : decode cL_append 7 = .ok (.i2l, 1) := by decide +kernel
theorem dL_append_8 : decode cL_append 8 = .ok (.lastore, 1) := by decide +kernel
theorem dL_append_9 : decode cL_append 9 = .ok (.goto 6, 3) := by decide +kernel
theorem dL_append_12 : decode cL_append 12 = .ok (.astore_n 3, 1) := by decide +kernel
theorem dL_append_13 : decode cL_append 13 = .ok (.iconst 1, 1) := by decide +kernel
theorem dL_append_14 : decode cL_append 14 = .ok (.ireturn, 1) := by decide +kernel
theorem dL_append_15 : decode cL_append 15 = .ok (.iconst 0, 1) := by decide +kernel
theorem dL_append_16 : decode cL_append 16 = .ok (.ireturn, 1) := by decide +kernel
theorem ab_k26_0 (K : ab_Kt) : ∀ q ∈ ab_l26_0, ab_OK K ab_mt ab_g26 q.1 q.2 := by
  unfold ab_l26_0
  exact List.forall_mem_cons.mpr ⟨ab_aload_n_ok dL_append_0 rfl, List.forall_mem_cons.mpr ⟨ab_iconst_ok dL_append_1 (by decide), List.forall_mem_cons.mpr ⟨ab_aload_n_ok dL_append_2 rfl, List.forall_mem_cons.mpr ⟨ab_iload_n_ok dL_append_3 rfl, List.forall_mem_cons.mpr ⟨ab_callV_ok' (G' := ab_g118) (C := RX6) (T := TX6) (N := 9) dL_append_4 ab_m118 rfl rfl (by decide) (by decide) (ab_l4 ab_w478 ab_w479 ab_w480 ab_w2) ab_w481 rfl ⟨by decide, by decide, by decide +kernel⟩, List.forall_mem_cons.mpr ⟨ab_i2l_ok dL_append_7, List.forall_mem_cons.mpr ⟨ab_last_ok dL_append_8, List.forall_mem_cons.mpr ⟨ab_goto_ok dL_append_9 (by decide), List.forall_mem_cons.mpr ⟨ab_astore_n_ok dL_append_12 rfl, List.forall_mem_cons.mpr ⟨ab_iconst_ok dL_append_13 (by decide), List.forall_mem_cons.mpr ⟨ab_iret_ok dL_append_14 rfl, List.forall_mem_cons.mpr ⟨ab_iconst_ok dL_append_15 (by decide), List.forall_mem_cons.mpr ⟨ab_iret_ok dL_append_16 rfl, fun _ h => absurd h List.not_mem_nil⟩⟩⟩⟩⟩⟩⟩⟩⟩⟩⟩⟩⟩
theorem ab_k26 (K : ab_Kt) : ∀ pc, ab_OK K ab_mt ab_g26 pc (ab_c26 pc) := ab_lk2_ok _ (List.forall_mem_cons.mpr ⟨ab_k26_0 K, fun _ h => absurd h List.not_mem_nil⟩)
theorem dX7_append_0 : decode cX7_append 0 = .ok (.aload_n 0, 1) := by decide +kernel
theorem dX7_append_1 : decode cX7_append 1 = .ok (.aload_n 0, 1) := by decide +kernel
theorem dX7_append_2 : decode cX7_append 2 = .ok (.getfield 174, 3) := by decide +kernel
theorem dX7_append_5 : decode cX7_append 5 = .ok (.bipush 60, 2) := by decide +kernel
theorem dX7_append_7 : decode cX7_append 7 = .ok (.if_icmp .ne 7, 3) := by decide +kernel
theorem dX7_append_10 : decode cX7_append 10 = .ok (.iconst 1, 1) := by decide +kernel
theorem dX7_append_11 : decode cX7_append 11 = .ok (.goto 4, 3) := by decide +kernel
theorem dX7_append_14 : decode cX7_append 14 = .ok (.iconst 0, 1) := by decide +kernel
theorem dX7_append_15 : decode cX7_append 15 = .ok (.invokevirtual 162, 3) := by decide +kernel
theorem dX7_append_18 : decode cX7_append 18 = .ok (.ifCond .eq 5, 3) := by decide +kernel
theorem dX7_append_21 : decode cX7_append 21 = .ok (.iconst 0, 1) := by decide +kernel
theorem dX7_append_22 : decode cX7_append 22 = .ok (.ireturn, 1) := by decide +kernel
theorem dX7_append_23 : decode cX7_append 23 = .ok (.aload_n 0, 1) := by decide +kernel
theorem dX7_append_24 : decode cX7_append 24 = .ok (.getfield 22, 3) := by decide +kernel
theorem dX7_append_27 : decode cX7_append 27 = .ok (.aload_n 0, 1) := by decide +kernel
theorem dX7_append_28 : decode cX7_append 28 = .ok (.getfield 174, 3) := by decide +kernel
theorem dX7_append_31 : decode cX7_append 31 = .ok (.iload_n 1, 1) := by decide +kernel
theorem dX7_append_32 : decode cX7_append 32 = .ok (.iastore, 1) := by decide +kernel
theorem dX7_append_33 : decode cX7_append 33 = .ok (.aload_n 0, 1) := by decide +kernel
theorem dX7_append_34 : decode cX7_append 34 = .ok (.dup, 1) := by decide +kernel
theorem dX7_append_35 : decode cX7_append 35 = .ok (.getfield 174, 3) := by decide +kernel
theorem dX7_append_38 : decode cX7_append 38 = .ok (.iconst 1, 1) := by decide +kernel
theorem dX7_append_39 : decode cX7_append 39 = .ok (.iadd, 1) := by decide +kernel
theorem dX7_append_40 : decode cX7_append 40 = .ok (.putfield 174, 3) := by decide +kernel
theorem dX7_append_43 : decode cX7_append 43 = .ok (.aload_n 0, 1) := by decide +kernel
theorem dX7_append_44 : decode cX7_append 44 = .ok (.getfield 174, 3) := by decide +kernel
theorem dX7_append_47 : decode cX7_append 47 = .ok (.ireturn, 1) := by decide +kernel
theorem ab_k27_0 (K : ab_Kt) : ∀ q ∈ ab_l27_0, ab_OK K ab_mt ab_g27 q.1 q.2 := by
  unfold ab_l27_0
  exact List.forall_mem_cons.mpr ⟨ab_aload_n_ok dX7_append_0 rfl, List.forall_mem_cons.mpr ⟨ab_aload_n_ok dX7_append_1 rfl, List.forall_mem_cons.mpr ⟨ab_getf_ok (C := RX7) (T := TX7) (N := 19) (ci := 11) (k := 12) dX7_append_2 rfl ab_ic11 (by decide) ab_w390, List.forall_mem_cons.mpr ⟨ab_bipush_ok dX7_append_5 (by decide), List.forall_mem_cons.mpr ⟨ab_icmp_ne_ok dX7_append_7 (by decide), List.forall_mem_cons.mpr ⟨ab_iconst_ok dX7_append_10 (by decide), List.forall_mem_cons.mpr ⟨ab_goto_ok dX7_append_11 (by decide), List.forall_mem_cons.mpr ⟨ab_iconst_ok dX7_append_14 (by decide), List.forall_mem_cons.mpr ⟨ab_callV_ok' (G' := ab_g92) (C := RX7) (T := TX7) (N := 19) dX7_append_15 ab_m92 rfl rfl (by decide) (by decide) (ab_l4 ab_w364 ab_w365 ab_w366 ab_w8) ab_w367 rfl ⟨by decide, by decide, by decide +kernel⟩, List.forall_mem_cons.mpr ⟨ab_if_eq_ok dX7_append_18 (by decide), List.forall_mem_cons.mpr ⟨ab_iconst_ok dX7_append_21 (by decide), List.forall_mem_cons.mpr ⟨ab_iret_ok dX7_append_22 rfl, List.forall_mem_cons.mpr ⟨ab_aload_n_ok dX7_append_23 rfl, List.forall_mem_cons.mpr ⟨ab_getf_ok (C := RX7) (T := TX7) (N := 19) (ci := 11) (k := 11) dX7_append_24 rfl ab_ic11 (by decide) ab_w354, List.forall_mem_cons.mpr ⟨ab_aload_n_ok dX7_append_27 rfl, List.forall_mem_cons.mpr ⟨ab_getf_ok (C := RX7) (T := TX7) (N := 19) (ci := 11) (k := 12) dX7_append_28 rfl ab_ic11 (by decide) ab_w390, List.forall_mem_cons.mpr ⟨ab_iload_n_ok dX7_append_31 rfl, List.forall_mem_cons.mpr ⟨ab_ast0_ok dX7_append_32, List.forall_mem_cons.mpr ⟨ab_aload_n_ok dX7_append_33 rfl, List.forall_mem_cons.mpr ⟨ab_dup_ok dX7_append_34, List.forall_mem_cons.mpr ⟨ab_getf_ok (C := RX7) (T := TX7) (N := 19) (ci := 11) (k := 12) dX7_append_35 rfl ab_ic11 (by decide) ab_w390, List.forall_mem_cons.mpr ⟨ab_iconst_ok dX7_append_38 (by decide), List.forall_mem_cons.mpr ⟨ab_iadd_ok dX7_append_39, List.forall_mem_cons.mpr ⟨ab_putf_ok (C := RX7) (T := TX7) (N := 19) (ci := 11) (k := 12) (ty0 := tyX7) dX7_append_40 rfl ab_ic11 tyX7_ok nmX7 (by decide) ab_w390 rfl (Or.inl rfl), List.forall_mem_cons.mpr ⟨ab_aload_n_ok dX7_append_43 rfl, List.forall_mem_cons.mpr ⟨ab_getf_ok (C := RX7) (T := TX7) (N := 19) (ci := 11) (k := 12) dX7_append_44 rfl ab_ic11 (by decide) ab_w390, List.forall_mem_cons.mpr ⟨ab_iret_ok dX7_append_47 rfl, fun _ h => absurd h List.not_mem_nil⟩⟩⟩⟩⟩⟩⟩⟩⟩⟩⟩⟩⟩⟩⟩⟩⟩⟩⟩⟩⟩⟩⟩⟩⟩⟩⟩
theorem ab_k27 (K : ab_Kt) : ∀ pc, ab_OK K ab_mt ab_g27 pc (ab_c27 pc) := ab_lk2_ok _ (List.forall_mem_cons.mpr ⟨ab_k27_0 K, fun _ h => absurd h List.not_mem_nil⟩)
theorem dL_ranked_0 : decode cL_ranked 0 = .ok (.aload_n 2, 1) := by decide +kernel
theorem dL_ranked_1 : decode cL_ranked 1 = .ok (.iconst 0, 1) := by decide +kernel
theorem dL_ranked_2 : decode cL_ranked 2 = .ok (.aload_n 0, 1) := by decide +kernel
theorem dL_ranked_3 : decode cL_ranked 3 = .ok (.iload_n 1, 1) := by decide +kernel
theorem dL_ranked_4 : decode cL_ranked 4 = .ok (.invokevirtual 106, 3) := by decide +kernel
theorem dL_ranked_7 : decode cL_ranked 7 = .ok (.i2l, 1) := by decide +kernel
theorem dL_ranked_8 : decode cL_ranked 8 = .ok (.lastore, 1) := by decide +kernel
theorem dL_ranked_9 : decode cL_ranked 9 = .ok (.goto 6, 3) := by decide +kernel
theorem dL_ranked_12 : decode cL_ranked 12 = .ok (.astore_n 3, 1) := by decide +kernel
theorem dL_ranked_13 : decode cL_ranked 13 = .ok (.iconst 1, 1) := by decide +kernel
theorem dL_ranked_14 : decode cL_ranked 14 = .ok (.ireturn, 1) := by decide +kernel
theorem dL_ranked_15 : decode cL_ranked 15 = .ok (.iconst 0, 1) := by decide +kernel
theorem dL_ranked_16 : decode cL_ranked 16 = .ok (.ireturn, 1) := by decide +kernel
theorem ab_k28_0 (K : ab_Kt) : ∀ q ∈ ab_l28_0, ab_OK K ab_mt ab_g28 q.1 q.2 := by
  unfold ab_l28_0
  exact List.forall_mem_cons.mpr ⟨ab_aload_n_ok dL_ranked_0 rfl, List.forall_mem_cons.mpr ⟨ab_iconst_ok dL_ranked_1 (by decide), List.forall_mem_cons.mpr ⟨ab_aload_n_ok dL_ranked_2 rfl, List.forall_mem_cons.mpr ⟨ab_iload_n_ok dL_ranked_3 rfl, List.forall_mem_cons.mpr ⟨ab_callV_ok' (G' := ab_g119) (C := RX6) (T := TX6) (N := 9) dL_ranked_4 ab_m119 rfl rfl (by decide) (by decide) (ab_l4 ab_w482 ab_w483 ab_w484 ab_w2) ab_w485 rfl ⟨by decide, by decide, by decide +kernel⟩, List.forall_mem_cons.mpr ⟨ab_i2l_ok dL_ranked_7, List.forall_mem_cons.mpr ⟨ab_last_ok dL_ranked_8, List.forall_mem_cons.mpr ⟨ab_goto_ok dL_ranked_9 (by decide), List.forall_mem_cons.mpr ⟨ab_astore_n_ok dL_ranked_12 rfl, List.forall_mem_cons.mpr ⟨ab_iconst_ok dL_ranked_13 (by decide), List.forall_mem_cons.mpr ⟨ab_iret_ok dL_ranked_14 rfl, List.forall_mem_cons.mpr ⟨ab_iconst_ok dL_ranked_15 (by decide), List.forall_mem_cons.mpr ⟨ab_iret_ok dL_ranked_16 rfl, fun _ h => absurd h List.not_mem_nil⟩⟩⟩⟩⟩⟩⟩⟩⟩⟩⟩⟩⟩
theorem ab_k28 (K : ab_Kt) : ∀ pc, ab_OK K ab_mt ab_g28 pc (ab_c28 pc) := ab_lk2_ok _ (List.forall_mem_cons.mpr ⟨ab_k28_0 K, fun _ h => absurd h List.not_mem_nil⟩)
theorem dX7_ranked_0 : decode cX7_ranked 0 = .ok (.aload_n 0, 1) := by decide +kernel
theorem dX7_ranked_1 : decode cX7_ranked 1 = .ok (.aload_n 0, 1) := by decide +kernel
theorem dX7_ranked_2 : decode cX7_ranked 2 = .ok (.iload_n 1, 1) := by decide +kernel
theorem dX7_ranked_3 : decode cX7_ranked 3 = .ok (.invokevirtual 94, 3) := by decide +kernel
theorem dX7_ranked_6 : decode cX7_ranked 6 = .ok (.ifCond .eq 7, 3) := by decide +kernel
theorem dX7_ranked_9 : decode cX7_ranked 9 = .ok (.iconst 0, 1) := by decide +kernel
theorem dX7_ranked_10 : decode cX7_ranked 10 = .ok (.goto 4, 3) := by decide +kernel
theorem dX7_ranked_13 : decode cX7_ranked 13 = .ok (.iconst 1, 1) := by decide +kernel
theorem dX7_ranked_14 : decode cX7_ranked 14 = .ok (.invokevirtual 162, 3) := by decide +kernel
theorem dX7_ranked_17 : decode cX7_ranked 17 = .ok (.ifCond .eq 5, 3) := by decide +kernel
theorem dX7_ranked_20 : decode cX7_ranked 20 = .ok (.iconst 0, 1) := by decide +kernel
theorem dX7_ranked_21 : decode cX7_ranked 21 = .ok (.ireturn, 1) := by decide +kernel
theorem dX7_ranked_22 : decode cX7_ranked 22 = .ok (.iconst 0, 1) := by decide +kernel
theorem dX7_ranked_23 : decode cX7_ranked 23 = .ok (.istore_n 2, 1) := by decide +kernel
theorem dX7_ranked_24 : decode cX7_ranked 24 = .ok (.iload_n 2, 1) := by decide +kernel
theorem dX7_ranked_25 : decode cX7_ranked 25 = .ok (.aload_n 0, 1) := by decide +kernel
theorem dX7_ranked_26 : decode cX7_ranked 26 = .ok (.getfield 7, 3) := by decide +kernel
theorem dX7_ranked_29 : decode cX7_ranked 29 = .ok (.iconst 3, 1) := by decide +kernel
theorem dX7_ranked_30 : decode cX7_ranked 30 = .ok (.iaload, 1) := by decide +kernel
theorem dX7_ranked_31 : decode cX7_ranked 31 = .ok (.if_icmp .ge 56, 3) := by decide +kernel
theorem dX7_ranked_34 : decode cX7_ranked 34 = .ok (.iconst 0, 1) := by decide +kernel
theorem dX7_ranked_35 : decode cX7_ranked 35 = .ok (.istore_n 3, 1) := by decide +kernel
theorem dX7_ranked_36 : decode cX7_ranked 36 = .ok (.iconst 0, 1) := by decide +kernel
theorem dX7_ranked_37 : decode cX7_ranked 37 = .ok (.istore 4, 2) := by decide +kernel
theorem dX7_ranked_39 : decode cX7_ranked 39 = .ok (.iload 4, 2) := by decide +kernel
theorem dX7_ranked_41 : decode cX7_ranked 41 = .ok (.aload_n 0, 1) := by decide +kernel
theorem dX7_ranked_42 : decode cX7_ranked 42 = .ok (.getfield 7, 3) := by decide +kernel
theorem dX7_ranked_45 : decode cX7_ranked 45 = .ok (.iconst 3, 1) := by decide +kernel
theorem dX7_ranked_46 : decode cX7_ranked 46 = .ok (.iaload, 1) := by decide +kernel
theorem dX7_ranked_47 : decode cX7_ranked 47 = .ok (.if_icmp .ge 27, 3) := by decide +kernel
theorem dX7_ranked_50 : decode cX7_ranked 50 = .ok (.iload_n 3, 1) := by decide +kernel
theorem dX7_ranked_51 : decode cX7_ranked 51 = .ok (.aload_n 0, 1) := by decide +kernel
theorem dX7_ranked_52 : decode cX7_ranked 52 = .ok (.iload 4, 2) := by decide +kernel
theorem dX7_ranked_54 : decode cX7_ranked 54 = .ok (.iload_n 2, 1) := by decide +kernel
theorem dX7_ranked_55 : decode cX7_ranked 55 = .ok (.invokevirtual 171, 3) := by decide +kernel
theorem dX7_ranked_58 : decode cX7_ranked 58 = .ok (.ifCond .eq 7, 3) := by decide +kernel
theorem dX7_ranked_61 : decode cX7_ranked 61 = .ok (.iconst 1, 1) := by decide +kernel
theorem dX7_ranked_62 : decode cX7_ranked 62 = .ok (.goto 4, 3) := by decide +kernel
theorem dX7_ranked_65 : decode cX7_ranked 65 = .ok (.iconst 0, 1) := by decide +kernel
theorem dX7_ranked_66 : decode cX7_ranked 66 = .ok (.iadd, 1) := by decide +kernel
theorem ab_k29_0 (K : ab_Kt) : ∀ q ∈ ab_l29_0, ab_OK K ab_mt ab_g29 q.1 q.2 := by
  unfold ab_l29_0
  exact List.forall_mem_cons.mpr ⟨ab_aload_n_ok dX7_ranked_0 rfl, List.forall_mem_cons.mpr ⟨ab_aload_n_ok dX7_ranked_1 rfl, List.forall_mem_cons.mpr ⟨ab_iload_n_ok dX7_ranked_2 rfl, List.forall_mem_cons.mpr ⟨ab_callV_ok' (G' := ab_g103) (C := RX7) (T := TX7) (N := 19) dX7_ranked_3 ab_m103 rfl rfl (by decide) (by decide) (ab_l4 ab_w411 ab_w412 ab_w413 ab_w8) ab_w414 rfl ⟨by decide, by decide, by decide +kernel⟩, List.forall_mem_cons.mpr ⟨ab_if_eq_ok dX7_ranked_6 (by decide), List.forall_mem_cons.mpr ⟨ab_iconst_ok dX7_ranked_9 (by decide), List.forall_mem_cons.mpr ⟨ab_goto_ok dX7_ranked_10 (by decide), List.forall_mem_cons.mpr ⟨ab_iconst_ok dX7_ranked_13 (by decide), List.forall_mem_cons.mpr ⟨ab_callV_ok' (G' := ab_g92) (C := RX7) (T := TX7) (N := 19) dX7_ranked_14 ab_m92 rfl rfl (by decide) (by decide) (ab_l4 ab_w364 ab_w365 ab_w366 ab_w8) ab_w367 rfl ⟨by decide, by decide, by decide +kernel⟩, List.forall_mem_cons.mpr ⟨ab_if_eq_ok dX7_ranked_17 (by decide), List.forall_mem_cons.mpr ⟨ab_iconst_ok dX7_ranked_20 (by decide), List.forall_mem_cons.mpr ⟨ab_iret_ok dX7_ranked_21 rfl, List.forall_mem_cons.mpr ⟨ab_iconst_ok dX7_ranked_22 (by decide), List.forall_mem_cons.mpr ⟨ab_istore_n_ok dX7_ranked_23 rfl, List.forall_mem_cons.mpr ⟨ab_iload_n_ok dX7_ranked_24 rfl, List.forall_mem_cons.mpr ⟨ab_aload_n_ok dX7_ranked_25 rfl, List.forall_mem_cons.mpr ⟨ab_getf_ok (C := RX7) (T := TX7) (N := 19) (ci := 11) (k := 0) dX7_ranked_26 rfl ab_ic11 (by decide) ab_w350, List.forall_mem_cons.mpr ⟨ab_iconst_ok dX7_ranked_29 (by decide), List.forall_mem_cons.mpr ⟨ab_ald0_ok dX7_ranked_30, List.forall_mem_cons.mpr ⟨ab_icmp_ge_ok dX7_ranked_31 (by decide), List.forall_mem_cons.mpr ⟨ab_iconst_ok dX7_ranked_34 (by decide), List.forall_mem_cons.mpr ⟨ab_istore_n_ok dX7_ranked_35 rfl, List.forall_mem_cons.mpr ⟨ab_iconst_ok dX7_ranked_36 (by decide), List.forall_mem_cons.mpr ⟨ab_istore_ok dX7_ranked_37, List.forall_mem_cons.mpr ⟨ab_iload_ok dX7_ranked_39, List.forall_mem_cons.mpr ⟨ab_aload_n_ok dX7_ranked_41 rfl, List.forall_mem_cons.mpr ⟨ab_getf_ok (C := RX7) (T := TX7) (N := 19) (ci := 11) (k := 0) dX7_ranked_42 rfl ab_ic11 (by decide) ab_w350, List.forall_mem_cons.mpr ⟨ab_iconst_ok dX7_ranked_45 (by decide), List.forall_mem_cons.mpr ⟨ab_ald0_ok dX7_ranked_46, List.forall_mem_cons.mpr ⟨ab_icmp_ge_ok dX7_ranked_47 (by decide), List.forall_mem_cons.mpr ⟨ab_iload_n_ok dX7_ranked_50 rfl, List.forall_mem_cons.mpr ⟨ab_aload_n_ok dX7_ranked_51 rfl, List.forall_mem_cons.mpr ⟨ab_iload_ok dX7_ranked_52, List.forall_mem_cons.mpr ⟨ab_iload_n_ok dX7_ranked_54 rfl, List.forall_mem_cons.mpr ⟨ab_callV_ok' (G' := ab_g120) (C := RX7) (T := TX7) (N := 19) dX7_ranked_55 ab_m120 rfl rfl (by decide) (by decide) (ab_l4 ab_w486 ab_w487 ab_w488 ab_w8) ab_w489 rfl ⟨by decide, by decide, by decide +kernel⟩, List.forall_mem_cons.mpr ⟨ab_if_eq_ok dX7_ranked_58 (by decide), List.forall_mem_cons.mpr ⟨ab_iconst_ok dX7_ranked_61 (by decide), List.forall_mem_cons.mpr ⟨ab_goto_ok dX7_ranked_62 (by decide), List.forall_mem_cons.mpr ⟨ab_iconst_ok dX7_ranked_65 (by decide), List.forall_mem_cons.mpr ⟨ab_iadd_ok dX7_ranked_66, fun _ h => absurd h List.not_mem_nil⟩⟩⟩⟩⟩⟩⟩⟩⟩⟩⟩⟩⟩⟩⟩⟩⟩⟩⟩⟩⟩⟩⟩⟩⟩⟩⟩⟩⟩⟩⟩⟩⟩⟩⟩⟩⟩⟩⟩⟩
theorem dX7_ranked_67 : decode cX7_ranked 67 = .ok (.istore_n 3, 1) := by decide +kernel
theorem dX7_ranked_68 : decode cX7_ranked 68 = .ok (.iinc 4 1, 3) := by decide +kernel
theorem dX7_ranked_71 : decode cX7_ranked 71 = .ok (.goto (-32), 3) := by decide +kernel
theorem dX7_ranked_74 : decode cX7_ranked 74 = .ok (.iload_n 3, 1) := by decide +kernel
theorem dX7_ranked_75 : decode cX7_ranked 75 = .ok (.iload_n 1, 1) := by decide +kernel
theorem dX7_ranked_76 : decode cX7_ranked 76 = .ok (.if_icmp .ne 5, 3) := by decide +kernel
theorem dX7_ranked_79 : decode cX7_ranked 79 = .ok (.iload_n 2, 1) := by decide +kernel
theorem dX7_ranked_80 : decode cX7_ranked 80 = .ok (.ireturn, 1) := by decide +kernel
theorem dX7_ranked_81 : decode cX7_ranked 81 = .ok (.iinc 2 1, 3) := by decide +kernel
theorem dX7_ranked_84 : decode cX7_ranked 84 = .ok (.goto (-60), 3) := by decide +kernel
theorem dX7_ranked_87 : decode cX7_ranked 87 = .ok (.iconst 0, 1) := by decide +kernel
theorem dX7_ranked_88 : decode cX7_ranked 88 = .ok (.ireturn, 1) := by decide +kernel
theorem ab_k29_1 (K : ab_Kt) : ∀ q ∈ ab_l29_1, ab_OK K ab_mt ab_g29 q.1 q.2 := by
  unfold ab_l29_1
  exact List.forall_mem_cons.mpr ⟨ab_istore_n_ok dX7_ranked_67 rfl, List.forall_mem_cons.mpr ⟨ab_iinc_ok dX7_ranked_68 (by decide), List.forall_mem_cons.mpr ⟨ab_goto_ok dX7_ranked_71 (by decide), List.forall_mem_cons.mpr ⟨ab_iload_n_ok dX7_ranked_74 rfl, List.forall_mem_cons.mpr ⟨ab_iload_n_ok dX7_ranked_75 rfl, List.forall_mem_cons.mpr ⟨ab_icmp_ne_ok dX7_ranked_76 (by decide), List.forall_mem_cons.mpr ⟨ab_iload_n_ok dX7_ranked_79 rfl, List.forall_mem_cons.mpr ⟨ab_iret_ok dX7_ranked_80 rfl, List.forall_mem_cons.mpr ⟨ab_iinc_ok dX7_ranked_81 (by decide), List.forall_mem_cons.mpr ⟨ab_goto_ok dX7_ranked_84 (by decide), List.forall_mem_cons.mpr ⟨ab_iconst_ok dX7_ranked_87 (by decide), List.forall_mem_cons.mpr ⟨ab_iret_ok dX7_ranked_88 rfl, fun _ h => absurd h List.not_mem_nil⟩⟩⟩⟩⟩⟩⟩⟩⟩⟩⟩⟩
theorem ab_k29 (K : ab_Kt) : ∀ pc, ab_OK K ab_mt ab_g29 pc (ab_c29 pc) := ab_lk2_ok _ (List.forall_mem_cons.mpr ⟨ab_k29_0 K, List.forall_mem_cons.mpr ⟨ab_k29_1 K, fun _ h => absurd h List.not_mem_nil⟩⟩)
theorem dL_readyAgain_0 : decode cL_readyAgain 0 = .ok (.aload_n 2, 1) := by decide +kernel
theorem dL_readyAgain_1 : decode cL_readyAgain 1 = .ok (.iconst 0, 1) := by decide +kernel
theorem dL_readyAgain_2 : decode cL_readyAgain 2 = .ok (.aload_n 0, 1) := by decide +kernel
theorem dL_readyAgain_3 : decode cL_readyAgain 3 = .ok (.iload_n 1, 1) := by decide +kernel
theorem dL_readyAgain_4 : decode cL_readyAgain 4 = .ok (.invokevirtual 103, 3) := by decide +kernel
theorem dL_readyAgain_7 : decode cL_readyAgain 7 = .ok (.i2l, 1) := by decide +kernel
theorem dL_readyAgain_8 : decode cL_readyAgain 8 = .ok (.lastore, 1) := by decide +kernel
theorem dL_readyAgain_9 : decode cL_readyAgain 9 = .ok (.goto 9, 3) := by decide +kernel
theorem dL_readyAgain_12 : decode cL_readyAgain 12 = .ok (.astore_n 3, 1) := by decide +kernel
theorem dL_readyAgain_13 : decode cL_readyAgain 13 = .ok (.iconst 1, 1) := by decide +kernel
theorem dL_readyAgain_14 : decode cL_readyAgain 14 = .ok (.ireturn, 1) := by decide +kernel
theorem dL_readyAgain_15 : decode cL_readyAgain 15 = .ok (.astore_n 3, 1) := by decide +kernel
theorem dL_readyAgain_16 : decode cL_readyAgain 16 = .ok (.iconst 2, 1) := by decide +kernel
theorem dL_readyAgain_17 : decode cL_readyAgain 17 = .ok (.ireturn, 1) := by decide +kernel
theorem dL_readyAgain_18 : decode cL_readyAgain 18 = .ok (.iconst 0, 1) := by decide +kernel
theorem dL_readyAgain_19 : decode cL_readyAgain 19 = .ok (.ireturn, 1) := by decide +kernel
theorem ab_k30_0 (K : ab_Kt) : ∀ q ∈ ab_l30_0, ab_OK K ab_mt ab_g30 q.1 q.2 := by
  unfold ab_l30_0
  exact List.forall_mem_cons.mpr ⟨ab_aload_n_ok dL_readyAgain_0 rfl, List.forall_mem_cons.mpr ⟨ab_iconst_ok dL_readyAgain_1 (by decide), List.forall_mem_cons.mpr ⟨ab_aload_n_ok dL_readyAgain_2 rfl, List.forall_mem_cons.mpr ⟨ab_iload_n_ok dL_readyAgain_3 rfl, List.forall_mem_cons.mpr ⟨ab_callV_ok' (G' := ab_g121) (C := RX6) (T := TX6) (N := 9) dL_readyAgain_4 ab_m121 rfl rfl (by decide) (by decide) (ab_l4 ab_w490 ab_w491 ab_w492 ab_w2) ab_w493 rfl ⟨by decide, by decide, by decide +kernel⟩, List.forall_mem_cons.mpr ⟨ab_i2l_ok dL_readyAgain_7, List.forall_mem_cons.mpr ⟨ab_last_ok dL_readyAgain_8, List.forall_mem_cons.mpr ⟨ab_goto_ok dL_readyAgain_9 (by decide), List.forall_mem_cons.mpr ⟨ab_astore_n_ok dL_readyAgain_12 rfl, List.forall_mem_cons.mpr ⟨ab_iconst_ok dL_readyAgain_13 (by decide), List.forall_mem_cons.mpr ⟨ab_iret_ok dL_readyAgain_14 rfl, List.forall_mem_cons.mpr ⟨ab_astore_n_ok dL_readyAgain_15 rfl, List.forall_mem_cons.mpr ⟨ab_iconst_ok dL_readyAgain_16 (by decide), List.forall_mem_cons.mpr ⟨ab_iret_ok dL_readyAgain_17 rfl, List.forall_mem_cons.mpr ⟨ab_iconst_ok dL_readyAgain_18 (by decide), List.forall_mem_cons.mpr ⟨ab_iret_ok dL_readyAgain_19 rfl, fun _ h => absurd h List.not_mem_nil⟩⟩⟩⟩⟩⟩⟩⟩⟩⟩⟩⟩⟩⟩⟩⟩
theorem ab_k30 (K : ab_Kt) : ∀ pc, ab_OK K ab_mt ab_g30 pc (ab_c30 pc) := ab_lk2_ok _ (List.forall_mem_cons.mpr ⟨ab_k30_0 K, fun _ h => absurd h List.not_mem_nil⟩)
theorem dX7_readyAgain_0 : decode cX7_readyAgain 0 = .ok (.aload_n 0, 1) := by decide +kernel
theorem dX7_readyAgain_1 : decode cX7_readyAgain 1 = .ok (.iload_n 1, 1) := by decide +kernel
theorem dX7_readyAgain_2 : decode cX7_readyAgain 2 = .ok (.invokestatic 137, 3) := by decide +kernel
theorem dX7_readyAgain_5 : decode cX7_readyAgain 5 = .ok (.ifCond .ne 7, 3) := by decide +kernel
theorem dX7_readyAgain_8 : decode cX7_readyAgain 8 = .ok (.iconst 1, 1) := by decide +kernel
theorem dX7_readyAgain_9 : decode cX7_readyAgain 9 = .ok (.goto 16, 3) := by decide +kernel
theorem dX7_readyAgain_12 : decode cX7_readyAgain 12 = .ok (.aload_n 0, 1) := by decide +kernel
theorem dX7_readyAgain_13 : decode cX7_readyAgain 13 = .ok (.iload_n 1, 1) := by decide +kernel
theorem dX7_readyAgain_14 : decode cX7_readyAgain 14 = .ok (.invokevirtual 140, 3) := by decide +kernel
theorem dX7_readyAgain_17 : decode cX7_readyAgain 17 = .ok (.ifCond .ne 7, 3) := by decide +kernel
theorem dX7_readyAgain_20 : decode cX7_readyAgain 20 = .ok (.iconst 2, 1) := by decide +kernel
theorem dX7_readyAgain_21 : decode cX7_readyAgain 21 = .ok (.goto 4, 3) := by decide +kernel
theorem dX7_readyAgain_24 : decode cX7_readyAgain 24 = .ok (.iconst 0, 1) := by decide +kernel
theorem dX7_readyAgain_25 : decode cX7_readyAgain 25 = .ok (.invokevirtual 162, 3) := by decide +kernel
theorem dX7_readyAgain_28 : decode cX7_readyAgain 28 = .ok (.ifCond .eq 5, 3) := by decide +kernel
theorem dX7_readyAgain_31 : decode cX7_readyAgain 31 = .ok (.iconst 0, 1) := by decide +kernel
theorem dX7_readyAgain_32 : decode cX7_readyAgain 32 = .ok (.ireturn, 1) := by decide +kernel
theorem dX7_readyAgain_33 : decode cX7_readyAgain 33 = .ok (.iconst 0, 1) := by decide +kernel
theorem dX7_readyAgain_34 : decode cX7_readyAgain 34 = .ok (.istore_n 2, 1) := by decide +kernel
theorem dX7_readyAgain_35 : decode cX7_readyAgain 35 = .ok (.iconst 0, 1) := by decide +kernel
theorem dX7_readyAgain_36 : decode cX7_readyAgain 36 = .ok (.istore_n 3, 1) := by decide +kernel
theorem dX7_readyAgain_37 : decode cX7_readyAgain 37 = .ok (.iload_n 3, 1) := by decide +kernel
theorem dX7_readyAgain_38 : decode cX7_readyAgain 38 = .ok (.ifCond .ne 71, 3) := by decide +kernel
theorem dX7_readyAgain_41 : decode cX7_readyAgain 41 = .ok (.iconst 1, 1) := by decide +kernel
theorem dX7_readyAgain_42 : decode cX7_readyAgain 42 = .ok (.istore_n 3, 1) := by decide +kernel
theorem dX7_readyAgain_43 : decode cX7_readyAgain 43 = .ok (.iconst 0, 1) := by decide +kernel
theorem dX7_readyAgain_44 : decode cX7_readyAgain 44 = .ok (.istore 4, 2) := by decide +kernel
theorem dX7_readyAgain_46 : decode cX7_readyAgain 46 = .ok (.iload 4, 2) := by decide +kernel
theorem dX7_readyAgain_48 : decode cX7_readyAgain 48 = .ok (.aload_n 0, 1) := by decide +kernel
theorem dX7_readyAgain_49 : decode cX7_readyAgain 49 = .ok (.iload_n 1, 1) := by decide +kernel
theorem dX7_readyAgain_50 : decode cX7_readyAgain 50 = .ok (.invokevirtual 140, 3) := by decide +kernel
theorem dX7_readyAgain_53 : decode cX7_readyAgain 53 = .ok (.if_icmp .ge 41, 3) := by decide +kernel
theorem dX7_readyAgain_56 : decode cX7_readyAgain 56 = .ok (.iload_n 3, 1) := by decide +kernel
theorem dX7_readyAgain_57 : decode cX7_readyAgain 57 = .ok (.aload_n 0, 1) := by decide +kernel
theorem dX7_readyAgain_58 : decode cX7_readyAgain 58 = .ok (.aload_n 0, 1) := by decide +kernel
theorem dX7_readyAgain_59 : decode cX7_readyAgain 59 = .ok (.iload_n 1, 1) := by decide +kernel
theorem dX7_readyAgain_60 : decode cX7_readyAgain 60 = .ok (.iload 4, 2) := by decide +kernel
theorem dX7_readyAgain_62 : decode cX7_readyAgain 62 = .ok (.invokevirtual 143, 3) := by decide +kernel
theorem dX7_readyAgain_65 : decode cX7_readyAgain 65 = .ok (.bipush 6, 2) := by decide +kernel
theorem dX7_readyAgain_67 : decode cX7_readyAgain 67 = .ok (.invokevirtual 63, 3) := by decide +kernel
theorem ab_k31_0 (K : ab_Kt) : ∀ q ∈ ab_l31_0, ab_OK K ab_mt ab_g31 q.1 q.2 := by
  unfold ab_l31_0
  exact List.forall_mem_cons.mpr ⟨ab_aload_n_ok dX7_readyAgain_0 rfl, List.forall_mem_cons.mpr ⟨ab_iload_n_ok dX7_readyAgain_1 rfl, List.forall_mem_cons.mpr ⟨ab_callS_ok' (G' := ab_g122) dX7_readyAgain_2 ab_m122 (by decide) (by decide) (ab_l3 ab_w494 ab_w495 ab_w8) ab_w496 rfl ⟨by decide, by decide, by decide +kernel⟩, List.forall_mem_cons.mpr ⟨ab_if_ne_ok dX7_readyAgain_5 (by decide), List.forall_mem_cons.mpr ⟨ab_iconst_ok dX7_readyAgain_8 (by decide), List.forall_mem_cons.mpr ⟨ab_goto_ok dX7_readyAgain_9 (by decide), List.forall_mem_cons.mpr ⟨ab_aload_n_ok dX7_readyAgain_12 rfl, List.forall_mem_cons.mpr ⟨ab_iload_n_ok dX7_readyAgain_13 rfl, List.forall_mem_cons.mpr ⟨ab_callV_ok' (G' := ab_g100) (C := RX7) (T := TX7) (N := 19) dX7_readyAgain_14 ab_m100 rfl rfl (by decide) (by decide) (ab_l4 ab_w399 ab_w400 ab_w401 ab_w8) ab_w402 rfl ⟨by decide, by decide, by decide +kernel⟩, List.forall_mem_cons.mpr ⟨ab_if_ne_ok dX7_readyAgain_17 (by decide), List.forall_mem_cons.mpr ⟨ab_iconst_ok dX7_readyAgain_20 (by decide), List.forall_mem_cons.mpr ⟨ab_goto_ok dX7_readyAgain_21 (by decide), List.forall_mem_cons.mpr ⟨ab_iconst_ok dX7_readyAgain_24 (by decide), List.forall_mem_cons.mpr ⟨ab_callV_ok' (G' := ab_g92) (C := RX7) (T := TX7) (N := 19) dX7_readyAgain_25 ab_m92 rfl rfl (by decide) (by decide) (ab_l4 ab_w364 ab_w365 ab_w366 ab_w8) ab_w367 rfl ⟨by decide, by decide, by decide +kernel⟩, List.forall_mem_cons.mpr ⟨ab_if_eq_ok dX7_readyAgain_28 (by decide), List.forall_mem_cons.mpr ⟨ab_iconst_ok dX7_readyAgain_31 (by decide), List.forall_mem_cons.mpr ⟨ab_iret_ok dX7_readyAgain_32 rfl, List.forall_mem_cons.mpr ⟨ab_iconst_ok dX7_readyAgain_33 (by decide), List.forall_mem_cons.mpr ⟨ab_istore_n_ok dX7_readyAgain_34 rfl, List.forall_mem_cons.mpr ⟨ab_iconst_ok dX7_readyAgain_35 (by decide), List.forall_mem_cons.mpr ⟨ab_istore_n_ok dX7_readyAgain_36 rfl, List.forall_mem_cons.mpr ⟨ab_iload_n_ok dX7_readyAgain_37 rfl, List.forall_mem_cons.mpr ⟨ab_if_ne_ok dX7_readyAgain_38 (by decide), List.forall_mem_cons.mpr ⟨ab_iconst_ok dX7_readyAgain_41 (by decide), List.forall_mem_cons.mpr ⟨ab_istore_n_ok dX7_readyAgain_42 rfl, List.forall_mem_cons.mpr ⟨ab_iconst_ok dX7_readyAgain_43 (by decide), List.forall_mem_cons.mpr ⟨ab_istore_ok dX7_readyAgain_44, List.forall_mem_cons.mpr ⟨ab_iload_ok dX7_readyAgain_46, List.forall_mem_cons.mpr ⟨ab_aload_n_ok dX7_readyAgain_48 rfl, List.forall_mem_cons.mpr ⟨ab_iload_n_ok dX7_readyAgain_49 rfl, List.forall_mem_cons.mpr ⟨ab_callV_ok' (G' := ab_g100) (C := RX7) (T := TX7) (N := 19) dX7_readyAgain_50 ab_m100 rfl rfl (by decide) (by decide) (ab_l4 ab_w399 ab_w400 ab_w401 ab_w8) ab_w402 rfl ⟨by decide, by decide, by decide +kernel⟩, List.forall_mem_cons.mpr ⟨ab_icmp_ge_ok dX7_readyAgain_53 (by decide), List.forall_mem_cons.mpr ⟨ab_iload_n_ok dX7_readyAgain_56 rfl, List.forall_mem_cons.mpr ⟨ab_aload_n_ok dX7_readyAgain_57 rfl, List.forall_mem_cons.mpr ⟨ab_aload_n_ok dX7_readyAgain_58 rfl, List.forall_mem_cons.mpr ⟨ab_iload_n_ok dX7_readyAgain_59 rfl, List.forall_mem_cons.mpr ⟨ab_iload_ok dX7_readyAgain_60, List.forall_mem_cons.mpr ⟨ab_callV_ok' (G' := ab_g123) (C := RX7) (T := TX7) (N := 19) dX7_readyAgain_62 ab_m123 rfl rfl (by decide) (by decide) (ab_l4 ab_w497 ab_w498 ab_w499 ab_w8) ab_w500 rfl ⟨by decide, by decide, by decide +kernel⟩, List.forall_mem_cons.mpr ⟨ab_bipush_ok dX7_readyAgain_65 (by decide), List.forall_mem_cons.mpr ⟨ab_callV_ok' (G' := ab_g110) (C := RX7) (T := TX7) (N := 19) dX7_readyAgain_67 ab_m110 rfl rfl (by decide) (by decide) (ab_l4 ab_w440 ab_w441 ab_w442 ab_w8) ab_w443 rfl ⟨by decide, by decide, by decide +kernel⟩, fun _ h => absurd h List.not_mem_nil⟩⟩⟩⟩⟩⟩⟩⟩⟩⟩⟩⟩⟩⟩⟩⟩⟩⟩⟩⟩⟩⟩⟩⟩⟩⟩⟩⟩⟩⟩⟩⟩⟩⟩⟩⟩⟩⟩⟩⟩
theorem dX7_readyAgain_70 : decode cX7_readyAgain 70 = .ok (.aload_n 0, 1) := by decide +kernel
theorem dX7_readyAgain_71 : decode cX7_readyAgain 71 = .ok (.getfield 7, 3) := by decide +kernel
theorem dX7_readyAgain_74 : decode cX7_readyAgain 74 = .ok (.iconst 0, 1) := by decide +kernel
theorem dX7_readyAgain_75 : decode cX7_readyAgain 75 = .ok (.iaload, 1) := by decide +kernel
theorem dX7_readyAgain_76 : decode cX7_readyAgain 76 = .ok (.iload_n 2, 1) := by decide +kernel
theorem dX7_readyAgain_77 : decode cX7_readyAgain 77 = .ok (.iadd, 1) := by decide +kernel
theorem dX7_readyAgain_78 : decode cX7_readyAgain 78 = .ok (.if_icmp .gt 7, 3) := by decide +kernel
theorem dX7_readyAgain_81 : decode cX7_readyAgain 81 = .ok (.iconst 1, 1) := by decide +kernel
theorem dX7_readyAgain_82 : decode cX7_readyAgain 82 = .ok (.goto 4, 3) := by decide +kernel
theorem dX7_readyAgain_85 : decode cX7_readyAgain 85 = .ok (.iconst 0, 1) := by decide +kernel
theorem dX7_readyAgain_86 : decode cX7_readyAgain 86 = .ok (.iand, 1) := by decide +kernel
theorem dX7_readyAgain_87 : decode cX7_readyAgain 87 = .ok (.istore_n 3, 1) := by decide +kernel
theorem dX7_readyAgain_88 : decode cX7_readyAgain 88 = .ok (.iinc 4 1, 3) := by decide +kernel
theorem dX7_readyAgain_91 : decode cX7_readyAgain 91 = .ok (.goto (-45), 3) := by decide +kernel
theorem dX7_readyAgain_94 : decode cX7_readyAgain 94 = .ok (.iload_n 2, 1) := by decide +kernel
theorem dX7_readyAgain_95 : decode cX7_readyAgain 95 = .ok (.iload_n 3, 1) := by decide +kernel
theorem dX7_readyAgain_96 : decode cX7_readyAgain 96 = .ok (.ifCond .eq 7, 3) := by decide +kernel
theorem dX7_readyAgain_99 : decode cX7_readyAgain 99 = .ok (.iconst 0, 1) := by decide +kernel
theorem dX7_readyAgain_100 : decode cX7_readyAgain 100 = .ok (.goto 4, 3) := by decide +kernel
theorem dX7_readyAgain_103 : decode cX7_readyAgain 103 = .ok (.iconst 1, 1) := by decide +kernel
theorem dX7_readyAgain_104 : decode cX7_readyAgain 104 = .ok (.iadd, 1) := by decide +kernel
theorem dX7_readyAgain_105 : decode cX7_readyAgain 105 = .ok (.istore_n 2, 1) := by decide +kernel
theorem dX7_readyAgain_106 : decode cX7_readyAgain 106 = .ok (.goto (-69), 3) := by decide +kernel
theorem dX7_readyAgain_109 : decode cX7_readyAgain 109 = .ok (.iload_n 2, 1) := by decide +kernel
theorem dX7_readyAgain_110 : decode cX7_readyAgain 110 = .ok (.ireturn, 1) := by decide +kernel
theorem ab_k31_1 (K : ab_Kt) : ∀ q ∈ ab_l31_1, ab_OK K ab_mt ab_g31 q.1 q.2 := by
  unfold ab_l31_1
  exact List.forall_mem_cons.mpr ⟨ab_aload_n_ok dX7_readyAgain_70 rfl, List.forall_mem_cons.mpr ⟨ab_getf_ok (C := RX7) (T := TX7) (N := 19) (ci := 11) (k := 0) dX7_readyAgain_71 rfl ab_ic11 (by decide) ab_w350, List.forall_mem_cons.mpr ⟨ab_iconst_ok dX7_readyAgain_74 (by decide), List.forall_mem_cons.mpr ⟨ab_ald0_ok dX7_readyAgain_75, List.forall_mem_cons.mpr ⟨ab_iload_n_ok dX7_readyAgain_76 rfl, List.forall_mem_cons.mpr ⟨ab_iadd_ok dX7_readyAgain_77, List.forall_mem_cons.mpr ⟨ab_icmp_gt_ok dX7_readyAgain_78 (by decide), List.forall_mem_cons.mpr ⟨ab_iconst_ok dX7_readyAgain_81 (by decide), List.forall_mem_cons.mpr ⟨ab_goto_ok dX7_readyAgain_82 (by decide), List.forall_mem_cons.mpr ⟨ab_iconst_ok dX7_readyAgain_85 (by decide), List.forall_mem_cons.mpr ⟨ab_iand_ok dX7_readyAgain_86, List.forall_mem_cons.mpr ⟨ab_istore_n_ok dX7_readyAgain_87 rfl, List.forall_mem_cons.mpr ⟨ab_iinc_ok dX7_readyAgain_88 (by decide), List.forall_mem_cons.mpr ⟨ab_goto_ok dX7_readyAgain_91 (by decide), List.forall_mem_cons.mpr ⟨ab_iload_n_ok dX7_readyAgain_94 rfl, List.forall_mem_cons.mpr ⟨ab_iload_n_ok dX7_readyAgain_95 rfl, List.forall_mem_cons.mpr ⟨ab_if_eq_ok dX7_readyAgain_96 (by decide), List.forall_mem_cons.mpr ⟨ab_iconst_ok dX7_readyAgain_99 (by decide), List.forall_mem_cons.mpr ⟨ab_goto_ok dX7_readyAgain_100 (by decide), List.forall_mem_cons.mpr ⟨ab_iconst_ok dX7_readyAgain_103 (by decide), List.forall_mem_cons.mpr ⟨ab_iadd_ok dX7_readyAgain_104, List.forall_mem_cons.mpr ⟨ab_istore_n_ok dX7_readyAgain_105 rfl, List.forall_mem_cons.mpr ⟨ab_goto_ok dX7_readyAgain_106 (by decide), List.forall_mem_cons.mpr ⟨ab_iload_n_ok dX7_readyAgain_109 rfl, List.forall_mem_cons.mpr ⟨ab_iret_ok dX7_readyAgain_110 rfl, fun _ h => absurd h List.not_mem_nil⟩⟩⟩⟩⟩⟩⟩⟩⟩⟩⟩⟩⟩⟩⟩⟩⟩⟩⟩⟩⟩⟩⟩⟩⟩
theorem ab_k31 (K : ab_Kt) : ∀ pc, ab_OK K ab_mt ab_g31 pc (ab_c31 pc) := ab_lk2_ok _ (List.forall_mem_cons.mpr ⟨ab_k31_0 K, List.forall_mem_cons.mpr ⟨ab_k31_1 K, fun _ h => absurd h List.not_mem_nil⟩⟩)
theorem dL_readyIn_0 : decode cL_readyIn 0 = .ok (.aload_n 2, 1) := by decide +kernel
theorem dL_readyIn_1 : decode cL_readyIn 1 = .ok (.iconst 0, 1) := by decide +kernel
theorem dL_readyIn_2 : decode cL_readyIn 2 = .ok (.aload_n 0, 1) := by decide +kernel
theorem dL_readyIn_3 : decode cL_readyIn 3 = .ok (.iload_n 1, 1) := by decide +kernel
theorem dL_readyIn_4 : decode cL_readyIn 4 = .ok (.invokevirtual 100, 3) := by decide +kernel
theorem dL_readyIn_7 : decode cL_readyIn 7 = .ok (.i2l, 1) := by decide +kernel
theorem dL_readyIn_8 : decode cL_readyIn 8 = .ok (.lastore, 1) := by decide +kernel
theorem dL_readyIn_9 : decode cL_readyIn 9 = .ok (.goto 9, 3) := by decide +kernel
theorem dL_readyIn_12 : decode cL_readyIn 12 = .ok (.astore_n 3, 1) := by decide +kernel
theorem dL_readyIn_13 : decode cL_readyIn 13 = .ok (.iconst 1, 1) := by decide +kernel
theorem dL_readyIn_14 : decode cL_readyIn 14 = .ok (.ireturn, 1) := by decide +kernel
theorem dL_readyIn_15 : decode cL_readyIn 15 = .ok (.astore_n 3, 1) := by decide +kernel
theorem dL_readyIn_16 : decode cL_readyIn 16 = .ok (.iconst 2, 1) := by decide +kernel
theorem dL_readyIn_17 : decode cL_readyIn 17 = .ok (.ireturn, 1) := by decide +kernel
theorem dL_readyIn_18 : decode cL_readyIn 18 = .ok (.iconst 0, 1) := by decide +kernel
theorem dL_readyIn_19 : decode cL_readyIn 19 = .ok (.ireturn, 1) := by decide +kernel
theorem ab_k32_0 (K : ab_Kt) : ∀ q ∈ ab_l32_0, ab_OK K ab_mt ab_g32 q.1 q.2 := by
  unfold ab_l32_0
  exact List.forall_mem_cons.mpr ⟨ab_aload_n_ok dL_readyIn_0 rfl, List.forall_mem_cons.mpr ⟨ab_iconst_ok dL_readyIn_1 (by decide), List.forall_mem_cons.mpr ⟨ab_aload_n_ok dL_readyIn_2 rfl, List.forall_mem_cons.mpr ⟨ab_iload_n_ok dL_readyIn_3 rfl, List.forall_mem_cons.mpr ⟨ab_callV_ok' (G' := ab_g124) (C := RX6) (T := TX6) (N := 9) dL_readyIn_4 ab_m124 rfl rfl (by decide) (by decide) (ab_l4 ab_w501 ab_w502 ab_w503 ab_w2) ab_w504 rfl ⟨by decide, by decide, by decide +kernel⟩, List.forall_mem_cons.mpr ⟨ab_i2l_ok dL_readyIn_7, List.forall_mem_cons.mpr ⟨ab_last_ok dL_readyIn_8, List.forall_mem_cons.mpr ⟨ab_goto_ok dL_readyIn_9 (by decide), List.forall_mem_cons.mpr ⟨ab_astore_n_ok dL_readyIn_12 rfl, List.forall_mem_cons.mpr ⟨ab_iconst_ok dL_readyIn_13 (by decide), List.forall_mem_cons.mpr ⟨ab_iret_ok dL_readyIn_14 rfl, List.forall_mem_cons.mpr ⟨ab_astore_n_ok dL_readyIn_15 rfl, List.forall_mem_cons.mpr ⟨ab_iconst_ok dL_readyIn_16 (by decide), List.forall_mem_cons.mpr ⟨ab_iret_ok dL_readyIn_17 rfl, List.forall_mem_cons.mpr ⟨ab_iconst_ok dL_readyIn_18 (by decide), List.forall_mem_cons.mpr ⟨ab_iret_ok dL_readyIn_19 rfl, fun _ h => absurd h List.not_mem_nil⟩⟩⟩⟩⟩⟩⟩⟩⟩⟩⟩⟩⟩⟩⟩⟩
theorem ab_k32 (K : ab_Kt) : ∀ pc, ab_OK K ab_mt ab_g32 pc (ab_c32 pc) := ab_lk2_ok _ (List.forall_mem_cons.mpr ⟨ab_k32_0 K, fun _ h => absurd h List.not_mem_nil⟩)
theorem dX7_readyIn_0 : decode cX7_readyIn 0 = .ok (.aload_n 0, 1) := by decide +kernel
theorem dX7_readyIn_1 : decode cX7_readyIn 1 = .ok (.iload_n 1, 1) := by decide +kernel
theorem dX7_readyIn_2 : decode cX7_readyIn 2 = .ok (.invokestatic 137, 3) := by decide +kernel
theorem dX7_readyIn_5 : decode cX7_readyIn 5 = .ok (.ifCond .ne 7, 3) := by decide +kernel
theorem dX7_readyIn_8 : decode cX7_readyIn 8 = .ok (.iconst 1, 1) := by decide +kernel
theorem dX7_readyIn_9 : decode cX7_readyIn 9 = .ok (.goto 16, 3) := by decide +kernel
theorem dX7_readyIn_12 : decode cX7_readyIn 12 = .ok (.aload_n 0, 1) := by decide +kernel
theorem dX7_readyIn_13 : decode cX7_readyIn 13 = .ok (.iload_n 1, 1) := by decide +kernel
theorem dX7_readyIn_14 : decode cX7_readyIn 14 = .ok (.invokevirtual 140, 3) := by decide +kernel
theorem dX7_readyIn_17 : decode cX7_readyIn 17 = .ok (.ifCond .ne 7, 3) := by decide +kernel
theorem dX7_readyIn_20 : decode cX7_readyIn 20 = .ok (.iconst 2, 1) := by decide +kernel
theorem dX7_readyIn_21 : decode cX7_readyIn 21 = .ok (.goto 4, 3) := by decide +kernel
theorem dX7_readyIn_24 : decode cX7_readyIn 24 = .ok (.iconst 0, 1) := by decide +kernel
theorem dX7_readyIn_25 : decode cX7_readyIn 25 = .ok (.invokevirtual 162, 3) := by decide +kernel
theorem dX7_readyIn_28 : decode cX7_readyIn 28 = .ok (.ifCond .eq 5, 3) := by decide +kernel
theorem dX7_readyIn_31 : decode cX7_readyIn 31 = .ok (.iconst 0, 1) := by decide +kernel
theorem dX7_readyIn_32 : decode cX7_readyIn 32 = .ok (.ireturn, 1) := by decide +kernel
theorem dX7_readyIn_33 : decode cX7_readyIn 33 = .ok (.iconst 0, 1) := by decide +kernel
theorem dX7_readyIn_34 : decode cX7_readyIn 34 = .ok (.istore_n 2, 1) := by decide +kernel
theorem dX7_readyIn_35 : decode cX7_readyIn 35 = .ok (.iconst 0, 1) := by decide +kernel
theorem dX7_readyIn_36 : decode cX7_readyIn 36 = .ok (.istore_n 3, 1) := by decide +kernel
theorem dX7_readyIn_37 : decode cX7_readyIn 37 = .ok (.iload_n 3, 1) := by decide +kernel
theorem dX7_readyIn_38 : decode cX7_readyIn 38 = .ok (.aload_n 0, 1) := by decide +kernel
theorem dX7_readyIn_39 : decode cX7_readyIn 39 = .ok (.iload_n 1, 1) := by decide +kernel
theorem dX7_readyIn_40 : decode cX7_readyIn 40 = .ok (.invokevirtual 140, 3) := by decide +kernel
theorem dX7_readyIn_43 : decode cX7_readyIn 43 = .ok (.if_icmp .ge 24, 3) := by decide +kernel
theorem dX7_readyIn_46 : decode cX7_readyIn 46 = .ok (.iload_n 2, 1) := by decide +kernel
theorem dX7_readyIn_47 : decode cX7_readyIn 47 = .ok (.aload_n 0, 1) := by decide +kernel
theorem dX7_readyIn_48 : decode cX7_readyIn 48 = .ok (.aload_n 0, 1) := by decide +kernel
theorem dX7_readyIn_49 : decode cX7_readyIn 49 = .ok (.iload_n 1, 1) := by decide +kernel
theorem dX7_readyIn_50 : decode cX7_readyIn 50 = .ok (.iload_n 3, 1) := by decide +kernel
theorem dX7_readyIn_51 : decode cX7_readyIn 51 = .ok (.invokevirtual 143, 3) := by decide +kernel
theorem dX7_readyIn_54 : decode cX7_readyIn 54 = .ok (.invokevirtual 146, 3) := by decide +kernel
theorem dX7_readyIn_57 : decode cX7_readyIn 57 = .ok (.invokestatic 131, 3) := by decide +kernel
theorem dX7_readyIn_60 : decode cX7_readyIn 60 = .ok (.istore_n 2, 1) := by decide +kernel
theorem dX7_readyIn_61 : decode cX7_readyIn 61 = .ok (.iinc 3 1, 3) := by decide +kernel
theorem dX7_readyIn_64 : decode cX7_readyIn 64 = .ok (.goto (-27), 3) := by decide +kernel
theorem dX7_readyIn_67 : decode cX7_readyIn 67 = .ok (.iload_n 2, 1) := by decide +kernel
theorem dX7_readyIn_68 : decode cX7_readyIn 68 = .ok (.ireturn, 1) := by decide +kernel
theorem ab_k33_0 (K : ab_Kt) : ∀ q ∈ ab_l33_0, ab_OK K ab_mt ab_g33 q.1 q.2 := by
  unfold ab_l33_0
  exact List.forall_mem_cons.mpr ⟨ab_aload_n_ok dX7_readyIn_0 rfl, List.forall_mem_cons.mpr ⟨ab_iload_n_ok dX7_readyIn_1 rfl, List.forall_mem_cons.mpr ⟨ab_callS_ok' (G' := ab_g122) dX7_readyIn_2 ab_m122 (by decide) (by decide) (ab_l3 ab_w494 ab_w495 ab_w8) ab_w496 rfl ⟨by decide, by decide, by decide +kernel⟩, List.forall_mem_cons.mpr ⟨ab_if_ne_ok dX7_readyIn_5 (by decide), List.forall_mem_cons.mpr ⟨ab_iconst_ok dX7_readyIn_8 (by decide), List.forall_mem_cons.mpr ⟨ab_goto_ok dX7_readyIn_9 (by decide), List.forall_mem_cons.mpr ⟨ab_aload_n_ok dX7_readyIn_12 rfl, List.forall_mem_cons.mpr ⟨ab_iload_n_ok dX7_readyIn_13 rfl, List.forall_mem_cons.mpr ⟨ab_callV_ok' (G' := ab_g100) (C := RX7) (T := TX7) (N := 19) dX7_readyIn_14 ab_m100 rfl rfl (by decide) (by decide) (ab_l4 ab_w399 ab_w400 ab_w401 ab_w8) ab_w402 rfl ⟨by decide, by decide, by decide +kernel⟩, List.forall_mem_cons.mpr ⟨ab_if_ne_ok dX7_readyIn_17 (by decide), List.forall_mem_cons.mpr ⟨ab_iconst_ok dX7_readyIn_20 (by decide), List.forall_mem_cons.mpr ⟨ab_goto_ok dX7_readyIn_21 (by decide), List.forall_mem_cons.mpr ⟨ab_iconst_ok dX7_readyIn_24 (by decide), List.forall_mem_cons.mpr ⟨ab_callV_ok' (G' := ab_g92) (C := RX7) (T := TX7) (N := 19) dX7_readyIn_25 ab_m92 rfl rfl (by decide) (by decide) (ab_l4 ab_w364 ab_w365 ab_w366 ab_w8) ab_w367 rfl ⟨by decide, by decide, by decide +kernel⟩, List.forall_mem_cons.mpr ⟨ab_if_eq_ok dX7_readyIn_28 (by decide), List.forall_mem_cons.mpr ⟨ab_iconst_ok dX7_readyIn_31 (by decide), List.forall_mem_cons.mpr ⟨ab_iret_ok dX7_readyIn_32 rfl, List.forall_mem_cons.mpr ⟨ab_iconst_ok dX7_readyIn_33 (by decide), List.forall_mem_cons.mpr ⟨ab_istore_n_ok dX7_readyIn_34 rfl, List.forall_mem_cons.mpr ⟨ab_iconst_ok dX7_readyIn_35 (by decide), List.forall_mem_cons.mpr ⟨ab_istore_n_ok dX7_readyIn_36 rfl, List.forall_mem_cons.mpr ⟨ab_iload_n_ok dX7_readyIn_37 rfl, List.forall_mem_cons.mpr ⟨ab_aload_n_ok dX7_readyIn_38 rfl, List.forall_mem_cons.mpr ⟨ab_iload_n_ok dX7_readyIn_39 rfl, List.forall_mem_cons.mpr ⟨ab_callV_ok' (G' := ab_g100) (C := RX7) (T := TX7) (N := 19) dX7_readyIn_40 ab_m100 rfl rfl (by decide) (by decide) (ab_l4 ab_w399 ab_w400 ab_w401 ab_w8) ab_w402 rfl ⟨by decide, by decide, by decide +kernel⟩, List.forall_mem_cons.mpr ⟨ab_icmp_ge_ok dX7_readyIn_43 (by decide), List.forall_mem_cons.mpr ⟨ab_iload_n_ok dX7_readyIn_46 rfl, List.forall_mem_cons.mpr ⟨ab_aload_n_ok dX7_readyIn_47 rfl, List.forall_mem_cons.mpr ⟨ab_aload_n_ok dX7_readyIn_48 rfl, List.forall_mem_cons.mpr ⟨ab_iload_n_ok dX7_readyIn_49 rfl, List.forall_mem_cons.mpr ⟨ab_iload_n_ok dX7_readyIn_50 rfl, List.forall_mem_cons.mpr ⟨ab_callV_ok' (G' := ab_g123) (C := RX7) (T := TX7) (N := 19) dX7_readyIn_51 ab_m123 rfl rfl (by decide) (by decide) (ab_l4 ab_w497 ab_w498 ab_w499 ab_w8) ab_w500 rfl ⟨by decide, by decide, by decide +kernel⟩, List.forall_mem_cons.mpr ⟨ab_callV_ok' (G' := ab_g125) (C := RX7) (T := TX7) (N := 19) dX7_readyIn_54 ab_m125 rfl rfl (by decide) (by decide) (ab_l4 ab_w505 ab_w506 ab_w507 ab_w8) ab_w508 rfl ⟨by decide, by decide, by decide +kernel⟩, List.forall_mem_cons.mpr ⟨ab_callS_ok' (G' := ab_g126) dX7_readyIn_57 ab_m126 (by decide) (by decide) (ab_l3 ab_w509 ab_w510 ab_w8) ab_w511 rfl ⟨by decide, by decide, by decide +kernel⟩, List.forall_mem_cons.mpr ⟨ab_istore_n_ok dX7_readyIn_60 rfl, List.forall_mem_cons.mpr ⟨ab_iinc_ok dX7_readyIn_61 (by decide), List.forall_mem_cons.mpr ⟨ab_goto_ok dX7_readyIn_64 (by decide), List.forall_mem_cons.mpr ⟨ab_iload_n_ok dX7_readyIn_67 rfl, List.forall_mem_cons.mpr ⟨ab_iret_ok dX7_readyIn_68 rfl, fun _ h => absurd h List.not_mem_nil⟩⟩⟩⟩⟩⟩⟩⟩⟩⟩⟩⟩⟩⟩⟩⟩⟩⟩⟩⟩⟩⟩⟩⟩⟩⟩⟩⟩⟩⟩⟩⟩⟩⟩⟩⟩⟩⟩⟩
theorem ab_k33 (K : ab_Kt) : ∀ pc, ab_OK K ab_mt ab_g33 pc (ab_c33 pc) := ab_lk2_ok _ (List.forall_mem_cons.mpr ⟨ab_k33_0 K, fun _ h => absurd h List.not_mem_nil⟩)
theorem dL_inPress_0 : decode cL_inPress 0 = .ok (.aload_n 3, 1) := by decide +kernel
theorem dL_inPress_1 : decode cL_inPress 1 = .ok (.iconst 0, 1) := by decide +kernel
theorem dL_inPress_2 : decode cL_inPress 2 = .ok (.aload_n 0, 1) := by decide +kernel
theorem dL_inPress_3 : decode cL_inPress 3 = .ok (.iload_n 1, 1) := by decide +kernel
theorem dL_inPress_4 : decode cL_inPress 4 = .ok (.iload_n 2, 1) := by decide +kernel
theorem dL_inPress_5 : decode cL_inPress 5 = .ok (.invokevirtual 97, 3) := by decide +kernel
theorem dL_inPress_8 : decode cL_inPress 8 = .ok (.i2l, 1) := by decide +kernel
theorem dL_inPress_9 : decode cL_inPress 9 = .ok (.lastore, 1) := by decide +kernel
theorem dL_inPress_10 : decode cL_inPress 10 = .ok (.goto 11, 3) := by decide +kernel
theorem dL_inPress_13 : decode cL_inPress 13 = .ok (.astore 4, 2) := by decide +kernel
theorem dL_inPress_15 : decode cL_inPress 15 = .ok (.iconst 1, 1) := by decide +kernel
theorem dL_inPress_16 : decode cL_inPress 16 = .ok (.ireturn, 1) := by decide +kernel
theorem dL_inPress_17 : decode cL_inPress 17 = .ok (.astore 4, 2) := by decide +kernel
theorem dL_inPress_19 : decode cL_inPress 19 = .ok (.iconst 2, 1) := by decide +kernel
theorem dL_inPress_20 : decode cL_inPress 20 = .ok (.ireturn, 1) := by decide +kernel
theorem dL_inPress_21 : decode cL_inPress 21 = .ok (.iconst 0, 1) := by decide +kernel
theorem dL_inPress_22 : decode cL_inPress 22 = .ok (.ireturn, 1) := by decide +kernel
theorem ab_k34_0 (K : ab_Kt) : ∀ q ∈ ab_l34_0, ab_OK K ab_mt ab_g34 q.1 q.2 := by
  unfold ab_l34_0
  exact List.forall_mem_cons.mpr ⟨ab_aload_n_ok dL_inPress_0 rfl, List.forall_mem_cons.mpr ⟨ab_iconst_ok dL_inPress_1 (by decide), List.forall_mem_cons.mpr ⟨ab_aload_n_ok dL_inPress_2 rfl, List.forall_mem_cons.mpr ⟨ab_iload_n_ok dL_inPress_3 rfl, List.forall_mem_cons.mpr ⟨ab_iload_n_ok dL_inPress_4 rfl, List.forall_mem_cons.mpr ⟨ab_callV_ok' (G' := ab_g127) (C := RX6) (T := TX6) (N := 9) dL_inPress_5 ab_m127 rfl rfl (by decide) (by decide) (ab_l4 ab_w512 ab_w513 ab_w514 ab_w2) ab_w515 rfl ⟨by decide, by decide, by decide +kernel⟩, List.forall_mem_cons.mpr ⟨ab_i2l_ok dL_inPress_8, List.forall_mem_cons.mpr ⟨ab_last_ok dL_inPress_9, List.forall_mem_cons.mpr ⟨ab_goto_ok dL_inPress_10 (by decide), List.forall_mem_cons.mpr ⟨ab_astore_ok dL_inPress_13, List.forall_mem_cons.mpr ⟨ab_iconst_ok dL_inPress_15 (by decide), List.forall_mem_cons.mpr ⟨ab_iret_ok dL_inPress_16 rfl, List.forall_mem_cons.mpr ⟨ab_astore_ok dL_inPress_17, List.forall_mem_cons.mpr ⟨ab_iconst_ok dL_inPress_19 (by decide), List.forall_mem_cons.mpr ⟨ab_iret_ok dL_inPress_20 rfl, List.forall_mem_cons.mpr ⟨ab_iconst_ok dL_inPress_21 (by decide), List.forall_mem_cons.mpr ⟨ab_iret_ok dL_inPress_22 rfl, fun _ h => absurd h List.not_mem_nil⟩⟩⟩⟩⟩⟩⟩⟩⟩⟩⟩⟩⟩⟩⟩⟩⟩
theorem ab_k34 (K : ab_Kt) : ∀ pc, ab_OK K ab_mt ab_g34 pc (ab_c34 pc) := ab_lk2_ok _ (List.forall_mem_cons.mpr ⟨ab_k34_0 K, fun _ h => absurd h List.not_mem_nil⟩)
theorem dX7_inPress_0 : decode cX7_inPress 0 = .ok (.aload_n 0, 1) := by decide +kernel
theorem dX7_inPress_1 : decode cX7_inPress 1 = .ok (.iload_n 1, 1) := by decide +kernel
theorem dX7_inPress_2 : decode cX7_inPress 2 = .ok (.invokestatic 137, 3) := by decide +kernel
theorem dX7_inPress_5 : decode cX7_inPress 5 = .ok (.ifCond .ne 7, 3) := by decide +kernel
theorem dX7_inPress_8 : decode cX7_inPress 8 = .ok (.iconst 1, 1) := by decide +kernel
theorem dX7_inPress_9 : decode cX7_inPress 9 = .ok (.goto 23, 3) := by decide +kernel
theorem dX7_inPress_12 : decode cX7_inPress 12 = .ok (.iload_n 2, 1) := by decide +kernel
theorem dX7_inPress_13 : decode cX7_inPress 13 = .ok (.iconst 0, 1) := by decide +kernel
theorem dX7_inPress_14 : decode cX7_inPress 14 = .ok (.aload_n 0, 1) := by decide +kernel
theorem dX7_inPress_15 : decode cX7_inPress 15 = .ok (.iload_n 1, 1) := by decide +kernel
theorem dX7_inPress_16 : decode cX7_inPress 16 = .ok (.invokevirtual 140, 3) := by decide +kernel
theorem dX7_inPress_19 : decode cX7_inPress 19 = .ok (.iconst 1, 1) := by decide +kernel
theorem dX7_inPress_20 : decode cX7_inPress 20 = .ok (.isub, 1) := by decide +kernel
theorem dX7_inPress_21 : decode cX7_inPress 21 = .ok (.invokestatic 59, 3) := by decide +kernel
theorem dX7_inPress_24 : decode cX7_inPress 24 = .ok (.ifCond .eq 7, 3) := by decide +kernel
theorem dX7_inPress_27 : decode cX7_inPress 27 = .ok (.iconst 0, 1) := by decide +kernel
theorem dX7_inPress_28 : decode cX7_inPress 28 = .ok (.goto 4, 3) := by decide +kernel
theorem dX7_inPress_31 : decode cX7_inPress 31 = .ok (.iconst 2, 1) := by decide +kernel
theorem dX7_inPress_32 : decode cX7_inPress 32 = .ok (.invokevirtual 162, 3) := by decide +kernel
theorem dX7_inPress_35 : decode cX7_inPress 35 = .ok (.ifCond .eq 5, 3) := by decide +kernel
theorem dX7_inPress_38 : decode cX7_inPress 38 = .ok (.iconst 0, 1) := by decide +kernel
theorem dX7_inPress_39 : decode cX7_inPress 39 = .ok (.ireturn, 1) := by decide +kernel
theorem dX7_inPress_40 : decode cX7_inPress 40 = .ok (.aload_n 0, 1) := by decide +kernel
theorem dX7_inPress_41 : decode cX7_inPress 41 = .ok (.iload_n 1, 1) := by decide +kernel
theorem dX7_inPress_42 : decode cX7_inPress 42 = .ok (.iload_n 2, 1) := by decide +kernel
theorem dX7_inPress_43 : decode cX7_inPress 43 = .ok (.invokevirtual 143, 3) := by decide +kernel
theorem dX7_inPress_46 : decode cX7_inPress 46 = .ok (.ireturn, 1) := by decide +kernel
theorem ab_k35_0 (K : ab_Kt) : ∀ q ∈ ab_l35_0, ab_OK K ab_mt ab_g35 q.1 q.2 := by
  unfold ab_l35_0
  exact List.forall_mem_cons.mpr ⟨ab_aload_n_ok dX7_inPress_0 rfl, List.forall_mem_cons.mpr ⟨ab_iload_n_ok dX7_inPress_1 rfl, List.forall_mem_cons.mpr ⟨ab_callS_ok' (G' := ab_g122) dX7_inPress_2 ab_m122 (by decide) (by decide) (ab_l3 ab_w494 ab_w495 ab_w8) ab_w496 rfl ⟨by decide, by decide, by decide +kernel⟩, List.forall_mem_cons.mpr ⟨ab_if_ne_ok dX7_inPress_5 (by decide), List.forall_mem_cons.mpr ⟨ab_iconst_ok dX7_inPress_8 (by decide), List.forall_mem_cons.mpr ⟨ab_goto_ok dX7_inPress_9 (by decide), List.forall_mem_cons.mpr ⟨ab_iload_n_ok dX7_inPress_12 rfl, List.forall_mem_cons.mpr ⟨ab_iconst_ok dX7_inPress_13 (by decide), List.forall_mem_cons.mpr ⟨ab_aload_n_ok dX7_inPress_14 rfl, List.forall_mem_cons.mpr ⟨ab_iload_n_ok dX7_inPress_15 rfl, List.forall_mem_cons.mpr ⟨ab_callV_ok' (G' := ab_g100) (C := RX7) (T := TX7) (N := 19) dX7_inPress_16 ab_m100 rfl rfl (by decide) (by decide) (ab_l4 ab_w399 ab_w400 ab_w401 ab_w8) ab_w402 rfl ⟨by decide, by decide, by decide +kernel⟩, List.forall_mem_cons.mpr ⟨ab_iconst_ok dX7_inPress_19 (by decide), List.forall_mem_cons.mpr ⟨ab_isub_ok dX7_inPress_20, List.forall_mem_cons.mpr ⟨ab_callS_ok' (G' := ab_g97) dX7_inPress_21 ab_m97 (by decide) (by decide) (ab_l3 ab_w387 ab_w388 ab_w8) ab_w389 rfl ⟨by decide, by decide, by decide +kernel⟩, List.forall_mem_cons.mpr ⟨ab_if_eq_ok dX7_inPress_24 (by decide), List.forall_mem_cons.mpr ⟨ab_iconst_ok dX7_inPress_27 (by decide), List.forall_mem_cons.mpr ⟨ab_goto_ok dX7_inPress_28 (by decide), List.forall_mem_cons.mpr ⟨ab_iconst_ok dX7_inPress_31 (by decide), List.forall_mem_cons.mpr ⟨ab_callV_ok' (G' := ab_g92) (C := RX7) (T := TX7) (N := 19) dX7_inPress_32 ab_m92 rfl rfl (by decide) (by decide) (ab_l4 ab_w364 ab_w365 ab_w366 ab_w8) ab_w367 rfl ⟨by decide, by decide, by decide +kernel⟩, List.forall_mem_cons.mpr ⟨ab_if_eq_ok dX7_inPress_35 (by decide), List.forall_mem_cons.mpr ⟨ab_iconst_ok dX7_inPress_38 (by decide), List.forall_mem_cons.mpr ⟨ab_iret_ok dX7_inPress_39 rfl, List.forall_mem_cons.mpr ⟨ab_aload_n_ok dX7_inPress_40 rfl, List.forall_mem_cons.mpr ⟨ab_iload_n_ok dX7_inPress_41 rfl, List.forall_mem_cons.mpr ⟨ab_iload_n_ok dX7_inPress_42 rfl, List.forall_mem_cons.mpr ⟨ab_callV_ok' (G' := ab_g123) (C := RX7) (T := TX7) (N := 19) dX7_inPress_43 ab_m123 rfl rfl (by decide) (by decide) (ab_l4 ab_w497 ab_w498 ab_w499 ab_w8) ab_w500 rfl ⟨by decide, by decide, by decide +kernel⟩, List.forall_mem_cons.mpr ⟨ab_iret_ok dX7_inPress_46 rfl, fun _ h => absurd h List.not_mem_nil⟩⟩⟩⟩⟩⟩⟩⟩⟩⟩⟩⟩⟩⟩⟩⟩⟩⟩⟩⟩⟩⟩⟩⟩⟩⟩⟩
theorem ab_k35 (K : ab_Kt) : ∀ pc, ab_OK K ab_mt ab_g35 pc (ab_c35 pc) := ab_lk2_ok _ (List.forall_mem_cons.mpr ⟨ab_k35_0 K, fun _ h => absurd h List.not_mem_nil⟩)
theorem dL_hasSlip_0 : decode cL_hasSlip 0 = .ok (.aload_n 3, 1) := by decide +kernel
theorem dL_hasSlip_1 : decode cL_hasSlip 1 = .ok (.iconst 0, 1) := by decide +kernel
theorem dL_hasSlip_2 : decode cL_hasSlip 2 = .ok (.aload_n 0, 1) := by decide +kernel
theorem dL_hasSlip_3 : decode cL_hasSlip 3 = .ok (.iload_n 1, 1) := by decide +kernel
theorem dL_hasSlip_4 : decode cL_hasSlip 4 = .ok (.iload_n 2, 1) := by decide +kernel
theorem dL_hasSlip_5 : decode cL_hasSlip 5 = .ok (.invokevirtual 93, 3) := by decide +kernel
theorem dL_hasSlip_8 : decode cL_hasSlip 8 = .ok (.ifCond .eq 7, 3) := by decide +kernel
theorem dL_hasSlip_11 : decode cL_hasSlip 11 = .ok (.lconst 1, 1) := by decide +kernel
theorem dL_hasSlip_12 : decode cL_hasSlip 12 = .ok (.goto 4, 3) := by decide +kernel
theorem dL_hasSlip_15 : decode cL_hasSlip 15 = .ok (.lconst 0, 1) := by decide +kernel
theorem dL_hasSlip_16 : decode cL_hasSlip 16 = .ok (.lastore, 1) := by decide +kernel
theorem dL_hasSlip_17 : decode cL_hasSlip 17 = .ok (.goto 7, 3) := by decide +kernel
theorem dL_hasSlip_20 : decode cL_hasSlip 20 = .ok (.astore 4, 2) := by decide +kernel
theorem dL_hasSlip_22 : decode cL_hasSlip 22 = .ok (.iconst 1, 1) := by decide +kernel
theorem dL_hasSlip_23 : decode cL_hasSlip 23 = .ok (.ireturn, 1) := by decide +kernel
theorem dL_hasSlip_24 : decode cL_hasSlip 24 = .ok (.iconst 0, 1) := by decide +kernel
theorem dL_hasSlip_25 : decode cL_hasSlip 25 = .ok (.ireturn, 1) := by decide +kernel
theorem ab_k36_0 (K : ab_Kt) : ∀ q ∈ ab_l36_0, ab_OK K ab_mt ab_g36 q.1 q.2 := by
  unfold ab_l36_0
  exact List.forall_mem_cons.mpr ⟨ab_aload_n_ok dL_hasSlip_0 rfl, List.forall_mem_cons.mpr ⟨ab_iconst_ok dL_hasSlip_1 (by decide), List.forall_mem_cons.mpr ⟨ab_aload_n_ok dL_hasSlip_2 rfl, List.forall_mem_cons.mpr ⟨ab_iload_n_ok dL_hasSlip_3 rfl, List.forall_mem_cons.mpr ⟨ab_iload_n_ok dL_hasSlip_4 rfl, List.forall_mem_cons.mpr ⟨ab_callV_ok' (G' := ab_g128) (C := RX6) (T := TX6) (N := 9) dL_hasSlip_5 ab_m128 rfl rfl (by decide) (by decide) (ab_l4 ab_w516 ab_w517 ab_w518 ab_w2) ab_w519 rfl ⟨by decide, by decide, by decide +kernel⟩, List.forall_mem_cons.mpr ⟨ab_if_eq_ok dL_hasSlip_8 (by decide), List.forall_mem_cons.mpr ⟨ab_lconst_ok dL_hasSlip_11 (by decide), List.forall_mem_cons.mpr ⟨ab_goto_ok dL_hasSlip_12 (by decide), List.forall_mem_cons.mpr ⟨ab_lconst_ok dL_hasSlip_15 (by decide), List.forall_mem_cons.mpr ⟨ab_last_ok dL_hasSlip_16, List.forall_mem_cons.mpr ⟨ab_goto_ok dL_hasSlip_17 (by decide), List.forall_mem_cons.mpr ⟨ab_astore_ok dL_hasSlip_20, List.forall_mem_cons.mpr ⟨ab_iconst_ok dL_hasSlip_22 (by decide), List.forall_mem_cons.mpr ⟨ab_iret_ok dL_hasSlip_23 rfl, List.forall_mem_cons.mpr ⟨ab_iconst_ok dL_hasSlip_24 (by decide), List.forall_mem_cons.mpr ⟨ab_iret_ok dL_hasSlip_25 rfl, fun _ h => absurd h List.not_mem_nil⟩⟩⟩⟩⟩⟩⟩⟩⟩⟩⟩⟩⟩⟩⟩⟩⟩
theorem ab_k36 (K : ab_Kt) : ∀ pc, ab_OK K ab_mt ab_g36 pc (ab_c36 pc) := ab_lk2_ok _ (List.forall_mem_cons.mpr ⟨ab_k36_0 K, fun _ h => absurd h List.not_mem_nil⟩)
theorem dX7_hasSlip_0 : decode cX7_hasSlip 0 = .ok (.aload_n 0, 1) := by decide +kernel
theorem dX7_hasSlip_1 : decode cX7_hasSlip 1 = .ok (.aload_n 0, 1) := by decide +kernel
theorem dX7_hasSlip_2 : decode cX7_hasSlip 2 = .ok (.iload_n 1, 1) := by decide +kernel
theorem dX7_hasSlip_3 : decode cX7_hasSlip 3 = .ok (.iload_n 2, 1) := by decide +kernel
theorem dX7_hasSlip_4 : decode cX7_hasSlip 4 = .ok (.invokevirtual 165, 3) := by decide +kernel
theorem dX7_hasSlip_7 : decode cX7_hasSlip 7 = .ok (.ifCond .eq 7, 3) := by decide +kernel
theorem dX7_hasSlip_10 : decode cX7_hasSlip 10 = .ok (.iconst 0, 1) := by decide +kernel
theorem dX7_hasSlip_11 : decode cX7_hasSlip 11 = .ok (.goto 4, 3) := by decide +kernel
theorem dX7_hasSlip_14 : decode cX7_hasSlip 14 = .ok (.iconst 1, 1) := by decide +kernel
theorem dX7_hasSlip_15 : decode cX7_hasSlip 15 = .ok (.invokevirtual 162, 3) := by decide +kernel
theorem dX7_hasSlip_18 : decode cX7_hasSlip 18 = .ok (.ifCond .ne 16, 3) := by decide +kernel
theorem dX7_hasSlip_21 : decode cX7_hasSlip 21 = .ok (.aload_n 0, 1) := by decide +kernel
theorem dX7_hasSlip_22 : decode cX7_hasSlip 22 = .ok (.iload_n 1, 1) := by decide +kernel
theorem dX7_hasSlip_23 : decode cX7_hasSlip 23 = .ok (.iload_n 2, 1) := by decide +kernel
theorem dX7_hasSlip_24 : decode cX7_hasSlip 24 = .ok (.invokevirtual 91, 3) := by decide +kernel
theorem dX7_hasSlip_27 : decode cX7_hasSlip 27 = .ok (.ifCond .eq 7, 3) := by decide +kernel
theorem dX7_hasSlip_30 : decode cX7_hasSlip 30 = .ok (.iconst 1, 1) := by decide +kernel
theorem dX7_hasSlip_31 : decode cX7_hasSlip 31 = .ok (.goto 4, 3) := by decide +kernel
theorem dX7_hasSlip_34 : decode cX7_hasSlip 34 = .ok (.iconst 0, 1) := by decide +kernel
theorem dX7_hasSlip_35 : decode cX7_hasSlip 35 = .ok (.ireturn, 1) := by decide +kernel
theorem ab_k37_0 (K : ab_Kt) : ∀ q ∈ ab_l37_0, ab_OK K ab_mt ab_g37 q.1 q.2 := by
  unfold ab_l37_0
  exact List.forall_mem_cons.mpr ⟨ab_aload_n_ok dX7_hasSlip_0 rfl, List.forall_mem_cons.mpr ⟨ab_aload_n_ok dX7_hasSlip_1 rfl, List.forall_mem_cons.mpr ⟨ab_iload_n_ok dX7_hasSlip_2 rfl, List.forall_mem_cons.mpr ⟨ab_iload_n_ok dX7_hasSlip_3 rfl, List.forall_mem_cons.mpr ⟨ab_callV_ok' (G' := ab_g129) (C := RX7) (T := TX7) (N := 19) dX7_hasSlip_4 ab_m129 rfl rfl (by decide) (by decide) (ab_l4 ab_w520 ab_w521 ab_w522 ab_w8) ab_w523 rfl ⟨by decide, by decide, by decide +kernel⟩, List.forall_mem_cons.mpr ⟨ab_if_eq_ok dX7_hasSlip_7 (by decide), List.forall_mem_cons.mpr ⟨ab_iconst_ok dX7_hasSlip_10 (by decide), List.forall_mem_cons.mpr ⟨ab_goto_ok dX7_hasSlip_11 (by decide), List.forall_mem_cons.mpr ⟨ab_iconst_ok dX7_hasSlip_14 (by decide), List.forall_mem_cons.mpr ⟨ab_callV_ok' (G' := ab_g92) (C := RX7) (T := TX7) (N := 19) dX7_hasSlip_15 ab_m92 rfl rfl (by decide) (by decide) (ab_l4 ab_w364 ab_w365 ab_w366 ab_w8) ab_w367 rfl ⟨by decide, by decide, by decide +kernel⟩, List.forall_mem_cons.mpr ⟨ab_if_ne_ok dX7_hasSlip_18 (by decide), List.forall_mem_cons.mpr ⟨ab_aload_n_ok dX7_hasSlip_21 rfl, List.forall_mem_cons.mpr ⟨ab_iload_n_ok dX7_hasSlip_22 rfl, List.forall_mem_cons.mpr ⟨ab_iload_n_ok dX7_hasSlip_23 rfl, List.forall_mem_cons.mpr ⟨ab_callV_ok' (G' := ab_g130) (C := RX7) (T := TX7) (N := 19) dX7_hasSlip_24 ab_m130 rfl rfl (by decide) (by decide) (ab_l4 ab_w524 ab_w525 ab_w526 ab_w8) ab_w527 rfl ⟨by decide, by decide, by decide +kernel⟩, List.forall_mem_cons.mpr ⟨ab_if_eq_ok dX7_hasSlip_27 (by decide), List.forall_mem_cons.mpr ⟨ab_iconst_ok dX7_hasSlip_30 (by decide), List.forall_mem_cons.mpr ⟨ab_goto_ok dX7_hasSlip_31 (by decide), List.forall_mem_cons.mpr ⟨ab_iconst_ok dX7_hasSlip_34 (by decide), List.forall_mem_cons.mpr ⟨ab_zret_ok dX7_hasSlip_35 rfl, fun _ h => absurd h List.not_mem_nil⟩⟩⟩⟩⟩⟩⟩⟩⟩⟩⟩⟩⟩⟩⟩⟩⟩⟩⟩⟩
theorem ab_k37 (K : ab_Kt) : ∀ pc, ab_OK K ab_mt ab_g37 pc (ab_c37 pc) := ab_lk2_ok _ (List.forall_mem_cons.mpr ⟨ab_k37_0 K, fun _ h => absurd h List.not_mem_nil⟩)
theorem dL_threadFor_0 : decode cL_threadFor 0 = .ok (.aload_n 2, 1) := by decide +kernel
theorem dL_threadFor_1 : decode cL_threadFor 1 = .ok (.iconst 0, 1) := by decide +kernel
theorem dL_threadFor_2 : decode cL_threadFor 2 = .ok (.aload_n 0, 1) := by decide +kernel
theorem dL_threadFor_3 : decode cL_threadFor 3 = .ok (.iload_n 1, 1) := by decide +kernel
theorem dL_threadFor_4 : decode cL_threadFor 4 = .ok (.invokevirtual 90, 3) := by decide +kernel
theorem dL_threadFor_7 : decode cL_threadFor 7 = .ok (.i2l, 1) := by decide +kernel
theorem dL_threadFor_8 : decode cL_threadFor 8 = .ok (.lastore, 1) := by decide +kernel
theorem dL_threadFor_9 : decode cL_threadFor 9 = .ok (.goto 6, 3) := by decide +kernel
theorem dL_threadFor_12 : decode cL_threadFor 12 = .ok (.astore_n 3, 1) := by decide +kernel
theorem dL_threadFor_13 : decode cL_threadFor 13 = .ok (.iconst 1, 1) := by decide +kernel
theorem dL_threadFor_14 : decode cL_threadFor 14 = .ok (.ireturn, 1) := by decide +kernel
theorem dL_threadFor_15 : decode cL_threadFor 15 = .ok (.iconst 0, 1) := by decide +kernel
theorem dL_threadFor_16 : decode cL_threadFor 16 = .ok (.ireturn, 1) := by decide +kernel
theorem ab_k38_0 (K : ab_Kt) : ∀ q ∈ ab_l38_0, ab_OK K ab_mt ab_g38 q.1 q.2 := by
  unfold ab_l38_0
  exact List.forall_mem_cons.mpr ⟨ab_aload_n_ok dL_threadFor_0 rfl, List.forall_mem_cons.mpr ⟨ab_iconst_ok dL_threadFor_1 (by decide), List.forall_mem_cons.mpr ⟨ab_aload_n_ok dL_threadFor_2 rfl, List.forall_mem_cons.mpr ⟨ab_iload_n_ok dL_threadFor_3 rfl, List.forall_mem_cons.mpr ⟨ab_callV_ok' (G' := ab_g131) (C := RX6) (T := TX6) (N := 9) dL_threadFor_4 ab_m131 rfl rfl (by decide) (by decide) (ab_l4 ab_w528 ab_w529 ab_w530 ab_w2) ab_w531 rfl ⟨by decide, by decide, by decide +kernel⟩, List.forall_mem_cons.mpr ⟨ab_i2l_ok dL_threadFor_7, List.forall_mem_cons.mpr ⟨ab_last_ok dL_threadFor_8, List.forall_mem_cons.mpr ⟨ab_goto_ok dL_threadFor_9 (by decide), List.forall_mem_cons.mpr ⟨ab_astore_n_ok dL_threadFor_12 rfl, List.forall_mem_cons.mpr ⟨ab_iconst_ok dL_threadFor_13 (by decide), List.forall_mem_cons.mpr ⟨ab_iret_ok dL_threadFor_14 rfl, List.forall_mem_cons.mpr ⟨ab_iconst_ok dL_threadFor_15 (by decide), List.forall_mem_cons.mpr ⟨ab_iret_ok dL_threadFor_16 rfl, fun _ h => absurd h List.not_mem_nil⟩⟩⟩⟩⟩⟩⟩⟩⟩⟩⟩⟩⟩
theorem ab_k38 (K : ab_Kt) : ∀ pc, ab_OK K ab_mt ab_g38 pc (ab_c38 pc) := ab_lk2_ok _ (List.forall_mem_cons.mpr ⟨ab_k38_0 K, fun _ h => absurd h List.not_mem_nil⟩)
theorem dX7_threadFor_0 : decode cX7_threadFor 0 = .ok (.aload_n 0, 1) := by decide +kernel
theorem dX7_threadFor_1 : decode cX7_threadFor 1 = .ok (.aload_n 0, 1) := by decide +kernel
theorem dX7_threadFor_2 : decode cX7_threadFor 2 = .ok (.iload_n 1, 1) := by decide +kernel
theorem dX7_threadFor_3 : decode cX7_threadFor 3 = .ok (.invokevirtual 94, 3) := by decide +kernel
theorem dX7_threadFor_6 : decode cX7_threadFor 6 = .ok (.ifCond .eq 7, 3) := by decide +kernel
theorem dX7_threadFor_9 : decode cX7_threadFor 9 = .ok (.iconst 0, 1) := by decide +kernel
theorem dX7_threadFor_10 : decode cX7_threadFor 10 = .ok (.goto 4, 3) := by decide +kernel
theorem dX7_threadFor_13 : decode cX7_threadFor 13 = .ok (.iconst 1, 1) := by decide +kernel
theorem dX7_threadFor_14 : decode cX7_threadFor 14 = .ok (.invokevirtual 162, 3) := by decide +kernel
theorem dX7_threadFor_17 : decode cX7_threadFor 17 = .ok (.ifCond .eq 5, 3) := by decide +kernel
theorem dX7_threadFor_20 : decode cX7_threadFor 20 = .ok (.iconst 0, 1) := by decide +kernel
theorem dX7_threadFor_21 : decode cX7_threadFor 21 = .ok (.ireturn, 1) := by decide +kernel
theorem dX7_threadFor_22 : decode cX7_threadFor 22 = .ok (.iconst 0, 1) := by decide +kernel
theorem dX7_threadFor_23 : decode cX7_threadFor 23 = .ok (.istore_n 2, 1) := by decide +kernel
theorem dX7_threadFor_24 : decode cX7_threadFor 24 = .ok (.aload_n 0, 1) := by decide +kernel
theorem dX7_threadFor_25 : decode cX7_threadFor 25 = .ok (.iload_n 1, 1) := by decide +kernel
theorem dX7_threadFor_26 : decode cX7_threadFor 26 = .ok (.iconst 4, 1) := by decide +kernel
theorem dX7_threadFor_27 : decode cX7_threadFor 27 = .ok (.invokevirtual 63, 3) := by decide +kernel
theorem dX7_threadFor_30 : decode cX7_threadFor 30 = .ok (.istore_n 3, 1) := by decide +kernel
theorem dX7_threadFor_31 : decode cX7_threadFor 31 = .ok (.iload_n 3, 1) := by decide +kernel
theorem dX7_threadFor_32 : decode cX7_threadFor 32 = .ok (.aload_n 0, 1) := by decide +kernel
theorem dX7_threadFor_33 : decode cX7_threadFor 33 = .ok (.iload_n 1, 1) := by decide +kernel
theorem dX7_threadFor_34 : decode cX7_threadFor 34 = .ok (.iconst 3, 1) := by decide +kernel
theorem dX7_threadFor_35 : decode cX7_threadFor 35 = .ok (.invokevirtual 63, 3) := by decide +kernel
theorem dX7_threadFor_38 : decode cX7_threadFor 38 = .ok (.if_icmp .ge 18, 3) := by decide +kernel
theorem dX7_threadFor_41 : decode cX7_threadFor 41 = .ok (.iload_n 2, 1) := by decide +kernel
theorem dX7_threadFor_42 : decode cX7_threadFor 42 = .ok (.aload_n 0, 1) := by decide +kernel
theorem dX7_threadFor_43 : decode cX7_threadFor 43 = .ok (.iload_n 1, 1) := by decide +kernel
theorem dX7_threadFor_44 : decode cX7_threadFor 44 = .ok (.iload_n 3, 1) := by decide +kernel
theorem dX7_threadFor_45 : decode cX7_threadFor 45 = .ok (.invokevirtual 128, 3) := by decide +kernel
theorem dX7_threadFor_48 : decode cX7_threadFor 48 = .ok (.iadd, 1) := by decide +kernel
theorem dX7_threadFor_49 : decode cX7_threadFor 49 = .ok (.istore_n 2, 1) := by decide +kernel
theorem dX7_threadFor_50 : decode cX7_threadFor 50 = .ok (.iinc 3 1, 3) := by decide +kernel
theorem dX7_threadFor_53 : decode cX7_threadFor 53 = .ok (.goto (-22), 3) := by decide +kernel
theorem dX7_threadFor_56 : decode cX7_threadFor 56 = .ok (.iload_n 2, 1) := by decide +kernel
theorem dX7_threadFor_57 : decode cX7_threadFor 57 = .ok (.ireturn, 1) := by decide +kernel
theorem ab_k39_0 (K : ab_Kt) : ∀ q ∈ ab_l39_0, ab_OK K ab_mt ab_g39 q.1 q.2 := by
  unfold ab_l39_0
  exact List.forall_mem_cons.mpr ⟨ab_aload_n_ok dX7_threadFor_0 rfl, List.forall_mem_cons.mpr ⟨ab_aload_n_ok dX7_threadFor_1 rfl, List.forall_mem_cons.mpr ⟨ab_iload_n_ok dX7_threadFor_2 rfl, List.forall_mem_cons.mpr ⟨ab_callV_ok' (G' := ab_g103) (C := RX7) (T := TX7) (N := 19) dX7_threadFor_3 ab_m103 rfl rfl (by decide) (by decide) (ab_l4 ab_w411 ab_w412 ab_w413 ab_w8) ab_w414 rfl ⟨by decide, by decide, by decide +kernel⟩, List.forall_mem_cons.mpr ⟨ab_if_eq_ok dX7_threadFor_6 (by decide), List.forall_mem_cons.mpr ⟨ab_iconst_ok dX7_threadFor_9 (by decide), List.forall_mem_cons.mpr ⟨ab_goto_ok dX7_threadFor_10 (by decide), List.forall_mem_cons.mpr ⟨ab_iconst_ok dX7_threadFor_13 (by decide), List.forall_mem_cons.mpr ⟨ab_callV_ok' (G' := ab_g92) (C := RX7) (T := TX7) (N := 19) dX7_threadFor_14 ab_m92 rfl rfl (by decide) (by decide) (ab_l4 ab_w364 ab_w365 ab_w366 ab_w8) ab_w367 rfl ⟨by decide, by decide, by decide +kernel⟩, List.forall_mem_cons.mpr ⟨ab_if_eq_ok dX7_threadFor_17 (by decide), List.forall_mem_cons.mpr ⟨ab_iconst_ok dX7_threadFor_20 (by decide), List.forall_mem_cons.mpr ⟨ab_iret_ok dX7_threadFor_21 rfl, List.forall_mem_cons.mpr ⟨ab_iconst_ok dX7_threadFor_22 (by decide), List.forall_mem_cons.mpr ⟨ab_istore_n_ok dX7_threadFor_23 rfl, List.forall_mem_cons.mpr ⟨ab_aload_n_ok dX7_threadFor_24 rfl, List.forall_mem_cons.mpr ⟨ab_iload_n_ok dX7_threadFor_25 rfl, List.forall_mem_cons.mpr ⟨ab_iconst_ok dX7_threadFor_26 (by decide), List.forall_mem_cons.mpr ⟨ab_callV_ok' (G' := ab_g110) (C := RX7) (T := TX7) (N := 19) dX7_threadFor_27 ab_m110 rfl rfl (by decide) (by decide) (ab_l4 ab_w440 ab_w441 ab_w442 ab_w8) ab_w443 rfl ⟨by decide, by decide, by decide +kernel⟩, List.forall_mem_cons.mpr ⟨ab_istore_n_ok dX7_threadFor_30 rfl, List.forall_mem_cons.mpr ⟨ab_iload_n_ok dX7_threadFor_31 rfl, List.forall_mem_cons.mpr ⟨ab_aload_n_ok dX7_threadFor_32 rfl, List.forall_mem_cons.mpr ⟨ab_iload_n_ok dX7_threadFor_33 rfl, List.forall_mem_cons.mpr ⟨ab_iconst_ok dX7_threadFor_34 (by decide), List.forall_mem_cons.mpr ⟨ab_callV_ok' (G' := ab_g110) (C := RX7) (T := TX7) (N := 19) dX7_threadFor_35 ab_m110 rfl rfl (by decide) (by decide) (ab_l4 ab_w440 ab_w441 ab_w442 ab_w8) ab_w443 rfl ⟨by decide, by decide, by decide +kernel⟩, List.forall_mem_cons.mpr ⟨ab_icmp_ge_ok dX7_threadFor_38 (by decide), List.forall_mem_cons.mpr ⟨ab_iload_n_ok dX7_threadFor_41 rfl, List.forall_mem_cons.mpr ⟨ab_aload_n_ok dX7_threadFor_42 rfl, List.forall_mem_cons.mpr ⟨ab_iload_n_ok dX7_threadFor_43 rfl, List.forall_mem_cons.mpr ⟨ab_iload_n_ok dX7_threadFor_44 rfl, List.forall_mem_cons.mpr ⟨ab_callV_ok' (G' := ab_g132) (C := RX7) (T := TX7) (N := 19) dX7_threadFor_45 ab_m132 rfl rfl (by decide) (by decide) (ab_l4 ab_w532 ab_w533 ab_w534 ab_w8) ab_w535 rfl ⟨by decide, by decide, by decide +kernel⟩, List.forall_mem_cons.mpr ⟨ab_iadd_ok dX7_threadFor_48, List.forall_mem_cons.mpr ⟨ab_istore_n_ok dX7_threadFor_49 rfl, List.forall_mem_cons.mpr ⟨ab_iinc_ok dX7_threadFor_50 (by decide), List.forall_mem_cons.mpr ⟨ab_goto_ok dX7_threadFor_53 (by decide), List.forall_mem_cons.mpr ⟨ab_iload_n_ok dX7_threadFor_56 rfl, List.forall_mem_cons.mpr ⟨ab_iret_ok dX7_threadFor_57 rfl, fun _ h => absurd h List.not_mem_nil⟩⟩⟩⟩⟩⟩⟩⟩⟩⟩⟩⟩⟩⟩⟩⟩⟩⟩⟩⟩⟩⟩⟩⟩⟩⟩⟩⟩⟩⟩⟩⟩⟩⟩⟩⟩
theorem ab_k39 (K : ab_Kt) : ∀ pc, ab_OK K ab_mt ab_g39 pc (ab_c39 pc) := ab_lk2_ok _ (List.forall_mem_cons.mpr ⟨ab_k39_0 K, fun _ h => absurd h List.not_mem_nil⟩)
theorem dL_rightPlace_0 : decode cL_rightPlace 0 = .ok (.aload_n 3, 1) := by decide +kernel
theorem dL_rightPlace_1 : decode cL_rightPlace 1 = .ok (.iconst 0, 1) := by decide +kernel
theorem dL_rightPlace_2 : decode cL_rightPlace 2 = .ok (.aload_n 0, 1) := by decide +kernel
theorem dL_rightPlace_3 : decode cL_rightPlace 3 = .ok (.iload_n 1, 1) := by decide +kernel
theorem dL_rightPlace_4 : decode cL_rightPlace 4 = .ok (.iload_n 2, 1) := by decide +kernel
theorem dL_rightPlace_5 : decode cL_rightPlace 5 = .ok (.invokevirtual 87, 3) := by decide +kernel
theorem dL_rightPlace_8 : decode cL_rightPlace 8 = .ok (.i2l, 1) := by decide +kernel
theorem dL_rightPlace_9 : decode cL_rightPlace 9 = .ok (.lastore, 1) := by decide +kernel
theorem dL_rightPlace_10 : decode cL_rightPlace 10 = .ok (.goto 7, 3) := by decide +kernel
theorem dL_rightPlace_13 : decode cL_rightPlace 13 = .ok (.astore 4, 2) := by decide +kernel
theorem dL_rightPlace_15 : decode cL_rightPlace 15 = .ok (.iconst 1, 1) := by decide +kernel
theorem dL_rightPlace_16 : decode cL_rightPlace 16 = .ok (.ireturn, 1) := by decide +kernel
theorem dL_rightPlace_17 : decode cL_rightPlace 17 = .ok (.iconst 0, 1) := by decide +kernel
theorem dL_rightPlace_18 : decode cL_rightPlace 18 = .ok (.ireturn, 1) := by decide +kernel
theorem ab_k40_0 (K : ab_Kt) : ∀ q ∈ ab_l40_0, ab_OK K ab_mt ab_g40 q.1 q.2 := by
  unfold ab_l40_0
  exact List.forall_mem_cons.mpr ⟨ab_aload_n_ok dL_rightPlace_0 rfl, List.forall_mem_cons.mpr ⟨ab_iconst_ok dL_rightPlace_1 (by decide), List.forall_mem_cons.mpr ⟨ab_aload_n_ok dL_rightPlace_2 rfl, List.forall_mem_cons.mpr ⟨ab_iload_n_ok dL_rightPlace_3 rfl, List.forall_mem_cons.mpr ⟨ab_iload_n_ok dL_rightPlace_4 rfl, List.forall_mem_cons.mpr ⟨ab_callV_ok' (G' := ab_g133) (C := RX6) (T := TX6) (N := 9) dL_rightPlace_5 ab_m133 rfl rfl (by decide) (by decide) (ab_l4 ab_w536 ab_w537 ab_w538 ab_w2) ab_w539 rfl ⟨by decide, by decide, by decide +kernel⟩, List.forall_mem_cons.mpr ⟨ab_i2l_ok dL_rightPlace_8, List.forall_mem_cons.mpr ⟨ab_last_ok dL_rightPlace_9, List.forall_mem_cons.mpr ⟨ab_goto_ok dL_rightPlace_10 (by decide), List.forall_mem_cons.mpr ⟨ab_astore_ok dL_rightPlace_13, List.forall_mem_cons.mpr ⟨ab_iconst_ok dL_rightPlace_15 (by decide), List.forall_mem_cons.mpr ⟨ab_iret_ok dL_rightPlace_16 rfl, List.forall_mem_cons.mpr ⟨ab_iconst_ok dL_rightPlace_17 (by decide), List.forall_mem_cons.mpr ⟨ab_iret_ok dL_rightPlace_18 rfl, fun _ h => absurd h List.not_mem_nil⟩⟩⟩⟩⟩⟩⟩⟩⟩⟩⟩⟩⟩⟩
theorem ab_k40 (K : ab_Kt) : ∀ pc, ab_OK K ab_mt ab_g40 pc (ab_c40 pc) := ab_lk2_ok _ (List.forall_mem_cons.mpr ⟨ab_k40_0 K, fun _ h => absurd h List.not_mem_nil⟩)
theorem dX7_rightPlace_0 : decode cX7_rightPlace 0 = .ok (.aload_n 0, 1) := by decide +kernel
theorem dX7_rightPlace_1 : decode cX7_rightPlace 1 = .ok (.aload_n 0, 1) := by decide +kernel
theorem dX7_rightPlace_2 : decode cX7_rightPlace 2 = .ok (.iload_n 1, 1) := by decide +kernel
theorem dX7_rightPlace_3 : decode cX7_rightPlace 3 = .ok (.invokevirtual 94, 3) := by decide +kernel
theorem dX7_rightPlace_6 : decode cX7_rightPlace 6 = .ok (.ifCond .eq 16, 3) := by decide +kernel
theorem dX7_rightPlace_9 : decode cX7_rightPlace 9 = .ok (.aload_n 0, 1) := by decide +kernel
theorem dX7_rightPlace_10 : decode cX7_rightPlace 10 = .ok (.iload_n 1, 1) := by decide +kernel
theorem dX7_rightPlace_11 : decode cX7_rightPlace 11 = .ok (.iload_n 2, 1) := by decide +kernel
theorem dX7_rightPlace_12 : decode cX7_rightPlace 12 = .ok (.invokevirtual 119, 3) := by decide +kernel
theorem dX7_rightPlace_15 : decode cX7_rightPlace 15 = .ok (.ifCond .eq 7, 3) := by decide +kernel
theorem dX7_rightPlace_18 : decode cX7_rightPlace 18 = .ok (.iconst 0, 1) := by decide +kernel
theorem dX7_rightPlace_19 : decode cX7_rightPlace 19 = .ok (.goto 4, 3) := by decide +kernel
theorem dX7_rightPlace_22 : decode cX7_rightPlace 22 = .ok (.iconst 1, 1) := by decide +kernel
theorem dX7_rightPlace_23 : decode cX7_rightPlace 23 = .ok (.invokevirtual 162, 3) := by decide +kernel
theorem dX7_rightPlace_26 : decode cX7_rightPlace 26 = .ok (.ifCond .eq 5, 3) := by decide +kernel
theorem dX7_rightPlace_29 : decode cX7_rightPlace 29 = .ok (.iconst 0, 1) := by decide +kernel
theorem dX7_rightPlace_30 : decode cX7_rightPlace 30 = .ok (.ireturn, 1) := by decide +kernel
theorem dX7_rightPlace_31 : decode cX7_rightPlace 31 = .ok (.iconst 0, 1) := by decide +kernel
theorem dX7_rightPlace_32 : decode cX7_rightPlace 32 = .ok (.istore_n 3, 1) := by decide +kernel
theorem dX7_rightPlace_33 : decode cX7_rightPlace 33 = .ok (.iconst 0, 1) := by decide +kernel
theorem dX7_rightPlace_34 : decode cX7_rightPlace 34 = .ok (.istore 4, 2) := by decide +kernel
theorem dX7_rightPlace_36 : decode cX7_rightPlace 36 = .ok (.iload 4, 2) := by decide +kernel
theorem dX7_rightPlace_38 : decode cX7_rightPlace 38 = .ok (.aload_n 0, 1) := by decide +kernel
theorem dX7_rightPlace_39 : decode cX7_rightPlace 39 = .ok (.iload_n 1, 1) := by decide +kernel
theorem dX7_rightPlace_40 : decode cX7_rightPlace 40 = .ok (.iconst 3, 1) := by decide +kernel
theorem dX7_rightPlace_41 : decode cX7_rightPlace 41 = .ok (.invokevirtual 63, 3) := by decide +kernel
theorem dX7_rightPlace_44 : decode cX7_rightPlace 44 = .ok (.if_icmp .ge 51, 3) := by decide +kernel
theorem dX7_rightPlace_47 : decode cX7_rightPlace 47 = .ok (.aload_n 0, 1) := by decide +kernel
theorem dX7_rightPlace_48 : decode cX7_rightPlace 48 = .ok (.iload_n 1, 1) := by decide +kernel
theorem dX7_rightPlace_49 : decode cX7_rightPlace 49 = .ok (.iload 4, 2) := by decide +kernel
theorem dX7_rightPlace_51 : decode cX7_rightPlace 51 = .ok (.iconst 0, 1) := by decide +kernel
theorem dX7_rightPlace_52 : decode cX7_rightPlace 52 = .ok (.invokevirtual 67, 3) := by decide +kernel
theorem dX7_rightPlace_55 : decode cX7_rightPlace 55 = .ok (.aload_n 0, 1) := by decide +kernel
theorem dX7_rightPlace_56 : decode cX7_rightPlace 56 = .ok (.iload_n 1, 1) := by decide +kernel
theorem dX7_rightPlace_57 : decode cX7_rightPlace 57 = .ok (.iload_n 2, 1) := by decide +kernel
theorem dX7_rightPlace_58 : decode cX7_rightPlace 58 = .ok (.iconst 0, 1) := by decide +kernel
theorem dX7_rightPlace_59 : decode cX7_rightPlace 59 = .ok (.invokevirtual 67, 3) := by decide +kernel
theorem dX7_rightPlace_62 : decode cX7_rightPlace 62 = .ok (.isub, 1) := by decide +kernel
theorem dX7_rightPlace_63 : decode cX7_rightPlace 63 = .ok (.istore 5, 2) := by decide +kernel
theorem dX7_rightPlace_65 : decode cX7_rightPlace 65 = .ok (.iload_n 3, 1) := by decide +kernel
theorem ab_k41_0 (K : ab_Kt) : ∀ q ∈ ab_l41_0, ab_OK K ab_mt ab_g41 q.1 q.2 := by
  unfold ab_l41_0
  exact List.forall_mem_cons.mpr ⟨ab_aload_n_ok dX7_rightPlace_0 rfl, List.forall_mem_cons.mpr ⟨ab_aload_n_ok dX7_rightPlace_1 rfl, List.forall_mem_cons.mpr ⟨ab_iload_n_ok dX7_rightPlace_2 rfl, List.forall_mem_cons.mpr ⟨ab_callV_ok' (G' := ab_g103) (C := RX7) (T := TX7) (N := 19) dX7_rightPlace_3 ab_m103 rfl rfl (by decide) (by decide) (ab_l4 ab_w411 ab_w412 ab_w413 ab_w8) ab_w414 rfl ⟨by decide, by decide, by decide +kernel⟩, List.forall_mem_cons.mpr ⟨ab_if_eq_ok dX7_rightPlace_6 (by decide), List.forall_mem_cons.mpr ⟨ab_aload_n_ok dX7_rightPlace_9 rfl, List.forall_mem_cons.mpr ⟨ab_iload_n_ok dX7_rightPlace_10 rfl, List.forall_mem_cons.mpr ⟨ab_iload_n_ok dX7_rightPlace_11 rfl, List.forall_mem_cons.mpr ⟨ab_callV_ok' (G' := ab_g134) (C := RX7) (T := TX7) (N := 19) dX7_rightPlace_12 ab_m134 rfl rfl (by decide) (by decide) (ab_l4 ab_w540 ab_w541 ab_w542 ab_w8) ab_w543 rfl ⟨by decide, by decide, by decide +kernel⟩, List.forall_mem_cons.mpr ⟨ab_if_eq_ok dX7_rightPlace_15 (by decide), List.forall_mem_cons.mpr ⟨ab_iconst_ok dX7_rightPlace_18 (by decide), List.forall_mem_cons.mpr ⟨ab_goto_ok dX7_rightPlace_19 (by decide), List.forall_mem_cons.mpr ⟨ab_iconst_ok dX7_rightPlace_22 (by decide), List.forall_mem_cons.mpr ⟨ab_callV_ok' (G' := ab_g92) (C := RX7) (T := TX7) (N := 19) dX7_rightPlace_23 ab_m92 rfl rfl (by decide) (by decide) (ab_l4 ab_w364 ab_w365 ab_w366 ab_w8) ab_w367 rfl ⟨by decide, by decide, by decide +kernel⟩, List.forall_mem_cons.mpr ⟨ab_if_eq_ok dX7_rightPlace_26 (by decide), List.forall_mem_cons.mpr ⟨ab_iconst_ok dX7_rightPlace_29 (by decide), List.forall_mem_cons.mpr ⟨ab_iret_ok dX7_rightPlace_30 rfl, List.forall_mem_cons.mpr ⟨ab_iconst_ok dX7_rightPlace_31 (by decide), List.forall_mem_cons.mpr ⟨ab_istore_n_ok dX7_rightPlace_32 rfl, List.forall_mem_cons.mpr ⟨ab_iconst_ok dX7_rightPlace_33 (by decide), List.forall_mem_cons.mpr ⟨ab_istore_ok dX7_rightPlace_34, List.forall_mem_cons.mpr ⟨ab_iload_ok dX7_rightPlace_36, List.forall_mem_cons.mpr ⟨ab_aload_n_ok dX7_rightPlace_38 rfl, List.forall_mem_cons.mpr ⟨ab_iload_n_ok dX7_rightPlace_39 rfl, List.forall_mem_cons.mpr ⟨ab_iconst_ok dX7_rightPlace_40 (by decide), List.forall_mem_cons.mpr ⟨ab_callV_ok' (G' := ab_g110) (C := RX7) (T := TX7) (N := 19) dX7_rightPlace_41 ab_m110 rfl rfl (by decide) (by decide) (ab_l4 ab_w440 ab_w441 ab_w442 ab_w8) ab_w443 rfl ⟨by decide, by decide, by decide +kernel⟩, List.forall_mem_cons.mpr ⟨ab_icmp_ge_ok dX7_rightPlace_44 (by decide), List.forall_mem_cons.mpr ⟨ab_aload_n_ok dX7_rightPlace_47 rfl, List.forall_mem_cons.mpr ⟨ab_iload_n_ok dX7_rightPlace_48 rfl, List.forall_mem_cons.mpr ⟨ab_iload_ok dX7_rightPlace_49, List.forall_mem_cons.mpr ⟨ab_iconst_ok dX7_rightPlace_51 (by decide), List.forall_mem_cons.mpr ⟨ab_callV_ok' (G' := ab_g111) (C := RX7) (T := TX7) (N := 19) dX7_rightPlace_52 ab_m111 rfl rfl (by decide) (by decide) (ab_l4 ab_w444 ab_w445 ab_w446 ab_w8) ab_w447 rfl ⟨by decide, by decide, by decide +kernel⟩, List.forall_mem_cons.mpr ⟨ab_aload_n_ok dX7_rightPlace_55 rfl, List.forall_mem_cons.mpr ⟨ab_iload_n_ok dX7_rightPlace_56 rfl, List.forall_mem_cons.mpr ⟨ab_iload_n_ok dX7_rightPlace_57 rfl, List.forall_mem_cons.mpr ⟨ab_iconst_ok dX7_rightPlace_58 (by decide), List.forall_mem_cons.mpr ⟨ab_callV_ok' (G' := ab_g111) (C := RX7) (T := TX7) (N := 19) dX7_rightPlace_59 ab_m111 rfl rfl (by decide) (by decide) (ab_l4 ab_w444 ab_w445 ab_w446 ab_w8) ab_w447 rfl ⟨by decide, by decide, by decide +kernel⟩, List.forall_mem_cons.mpr ⟨ab_isub_ok dX7_rightPlace_62, List.forall_mem_cons.mpr ⟨ab_istore_ok dX7_rightPlace_63, List.forall_mem_cons.mpr ⟨ab_iload_n_ok dX7_rightPlace_65 rfl, fun _ h => absurd h List.not_mem_nil⟩⟩⟩⟩⟩⟩⟩⟩⟩⟩⟩⟩⟩⟩⟩⟩⟩⟩⟩⟩⟩⟩⟩⟩⟩⟩⟩⟩⟩⟩⟩⟩⟩⟩⟩⟩⟩⟩⟩⟩
theorem dX7_rightPlace_66 : decode cX7_rightPlace 66 = .ok (.iload 5, 2) := by decide +kernel
theorem dX7_rightPlace_68 : decode cX7_rightPlace 68 = .ok (.ifCond .lt 14, 3) := by decide +kernel
theorem dX7_rightPlace_71 : decode cX7_rightPlace 71 = .ok (.iload 5, 2) := by decide +kernel
theorem dX7_rightPlace_73 : decode cX7_rightPlace 73 = .ok (.ifCond .ne 13, 3) := by decide +kernel
theorem dX7_rightPlace_76 : decode cX7_rightPlace 76 = .ok (.iload 4, 2) := by decide +kernel
theorem dX7_rightPlace_78 : decode cX7_rightPlace 78 = .ok (.iload_n 2, 1) := by decide +kernel
theorem dX7_rightPlace_79 : decode cX7_rightPlace 79 = .ok (.if_icmp .ge 7, 3) := by decide +kernel
theorem dX7_rightPlace_82 : decode cX7_rightPlace 82 = .ok (.iconst 1, 1) := by decide +kernel
theorem dX7_rightPlace_83 : decode cX7_rightPlace 83 = .ok (.goto 4, 3) := by decide +kernel
theorem dX7_rightPlace_86 : decode cX7_rightPlace 86 = .ok (.iconst 0, 1) := by decide +kernel
theorem dX7_rightPlace_87 : decode cX7_rightPlace 87 = .ok (.iadd, 1) := by decide +kernel
theorem dX7_rightPlace_88 : decode cX7_rightPlace 88 = .ok (.istore_n 3, 1) := by decide +kernel
theorem dX7_rightPlace_89 : decode cX7_rightPlace 89 = .ok (.iinc 4 1, 3) := by decide +kernel
theorem dX7_rightPlace_92 : decode cX7_rightPlace 92 = .ok (.goto (-56), 3) := by decide +kernel
theorem dX7_rightPlace_95 : decode cX7_rightPlace 95 = .ok (.iload_n 3, 1) := by decide +kernel
theorem dX7_rightPlace_96 : decode cX7_rightPlace 96 = .ok (.ireturn, 1) := by decide +kernel
theorem ab_k41_1 (K : ab_Kt) : ∀ q ∈ ab_l41_1, ab_OK K ab_mt ab_g41 q.1 q.2 := by
  unfold ab_l41_1
  exact List.forall_mem_cons.mpr ⟨ab_iload_ok dX7_rightPlace_66, List.forall_mem_cons.mpr ⟨ab_if_lt_ok dX7_rightPlace_68 (by decide), List.forall_mem_cons.mpr ⟨ab_iload_ok dX7_rightPlace_71, List.forall_mem_cons.mpr ⟨ab_if_ne_ok dX7_rightPlace_73 (by decide), List.forall_mem_cons.mpr ⟨ab_iload_ok dX7_rightPlace_76, List.forall_mem_cons.mpr ⟨ab_iload_n_ok dX7_rightPlace_78 rfl, List.forall_mem_cons.mpr ⟨ab_icmp_ge_ok dX7_rightPlace_79 (by decide), List.forall_mem_cons.mpr ⟨ab_iconst_ok dX7_rightPlace_82 (by decide), List.forall_mem_cons.mpr ⟨ab_goto_ok dX7_rightPlace_83 (by decide), List.forall_mem_cons.mpr ⟨ab_iconst_ok dX7_rightPlace_86 (by decide), List.forall_mem_cons.mpr ⟨ab_iadd_ok dX7_rightPlace_87, List.forall_mem_cons.mpr ⟨ab_istore_n_ok dX7_rightPlace_88 rfl, List.forall_mem_cons.mpr ⟨ab_iinc_ok dX7_rightPlace_89 (by decide), List.forall_mem_cons.mpr ⟨ab_goto_ok dX7_rightPlace_92 (by decide), List.forall_mem_cons.mpr ⟨ab_iload_n_ok dX7_rightPlace_95 rfl, List.forall_mem_cons.mpr ⟨ab_iret_ok dX7_rightPlace_96 rfl, fun _ h => absurd h List.not_mem_nil⟩⟩⟩⟩⟩⟩⟩⟩⟩⟩⟩⟩⟩⟩⟩⟩
theorem ab_k41 (K : ab_Kt) : ∀ pc, ab_OK K ab_mt ab_g41 pc (ab_c41 pc) := ab_lk2_ok _ (List.forall_mem_cons.mpr ⟨ab_k41_0 K, List.forall_mem_cons.mpr ⟨ab_k41_1 K, fun _ h => absurd h List.not_mem_nil⟩⟩)
theorem dL_twice_0 : decode cL_twice 0 = .ok (.aload_n 2, 1) := by decide +kernel
theorem dL_twice_1 : decode cL_twice 1 = .ok (.iconst 0, 1) := by decide +kernel
theorem dL_twice_2 : decode cL_twice 2 = .ok (.aload_n 0, 1) := by decide +kernel
theorem dL_twice_3 : decode cL_twice 3 = .ok (.iload_n 1, 1) := by decide +kernel
theorem dL_twice_4 : decode cL_twice 4 = .ok (.invokevirtual 84, 3) := by decide +kernel
theorem dL_twice_7 : decode cL_twice 7 = .ok (.i2l, 1) := by decide +kernel
theorem dL_twice_8 : decode cL_twice 8 = .ok (.lastore, 1) := by decide +kernel
theorem dL_twice_9 : decode cL_twice 9 = .ok (.goto 6, 3) := by decide +kernel
theorem dL_twice_12 : decode cL_twice 12 = .ok (.astore_n 3, 1) := by decide +kernel
theorem dL_twice_13 : decode cL_twice 13 = .ok (.iconst 1, 1) := by decide +kernel
theorem dL_twice_14 : decode cL_twice 14 = .ok (.ireturn, 1) := by decide +kernel
theorem dL_twice_15 : decode cL_twice 15 = .ok (.iconst 0, 1) := by decide +kernel
theorem dL_twice_16 : decode cL_twice 16 = .ok (.ireturn, 1) := by decide +kernel
theorem ab_k42_0 (K : ab_Kt) : ∀ q ∈ ab_l42_0, ab_OK K ab_mt ab_g42 q.1 q.2 := by
  unfold ab_l42_0
  exact List.forall_mem_cons.mpr ⟨ab_aload_n_ok dL_twice_0 rfl, List.forall_mem_cons.mpr ⟨ab_iconst_ok dL_twice_1 (by decide), List.forall_mem_cons.mpr ⟨ab_aload_n_ok dL_twice_2 rfl, List.forall_mem_cons.mpr ⟨ab_iload_n_ok dL_twice_3 rfl, List.forall_mem_cons.mpr ⟨ab_callV_ok' (G' := ab_g135) (C := RX6) (T := TX6) (N := 9) dL_twice_4 ab_m135 rfl rfl (by decide) (by decide) (ab_l4 ab_w544 ab_w545 ab_w546 ab_w2) ab_w547 rfl ⟨by decide, by decide, by decide +kernel⟩, List.forall_mem_cons.mpr ⟨ab_i2l_ok dL_twice_7, List.forall_mem_cons.mpr ⟨ab_last_ok dL_twice_8, List.forall_mem_cons.mpr ⟨ab_goto_ok dL_twice_9 (by decide), List.forall_mem_cons.mpr ⟨ab_astore_n_ok dL_twice_12 rfl, List.forall_mem_cons.mpr ⟨ab_iconst_ok dL_twice_13 (by decide), List.forall_mem_cons.mpr ⟨ab_iret_ok dL_twice_14 rfl, List.forall_mem_cons.mpr ⟨ab_iconst_ok dL_twice_15 (by decide), List.forall_mem_cons.mpr ⟨ab_iret_ok dL_twice_16 rfl, fun _ h => absurd h List.not_mem_nil⟩⟩⟩⟩⟩⟩⟩⟩⟩⟩⟩⟩⟩
theorem ab_k42 (K : ab_Kt) : ∀ pc, ab_OK K ab_mt ab_g42 pc (ab_c42 pc) := ab_lk2_ok _ (List.forall_mem_cons.mpr ⟨ab_k42_0 K, fun _ h => absurd h List.not_mem_nil⟩)
theorem dX7_twice_0 : decode cX7_twice 0 = .ok (.aload_n 0, 1) := by decide +kernel
theorem dX7_twice_1 : decode cX7_twice 1 = .ok (.aload_n 0, 1) := by decide +kernel
theorem dX7_twice_2 : decode cX7_twice 2 = .ok (.iload_n 1, 1) := by decide +kernel
theorem dX7_twice_3 : decode cX7_twice 3 = .ok (.invokevirtual 94, 3) := by decide +kernel
theorem dX7_twice_6 : decode cX7_twice 6 = .ok (.ifCond .eq 7, 3) := by decide +kernel
theorem dX7_twice_9 : decode cX7_twice 9 = .ok (.iconst 0, 1) := by decide +kernel
theorem dX7_twice_10 : decode cX7_twice 10 = .ok (.goto 4, 3) := by decide +kernel
theorem dX7_twice_13 : decode cX7_twice 13 = .ok (.iconst 1, 1) := by decide +kernel
theorem dX7_twice_14 : decode cX7_twice 14 = .ok (.invokevirtual 162, 3) := by decide +kernel
theorem dX7_twice_17 : decode cX7_twice 17 = .ok (.ifCond .eq 5, 3) := by decide +kernel
theorem dX7_twice_20 : decode cX7_twice 20 = .ok (.iconst 0, 1) := by decide +kernel
theorem dX7_twice_21 : decode cX7_twice 21 = .ok (.ireturn, 1) := by decide +kernel
theorem dX7_twice_22 : decode cX7_twice 22 = .ok (.iconst 0, 1) := by decide +kernel
theorem dX7_twice_23 : decode cX7_twice 23 = .ok (.istore_n 2, 1) := by decide +kernel
theorem dX7_twice_24 : decode cX7_twice 24 = .ok (.iconst 1, 1) := by decide +kernel
theorem dX7_twice_25 : decode cX7_twice 25 = .ok (.istore_n 3, 1) := by decide +kernel
theorem dX7_twice_26 : decode cX7_twice 26 = .ok (.iload_n 3, 1) := by decide +kernel
theorem dX7_twice_27 : decode cX7_twice 27 = .ok (.bipush 120, 2) := by decide +kernel
theorem dX7_twice_29 : decode cX7_twice 29 = .ok (.if_icmp .ge 27, 3) := by decide +kernel
theorem dX7_twice_32 : decode cX7_twice 32 = .ok (.iload_n 2, 1) := by decide +kernel
theorem dX7_twice_33 : decode cX7_twice 33 = .ok (.aload_n 0, 1) := by decide +kernel
theorem dX7_twice_34 : decode cX7_twice 34 = .ok (.iload_n 1, 1) := by decide +kernel
theorem dX7_twice_35 : decode cX7_twice 35 = .ok (.iload_n 3, 1) := by decide +kernel
theorem dX7_twice_36 : decode cX7_twice 36 = .ok (.invokevirtual 88, 3) := by decide +kernel
theorem dX7_twice_39 : decode cX7_twice 39 = .ok (.iconst 1, 1) := by decide +kernel
theorem dX7_twice_40 : decode cX7_twice 40 = .ok (.if_icmp .le 7, 3) := by decide +kernel
theorem dX7_twice_43 : decode cX7_twice 43 = .ok (.iconst 1, 1) := by decide +kernel
theorem dX7_twice_44 : decode cX7_twice 44 = .ok (.goto 4, 3) := by decide +kernel
theorem dX7_twice_47 : decode cX7_twice 47 = .ok (.iconst 0, 1) := by decide +kernel
theorem dX7_twice_48 : decode cX7_twice 48 = .ok (.iadd, 1) := by decide +kernel
theorem dX7_twice_49 : decode cX7_twice 49 = .ok (.istore_n 2, 1) := by decide +kernel
theorem dX7_twice_50 : decode cX7_twice 50 = .ok (.iinc 3 1, 3) := by decide +kernel
theorem dX7_twice_53 : decode cX7_twice 53 = .ok (.goto (-27), 3) := by decide +kernel
theorem dX7_twice_56 : decode cX7_twice 56 = .ok (.iload_n 2, 1) := by decide +kernel
theorem dX7_twice_57 : decode cX7_twice 57 = .ok (.ireturn, 1) := by decide +kernel
theorem ab_k43_0 (K : ab_Kt) : ∀ q ∈ ab_l43_0, ab_OK K ab_mt ab_g43 q.1 q.2 := by
  unfold ab_l43_0
  exact List.forall_mem_cons.mpr ⟨ab_aload_n_ok dX7_twice_0 rfl, List.forall_mem_cons.mpr ⟨ab_aload_n_ok dX7_twice_1 rfl, List.forall_mem_cons.mpr ⟨ab_iload_n_ok dX7_twice_2 rfl, List.forall_mem_cons.mpr ⟨ab_callV_ok' (G' := ab_g103) (C := RX7) (T := TX7) (N := 19) dX7_twice_3 ab_m103 rfl rfl (by decide) (by decide) (ab_l4 ab_w411 ab_w412 ab_w413 ab_w8) ab_w414 rfl ⟨by decide, by decide, by decide +kernel⟩, List.forall_mem_cons.mpr ⟨ab_if_eq_ok dX7_twice_6 (by decide), List.forall_mem_cons.mpr ⟨ab_iconst_ok dX7_twice_9 (by decide), List.forall_mem_cons.mpr ⟨ab_goto_ok dX7_twice_10 (by decide), List.forall_mem_cons.mpr ⟨ab_iconst_ok dX7_twice_13 (by decide), List.forall_mem_cons.mpr ⟨ab_callV_ok' (G' := ab_g92) (C := RX7) (T := TX7) (N := 19) dX7_twice_14 ab_m92 rfl rfl (by decide) (by decide) (ab_l4 ab_w364 ab_w365 ab_w366 ab_w8) ab_w367 rfl ⟨by decide, by decide, by decide +kernel⟩, List.forall_mem_cons.mpr ⟨ab_if_eq_ok dX7_twice_17 (by decide), List.forall_mem_cons.mpr ⟨ab_iconst_ok dX7_twice_20 (by decide), List.forall_mem_cons.mpr ⟨ab_iret_ok dX7_twice_21 rfl, List.forall_mem_cons.mpr ⟨ab_iconst_ok dX7_twice_22 (by decide), List.forall_mem_cons.mpr ⟨ab_istore_n_ok dX7_twice_23 rfl, List.forall_mem_cons.mpr ⟨ab_iconst_ok dX7_twice_24 (by decide), List.forall_mem_cons.mpr ⟨ab_istore_n_ok dX7_twice_25 rfl, List.forall_mem_cons.mpr ⟨ab_iload_n_ok dX7_twice_26 rfl, List.forall_mem_cons.mpr ⟨ab_bipush_ok dX7_twice_27 (by decide), List.forall_mem_cons.mpr ⟨ab_icmp_ge_ok dX7_twice_29 (by decide), List.forall_mem_cons.mpr ⟨ab_iload_n_ok dX7_twice_32 rfl, List.forall_mem_cons.mpr ⟨ab_aload_n_ok dX7_twice_33 rfl, List.forall_mem_cons.mpr ⟨ab_iload_n_ok dX7_twice_34 rfl, List.forall_mem_cons.mpr ⟨ab_iload_n_ok dX7_twice_35 rfl, List.forall_mem_cons.mpr ⟨ab_callV_ok' (G' := ab_g136) (C := RX7) (T := TX7) (N := 19) dX7_twice_36 ab_m136 rfl rfl (by decide) (by decide) (ab_l4 ab_w548 ab_w549 ab_w550 ab_w8) ab_w551 rfl ⟨by decide, by decide, by decide +kernel⟩, List.forall_mem_cons.mpr ⟨ab_iconst_ok dX7_twice_39 (by decide), List.forall_mem_cons.mpr ⟨ab_icmp_le_ok dX7_twice_40 (by decide), List.forall_mem_cons.mpr ⟨ab_iconst_ok dX7_twice_43 (by decide), List.forall_mem_cons.mpr ⟨ab_goto_ok dX7_twice_44 (by decide), List.forall_mem_cons.mpr ⟨ab_iconst_ok dX7_twice_47 (by decide), List.forall_mem_cons.mpr ⟨ab_iadd_ok dX7_twice_48, List.forall_mem_cons.mpr ⟨ab_istore_n_ok dX7_twice_49 rfl, List.forall_mem_cons.mpr ⟨ab_iinc_ok dX7_twice_50 (by decide), List.forall_mem_cons.mpr ⟨ab_goto_ok dX7_twice_53 (by decide), List.forall_mem_cons.mpr ⟨ab_iload_n_ok dX7_twice_56 rfl, List.forall_mem_cons.mpr ⟨ab_iret_ok dX7_twice_57 rfl, fun _ h => absurd h List.not_mem_nil⟩⟩⟩⟩⟩⟩⟩⟩⟩⟩⟩⟩⟩⟩⟩⟩⟩⟩⟩⟩⟩⟩⟩⟩⟩⟩⟩⟩⟩⟩⟩⟩⟩⟩⟩
theorem ab_k43 (K : ab_Kt) : ∀ pc, ab_OK K ab_mt ab_g43 pc (ab_c43 pc) := ab_lk2_ok _ (List.forall_mem_cons.mpr ⟨ab_k43_0 K, fun _ h => absurd h List.not_mem_nil⟩)
theorem dL_missingPage_0 : decode cL_missingPage 0 = .ok (.aload_n 3, 1) := by decide +kernel
theorem dL_missingPage_1 : decode cL_missingPage 1 = .ok (.iconst 0, 1) := by decide +kernel
theorem dL_missingPage_2 : decode cL_missingPage 2 = .ok (.aload_n 0, 1) := by decide +kernel
theorem dL_missingPage_3 : decode cL_missingPage 3 = .ok (.iload_n 1, 1) := by decide +kernel
theorem dL_missingPage_4 : decode cL_missingPage 4 = .ok (.iload_n 2, 1) := by decide +kernel
theorem dL_missingPage_5 : decode cL_missingPage 5 = .ok (.invokevirtual 81, 3) := by decide +kernel
theorem dL_missingPage_8 : decode cL_missingPage 8 = .ok (.i2l, 1) := by decide +kernel
theorem dL_missingPage_9 : decode cL_missingPage 9 = .ok (.lastore, 1) := by decide +kernel
theorem dL_missingPage_10 : decode cL_missingPage 10 = .ok (.goto 11, 3) := by decide +kernel
theorem dL_missingPage_13 : decode cL_missingPage 13 = .ok (.astore 4, 2) := by decide +kernel
theorem dL_missingPage_15 : decode cL_missingPage 15 = .ok (.iconst 1, 1) := by decide +kernel
theorem dL_missingPage_16 : decode cL_missingPage 16 = .ok (.ireturn, 1) := by decide +kernel
theorem dL_missingPage_17 : decode cL_missingPage 17 = .ok (.astore 4, 2) := by decide +kernel
theorem dL_missingPage_19 : decode cL_missingPage 19 = .ok (.iconst 2, 1) := by decide +kernel
theorem dL_missingPage_20 : decode cL_missingPage 20 = .ok (.ireturn, 1) := by decide +kernel
theorem dL_missingPage_21 : decode cL_missingPage 21 = .ok (.iconst 0, 1) := by decide +kernel
theorem dL_missingPage_22 : decode cL_missingPage 22 = .ok (.ireturn, 1) := by decide +kernel
theorem ab_k44_0 (K : ab_Kt) : ∀ q ∈ ab_l44_0, ab_OK K ab_mt ab_g44 q.1 q.2 := by
  unfold ab_l44_0
  exact List.forall_mem_cons.mpr ⟨ab_aload_n_ok dL_missingPage_0 rfl, List.forall_mem_cons.mpr ⟨ab_iconst_ok dL_missingPage_1 (by decide), List.forall_mem_cons.mpr ⟨ab_aload_n_ok dL_missingPage_2 rfl, List.forall_mem_cons.mpr ⟨ab_iload_n_ok dL_missingPage_3 rfl, List.forall_mem_cons.mpr ⟨ab_iload_n_ok dL_missingPage_4 rfl, List.forall_mem_cons.mpr ⟨ab_callV_ok' (G' := ab_g137) (C := RX6) (T := TX6) (N := 9) dL_missingPage_5 ab_m137 rfl rfl (by decide) (by decide) (ab_l4 ab_w552 ab_w553 ab_w554 ab_w2) ab_w555 rfl ⟨by decide, by decide, by decide +kernel⟩, List.forall_mem_cons.mpr ⟨ab_i2l_ok dL_missingPage_8, List.forall_mem_cons.mpr ⟨ab_last_ok dL_missingPage_9, List.forall_mem_cons.mpr ⟨ab_goto_ok dL_missingPage_10 (by decide), List.forall_mem_cons.mpr ⟨ab_astore_ok dL_missingPage_13, List.forall_mem_cons.mpr ⟨ab_iconst_ok dL_missingPage_15 (by decide), List.forall_mem_cons.mpr ⟨ab_iret_ok dL_missingPage_16 rfl, List.forall_mem_cons.mpr ⟨ab_astore_ok dL_missingPage_17, List.forall_mem_cons.mpr ⟨ab_iconst_ok dL_missingPage_19 (by decide), List.forall_mem_cons.mpr ⟨ab_iret_ok dL_missingPage_20 rfl, List.forall_mem_cons.mpr ⟨ab_iconst_ok dL_missingPage_21 (by decide), List.forall_mem_cons.mpr ⟨ab_iret_ok dL_missingPage_22 rfl, fun _ h => absurd h List.not_mem_nil⟩⟩⟩⟩⟩⟩⟩⟩⟩⟩⟩⟩⟩⟩⟩⟩⟩
theorem ab_k44 (K : ab_Kt) : ∀ pc, ab_OK K ab_mt ab_g44 pc (ab_c44 pc) := ab_lk2_ok _ (List.forall_mem_cons.mpr ⟨ab_k44_0 K, fun _ h => absurd h List.not_mem_nil⟩)
theorem dX7_missingPage_0 : decode cX7_missingPage 0 = .ok (.aload_n 0, 1) := by decide +kernel
theorem dX7_missingPage_1 : decode cX7_missingPage 1 = .ok (.aload_n 0, 1) := by decide +kernel
theorem dX7_missingPage_2 : decode cX7_missingPage 2 = .ok (.iload_n 1, 1) := by decide +kernel
theorem dX7_missingPage_3 : decode cX7_missingPage 3 = .ok (.invokevirtual 94, 3) := by decide +kernel
theorem dX7_missingPage_6 : decode cX7_missingPage 6 = .ok (.ifCond .eq 7, 3) := by decide +kernel
theorem dX7_missingPage_9 : decode cX7_missingPage 9 = .ok (.iconst 0, 1) := by decide +kernel
theorem dX7_missingPage_10 : decode cX7_missingPage 10 = .ok (.goto 4, 3) := by decide +kernel
theorem dX7_missingPage_13 : decode cX7_missingPage 13 = .ok (.iconst 1, 1) := by decide +kernel
theorem dX7_missingPage_14 : decode cX7_missingPage 14 = .ok (.invokevirtual 162, 3) := by decide +kernel
theorem dX7_missingPage_17 : decode cX7_missingPage 17 = .ok (.ifCond .eq 5, 3) := by decide +kernel
theorem dX7_missingPage_20 : decode cX7_missingPage 20 = .ok (.iconst 0, 1) := by decide +kernel
theorem dX7_missingPage_21 : decode cX7_missingPage 21 = .ok (.ireturn, 1) := by decide +kernel
theorem dX7_missingPage_22 : decode cX7_missingPage 22 = .ok (.iconst 0, 1) := by decide +kernel
theorem dX7_missingPage_23 : decode cX7_missingPage 23 = .ok (.istore_n 3, 1) := by decide +kernel
theorem dX7_missingPage_24 : decode cX7_missingPage 24 = .ok (.iconst 1, 1) := by decide +kernel
theorem dX7_missingPage_25 : decode cX7_missingPage 25 = .ok (.istore 4, 2) := by decide +kernel
theorem dX7_missingPage_27 : decode cX7_missingPage 27 = .ok (.iload 4, 2) := by decide +kernel
theorem dX7_missingPage_29 : decode cX7_missingPage 29 = .ok (.aload_n 0, 1) := by decide +kernel
theorem dX7_missingPage_30 : decode cX7_missingPage 30 = .ok (.iload_n 1, 1) := by decide +kernel
theorem dX7_missingPage_31 : decode cX7_missingPage 31 = .ok (.iconst 0, 1) := by decide +kernel
theorem dX7_missingPage_32 : decode cX7_missingPage 32 = .ok (.invokevirtual 63, 3) := by decide +kernel
theorem dX7_missingPage_35 : decode cX7_missingPage 35 = .ok (.if_icmp .gt 33, 3) := by decide +kernel
theorem dX7_missingPage_38 : decode cX7_missingPage 38 = .ok (.aload_n 0, 1) := by decide +kernel
theorem dX7_missingPage_39 : decode cX7_missingPage 39 = .ok (.iload_n 1, 1) := by decide +kernel
theorem dX7_missingPage_40 : decode cX7_missingPage 40 = .ok (.iload 4, 2) := by decide +kernel
theorem dX7_missingPage_42 : decode cX7_missingPage 42 = .ok (.invokevirtual 88, 3) := by decide +kernel
theorem dX7_missingPage_45 : decode cX7_missingPage 45 = .ok (.ifCond .le 6, 3) := by decide +kernel
theorem dX7_missingPage_48 : decode cX7_missingPage 48 = .ok (.goto 14, 3) := by decide +kernel
theorem dX7_missingPage_51 : decode cX7_missingPage 51 = .ok (.iload_n 3, 1) := by decide +kernel
theorem dX7_missingPage_52 : decode cX7_missingPage 52 = .ok (.iload_n 2, 1) := by decide +kernel
theorem dX7_missingPage_53 : decode cX7_missingPage 53 = .ok (.if_icmp .ne 6, 3) := by decide +kernel
theorem dX7_missingPage_56 : decode cX7_missingPage 56 = .ok (.iload 4, 2) := by decide +kernel
theorem dX7_missingPage_58 : decode cX7_missingPage 58 = .ok (.ireturn, 1) := by decide +kernel
theorem dX7_missingPage_59 : decode cX7_missingPage 59 = .ok (.iinc 3 1, 3) := by decide +kernel
theorem dX7_missingPage_62 : decode cX7_missingPage 62 = .ok (.iinc 4 1, 3) := by decide +kernel
theorem dX7_missingPage_65 : decode cX7_missingPage 65 = .ok (.goto (-38), 3) := by decide +kernel
theorem dX7_missingPage_68 : decode cX7_missingPage 68 = .ok (.aload_n 0, 1) := by decide +kernel
theorem dX7_missingPage_69 : decode cX7_missingPage 69 = .ok (.iconst 2, 1) := by decide +kernel
theorem dX7_missingPage_70 : decode cX7_missingPage 70 = .ok (.putfield 36, 3) := by decide +kernel
theorem dX7_missingPage_73 : decode cX7_missingPage 73 = .ok (.iconst 0, 1) := by decide +kernel
theorem ab_k45_0 (K : ab_Kt) : ∀ q ∈ ab_l45_0, ab_OK K ab_mt ab_g45 q.1 q.2 := by
  unfold ab_l45_0
  exact List.forall_mem_cons.mpr ⟨ab_aload_n_ok dX7_missingPage_0 rfl, List.forall_mem_cons.mpr ⟨ab_aload_n_ok dX7_missingPage_1 rfl, List.forall_mem_cons.mpr ⟨ab_iload_n_ok dX7_missingPage_2 rfl, List.forall_mem_cons.mpr ⟨ab_callV_ok' (G' := ab_g103) (C := RX7) (T := TX7) (N := 19) dX7_missingPage_3 ab_m103 rfl rfl (by decide) (by decide) (ab_l4 ab_w411 ab_w412 ab_w413 ab_w8) ab_w414 rfl ⟨by decide, by decide, by decide +kernel⟩, List.forall_mem_cons.mpr ⟨ab_if_eq_ok dX7_missingPage_6 (by decide), List.forall_mem_cons.mpr ⟨ab_iconst_ok dX7_missingPage_9 (by decide), List.forall_mem_cons.mpr ⟨ab_goto_ok dX7_missingPage_10 (by decide), List.forall_mem_cons.mpr ⟨ab_iconst_ok dX7_missingPage_13 (by decide), List.forall_mem_cons.mpr ⟨ab_callV_ok' (G' := ab_g92) (C := RX7) (T := TX7) (N := 19) dX7_missingPage_14 ab_m92 rfl rfl (by decide) (by decide) (ab_l4 ab_w364 ab_w365 ab_w366 ab_w8) ab_w367 rfl ⟨by decide, by decide, by decide +kernel⟩, List.forall_mem_cons.mpr ⟨ab_if_eq_ok dX7_missingPage_17 (by decide), List.forall_mem_cons.mpr ⟨ab_iconst_ok dX7_missingPage_20 (by decide), List.forall_mem_cons.mpr ⟨ab_iret_ok dX7_missingPage_21 rfl, List.forall_mem_cons.mpr ⟨ab_iconst_ok dX7_missingPage_22 (by decide), List.forall_mem_cons.mpr ⟨ab_istore_n_ok dX7_missingPage_23 rfl, List.forall_mem_cons.mpr ⟨ab_iconst_ok dX7_missingPage_24 (by decide), List.forall_mem_cons.mpr ⟨ab_istore_ok dX7_missingPage_25, List.forall_mem_cons.mpr ⟨ab_iload_ok dX7_missingPage_27, List.forall_mem_cons.mpr ⟨ab_aload_n_ok dX7_missingPage_29 rfl, List.forall_mem_cons.mpr ⟨ab_iload_n_ok dX7_missingPage_30 rfl, List.forall_mem_cons.mpr ⟨ab_iconst_ok dX7_missingPage_31 (by decide), List.forall_mem_cons.mpr ⟨ab_callV_ok' (G' := ab_g110) (C := RX7) (T := TX7) (N := 19) dX7_missingPage_32 ab_m110 rfl rfl (by decide) (by decide) (ab_l4 ab_w440 ab_w441 ab_w442 ab_w8) ab_w443 rfl ⟨by decide, by decide, by decide +kernel⟩, List.forall_mem_cons.mpr ⟨ab_icmp_gt_ok dX7_missingPage_35 (by decide), List.forall_mem_cons.mpr ⟨ab_aload_n_ok dX7_missingPage_38 rfl, List.forall_mem_cons.mpr ⟨ab_iload_n_ok dX7_missingPage_39 rfl, List.forall_mem_cons.mpr ⟨ab_iload_ok dX7_missingPage_40, List.forall_mem_cons.mpr ⟨ab_callV_ok' (G' := ab_g136) (C := RX7) (T := TX7) (N := 19) dX7_missingPage_42 ab_m136 rfl rfl (by decide) (by decide) (ab_l4 ab_w548 ab_w549 ab_w550 ab_w8) ab_w551 rfl ⟨by decide, by decide, by decide +kernel⟩, List.forall_mem_cons.mpr ⟨ab_if_le_ok dX7_missingPage_45 (by decide), List.forall_mem_cons.mpr ⟨ab_goto_ok dX7_missingPage_48 (by decide), List.forall_mem_cons.mpr ⟨ab_iload_n_ok dX7_missingPage_51 rfl, List.forall_mem_cons.mpr ⟨ab_iload_n_ok dX7_missingPage_52 rfl, List.forall_mem_cons.mpr ⟨ab_icmp_ne_ok dX7_missingPage_53 (by decide), List.forall_mem_cons.mpr ⟨ab_iload_ok dX7_missingPage_56, List.forall_mem_cons.mpr ⟨ab_iret_ok dX7_missingPage_58 rfl, List.forall_mem_cons.mpr ⟨ab_iinc_ok dX7_missingPage_59 (by decide), List.forall_mem_cons.mpr ⟨ab_iinc_ok dX7_missingPage_62 (by decide), List.forall_mem_cons.mpr ⟨ab_goto_ok dX7_missingPage_65 (by decide), List.forall_mem_cons.mpr ⟨ab_aload_n_ok dX7_missingPage_68 rfl, List.forall_mem_cons.mpr ⟨ab_iconst_ok dX7_missingPage_69 (by decide), List.forall_mem_cons.mpr ⟨ab_putf_ok (C := RX7) (T := TX7) (N := 19) (ci := 11) (k := 7) (ty0 := tyX7) dX7_missingPage_70 rfl ab_ic11 tyX7_ok nmX7 (by decide) ab_w372 rfl (Or.inl rfl), List.forall_mem_cons.mpr ⟨ab_iconst_ok dX7_missingPage_73 (by decide), fun _ h => absurd h List.not_mem_nil⟩⟩⟩⟩⟩⟩⟩⟩⟩⟩⟩⟩⟩⟩⟩⟩⟩⟩⟩⟩⟩⟩⟩⟩⟩⟩⟩⟩⟩⟩⟩⟩⟩⟩⟩⟩⟩⟩⟩⟩
theorem dX7_missingPage_74 : decode cX7_missingPage 74 = .ok (.ireturn, 1) := by decide +kernel
theorem ab_k45_1 (K : ab_Kt) : ∀ q ∈ ab_l45_1, ab_OK K ab_mt ab_g45 q.1 q.2 := by
  unfold ab_l45_1
  exact List.forall_mem_cons.mpr ⟨ab_iret_ok dX7_missingPage_74 rfl, fun _ h => absurd h List.not_mem_nil⟩
theorem ab_k45 (K : ab_Kt) : ∀ pc, ab_OK K ab_mt ab_g45 pc (ab_c45 pc) := ab_lk2_ok _ (List.forall_mem_cons.mpr ⟨ab_k45_0 K, List.forall_mem_cons.mpr ⟨ab_k45_1 K, fun _ h => absurd h List.not_mem_nil⟩⟩)
theorem dL_missing_0 : decode cL_missing 0 = .ok (.aload_n 2, 1) := by decide +kernel
theorem dL_missing_1 : decode cL_missing 1 = .ok (.iconst 0, 1) := by decide +kernel
theorem dL_missing_2 : decode cL_missing 2 = .ok (.aload_n 0, 1) := by decide +kernel
theorem dL_missing_3 : decode cL_missing 3 = .ok (.iload_n 1, 1) := by decide +kernel
theorem dL_missing_4 : decode cL_missing 4 = .ok (.invokevirtual 78, 3) := by decide +kernel
theorem dL_missing_7 : decode cL_missing 7 = .ok (.i2l, 1) := by decide +kernel
theorem dL_missing_8 : decode cL_missing 8 = .ok (.lastore, 1) := by decide +kernel
theorem dL_missing_9 : decode cL_missing 9 = .ok (.goto 6, 3) := by decide +kernel
theorem dL_missing_12 : decode cL_missing 12 = .ok (.astore_n 3, 1) := by decide +kernel
theorem dL_missing_13 : decode cL_missing 13 = .ok (.iconst 1, 1) := by decide +kernel
theorem dL_missing_14 : decode cL_missing 14 = .ok (.ireturn, 1) := by decide +kernel
theorem dL_missing_15 : decode cL_missing 15 = .ok (.iconst 0, 1) := by decide +kernel
theorem dL_missing_16 : decode cL_missing 16 = .ok (.ireturn, 1) := by decide +kernel
theorem ab_k46_0 (K : ab_Kt) : ∀ q ∈ ab_l46_0, ab_OK K ab_mt ab_g46 q.1 q.2 := by
  unfold ab_l46_0
  exact List.forall_mem_cons.mpr ⟨ab_aload_n_ok dL_missing_0 rfl, List.forall_mem_cons.mpr ⟨ab_iconst_ok dL_missing_1 (by decide), List.forall_mem_cons.mpr ⟨ab_aload_n_ok dL_missing_2 rfl, List.forall_mem_cons.mpr ⟨ab_iload_n_ok dL_missing_3 rfl, List.forall_mem_cons.mpr ⟨ab_callV_ok' (G' := ab_g138) (C := RX6) (T := TX6) (N := 9) dL_missing_4 ab_m138 rfl rfl (by decide) (by decide) (ab_l4 ab_w556 ab_w557 ab_w558 ab_w2) ab_w559 rfl ⟨by decide, by decide, by decide +kernel⟩, List.forall_mem_cons.mpr ⟨ab_i2l_ok dL_missing_7, List.forall_mem_cons.mpr ⟨ab_last_ok dL_missing_8, List.forall_mem_cons.mpr ⟨ab_goto_ok dL_missing_9 (by decide), List.forall_mem_cons.mpr ⟨ab_astore_n_ok dL_missing_12 rfl, List.forall_mem_cons.mpr ⟨ab_iconst_ok dL_missing_13 (by decide), List.forall_mem_cons.mpr ⟨ab_iret_ok dL_missing_14 rfl, List.forall_mem_cons.mpr ⟨ab_iconst_ok dL_missing_15 (by decide), List.forall_mem_cons.mpr ⟨ab_iret_ok dL_missing_16 rfl, fun _ h => absurd h List.not_mem_nil⟩⟩⟩⟩⟩⟩⟩⟩⟩⟩⟩⟩⟩
theorem ab_k46 (K : ab_Kt) : ∀ pc, ab_OK K ab_mt ab_g46 pc (ab_c46 pc) := ab_lk2_ok _ (List.forall_mem_cons.mpr ⟨ab_k46_0 K, fun _ h => absurd h List.not_mem_nil⟩)
theorem dX7_missing_0 : decode cX7_missing 0 = .ok (.aload_n 0, 1) := by decide +kernel
theorem dX7_missing_1 : decode cX7_missing 1 = .ok (.aload_n 0, 1) := by decide +kernel
theorem dX7_missing_2 : decode cX7_missing 2 = .ok (.iload_n 1, 1) := by decide +kernel
theorem dX7_missing_3 : decode cX7_missing 3 = .ok (.invokevirtual 94, 3) := by decide +kernel
theorem dX7_missing_6 : decode cX7_missing 6 = .ok (.ifCond .eq 7, 3) := by decide +kernel
theorem dX7_missing_9 : decode cX7_missing 9 = .ok (.iconst 0, 1) := by decide +kernel
theorem dX7_missing_10 : decode cX7_missing 10 = .ok (.goto 4, 3) := by decide +kernel
theorem dX7_missing_13 : decode cX7_missing 13 = .ok (.iconst 1, 1) := by decide +kernel
theorem dX7_missing_14 : decode cX7_missing 14 = .ok (.invokevirtual 162, 3) := by decide +kernel
theorem dX7_missing_17 : decode cX7_missing 17 = .ok (.ifCond .eq 7, 3) := by decide +kernel
theorem dX7_missing_20 : decode cX7_missing 20 = .ok (.iconst 0, 1) := by decide +kernel
theorem dX7_missing_21 : decode cX7_missing 21 = .ok (.goto 8, 3) := by decide +kernel
theorem dX7_missing_24 : decode cX7_missing 24 = .ok (.aload_n 0, 1) := by decide +kernel
theorem dX7_missing_25 : decode cX7_missing 25 = .ok (.iload_n 1, 1) := by decide +kernel
theorem dX7_missing_26 : decode cX7_missing 26 = .ok (.invokevirtual 155, 3) := by decide +kernel
theorem dX7_missing_29 : decode cX7_missing 29 = .ok (.ireturn, 1) := by decide +kernel
theorem ab_k47_0 (K : ab_Kt) : ∀ q ∈ ab_l47_0, ab_OK K ab_mt ab_g47 q.1 q.2 := by
  unfold ab_l47_0
  exact List.forall_mem_cons.mpr ⟨ab_aload_n_ok dX7_missing_0 rfl, List.forall_mem_cons.mpr ⟨ab_aload_n_ok dX7_missing_1 rfl, List.forall_mem_cons.mpr ⟨ab_iload_n_ok dX7_missing_2 rfl, List.forall_mem_cons.mpr ⟨ab_callV_ok' (G' := ab_g103) (C := RX7) (T := TX7) (N := 19) dX7_missing_3 ab_m103 rfl rfl (by decide) (by decide) (ab_l4 ab_w411 ab_w412 ab_w413 ab_w8) ab_w414 rfl ⟨by decide, by decide, by decide +kernel⟩, List.forall_mem_cons.mpr ⟨ab_if_eq_ok dX7_missing_6 (by decide), List.forall_mem_cons.mpr ⟨ab_iconst_ok dX7_missing_9 (by decide), List.forall_mem_cons.mpr ⟨ab_goto_ok dX7_missing_10 (by decide), List.forall_mem_cons.mpr ⟨ab_iconst_ok dX7_missing_13 (by decide), List.forall_mem_cons.mpr ⟨ab_callV_ok' (G' := ab_g92) (C := RX7) (T := TX7) (N := 19) dX7_missing_14 ab_m92 rfl rfl (by decide) (by decide) (ab_l4 ab_w364 ab_w365 ab_w366 ab_w8) ab_w367 rfl ⟨by decide, by decide, by decide +kernel⟩, List.forall_mem_cons.mpr ⟨ab_if_eq_ok dX7_missing_17 (by decide), List.forall_mem_cons.mpr ⟨ab_iconst_ok dX7_missing_20 (by decide), List.forall_mem_cons.mpr ⟨ab_goto_ok dX7_missing_21 (by decide), List.forall_mem_cons.mpr ⟨ab_aload_n_ok dX7_missing_24 rfl, List.forall_mem_cons.mpr ⟨ab_iload_n_ok dX7_missing_25 rfl, List.forall_mem_cons.mpr ⟨ab_callV_ok' (G' := ab_g139) (C := RX7) (T := TX7) (N := 19) dX7_missing_26 ab_m139 rfl rfl (by decide) (by decide) (ab_l4 ab_w560 ab_w561 ab_w562 ab_w8) ab_w563 rfl ⟨by decide, by decide, by decide +kernel⟩, List.forall_mem_cons.mpr ⟨ab_iret_ok dX7_missing_29 rfl, fun _ h => absurd h List.not_mem_nil⟩⟩⟩⟩⟩⟩⟩⟩⟩⟩⟩⟩⟩⟩⟩⟩
theorem ab_k47 (K : ab_Kt) : ∀ pc, ab_OK K ab_mt ab_g47 pc (ab_c47 pc) := ab_lk2_ok _ (List.forall_mem_cons.mpr ⟨ab_k47_0 K, fun _ h => absurd h List.not_mem_nil⟩)
