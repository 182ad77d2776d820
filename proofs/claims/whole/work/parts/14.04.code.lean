/-! ===== the code tables hold: X7_skips .. ===== -/
theorem dX7_skips_0 : decode cX7_skips 0 = .ok (.aload_n 0, 1) := by decide +kernel
theorem dX7_skips_1 : decode cX7_skips 1 = .ok (.invokevirtual 180, 3) := by decide +kernel
theorem dX7_skips_4 : decode cX7_skips 4 = .ok (.iload_n 1, 1) := by decide +kernel
theorem dX7_skips_5 : decode cX7_skips 5 = .ok (.if_icmp .eq 5, 3) := by decide +kernel
theorem dX7_skips_8 : decode cX7_skips 8 = .ok (.iconst 0, 1) := by decide +kernel
theorem dX7_skips_9 : decode cX7_skips 9 = .ok (.ireturn, 1) := by decide +kernel
theorem dX7_skips_10 : decode cX7_skips 10 = .ok (.aload_n 0, 1) := by decide +kernel
theorem dX7_skips_11 : decode cX7_skips 11 = .ok (.dup, 1) := by decide +kernel
theorem dX7_skips_12 : decode cX7_skips 12 = .ok (.getfield 177, 3) := by decide +kernel
theorem dX7_skips_15 : decode cX7_skips 15 = .ok (.iconst 1, 1) := by decide +kernel
theorem dX7_skips_16 : decode cX7_skips 16 = .ok (.iadd, 1) := by decide +kernel
theorem dX7_skips_17 : decode cX7_skips 17 = .ok (.putfield 177, 3) := by decide +kernel
theorem dX7_skips_20 : decode cX7_skips 20 = .ok (.iconst 1, 1) := by decide +kernel
theorem dX7_skips_21 : decode cX7_skips 21 = .ok (.ireturn, 1) := by decide +kernel
theorem ab_k197_0 (K : ab_Kt) : ∀ q ∈ ab_l197_0, ab_OK K ab_mt ab_g197 q.1 q.2 := by
  unfold ab_l197_0
  exact List.forall_mem_cons.mpr ⟨ab_aload_n_ok dX7_skips_0 rfl, List.forall_mem_cons.mpr ⟨ab_callV_ok' (G' := ab_g245) (C := RX7) (T := TX7) (N := 19) dX7_skips_1 ab_m245 rfl rfl (by decide) (by decide) (ab_l4 ab_w1100 ab_w1101 ab_w1102 ab_w8) ab_w1103 rfl ⟨by decide, by decide, by decide +kernel⟩, List.forall_mem_cons.mpr ⟨ab_iload_n_ok dX7_skips_4 rfl, List.forall_mem_cons.mpr ⟨ab_icmp_eq_ok dX7_skips_5 (by decide), List.forall_mem_cons.mpr ⟨ab_iconst_ok dX7_skips_8 (by decide), List.forall_mem_cons.mpr ⟨ab_zret_ok dX7_skips_9 rfl, List.forall_mem_cons.mpr ⟨ab_aload_n_ok dX7_skips_10 rfl, List.forall_mem_cons.mpr ⟨ab_dup_ok dX7_skips_11, List.forall_mem_cons.mpr ⟨ab_getf_ok (C := RX7) (T := TX7) (N := 19) (ci := 11) (k := 16) dX7_skips_12 rfl ab_ic11 (by decide) ab_w477, List.forall_mem_cons.mpr ⟨ab_iconst_ok dX7_skips_15 (by decide), List.forall_mem_cons.mpr ⟨ab_iadd_ok dX7_skips_16, List.forall_mem_cons.mpr ⟨ab_putf_ok (C := RX7) (T := TX7) (N := 19) (ci := 11) (k := 16) (ty0 := tyX7) dX7_skips_17 rfl ab_ic11 tyX7_ok nmX7 (by decide) ab_w477 rfl (Or.inl rfl), List.forall_mem_cons.mpr ⟨ab_iconst_ok dX7_skips_20 (by decide), List.forall_mem_cons.mpr ⟨ab_zret_ok dX7_skips_21 rfl, fun _ h => absurd h List.not_mem_nil⟩⟩⟩⟩⟩⟩⟩⟩⟩⟩⟩⟩⟩⟩
theorem ab_k197 (K : ab_Kt) : ∀ pc, ab_OK K ab_mt ab_g197 pc (ab_c197 pc) := ab_lk2_ok _ (List.forall_mem_cons.mpr ⟨ab_k197_0 K, fun _ h => absurd h List.not_mem_nil⟩)
theorem dX2_add_0 : decode cX2_add 0 = .ok (.aload_n 0, 1) := by decide +kernel
theorem dX2_add_1 : decode cX2_add 1 = .ok (.getfield 19, 3) := by decide +kernel
theorem dX2_add_4 : decode cX2_add 4 = .ok (.bipush 60, 2) := by decide +kernel
theorem dX2_add_6 : decode cX2_add 6 = .ok (.if_icmp .lt 8, 3) := by decide +kernel
theorem dX2_add_9 : decode cX2_add 9 = .ok (.aload_n 0, 1) := by decide +kernel
theorem dX2_add_10 : decode cX2_add 10 = .ok (.getfield 19, 3) := by decide +kernel
theorem dX2_add_13 : decode cX2_add 13 = .ok (.ireturn, 1) := by decide +kernel
theorem dX2_add_14 : decode cX2_add 14 = .ok (.aload_n 0, 1) := by decide +kernel
theorem dX2_add_15 : decode cX2_add 15 = .ok (.getfield 9, 3) := by decide +kernel
theorem dX2_add_18 : decode cX2_add 18 = .ok (.aload_n 0, 1) := by decide +kernel
theorem dX2_add_19 : decode cX2_add 19 = .ok (.getfield 19, 3) := by decide +kernel
theorem dX2_add_22 : decode cX2_add 22 = .ok (.iload_n 1, 1) := by decide +kernel
theorem dX2_add_23 : decode cX2_add 23 = .ok (.castore, 1) := by decide +kernel
theorem dX2_add_24 : decode cX2_add 24 = .ok (.aload_n 0, 1) := by decide +kernel
theorem dX2_add_25 : decode cX2_add 25 = .ok (.dup, 1) := by decide +kernel
theorem dX2_add_26 : decode cX2_add 26 = .ok (.getfield 19, 3) := by decide +kernel
theorem dX2_add_29 : decode cX2_add 29 = .ok (.iconst 1, 1) := by decide +kernel
theorem dX2_add_30 : decode cX2_add 30 = .ok (.iadd, 1) := by decide +kernel
theorem dX2_add_31 : decode cX2_add 31 = .ok (.putfield 19, 3) := by decide +kernel
theorem dX2_add_34 : decode cX2_add 34 = .ok (.aload_n 0, 1) := by decide +kernel
theorem dX2_add_35 : decode cX2_add 35 = .ok (.getfield 19, 3) := by decide +kernel
theorem dX2_add_38 : decode cX2_add 38 = .ok (.ireturn, 1) := by decide +kernel
theorem ab_k198_0 (K : ab_Kt) : ∀ q ∈ ab_l198_0, ab_OK K ab_mt ab_g198 q.1 q.2 := by
  unfold ab_l198_0
  exact List.forall_mem_cons.mpr ⟨ab_aload_n_ok dX2_add_0 rfl, List.forall_mem_cons.mpr ⟨ab_getf_ok (C := RX2) (T := TX2) (N := 8) (ci := 6) (k := 1) dX2_add_1 rfl ab_ic6 (by decide) ab_w1078, List.forall_mem_cons.mpr ⟨ab_bipush_ok dX2_add_4 (by decide), List.forall_mem_cons.mpr ⟨ab_icmp_lt_ok dX2_add_6 (by decide), List.forall_mem_cons.mpr ⟨ab_aload_n_ok dX2_add_9 rfl, List.forall_mem_cons.mpr ⟨ab_getf_ok (C := RX2) (T := TX2) (N := 8) (ci := 6) (k := 1) dX2_add_10 rfl ab_ic6 (by decide) ab_w1078, List.forall_mem_cons.mpr ⟨ab_iret_ok dX2_add_13 rfl, List.forall_mem_cons.mpr ⟨ab_aload_n_ok dX2_add_14 rfl, List.forall_mem_cons.mpr ⟨ab_getf_ok (C := RX2) (T := TX2) (N := 8) (ci := 6) (k := 0) dX2_add_15 rfl ab_ic6 (by decide) ab_w719, List.forall_mem_cons.mpr ⟨ab_aload_n_ok dX2_add_18 rfl, List.forall_mem_cons.mpr ⟨ab_getf_ok (C := RX2) (T := TX2) (N := 8) (ci := 6) (k := 1) dX2_add_19 rfl ab_ic6 (by decide) ab_w1078, List.forall_mem_cons.mpr ⟨ab_iload_n_ok dX2_add_22 rfl, List.forall_mem_cons.mpr ⟨ab_ast3_ok dX2_add_23, List.forall_mem_cons.mpr ⟨ab_aload_n_ok dX2_add_24 rfl, List.forall_mem_cons.mpr ⟨ab_dup_ok dX2_add_25, List.forall_mem_cons.mpr ⟨ab_getf_ok (C := RX2) (T := TX2) (N := 8) (ci := 6) (k := 1) dX2_add_26 rfl ab_ic6 (by decide) ab_w1078, List.forall_mem_cons.mpr ⟨ab_iconst_ok dX2_add_29 (by decide), List.forall_mem_cons.mpr ⟨ab_iadd_ok dX2_add_30, List.forall_mem_cons.mpr ⟨ab_putf_ok (C := RX2) (T := TX2) (N := 8) (ci := 6) (k := 1) (ty0 := tyX2) dX2_add_31 rfl ab_ic6 tyX2_ok nmX2 (by decide) ab_w1078 rfl (Or.inl rfl), List.forall_mem_cons.mpr ⟨ab_aload_n_ok dX2_add_34 rfl, List.forall_mem_cons.mpr ⟨ab_getf_ok (C := RX2) (T := TX2) (N := 8) (ci := 6) (k := 1) dX2_add_35 rfl ab_ic6 (by decide) ab_w1078, List.forall_mem_cons.mpr ⟨ab_iret_ok dX2_add_38 rfl, fun _ h => absurd h List.not_mem_nil⟩⟩⟩⟩⟩⟩⟩⟩⟩⟩⟩⟩⟩⟩⟩⟩⟩⟩⟩⟩⟩⟩
theorem ab_k198 (K : ab_Kt) : ∀ pc, ab_OK K ab_mt ab_g198 pc (ab_c198 pc) := ab_lk2_ok _ (List.forall_mem_cons.mpr ⟨ab_k198_0 K, fun _ h => absurd h List.not_mem_nil⟩)
theorem dX1_weight_0 : decode cX1_weight 0 = .ok (.aload_n 0, 1) := by decide +kernel
theorem dX1_weight_1 : decode cX1_weight 1 = .ok (.invokevirtual 106, 3) := by decide +kernel
theorem dX1_weight_4 : decode cX1_weight 4 = .ok (.bipush 97, 2) := by decide +kernel
theorem dX1_weight_6 : decode cX1_weight 6 = .ok (.imul, 1) := by decide +kernel
theorem dX1_weight_7 : decode cX1_weight 7 = .ok (.aload_n 0, 1) := by decide +kernel
theorem dX1_weight_8 : decode cX1_weight 8 = .ok (.invokevirtual 110, 3) := by decide +kernel
theorem dX1_weight_11 : decode cX1_weight 11 = .ok (.iadd, 1) := by decide +kernel
theorem dX1_weight_12 : decode cX1_weight 12 = .ok (.ireturn, 1) := by decide +kernel
theorem ab_k199_0 (K : ab_Kt) : ∀ q ∈ ab_l199_0, ab_OK K ab_mt ab_g199 q.1 q.2 := by
  unfold ab_l199_0
  exact List.forall_mem_cons.mpr ⟨ab_aload_n_ok dX1_weight_0 rfl, List.forall_mem_cons.mpr ⟨ab_callV_ok' (G' := ab_g184) (C := RX1) (T := TX1) (N := 13) dX1_weight_1 ab_m184 rfl rfl (by decide) (by decide) (ab_l4 ab_w1112 ab_w779 ab_w780 ab_w711) ab_w781 rfl ⟨by decide, by decide, by decide +kernel⟩, List.forall_mem_cons.mpr ⟨ab_bipush_ok dX1_weight_4 (by decide), List.forall_mem_cons.mpr ⟨ab_imul_ok dX1_weight_6, List.forall_mem_cons.mpr ⟨ab_aload_n_ok dX1_weight_7 rfl, List.forall_mem_cons.mpr ⟨ab_callV_ok' (G' := ab_g211) (C := RX1) (T := TX1) (N := 13) dX1_weight_8 ab_m211 rfl rfl (by decide) (by decide) (ab_l4 ab_w1113 ab_w916 ab_w917 ab_w711) ab_w918 rfl ⟨by decide, by decide, by decide +kernel⟩, List.forall_mem_cons.mpr ⟨ab_iadd_ok dX1_weight_11, List.forall_mem_cons.mpr ⟨ab_iret_ok dX1_weight_12 rfl, fun _ h => absurd h List.not_mem_nil⟩⟩⟩⟩⟩⟩⟩⟩
theorem ab_k199 (K : ab_Kt) : ∀ pc, ab_OK K ab_mt ab_g199 pc (ab_c199 pc) := ab_lk2_ok _ (List.forall_mem_cons.mpr ⟨ab_k199_0 K, fun _ h => absurd h List.not_mem_nil⟩)
theorem dX6_countAheadOf_0 : decode cX6_countAheadOf 0 = .ok (.iconst 0, 1) := by decide +kernel
theorem dX6_countAheadOf_1 : decode cX6_countAheadOf 1 = .ok (.istore_n 2, 1) := by decide +kernel
theorem dX6_countAheadOf_2 : decode cX6_countAheadOf 2 = .ok (.iconst 0, 1) := by decide +kernel
theorem dX6_countAheadOf_3 : decode cX6_countAheadOf 3 = .ok (.istore_n 3, 1) := by decide +kernel
theorem dX6_countAheadOf_4 : decode cX6_countAheadOf 4 = .ok (.iload_n 3, 1) := by decide +kernel
theorem dX6_countAheadOf_5 : decode cX6_countAheadOf 5 = .ok (.aload_n 0, 1) := by decide +kernel
theorem dX6_countAheadOf_6 : decode cX6_countAheadOf 6 = .ok (.getfield 20, 3) := by decide +kernel
theorem dX6_countAheadOf_9 : decode cX6_countAheadOf 9 = .ok (.getfield 229, 3) := by decide +kernel
theorem dX6_countAheadOf_12 : decode cX6_countAheadOf 12 = .ok (.if_icmp .ge 59, 3) := by decide +kernel
theorem dX6_countAheadOf_15 : decode cX6_countAheadOf 15 = .ok (.aload_n 0, 1) := by decide +kernel
theorem dX6_countAheadOf_16 : decode cX6_countAheadOf 16 = .ok (.getfield 52, 3) := by decide +kernel
theorem dX6_countAheadOf_19 : decode cX6_countAheadOf 19 = .ok (.iload_n 3, 1) := by decide +kernel
theorem dX6_countAheadOf_20 : decode cX6_countAheadOf 20 = .ok (.iaload, 1) := by decide +kernel
theorem dX6_countAheadOf_21 : decode cX6_countAheadOf 21 = .ok (.aload_n 0, 1) := by decide +kernel
theorem dX6_countAheadOf_22 : decode cX6_countAheadOf 22 = .ok (.getfield 52, 3) := by decide +kernel
theorem dX6_countAheadOf_25 : decode cX6_countAheadOf 25 = .ok (.iload_n 1, 1) := by decide +kernel
theorem dX6_countAheadOf_26 : decode cX6_countAheadOf 26 = .ok (.iaload, 1) := by decide +kernel
theorem dX6_countAheadOf_27 : decode cX6_countAheadOf 27 = .ok (.if_icmp .le 7, 3) := by decide +kernel
theorem dX6_countAheadOf_30 : decode cX6_countAheadOf 30 = .ok (.iconst 1, 1) := by decide +kernel
theorem dX6_countAheadOf_31 : decode cX6_countAheadOf 31 = .ok (.goto 4, 3) := by decide +kernel
theorem dX6_countAheadOf_34 : decode cX6_countAheadOf 34 = .ok (.iconst 0, 1) := by decide +kernel
theorem dX6_countAheadOf_35 : decode cX6_countAheadOf 35 = .ok (.istore 4, 2) := by decide +kernel
theorem dX6_countAheadOf_37 : decode cX6_countAheadOf 37 = .ok (.iload 4, 2) := by decide +kernel
theorem dX6_countAheadOf_39 : decode cX6_countAheadOf 39 = .ok (.ifCond .ne 23, 3) := by decide +kernel
theorem dX6_countAheadOf_42 : decode cX6_countAheadOf 42 = .ok (.aload_n 0, 1) := by decide +kernel
theorem dX6_countAheadOf_43 : decode cX6_countAheadOf 43 = .ok (.getfield 52, 3) := by decide +kernel
theorem dX6_countAheadOf_46 : decode cX6_countAheadOf 46 = .ok (.iload_n 3, 1) := by decide +kernel
theorem dX6_countAheadOf_47 : decode cX6_countAheadOf 47 = .ok (.iaload, 1) := by decide +kernel
theorem dX6_countAheadOf_48 : decode cX6_countAheadOf 48 = .ok (.aload_n 0, 1) := by decide +kernel
theorem dX6_countAheadOf_49 : decode cX6_countAheadOf 49 = .ok (.getfield 52, 3) := by decide +kernel
theorem dX6_countAheadOf_52 : decode cX6_countAheadOf 52 = .ok (.iload_n 1, 1) := by decide +kernel
theorem dX6_countAheadOf_53 : decode cX6_countAheadOf 53 = .ok (.iaload, 1) := by decide +kernel
theorem dX6_countAheadOf_54 : decode cX6_countAheadOf 54 = .ok (.if_icmp .ne 11, 3) := by decide +kernel
theorem dX6_countAheadOf_57 : decode cX6_countAheadOf 57 = .ok (.iload_n 3, 1) := by decide +kernel
theorem dX6_countAheadOf_58 : decode cX6_countAheadOf 58 = .ok (.iload_n 1, 1) := by decide +kernel
theorem dX6_countAheadOf_59 : decode cX6_countAheadOf 59 = .ok (.if_icmp .ge 6, 3) := by decide +kernel
theorem dX6_countAheadOf_62 : decode cX6_countAheadOf 62 = .ok (.iinc 2 1, 3) := by decide +kernel
theorem dX6_countAheadOf_65 : decode cX6_countAheadOf 65 = .ok (.iinc 3 1, 3) := by decide +kernel
theorem dX6_countAheadOf_68 : decode cX6_countAheadOf 68 = .ok (.goto (-64), 3) := by decide +kernel
theorem dX6_countAheadOf_71 : decode cX6_countAheadOf 71 = .ok (.iload_n 2, 1) := by decide +kernel
theorem ab_k200_0 (K : ab_Kt) : ∀ q ∈ ab_l200_0, ab_OK K ab_mt ab_g200 q.1 q.2 := by
  unfold ab_l200_0
  exact List.forall_mem_cons.mpr ⟨ab_iconst_ok dX6_countAheadOf_0 (by decide), List.forall_mem_cons.mpr ⟨ab_istore_n_ok dX6_countAheadOf_1 rfl, List.forall_mem_cons.mpr ⟨ab_iconst_ok dX6_countAheadOf_2 (by decide), List.forall_mem_cons.mpr ⟨ab_istore_n_ok dX6_countAheadOf_3 rfl, List.forall_mem_cons.mpr ⟨ab_iload_n_ok dX6_countAheadOf_4 rfl, List.forall_mem_cons.mpr ⟨ab_aload_n_ok dX6_countAheadOf_5 rfl, List.forall_mem_cons.mpr ⟨ab_getf_ok (C := RX6) (T := TX6) (N := 9) (ci := 10) (k := 1) dX6_countAheadOf_6 rfl ab_ic10 (by decide) ab_w318, List.forall_mem_cons.mpr ⟨ab_getf_ok (C := RX5) (T := TX5) (N := 10) (ci := 9) (k := 2) dX6_countAheadOf_9 rfl ab_ic9 (by decide) ab_w378, List.forall_mem_cons.mpr ⟨ab_icmp_ge_ok dX6_countAheadOf_12 (by decide), List.forall_mem_cons.mpr ⟨ab_aload_n_ok dX6_countAheadOf_15 rfl, List.forall_mem_cons.mpr ⟨ab_getf_ok (C := RX6) (T := TX6) (N := 9) (ci := 10) (k := 8) dX6_countAheadOf_16 rfl ab_ic10 (by decide) ab_w348, List.forall_mem_cons.mpr ⟨ab_iload_n_ok dX6_countAheadOf_19 rfl, List.forall_mem_cons.mpr ⟨ab_ald0_ok dX6_countAheadOf_20, List.forall_mem_cons.mpr ⟨ab_aload_n_ok dX6_countAheadOf_21 rfl, List.forall_mem_cons.mpr ⟨ab_getf_ok (C := RX6) (T := TX6) (N := 9) (ci := 10) (k := 8) dX6_countAheadOf_22 rfl ab_ic10 (by decide) ab_w348, List.forall_mem_cons.mpr ⟨ab_iload_n_ok dX6_countAheadOf_25 rfl, List.forall_mem_cons.mpr ⟨ab_ald0_ok dX6_countAheadOf_26, List.forall_mem_cons.mpr ⟨ab_icmp_le_ok dX6_countAheadOf_27 (by decide), List.forall_mem_cons.mpr ⟨ab_iconst_ok dX6_countAheadOf_30 (by decide), List.forall_mem_cons.mpr ⟨ab_goto_ok dX6_countAheadOf_31 (by decide), List.forall_mem_cons.mpr ⟨ab_iconst_ok dX6_countAheadOf_34 (by decide), List.forall_mem_cons.mpr ⟨ab_istore_ok dX6_countAheadOf_35, List.forall_mem_cons.mpr ⟨ab_iload_ok dX6_countAheadOf_37, List.forall_mem_cons.mpr ⟨ab_if_ne_ok dX6_countAheadOf_39 (by decide), List.forall_mem_cons.mpr ⟨ab_aload_n_ok dX6_countAheadOf_42 rfl, List.forall_mem_cons.mpr ⟨ab_getf_ok (C := RX6) (T := TX6) (N := 9) (ci := 10) (k := 8) dX6_countAheadOf_43 rfl ab_ic10 (by decide) ab_w348, List.forall_mem_cons.mpr ⟨ab_iload_n_ok dX6_countAheadOf_46 rfl, List.forall_mem_cons.mpr ⟨ab_ald0_ok dX6_countAheadOf_47, List.forall_mem_cons.mpr ⟨ab_aload_n_ok dX6_countAheadOf_48 rfl, List.forall_mem_cons.mpr ⟨ab_getf_ok (C := RX6) (T := TX6) (N := 9) (ci := 10) (k := 8) dX6_countAheadOf_49 rfl ab_ic10 (by decide) ab_w348, List.forall_mem_cons.mpr ⟨ab_iload_n_ok dX6_countAheadOf_52 rfl, List.forall_mem_cons.mpr ⟨ab_ald0_ok dX6_countAheadOf_53, List.forall_mem_cons.mpr ⟨ab_icmp_ne_ok dX6_countAheadOf_54 (by decide), List.forall_mem_cons.mpr ⟨ab_iload_n_ok dX6_countAheadOf_57 rfl, List.forall_mem_cons.mpr ⟨ab_iload_n_ok dX6_countAheadOf_58 rfl, List.forall_mem_cons.mpr ⟨ab_icmp_ge_ok dX6_countAheadOf_59 (by decide), List.forall_mem_cons.mpr ⟨ab_iinc_ok dX6_countAheadOf_62 (by decide), List.forall_mem_cons.mpr ⟨ab_iinc_ok dX6_countAheadOf_65 (by decide), List.forall_mem_cons.mpr ⟨ab_goto_ok dX6_countAheadOf_68 (by decide), List.forall_mem_cons.mpr ⟨ab_iload_n_ok dX6_countAheadOf_71 rfl, fun _ h => absurd h List.not_mem_nil⟩⟩⟩⟩⟩⟩⟩⟩⟩⟩⟩⟩⟩⟩⟩⟩⟩⟩⟩⟩⟩⟩⟩⟩⟩⟩⟩⟩⟩⟩⟩⟩⟩⟩⟩⟩⟩⟩⟩⟩
theorem dX6_countAheadOf_72 : decode cX6_countAheadOf 72 = .ok (.ireturn, 1) := by decide +kernel
theorem ab_k200_1 (K : ab_Kt) : ∀ q ∈ ab_l200_1, ab_OK K ab_mt ab_g200 q.1 q.2 := by
  unfold ab_l200_1
  exact List.forall_mem_cons.mpr ⟨ab_iret_ok dX6_countAheadOf_72 rfl, fun _ h => absurd h List.not_mem_nil⟩
theorem ab_k200 (K : ab_Kt) : ∀ pc, ab_OK K ab_mt ab_g200 pc (ab_c200 pc) := ab_lk2_ok _ (List.forall_mem_cons.mpr ⟨ab_k200_0 K, List.forall_mem_cons.mpr ⟨ab_k200_1 K, fun _ h => absurd h List.not_mem_nil⟩⟩)
theorem dX6_filledPress_0 : decode cX6_filledPress 0 = .ok (.aload_n 0, 1) := by decide +kernel
theorem dX6_filledPress_1 : decode cX6_filledPress 1 = .ok (.iload_n 1, 1) := by decide +kernel
theorem dX6_filledPress_2 : decode cX6_filledPress 2 = .ok (.invokevirtual 201, 3) := by decide +kernel
theorem dX6_filledPress_5 : decode cX6_filledPress 5 = .ok (.astore_n 2, 1) := by decide +kernel
theorem dX6_filledPress_6 : decode cX6_filledPress 6 = .ok (.aload_n 2, 1) := by decide +kernel
theorem dX6_filledPress_7 : decode cX6_filledPress 7 = .ok (.getfield 205, 3) := by decide +kernel
theorem dX6_filledPress_10 : decode cX6_filledPress 10 = .ok (.ifCond .ne 11, 3) := by decide +kernel
theorem dX6_filledPress_13 : decode cX6_filledPress 13 = .ok (.new 179, 3) := by decide +kernel
theorem dX6_filledPress_16 : decode cX6_filledPress 16 = .ok (.dup, 1) := by decide +kernel
theorem dX6_filledPress_17 : decode cX6_filledPress 17 = .ok (.invokespecial 181, 3) := by decide +kernel
theorem dX6_filledPress_20 : decode cX6_filledPress 20 = .ok (.athrow, 1) := by decide +kernel
theorem dX6_filledPress_21 : decode cX6_filledPress 21 = .ok (.aload_n 2, 1) := by decide +kernel
theorem dX6_filledPress_22 : decode cX6_filledPress 22 = .ok (.areturn, 1) := by decide +kernel
theorem ab_k201_0 (K : ab_Kt) : ∀ q ∈ ab_l201_0, ab_OK K ab_mt ab_g201 q.1 q.2 := by
  unfold ab_l201_0
  exact List.forall_mem_cons.mpr ⟨ab_aload_n_ok dX6_filledPress_0 rfl, List.forall_mem_cons.mpr ⟨ab_iload_n_ok dX6_filledPress_1 rfl, List.forall_mem_cons.mpr ⟨ab_callV_ok' (G' := ab_g203) (C := RX6) (T := TX6) (N := 9) dX6_filledPress_2 ab_m203 rfl rfl (by decide) (by decide) (ab_l4 ab_w883 ab_w884 ab_w885 ab_w2) ab_w886 rfl ⟨by decide, by decide, by decide +kernel⟩, List.forall_mem_cons.mpr ⟨ab_astore_n_ok dX6_filledPress_5 rfl, List.forall_mem_cons.mpr ⟨ab_aload_n_ok dX6_filledPress_6 rfl, List.forall_mem_cons.mpr ⟨ab_getf_ok (C := RX4) (T := TX4) (N := 2) (ci := 8) (k := 1) dX6_filledPress_7 rfl ab_ic8 (by decide) ab_w876, List.forall_mem_cons.mpr ⟨ab_if_ne_ok dX6_filledPress_10 (by decide), List.forall_mem_cons.mpr ⟨ab_thr_ok (ik := 179) (ic := 181) (by decide +kernel) (ab_l2 ab_w810 ab_w811) ab_th_4 (by decide +kernel) dX6_filledPress_13 dX6_filledPress_16 dX6_filledPress_17 dX6_filledPress_20 rfl, List.forall_mem_cons.mpr ⟨ab_aload_n_ok dX6_filledPress_21 rfl, List.forall_mem_cons.mpr ⟨ab_aret_ok dX6_filledPress_22 (Or.inl ⟨_, rfl⟩) rfl, fun _ h => absurd h List.not_mem_nil⟩⟩⟩⟩⟩⟩⟩⟩⟩⟩
theorem ab_k201 (K : ab_Kt) : ∀ pc, ab_OK K ab_mt ab_g201 pc (ab_c201 pc) := ab_lk2_ok _ (List.forall_mem_cons.mpr ⟨ab_k201_0 K, fun _ h => absurd h List.not_mem_nil⟩)
theorem dX6_isAllSetAfter_0 : decode cX6_isAllSetAfter 0 = .ok (.iconst 0, 1) := by decide +kernel
theorem dX6_isAllSetAfter_1 : decode cX6_isAllSetAfter 1 = .ok (.istore_n 3, 1) := by decide +kernel
theorem dX6_isAllSetAfter_2 : decode cX6_isAllSetAfter 2 = .ok (.iload_n 3, 1) := by decide +kernel
theorem dX6_isAllSetAfter_3 : decode cX6_isAllSetAfter 3 = .ok (.aload_n 1, 1) := by decide +kernel
theorem dX6_isAllSetAfter_4 : decode cX6_isAllSetAfter 4 = .ok (.getfield 205, 3) := by decide +kernel
theorem dX6_isAllSetAfter_7 : decode cX6_isAllSetAfter 7 = .ok (.if_icmp .ge 32, 3) := by decide +kernel
theorem dX6_isAllSetAfter_10 : decode cX6_isAllSetAfter 10 = .ok (.aload_n 0, 1) := by decide +kernel
theorem dX6_isAllSetAfter_11 : decode cX6_isAllSetAfter 11 = .ok (.getfield 20, 3) := by decide +kernel
theorem dX6_isAllSetAfter_14 : decode cX6_isAllSetAfter 14 = .ok (.getfield 216, 3) := by decide +kernel
theorem dX6_isAllSetAfter_17 : decode cX6_isAllSetAfter 17 = .ok (.aload_n 1, 1) := by decide +kernel
theorem dX6_isAllSetAfter_18 : decode cX6_isAllSetAfter 18 = .ok (.getfield 210, 3) := by decide +kernel
theorem dX6_isAllSetAfter_21 : decode cX6_isAllSetAfter 21 = .ok (.iload_n 3, 1) := by decide +kernel
theorem dX6_isAllSetAfter_22 : decode cX6_isAllSetAfter 22 = .ok (.iaload, 1) := by decide +kernel
theorem dX6_isAllSetAfter_23 : decode cX6_isAllSetAfter 23 = .ok (.aaload, 1) := by decide +kernel
theorem dX6_isAllSetAfter_24 : decode cX6_isAllSetAfter 24 = .ok (.getfield 137, 3) := by decide +kernel
theorem dX6_isAllSetAfter_27 : decode cX6_isAllSetAfter 27 = .ok (.iload_n 2, 1) := by decide +kernel
theorem dX6_isAllSetAfter_28 : decode cX6_isAllSetAfter 28 = .ok (.if_icmp .le 5, 3) := by decide +kernel
theorem dX6_isAllSetAfter_31 : decode cX6_isAllSetAfter 31 = .ok (.iconst 0, 1) := by decide +kernel
theorem dX6_isAllSetAfter_32 : decode cX6_isAllSetAfter 32 = .ok (.ireturn, 1) := by decide +kernel
theorem dX6_isAllSetAfter_33 : decode cX6_isAllSetAfter 33 = .ok (.iinc 3 1, 3) := by decide +kernel
theorem dX6_isAllSetAfter_36 : decode cX6_isAllSetAfter 36 = .ok (.goto (-34), 3) := by decide +kernel
theorem dX6_isAllSetAfter_39 : decode cX6_isAllSetAfter 39 = .ok (.iconst 1, 1) := by decide +kernel
theorem dX6_isAllSetAfter_40 : decode cX6_isAllSetAfter 40 = .ok (.ireturn, 1) := by decide +kernel
theorem ab_k202_0 (K : ab_Kt) : ∀ q ∈ ab_l202_0, ab_OK K ab_mt ab_g202 q.1 q.2 := by
  unfold ab_l202_0
  exact List.forall_mem_cons.mpr ⟨ab_iconst_ok dX6_isAllSetAfter_0 (by decide), List.forall_mem_cons.mpr ⟨ab_istore_n_ok dX6_isAllSetAfter_1 rfl, List.forall_mem_cons.mpr ⟨ab_iload_n_ok dX6_isAllSetAfter_2 rfl, List.forall_mem_cons.mpr ⟨ab_aload_n_ok dX6_isAllSetAfter_3 rfl, List.forall_mem_cons.mpr ⟨ab_getf_ok (C := RX4) (T := TX4) (N := 2) (ci := 8) (k := 1) dX6_isAllSetAfter_4 rfl ab_ic8 (by decide) ab_w876, List.forall_mem_cons.mpr ⟨ab_icmp_ge_ok dX6_isAllSetAfter_7 (by decide), List.forall_mem_cons.mpr ⟨ab_aload_n_ok dX6_isAllSetAfter_10 rfl, List.forall_mem_cons.mpr ⟨ab_getf_ok (C := RX6) (T := TX6) (N := 9) (ci := 10) (k := 1) dX6_isAllSetAfter_11 rfl ab_ic10 (by decide) ab_w318, List.forall_mem_cons.mpr ⟨ab_getf_ok (C := RX5) (T := TX5) (N := 10) (ci := 9) (k := 0) dX6_isAllSetAfter_14 rfl ab_ic9 (by decide) ab_w859, List.forall_mem_cons.mpr ⟨ab_aload_n_ok dX6_isAllSetAfter_17 rfl, List.forall_mem_cons.mpr ⟨ab_getf_ok (C := RX4) (T := TX4) (N := 2) (ci := 8) (k := 0) dX6_isAllSetAfter_18 rfl ab_ic8 (by decide) ab_w877, List.forall_mem_cons.mpr ⟨ab_iload_n_ok dX6_isAllSetAfter_21 rfl, List.forall_mem_cons.mpr ⟨ab_ald0_ok dX6_isAllSetAfter_22, List.forall_mem_cons.mpr ⟨ab_aald_ok dX6_isAllSetAfter_23 rfl, List.forall_mem_cons.mpr ⟨ab_getf_ok (C := RX1) (T := TX1) (N := 13) (ci := 5) (k := 7) dX6_isAllSetAfter_24 rfl ab_ic5 (by decide) ab_w878, List.forall_mem_cons.mpr ⟨ab_iload_n_ok dX6_isAllSetAfter_27 rfl, List.forall_mem_cons.mpr ⟨ab_icmp_le_ok dX6_isAllSetAfter_28 (by decide), List.forall_mem_cons.mpr ⟨ab_iconst_ok dX6_isAllSetAfter_31 (by decide), List.forall_mem_cons.mpr ⟨ab_zret_ok dX6_isAllSetAfter_32 rfl, List.forall_mem_cons.mpr ⟨ab_iinc_ok dX6_isAllSetAfter_33 (by decide), List.forall_mem_cons.mpr ⟨ab_goto_ok dX6_isAllSetAfter_36 (by decide), List.forall_mem_cons.mpr ⟨ab_iconst_ok dX6_isAllSetAfter_39 (by decide), List.forall_mem_cons.mpr ⟨ab_zret_ok dX6_isAllSetAfter_40 rfl, fun _ h => absurd h List.not_mem_nil⟩⟩⟩⟩⟩⟩⟩⟩⟩⟩⟩⟩⟩⟩⟩⟩⟩⟩⟩⟩⟩⟩⟩
theorem ab_k202 (K : ab_Kt) : ∀ pc, ab_OK K ab_mt ab_g202 pc (ab_c202 pc) := ab_lk2_ok _ (List.forall_mem_cons.mpr ⟨ab_k202_0 K, fun _ h => absurd h List.not_mem_nil⟩)
theorem dX6_existingPress_0 : decode cX6_existingPress 0 = .ok (.aload_n 0, 1) := by decide +kernel
theorem dX6_existingPress_1 : decode cX6_existingPress 1 = .ok (.getfield 20, 3) := by decide +kernel
theorem dX6_existingPress_4 : decode cX6_existingPress 4 = .ok (.iload_n 1, 1) := by decide +kernel
theorem dX6_existingPress_5 : decode cX6_existingPress 5 = .ok (.invokevirtual 351, 3) := by decide +kernel
theorem dX6_existingPress_8 : decode cX6_existingPress 8 = .ok (.ifCond .ne 11, 3) := by decide +kernel
theorem dX6_existingPress_11 : decode cX6_existingPress 11 = .ok (.new 283, 3) := by decide +kernel
theorem dX6_existingPress_14 : decode cX6_existingPress 14 = .ok (.dup, 1) := by decide +kernel
theorem dX6_existingPress_15 : decode cX6_existingPress 15 = .ok (.invokespecial 285, 3) := by decide +kernel
theorem dX6_existingPress_18 : decode cX6_existingPress 18 = .ok (.athrow, 1) := by decide +kernel
theorem dX6_existingPress_19 : decode cX6_existingPress 19 = .ok (.aload_n 0, 1) := by decide +kernel
theorem dX6_existingPress_20 : decode cX6_existingPress 20 = .ok (.getfield 20, 3) := by decide +kernel
theorem dX6_existingPress_23 : decode cX6_existingPress 23 = .ok (.getfield 354, 3) := by decide +kernel
theorem dX6_existingPress_26 : decode cX6_existingPress 26 = .ok (.iload_n 1, 1) := by decide +kernel
theorem dX6_existingPress_27 : decode cX6_existingPress 27 = .ok (.aaload, 1) := by decide +kernel
theorem dX6_existingPress_28 : decode cX6_existingPress 28 = .ok (.areturn, 1) := by decide +kernel
theorem ab_k203_0 (K : ab_Kt) : ∀ q ∈ ab_l203_0, ab_OK K ab_mt ab_g203 q.1 q.2 := by
  unfold ab_l203_0
  exact List.forall_mem_cons.mpr ⟨ab_aload_n_ok dX6_existingPress_0 rfl, List.forall_mem_cons.mpr ⟨ab_getf_ok (C := RX6) (T := TX6) (N := 9) (ci := 10) (k := 1) dX6_existingPress_1 rfl ab_ic10 (by decide) ab_w318, List.forall_mem_cons.mpr ⟨ab_iload_n_ok dX6_existingPress_4 rfl, List.forall_mem_cons.mpr ⟨ab_callV_ok' (G' := ab_g248) (C := RX5) (T := TX5) (N := 10) dX6_existingPress_5 ab_m248 rfl rfl (by decide) (by decide) (ab_l4 ab_w1114 ab_w1115 ab_w1116 ab_w328) ab_w1117 rfl ⟨by decide, by decide, by decide +kernel⟩, List.forall_mem_cons.mpr ⟨ab_if_ne_ok dX6_existingPress_8 (by decide), List.forall_mem_cons.mpr ⟨ab_thr_ok (ik := 283) (ic := 285) (by decide +kernel) (ab_l2 ab_w786 ab_w787) ab_th_3 (by decide +kernel) dX6_existingPress_11 dX6_existingPress_14 dX6_existingPress_15 dX6_existingPress_18 rfl, List.forall_mem_cons.mpr ⟨ab_aload_n_ok dX6_existingPress_19 rfl, List.forall_mem_cons.mpr ⟨ab_getf_ok (C := RX6) (T := TX6) (N := 9) (ci := 10) (k := 1) dX6_existingPress_20 rfl ab_ic10 (by decide) ab_w318, List.forall_mem_cons.mpr ⟨ab_getf_ok (C := RX5) (T := TX5) (N := 10) (ci := 9) (k := 1) dX6_existingPress_23 rfl ab_ic9 (by decide) ab_w1118, List.forall_mem_cons.mpr ⟨ab_iload_n_ok dX6_existingPress_26 rfl, List.forall_mem_cons.mpr ⟨ab_aald_ok dX6_existingPress_27 rfl, List.forall_mem_cons.mpr ⟨ab_aret_ok dX6_existingPress_28 (Or.inl ⟨_, rfl⟩) rfl, fun _ h => absurd h List.not_mem_nil⟩⟩⟩⟩⟩⟩⟩⟩⟩⟩⟩⟩
theorem ab_k203 (K : ab_Kt) : ∀ pc, ab_OK K ab_mt ab_g203 pc (ab_c203 pc) := ab_lk2_ok _ (List.forall_mem_cons.mpr ⟨ab_k203_0 K, fun _ h => absurd h List.not_mem_nil⟩)
theorem dX6_withPosition_0 : decode cX6_withPosition 0 = .ok (.aload_n 0, 1) := by decide +kernel
theorem dX6_withPosition_1 : decode cX6_withPosition 1 = .ok (.iload_n 1, 1) := by decide +kernel
theorem dX6_withPosition_2 : decode cX6_withPosition 2 = .ok (.invokevirtual 106, 3) := by decide +kernel
theorem dX6_withPosition_5 : decode cX6_withPosition 5 = .ok (.astore_n 3, 1) := by decide +kernel
theorem dX6_withPosition_6 : decode cX6_withPosition 6 = .ok (.aload_n 3, 1) := by decide +kernel
theorem dX6_withPosition_7 : decode cX6_withPosition 7 = .ok (.iload_n 2, 1) := by decide +kernel
theorem dX6_withPosition_8 : decode cX6_withPosition 8 = .ok (.invokevirtual 348, 3) := by decide +kernel
theorem dX6_withPosition_11 : decode cX6_withPosition 11 = .ok (.ifCond .ne 11, 3) := by decide +kernel
theorem dX6_withPosition_14 : decode cX6_withPosition 14 = .ok (.new 283, 3) := by decide +kernel
theorem dX6_withPosition_17 : decode cX6_withPosition 17 = .ok (.dup, 1) := by decide +kernel
theorem dX6_withPosition_18 : decode cX6_withPosition 18 = .ok (.invokespecial 285, 3) := by decide +kernel
theorem dX6_withPosition_21 : decode cX6_withPosition 21 = .ok (.athrow, 1) := by decide +kernel
theorem dX6_withPosition_22 : decode cX6_withPosition 22 = .ok (.aload_n 3, 1) := by decide +kernel
theorem dX6_withPosition_23 : decode cX6_withPosition 23 = .ok (.areturn, 1) := by decide +kernel
theorem ab_k204_0 (K : ab_Kt) : ∀ q ∈ ab_l204_0, ab_OK K ab_mt ab_g204 q.1 q.2 := by
  unfold ab_l204_0
  exact List.forall_mem_cons.mpr ⟨ab_aload_n_ok dX6_withPosition_0 rfl, List.forall_mem_cons.mpr ⟨ab_iload_n_ok dX6_withPosition_1 rfl, List.forall_mem_cons.mpr ⟨ab_callV_ok' (G' := ab_g182) (C := RX6) (T := TX6) (N := 9) dX6_withPosition_2 ab_m182 rfl rfl (by decide) (by decide) (ab_l4 ab_w770 ab_w771 ab_w772 ab_w2) ab_w773 rfl ⟨by decide, by decide, by decide +kernel⟩, List.forall_mem_cons.mpr ⟨ab_astore_n_ok dX6_withPosition_5 rfl, List.forall_mem_cons.mpr ⟨ab_aload_n_ok dX6_withPosition_6 rfl, List.forall_mem_cons.mpr ⟨ab_iload_n_ok dX6_withPosition_7 rfl, List.forall_mem_cons.mpr ⟨ab_callV_ok' (G' := ab_g249) (C := RX1) (T := TX1) (N := 13) dX6_withPosition_8 ab_m249 rfl rfl (by decide) (by decide) (ab_l4 ab_w1119 ab_w1120 ab_w1121 ab_w711) ab_w1122 rfl ⟨by decide, by decide, by decide +kernel⟩, List.forall_mem_cons.mpr ⟨ab_if_ne_ok dX6_withPosition_11 (by decide), List.forall_mem_cons.mpr ⟨ab_thr_ok (ik := 283) (ic := 285) (by decide +kernel) (ab_l2 ab_w786 ab_w787) ab_th_3 (by decide +kernel) dX6_withPosition_14 dX6_withPosition_17 dX6_withPosition_18 dX6_withPosition_21 rfl, List.forall_mem_cons.mpr ⟨ab_aload_n_ok dX6_withPosition_22 rfl, List.forall_mem_cons.mpr ⟨ab_aret_ok dX6_withPosition_23 (Or.inl ⟨_, rfl⟩) rfl, fun _ h => absurd h List.not_mem_nil⟩⟩⟩⟩⟩⟩⟩⟩⟩⟩⟩
theorem ab_k204 (K : ab_Kt) : ∀ pc, ab_OK K ab_mt ab_g204 pc (ab_c204 pc) := ab_lk2_ok _ (List.forall_mem_cons.mpr ⟨ab_k204_0 K, fun _ h => absurd h List.not_mem_nil⟩)
theorem dX1_isSlipped_0 : decode cX1_isSlipped 0 = .ok (.iload_n 1, 1) := by decide +kernel
theorem dX1_isSlipped_1 : decode cX1_isSlipped 1 = .ok (.bipush 64, 2) := by decide +kernel
theorem dX1_isSlipped_3 : decode cX1_isSlipped 3 = .ok (.idiv, 1) := by decide +kernel
theorem dX1_isSlipped_4 : decode cX1_isSlipped 4 = .ok (.istore_n 2, 1) := by decide +kernel
theorem dX1_isSlipped_5 : decode cX1_isSlipped 5 = .ok (.iload_n 1, 1) := by decide +kernel
theorem dX1_isSlipped_6 : decode cX1_isSlipped 6 = .ok (.ifCond .lt 8, 3) := by decide +kernel
theorem dX1_isSlipped_9 : decode cX1_isSlipped 9 = .ok (.iload_n 2, 1) := by decide +kernel
theorem dX1_isSlipped_10 : decode cX1_isSlipped 10 = .ok (.iconst 3, 1) := by decide +kernel
theorem dX1_isSlipped_11 : decode cX1_isSlipped 11 = .ok (.if_icmp .lt 5, 3) := by decide +kernel
theorem dX1_isSlipped_14 : decode cX1_isSlipped 14 = .ok (.iconst 0, 1) := by decide +kernel
theorem dX1_isSlipped_15 : decode cX1_isSlipped 15 = .ok (.ireturn, 1) := by decide +kernel
theorem dX1_isSlipped_16 : decode cX1_isSlipped 16 = .ok (.aload_n 0, 1) := by decide +kernel
theorem dX1_isSlipped_17 : decode cX1_isSlipped 17 = .ok (.getfield 29, 3) := by decide +kernel
theorem dX1_isSlipped_20 : decode cX1_isSlipped 20 = .ok (.iload_n 2, 1) := by decide +kernel
theorem dX1_isSlipped_21 : decode cX1_isSlipped 21 = .ok (.laload, 1) := by decide +kernel
theorem dX1_isSlipped_22 : decode cX1_isSlipped 22 = .ok (.iload_n 1, 1) := by decide +kernel
theorem dX1_isSlipped_23 : decode cX1_isSlipped 23 = .ok (.bipush 64, 2) := by decide +kernel
theorem dX1_isSlipped_25 : decode cX1_isSlipped 25 = .ok (.irem, 1) := by decide +kernel
theorem dX1_isSlipped_26 : decode cX1_isSlipped 26 = .ok (.lushr, 1) := by decide +kernel
theorem dX1_isSlipped_27 : decode cX1_isSlipped 27 = .ok (.lconst 1, 1) := by decide +kernel
theorem dX1_isSlipped_28 : decode cX1_isSlipped 28 = .ok (.land, 1) := by decide +kernel
theorem dX1_isSlipped_29 : decode cX1_isSlipped 29 = .ok (.lconst 1, 1) := by decide +kernel
theorem dX1_isSlipped_30 : decode cX1_isSlipped 30 = .ok (.lcmp, 1) := by decide +kernel
theorem dX1_isSlipped_31 : decode cX1_isSlipped 31 = .ok (.ifCond .ne 7, 3) := by decide +kernel
theorem dX1_isSlipped_34 : decode cX1_isSlipped 34 = .ok (.iconst 1, 1) := by decide +kernel
theorem dX1_isSlipped_35 : decode cX1_isSlipped 35 = .ok (.goto 4, 3) := by decide +kernel
theorem dX1_isSlipped_38 : decode cX1_isSlipped 38 = .ok (.iconst 0, 1) := by decide +kernel
theorem dX1_isSlipped_39 : decode cX1_isSlipped 39 = .ok (.ireturn, 1) := by decide +kernel
theorem ab_k205_0 (K : ab_Kt) : ∀ q ∈ ab_l205_0, ab_OK K ab_mt ab_g205 q.1 q.2 := by
  unfold ab_l205_0
  exact List.forall_mem_cons.mpr ⟨ab_iload_n_ok dX1_isSlipped_0 rfl, List.forall_mem_cons.mpr ⟨ab_bipush_ok dX1_isSlipped_1 (by decide), List.forall_mem_cons.mpr ⟨ab_idiv_ok dX1_isSlipped_3, List.forall_mem_cons.mpr ⟨ab_istore_n_ok dX1_isSlipped_4 rfl, List.forall_mem_cons.mpr ⟨ab_iload_n_ok dX1_isSlipped_5 rfl, List.forall_mem_cons.mpr ⟨ab_if_lt_ok dX1_isSlipped_6 (by decide), List.forall_mem_cons.mpr ⟨ab_iload_n_ok dX1_isSlipped_9 rfl, List.forall_mem_cons.mpr ⟨ab_iconst_ok dX1_isSlipped_10 (by decide), List.forall_mem_cons.mpr ⟨ab_icmp_lt_ok dX1_isSlipped_11 (by decide), List.forall_mem_cons.mpr ⟨ab_iconst_ok dX1_isSlipped_14 (by decide), List.forall_mem_cons.mpr ⟨ab_zret_ok dX1_isSlipped_15 rfl, List.forall_mem_cons.mpr ⟨ab_aload_n_ok dX1_isSlipped_16 rfl, List.forall_mem_cons.mpr ⟨ab_getf_ok (C := RX1) (T := TX1) (N := 13) (ci := 5) (k := 12) dX1_isSlipped_17 rfl ab_ic5 (by decide) ab_w1000, List.forall_mem_cons.mpr ⟨ab_iload_n_ok dX1_isSlipped_20 rfl, List.forall_mem_cons.mpr ⟨ab_lald_ok dX1_isSlipped_21, List.forall_mem_cons.mpr ⟨ab_iload_n_ok dX1_isSlipped_22 rfl, List.forall_mem_cons.mpr ⟨ab_bipush_ok dX1_isSlipped_23 (by decide), List.forall_mem_cons.mpr ⟨ab_irem_ok dX1_isSlipped_25, List.forall_mem_cons.mpr ⟨ab_lushr_ok dX1_isSlipped_26, List.forall_mem_cons.mpr ⟨ab_lconst_ok dX1_isSlipped_27 (by decide), List.forall_mem_cons.mpr ⟨ab_land_ok dX1_isSlipped_28, List.forall_mem_cons.mpr ⟨ab_lconst_ok dX1_isSlipped_29 (by decide), List.forall_mem_cons.mpr ⟨ab_lcmp_ok dX1_isSlipped_30, List.forall_mem_cons.mpr ⟨ab_if_ne_ok dX1_isSlipped_31 (by decide), List.forall_mem_cons.mpr ⟨ab_iconst_ok dX1_isSlipped_34 (by decide), List.forall_mem_cons.mpr ⟨ab_goto_ok dX1_isSlipped_35 (by decide), List.forall_mem_cons.mpr ⟨ab_iconst_ok dX1_isSlipped_38 (by decide), List.forall_mem_cons.mpr ⟨ab_zret_ok dX1_isSlipped_39 rfl, fun _ h => absurd h List.not_mem_nil⟩⟩⟩⟩⟩⟩⟩⟩⟩⟩⟩⟩⟩⟩⟩⟩⟩⟩⟩⟩⟩⟩⟩⟩⟩⟩⟩⟩
theorem ab_k205 (K : ab_Kt) : ∀ pc, ab_OK K ab_mt ab_g205 pc (ab_c205 pc) := ab_lk2_ok _ (List.forall_mem_cons.mpr ⟨ab_k205_0 K, fun _ h => absurd h List.not_mem_nil⟩)
theorem dX1_threadLacking_0 : decode cX1_threadLacking 0 = .ok (.iconst 0, 1) := by decide +kernel
theorem dX1_threadLacking_1 : decode cX1_threadLacking 1 = .ok (.istore_n 1, 1) := by decide +kernel
theorem dX1_threadLacking_2 : decode cX1_threadLacking 2 = .ok (.aload_n 0, 1) := by decide +kernel
theorem dX1_threadLacking_3 : decode cX1_threadLacking 3 = .ok (.getfield 45, 3) := by decide +kernel
theorem dX1_threadLacking_6 : decode cX1_threadLacking 6 = .ok (.istore_n 2, 1) := by decide +kernel
theorem dX1_threadLacking_7 : decode cX1_threadLacking 7 = .ok (.iload_n 2, 1) := by decide +kernel
theorem dX1_threadLacking_8 : decode cX1_threadLacking 8 = .ok (.aload_n 0, 1) := by decide +kernel
theorem dX1_threadLacking_9 : decode cX1_threadLacking 9 = .ok (.getfield 42, 3) := by decide +kernel
theorem dX1_threadLacking_12 : decode cX1_threadLacking 12 = .ok (.if_icmp .ge 17, 3) := by decide +kernel
theorem dX1_threadLacking_15 : decode cX1_threadLacking 15 = .ok (.iload_n 1, 1) := by decide +kernel
theorem dX1_threadLacking_16 : decode cX1_threadLacking 16 = .ok (.aload_n 0, 1) := by decide +kernel
theorem dX1_threadLacking_17 : decode cX1_threadLacking 17 = .ok (.iload_n 2, 1) := by decide +kernel
theorem dX1_threadLacking_18 : decode cX1_threadLacking 18 = .ok (.invokevirtual 103, 3) := by decide +kernel
theorem dX1_threadLacking_21 : decode cX1_threadLacking 21 = .ok (.iadd, 1) := by decide +kernel
theorem dX1_threadLacking_22 : decode cX1_threadLacking 22 = .ok (.istore_n 1, 1) := by decide +kernel
theorem dX1_threadLacking_23 : decode cX1_threadLacking 23 = .ok (.iinc 2 1, 3) := by decide +kernel
theorem dX1_threadLacking_26 : decode cX1_threadLacking 26 = .ok (.goto (-19), 3) := by decide +kernel
theorem dX1_threadLacking_29 : decode cX1_threadLacking 29 = .ok (.iload_n 1, 1) := by decide +kernel
theorem dX1_threadLacking_30 : decode cX1_threadLacking 30 = .ok (.ireturn, 1) := by decide +kernel
theorem ab_k206_0 (K : ab_Kt) : ∀ q ∈ ab_l206_0, ab_OK K ab_mt ab_g206 q.1 q.2 := by
  unfold ab_l206_0
  exact List.forall_mem_cons.mpr ⟨ab_iconst_ok dX1_threadLacking_0 (by decide), List.forall_mem_cons.mpr ⟨ab_istore_n_ok dX1_threadLacking_1 rfl, List.forall_mem_cons.mpr ⟨ab_aload_n_ok dX1_threadLacking_2 rfl, List.forall_mem_cons.mpr ⟨ab_getf_ok (C := RX1) (T := TX1) (N := 13) (ci := 5) (k := 4) dX1_threadLacking_3 rfl ab_ic5 (by decide) ab_w1013, List.forall_mem_cons.mpr ⟨ab_istore_n_ok dX1_threadLacking_6 rfl, List.forall_mem_cons.mpr ⟨ab_iload_n_ok dX1_threadLacking_7 rfl, List.forall_mem_cons.mpr ⟨ab_aload_n_ok dX1_threadLacking_8 rfl, List.forall_mem_cons.mpr ⟨ab_getf_ok (C := RX1) (T := TX1) (N := 13) (ci := 5) (k := 3) dX1_threadLacking_9 rfl ab_ic5 (by decide) ab_w1012, List.forall_mem_cons.mpr ⟨ab_icmp_ge_ok dX1_threadLacking_12 (by decide), List.forall_mem_cons.mpr ⟨ab_iload_n_ok dX1_threadLacking_15 rfl, List.forall_mem_cons.mpr ⟨ab_aload_n_ok dX1_threadLacking_16 rfl, List.forall_mem_cons.mpr ⟨ab_iload_n_ok dX1_threadLacking_17 rfl, List.forall_mem_cons.mpr ⟨ab_callV_ok' (G' := ab_g250) (C := RX1) (T := TX1) (N := 13) dX1_threadLacking_18 ab_m250 rfl rfl (by decide) (by decide) (ab_l4 ab_w1123 ab_w1124 ab_w1125 ab_w711) ab_w1126 rfl ⟨by decide, by decide, by decide +kernel⟩, List.forall_mem_cons.mpr ⟨ab_iadd_ok dX1_threadLacking_21, List.forall_mem_cons.mpr ⟨ab_istore_n_ok dX1_threadLacking_22 rfl, List.forall_mem_cons.mpr ⟨ab_iinc_ok dX1_threadLacking_23 (by decide), List.forall_mem_cons.mpr ⟨ab_goto_ok dX1_threadLacking_26 (by decide), List.forall_mem_cons.mpr ⟨ab_iload_n_ok dX1_threadLacking_29 rfl, List.forall_mem_cons.mpr ⟨ab_iret_ok dX1_threadLacking_30 rfl, fun _ h => absurd h List.not_mem_nil⟩⟩⟩⟩⟩⟩⟩⟩⟩⟩⟩⟩⟩⟩⟩⟩⟩⟩⟩
theorem ab_k206 (K : ab_Kt) : ∀ pc, ab_OK K ab_mt ab_g206 pc (ab_c206 pc) := ab_lk2_ok _ (List.forall_mem_cons.mpr ⟨ab_k206_0 K, fun _ h => absurd h List.not_mem_nil⟩)
theorem dX6_withPlace_0 : decode cX6_withPlace 0 = .ok (.aload_n 0, 1) := by decide +kernel
theorem dX6_withPlace_1 : decode cX6_withPlace 1 = .ok (.iload_n 1, 1) := by decide +kernel
theorem dX6_withPlace_2 : decode cX6_withPlace 2 = .ok (.invokevirtual 106, 3) := by decide +kernel
theorem dX6_withPlace_5 : decode cX6_withPlace 5 = .ok (.astore_n 3, 1) := by decide +kernel
theorem dX6_withPlace_6 : decode cX6_withPlace 6 = .ok (.aload_n 3, 1) := by decide +kernel
theorem dX6_withPlace_7 : decode cX6_withPlace 7 = .ok (.iload_n 2, 1) := by decide +kernel
theorem dX6_withPlace_8 : decode cX6_withPlace 8 = .ok (.invokevirtual 345, 3) := by decide +kernel
theorem dX6_withPlace_11 : decode cX6_withPlace 11 = .ok (.ifCond .ne 11, 3) := by decide +kernel
theorem dX6_withPlace_14 : decode cX6_withPlace 14 = .ok (.new 283, 3) := by decide +kernel
theorem dX6_withPlace_17 : decode cX6_withPlace 17 = .ok (.dup, 1) := by decide +kernel
theorem dX6_withPlace_18 : decode cX6_withPlace 18 = .ok (.invokespecial 285, 3) := by decide +kernel
theorem dX6_withPlace_21 : decode cX6_withPlace 21 = .ok (.athrow, 1) := by decide +kernel
theorem dX6_withPlace_22 : decode cX6_withPlace 22 = .ok (.aload_n 3, 1) := by decide +kernel
theorem dX6_withPlace_23 : decode cX6_withPlace 23 = .ok (.areturn, 1) := by decide +kernel
theorem ab_k207_0 (K : ab_Kt) : ∀ q ∈ ab_l207_0, ab_OK K ab_mt ab_g207 q.1 q.2 := by
  unfold ab_l207_0
  exact List.forall_mem_cons.mpr ⟨ab_aload_n_ok dX6_withPlace_0 rfl, List.forall_mem_cons.mpr ⟨ab_iload_n_ok dX6_withPlace_1 rfl, List.forall_mem_cons.mpr ⟨ab_callV_ok' (G' := ab_g182) (C := RX6) (T := TX6) (N := 9) dX6_withPlace_2 ab_m182 rfl rfl (by decide) (by decide) (ab_l4 ab_w770 ab_w771 ab_w772 ab_w2) ab_w773 rfl ⟨by decide, by decide, by decide +kernel⟩, List.forall_mem_cons.mpr ⟨ab_astore_n_ok dX6_withPlace_5 rfl, List.forall_mem_cons.mpr ⟨ab_aload_n_ok dX6_withPlace_6 rfl, List.forall_mem_cons.mpr ⟨ab_iload_n_ok dX6_withPlace_7 rfl, List.forall_mem_cons.mpr ⟨ab_callV_ok' (G' := ab_g251) (C := RX1) (T := TX1) (N := 13) dX6_withPlace_8 ab_m251 rfl rfl (by decide) (by decide) (ab_l4 ab_w1127 ab_w1128 ab_w1129 ab_w711) ab_w1130 rfl ⟨by decide, by decide, by decide +kernel⟩, List.forall_mem_cons.mpr ⟨ab_if_ne_ok dX6_withPlace_11 (by decide), List.forall_mem_cons.mpr ⟨ab_thr_ok (ik := 283) (ic := 285) (by decide +kernel) (ab_l2 ab_w786 ab_w787) ab_th_3 (by decide +kernel) dX6_withPlace_14 dX6_withPlace_17 dX6_withPlace_18 dX6_withPlace_21 rfl, List.forall_mem_cons.mpr ⟨ab_aload_n_ok dX6_withPlace_22 rfl, List.forall_mem_cons.mpr ⟨ab_aret_ok dX6_withPlace_23 (Or.inl ⟨_, rfl⟩) rfl, fun _ h => absurd h List.not_mem_nil⟩⟩⟩⟩⟩⟩⟩⟩⟩⟩⟩
theorem ab_k207 (K : ab_Kt) : ∀ pc, ab_OK K ab_mt ab_g207 pc (ab_c207 pc) := ab_lk2_ok _ (List.forall_mem_cons.mpr ⟨ab_k207_0 K, fun _ h => absurd h List.not_mem_nil⟩)
theorem dX1_placeByFirstPage_0 : decode cX1_placeByFirstPage 0 = .ok (.iconst 0, 1) := by decide +kernel
theorem dX1_placeByFirstPage_1 : decode cX1_placeByFirstPage 1 = .ok (.istore_n 2, 1) := by decide +kernel
theorem dX1_placeByFirstPage_2 : decode cX1_placeByFirstPage 2 = .ok (.iconst 0, 1) := by decide +kernel
theorem dX1_placeByFirstPage_3 : decode cX1_placeByFirstPage 3 = .ok (.istore_n 3, 1) := by decide +kernel
theorem dX1_placeByFirstPage_4 : decode cX1_placeByFirstPage 4 = .ok (.iload_n 3, 1) := by decide +kernel
theorem dX1_placeByFirstPage_5 : decode cX1_placeByFirstPage 5 = .ok (.aload_n 0, 1) := by decide +kernel
theorem dX1_placeByFirstPage_6 : decode cX1_placeByFirstPage 6 = .ok (.getfield 42, 3) := by decide +kernel
theorem dX1_placeByFirstPage_9 : decode cX1_placeByFirstPage 9 = .ok (.if_icmp .ge 59, 3) := by decide +kernel
theorem dX1_placeByFirstPage_12 : decode cX1_placeByFirstPage 12 = .ok (.aload_n 0, 1) := by decide +kernel
theorem dX1_placeByFirstPage_13 : decode cX1_placeByFirstPage 13 = .ok (.getfield 15, 3) := by decide +kernel
theorem dX1_placeByFirstPage_16 : decode cX1_placeByFirstPage 16 = .ok (.iload_n 3, 1) := by decide +kernel
theorem dX1_placeByFirstPage_17 : decode cX1_placeByFirstPage 17 = .ok (.iaload, 1) := by decide +kernel
theorem dX1_placeByFirstPage_18 : decode cX1_placeByFirstPage 18 = .ok (.aload_n 0, 1) := by decide +kernel
theorem dX1_placeByFirstPage_19 : decode cX1_placeByFirstPage 19 = .ok (.getfield 15, 3) := by decide +kernel
theorem dX1_placeByFirstPage_22 : decode cX1_placeByFirstPage 22 = .ok (.iload_n 1, 1) := by decide +kernel
theorem dX1_placeByFirstPage_23 : decode cX1_placeByFirstPage 23 = .ok (.iaload, 1) := by decide +kernel
theorem dX1_placeByFirstPage_24 : decode cX1_placeByFirstPage 24 = .ok (.if_icmp .ne 7, 3) := by decide +kernel
theorem dX1_placeByFirstPage_27 : decode cX1_placeByFirstPage 27 = .ok (.iconst 1, 1) := by decide +kernel
theorem dX1_placeByFirstPage_28 : decode cX1_placeByFirstPage 28 = .ok (.goto 4, 3) := by decide +kernel
theorem dX1_placeByFirstPage_31 : decode cX1_placeByFirstPage 31 = .ok (.iconst 0, 1) := by decide +kernel
theorem dX1_placeByFirstPage_32 : decode cX1_placeByFirstPage 32 = .ok (.istore 4, 2) := by decide +kernel
theorem dX1_placeByFirstPage_34 : decode cX1_placeByFirstPage 34 = .ok (.aload_n 0, 1) := by decide +kernel
theorem dX1_placeByFirstPage_35 : decode cX1_placeByFirstPage 35 = .ok (.getfield 15, 3) := by decide +kernel
theorem dX1_placeByFirstPage_38 : decode cX1_placeByFirstPage 38 = .ok (.iload_n 3, 1) := by decide +kernel
theorem dX1_placeByFirstPage_39 : decode cX1_placeByFirstPage 39 = .ok (.iaload, 1) := by decide +kernel
theorem dX1_placeByFirstPage_40 : decode cX1_placeByFirstPage 40 = .ok (.aload_n 0, 1) := by decide +kernel
theorem dX1_placeByFirstPage_41 : decode cX1_placeByFirstPage 41 = .ok (.getfield 15, 3) := by decide +kernel
theorem dX1_placeByFirstPage_44 : decode cX1_placeByFirstPage 44 = .ok (.iload_n 1, 1) := by decide +kernel
theorem dX1_placeByFirstPage_45 : decode cX1_placeByFirstPage 45 = .ok (.iaload, 1) := by decide +kernel
theorem dX1_placeByFirstPage_46 : decode cX1_placeByFirstPage 46 = .ok (.if_icmp .lt 13, 3) := by decide +kernel
theorem dX1_placeByFirstPage_49 : decode cX1_placeByFirstPage 49 = .ok (.iload 4, 2) := by decide +kernel
theorem dX1_placeByFirstPage_51 : decode cX1_placeByFirstPage 51 = .ok (.ifCond .eq 11, 3) := by decide +kernel
theorem dX1_placeByFirstPage_54 : decode cX1_placeByFirstPage 54 = .ok (.iload_n 3, 1) := by decide +kernel
theorem dX1_placeByFirstPage_55 : decode cX1_placeByFirstPage 55 = .ok (.iload_n 1, 1) := by decide +kernel
theorem dX1_placeByFirstPage_56 : decode cX1_placeByFirstPage 56 = .ok (.if_icmp .ge 6, 3) := by decide +kernel
theorem dX1_placeByFirstPage_59 : decode cX1_placeByFirstPage 59 = .ok (.iinc 2 1, 3) := by decide +kernel
theorem dX1_placeByFirstPage_62 : decode cX1_placeByFirstPage 62 = .ok (.iinc 3 1, 3) := by decide +kernel
theorem dX1_placeByFirstPage_65 : decode cX1_placeByFirstPage 65 = .ok (.goto (-61), 3) := by decide +kernel
theorem dX1_placeByFirstPage_68 : decode cX1_placeByFirstPage 68 = .ok (.iload_n 2, 1) := by decide +kernel
theorem dX1_placeByFirstPage_69 : decode cX1_placeByFirstPage 69 = .ok (.ireturn, 1) := by decide +kernel
theorem ab_k208_0 (K : ab_Kt) : ∀ q ∈ ab_l208_0, ab_OK K ab_mt ab_g208 q.1 q.2 := by
  unfold ab_l208_0
  exact List.forall_mem_cons.mpr ⟨ab_iconst_ok dX1_placeByFirstPage_0 (by decide), List.forall_mem_cons.mpr ⟨ab_istore_n_ok dX1_placeByFirstPage_1 rfl, List.forall_mem_cons.mpr ⟨ab_iconst_ok dX1_placeByFirstPage_2 (by decide), List.forall_mem_cons.mpr ⟨ab_istore_n_ok dX1_placeByFirstPage_3 rfl, List.forall_mem_cons.mpr ⟨ab_iload_n_ok dX1_placeByFirstPage_4 rfl, List.forall_mem_cons.mpr ⟨ab_aload_n_ok dX1_placeByFirstPage_5 rfl, List.forall_mem_cons.mpr ⟨ab_getf_ok (C := RX1) (T := TX1) (N := 13) (ci := 5) (k := 3) dX1_placeByFirstPage_6 rfl ab_ic5 (by decide) ab_w1012, List.forall_mem_cons.mpr ⟨ab_icmp_ge_ok dX1_placeByFirstPage_9 (by decide), List.forall_mem_cons.mpr ⟨ab_aload_n_ok dX1_placeByFirstPage_12 rfl, List.forall_mem_cons.mpr ⟨ab_getf_ok (C := RX1) (T := TX1) (N := 13) (ci := 5) (k := 8) dX1_placeByFirstPage_13 rfl ab_ic5 (by decide) ab_w995, List.forall_mem_cons.mpr ⟨ab_iload_n_ok dX1_placeByFirstPage_16 rfl, List.forall_mem_cons.mpr ⟨ab_ald0_ok dX1_placeByFirstPage_17, List.forall_mem_cons.mpr ⟨ab_aload_n_ok dX1_placeByFirstPage_18 rfl, List.forall_mem_cons.mpr ⟨ab_getf_ok (C := RX1) (T := TX1) (N := 13) (ci := 5) (k := 8) dX1_placeByFirstPage_19 rfl ab_ic5 (by decide) ab_w995, List.forall_mem_cons.mpr ⟨ab_iload_n_ok dX1_placeByFirstPage_22 rfl, List.forall_mem_cons.mpr ⟨ab_ald0_ok dX1_placeByFirstPage_23, List.forall_mem_cons.mpr ⟨ab_icmp_ne_ok dX1_placeByFirstPage_24 (by decide), List.forall_mem_cons.mpr ⟨ab_iconst_ok dX1_placeByFirstPage_27 (by decide), List.forall_mem_cons.mpr ⟨ab_goto_ok dX1_placeByFirstPage_28 (by decide), List.forall_mem_cons.mpr ⟨ab_iconst_ok dX1_placeByFirstPage_31 (by decide), List.forall_mem_cons.mpr ⟨ab_istore_ok dX1_placeByFirstPage_32, List.forall_mem_cons.mpr ⟨ab_aload_n_ok dX1_placeByFirstPage_34 rfl, List.forall_mem_cons.mpr ⟨ab_getf_ok (C := RX1) (T := TX1) (N := 13) (ci := 5) (k := 8) dX1_placeByFirstPage_35 rfl ab_ic5 (by decide) ab_w995, List.forall_mem_cons.mpr ⟨ab_iload_n_ok dX1_placeByFirstPage_38 rfl, List.forall_mem_cons.mpr ⟨ab_ald0_ok dX1_placeByFirstPage_39, List.forall_mem_cons.mpr ⟨ab_aload_n_ok dX1_placeByFirstPage_40 rfl, List.forall_mem_cons.mpr ⟨ab_getf_ok (C := RX1) (T := TX1) (N := 13) (ci := 5) (k := 8) dX1_placeByFirstPage_41 rfl ab_ic5 (by decide) ab_w995, List.forall_mem_cons.mpr ⟨ab_iload_n_ok dX1_placeByFirstPage_44 rfl, List.forall_mem_cons.mpr ⟨ab_ald0_ok dX1_placeByFirstPage_45, List.forall_mem_cons.mpr ⟨ab_icmp_lt_ok dX1_placeByFirstPage_46 (by decide), List.forall_mem_cons.mpr ⟨ab_iload_ok dX1_placeByFirstPage_49, List.forall_mem_cons.mpr ⟨ab_if_eq_ok dX1_placeByFirstPage_51 (by decide), List.forall_mem_cons.mpr ⟨ab_iload_n_ok dX1_placeByFirstPage_54 rfl, List.forall_mem_cons.mpr ⟨ab_iload_n_ok dX1_placeByFirstPage_55 rfl, List.forall_mem_cons.mpr ⟨ab_icmp_ge_ok dX1_placeByFirstPage_56 (by decide), List.forall_mem_cons.mpr ⟨ab_iinc_ok dX1_placeByFirstPage_59 (by decide), List.forall_mem_cons.mpr ⟨ab_iinc_ok dX1_placeByFirstPage_62 (by decide), List.forall_mem_cons.mpr ⟨ab_goto_ok dX1_placeByFirstPage_65 (by decide), List.forall_mem_cons.mpr ⟨ab_iload_n_ok dX1_placeByFirstPage_68 rfl, List.forall_mem_cons.mpr ⟨ab_iret_ok dX1_placeByFirstPage_69 rfl, fun _ h => absurd h List.not_mem_nil⟩⟩⟩⟩⟩⟩⟩⟩⟩⟩⟩⟩⟩⟩⟩⟩⟩⟩⟩⟩⟩⟩⟩⟩⟩⟩⟩⟩⟩⟩⟩⟩⟩⟩⟩⟩⟩⟩⟩⟩
theorem ab_k208 (K : ab_Kt) : ∀ pc, ab_OK K ab_mt ab_g208 pc (ab_c208 pc) := ab_lk2_ok _ (List.forall_mem_cons.mpr ⟨ab_k208_0 K, fun _ h => absurd h List.not_mem_nil⟩)
theorem dX1_countRepeated_0 : decode cX1_countRepeated 0 = .ok (.iconst 0, 1) := by decide +kernel
theorem dX1_countRepeated_1 : decode cX1_countRepeated 1 = .ok (.istore_n 1, 1) := by decide +kernel
theorem dX1_countRepeated_2 : decode cX1_countRepeated 2 = .ok (.iconst 1, 1) := by decide +kernel
theorem dX1_countRepeated_3 : decode cX1_countRepeated 3 = .ok (.istore_n 2, 1) := by decide +kernel
theorem dX1_countRepeated_4 : decode cX1_countRepeated 4 = .ok (.iload_n 2, 1) := by decide +kernel
theorem dX1_countRepeated_5 : decode cX1_countRepeated 5 = .ok (.bipush 114, 2) := by decide +kernel
theorem dX1_countRepeated_7 : decode cX1_countRepeated 7 = .ok (.if_icmp .gt 21, 3) := by decide +kernel
theorem dX1_countRepeated_10 : decode cX1_countRepeated 10 = .ok (.aload_n 0, 1) := by decide +kernel
theorem dX1_countRepeated_11 : decode cX1_countRepeated 11 = .ok (.iload_n 2, 1) := by decide +kernel
theorem dX1_countRepeated_12 : decode cX1_countRepeated 12 = .ok (.invokevirtual 100, 3) := by decide +kernel
theorem dX1_countRepeated_15 : decode cX1_countRepeated 15 = .ok (.iconst 2, 1) := by decide +kernel
theorem dX1_countRepeated_16 : decode cX1_countRepeated 16 = .ok (.if_icmp .lt 6, 3) := by decide +kernel
theorem dX1_countRepeated_19 : decode cX1_countRepeated 19 = .ok (.iinc 1 1, 3) := by decide +kernel
theorem dX1_countRepeated_22 : decode cX1_countRepeated 22 = .ok (.iinc 2 1, 3) := by decide +kernel
theorem dX1_countRepeated_25 : decode cX1_countRepeated 25 = .ok (.goto (-21), 3) := by decide +kernel
theorem dX1_countRepeated_28 : decode cX1_countRepeated 28 = .ok (.iload_n 1, 1) := by decide +kernel
theorem dX1_countRepeated_29 : decode cX1_countRepeated 29 = .ok (.ireturn, 1) := by decide +kernel
theorem ab_k209_0 (K : ab_Kt) : ∀ q ∈ ab_l209_0, ab_OK K ab_mt ab_g209 q.1 q.2 := by
  unfold ab_l209_0
  exact List.forall_mem_cons.mpr ⟨ab_iconst_ok dX1_countRepeated_0 (by decide), List.forall_mem_cons.mpr ⟨ab_istore_n_ok dX1_countRepeated_1 rfl, List.forall_mem_cons.mpr ⟨ab_iconst_ok dX1_countRepeated_2 (by decide), List.forall_mem_cons.mpr ⟨ab_istore_n_ok dX1_countRepeated_3 rfl, List.forall_mem_cons.mpr ⟨ab_iload_n_ok dX1_countRepeated_4 rfl, List.forall_mem_cons.mpr ⟨ab_bipush_ok dX1_countRepeated_5 (by decide), List.forall_mem_cons.mpr ⟨ab_icmp_gt_ok dX1_countRepeated_7 (by decide), List.forall_mem_cons.mpr ⟨ab_aload_n_ok dX1_countRepeated_10 rfl, List.forall_mem_cons.mpr ⟨ab_iload_n_ok dX1_countRepeated_11 rfl, List.forall_mem_cons.mpr ⟨ab_callV_ok' (G' := ab_g252) (C := RX1) (T := TX1) (N := 13) dX1_countRepeated_12 ab_m252 rfl rfl (by decide) (by decide) (ab_l4 ab_w1131 ab_w1132 ab_w1133 ab_w711) ab_w1134 rfl ⟨by decide, by decide, by decide +kernel⟩, List.forall_mem_cons.mpr ⟨ab_iconst_ok dX1_countRepeated_15 (by decide), List.forall_mem_cons.mpr ⟨ab_icmp_lt_ok dX1_countRepeated_16 (by decide), List.forall_mem_cons.mpr ⟨ab_iinc_ok dX1_countRepeated_19 (by decide), List.forall_mem_cons.mpr ⟨ab_iinc_ok dX1_countRepeated_22 (by decide), List.forall_mem_cons.mpr ⟨ab_goto_ok dX1_countRepeated_25 (by decide), List.forall_mem_cons.mpr ⟨ab_iload_n_ok dX1_countRepeated_28 rfl, List.forall_mem_cons.mpr ⟨ab_iret_ok dX1_countRepeated_29 rfl, fun _ h => absurd h List.not_mem_nil⟩⟩⟩⟩⟩⟩⟩⟩⟩⟩⟩⟩⟩⟩⟩⟩⟩
theorem ab_k209 (K : ab_Kt) : ∀ pc, ab_OK K ab_mt ab_g209 pc (ab_c209 pc) := ab_lk2_ok _ (List.forall_mem_cons.mpr ⟨ab_k209_0 K, fun _ h => absurd h List.not_mem_nil⟩)
theorem dX1_findMissing_0 : decode cX1_findMissing 0 = .ok (.iconst 0, 1) := by decide +kernel
theorem dX1_findMissing_1 : decode cX1_findMissing 1 = .ok (.istore_n 2, 1) := by decide +kernel
theorem dX1_findMissing_2 : decode cX1_findMissing 2 = .ok (.iconst 1, 1) := by decide +kernel
theorem dX1_findMissing_3 : decode cX1_findMissing 3 = .ok (.istore_n 3, 1) := by decide +kernel
theorem dX1_findMissing_4 : decode cX1_findMissing 4 = .ok (.iload_n 3, 1) := by decide +kernel
theorem dX1_findMissing_5 : decode cX1_findMissing 5 = .ok (.aload_n 0, 1) := by decide +kernel
theorem dX1_findMissing_6 : decode cX1_findMissing 6 = .ok (.getfield 33, 3) := by decide +kernel
theorem dX1_findMissing_9 : decode cX1_findMissing 9 = .ok (.if_icmp .gt 27, 3) := by decide +kernel
theorem dX1_findMissing_12 : decode cX1_findMissing 12 = .ok (.aload_n 0, 1) := by decide +kernel
theorem dX1_findMissing_13 : decode cX1_findMissing 13 = .ok (.iload_n 3, 1) := by decide +kernel
theorem dX1_findMissing_14 : decode cX1_findMissing 14 = .ok (.invokevirtual 100, 3) := by decide +kernel
theorem dX1_findMissing_17 : decode cX1_findMissing 17 = .ok (.ifCond .ne 13, 3) := by decide +kernel
theorem dX1_findMissing_20 : decode cX1_findMissing 20 = .ok (.iload_n 2, 1) := by decide +kernel
theorem dX1_findMissing_21 : decode cX1_findMissing 21 = .ok (.iload_n 1, 1) := by decide +kernel
theorem dX1_findMissing_22 : decode cX1_findMissing 22 = .ok (.if_icmp .ne 5, 3) := by decide +kernel
theorem dX1_findMissing_25 : decode cX1_findMissing 25 = .ok (.iload_n 3, 1) := by decide +kernel
theorem dX1_findMissing_26 : decode cX1_findMissing 26 = .ok (.ireturn, 1) := by decide +kernel
theorem dX1_findMissing_27 : decode cX1_findMissing 27 = .ok (.iinc 2 1, 3) := by decide +kernel
theorem dX1_findMissing_30 : decode cX1_findMissing 30 = .ok (.iinc 3 1, 3) := by decide +kernel
theorem dX1_findMissing_33 : decode cX1_findMissing 33 = .ok (.goto (-29), 3) := by decide +kernel
theorem dX1_findMissing_36 : decode cX1_findMissing 36 = .ok (.iconst (-1), 1) := by decide +kernel
theorem dX1_findMissing_37 : decode cX1_findMissing 37 = .ok (.ireturn, 1) := by decide +kernel
theorem ab_k210_0 (K : ab_Kt) : ∀ q ∈ ab_l210_0, ab_OK K ab_mt ab_g210 q.1 q.2 := by
  unfold ab_l210_0
  exact List.forall_mem_cons.mpr ⟨ab_iconst_ok dX1_findMissing_0 (by decide), List.forall_mem_cons.mpr ⟨ab_istore_n_ok dX1_findMissing_1 rfl, List.forall_mem_cons.mpr ⟨ab_iconst_ok dX1_findMissing_2 (by decide), List.forall_mem_cons.mpr ⟨ab_istore_n_ok dX1_findMissing_3 rfl, List.forall_mem_cons.mpr ⟨ab_iload_n_ok dX1_findMissing_4 rfl, List.forall_mem_cons.mpr ⟨ab_aload_n_ok dX1_findMissing_5 rfl, List.forall_mem_cons.mpr ⟨ab_getf_ok (C := RX1) (T := TX1) (N := 13) (ci := 5) (k := 0) dX1_findMissing_6 rfl ab_ic5 (by decide) ab_w1009, List.forall_mem_cons.mpr ⟨ab_icmp_gt_ok dX1_findMissing_9 (by decide), List.forall_mem_cons.mpr ⟨ab_aload_n_ok dX1_findMissing_12 rfl, List.forall_mem_cons.mpr ⟨ab_iload_n_ok dX1_findMissing_13 rfl, List.forall_mem_cons.mpr ⟨ab_callV_ok' (G' := ab_g252) (C := RX1) (T := TX1) (N := 13) dX1_findMissing_14 ab_m252 rfl rfl (by decide) (by decide) (ab_l4 ab_w1131 ab_w1132 ab_w1133 ab_w711) ab_w1134 rfl ⟨by decide, by decide, by decide +kernel⟩, List.forall_mem_cons.mpr ⟨ab_if_ne_ok dX1_findMissing_17 (by decide), List.forall_mem_cons.mpr ⟨ab_iload_n_ok dX1_findMissing_20 rfl, List.forall_mem_cons.mpr ⟨ab_iload_n_ok dX1_findMissing_21 rfl, List.forall_mem_cons.mpr ⟨ab_icmp_ne_ok dX1_findMissing_22 (by decide), List.forall_mem_cons.mpr ⟨ab_iload_n_ok dX1_findMissing_25 rfl, List.forall_mem_cons.mpr ⟨ab_iret_ok dX1_findMissing_26 rfl, List.forall_mem_cons.mpr ⟨ab_iinc_ok dX1_findMissing_27 (by decide), List.forall_mem_cons.mpr ⟨ab_iinc_ok dX1_findMissing_30 (by decide), List.forall_mem_cons.mpr ⟨ab_goto_ok dX1_findMissing_33 (by decide), List.forall_mem_cons.mpr ⟨ab_iconst_ok dX1_findMissing_36 (by decide), List.forall_mem_cons.mpr ⟨ab_iret_ok dX1_findMissing_37 rfl, fun _ h => absurd h List.not_mem_nil⟩⟩⟩⟩⟩⟩⟩⟩⟩⟩⟩⟩⟩⟩⟩⟩⟩⟩⟩⟩⟩⟩
theorem ab_k210 (K : ab_Kt) : ∀ pc, ab_OK K ab_mt ab_g210 pc (ab_c210 pc) := ab_lk2_ok _ (List.forall_mem_cons.mpr ⟨ab_k210_0 K, fun _ h => absurd h List.not_mem_nil⟩)
theorem dX1_countMissing_0 : decode cX1_countMissing 0 = .ok (.iconst 0, 1) := by decide +kernel
theorem dX1_countMissing_1 : decode cX1_countMissing 1 = .ok (.istore_n 1, 1) := by decide +kernel
theorem dX1_countMissing_2 : decode cX1_countMissing 2 = .ok (.iconst 1, 1) := by decide +kernel
theorem dX1_countMissing_3 : decode cX1_countMissing 3 = .ok (.istore_n 2, 1) := by decide +kernel
theorem dX1_countMissing_4 : decode cX1_countMissing 4 = .ok (.iload_n 2, 1) := by decide +kernel
theorem dX1_countMissing_5 : decode cX1_countMissing 5 = .ok (.aload_n 0, 1) := by decide +kernel
theorem dX1_countMissing_6 : decode cX1_countMissing 6 = .ok (.getfield 33, 3) := by decide +kernel
theorem dX1_countMissing_9 : decode cX1_countMissing 9 = .ok (.if_icmp .gt 20, 3) := by decide +kernel
theorem dX1_countMissing_12 : decode cX1_countMissing 12 = .ok (.aload_n 0, 1) := by decide +kernel
theorem dX1_countMissing_13 : decode cX1_countMissing 13 = .ok (.iload_n 2, 1) := by decide +kernel
theorem dX1_countMissing_14 : decode cX1_countMissing 14 = .ok (.invokevirtual 100, 3) := by decide +kernel
theorem dX1_countMissing_17 : decode cX1_countMissing 17 = .ok (.ifCond .ne 6, 3) := by decide +kernel
theorem dX1_countMissing_20 : decode cX1_countMissing 20 = .ok (.iinc 1 1, 3) := by decide +kernel
theorem dX1_countMissing_23 : decode cX1_countMissing 23 = .ok (.iinc 2 1, 3) := by decide +kernel
theorem dX1_countMissing_26 : decode cX1_countMissing 26 = .ok (.goto (-22), 3) := by decide +kernel
theorem dX1_countMissing_29 : decode cX1_countMissing 29 = .ok (.iload_n 1, 1) := by decide +kernel
theorem dX1_countMissing_30 : decode cX1_countMissing 30 = .ok (.ireturn, 1) := by decide +kernel
theorem ab_k211_0 (K : ab_Kt) : ∀ q ∈ ab_l211_0, ab_OK K ab_mt ab_g211 q.1 q.2 := by
  unfold ab_l211_0
  exact List.forall_mem_cons.mpr ⟨ab_iconst_ok dX1_countMissing_0 (by decide), List.forall_mem_cons.mpr ⟨ab_istore_n_ok dX1_countMissing_1 rfl, List.forall_mem_cons.mpr ⟨ab_iconst_ok dX1_countMissing_2 (by decide), List.forall_mem_cons.mpr ⟨ab_istore_n_ok dX1_countMissing_3 rfl, List.forall_mem_cons.mpr ⟨ab_iload_n_ok dX1_countMissing_4 rfl, List.forall_mem_cons.mpr ⟨ab_aload_n_ok dX1_countMissing_5 rfl, List.forall_mem_cons.mpr ⟨ab_getf_ok (C := RX1) (T := TX1) (N := 13) (ci := 5) (k := 0) dX1_countMissing_6 rfl ab_ic5 (by decide) ab_w1009, List.forall_mem_cons.mpr ⟨ab_icmp_gt_ok dX1_countMissing_9 (by decide), List.forall_mem_cons.mpr ⟨ab_aload_n_ok dX1_countMissing_12 rfl, List.forall_mem_cons.mpr ⟨ab_iload_n_ok dX1_countMissing_13 rfl, List.forall_mem_cons.mpr ⟨ab_callV_ok' (G' := ab_g252) (C := RX1) (T := TX1) (N := 13) dX1_countMissing_14 ab_m252 rfl rfl (by decide) (by decide) (ab_l4 ab_w1131 ab_w1132 ab_w1133 ab_w711) ab_w1134 rfl ⟨by decide, by decide, by decide +kernel⟩, List.forall_mem_cons.mpr ⟨ab_if_ne_ok dX1_countMissing_17 (by decide), List.forall_mem_cons.mpr ⟨ab_iinc_ok dX1_countMissing_20 (by decide), List.forall_mem_cons.mpr ⟨ab_iinc_ok dX1_countMissing_23 (by decide), List.forall_mem_cons.mpr ⟨ab_goto_ok dX1_countMissing_26 (by decide), List.forall_mem_cons.mpr ⟨ab_iload_n_ok dX1_countMissing_29 rfl, List.forall_mem_cons.mpr ⟨ab_iret_ok dX1_countMissing_30 rfl, fun _ h => absurd h List.not_mem_nil⟩⟩⟩⟩⟩⟩⟩⟩⟩⟩⟩⟩⟩⟩⟩⟩⟩
theorem ab_k211 (K : ab_Kt) : ∀ pc, ab_OK K ab_mt ab_g211 pc (ab_c211 pc) := ab_lk2_ok _ (List.forall_mem_cons.mpr ⟨ab_k211_0 K, fun _ h => absurd h List.not_mem_nil⟩)
theorem dX1_findWrong_0 : decode cX1_findWrong 0 = .ok (.iconst 0, 1) := by decide +kernel
theorem dX1_findWrong_1 : decode cX1_findWrong 1 = .ok (.istore_n 2, 1) := by decide +kernel
theorem dX1_findWrong_2 : decode cX1_findWrong 2 = .ok (.iconst 0, 1) := by decide +kernel
theorem dX1_findWrong_3 : decode cX1_findWrong 3 = .ok (.istore_n 3, 1) := by decide +kernel
theorem dX1_findWrong_4 : decode cX1_findWrong 4 = .ok (.iload_n 3, 1) := by decide +kernel
theorem dX1_findWrong_5 : decode cX1_findWrong 5 = .ok (.aload_n 0, 1) := by decide +kernel
theorem dX1_findWrong_6 : decode cX1_findWrong 6 = .ok (.getfield 42, 3) := by decide +kernel
theorem dX1_findWrong_9 : decode cX1_findWrong 9 = .ok (.if_icmp .ge 76, 3) := by decide +kernel
theorem dX1_findWrong_12 : decode cX1_findWrong 12 = .ok (.aload_n 0, 1) := by decide +kernel
theorem dX1_findWrong_13 : decode cX1_findWrong 13 = .ok (.iload_n 3, 1) := by decide +kernel
theorem dX1_findWrong_14 : decode cX1_findWrong 14 = .ok (.invokevirtual 68, 3) := by decide +kernel
theorem dX1_findWrong_17 : decode cX1_findWrong 17 = .ok (.istore 4, 2) := by decide +kernel
theorem dX1_findWrong_19 : decode cX1_findWrong 19 = .ok (.iconst 0, 1) := by decide +kernel
theorem dX1_findWrong_20 : decode cX1_findWrong 20 = .ok (.istore 5, 2) := by decide +kernel
theorem dX1_findWrong_22 : decode cX1_findWrong 22 = .ok (.iload 5, 2) := by decide +kernel
theorem dX1_findWrong_24 : decode cX1_findWrong 24 = .ok (.iload 4, 2) := by decide +kernel
theorem dX1_findWrong_26 : decode cX1_findWrong 26 = .ok (.if_icmp .ge 53, 3) := by decide +kernel
theorem dX1_findWrong_29 : decode cX1_findWrong 29 = .ok (.aload_n 0, 1) := by decide +kernel
theorem dX1_findWrong_30 : decode cX1_findWrong 30 = .ok (.iload_n 2, 1) := by decide +kernel
theorem dX1_findWrong_31 : decode cX1_findWrong 31 = .ok (.aload_n 0, 1) := by decide +kernel
theorem dX1_findWrong_32 : decode cX1_findWrong 32 = .ok (.iload_n 3, 1) := by decide +kernel
theorem dX1_findWrong_33 : decode cX1_findWrong 33 = .ok (.iload 5, 2) := by decide +kernel
theorem dX1_findWrong_35 : decode cX1_findWrong 35 = .ok (.invokevirtual 74, 3) := by decide +kernel
theorem dX1_findWrong_38 : decode cX1_findWrong 38 = .ok (.invokevirtual 78, 3) := by decide +kernel
theorem dX1_findWrong_41 : decode cX1_findWrong 41 = .ok (.ifCond .ne 7, 3) := by decide +kernel
theorem dX1_findWrong_44 : decode cX1_findWrong 44 = .ok (.iconst 1, 1) := by decide +kernel
theorem dX1_findWrong_45 : decode cX1_findWrong 45 = .ok (.goto 4, 3) := by decide +kernel
theorem dX1_findWrong_48 : decode cX1_findWrong 48 = .ok (.iconst 0, 1) := by decide +kernel
theorem dX1_findWrong_49 : decode cX1_findWrong 49 = .ok (.istore 6, 2) := by decide +kernel
theorem dX1_findWrong_51 : decode cX1_findWrong 51 = .ok (.iload 6, 2) := by decide +kernel
theorem dX1_findWrong_53 : decode cX1_findWrong 53 = .ok (.ifCond .eq 17, 3) := by decide +kernel
theorem dX1_findWrong_56 : decode cX1_findWrong 56 = .ok (.iload_n 1, 1) := by decide +kernel
theorem dX1_findWrong_57 : decode cX1_findWrong 57 = .ok (.ifCond .eq 11, 3) := by decide +kernel
theorem dX1_findWrong_60 : decode cX1_findWrong 60 = .ok (.aload_n 0, 1) := by decide +kernel
theorem dX1_findWrong_61 : decode cX1_findWrong 61 = .ok (.iload_n 2, 1) := by decide +kernel
theorem dX1_findWrong_62 : decode cX1_findWrong 62 = .ok (.invokevirtual 96, 3) := by decide +kernel
theorem dX1_findWrong_65 : decode cX1_findWrong 65 = .ok (.ifCond .ne 5, 3) := by decide +kernel
theorem dX1_findWrong_68 : decode cX1_findWrong 68 = .ok (.iload_n 2, 1) := by decide +kernel
theorem dX1_findWrong_69 : decode cX1_findWrong 69 = .ok (.ireturn, 1) := by decide +kernel
theorem dX1_findWrong_70 : decode cX1_findWrong 70 = .ok (.iinc 2 1, 3) := by decide +kernel
theorem ab_k212_0 (K : ab_Kt) : ∀ q ∈ ab_l212_0, ab_OK K ab_mt ab_g212 q.1 q.2 := by
  unfold ab_l212_0
  exact List.forall_mem_cons.mpr ⟨ab_iconst_ok dX1_findWrong_0 (by decide), List.forall_mem_cons.mpr ⟨ab_istore_n_ok dX1_findWrong_1 rfl, List.forall_mem_cons.mpr ⟨ab_iconst_ok dX1_findWrong_2 (by decide), List.forall_mem_cons.mpr ⟨ab_istore_n_ok dX1_findWrong_3 rfl, List.forall_mem_cons.mpr ⟨ab_iload_n_ok dX1_findWrong_4 rfl, List.forall_mem_cons.mpr ⟨ab_aload_n_ok dX1_findWrong_5 rfl, List.forall_mem_cons.mpr ⟨ab_getf_ok (C := RX1) (T := TX1) (N := 13) (ci := 5) (k := 3) dX1_findWrong_6 rfl ab_ic5 (by decide) ab_w1012, List.forall_mem_cons.mpr ⟨ab_icmp_ge_ok dX1_findWrong_9 (by decide), List.forall_mem_cons.mpr ⟨ab_aload_n_ok dX1_findWrong_12 rfl, List.forall_mem_cons.mpr ⟨ab_iload_n_ok dX1_findWrong_13 rfl, List.forall_mem_cons.mpr ⟨ab_callV_ok' (G' := ab_g231) (C := RX1) (T := TX1) (N := 13) dX1_findWrong_14 ab_m231 rfl rfl (by decide) (by decide) (ab_l4 ab_w1035 ab_w1036 ab_w1037 ab_w711) ab_w1038 rfl ⟨by decide, by decide, by decide +kernel⟩, List.forall_mem_cons.mpr ⟨ab_istore_ok dX1_findWrong_17, List.forall_mem_cons.mpr ⟨ab_iconst_ok dX1_findWrong_19 (by decide), List.forall_mem_cons.mpr ⟨ab_istore_ok dX1_findWrong_20, List.forall_mem_cons.mpr ⟨ab_iload_ok dX1_findWrong_22, List.forall_mem_cons.mpr ⟨ab_iload_ok dX1_findWrong_24, List.forall_mem_cons.mpr ⟨ab_icmp_ge_ok dX1_findWrong_26 (by decide), List.forall_mem_cons.mpr ⟨ab_aload_n_ok dX1_findWrong_29 rfl, List.forall_mem_cons.mpr ⟨ab_iload_n_ok dX1_findWrong_30 rfl, List.forall_mem_cons.mpr ⟨ab_aload_n_ok dX1_findWrong_31 rfl, List.forall_mem_cons.mpr ⟨ab_iload_n_ok dX1_findWrong_32 rfl, List.forall_mem_cons.mpr ⟨ab_iload_ok dX1_findWrong_33, List.forall_mem_cons.mpr ⟨ab_callV_ok' (G' := ab_g232) (C := RX1) (T := TX1) (N := 13) dX1_findWrong_35 ab_m232 rfl rfl (by decide) (by decide) (ab_l4 ab_w1039 ab_w1040 ab_w1041 ab_w711) ab_w1042 rfl ⟨by decide, by decide, by decide +kernel⟩, List.forall_mem_cons.mpr ⟨ab_callV_ok' (G' := ab_g233) (C := RX1) (T := TX1) (N := 13) dX1_findWrong_38 ab_m233 rfl rfl (by decide) (by decide) (ab_l4 ab_w1043 ab_w1044 ab_w1045 ab_w711) ab_w1046 rfl ⟨by decide, by decide, by decide +kernel⟩, List.forall_mem_cons.mpr ⟨ab_if_ne_ok dX1_findWrong_41 (by decide), List.forall_mem_cons.mpr ⟨ab_iconst_ok dX1_findWrong_44 (by decide), List.forall_mem_cons.mpr ⟨ab_goto_ok dX1_findWrong_45 (by decide), List.forall_mem_cons.mpr ⟨ab_iconst_ok dX1_findWrong_48 (by decide), List.forall_mem_cons.mpr ⟨ab_istore_ok dX1_findWrong_49, List.forall_mem_cons.mpr ⟨ab_iload_ok dX1_findWrong_51, List.forall_mem_cons.mpr ⟨ab_if_eq_ok dX1_findWrong_53 (by decide), List.forall_mem_cons.mpr ⟨ab_iload_n_ok dX1_findWrong_56 rfl, List.forall_mem_cons.mpr ⟨ab_if_eq_ok dX1_findWrong_57 (by decide), List.forall_mem_cons.mpr ⟨ab_aload_n_ok dX1_findWrong_60 rfl, List.forall_mem_cons.mpr ⟨ab_iload_n_ok dX1_findWrong_61 rfl, List.forall_mem_cons.mpr ⟨ab_callV_ok' (G' := ab_g205) (C := RX1) (T := TX1) (N := 13) dX1_findWrong_62 ab_m205 rfl rfl (by decide) (by decide) (ab_l4 ab_w1135 ab_w892 ab_w893 ab_w711) ab_w894 rfl ⟨by decide, by decide, by decide +kernel⟩, List.forall_mem_cons.mpr ⟨ab_if_ne_ok dX1_findWrong_65 (by decide), List.forall_mem_cons.mpr ⟨ab_iload_n_ok dX1_findWrong_68 rfl, List.forall_mem_cons.mpr ⟨ab_iret_ok dX1_findWrong_69 rfl, List.forall_mem_cons.mpr ⟨ab_iinc_ok dX1_findWrong_70 (by decide), fun _ h => absurd h List.not_mem_nil⟩⟩⟩⟩⟩⟩⟩⟩⟩⟩⟩⟩⟩⟩⟩⟩⟩⟩⟩⟩⟩⟩⟩⟩⟩⟩⟩⟩⟩⟩⟩⟩⟩⟩⟩⟩⟩⟩⟩⟩
theorem dX1_findWrong_73 : decode cX1_findWrong 73 = .ok (.iinc 5 1, 3) := by decide +kernel
theorem dX1_findWrong_76 : decode cX1_findWrong 76 = .ok (.goto (-54), 3) := by decide +kernel
theorem dX1_findWrong_79 : decode cX1_findWrong 79 = .ok (.iinc 3 1, 3) := by decide +kernel
theorem dX1_findWrong_82 : decode cX1_findWrong 82 = .ok (.goto (-78), 3) := by decide +kernel
theorem dX1_findWrong_85 : decode cX1_findWrong 85 = .ok (.iconst (-1), 1) := by decide +kernel
theorem dX1_findWrong_86 : decode cX1_findWrong 86 = .ok (.ireturn, 1) := by decide +kernel
theorem ab_k212_1 (K : ab_Kt) : ∀ q ∈ ab_l212_1, ab_OK K ab_mt ab_g212 q.1 q.2 := by
  unfold ab_l212_1
  exact List.forall_mem_cons.mpr ⟨ab_iinc_ok dX1_findWrong_73 (by decide), List.forall_mem_cons.mpr ⟨ab_goto_ok dX1_findWrong_76 (by decide), List.forall_mem_cons.mpr ⟨ab_iinc_ok dX1_findWrong_79 (by decide), List.forall_mem_cons.mpr ⟨ab_goto_ok dX1_findWrong_82 (by decide), List.forall_mem_cons.mpr ⟨ab_iconst_ok dX1_findWrong_85 (by decide), List.forall_mem_cons.mpr ⟨ab_iret_ok dX1_findWrong_86 rfl, fun _ h => absurd h List.not_mem_nil⟩⟩⟩⟩⟩⟩
theorem ab_k212 (K : ab_Kt) : ∀ pc, ab_OK K ab_mt ab_g212 pc (ab_c212 pc) := ab_lk2_ok _ (List.forall_mem_cons.mpr ⟨ab_k212_0 K, List.forall_mem_cons.mpr ⟨ab_k212_1 K, fun _ h => absurd h List.not_mem_nil⟩⟩)
theorem dX1_countWrongBySignatures_0 : decode cX1_countWrongBySignatures 0 = .ok (.iconst 0, 1) := by decide +kernel
theorem dX1_countWrongBySignatures_1 : decode cX1_countWrongBySignatures 1 = .ok (.istore_n 1, 1) := by decide +kernel
theorem dX1_countWrongBySignatures_2 : decode cX1_countWrongBySignatures 2 = .ok (.iconst 0, 1) := by decide +kernel
theorem dX1_countWrongBySignatures_3 : decode cX1_countWrongBySignatures 3 = .ok (.istore_n 2, 1) := by decide +kernel
theorem dX1_countWrongBySignatures_4 : decode cX1_countWrongBySignatures 4 = .ok (.iconst 0, 1) := by decide +kernel
theorem dX1_countWrongBySignatures_5 : decode cX1_countWrongBySignatures 5 = .ok (.istore_n 3, 1) := by decide +kernel
theorem dX1_countWrongBySignatures_6 : decode cX1_countWrongBySignatures 6 = .ok (.iload_n 3, 1) := by decide +kernel
theorem dX1_countWrongBySignatures_7 : decode cX1_countWrongBySignatures 7 = .ok (.aload_n 0, 1) := by decide +kernel
theorem dX1_countWrongBySignatures_8 : decode cX1_countWrongBySignatures 8 = .ok (.getfield 42, 3) := by decide +kernel
theorem dX1_countWrongBySignatures_11 : decode cX1_countWrongBySignatures 11 = .ok (.if_icmp .ge 44, 3) := by decide +kernel
theorem dX1_countWrongBySignatures_14 : decode cX1_countWrongBySignatures 14 = .ok (.iload_n 1, 1) := by decide +kernel
theorem dX1_countWrongBySignatures_15 : decode cX1_countWrongBySignatures 15 = .ok (.aload_n 0, 1) := by decide +kernel
theorem dX1_countWrongBySignatures_16 : decode cX1_countWrongBySignatures 16 = .ok (.getfield 25, 3) := by decide +kernel
theorem dX1_countWrongBySignatures_19 : decode cX1_countWrongBySignatures 19 = .ok (.iload_n 3, 1) := by decide +kernel
theorem dX1_countWrongBySignatures_20 : decode cX1_countWrongBySignatures 20 = .ok (.baload, 1) := by decide +kernel
theorem dX1_countWrongBySignatures_21 : decode cX1_countWrongBySignatures 21 = .ok (.ifCond .eq 12, 3) := by decide +kernel
theorem dX1_countWrongBySignatures_24 : decode cX1_countWrongBySignatures 24 = .ok (.aload_n 0, 1) := by decide +kernel
theorem dX1_countWrongBySignatures_25 : decode cX1_countWrongBySignatures 25 = .ok (.iload_n 3, 1) := by decide +kernel
theorem dX1_countWrongBySignatures_26 : decode cX1_countWrongBySignatures 26 = .ok (.iload_n 2, 1) := by decide +kernel
theorem dX1_countWrongBySignatures_27 : decode cX1_countWrongBySignatures 27 = .ok (.invokevirtual 82, 3) := by decide +kernel
theorem dX1_countWrongBySignatures_30 : decode cX1_countWrongBySignatures 30 = .ok (.goto 9, 3) := by decide +kernel
theorem dX1_countWrongBySignatures_33 : decode cX1_countWrongBySignatures 33 = .ok (.aload_n 0, 1) := by decide +kernel
theorem dX1_countWrongBySignatures_34 : decode cX1_countWrongBySignatures 34 = .ok (.iload_n 3, 1) := by decide +kernel
theorem dX1_countWrongBySignatures_35 : decode cX1_countWrongBySignatures 35 = .ok (.iload_n 2, 1) := by decide +kernel
theorem dX1_countWrongBySignatures_36 : decode cX1_countWrongBySignatures 36 = .ok (.invokevirtual 85, 3) := by decide +kernel
theorem dX1_countWrongBySignatures_39 : decode cX1_countWrongBySignatures 39 = .ok (.iadd, 1) := by decide +kernel
theorem dX1_countWrongBySignatures_40 : decode cX1_countWrongBySignatures 40 = .ok (.istore_n 1, 1) := by decide +kernel
theorem dX1_countWrongBySignatures_41 : decode cX1_countWrongBySignatures 41 = .ok (.iload_n 2, 1) := by decide +kernel
theorem dX1_countWrongBySignatures_42 : decode cX1_countWrongBySignatures 42 = .ok (.aload_n 0, 1) := by decide +kernel
theorem dX1_countWrongBySignatures_43 : decode cX1_countWrongBySignatures 43 = .ok (.iload_n 3, 1) := by decide +kernel
theorem dX1_countWrongBySignatures_44 : decode cX1_countWrongBySignatures 44 = .ok (.invokevirtual 68, 3) := by decide +kernel
theorem dX1_countWrongBySignatures_47 : decode cX1_countWrongBySignatures 47 = .ok (.iadd, 1) := by decide +kernel
theorem dX1_countWrongBySignatures_48 : decode cX1_countWrongBySignatures 48 = .ok (.istore_n 2, 1) := by decide +kernel
theorem dX1_countWrongBySignatures_49 : decode cX1_countWrongBySignatures 49 = .ok (.iinc 3 1, 3) := by decide +kernel
theorem dX1_countWrongBySignatures_52 : decode cX1_countWrongBySignatures 52 = .ok (.goto (-46), 3) := by decide +kernel
theorem dX1_countWrongBySignatures_55 : decode cX1_countWrongBySignatures 55 = .ok (.iload_n 2, 1) := by decide +kernel
theorem dX1_countWrongBySignatures_56 : decode cX1_countWrongBySignatures 56 = .ok (.iload_n 1, 1) := by decide +kernel
theorem dX1_countWrongBySignatures_57 : decode cX1_countWrongBySignatures 57 = .ok (.isub, 1) := by decide +kernel
theorem dX1_countWrongBySignatures_58 : decode cX1_countWrongBySignatures 58 = .ok (.ireturn, 1) := by decide +kernel
theorem ab_k213_0 (K : ab_Kt) : ∀ q ∈ ab_l213_0, ab_OK K ab_mt ab_g213 q.1 q.2 := by
  unfold ab_l213_0
  exact List.forall_mem_cons.mpr ⟨ab_iconst_ok dX1_countWrongBySignatures_0 (by decide), List.forall_mem_cons.mpr ⟨ab_istore_n_ok dX1_countWrongBySignatures_1 rfl, List.forall_mem_cons.mpr ⟨ab_iconst_ok dX1_countWrongBySignatures_2 (by decide), List.forall_mem_cons.mpr ⟨ab_istore_n_ok dX1_countWrongBySignatures_3 rfl, List.forall_mem_cons.mpr ⟨ab_iconst_ok dX1_countWrongBySignatures_4 (by decide), List.forall_mem_cons.mpr ⟨ab_istore_n_ok dX1_countWrongBySignatures_5 rfl, List.forall_mem_cons.mpr ⟨ab_iload_n_ok dX1_countWrongBySignatures_6 rfl, List.forall_mem_cons.mpr ⟨ab_aload_n_ok dX1_countWrongBySignatures_7 rfl, List.forall_mem_cons.mpr ⟨ab_getf_ok (C := RX1) (T := TX1) (N := 13) (ci := 5) (k := 3) dX1_countWrongBySignatures_8 rfl ab_ic5 (by decide) ab_w1012, List.forall_mem_cons.mpr ⟨ab_icmp_ge_ok dX1_countWrongBySignatures_11 (by decide), List.forall_mem_cons.mpr ⟨ab_iload_n_ok dX1_countWrongBySignatures_14 rfl, List.forall_mem_cons.mpr ⟨ab_aload_n_ok dX1_countWrongBySignatures_15 rfl, List.forall_mem_cons.mpr ⟨ab_getf_ok (C := RX1) (T := TX1) (N := 13) (ci := 5) (k := 11) dX1_countWrongBySignatures_16 rfl ab_ic5 (by decide) ab_w999, List.forall_mem_cons.mpr ⟨ab_iload_n_ok dX1_countWrongBySignatures_19 rfl, List.forall_mem_cons.mpr ⟨ab_ald1_ok dX1_countWrongBySignatures_20, List.forall_mem_cons.mpr ⟨ab_if_eq_ok dX1_countWrongBySignatures_21 (by decide), List.forall_mem_cons.mpr ⟨ab_aload_n_ok dX1_countWrongBySignatures_24 rfl, List.forall_mem_cons.mpr ⟨ab_iload_n_ok dX1_countWrongBySignatures_25 rfl, List.forall_mem_cons.mpr ⟨ab_iload_n_ok dX1_countWrongBySignatures_26 rfl, List.forall_mem_cons.mpr ⟨ab_callV_ok' (G' := ab_g253) (C := RX1) (T := TX1) (N := 13) dX1_countWrongBySignatures_27 ab_m253 rfl rfl (by decide) (by decide) (ab_l4 ab_w1136 ab_w1137 ab_w1138 ab_w711) ab_w1139 rfl ⟨by decide, by decide, by decide +kernel⟩, List.forall_mem_cons.mpr ⟨ab_goto_ok dX1_countWrongBySignatures_30 (by decide), List.forall_mem_cons.mpr ⟨ab_aload_n_ok dX1_countWrongBySignatures_33 rfl, List.forall_mem_cons.mpr ⟨ab_iload_n_ok dX1_countWrongBySignatures_34 rfl, List.forall_mem_cons.mpr ⟨ab_iload_n_ok dX1_countWrongBySignatures_35 rfl, List.forall_mem_cons.mpr ⟨ab_callV_ok' (G' := ab_g254) (C := RX1) (T := TX1) (N := 13) dX1_countWrongBySignatures_36 ab_m254 rfl rfl (by decide) (by decide) (ab_l4 ab_w1140 ab_w1141 ab_w1142 ab_w711) ab_w1143 rfl ⟨by decide, by decide, by decide +kernel⟩, List.forall_mem_cons.mpr ⟨ab_iadd_ok dX1_countWrongBySignatures_39, List.forall_mem_cons.mpr ⟨ab_istore_n_ok dX1_countWrongBySignatures_40 rfl, List.forall_mem_cons.mpr ⟨ab_iload_n_ok dX1_countWrongBySignatures_41 rfl, List.forall_mem_cons.mpr ⟨ab_aload_n_ok dX1_countWrongBySignatures_42 rfl, List.forall_mem_cons.mpr ⟨ab_iload_n_ok dX1_countWrongBySignatures_43 rfl, List.forall_mem_cons.mpr ⟨ab_callV_ok' (G' := ab_g231) (C := RX1) (T := TX1) (N := 13) dX1_countWrongBySignatures_44 ab_m231 rfl rfl (by decide) (by decide) (ab_l4 ab_w1035 ab_w1036 ab_w1037 ab_w711) ab_w1038 rfl ⟨by decide, by decide, by decide +kernel⟩, List.forall_mem_cons.mpr ⟨ab_iadd_ok dX1_countWrongBySignatures_47, List.forall_mem_cons.mpr ⟨ab_istore_n_ok dX1_countWrongBySignatures_48 rfl, List.forall_mem_cons.mpr ⟨ab_iinc_ok dX1_countWrongBySignatures_49 (by decide), List.forall_mem_cons.mpr ⟨ab_goto_ok dX1_countWrongBySignatures_52 (by decide), List.forall_mem_cons.mpr ⟨ab_iload_n_ok dX1_countWrongBySignatures_55 rfl, List.forall_mem_cons.mpr ⟨ab_iload_n_ok dX1_countWrongBySignatures_56 rfl, List.forall_mem_cons.mpr ⟨ab_isub_ok dX1_countWrongBySignatures_57, List.forall_mem_cons.mpr ⟨ab_iret_ok dX1_countWrongBySignatures_58 rfl, fun _ h => absurd h List.not_mem_nil⟩⟩⟩⟩⟩⟩⟩⟩⟩⟩⟩⟩⟩⟩⟩⟩⟩⟩⟩⟩⟩⟩⟩⟩⟩⟩⟩⟩⟩⟩⟩⟩⟩⟩⟩⟩⟩⟩⟩
theorem ab_k213 (K : ab_Kt) : ∀ pc, ab_OK K ab_mt ab_g213 pc (ab_c213 pc) := ab_lk2_ok _ (List.forall_mem_cons.mpr ⟨ab_k213_0 K, fun _ h => absurd h List.not_mem_nil⟩)
theorem dX1_pageOn_0 : decode cX1_pageOn 0 = .ok (.iload_n 1, 1) := by decide +kernel
theorem dX1_pageOn_1 : decode cX1_pageOn 1 = .ok (.ifCond .ge 5, 3) := by decide +kernel
theorem dX1_pageOn_4 : decode cX1_pageOn 4 = .ok (.iconst (-1), 1) := by decide +kernel
theorem dX1_pageOn_5 : decode cX1_pageOn 5 = .ok (.ireturn, 1) := by decide +kernel
theorem dX1_pageOn_6 : decode cX1_pageOn 6 = .ok (.iconst 0, 1) := by decide +kernel
theorem dX1_pageOn_7 : decode cX1_pageOn 7 = .ok (.istore_n 2, 1) := by decide +kernel
theorem dX1_pageOn_8 : decode cX1_pageOn 8 = .ok (.iconst 0, 1) := by decide +kernel
theorem dX1_pageOn_9 : decode cX1_pageOn 9 = .ok (.istore_n 3, 1) := by decide +kernel
theorem dX1_pageOn_10 : decode cX1_pageOn 10 = .ok (.iload_n 3, 1) := by decide +kernel
theorem dX1_pageOn_11 : decode cX1_pageOn 11 = .ok (.aload_n 0, 1) := by decide +kernel
theorem dX1_pageOn_12 : decode cX1_pageOn 12 = .ok (.getfield 42, 3) := by decide +kernel
theorem dX1_pageOn_15 : decode cX1_pageOn 15 = .ok (.if_icmp .ge 38, 3) := by decide +kernel
theorem dX1_pageOn_18 : decode cX1_pageOn 18 = .ok (.aload_n 0, 1) := by decide +kernel
theorem dX1_pageOn_19 : decode cX1_pageOn 19 = .ok (.iload_n 3, 1) := by decide +kernel
theorem dX1_pageOn_20 : decode cX1_pageOn 20 = .ok (.invokevirtual 68, 3) := by decide +kernel
theorem dX1_pageOn_23 : decode cX1_pageOn 23 = .ok (.istore 4, 2) := by decide +kernel
theorem dX1_pageOn_25 : decode cX1_pageOn 25 = .ok (.iload_n 1, 1) := by decide +kernel
theorem dX1_pageOn_26 : decode cX1_pageOn 26 = .ok (.iload_n 2, 1) := by decide +kernel
theorem dX1_pageOn_27 : decode cX1_pageOn 27 = .ok (.iload 4, 2) := by decide +kernel
theorem dX1_pageOn_29 : decode cX1_pageOn 29 = .ok (.iadd, 1) := by decide +kernel
theorem dX1_pageOn_30 : decode cX1_pageOn 30 = .ok (.if_icmp .ge 12, 3) := by decide +kernel
theorem dX1_pageOn_33 : decode cX1_pageOn 33 = .ok (.aload_n 0, 1) := by decide +kernel
theorem dX1_pageOn_34 : decode cX1_pageOn 34 = .ok (.iload_n 3, 1) := by decide +kernel
theorem dX1_pageOn_35 : decode cX1_pageOn 35 = .ok (.iload_n 1, 1) := by decide +kernel
theorem dX1_pageOn_36 : decode cX1_pageOn 36 = .ok (.iload_n 2, 1) := by decide +kernel
theorem dX1_pageOn_37 : decode cX1_pageOn 37 = .ok (.isub, 1) := by decide +kernel
theorem dX1_pageOn_38 : decode cX1_pageOn 38 = .ok (.invokevirtual 74, 3) := by decide +kernel
theorem dX1_pageOn_41 : decode cX1_pageOn 41 = .ok (.ireturn, 1) := by decide +kernel
theorem dX1_pageOn_42 : decode cX1_pageOn 42 = .ok (.iload_n 2, 1) := by decide +kernel
theorem dX1_pageOn_43 : decode cX1_pageOn 43 = .ok (.iload 4, 2) := by decide +kernel
theorem dX1_pageOn_45 : decode cX1_pageOn 45 = .ok (.iadd, 1) := by decide +kernel
theorem dX1_pageOn_46 : decode cX1_pageOn 46 = .ok (.istore_n 2, 1) := by decide +kernel
theorem dX1_pageOn_47 : decode cX1_pageOn 47 = .ok (.iinc 3 1, 3) := by decide +kernel
theorem dX1_pageOn_50 : decode cX1_pageOn 50 = .ok (.goto (-40), 3) := by decide +kernel
theorem dX1_pageOn_53 : decode cX1_pageOn 53 = .ok (.iconst (-1), 1) := by decide +kernel
theorem dX1_pageOn_54 : decode cX1_pageOn 54 = .ok (.ireturn, 1) := by decide +kernel
theorem ab_k214_0 (K : ab_Kt) : ∀ q ∈ ab_l214_0, ab_OK K ab_mt ab_g214 q.1 q.2 := by
  unfold ab_l214_0
  exact List.forall_mem_cons.mpr ⟨ab_iload_n_ok dX1_pageOn_0 rfl, List.forall_mem_cons.mpr ⟨ab_if_ge_ok dX1_pageOn_1 (by decide), List.forall_mem_cons.mpr ⟨ab_iconst_ok dX1_pageOn_4 (by decide), List.forall_mem_cons.mpr ⟨ab_iret_ok dX1_pageOn_5 rfl, List.forall_mem_cons.mpr ⟨ab_iconst_ok dX1_pageOn_6 (by decide), List.forall_mem_cons.mpr ⟨ab_istore_n_ok dX1_pageOn_7 rfl, List.forall_mem_cons.mpr ⟨ab_iconst_ok dX1_pageOn_8 (by decide), List.forall_mem_cons.mpr ⟨ab_istore_n_ok dX1_pageOn_9 rfl, List.forall_mem_cons.mpr ⟨ab_iload_n_ok dX1_pageOn_10 rfl, List.forall_mem_cons.mpr ⟨ab_aload_n_ok dX1_pageOn_11 rfl, List.forall_mem_cons.mpr ⟨ab_getf_ok (C := RX1) (T := TX1) (N := 13) (ci := 5) (k := 3) dX1_pageOn_12 rfl ab_ic5 (by decide) ab_w1012, List.forall_mem_cons.mpr ⟨ab_icmp_ge_ok dX1_pageOn_15 (by decide), List.forall_mem_cons.mpr ⟨ab_aload_n_ok dX1_pageOn_18 rfl, List.forall_mem_cons.mpr ⟨ab_iload_n_ok dX1_pageOn_19 rfl, List.forall_mem_cons.mpr ⟨ab_callV_ok' (G' := ab_g231) (C := RX1) (T := TX1) (N := 13) dX1_pageOn_20 ab_m231 rfl rfl (by decide) (by decide) (ab_l4 ab_w1035 ab_w1036 ab_w1037 ab_w711) ab_w1038 rfl ⟨by decide, by decide, by decide +kernel⟩, List.forall_mem_cons.mpr ⟨ab_istore_ok dX1_pageOn_23, List.forall_mem_cons.mpr ⟨ab_iload_n_ok dX1_pageOn_25 rfl, List.forall_mem_cons.mpr ⟨ab_iload_n_ok dX1_pageOn_26 rfl, List.forall_mem_cons.mpr ⟨ab_iload_ok dX1_pageOn_27, List.forall_mem_cons.mpr ⟨ab_iadd_ok dX1_pageOn_29, List.forall_mem_cons.mpr ⟨ab_icmp_ge_ok dX1_pageOn_30 (by decide), List.forall_mem_cons.mpr ⟨ab_aload_n_ok dX1_pageOn_33 rfl, List.forall_mem_cons.mpr ⟨ab_iload_n_ok dX1_pageOn_34 rfl, List.forall_mem_cons.mpr ⟨ab_iload_n_ok dX1_pageOn_35 rfl, List.forall_mem_cons.mpr ⟨ab_iload_n_ok dX1_pageOn_36 rfl, List.forall_mem_cons.mpr ⟨ab_isub_ok dX1_pageOn_37, List.forall_mem_cons.mpr ⟨ab_callV_ok' (G' := ab_g232) (C := RX1) (T := TX1) (N := 13) dX1_pageOn_38 ab_m232 rfl rfl (by decide) (by decide) (ab_l4 ab_w1039 ab_w1040 ab_w1041 ab_w711) ab_w1042 rfl ⟨by decide, by decide, by decide +kernel⟩, List.forall_mem_cons.mpr ⟨ab_iret_ok dX1_pageOn_41 rfl, List.forall_mem_cons.mpr ⟨ab_iload_n_ok dX1_pageOn_42 rfl, List.forall_mem_cons.mpr ⟨ab_iload_ok dX1_pageOn_43, List.forall_mem_cons.mpr ⟨ab_iadd_ok dX1_pageOn_45, List.forall_mem_cons.mpr ⟨ab_istore_n_ok dX1_pageOn_46 rfl, List.forall_mem_cons.mpr ⟨ab_iinc_ok dX1_pageOn_47 (by decide), List.forall_mem_cons.mpr ⟨ab_goto_ok dX1_pageOn_50 (by decide), List.forall_mem_cons.mpr ⟨ab_iconst_ok dX1_pageOn_53 (by decide), List.forall_mem_cons.mpr ⟨ab_iret_ok dX1_pageOn_54 rfl, fun _ h => absurd h List.not_mem_nil⟩⟩⟩⟩⟩⟩⟩⟩⟩⟩⟩⟩⟩⟩⟩⟩⟩⟩⟩⟩⟩⟩⟩⟩⟩⟩⟩⟩⟩⟩⟩⟩⟩⟩⟩⟩
theorem ab_k214 (K : ab_Kt) : ∀ pc, ab_OK K ab_mt ab_g214 pc (ab_c214 pc) := ab_lk2_ok _ (List.forall_mem_cons.mpr ⟨ab_k214_0 K, fun _ h => absurd h List.not_mem_nil⟩)
theorem dX1_startOf_0 : decode cX1_startOf 0 = .ok (.iconst 0, 1) := by decide +kernel
theorem dX1_startOf_1 : decode cX1_startOf 1 = .ok (.istore_n 2, 1) := by decide +kernel
theorem dX1_startOf_2 : decode cX1_startOf 2 = .ok (.iconst 0, 1) := by decide +kernel
theorem dX1_startOf_3 : decode cX1_startOf 3 = .ok (.istore_n 3, 1) := by decide +kernel
theorem dX1_startOf_4 : decode cX1_startOf 4 = .ok (.iload_n 3, 1) := by decide +kernel
theorem dX1_startOf_5 : decode cX1_startOf 5 = .ok (.iload_n 1, 1) := by decide +kernel
theorem dX1_startOf_6 : decode cX1_startOf 6 = .ok (.if_icmp .ge 17, 3) := by decide +kernel
theorem dX1_startOf_9 : decode cX1_startOf 9 = .ok (.iload_n 2, 1) := by decide +kernel
theorem dX1_startOf_10 : decode cX1_startOf 10 = .ok (.aload_n 0, 1) := by decide +kernel
theorem dX1_startOf_11 : decode cX1_startOf 11 = .ok (.iload_n 3, 1) := by decide +kernel
theorem dX1_startOf_12 : decode cX1_startOf 12 = .ok (.invokevirtual 68, 3) := by decide +kernel
theorem dX1_startOf_15 : decode cX1_startOf 15 = .ok (.iadd, 1) := by decide +kernel
theorem dX1_startOf_16 : decode cX1_startOf 16 = .ok (.istore_n 2, 1) := by decide +kernel
theorem dX1_startOf_17 : decode cX1_startOf 17 = .ok (.iinc 3 1, 3) := by decide +kernel
theorem dX1_startOf_20 : decode cX1_startOf 20 = .ok (.goto (-16), 3) := by decide +kernel
theorem dX1_startOf_23 : decode cX1_startOf 23 = .ok (.iload_n 2, 1) := by decide +kernel
theorem dX1_startOf_24 : decode cX1_startOf 24 = .ok (.ireturn, 1) := by decide +kernel
theorem ab_k215_0 (K : ab_Kt) : ∀ q ∈ ab_l215_0, ab_OK K ab_mt ab_g215 q.1 q.2 := by
  unfold ab_l215_0
  exact List.forall_mem_cons.mpr ⟨ab_iconst_ok dX1_startOf_0 (by decide), List.forall_mem_cons.mpr ⟨ab_istore_n_ok dX1_startOf_1 rfl, List.forall_mem_cons.mpr ⟨ab_iconst_ok dX1_startOf_2 (by decide), List.forall_mem_cons.mpr ⟨ab_istore_n_ok dX1_startOf_3 rfl, List.forall_mem_cons.mpr ⟨ab_iload_n_ok dX1_startOf_4 rfl, List.forall_mem_cons.mpr ⟨ab_iload_n_ok dX1_startOf_5 rfl, List.forall_mem_cons.mpr ⟨ab_icmp_ge_ok dX1_startOf_6 (by decide), List.forall_mem_cons.mpr ⟨ab_iload_n_ok dX1_startOf_9 rfl, List.forall_mem_cons.mpr ⟨ab_aload_n_ok dX1_startOf_10 rfl, List.forall_mem_cons.mpr ⟨ab_iload_n_ok dX1_startOf_11 rfl, List.forall_mem_cons.mpr ⟨ab_callV_ok' (G' := ab_g231) (C := RX1) (T := TX1) (N := 13) dX1_startOf_12 ab_m231 rfl rfl (by decide) (by decide) (ab_l4 ab_w1035 ab_w1036 ab_w1037 ab_w711) ab_w1038 rfl ⟨by decide, by decide, by decide +kernel⟩, List.forall_mem_cons.mpr ⟨ab_iadd_ok dX1_startOf_15, List.forall_mem_cons.mpr ⟨ab_istore_n_ok dX1_startOf_16 rfl, List.forall_mem_cons.mpr ⟨ab_iinc_ok dX1_startOf_17 (by decide), List.forall_mem_cons.mpr ⟨ab_goto_ok dX1_startOf_20 (by decide), List.forall_mem_cons.mpr ⟨ab_iload_n_ok dX1_startOf_23 rfl, List.forall_mem_cons.mpr ⟨ab_iret_ok dX1_startOf_24 rfl, fun _ h => absurd h List.not_mem_nil⟩⟩⟩⟩⟩⟩⟩⟩⟩⟩⟩⟩⟩⟩⟩⟩⟩
theorem ab_k215 (K : ab_Kt) : ∀ pc, ab_OK K ab_mt ab_g215 pc (ab_c215 pc) := ab_lk2_ok _ (List.forall_mem_cons.mpr ⟨ab_k215_0 K, fun _ h => absurd h List.not_mem_nil⟩)
theorem dX0_letMinutesGoBy_0 : decode cX0_letMinutesGoBy 0 = .ok (.iload_n 1, 1) := by decide +kernel
theorem dX0_letMinutesGoBy_1 : decode cX0_letMinutesGoBy 1 = .ok (.iconst 1, 1) := by decide +kernel
theorem dX0_letMinutesGoBy_2 : decode cX0_letMinutesGoBy 2 = .ok (.bipush 60, 2) := by decide +kernel
theorem dX0_letMinutesGoBy_4 : decode cX0_letMinutesGoBy 4 = .ok (.invokestatic 18, 3) := by decide +kernel
theorem dX0_letMinutesGoBy_7 : decode cX0_letMinutesGoBy 7 = .ok (.ifCond .ne 10, 3) := by decide +kernel
theorem dX0_letMinutesGoBy_10 : decode cX0_letMinutesGoBy 10 = .ok (.aload_n 0, 1) := by decide +kernel
theorem dX0_letMinutesGoBy_11 : decode cX0_letMinutesGoBy 11 = .ok (.iconst 1, 1) := by decide +kernel
theorem dX0_letMinutesGoBy_12 : decode cX0_letMinutesGoBy 12 = .ok (.iconst 0, 1) := by decide +kernel
theorem dX0_letMinutesGoBy_13 : decode cX0_letMinutesGoBy 13 = .ok (.invokevirtual 22, 3) := by decide +kernel
theorem dX0_letMinutesGoBy_16 : decode cX0_letMinutesGoBy 16 = .ok (.ireturn, 1) := by decide +kernel
theorem dX0_letMinutesGoBy_17 : decode cX0_letMinutesGoBy 17 = .ok (.iconst 0, 1) := by decide +kernel
theorem dX0_letMinutesGoBy_18 : decode cX0_letMinutesGoBy 18 = .ok (.istore_n 2, 1) := by decide +kernel
theorem dX0_letMinutesGoBy_19 : decode cX0_letMinutesGoBy 19 = .ok (.iconst 0, 1) := by decide +kernel
theorem dX0_letMinutesGoBy_20 : decode cX0_letMinutesGoBy 20 = .ok (.istore_n 3, 1) := by decide +kernel
theorem dX0_letMinutesGoBy_21 : decode cX0_letMinutesGoBy 21 = .ok (.iload_n 3, 1) := by decide +kernel
theorem dX0_letMinutesGoBy_22 : decode cX0_letMinutesGoBy 22 = .ok (.iload_n 1, 1) := by decide +kernel
theorem dX0_letMinutesGoBy_23 : decode cX0_letMinutesGoBy 23 = .ok (.if_icmp .ge 19, 3) := by decide +kernel
theorem dX0_letMinutesGoBy_26 : decode cX0_letMinutesGoBy 26 = .ok (.iload_n 2, 1) := by decide +kernel
theorem dX0_letMinutesGoBy_27 : decode cX0_letMinutesGoBy 27 = .ok (.aload_n 0, 1) := by decide +kernel
theorem dX0_letMinutesGoBy_28 : decode cX0_letMinutesGoBy 28 = .ok (.getfield 12, 3) := by decide +kernel
theorem dX0_letMinutesGoBy_31 : decode cX0_letMinutesGoBy 31 = .ok (.invokevirtual 149, 3) := by decide +kernel
theorem dX0_letMinutesGoBy_34 : decode cX0_letMinutesGoBy 34 = .ok (.iadd, 1) := by decide +kernel
theorem dX0_letMinutesGoBy_35 : decode cX0_letMinutesGoBy 35 = .ok (.istore_n 2, 1) := by decide +kernel
theorem dX0_letMinutesGoBy_36 : decode cX0_letMinutesGoBy 36 = .ok (.iinc 3 1, 3) := by decide +kernel
theorem dX0_letMinutesGoBy_39 : decode cX0_letMinutesGoBy 39 = .ok (.goto (-18), 3) := by decide +kernel
theorem dX0_letMinutesGoBy_42 : decode cX0_letMinutesGoBy 42 = .ok (.iload_n 2, 1) := by decide +kernel
theorem dX0_letMinutesGoBy_43 : decode cX0_letMinutesGoBy 43 = .ok (.ireturn, 1) := by decide +kernel
theorem ab_k216_0 (K : ab_Kt) : ∀ q ∈ ab_l216_0, ab_OK K ab_mt ab_g216 q.1 q.2 := by
  unfold ab_l216_0
  exact List.forall_mem_cons.mpr ⟨ab_iload_n_ok dX0_letMinutesGoBy_0 rfl, List.forall_mem_cons.mpr ⟨ab_iconst_ok dX0_letMinutesGoBy_1 (by decide), List.forall_mem_cons.mpr ⟨ab_bipush_ok dX0_letMinutesGoBy_2 (by decide), List.forall_mem_cons.mpr ⟨ab_callS_ok' (G' := ab_g255) dX0_letMinutesGoBy_4 ab_m255 (by decide) (by decide) (ab_l3 ab_w1144 ab_w1145 ab_w313) ab_w1146 rfl ⟨by decide, by decide, by decide +kernel⟩, List.forall_mem_cons.mpr ⟨ab_if_ne_ok dX0_letMinutesGoBy_7 (by decide), List.forall_mem_cons.mpr ⟨ab_aload_n_ok dX0_letMinutesGoBy_10 rfl, List.forall_mem_cons.mpr ⟨ab_iconst_ok dX0_letMinutesGoBy_11 (by decide), List.forall_mem_cons.mpr ⟨ab_iconst_ok dX0_letMinutesGoBy_12 (by decide), List.forall_mem_cons.mpr ⟨ab_callV_ok' (G' := ab_g256) (C := RX0) (T := TX0) (N := 5) dX0_letMinutesGoBy_13 ab_m256 rfl rfl (by decide) (by decide) (ab_l4 ab_w1147 ab_w1148 ab_w1149 ab_w313) ab_w1150 rfl ⟨by decide, by decide, by decide +kernel⟩, List.forall_mem_cons.mpr ⟨ab_iret_ok dX0_letMinutesGoBy_16 rfl, List.forall_mem_cons.mpr ⟨ab_iconst_ok dX0_letMinutesGoBy_17 (by decide), List.forall_mem_cons.mpr ⟨ab_istore_n_ok dX0_letMinutesGoBy_18 rfl, List.forall_mem_cons.mpr ⟨ab_iconst_ok dX0_letMinutesGoBy_19 (by decide), List.forall_mem_cons.mpr ⟨ab_istore_n_ok dX0_letMinutesGoBy_20 rfl, List.forall_mem_cons.mpr ⟨ab_iload_n_ok dX0_letMinutesGoBy_21 rfl, List.forall_mem_cons.mpr ⟨ab_iload_n_ok dX0_letMinutesGoBy_22 rfl, List.forall_mem_cons.mpr ⟨ab_icmp_ge_ok dX0_letMinutesGoBy_23 (by decide), List.forall_mem_cons.mpr ⟨ab_iload_n_ok dX0_letMinutesGoBy_26 rfl, List.forall_mem_cons.mpr ⟨ab_aload_n_ok dX0_letMinutesGoBy_27 rfl, List.forall_mem_cons.mpr ⟨ab_getf_ok (C := RX0) (T := TX0) (N := 5) (ci := 4) (k := 0) dX0_letMinutesGoBy_28 rfl ab_ic4 (by decide) ab_w698, List.forall_mem_cons.mpr ⟨ab_callV_ok' (G' := ab_g257) (C := RX5) (T := TX5) (N := 10) dX0_letMinutesGoBy_31 ab_m257 rfl rfl (by decide) (by decide) (ab_l4 ab_w1151 ab_w1152 ab_w1153 ab_w328) ab_w1154 rfl ⟨by decide, by decide, by decide +kernel⟩, List.forall_mem_cons.mpr ⟨ab_iadd_ok dX0_letMinutesGoBy_34, List.forall_mem_cons.mpr ⟨ab_istore_n_ok dX0_letMinutesGoBy_35 rfl, List.forall_mem_cons.mpr ⟨ab_iinc_ok dX0_letMinutesGoBy_36 (by decide), List.forall_mem_cons.mpr ⟨ab_goto_ok dX0_letMinutesGoBy_39 (by decide), List.forall_mem_cons.mpr ⟨ab_iload_n_ok dX0_letMinutesGoBy_42 rfl, List.forall_mem_cons.mpr ⟨ab_iret_ok dX0_letMinutesGoBy_43 rfl, fun _ h => absurd h List.not_mem_nil⟩⟩⟩⟩⟩⟩⟩⟩⟩⟩⟩⟩⟩⟩⟩⟩⟩⟩⟩⟩⟩⟩⟩⟩⟩⟩⟩
theorem ab_k216 (K : ab_Kt) : ∀ pc, ab_OK K ab_mt ab_g216 pc (ab_c216 pc) := ab_lk2_ok _ (List.forall_mem_cons.mpr ⟨ab_k216_0 K, fun _ h => absurd h List.not_mem_nil⟩)
theorem dX0_handOver_0 : decode cX0_handOver 0 = .ok (.aload_n 0, 1) := by decide +kernel
theorem dX0_handOver_1 : decode cX0_handOver 1 = .ok (.iload_n 1, 1) := by decide +kernel
theorem dX0_handOver_2 : decode cX0_handOver 2 = .ok (.iconst 3, 1) := by decide +kernel
theorem dX0_handOver_3 : decode cX0_handOver 3 = .ok (.invokevirtual 69, 3) := by decide +kernel
theorem dX0_handOver_6 : decode cX0_handOver 6 = .ok (.ifCond .eq 5, 3) := by decide +kernel
theorem dX0_handOver_9 : decode cX0_handOver 9 = .ok (.iconst (-1), 1) := by decide +kernel
theorem dX0_handOver_10 : decode cX0_handOver 10 = .ok (.ireturn, 1) := by decide +kernel
theorem dX0_handOver_11 : decode cX0_handOver 11 = .ok (.aload_n 0, 1) := by decide +kernel
theorem dX0_handOver_12 : decode cX0_handOver 12 = .ok (.getfield 12, 3) := by decide +kernel
theorem dX0_handOver_15 : decode cX0_handOver 15 = .ok (.getfield 30, 3) := by decide +kernel
theorem dX0_handOver_18 : decode cX0_handOver 18 = .ok (.iload_n 1, 1) := by decide +kernel
theorem dX0_handOver_19 : decode cX0_handOver 19 = .ok (.aaload, 1) := by decide +kernel
theorem dX0_handOver_20 : decode cX0_handOver 20 = .ok (.astore_n 2, 1) := by decide +kernel
theorem dX0_handOver_21 : decode cX0_handOver 21 = .ok (.aload_n 2, 1) := by decide +kernel
theorem dX0_handOver_22 : decode cX0_handOver 22 = .ok (.iconst 1, 1) := by decide +kernel
theorem dX0_handOver_23 : decode cX0_handOver 23 = .ok (.invokevirtual 133, 3) := by decide +kernel
theorem dX0_handOver_26 : decode cX0_handOver 26 = .ok (.istore_n 3, 1) := by decide +kernel
theorem dX0_handOver_27 : decode cX0_handOver 27 = .ok (.iload_n 3, 1) := by decide +kernel
theorem dX0_handOver_28 : decode cX0_handOver 28 = .ok (.iconst (-1), 1) := by decide +kernel
theorem dX0_handOver_29 : decode cX0_handOver 29 = .ok (.if_icmp .eq 11, 3) := by decide +kernel
theorem dX0_handOver_32 : decode cX0_handOver 32 = .ok (.aload_n 0, 1) := by decide +kernel
theorem dX0_handOver_33 : decode cX0_handOver 33 = .ok (.bipush 14, 2) := by decide +kernel
theorem dX0_handOver_35 : decode cX0_handOver 35 = .ok (.iload_n 3, 1) := by decide +kernel
theorem dX0_handOver_36 : decode cX0_handOver 36 = .ok (.invokevirtual 22, 3) := by decide +kernel
theorem dX0_handOver_39 : decode cX0_handOver 39 = .ok (.ireturn, 1) := by decide +kernel
theorem dX0_handOver_40 : decode cX0_handOver 40 = .ok (.aload_n 2, 1) := by decide +kernel
theorem dX0_handOver_41 : decode cX0_handOver 41 = .ok (.invokevirtual 137, 3) := by decide +kernel
theorem dX0_handOver_44 : decode cX0_handOver 44 = .ok (.istore 4, 2) := by decide +kernel
theorem dX0_handOver_46 : decode cX0_handOver 46 = .ok (.iload 4, 2) := by decide +kernel
theorem dX0_handOver_48 : decode cX0_handOver 48 = .ok (.aload_n 0, 1) := by decide +kernel
theorem dX0_handOver_49 : decode cX0_handOver 49 = .ok (.getfield 12, 3) := by decide +kernel
theorem dX0_handOver_52 : decode cX0_handOver 52 = .ok (.getfield 140, 3) := by decide +kernel
theorem dX0_handOver_55 : decode cX0_handOver 55 = .ok (.if_icmp .le 20, 3) := by decide +kernel
theorem dX0_handOver_58 : decode cX0_handOver 58 = .ok (.aload_n 0, 1) := by decide +kernel
theorem dX0_handOver_59 : decode cX0_handOver 59 = .ok (.bipush 15, 2) := by decide +kernel
theorem dX0_handOver_61 : decode cX0_handOver 61 = .ok (.iload 4, 2) := by decide +kernel
theorem dX0_handOver_63 : decode cX0_handOver 63 = .ok (.aload_n 0, 1) := by decide +kernel
theorem dX0_handOver_64 : decode cX0_handOver 64 = .ok (.getfield 12, 3) := by decide +kernel
theorem dX0_handOver_67 : decode cX0_handOver 67 = .ok (.getfield 140, 3) := by decide +kernel
theorem dX0_handOver_70 : decode cX0_handOver 70 = .ok (.isub, 1) := by decide +kernel
theorem ab_k217_0 (K : ab_Kt) : ∀ q ∈ ab_l217_0, ab_OK K ab_mt ab_g217 q.1 q.2 := by
  unfold ab_l217_0
  exact List.forall_mem_cons.mpr ⟨ab_aload_n_ok dX0_handOver_0 rfl, List.forall_mem_cons.mpr ⟨ab_iload_n_ok dX0_handOver_1 rfl, List.forall_mem_cons.mpr ⟨ab_iconst_ok dX0_handOver_2 (by decide), List.forall_mem_cons.mpr ⟨ab_callV_ok' (G' := ab_g258) (C := RX0) (T := TX0) (N := 5) dX0_handOver_3 ab_m258 rfl rfl (by decide) (by decide) (ab_l4 ab_w1155 ab_w1156 ab_w1157 ab_w313) ab_w1158 rfl ⟨by decide, by decide, by decide +kernel⟩, List.forall_mem_cons.mpr ⟨ab_if_eq_ok dX0_handOver_6 (by decide), List.forall_mem_cons.mpr ⟨ab_iconst_ok dX0_handOver_9 (by decide), List.forall_mem_cons.mpr ⟨ab_iret_ok dX0_handOver_10 rfl, List.forall_mem_cons.mpr ⟨ab_aload_n_ok dX0_handOver_11 rfl, List.forall_mem_cons.mpr ⟨ab_getf_ok (C := RX0) (T := TX0) (N := 5) (ci := 4) (k := 0) dX0_handOver_12 rfl ab_ic4 (by decide) ab_w698, List.forall_mem_cons.mpr ⟨ab_getf_ok (C := RX5) (T := TX5) (N := 10) (ci := 9) (k := 0) dX0_handOver_15 rfl ab_ic9 (by decide) ab_w1159, List.forall_mem_cons.mpr ⟨ab_iload_n_ok dX0_handOver_18 rfl, List.forall_mem_cons.mpr ⟨ab_aald_ok dX0_handOver_19 rfl, List.forall_mem_cons.mpr ⟨ab_astore_n_ok dX0_handOver_20 rfl, List.forall_mem_cons.mpr ⟨ab_aload_n_ok dX0_handOver_21 rfl, List.forall_mem_cons.mpr ⟨ab_iconst_ok dX0_handOver_22 (by decide), List.forall_mem_cons.mpr ⟨ab_callV_ok' (G' := ab_g212) (C := RX1) (T := TX1) (N := 13) dX0_handOver_23 ab_m212 rfl rfl (by decide) (by decide) (ab_l4 ab_w1160 ab_w920 ab_w921 ab_w711) ab_w922 rfl ⟨by decide, by decide, by decide +kernel⟩, List.forall_mem_cons.mpr ⟨ab_istore_n_ok dX0_handOver_26 rfl, List.forall_mem_cons.mpr ⟨ab_iload_n_ok dX0_handOver_27 rfl, List.forall_mem_cons.mpr ⟨ab_iconst_ok dX0_handOver_28 (by decide), List.forall_mem_cons.mpr ⟨ab_icmp_eq_ok dX0_handOver_29 (by decide), List.forall_mem_cons.mpr ⟨ab_aload_n_ok dX0_handOver_32 rfl, List.forall_mem_cons.mpr ⟨ab_bipush_ok dX0_handOver_33 (by decide), List.forall_mem_cons.mpr ⟨ab_iload_n_ok dX0_handOver_35 rfl, List.forall_mem_cons.mpr ⟨ab_callV_ok' (G' := ab_g256) (C := RX0) (T := TX0) (N := 5) dX0_handOver_36 ab_m256 rfl rfl (by decide) (by decide) (ab_l4 ab_w1147 ab_w1148 ab_w1149 ab_w313) ab_w1150 rfl ⟨by decide, by decide, by decide +kernel⟩, List.forall_mem_cons.mpr ⟨ab_iret_ok dX0_handOver_39 rfl, List.forall_mem_cons.mpr ⟨ab_aload_n_ok dX0_handOver_40 rfl, List.forall_mem_cons.mpr ⟨ab_callV_ok' (G' := ab_g211) (C := RX1) (T := TX1) (N := 13) dX0_handOver_41 ab_m211 rfl rfl (by decide) (by decide) (ab_l4 ab_w1161 ab_w916 ab_w917 ab_w711) ab_w918 rfl ⟨by decide, by decide, by decide +kernel⟩, List.forall_mem_cons.mpr ⟨ab_istore_ok dX0_handOver_44, List.forall_mem_cons.mpr ⟨ab_iload_ok dX0_handOver_46, List.forall_mem_cons.mpr ⟨ab_aload_n_ok dX0_handOver_48 rfl, List.forall_mem_cons.mpr ⟨ab_getf_ok (C := RX0) (T := TX0) (N := 5) (ci := 4) (k := 0) dX0_handOver_49 rfl ab_ic4 (by decide) ab_w698, List.forall_mem_cons.mpr ⟨ab_getf_ok (C := RX5) (T := TX5) (N := 10) (ci := 9) (k := 4) dX0_handOver_52 rfl ab_ic9 (by decide) ab_w1162, List.forall_mem_cons.mpr ⟨ab_icmp_le_ok dX0_handOver_55 (by decide), List.forall_mem_cons.mpr ⟨ab_aload_n_ok dX0_handOver_58 rfl, List.forall_mem_cons.mpr ⟨ab_bipush_ok dX0_handOver_59 (by decide), List.forall_mem_cons.mpr ⟨ab_iload_ok dX0_handOver_61, List.forall_mem_cons.mpr ⟨ab_aload_n_ok dX0_handOver_63 rfl, List.forall_mem_cons.mpr ⟨ab_getf_ok (C := RX0) (T := TX0) (N := 5) (ci := 4) (k := 0) dX0_handOver_64 rfl ab_ic4 (by decide) ab_w698, List.forall_mem_cons.mpr ⟨ab_getf_ok (C := RX5) (T := TX5) (N := 10) (ci := 9) (k := 4) dX0_handOver_67 rfl ab_ic9 (by decide) ab_w1162, List.forall_mem_cons.mpr ⟨ab_isub_ok dX0_handOver_70, fun _ h => absurd h List.not_mem_nil⟩⟩⟩⟩⟩⟩⟩⟩⟩⟩⟩⟩⟩⟩⟩⟩⟩⟩⟩⟩⟩⟩⟩⟩⟩⟩⟩⟩⟩⟩⟩⟩⟩⟩⟩⟩⟩⟩⟩⟩
theorem dX0_handOver_71 : decode cX0_handOver 71 = .ok (.invokevirtual 22, 3) := by decide +kernel
theorem dX0_handOver_74 : decode cX0_handOver 74 = .ok (.ireturn, 1) := by decide +kernel
theorem dX0_handOver_75 : decode cX0_handOver 75 = .ok (.aload_n 2, 1) := by decide +kernel
theorem dX0_handOver_76 : decode cX0_handOver 76 = .ok (.invokevirtual 143, 3) := by decide +kernel
theorem dX0_handOver_79 : decode cX0_handOver 79 = .ok (.aload_n 2, 1) := by decide +kernel
theorem dX0_handOver_80 : decode cX0_handOver 80 = .ok (.invokevirtual 57, 3) := by decide +kernel
theorem dX0_handOver_83 : decode cX0_handOver 83 = .ok (.isub, 1) := by decide +kernel
theorem dX0_handOver_84 : decode cX0_handOver 84 = .ok (.bipush 8, 2) := by decide +kernel
theorem dX0_handOver_86 : decode cX0_handOver 86 = .ok (.idiv, 1) := by decide +kernel
theorem dX0_handOver_87 : decode cX0_handOver 87 = .ok (.istore 5, 2) := by decide +kernel
theorem dX0_handOver_89 : decode cX0_handOver 89 = .ok (.aload_n 0, 1) := by decide +kernel
theorem dX0_handOver_90 : decode cX0_handOver 90 = .ok (.getfield 12, 3) := by decide +kernel
theorem dX0_handOver_93 : decode cX0_handOver 93 = .ok (.dup, 1) := by decide +kernel
theorem dX0_handOver_94 : decode cX0_handOver 94 = .ok (.getfield 140, 3) := by decide +kernel
theorem dX0_handOver_97 : decode cX0_handOver 97 = .ok (.iload 5, 2) := by decide +kernel
theorem dX0_handOver_99 : decode cX0_handOver 99 = .ok (.iload 4, 2) := by decide +kernel
theorem dX0_handOver_101 : decode cX0_handOver 101 = .ok (.isub, 1) := by decide +kernel
theorem dX0_handOver_102 : decode cX0_handOver 102 = .ok (.iadd, 1) := by decide +kernel
theorem dX0_handOver_103 : decode cX0_handOver 103 = .ok (.putfield 140, 3) := by decide +kernel
theorem dX0_handOver_106 : decode cX0_handOver 106 = .ok (.aload_n 0, 1) := by decide +kernel
theorem dX0_handOver_107 : decode cX0_handOver 107 = .ok (.getfield 12, 3) := by decide +kernel
theorem dX0_handOver_110 : decode cX0_handOver 110 = .ok (.dup, 1) := by decide +kernel
theorem dX0_handOver_111 : decode cX0_handOver 111 = .ok (.getfield 146, 3) := by decide +kernel
theorem dX0_handOver_114 : decode cX0_handOver 114 = .ok (.iload 5, 2) := by decide +kernel
theorem dX0_handOver_116 : decode cX0_handOver 116 = .ok (.iadd, 1) := by decide +kernel
theorem dX0_handOver_117 : decode cX0_handOver 117 = .ok (.putfield 146, 3) := by decide +kernel
theorem dX0_handOver_120 : decode cX0_handOver 120 = .ok (.aload_n 2, 1) := by decide +kernel
theorem dX0_handOver_121 : decode cX0_handOver 121 = .ok (.iconst 4, 1) := by decide +kernel
theorem dX0_handOver_122 : decode cX0_handOver 122 = .ok (.putfield 93, 3) := by decide +kernel
theorem dX0_handOver_125 : decode cX0_handOver 125 = .ok (.iload 5, 2) := by decide +kernel
theorem dX0_handOver_127 : decode cX0_handOver 127 = .ok (.ireturn, 1) := by decide +kernel
theorem ab_k217_1 (K : ab_Kt) : ∀ q ∈ ab_l217_1, ab_OK K ab_mt ab_g217 q.1 q.2 := by
  unfold ab_l217_1
  exact List.forall_mem_cons.mpr ⟨ab_callV_ok' (G' := ab_g256) (C := RX0) (T := TX0) (N := 5) dX0_handOver_71 ab_m256 rfl rfl (by decide) (by decide) (ab_l4 ab_w1147 ab_w1148 ab_w1149 ab_w313) ab_w1150 rfl ⟨by decide, by decide, by decide +kernel⟩, List.forall_mem_cons.mpr ⟨ab_iret_ok dX0_handOver_74 rfl, List.forall_mem_cons.mpr ⟨ab_aload_n_ok dX0_handOver_75 rfl, List.forall_mem_cons.mpr ⟨ab_callV_ok' (G' := ab_g183) (C := RX1) (T := TX1) (N := 13) dX0_handOver_76 ab_m183 rfl rfl (by decide) (by decide) (ab_l4 ab_w1163 ab_w775 ab_w776 ab_w711) ab_w777 rfl ⟨by decide, by decide, by decide +kernel⟩, List.forall_mem_cons.mpr ⟨ab_aload_n_ok dX0_handOver_79 rfl, List.forall_mem_cons.mpr ⟨ab_callV_ok' (G' := ab_g184) (C := RX1) (T := TX1) (N := 13) dX0_handOver_80 ab_m184 rfl rfl (by decide) (by decide) (ab_l4 ab_w1164 ab_w779 ab_w780 ab_w711) ab_w781 rfl ⟨by decide, by decide, by decide +kernel⟩, List.forall_mem_cons.mpr ⟨ab_isub_ok dX0_handOver_83, List.forall_mem_cons.mpr ⟨ab_bipush_ok dX0_handOver_84 (by decide), List.forall_mem_cons.mpr ⟨ab_idiv_ok dX0_handOver_86, List.forall_mem_cons.mpr ⟨ab_istore_ok dX0_handOver_87, List.forall_mem_cons.mpr ⟨ab_aload_n_ok dX0_handOver_89 rfl, List.forall_mem_cons.mpr ⟨ab_getf_ok (C := RX0) (T := TX0) (N := 5) (ci := 4) (k := 0) dX0_handOver_90 rfl ab_ic4 (by decide) ab_w698, List.forall_mem_cons.mpr ⟨ab_dup_ok dX0_handOver_93, List.forall_mem_cons.mpr ⟨ab_getf_ok (C := RX5) (T := TX5) (N := 10) (ci := 9) (k := 4) dX0_handOver_94 rfl ab_ic9 (by decide) ab_w1162, List.forall_mem_cons.mpr ⟨ab_iload_ok dX0_handOver_97, List.forall_mem_cons.mpr ⟨ab_iload_ok dX0_handOver_99, List.forall_mem_cons.mpr ⟨ab_isub_ok dX0_handOver_101, List.forall_mem_cons.mpr ⟨ab_iadd_ok dX0_handOver_102, List.forall_mem_cons.mpr ⟨ab_putf_ok (C := RX5) (T := TX5) (N := 10) (ci := 9) (k := 4) (ty0 := tyX5) dX0_handOver_103 rfl ab_ic9 tyX5_ok nmX5 (by decide) ab_w1162 rfl (Or.inl rfl), List.forall_mem_cons.mpr ⟨ab_aload_n_ok dX0_handOver_106 rfl, List.forall_mem_cons.mpr ⟨ab_getf_ok (C := RX0) (T := TX0) (N := 5) (ci := 4) (k := 0) dX0_handOver_107 rfl ab_ic4 (by decide) ab_w698, List.forall_mem_cons.mpr ⟨ab_dup_ok dX0_handOver_110, List.forall_mem_cons.mpr ⟨ab_getf_ok (C := RX5) (T := TX5) (N := 10) (ci := 9) (k := 9) dX0_handOver_111 rfl ab_ic9 (by decide) ab_w1165, List.forall_mem_cons.mpr ⟨ab_iload_ok dX0_handOver_114, List.forall_mem_cons.mpr ⟨ab_iadd_ok dX0_handOver_116, List.forall_mem_cons.mpr ⟨ab_putf_ok (C := RX5) (T := TX5) (N := 10) (ci := 9) (k := 9) (ty0 := tyX5) dX0_handOver_117 rfl ab_ic9 tyX5_ok nmX5 (by decide) ab_w1165 rfl (Or.inl rfl), List.forall_mem_cons.mpr ⟨ab_aload_n_ok dX0_handOver_120 rfl, List.forall_mem_cons.mpr ⟨ab_iconst_ok dX0_handOver_121 (by decide), List.forall_mem_cons.mpr ⟨ab_putf_ok (C := RX1) (T := TX1) (N := 13) (ci := 5) (k := 2) (ty0 := tyX1) dX0_handOver_122 rfl ab_ic5 tyX1_ok nmX1 (by decide) ab_w1166 rfl (Or.inl rfl), List.forall_mem_cons.mpr ⟨ab_iload_ok dX0_handOver_125, List.forall_mem_cons.mpr ⟨ab_iret_ok dX0_handOver_127 rfl, fun _ h => absurd h List.not_mem_nil⟩⟩⟩⟩⟩⟩⟩⟩⟩⟩⟩⟩⟩⟩⟩⟩⟩⟩⟩⟩⟩⟩⟩⟩⟩⟩⟩⟩⟩⟩⟩
theorem ab_k217 (K : ab_Kt) : ∀ pc, ab_OK K ab_mt ab_g217 pc (ab_c217 pc) := ab_lk2_ok _ (List.forall_mem_cons.mpr ⟨ab_k217_0 K, List.forall_mem_cons.mpr ⟨ab_k217_1 K, fun _ h => absurd h List.not_mem_nil⟩⟩)
theorem dX0_pasteSlip_0 : decode cX0_pasteSlip 0 = .ok (.aload_n 0, 1) := by decide +kernel
theorem dX0_pasteSlip_1 : decode cX0_pasteSlip 1 = .ok (.iload_n 1, 1) := by decide +kernel
theorem dX0_pasteSlip_2 : decode cX0_pasteSlip 2 = .ok (.iconst 3, 1) := by decide +kernel
theorem dX0_pasteSlip_3 : decode cX0_pasteSlip 3 = .ok (.invokevirtual 69, 3) := by decide +kernel
theorem dX0_pasteSlip_6 : decode cX0_pasteSlip 6 = .ok (.ifCond .eq 5, 3) := by decide +kernel
theorem dX0_pasteSlip_9 : decode cX0_pasteSlip 9 = .ok (.iconst (-1), 1) := by decide +kernel
theorem dX0_pasteSlip_10 : decode cX0_pasteSlip 10 = .ok (.ireturn, 1) := by decide +kernel
theorem dX0_pasteSlip_11 : decode cX0_pasteSlip 11 = .ok (.aload_n 0, 1) := by decide +kernel
theorem dX0_pasteSlip_12 : decode cX0_pasteSlip 12 = .ok (.getfield 12, 3) := by decide +kernel
theorem dX0_pasteSlip_15 : decode cX0_pasteSlip 15 = .ok (.getfield 30, 3) := by decide +kernel
theorem dX0_pasteSlip_18 : decode cX0_pasteSlip 18 = .ok (.iload_n 1, 1) := by decide +kernel
theorem dX0_pasteSlip_19 : decode cX0_pasteSlip 19 = .ok (.aaload, 1) := by decide +kernel
theorem dX0_pasteSlip_20 : decode cX0_pasteSlip 20 = .ok (.astore_n 3, 1) := by decide +kernel
theorem dX0_pasteSlip_21 : decode cX0_pasteSlip 21 = .ok (.aload_n 3, 1) := by decide +kernel
theorem dX0_pasteSlip_22 : decode cX0_pasteSlip 22 = .ok (.iload_n 2, 1) := by decide +kernel
theorem dX0_pasteSlip_23 : decode cX0_pasteSlip 23 = .ok (.invokevirtual 117, 3) := by decide +kernel
theorem dX0_pasteSlip_26 : decode cX0_pasteSlip 26 = .ok (.ifCond .ne 11, 3) := by decide +kernel
theorem dX0_pasteSlip_29 : decode cX0_pasteSlip 29 = .ok (.aload_n 0, 1) := by decide +kernel
theorem dX0_pasteSlip_30 : decode cX0_pasteSlip 30 = .ok (.bipush 12, 2) := by decide +kernel
theorem dX0_pasteSlip_32 : decode cX0_pasteSlip 32 = .ok (.iload_n 2, 1) := by decide +kernel
theorem dX0_pasteSlip_33 : decode cX0_pasteSlip 33 = .ok (.invokevirtual 22, 3) := by decide +kernel
theorem dX0_pasteSlip_36 : decode cX0_pasteSlip 36 = .ok (.ireturn, 1) := by decide +kernel
theorem dX0_pasteSlip_37 : decode cX0_pasteSlip 37 = .ok (.aload_n 3, 1) := by decide +kernel
theorem dX0_pasteSlip_38 : decode cX0_pasteSlip 38 = .ok (.iload_n 2, 1) := by decide +kernel
theorem dX0_pasteSlip_39 : decode cX0_pasteSlip 39 = .ok (.invokevirtual 120, 3) := by decide +kernel
theorem dX0_pasteSlip_42 : decode cX0_pasteSlip 42 = .ok (.ifCond .eq 11, 3) := by decide +kernel
theorem dX0_pasteSlip_45 : decode cX0_pasteSlip 45 = .ok (.aload_n 0, 1) := by decide +kernel
theorem dX0_pasteSlip_46 : decode cX0_pasteSlip 46 = .ok (.bipush 13, 2) := by decide +kernel
theorem dX0_pasteSlip_48 : decode cX0_pasteSlip 48 = .ok (.iload_n 2, 1) := by decide +kernel
theorem dX0_pasteSlip_49 : decode cX0_pasteSlip 49 = .ok (.invokevirtual 22, 3) := by decide +kernel
theorem dX0_pasteSlip_52 : decode cX0_pasteSlip 52 = .ok (.ireturn, 1) := by decide +kernel
theorem dX0_pasteSlip_53 : decode cX0_pasteSlip 53 = .ok (.aload_n 3, 1) := by decide +kernel
theorem dX0_pasteSlip_54 : decode cX0_pasteSlip 54 = .ok (.iload_n 2, 1) := by decide +kernel
theorem dX0_pasteSlip_55 : decode cX0_pasteSlip 55 = .ok (.invokevirtual 123, 3) := by decide +kernel
theorem dX0_pasteSlip_58 : decode cX0_pasteSlip 58 = .ok (.aload_n 0, 1) := by decide +kernel
theorem dX0_pasteSlip_59 : decode cX0_pasteSlip 59 = .ok (.getfield 12, 3) := by decide +kernel
theorem dX0_pasteSlip_62 : decode cX0_pasteSlip 62 = .ok (.dup, 1) := by decide +kernel
theorem dX0_pasteSlip_63 : decode cX0_pasteSlip 63 = .ok (.getfield 127, 3) := by decide +kernel
theorem dX0_pasteSlip_66 : decode cX0_pasteSlip 66 = .ok (.iconst 1, 1) := by decide +kernel
theorem dX0_pasteSlip_67 : decode cX0_pasteSlip 67 = .ok (.iadd, 1) := by decide +kernel
theorem ab_k218_0 (K : ab_Kt) : ∀ q ∈ ab_l218_0, ab_OK K ab_mt ab_g218 q.1 q.2 := by
  unfold ab_l218_0
  exact List.forall_mem_cons.mpr ⟨ab_aload_n_ok dX0_pasteSlip_0 rfl, List.forall_mem_cons.mpr ⟨ab_iload_n_ok dX0_pasteSlip_1 rfl, List.forall_mem_cons.mpr ⟨ab_iconst_ok dX0_pasteSlip_2 (by decide), List.forall_mem_cons.mpr ⟨ab_callV_ok' (G' := ab_g258) (C := RX0) (T := TX0) (N := 5) dX0_pasteSlip_3 ab_m258 rfl rfl (by decide) (by decide) (ab_l4 ab_w1155 ab_w1156 ab_w1157 ab_w313) ab_w1158 rfl ⟨by decide, by decide, by decide +kernel⟩, List.forall_mem_cons.mpr ⟨ab_if_eq_ok dX0_pasteSlip_6 (by decide), List.forall_mem_cons.mpr ⟨ab_iconst_ok dX0_pasteSlip_9 (by decide), List.forall_mem_cons.mpr ⟨ab_iret_ok dX0_pasteSlip_10 rfl, List.forall_mem_cons.mpr ⟨ab_aload_n_ok dX0_pasteSlip_11 rfl, List.forall_mem_cons.mpr ⟨ab_getf_ok (C := RX0) (T := TX0) (N := 5) (ci := 4) (k := 0) dX0_pasteSlip_12 rfl ab_ic4 (by decide) ab_w698, List.forall_mem_cons.mpr ⟨ab_getf_ok (C := RX5) (T := TX5) (N := 10) (ci := 9) (k := 0) dX0_pasteSlip_15 rfl ab_ic9 (by decide) ab_w1159, List.forall_mem_cons.mpr ⟨ab_iload_n_ok dX0_pasteSlip_18 rfl, List.forall_mem_cons.mpr ⟨ab_aald_ok dX0_pasteSlip_19 rfl, List.forall_mem_cons.mpr ⟨ab_astore_n_ok dX0_pasteSlip_20 rfl, List.forall_mem_cons.mpr ⟨ab_aload_n_ok dX0_pasteSlip_21 rfl, List.forall_mem_cons.mpr ⟨ab_iload_n_ok dX0_pasteSlip_22 rfl, List.forall_mem_cons.mpr ⟨ab_callV_ok' (G' := ab_g259) (C := RX1) (T := TX1) (N := 13) dX0_pasteSlip_23 ab_m259 rfl rfl (by decide) (by decide) (ab_l4 ab_w1167 ab_w1168 ab_w1169 ab_w711) ab_w1170 rfl ⟨by decide, by decide, by decide +kernel⟩, List.forall_mem_cons.mpr ⟨ab_if_ne_ok dX0_pasteSlip_26 (by decide), List.forall_mem_cons.mpr ⟨ab_aload_n_ok dX0_pasteSlip_29 rfl, List.forall_mem_cons.mpr ⟨ab_bipush_ok dX0_pasteSlip_30 (by decide), List.forall_mem_cons.mpr ⟨ab_iload_n_ok dX0_pasteSlip_32 rfl, List.forall_mem_cons.mpr ⟨ab_callV_ok' (G' := ab_g256) (C := RX0) (T := TX0) (N := 5) dX0_pasteSlip_33 ab_m256 rfl rfl (by decide) (by decide) (ab_l4 ab_w1147 ab_w1148 ab_w1149 ab_w313) ab_w1150 rfl ⟨by decide, by decide, by decide +kernel⟩, List.forall_mem_cons.mpr ⟨ab_iret_ok dX0_pasteSlip_36 rfl, List.forall_mem_cons.mpr ⟨ab_aload_n_ok dX0_pasteSlip_37 rfl, List.forall_mem_cons.mpr ⟨ab_iload_n_ok dX0_pasteSlip_38 rfl, List.forall_mem_cons.mpr ⟨ab_callV_ok' (G' := ab_g205) (C := RX1) (T := TX1) (N := 13) dX0_pasteSlip_39 ab_m205 rfl rfl (by decide) (by decide) (ab_l4 ab_w1171 ab_w892 ab_w893 ab_w711) ab_w894 rfl ⟨by decide, by decide, by decide +kernel⟩, List.forall_mem_cons.mpr ⟨ab_if_eq_ok dX0_pasteSlip_42 (by decide), List.forall_mem_cons.mpr ⟨ab_aload_n_ok dX0_pasteSlip_45 rfl, List.forall_mem_cons.mpr ⟨ab_bipush_ok dX0_pasteSlip_46 (by decide), List.forall_mem_cons.mpr ⟨ab_iload_n_ok dX0_pasteSlip_48 rfl, List.forall_mem_cons.mpr ⟨ab_callV_ok' (G' := ab_g256) (C := RX0) (T := TX0) (N := 5) dX0_pasteSlip_49 ab_m256 rfl rfl (by decide) (by decide) (ab_l4 ab_w1147 ab_w1148 ab_w1149 ab_w313) ab_w1150 rfl ⟨by decide, by decide, by decide +kernel⟩, List.forall_mem_cons.mpr ⟨ab_iret_ok dX0_pasteSlip_52 rfl, List.forall_mem_cons.mpr ⟨ab_aload_n_ok dX0_pasteSlip_53 rfl, List.forall_mem_cons.mpr ⟨ab_iload_n_ok dX0_pasteSlip_54 rfl, List.forall_mem_cons.mpr ⟨ab_callV_ok' (G' := ab_g260) (C := RX1) (T := TX1) (N := 13) dX0_pasteSlip_55 ab_m260 rfl rfl (by decide) (by decide) (ab_l4 ab_w1172 ab_w1173 ab_w1174 ab_w711) ab_w1175 rfl ⟨by decide, by decide, by decide +kernel⟩, List.forall_mem_cons.mpr ⟨ab_aload_n_ok dX0_pasteSlip_58 rfl, List.forall_mem_cons.mpr ⟨ab_getf_ok (C := RX0) (T := TX0) (N := 5) (ci := 4) (k := 0) dX0_pasteSlip_59 rfl ab_ic4 (by decide) ab_w698, List.forall_mem_cons.mpr ⟨ab_dup_ok dX0_pasteSlip_62, List.forall_mem_cons.mpr ⟨ab_getf_ok (C := RX5) (T := TX5) (N := 10) (ci := 9) (k := 8) dX0_pasteSlip_63 rfl ab_ic9 (by decide) ab_w1176, List.forall_mem_cons.mpr ⟨ab_iconst_ok dX0_pasteSlip_66 (by decide), List.forall_mem_cons.mpr ⟨ab_iadd_ok dX0_pasteSlip_67, fun _ h => absurd h List.not_mem_nil⟩⟩⟩⟩⟩⟩⟩⟩⟩⟩⟩⟩⟩⟩⟩⟩⟩⟩⟩⟩⟩⟩⟩⟩⟩⟩⟩⟩⟩⟩⟩⟩⟩⟩⟩⟩⟩⟩⟩⟩
theorem dX0_pasteSlip_68 : decode cX0_pasteSlip 68 = .ok (.putfield 127, 3) := by decide +kernel
theorem dX0_pasteSlip_71 : decode cX0_pasteSlip 71 = .ok (.aload_n 3, 1) := by decide +kernel
theorem dX0_pasteSlip_72 : decode cX0_pasteSlip 72 = .ok (.getfield 130, 3) := by decide +kernel
theorem dX0_pasteSlip_75 : decode cX0_pasteSlip 75 = .ok (.ireturn, 1) := by decide +kernel
theorem ab_k218_1 (K : ab_Kt) : ∀ q ∈ ab_l218_1, ab_OK K ab_mt ab_g218 q.1 q.2 := by
  unfold ab_l218_1
  exact List.forall_mem_cons.mpr ⟨ab_putf_ok (C := RX5) (T := TX5) (N := 10) (ci := 9) (k := 8) (ty0 := tyX5) dX0_pasteSlip_68 rfl ab_ic9 tyX5_ok nmX5 (by decide) ab_w1176 rfl (Or.inl rfl), List.forall_mem_cons.mpr ⟨ab_aload_n_ok dX0_pasteSlip_71 rfl, List.forall_mem_cons.mpr ⟨ab_getf_ok (C := RX1) (T := TX1) (N := 13) (ci := 5) (k := 5) dX0_pasteSlip_72 rfl ab_ic5 (by decide) ab_w1177, List.forall_mem_cons.mpr ⟨ab_iret_ok dX0_pasteSlip_75 rfl, fun _ h => absurd h List.not_mem_nil⟩⟩⟩⟩
theorem ab_k218 (K : ab_Kt) : ∀ pc, ab_OK K ab_mt ab_g218 pc (ab_c218 pc) := ab_lk2_ok _ (List.forall_mem_cons.mpr ⟨ab_k218_0 K, List.forall_mem_cons.mpr ⟨ab_k218_1 K, fun _ h => absurd h List.not_mem_nil⟩⟩)
theorem dX0_liftTop_0 : decode cX0_liftTop 0 = .ok (.aload_n 0, 1) := by decide +kernel
theorem dX0_liftTop_1 : decode cX0_liftTop 1 = .ok (.getfield 12, 3) := by decide +kernel
theorem dX0_liftTop_4 : decode cX0_liftTop 4 = .ok (.iload_n 1, 1) := by decide +kernel
theorem dX0_liftTop_5 : decode cX0_liftTop 5 = .ok (.invokevirtual 102, 3) := by decide +kernel
theorem dX0_liftTop_8 : decode cX0_liftTop 8 = .ok (.ifCond .ne 10, 3) := by decide +kernel
theorem dX0_liftTop_11 : decode cX0_liftTop 11 = .ok (.aload_n 0, 1) := by decide +kernel
theorem dX0_liftTop_12 : decode cX0_liftTop 12 = .ok (.iconst 3, 1) := by decide +kernel
theorem dX0_liftTop_13 : decode cX0_liftTop 13 = .ok (.iload_n 1, 1) := by decide +kernel
theorem dX0_liftTop_14 : decode cX0_liftTop 14 = .ok (.invokevirtual 22, 3) := by decide +kernel
theorem dX0_liftTop_17 : decode cX0_liftTop 17 = .ok (.ireturn, 1) := by decide +kernel
theorem dX0_liftTop_18 : decode cX0_liftTop 18 = .ok (.aload_n 0, 1) := by decide +kernel
theorem dX0_liftTop_19 : decode cX0_liftTop 19 = .ok (.getfield 12, 3) := by decide +kernel
theorem dX0_liftTop_22 : decode cX0_liftTop 22 = .ok (.getfield 105, 3) := by decide +kernel
theorem dX0_liftTop_25 : decode cX0_liftTop 25 = .ok (.iload_n 1, 1) := by decide +kernel
theorem dX0_liftTop_26 : decode cX0_liftTop 26 = .ok (.aaload, 1) := by decide +kernel
theorem dX0_liftTop_27 : decode cX0_liftTop 27 = .ok (.astore_n 2, 1) := by decide +kernel
theorem dX0_liftTop_28 : decode cX0_liftTop 28 = .ok (.aload_n 2, 1) := by decide +kernel
theorem dX0_liftTop_29 : decode cX0_liftTop 29 = .ok (.getfield 109, 3) := by decide +kernel
theorem dX0_liftTop_32 : decode cX0_liftTop 32 = .ok (.ifCond .ne 11, 3) := by decide +kernel
theorem dX0_liftTop_35 : decode cX0_liftTop 35 = .ok (.aload_n 0, 1) := by decide +kernel
theorem dX0_liftTop_36 : decode cX0_liftTop 36 = .ok (.bipush 11, 2) := by decide +kernel
theorem dX0_liftTop_38 : decode cX0_liftTop 38 = .ok (.iload_n 1, 1) := by decide +kernel
theorem dX0_liftTop_39 : decode cX0_liftTop 39 = .ok (.invokevirtual 22, 3) := by decide +kernel
theorem dX0_liftTop_42 : decode cX0_liftTop 42 = .ok (.ireturn, 1) := by decide +kernel
theorem dX0_liftTop_43 : decode cX0_liftTop 43 = .ok (.aload_n 2, 1) := by decide +kernel
theorem dX0_liftTop_44 : decode cX0_liftTop 44 = .ok (.getfield 114, 3) := by decide +kernel
theorem dX0_liftTop_47 : decode cX0_liftTop 47 = .ok (.aload_n 2, 1) := by decide +kernel
theorem dX0_liftTop_48 : decode cX0_liftTop 48 = .ok (.getfield 109, 3) := by decide +kernel
theorem dX0_liftTop_51 : decode cX0_liftTop 51 = .ok (.iconst 1, 1) := by decide +kernel
theorem dX0_liftTop_52 : decode cX0_liftTop 52 = .ok (.isub, 1) := by decide +kernel
theorem dX0_liftTop_53 : decode cX0_liftTop 53 = .ok (.iaload, 1) := by decide +kernel
theorem dX0_liftTop_54 : decode cX0_liftTop 54 = .ok (.istore_n 3, 1) := by decide +kernel
theorem dX0_liftTop_55 : decode cX0_liftTop 55 = .ok (.aload_n 0, 1) := by decide +kernel
theorem dX0_liftTop_56 : decode cX0_liftTop 56 = .ok (.getfield 12, 3) := by decide +kernel
theorem dX0_liftTop_59 : decode cX0_liftTop 59 = .ok (.getfield 30, 3) := by decide +kernel
theorem dX0_liftTop_62 : decode cX0_liftTop 62 = .ok (.iload_n 3, 1) := by decide +kernel
theorem dX0_liftTop_63 : decode cX0_liftTop 63 = .ok (.aaload, 1) := by decide +kernel
theorem dX0_liftTop_64 : decode cX0_liftTop 64 = .ok (.astore 4, 2) := by decide +kernel
theorem dX0_liftTop_66 : decode cX0_liftTop 66 = .ok (.aload 4, 2) := by decide +kernel
theorem dX0_liftTop_68 : decode cX0_liftTop 68 = .ok (.getfield 99, 3) := by decide +kernel
theorem ab_k219_0 (K : ab_Kt) : ∀ q ∈ ab_l219_0, ab_OK K ab_mt ab_g219 q.1 q.2 := by
  unfold ab_l219_0
  exact List.forall_mem_cons.mpr ⟨ab_aload_n_ok dX0_liftTop_0 rfl, List.forall_mem_cons.mpr ⟨ab_getf_ok (C := RX0) (T := TX0) (N := 5) (ci := 4) (k := 0) dX0_liftTop_1 rfl ab_ic4 (by decide) ab_w698, List.forall_mem_cons.mpr ⟨ab_iload_n_ok dX0_liftTop_4 rfl, List.forall_mem_cons.mpr ⟨ab_callV_ok' (G' := ab_g248) (C := RX5) (T := TX5) (N := 10) dX0_liftTop_5 ab_m248 rfl rfl (by decide) (by decide) (ab_l4 ab_w1178 ab_w1115 ab_w1116 ab_w328) ab_w1117 rfl ⟨by decide, by decide, by decide +kernel⟩, List.forall_mem_cons.mpr ⟨ab_if_ne_ok dX0_liftTop_8 (by decide), List.forall_mem_cons.mpr ⟨ab_aload_n_ok dX0_liftTop_11 rfl, List.forall_mem_cons.mpr ⟨ab_iconst_ok dX0_liftTop_12 (by decide), List.forall_mem_cons.mpr ⟨ab_iload_n_ok dX0_liftTop_13 rfl, List.forall_mem_cons.mpr ⟨ab_callV_ok' (G' := ab_g256) (C := RX0) (T := TX0) (N := 5) dX0_liftTop_14 ab_m256 rfl rfl (by decide) (by decide) (ab_l4 ab_w1147 ab_w1148 ab_w1149 ab_w313) ab_w1150 rfl ⟨by decide, by decide, by decide +kernel⟩, List.forall_mem_cons.mpr ⟨ab_iret_ok dX0_liftTop_17 rfl, List.forall_mem_cons.mpr ⟨ab_aload_n_ok dX0_liftTop_18 rfl, List.forall_mem_cons.mpr ⟨ab_getf_ok (C := RX0) (T := TX0) (N := 5) (ci := 4) (k := 0) dX0_liftTop_19 rfl ab_ic4 (by decide) ab_w698, List.forall_mem_cons.mpr ⟨ab_getf_ok (C := RX5) (T := TX5) (N := 10) (ci := 9) (k := 1) dX0_liftTop_22 rfl ab_ic9 (by decide) ab_w1179, List.forall_mem_cons.mpr ⟨ab_iload_n_ok dX0_liftTop_25 rfl, List.forall_mem_cons.mpr ⟨ab_aald_ok dX0_liftTop_26 rfl, List.forall_mem_cons.mpr ⟨ab_astore_n_ok dX0_liftTop_27 rfl, List.forall_mem_cons.mpr ⟨ab_aload_n_ok dX0_liftTop_28 rfl, List.forall_mem_cons.mpr ⟨ab_getf_ok (C := RX4) (T := TX4) (N := 2) (ci := 8) (k := 1) dX0_liftTop_29 rfl ab_ic8 (by decide) ab_w1180, List.forall_mem_cons.mpr ⟨ab_if_ne_ok dX0_liftTop_32 (by decide), List.forall_mem_cons.mpr ⟨ab_aload_n_ok dX0_liftTop_35 rfl, List.forall_mem_cons.mpr ⟨ab_bipush_ok dX0_liftTop_36 (by decide), List.forall_mem_cons.mpr ⟨ab_iload_n_ok dX0_liftTop_38 rfl, List.forall_mem_cons.mpr ⟨ab_callV_ok' (G' := ab_g256) (C := RX0) (T := TX0) (N := 5) dX0_liftTop_39 ab_m256 rfl rfl (by decide) (by decide) (ab_l4 ab_w1147 ab_w1148 ab_w1149 ab_w313) ab_w1150 rfl ⟨by decide, by decide, by decide +kernel⟩, List.forall_mem_cons.mpr ⟨ab_iret_ok dX0_liftTop_42 rfl, List.forall_mem_cons.mpr ⟨ab_aload_n_ok dX0_liftTop_43 rfl, List.forall_mem_cons.mpr ⟨ab_getf_ok (C := RX4) (T := TX4) (N := 2) (ci := 8) (k := 0) dX0_liftTop_44 rfl ab_ic8 (by decide) ab_w1181, List.forall_mem_cons.mpr ⟨ab_aload_n_ok dX0_liftTop_47 rfl, List.forall_mem_cons.mpr ⟨ab_getf_ok (C := RX4) (T := TX4) (N := 2) (ci := 8) (k := 1) dX0_liftTop_48 rfl ab_ic8 (by decide) ab_w1180, List.forall_mem_cons.mpr ⟨ab_iconst_ok dX0_liftTop_51 (by decide), List.forall_mem_cons.mpr ⟨ab_isub_ok dX0_liftTop_52, List.forall_mem_cons.mpr ⟨ab_ald0_ok dX0_liftTop_53, List.forall_mem_cons.mpr ⟨ab_istore_n_ok dX0_liftTop_54 rfl, List.forall_mem_cons.mpr ⟨ab_aload_n_ok dX0_liftTop_55 rfl, List.forall_mem_cons.mpr ⟨ab_getf_ok (C := RX0) (T := TX0) (N := 5) (ci := 4) (k := 0) dX0_liftTop_56 rfl ab_ic4 (by decide) ab_w698, List.forall_mem_cons.mpr ⟨ab_getf_ok (C := RX5) (T := TX5) (N := 10) (ci := 9) (k := 0) dX0_liftTop_59 rfl ab_ic9 (by decide) ab_w1159, List.forall_mem_cons.mpr ⟨ab_iload_n_ok dX0_liftTop_62 rfl, List.forall_mem_cons.mpr ⟨ab_aald_ok dX0_liftTop_63 rfl, List.forall_mem_cons.mpr ⟨ab_astore_ok dX0_liftTop_64, List.forall_mem_cons.mpr ⟨ab_aload_ok dX0_liftTop_66, List.forall_mem_cons.mpr ⟨ab_getf_ok (C := RX1) (T := TX1) (N := 13) (ci := 5) (k := 7) dX0_liftTop_68 rfl ab_ic5 (by decide) ab_w1182, fun _ h => absurd h List.not_mem_nil⟩⟩⟩⟩⟩⟩⟩⟩⟩⟩⟩⟩⟩⟩⟩⟩⟩⟩⟩⟩⟩⟩⟩⟩⟩⟩⟩⟩⟩⟩⟩⟩⟩⟩⟩⟩⟩⟩⟩⟩
theorem dX0_liftTop_71 : decode cX0_liftTop 71 = .ok (.ifCond .le 15, 3) := by decide +kernel
theorem dX0_liftTop_74 : decode cX0_liftTop 74 = .ok (.aload_n 0, 1) := by decide +kernel
theorem dX0_liftTop_75 : decode cX0_liftTop 75 = .ok (.bipush 10, 2) := by decide +kernel
theorem dX0_liftTop_77 : decode cX0_liftTop 77 = .ok (.aload 4, 2) := by decide +kernel
theorem dX0_liftTop_79 : decode cX0_liftTop 79 = .ok (.getfield 99, 3) := by decide +kernel
theorem dX0_liftTop_82 : decode cX0_liftTop 82 = .ok (.invokevirtual 22, 3) := by decide +kernel
theorem dX0_liftTop_85 : decode cX0_liftTop 85 = .ok (.ireturn, 1) := by decide +kernel
theorem dX0_liftTop_86 : decode cX0_liftTop 86 = .ok (.aload_n 2, 1) := by decide +kernel
theorem dX0_liftTop_87 : decode cX0_liftTop 87 = .ok (.dup, 1) := by decide +kernel
theorem dX0_liftTop_88 : decode cX0_liftTop 88 = .ok (.getfield 109, 3) := by decide +kernel
theorem dX0_liftTop_91 : decode cX0_liftTop 91 = .ok (.iconst 1, 1) := by decide +kernel
theorem dX0_liftTop_92 : decode cX0_liftTop 92 = .ok (.isub, 1) := by decide +kernel
theorem dX0_liftTop_93 : decode cX0_liftTop 93 = .ok (.putfield 109, 3) := by decide +kernel
theorem dX0_liftTop_96 : decode cX0_liftTop 96 = .ok (.aload 4, 2) := by decide +kernel
theorem dX0_liftTop_98 : decode cX0_liftTop 98 = .ok (.iconst 3, 1) := by decide +kernel
theorem dX0_liftTop_99 : decode cX0_liftTop 99 = .ok (.putfield 93, 3) := by decide +kernel
theorem dX0_liftTop_102 : decode cX0_liftTop 102 = .ok (.iload_n 3, 1) := by decide +kernel
theorem dX0_liftTop_103 : decode cX0_liftTop 103 = .ok (.ireturn, 1) := by decide +kernel
theorem ab_k219_1 (K : ab_Kt) : ∀ q ∈ ab_l219_1, ab_OK K ab_mt ab_g219 q.1 q.2 := by
  unfold ab_l219_1
  exact List.forall_mem_cons.mpr ⟨ab_if_le_ok dX0_liftTop_71 (by decide), List.forall_mem_cons.mpr ⟨ab_aload_n_ok dX0_liftTop_74 rfl, List.forall_mem_cons.mpr ⟨ab_bipush_ok dX0_liftTop_75 (by decide), List.forall_mem_cons.mpr ⟨ab_aload_ok dX0_liftTop_77, List.forall_mem_cons.mpr ⟨ab_getf_ok (C := RX1) (T := TX1) (N := 13) (ci := 5) (k := 7) dX0_liftTop_79 rfl ab_ic5 (by decide) ab_w1182, List.forall_mem_cons.mpr ⟨ab_callV_ok' (G' := ab_g256) (C := RX0) (T := TX0) (N := 5) dX0_liftTop_82 ab_m256 rfl rfl (by decide) (by decide) (ab_l4 ab_w1147 ab_w1148 ab_w1149 ab_w313) ab_w1150 rfl ⟨by decide, by decide, by decide +kernel⟩, List.forall_mem_cons.mpr ⟨ab_iret_ok dX0_liftTop_85 rfl, List.forall_mem_cons.mpr ⟨ab_aload_n_ok dX0_liftTop_86 rfl, List.forall_mem_cons.mpr ⟨ab_dup_ok dX0_liftTop_87, List.forall_mem_cons.mpr ⟨ab_getf_ok (C := RX4) (T := TX4) (N := 2) (ci := 8) (k := 1) dX0_liftTop_88 rfl ab_ic8 (by decide) ab_w1180, List.forall_mem_cons.mpr ⟨ab_iconst_ok dX0_liftTop_91 (by decide), List.forall_mem_cons.mpr ⟨ab_isub_ok dX0_liftTop_92, List.forall_mem_cons.mpr ⟨ab_putf_ok (C := RX4) (T := TX4) (N := 2) (ci := 8) (k := 1) (ty0 := tyX4) dX0_liftTop_93 rfl ab_ic8 tyX4_ok nmX4 (by decide) ab_w1180 rfl (Or.inl rfl), List.forall_mem_cons.mpr ⟨ab_aload_ok dX0_liftTop_96, List.forall_mem_cons.mpr ⟨ab_iconst_ok dX0_liftTop_98 (by decide), List.forall_mem_cons.mpr ⟨ab_putf_ok (C := RX1) (T := TX1) (N := 13) (ci := 5) (k := 2) (ty0 := tyX1) dX0_liftTop_99 rfl ab_ic5 tyX1_ok nmX1 (by decide) ab_w1166 rfl (Or.inl rfl), List.forall_mem_cons.mpr ⟨ab_iload_n_ok dX0_liftTop_102 rfl, List.forall_mem_cons.mpr ⟨ab_iret_ok dX0_liftTop_103 rfl, fun _ h => absurd h List.not_mem_nil⟩⟩⟩⟩⟩⟩⟩⟩⟩⟩⟩⟩⟩⟩⟩⟩⟩⟩
theorem ab_k219 (K : ab_Kt) : ∀ pc, ab_OK K ab_mt ab_g219 pc (ab_c219 pc) := ab_lk2_ok _ (List.forall_mem_cons.mpr ⟨ab_k219_0 K, List.forall_mem_cons.mpr ⟨ab_k219_1 K, fun _ h => absurd h List.not_mem_nil⟩⟩)
theorem dX0_layInPress_0 : decode cX0_layInPress 0 = .ok (.aload_n 0, 1) := by decide +kernel
theorem dX0_layInPress_1 : decode cX0_layInPress 1 = .ok (.getfield 12, 3) := by decide +kernel
theorem dX0_layInPress_4 : decode cX0_layInPress 4 = .ok (.iload_n 1, 1) := by decide +kernel
theorem dX0_layInPress_5 : decode cX0_layInPress 5 = .ok (.invokevirtual 86, 3) := by decide +kernel
theorem dX0_layInPress_8 : decode cX0_layInPress 8 = .ok (.ifCond .ne 10, 3) := by decide +kernel
theorem dX0_layInPress_11 : decode cX0_layInPress 11 = .ok (.aload_n 0, 1) := by decide +kernel
theorem dX0_layInPress_12 : decode cX0_layInPress 12 = .ok (.iconst 3, 1) := by decide +kernel
theorem dX0_layInPress_13 : decode cX0_layInPress 13 = .ok (.iload_n 1, 1) := by decide +kernel
theorem dX0_layInPress_14 : decode cX0_layInPress 14 = .ok (.invokevirtual 22, 3) := by decide +kernel
theorem dX0_layInPress_17 : decode cX0_layInPress 17 = .ok (.ireturn, 1) := by decide +kernel
theorem dX0_layInPress_18 : decode cX0_layInPress 18 = .ok (.aload_n 0, 1) := by decide +kernel
theorem dX0_layInPress_19 : decode cX0_layInPress 19 = .ok (.getfield 12, 3) := by decide +kernel
theorem dX0_layInPress_22 : decode cX0_layInPress 22 = .ok (.iload_n 2, 1) := by decide +kernel
theorem dX0_layInPress_23 : decode cX0_layInPress 23 = .ok (.invokevirtual 102, 3) := by decide +kernel
theorem dX0_layInPress_26 : decode cX0_layInPress 26 = .ok (.ifCond .ne 10, 3) := by decide +kernel
theorem dX0_layInPress_29 : decode cX0_layInPress 29 = .ok (.aload_n 0, 1) := by decide +kernel
theorem dX0_layInPress_30 : decode cX0_layInPress 30 = .ok (.iconst 3, 1) := by decide +kernel
theorem dX0_layInPress_31 : decode cX0_layInPress 31 = .ok (.iload_n 2, 1) := by decide +kernel
theorem dX0_layInPress_32 : decode cX0_layInPress 32 = .ok (.invokevirtual 22, 3) := by decide +kernel
theorem dX0_layInPress_35 : decode cX0_layInPress 35 = .ok (.ireturn, 1) := by decide +kernel
theorem dX0_layInPress_36 : decode cX0_layInPress 36 = .ok (.aload_n 0, 1) := by decide +kernel
theorem dX0_layInPress_37 : decode cX0_layInPress 37 = .ok (.iload_n 1, 1) := by decide +kernel
theorem dX0_layInPress_38 : decode cX0_layInPress 38 = .ok (.iconst 1, 1) := by decide +kernel
theorem dX0_layInPress_39 : decode cX0_layInPress 39 = .ok (.invokevirtual 69, 3) := by decide +kernel
theorem dX0_layInPress_42 : decode cX0_layInPress 42 = .ok (.ifCond .eq 5, 3) := by decide +kernel
theorem dX0_layInPress_45 : decode cX0_layInPress 45 = .ok (.iconst (-1), 1) := by decide +kernel
theorem dX0_layInPress_46 : decode cX0_layInPress 46 = .ok (.ireturn, 1) := by decide +kernel
theorem dX0_layInPress_47 : decode cX0_layInPress 47 = .ok (.aload_n 0, 1) := by decide +kernel
theorem dX0_layInPress_48 : decode cX0_layInPress 48 = .ok (.getfield 12, 3) := by decide +kernel
theorem dX0_layInPress_51 : decode cX0_layInPress 51 = .ok (.getfield 105, 3) := by decide +kernel
theorem dX0_layInPress_54 : decode cX0_layInPress 54 = .ok (.iload_n 2, 1) := by decide +kernel
theorem dX0_layInPress_55 : decode cX0_layInPress 55 = .ok (.aaload, 1) := by decide +kernel
theorem dX0_layInPress_56 : decode cX0_layInPress 56 = .ok (.astore_n 3, 1) := by decide +kernel
theorem dX0_layInPress_57 : decode cX0_layInPress 57 = .ok (.aload_n 3, 1) := by decide +kernel
theorem dX0_layInPress_58 : decode cX0_layInPress 58 = .ok (.getfield 109, 3) := by decide +kernel
theorem dX0_layInPress_61 : decode cX0_layInPress 61 = .ok (.iconst 3, 1) := by decide +kernel
theorem dX0_layInPress_62 : decode cX0_layInPress 62 = .ok (.if_icmp .lt 10, 3) := by decide +kernel
theorem dX0_layInPress_65 : decode cX0_layInPress 65 = .ok (.aload_n 0, 1) := by decide +kernel
theorem dX0_layInPress_66 : decode cX0_layInPress 66 = .ok (.iconst 2, 1) := by decide +kernel
theorem dX0_layInPress_67 : decode cX0_layInPress 67 = .ok (.iconst 3, 1) := by decide +kernel
theorem ab_k220_0 (K : ab_Kt) : ∀ q ∈ ab_l220_0, ab_OK K ab_mt ab_g220 q.1 q.2 := by
  unfold ab_l220_0
  exact List.forall_mem_cons.mpr ⟨ab_aload_n_ok dX0_layInPress_0 rfl, List.forall_mem_cons.mpr ⟨ab_getf_ok (C := RX0) (T := TX0) (N := 5) (ci := 4) (k := 0) dX0_layInPress_1 rfl ab_ic4 (by decide) ab_w698, List.forall_mem_cons.mpr ⟨ab_iload_n_ok dX0_layInPress_4 rfl, List.forall_mem_cons.mpr ⟨ab_callV_ok' (G' := ab_g230) (C := RX5) (T := TX5) (N := 10) dX0_layInPress_5 ab_m230 rfl rfl (by decide) (by decide) (ab_l4 ab_w1183 ab_w1031 ab_w1032 ab_w328) ab_w1033 rfl ⟨by decide, by decide, by decide +kernel⟩, List.forall_mem_cons.mpr ⟨ab_if_ne_ok dX0_layInPress_8 (by decide), List.forall_mem_cons.mpr ⟨ab_aload_n_ok dX0_layInPress_11 rfl, List.forall_mem_cons.mpr ⟨ab_iconst_ok dX0_layInPress_12 (by decide), List.forall_mem_cons.mpr ⟨ab_iload_n_ok dX0_layInPress_13 rfl, List.forall_mem_cons.mpr ⟨ab_callV_ok' (G' := ab_g256) (C := RX0) (T := TX0) (N := 5) dX0_layInPress_14 ab_m256 rfl rfl (by decide) (by decide) (ab_l4 ab_w1147 ab_w1148 ab_w1149 ab_w313) ab_w1150 rfl ⟨by decide, by decide, by decide +kernel⟩, List.forall_mem_cons.mpr ⟨ab_iret_ok dX0_layInPress_17 rfl, List.forall_mem_cons.mpr ⟨ab_aload_n_ok dX0_layInPress_18 rfl, List.forall_mem_cons.mpr ⟨ab_getf_ok (C := RX0) (T := TX0) (N := 5) (ci := 4) (k := 0) dX0_layInPress_19 rfl ab_ic4 (by decide) ab_w698, List.forall_mem_cons.mpr ⟨ab_iload_n_ok dX0_layInPress_22 rfl, List.forall_mem_cons.mpr ⟨ab_callV_ok' (G' := ab_g248) (C := RX5) (T := TX5) (N := 10) dX0_layInPress_23 ab_m248 rfl rfl (by decide) (by decide) (ab_l4 ab_w1178 ab_w1115 ab_w1116 ab_w328) ab_w1117 rfl ⟨by decide, by decide, by decide +kernel⟩, List.forall_mem_cons.mpr ⟨ab_if_ne_ok dX0_layInPress_26 (by decide), List.forall_mem_cons.mpr ⟨ab_aload_n_ok dX0_layInPress_29 rfl, List.forall_mem_cons.mpr ⟨ab_iconst_ok dX0_layInPress_30 (by decide), List.forall_mem_cons.mpr ⟨ab_iload_n_ok dX0_layInPress_31 rfl, List.forall_mem_cons.mpr ⟨ab_callV_ok' (G' := ab_g256) (C := RX0) (T := TX0) (N := 5) dX0_layInPress_32 ab_m256 rfl rfl (by decide) (by decide) (ab_l4 ab_w1147 ab_w1148 ab_w1149 ab_w313) ab_w1150 rfl ⟨by decide, by decide, by decide +kernel⟩, List.forall_mem_cons.mpr ⟨ab_iret_ok dX0_layInPress_35 rfl, List.forall_mem_cons.mpr ⟨ab_aload_n_ok dX0_layInPress_36 rfl, List.forall_mem_cons.mpr ⟨ab_iload_n_ok dX0_layInPress_37 rfl, List.forall_mem_cons.mpr ⟨ab_iconst_ok dX0_layInPress_38 (by decide), List.forall_mem_cons.mpr ⟨ab_callV_ok' (G' := ab_g258) (C := RX0) (T := TX0) (N := 5) dX0_layInPress_39 ab_m258 rfl rfl (by decide) (by decide) (ab_l4 ab_w1155 ab_w1156 ab_w1157 ab_w313) ab_w1158 rfl ⟨by decide, by decide, by decide +kernel⟩, List.forall_mem_cons.mpr ⟨ab_if_eq_ok dX0_layInPress_42 (by decide), List.forall_mem_cons.mpr ⟨ab_iconst_ok dX0_layInPress_45 (by decide), List.forall_mem_cons.mpr ⟨ab_iret_ok dX0_layInPress_46 rfl, List.forall_mem_cons.mpr ⟨ab_aload_n_ok dX0_layInPress_47 rfl, List.forall_mem_cons.mpr ⟨ab_getf_ok (C := RX0) (T := TX0) (N := 5) (ci := 4) (k := 0) dX0_layInPress_48 rfl ab_ic4 (by decide) ab_w698, List.forall_mem_cons.mpr ⟨ab_getf_ok (C := RX5) (T := TX5) (N := 10) (ci := 9) (k := 1) dX0_layInPress_51 rfl ab_ic9 (by decide) ab_w1179, List.forall_mem_cons.mpr ⟨ab_iload_n_ok dX0_layInPress_54 rfl, List.forall_mem_cons.mpr ⟨ab_aald_ok dX0_layInPress_55 rfl, List.forall_mem_cons.mpr ⟨ab_astore_n_ok dX0_layInPress_56 rfl, List.forall_mem_cons.mpr ⟨ab_aload_n_ok dX0_layInPress_57 rfl, List.forall_mem_cons.mpr ⟨ab_getf_ok (C := RX4) (T := TX4) (N := 2) (ci := 8) (k := 1) dX0_layInPress_58 rfl ab_ic8 (by decide) ab_w1180, List.forall_mem_cons.mpr ⟨ab_iconst_ok dX0_layInPress_61 (by decide), List.forall_mem_cons.mpr ⟨ab_icmp_lt_ok dX0_layInPress_62 (by decide), List.forall_mem_cons.mpr ⟨ab_aload_n_ok dX0_layInPress_65 rfl, List.forall_mem_cons.mpr ⟨ab_iconst_ok dX0_layInPress_66 (by decide), List.forall_mem_cons.mpr ⟨ab_iconst_ok dX0_layInPress_67 (by decide), fun _ h => absurd h List.not_mem_nil⟩⟩⟩⟩⟩⟩⟩⟩⟩⟩⟩⟩⟩⟩⟩⟩⟩⟩⟩⟩⟩⟩⟩⟩⟩⟩⟩⟩⟩⟩⟩⟩⟩⟩⟩⟩⟩⟩⟩⟩
theorem dX0_layInPress_68 : decode cX0_layInPress 68 = .ok (.invokevirtual 22, 3) := by decide +kernel
theorem dX0_layInPress_71 : decode cX0_layInPress 71 = .ok (.ireturn, 1) := by decide +kernel
theorem dX0_layInPress_72 : decode cX0_layInPress 72 = .ok (.aload_n 3, 1) := by decide +kernel
theorem dX0_layInPress_73 : decode cX0_layInPress 73 = .ok (.getfield 114, 3) := by decide +kernel
theorem dX0_layInPress_76 : decode cX0_layInPress 76 = .ok (.aload_n 3, 1) := by decide +kernel
theorem dX0_layInPress_77 : decode cX0_layInPress 77 = .ok (.getfield 109, 3) := by decide +kernel
theorem dX0_layInPress_80 : decode cX0_layInPress 80 = .ok (.iload_n 1, 1) := by decide +kernel
theorem dX0_layInPress_81 : decode cX0_layInPress 81 = .ok (.iastore, 1) := by decide +kernel
theorem dX0_layInPress_82 : decode cX0_layInPress 82 = .ok (.aload_n 3, 1) := by decide +kernel
theorem dX0_layInPress_83 : decode cX0_layInPress 83 = .ok (.dup, 1) := by decide +kernel
theorem dX0_layInPress_84 : decode cX0_layInPress 84 = .ok (.getfield 109, 3) := by decide +kernel
theorem dX0_layInPress_87 : decode cX0_layInPress 87 = .ok (.iconst 1, 1) := by decide +kernel
theorem dX0_layInPress_88 : decode cX0_layInPress 88 = .ok (.iadd, 1) := by decide +kernel
theorem dX0_layInPress_89 : decode cX0_layInPress 89 = .ok (.putfield 109, 3) := by decide +kernel
theorem dX0_layInPress_92 : decode cX0_layInPress 92 = .ok (.aload_n 0, 1) := by decide +kernel
theorem dX0_layInPress_93 : decode cX0_layInPress 93 = .ok (.getfield 12, 3) := by decide +kernel
theorem dX0_layInPress_96 : decode cX0_layInPress 96 = .ok (.getfield 30, 3) := by decide +kernel
theorem dX0_layInPress_99 : decode cX0_layInPress 99 = .ok (.iload_n 1, 1) := by decide +kernel
theorem dX0_layInPress_100 : decode cX0_layInPress 100 = .ok (.aaload, 1) := by decide +kernel
theorem dX0_layInPress_101 : decode cX0_layInPress 101 = .ok (.iconst 2, 1) := by decide +kernel
theorem dX0_layInPress_102 : decode cX0_layInPress 102 = .ok (.putfield 93, 3) := by decide +kernel
theorem dX0_layInPress_105 : decode cX0_layInPress 105 = .ok (.aload_n 3, 1) := by decide +kernel
theorem dX0_layInPress_106 : decode cX0_layInPress 106 = .ok (.getfield 109, 3) := by decide +kernel
theorem dX0_layInPress_109 : decode cX0_layInPress 109 = .ok (.ireturn, 1) := by decide +kernel
theorem ab_k220_1 (K : ab_Kt) : ∀ q ∈ ab_l220_1, ab_OK K ab_mt ab_g220 q.1 q.2 := by
  unfold ab_l220_1
  exact List.forall_mem_cons.mpr ⟨ab_callV_ok' (G' := ab_g256) (C := RX0) (T := TX0) (N := 5) dX0_layInPress_68 ab_m256 rfl rfl (by decide) (by decide) (ab_l4 ab_w1147 ab_w1148 ab_w1149 ab_w313) ab_w1150 rfl ⟨by decide, by decide, by decide +kernel⟩, List.forall_mem_cons.mpr ⟨ab_iret_ok dX0_layInPress_71 rfl, List.forall_mem_cons.mpr ⟨ab_aload_n_ok dX0_layInPress_72 rfl, List.forall_mem_cons.mpr ⟨ab_getf_ok (C := RX4) (T := TX4) (N := 2) (ci := 8) (k := 0) dX0_layInPress_73 rfl ab_ic8 (by decide) ab_w1181, List.forall_mem_cons.mpr ⟨ab_aload_n_ok dX0_layInPress_76 rfl, List.forall_mem_cons.mpr ⟨ab_getf_ok (C := RX4) (T := TX4) (N := 2) (ci := 8) (k := 1) dX0_layInPress_77 rfl ab_ic8 (by decide) ab_w1180, List.forall_mem_cons.mpr ⟨ab_iload_n_ok dX0_layInPress_80 rfl, List.forall_mem_cons.mpr ⟨ab_ast0_ok dX0_layInPress_81, List.forall_mem_cons.mpr ⟨ab_aload_n_ok dX0_layInPress_82 rfl, List.forall_mem_cons.mpr ⟨ab_dup_ok dX0_layInPress_83, List.forall_mem_cons.mpr ⟨ab_getf_ok (C := RX4) (T := TX4) (N := 2) (ci := 8) (k := 1) dX0_layInPress_84 rfl ab_ic8 (by decide) ab_w1180, List.forall_mem_cons.mpr ⟨ab_iconst_ok dX0_layInPress_87 (by decide), List.forall_mem_cons.mpr ⟨ab_iadd_ok dX0_layInPress_88, List.forall_mem_cons.mpr ⟨ab_putf_ok (C := RX4) (T := TX4) (N := 2) (ci := 8) (k := 1) (ty0 := tyX4) dX0_layInPress_89 rfl ab_ic8 tyX4_ok nmX4 (by decide) ab_w1180 rfl (Or.inl rfl), List.forall_mem_cons.mpr ⟨ab_aload_n_ok dX0_layInPress_92 rfl, List.forall_mem_cons.mpr ⟨ab_getf_ok (C := RX0) (T := TX0) (N := 5) (ci := 4) (k := 0) dX0_layInPress_93 rfl ab_ic4 (by decide) ab_w698, List.forall_mem_cons.mpr ⟨ab_getf_ok (C := RX5) (T := TX5) (N := 10) (ci := 9) (k := 0) dX0_layInPress_96 rfl ab_ic9 (by decide) ab_w1159, List.forall_mem_cons.mpr ⟨ab_iload_n_ok dX0_layInPress_99 rfl, List.forall_mem_cons.mpr ⟨ab_aald_ok dX0_layInPress_100 rfl, List.forall_mem_cons.mpr ⟨ab_iconst_ok dX0_layInPress_101 (by decide), List.forall_mem_cons.mpr ⟨ab_putf_ok (C := RX1) (T := TX1) (N := 13) (ci := 5) (k := 2) (ty0 := tyX1) dX0_layInPress_102 rfl ab_ic5 tyX1_ok nmX1 (by decide) ab_w1166 rfl (Or.inl rfl), List.forall_mem_cons.mpr ⟨ab_aload_n_ok dX0_layInPress_105 rfl, List.forall_mem_cons.mpr ⟨ab_getf_ok (C := RX4) (T := TX4) (N := 2) (ci := 8) (k := 1) dX0_layInPress_106 rfl ab_ic8 (by decide) ab_w1180, List.forall_mem_cons.mpr ⟨ab_iret_ok dX0_layInPress_109 rfl, fun _ h => absurd h List.not_mem_nil⟩⟩⟩⟩⟩⟩⟩⟩⟩⟩⟩⟩⟩⟩⟩⟩⟩⟩⟩⟩⟩⟩⟩⟩
theorem ab_k220 (K : ab_Kt) : ∀ pc, ab_OK K ab_mt ab_g220 pc (ab_c220 pc) := ab_lk2_ok _ (List.forall_mem_cons.mpr ⟨ab_k220_0 K, List.forall_mem_cons.mpr ⟨ab_k220_1 K, fun _ h => absurd h List.not_mem_nil⟩⟩)
theorem dX0_applyGlue_0 : decode cX0_applyGlue 0 = .ok (.aload_n 0, 1) := by decide +kernel
theorem dX0_applyGlue_1 : decode cX0_applyGlue 1 = .ok (.getfield 12, 3) := by decide +kernel
theorem dX0_applyGlue_4 : decode cX0_applyGlue 4 = .ok (.iload_n 1, 1) := by decide +kernel
theorem dX0_applyGlue_5 : decode cX0_applyGlue 5 = .ok (.invokevirtual 86, 3) := by decide +kernel
theorem dX0_applyGlue_8 : decode cX0_applyGlue 8 = .ok (.ifCond .ne 10, 3) := by decide +kernel
theorem dX0_applyGlue_11 : decode cX0_applyGlue 11 = .ok (.aload_n 0, 1) := by decide +kernel
theorem dX0_applyGlue_12 : decode cX0_applyGlue 12 = .ok (.iconst 3, 1) := by decide +kernel
theorem dX0_applyGlue_13 : decode cX0_applyGlue 13 = .ok (.iload_n 1, 1) := by decide +kernel
theorem dX0_applyGlue_14 : decode cX0_applyGlue 14 = .ok (.invokevirtual 22, 3) := by decide +kernel
theorem dX0_applyGlue_17 : decode cX0_applyGlue 17 = .ok (.ireturn, 1) := by decide +kernel
theorem dX0_applyGlue_18 : decode cX0_applyGlue 18 = .ok (.iload_n 2, 1) := by decide +kernel
theorem dX0_applyGlue_19 : decode cX0_applyGlue 19 = .ok (.ifCond .lt 11, 3) := by decide +kernel
theorem dX0_applyGlue_22 : decode cX0_applyGlue 22 = .ok (.iload_n 2, 1) := by decide +kernel
theorem dX0_applyGlue_23 : decode cX0_applyGlue 23 = .ok (.getstatic 89, 3) := by decide +kernel
theorem dX0_applyGlue_26 : decode cX0_applyGlue 26 = .ok (.arraylength, 1) := by decide +kernel
theorem dX0_applyGlue_27 : decode cX0_applyGlue 27 = .ok (.if_icmp .lt 10, 3) := by decide +kernel
theorem dX0_applyGlue_30 : decode cX0_applyGlue 30 = .ok (.aload_n 0, 1) := by decide +kernel
theorem dX0_applyGlue_31 : decode cX0_applyGlue 31 = .ok (.iconst 3, 1) := by decide +kernel
theorem dX0_applyGlue_32 : decode cX0_applyGlue 32 = .ok (.iload_n 2, 1) := by decide +kernel
theorem dX0_applyGlue_33 : decode cX0_applyGlue 33 = .ok (.invokevirtual 22, 3) := by decide +kernel
theorem dX0_applyGlue_36 : decode cX0_applyGlue 36 = .ok (.ireturn, 1) := by decide +kernel
theorem dX0_applyGlue_37 : decode cX0_applyGlue 37 = .ok (.aload_n 0, 1) := by decide +kernel
theorem dX0_applyGlue_38 : decode cX0_applyGlue 38 = .ok (.iload_n 1, 1) := by decide +kernel
theorem dX0_applyGlue_39 : decode cX0_applyGlue 39 = .ok (.iconst 0, 1) := by decide +kernel
theorem dX0_applyGlue_40 : decode cX0_applyGlue 40 = .ok (.invokevirtual 69, 3) := by decide +kernel
theorem dX0_applyGlue_43 : decode cX0_applyGlue 43 = .ok (.ifCond .eq 5, 3) := by decide +kernel
theorem dX0_applyGlue_46 : decode cX0_applyGlue 46 = .ok (.iconst (-1), 1) := by decide +kernel
theorem dX0_applyGlue_47 : decode cX0_applyGlue 47 = .ok (.ireturn, 1) := by decide +kernel
theorem dX0_applyGlue_48 : decode cX0_applyGlue 48 = .ok (.aload_n 0, 1) := by decide +kernel
theorem dX0_applyGlue_49 : decode cX0_applyGlue 49 = .ok (.getfield 12, 3) := by decide +kernel
theorem dX0_applyGlue_52 : decode cX0_applyGlue 52 = .ok (.getfield 30, 3) := by decide +kernel
theorem dX0_applyGlue_55 : decode cX0_applyGlue 55 = .ok (.iload_n 1, 1) := by decide +kernel
theorem dX0_applyGlue_56 : decode cX0_applyGlue 56 = .ok (.aaload, 1) := by decide +kernel
theorem dX0_applyGlue_57 : decode cX0_applyGlue 57 = .ok (.astore_n 3, 1) := by decide +kernel
theorem dX0_applyGlue_58 : decode cX0_applyGlue 58 = .ok (.aload_n 3, 1) := by decide +kernel
theorem dX0_applyGlue_59 : decode cX0_applyGlue 59 = .ok (.getfield 44, 3) := by decide +kernel
theorem dX0_applyGlue_62 : decode cX0_applyGlue 62 = .ok (.ifCond .ne 11, 3) := by decide +kernel
theorem dX0_applyGlue_65 : decode cX0_applyGlue 65 = .ok (.aload_n 0, 1) := by decide +kernel
theorem dX0_applyGlue_66 : decode cX0_applyGlue 66 = .ok (.bipush 9, 2) := by decide +kernel
theorem dX0_applyGlue_68 : decode cX0_applyGlue 68 = .ok (.iconst 0, 1) := by decide +kernel
theorem ab_k221_0 (K : ab_Kt) : ∀ q ∈ ab_l221_0, ab_OK K ab_mt ab_g221 q.1 q.2 := by
  unfold ab_l221_0
  exact List.forall_mem_cons.mpr ⟨ab_aload_n_ok dX0_applyGlue_0 rfl, List.forall_mem_cons.mpr ⟨ab_getf_ok (C := RX0) (T := TX0) (N := 5) (ci := 4) (k := 0) dX0_applyGlue_1 rfl ab_ic4 (by decide) ab_w698, List.forall_mem_cons.mpr ⟨ab_iload_n_ok dX0_applyGlue_4 rfl, List.forall_mem_cons.mpr ⟨ab_callV_ok' (G' := ab_g230) (C := RX5) (T := TX5) (N := 10) dX0_applyGlue_5 ab_m230 rfl rfl (by decide) (by decide) (ab_l4 ab_w1183 ab_w1031 ab_w1032 ab_w328) ab_w1033 rfl ⟨by decide, by decide, by decide +kernel⟩, List.forall_mem_cons.mpr ⟨ab_if_ne_ok dX0_applyGlue_8 (by decide), List.forall_mem_cons.mpr ⟨ab_aload_n_ok dX0_applyGlue_11 rfl, List.forall_mem_cons.mpr ⟨ab_iconst_ok dX0_applyGlue_12 (by decide), List.forall_mem_cons.mpr ⟨ab_iload_n_ok dX0_applyGlue_13 rfl, List.forall_mem_cons.mpr ⟨ab_callV_ok' (G' := ab_g256) (C := RX0) (T := TX0) (N := 5) dX0_applyGlue_14 ab_m256 rfl rfl (by decide) (by decide) (ab_l4 ab_w1147 ab_w1148 ab_w1149 ab_w313) ab_w1150 rfl ⟨by decide, by decide, by decide +kernel⟩, List.forall_mem_cons.mpr ⟨ab_iret_ok dX0_applyGlue_17 rfl, List.forall_mem_cons.mpr ⟨ab_iload_n_ok dX0_applyGlue_18 rfl, List.forall_mem_cons.mpr ⟨ab_if_lt_ok dX0_applyGlue_19 (by decide), List.forall_mem_cons.mpr ⟨ab_iload_n_ok dX0_applyGlue_22 rfl, List.forall_mem_cons.mpr ⟨ab_gmin_ok (host := "BookBindery") dX0_applyGlue_23 (by simp [ab_nw]; decide), List.forall_mem_cons.mpr ⟨ab_lmin_ok dX0_applyGlue_26, List.forall_mem_cons.mpr ⟨ab_icmp_lt_ok dX0_applyGlue_27 (by decide), List.forall_mem_cons.mpr ⟨ab_aload_n_ok dX0_applyGlue_30 rfl, List.forall_mem_cons.mpr ⟨ab_iconst_ok dX0_applyGlue_31 (by decide), List.forall_mem_cons.mpr ⟨ab_iload_n_ok dX0_applyGlue_32 rfl, List.forall_mem_cons.mpr ⟨ab_callV_ok' (G' := ab_g256) (C := RX0) (T := TX0) (N := 5) dX0_applyGlue_33 ab_m256 rfl rfl (by decide) (by decide) (ab_l4 ab_w1147 ab_w1148 ab_w1149 ab_w313) ab_w1150 rfl ⟨by decide, by decide, by decide +kernel⟩, List.forall_mem_cons.mpr ⟨ab_iret_ok dX0_applyGlue_36 rfl, List.forall_mem_cons.mpr ⟨ab_aload_n_ok dX0_applyGlue_37 rfl, List.forall_mem_cons.mpr ⟨ab_iload_n_ok dX0_applyGlue_38 rfl, List.forall_mem_cons.mpr ⟨ab_iconst_ok dX0_applyGlue_39 (by decide), List.forall_mem_cons.mpr ⟨ab_callV_ok' (G' := ab_g258) (C := RX0) (T := TX0) (N := 5) dX0_applyGlue_40 ab_m258 rfl rfl (by decide) (by decide) (ab_l4 ab_w1155 ab_w1156 ab_w1157 ab_w313) ab_w1158 rfl ⟨by decide, by decide, by decide +kernel⟩, List.forall_mem_cons.mpr ⟨ab_if_eq_ok dX0_applyGlue_43 (by decide), List.forall_mem_cons.mpr ⟨ab_iconst_ok dX0_applyGlue_46 (by decide), List.forall_mem_cons.mpr ⟨ab_iret_ok dX0_applyGlue_47 rfl, List.forall_mem_cons.mpr ⟨ab_aload_n_ok dX0_applyGlue_48 rfl, List.forall_mem_cons.mpr ⟨ab_getf_ok (C := RX0) (T := TX0) (N := 5) (ci := 4) (k := 0) dX0_applyGlue_49 rfl ab_ic4 (by decide) ab_w698, List.forall_mem_cons.mpr ⟨ab_getf_ok (C := RX5) (T := TX5) (N := 10) (ci := 9) (k := 0) dX0_applyGlue_52 rfl ab_ic9 (by decide) ab_w1159, List.forall_mem_cons.mpr ⟨ab_iload_n_ok dX0_applyGlue_55 rfl, List.forall_mem_cons.mpr ⟨ab_aald_ok dX0_applyGlue_56 rfl, List.forall_mem_cons.mpr ⟨ab_astore_n_ok dX0_applyGlue_57 rfl, List.forall_mem_cons.mpr ⟨ab_aload_n_ok dX0_applyGlue_58 rfl, List.forall_mem_cons.mpr ⟨ab_getf_ok (C := RX1) (T := TX1) (N := 13) (ci := 5) (k := 3) dX0_applyGlue_59 rfl ab_ic5 (by decide) ab_w1184, List.forall_mem_cons.mpr ⟨ab_if_ne_ok dX0_applyGlue_62 (by decide), List.forall_mem_cons.mpr ⟨ab_aload_n_ok dX0_applyGlue_65 rfl, List.forall_mem_cons.mpr ⟨ab_bipush_ok dX0_applyGlue_66 (by decide), List.forall_mem_cons.mpr ⟨ab_iconst_ok dX0_applyGlue_68 (by decide), fun _ h => absurd h List.not_mem_nil⟩⟩⟩⟩⟩⟩⟩⟩⟩⟩⟩⟩⟩⟩⟩⟩⟩⟩⟩⟩⟩⟩⟩⟩⟩⟩⟩⟩⟩⟩⟩⟩⟩⟩⟩⟩⟩⟩⟩⟩
theorem dX0_applyGlue_69 : decode cX0_applyGlue 69 = .ok (.invokevirtual 22, 3) := by decide +kernel
theorem dX0_applyGlue_72 : decode cX0_applyGlue 72 = .ok (.ireturn, 1) := by decide +kernel
theorem dX0_applyGlue_73 : decode cX0_applyGlue 73 = .ok (.aload_n 3, 1) := by decide +kernel
theorem dX0_applyGlue_74 : decode cX0_applyGlue 74 = .ok (.getfield 73, 3) := by decide +kernel
theorem dX0_applyGlue_77 : decode cX0_applyGlue 77 = .ok (.aload_n 3, 1) := by decide +kernel
theorem dX0_applyGlue_78 : decode cX0_applyGlue 78 = .ok (.getfield 44, 3) := by decide +kernel
theorem dX0_applyGlue_81 : decode cX0_applyGlue 81 = .ok (.if_icmp .ge 14, 3) := by decide +kernel
theorem dX0_applyGlue_84 : decode cX0_applyGlue 84 = .ok (.aload_n 0, 1) := by decide +kernel
theorem dX0_applyGlue_85 : decode cX0_applyGlue 85 = .ok (.bipush 8, 2) := by decide +kernel
theorem dX0_applyGlue_87 : decode cX0_applyGlue 87 = .ok (.aload_n 3, 1) := by decide +kernel
theorem dX0_applyGlue_88 : decode cX0_applyGlue 88 = .ok (.getfield 73, 3) := by decide +kernel
theorem dX0_applyGlue_91 : decode cX0_applyGlue 91 = .ok (.invokevirtual 22, 3) := by decide +kernel
theorem dX0_applyGlue_94 : decode cX0_applyGlue 94 = .ok (.ireturn, 1) := by decide +kernel
theorem dX0_applyGlue_95 : decode cX0_applyGlue 95 = .ok (.aload_n 3, 1) := by decide +kernel
theorem dX0_applyGlue_96 : decode cX0_applyGlue 96 = .ok (.iconst 1, 1) := by decide +kernel
theorem dX0_applyGlue_97 : decode cX0_applyGlue 97 = .ok (.putfield 93, 3) := by decide +kernel
theorem dX0_applyGlue_100 : decode cX0_applyGlue 100 = .ok (.aload_n 3, 1) := by decide +kernel
theorem dX0_applyGlue_101 : decode cX0_applyGlue 101 = .ok (.iload_n 2, 1) := by decide +kernel
theorem dX0_applyGlue_102 : decode cX0_applyGlue 102 = .ok (.putfield 96, 3) := by decide +kernel
theorem dX0_applyGlue_105 : decode cX0_applyGlue 105 = .ok (.aload_n 3, 1) := by decide +kernel
theorem dX0_applyGlue_106 : decode cX0_applyGlue 106 = .ok (.getstatic 89, 3) := by decide +kernel
theorem dX0_applyGlue_109 : decode cX0_applyGlue 109 = .ok (.iload_n 2, 1) := by decide +kernel
theorem dX0_applyGlue_110 : decode cX0_applyGlue 110 = .ok (.iaload, 1) := by decide +kernel
theorem dX0_applyGlue_111 : decode cX0_applyGlue 111 = .ok (.putfield 99, 3) := by decide +kernel
theorem dX0_applyGlue_114 : decode cX0_applyGlue 114 = .ok (.aload_n 3, 1) := by decide +kernel
theorem dX0_applyGlue_115 : decode cX0_applyGlue 115 = .ok (.getfield 99, 3) := by decide +kernel
theorem dX0_applyGlue_118 : decode cX0_applyGlue 118 = .ok (.ireturn, 1) := by decide +kernel
theorem ab_k221_1 (K : ab_Kt) : ∀ q ∈ ab_l221_1, ab_OK K ab_mt ab_g221 q.1 q.2 := by
  unfold ab_l221_1
  exact List.forall_mem_cons.mpr ⟨ab_callV_ok' (G' := ab_g256) (C := RX0) (T := TX0) (N := 5) dX0_applyGlue_69 ab_m256 rfl rfl (by decide) (by decide) (ab_l4 ab_w1147 ab_w1148 ab_w1149 ab_w313) ab_w1150 rfl ⟨by decide, by decide, by decide +kernel⟩, List.forall_mem_cons.mpr ⟨ab_iret_ok dX0_applyGlue_72 rfl, List.forall_mem_cons.mpr ⟨ab_aload_n_ok dX0_applyGlue_73 rfl, List.forall_mem_cons.mpr ⟨ab_getf_ok (C := RX1) (T := TX1) (N := 13) (ci := 5) (k := 4) dX0_applyGlue_74 rfl ab_ic5 (by decide) ab_w1185, List.forall_mem_cons.mpr ⟨ab_aload_n_ok dX0_applyGlue_77 rfl, List.forall_mem_cons.mpr ⟨ab_getf_ok (C := RX1) (T := TX1) (N := 13) (ci := 5) (k := 3) dX0_applyGlue_78 rfl ab_ic5 (by decide) ab_w1184, List.forall_mem_cons.mpr ⟨ab_icmp_ge_ok dX0_applyGlue_81 (by decide), List.forall_mem_cons.mpr ⟨ab_aload_n_ok dX0_applyGlue_84 rfl, List.forall_mem_cons.mpr ⟨ab_bipush_ok dX0_applyGlue_85 (by decide), List.forall_mem_cons.mpr ⟨ab_aload_n_ok dX0_applyGlue_87 rfl, List.forall_mem_cons.mpr ⟨ab_getf_ok (C := RX1) (T := TX1) (N := 13) (ci := 5) (k := 4) dX0_applyGlue_88 rfl ab_ic5 (by decide) ab_w1185, List.forall_mem_cons.mpr ⟨ab_callV_ok' (G' := ab_g256) (C := RX0) (T := TX0) (N := 5) dX0_applyGlue_91 ab_m256 rfl rfl (by decide) (by decide) (ab_l4 ab_w1147 ab_w1148 ab_w1149 ab_w313) ab_w1150 rfl ⟨by decide, by decide, by decide +kernel⟩, List.forall_mem_cons.mpr ⟨ab_iret_ok dX0_applyGlue_94 rfl, List.forall_mem_cons.mpr ⟨ab_aload_n_ok dX0_applyGlue_95 rfl, List.forall_mem_cons.mpr ⟨ab_iconst_ok dX0_applyGlue_96 (by decide), List.forall_mem_cons.mpr ⟨ab_putf_ok (C := RX1) (T := TX1) (N := 13) (ci := 5) (k := 2) (ty0 := tyX1) dX0_applyGlue_97 rfl ab_ic5 tyX1_ok nmX1 (by decide) ab_w1166 rfl (Or.inl rfl), List.forall_mem_cons.mpr ⟨ab_aload_n_ok dX0_applyGlue_100 rfl, List.forall_mem_cons.mpr ⟨ab_iload_n_ok dX0_applyGlue_101 rfl, List.forall_mem_cons.mpr ⟨ab_putf_ok (C := RX1) (T := TX1) (N := 13) (ci := 5) (k := 6) (ty0 := tyX1) dX0_applyGlue_102 rfl ab_ic5 tyX1_ok nmX1 (by decide) ab_w1186 rfl (Or.inl rfl), List.forall_mem_cons.mpr ⟨ab_aload_n_ok dX0_applyGlue_105 rfl, List.forall_mem_cons.mpr ⟨ab_gmin_ok (host := "BookBindery") dX0_applyGlue_106 (by simp [ab_nw]; decide), List.forall_mem_cons.mpr ⟨ab_iload_n_ok dX0_applyGlue_109 rfl, List.forall_mem_cons.mpr ⟨ab_tmin_ok dX0_applyGlue_110, List.forall_mem_cons.mpr ⟨ab_putf_ok (C := RX1) (T := TX1) (N := 13) (ci := 5) (k := 7) (ty0 := tyX1) dX0_applyGlue_111 rfl ab_ic5 tyX1_ok nmX1 (by decide) ab_w1182 rfl (Or.inl rfl), List.forall_mem_cons.mpr ⟨ab_aload_n_ok dX0_applyGlue_114 rfl, List.forall_mem_cons.mpr ⟨ab_getf_ok (C := RX1) (T := TX1) (N := 13) (ci := 5) (k := 7) dX0_applyGlue_115 rfl ab_ic5 (by decide) ab_w1182, List.forall_mem_cons.mpr ⟨ab_iret_ok dX0_applyGlue_118 rfl, fun _ h => absurd h List.not_mem_nil⟩⟩⟩⟩⟩⟩⟩⟩⟩⟩⟩⟩⟩⟩⟩⟩⟩⟩⟩⟩⟩⟩⟩⟩⟩⟩⟩
theorem ab_k221 (K : ab_Kt) : ∀ pc, ab_OK K ab_mt ab_g221 pc (ab_c221 pc) := ab_lk2_ok _ (List.forall_mem_cons.mpr ⟨ab_k221_0 K, List.forall_mem_cons.mpr ⟨ab_k221_1 K, fun _ h => absurd h List.not_mem_nil⟩⟩)
theorem dX0_unpickLatest_0 : decode cX0_unpickLatest 0 = .ok (.aload_n 0, 1) := by decide +kernel
theorem dX0_unpickLatest_1 : decode cX0_unpickLatest 1 = .ok (.iload_n 1, 1) := by decide +kernel
theorem dX0_unpickLatest_2 : decode cX0_unpickLatest 2 = .ok (.iconst 0, 1) := by decide +kernel
theorem dX0_unpickLatest_3 : decode cX0_unpickLatest 3 = .ok (.invokevirtual 69, 3) := by decide +kernel
theorem dX0_unpickLatest_6 : decode cX0_unpickLatest 6 = .ok (.ifCond .eq 5, 3) := by decide +kernel
theorem dX0_unpickLatest_9 : decode cX0_unpickLatest 9 = .ok (.iconst (-1), 1) := by decide +kernel
theorem dX0_unpickLatest_10 : decode cX0_unpickLatest 10 = .ok (.ireturn, 1) := by decide +kernel
theorem dX0_unpickLatest_11 : decode cX0_unpickLatest 11 = .ok (.aload_n 0, 1) := by decide +kernel
theorem dX0_unpickLatest_12 : decode cX0_unpickLatest 12 = .ok (.getfield 12, 3) := by decide +kernel
theorem dX0_unpickLatest_15 : decode cX0_unpickLatest 15 = .ok (.getfield 30, 3) := by decide +kernel
theorem dX0_unpickLatest_18 : decode cX0_unpickLatest 18 = .ok (.iload_n 1, 1) := by decide +kernel
theorem dX0_unpickLatest_19 : decode cX0_unpickLatest 19 = .ok (.aaload, 1) := by decide +kernel
theorem dX0_unpickLatest_20 : decode cX0_unpickLatest 20 = .ok (.astore_n 2, 1) := by decide +kernel
theorem dX0_unpickLatest_21 : decode cX0_unpickLatest 21 = .ok (.aload_n 2, 1) := by decide +kernel
theorem dX0_unpickLatest_22 : decode cX0_unpickLatest 22 = .ok (.getfield 73, 3) := by decide +kernel
theorem dX0_unpickLatest_25 : decode cX0_unpickLatest 25 = .ok (.ifCond .ne 14, 3) := by decide +kernel
theorem dX0_unpickLatest_28 : decode cX0_unpickLatest 28 = .ok (.aload_n 0, 1) := by decide +kernel
theorem dX0_unpickLatest_29 : decode cX0_unpickLatest 29 = .ok (.bipush 6, 2) := by decide +kernel
theorem dX0_unpickLatest_31 : decode cX0_unpickLatest 31 = .ok (.aload_n 2, 1) := by decide +kernel
theorem dX0_unpickLatest_32 : decode cX0_unpickLatest 32 = .ok (.getfield 44, 3) := by decide +kernel
theorem dX0_unpickLatest_35 : decode cX0_unpickLatest 35 = .ok (.invokevirtual 22, 3) := by decide +kernel
theorem dX0_unpickLatest_38 : decode cX0_unpickLatest 38 = .ok (.ireturn, 1) := by decide +kernel
theorem dX0_unpickLatest_39 : decode cX0_unpickLatest 39 = .ok (.aload_n 2, 1) := by decide +kernel
theorem dX0_unpickLatest_40 : decode cX0_unpickLatest 40 = .ok (.dup, 1) := by decide +kernel
theorem dX0_unpickLatest_41 : decode cX0_unpickLatest 41 = .ok (.getfield 73, 3) := by decide +kernel
theorem dX0_unpickLatest_44 : decode cX0_unpickLatest 44 = .ok (.iconst 1, 1) := by decide +kernel
theorem dX0_unpickLatest_45 : decode cX0_unpickLatest 45 = .ok (.isub, 1) := by decide +kernel
theorem dX0_unpickLatest_46 : decode cX0_unpickLatest 46 = .ok (.putfield 73, 3) := by decide +kernel
theorem dX0_unpickLatest_49 : decode cX0_unpickLatest 49 = .ok (.aload_n 0, 1) := by decide +kernel
theorem dX0_unpickLatest_50 : decode cX0_unpickLatest 50 = .ok (.getfield 12, 3) := by decide +kernel
theorem dX0_unpickLatest_53 : decode cX0_unpickLatest 53 = .ok (.dup, 1) := by decide +kernel
theorem dX0_unpickLatest_54 : decode cX0_unpickLatest 54 = .ok (.getfield 83, 3) := by decide +kernel
theorem dX0_unpickLatest_57 : decode cX0_unpickLatest 57 = .ok (.iconst 1, 1) := by decide +kernel
theorem dX0_unpickLatest_58 : decode cX0_unpickLatest 58 = .ok (.iadd, 1) := by decide +kernel
theorem dX0_unpickLatest_59 : decode cX0_unpickLatest 59 = .ok (.putfield 83, 3) := by decide +kernel
theorem dX0_unpickLatest_62 : decode cX0_unpickLatest 62 = .ok (.aload_n 2, 1) := by decide +kernel
theorem dX0_unpickLatest_63 : decode cX0_unpickLatest 63 = .ok (.getfield 73, 3) := by decide +kernel
theorem dX0_unpickLatest_66 : decode cX0_unpickLatest 66 = .ok (.ireturn, 1) := by decide +kernel
theorem ab_k222_0 (K : ab_Kt) : ∀ q ∈ ab_l222_0, ab_OK K ab_mt ab_g222 q.1 q.2 := by
  unfold ab_l222_0
  exact List.forall_mem_cons.mpr ⟨ab_aload_n_ok dX0_unpickLatest_0 rfl, List.forall_mem_cons.mpr ⟨ab_iload_n_ok dX0_unpickLatest_1 rfl, List.forall_mem_cons.mpr ⟨ab_iconst_ok dX0_unpickLatest_2 (by decide), List.forall_mem_cons.mpr ⟨ab_callV_ok' (G' := ab_g258) (C := RX0) (T := TX0) (N := 5) dX0_unpickLatest_3 ab_m258 rfl rfl (by decide) (by decide) (ab_l4 ab_w1155 ab_w1156 ab_w1157 ab_w313) ab_w1158 rfl ⟨by decide, by decide, by decide +kernel⟩, List.forall_mem_cons.mpr ⟨ab_if_eq_ok dX0_unpickLatest_6 (by decide), List.forall_mem_cons.mpr ⟨ab_iconst_ok dX0_unpickLatest_9 (by decide), List.forall_mem_cons.mpr ⟨ab_iret_ok dX0_unpickLatest_10 rfl, List.forall_mem_cons.mpr ⟨ab_aload_n_ok dX0_unpickLatest_11 rfl, List.forall_mem_cons.mpr ⟨ab_getf_ok (C := RX0) (T := TX0) (N := 5) (ci := 4) (k := 0) dX0_unpickLatest_12 rfl ab_ic4 (by decide) ab_w698, List.forall_mem_cons.mpr ⟨ab_getf_ok (C := RX5) (T := TX5) (N := 10) (ci := 9) (k := 0) dX0_unpickLatest_15 rfl ab_ic9 (by decide) ab_w1159, List.forall_mem_cons.mpr ⟨ab_iload_n_ok dX0_unpickLatest_18 rfl, List.forall_mem_cons.mpr ⟨ab_aald_ok dX0_unpickLatest_19 rfl, List.forall_mem_cons.mpr ⟨ab_astore_n_ok dX0_unpickLatest_20 rfl, List.forall_mem_cons.mpr ⟨ab_aload_n_ok dX0_unpickLatest_21 rfl, List.forall_mem_cons.mpr ⟨ab_getf_ok (C := RX1) (T := TX1) (N := 13) (ci := 5) (k := 4) dX0_unpickLatest_22 rfl ab_ic5 (by decide) ab_w1185, List.forall_mem_cons.mpr ⟨ab_if_ne_ok dX0_unpickLatest_25 (by decide), List.forall_mem_cons.mpr ⟨ab_aload_n_ok dX0_unpickLatest_28 rfl, List.forall_mem_cons.mpr ⟨ab_bipush_ok dX0_unpickLatest_29 (by decide), List.forall_mem_cons.mpr ⟨ab_aload_n_ok dX0_unpickLatest_31 rfl, List.forall_mem_cons.mpr ⟨ab_getf_ok (C := RX1) (T := TX1) (N := 13) (ci := 5) (k := 3) dX0_unpickLatest_32 rfl ab_ic5 (by decide) ab_w1184, List.forall_mem_cons.mpr ⟨ab_callV_ok' (G' := ab_g256) (C := RX0) (T := TX0) (N := 5) dX0_unpickLatest_35 ab_m256 rfl rfl (by decide) (by decide) (ab_l4 ab_w1147 ab_w1148 ab_w1149 ab_w313) ab_w1150 rfl ⟨by decide, by decide, by decide +kernel⟩, List.forall_mem_cons.mpr ⟨ab_iret_ok dX0_unpickLatest_38 rfl, List.forall_mem_cons.mpr ⟨ab_aload_n_ok dX0_unpickLatest_39 rfl, List.forall_mem_cons.mpr ⟨ab_dup_ok dX0_unpickLatest_40, List.forall_mem_cons.mpr ⟨ab_getf_ok (C := RX1) (T := TX1) (N := 13) (ci := 5) (k := 4) dX0_unpickLatest_41 rfl ab_ic5 (by decide) ab_w1185, List.forall_mem_cons.mpr ⟨ab_iconst_ok dX0_unpickLatest_44 (by decide), List.forall_mem_cons.mpr ⟨ab_isub_ok dX0_unpickLatest_45, List.forall_mem_cons.mpr ⟨ab_putf_ok (C := RX1) (T := TX1) (N := 13) (ci := 5) (k := 4) (ty0 := tyX1) dX0_unpickLatest_46 rfl ab_ic5 tyX1_ok nmX1 (by decide) ab_w1185 rfl (Or.inl rfl), List.forall_mem_cons.mpr ⟨ab_aload_n_ok dX0_unpickLatest_49 rfl, List.forall_mem_cons.mpr ⟨ab_getf_ok (C := RX0) (T := TX0) (N := 5) (ci := 4) (k := 0) dX0_unpickLatest_50 rfl ab_ic4 (by decide) ab_w698, List.forall_mem_cons.mpr ⟨ab_dup_ok dX0_unpickLatest_53, List.forall_mem_cons.mpr ⟨ab_getf_ok (C := RX5) (T := TX5) (N := 10) (ci := 9) (k := 7) dX0_unpickLatest_54 rfl ab_ic9 (by decide) ab_w1187, List.forall_mem_cons.mpr ⟨ab_iconst_ok dX0_unpickLatest_57 (by decide), List.forall_mem_cons.mpr ⟨ab_iadd_ok dX0_unpickLatest_58, List.forall_mem_cons.mpr ⟨ab_putf_ok (C := RX5) (T := TX5) (N := 10) (ci := 9) (k := 7) (ty0 := tyX5) dX0_unpickLatest_59 rfl ab_ic9 tyX5_ok nmX5 (by decide) ab_w1187 rfl (Or.inl rfl), List.forall_mem_cons.mpr ⟨ab_aload_n_ok dX0_unpickLatest_62 rfl, List.forall_mem_cons.mpr ⟨ab_getf_ok (C := RX1) (T := TX1) (N := 13) (ci := 5) (k := 4) dX0_unpickLatest_63 rfl ab_ic5 (by decide) ab_w1185, List.forall_mem_cons.mpr ⟨ab_iret_ok dX0_unpickLatest_66 rfl, fun _ h => absurd h List.not_mem_nil⟩⟩⟩⟩⟩⟩⟩⟩⟩⟩⟩⟩⟩⟩⟩⟩⟩⟩⟩⟩⟩⟩⟩⟩⟩⟩⟩⟩⟩⟩⟩⟩⟩⟩⟩⟩⟩⟩
theorem ab_k222 (K : ab_Kt) : ∀ pc, ab_OK K ab_mt ab_g222 pc (ab_c222 pc) := ab_lk2_ok _ (List.forall_mem_cons.mpr ⟨ab_k222_0 K, fun _ h => absurd h List.not_mem_nil⟩)
theorem dX0_sewNext_0 : decode cX0_sewNext 0 = .ok (.aload_n 0, 1) := by decide +kernel
theorem dX0_sewNext_1 : decode cX0_sewNext 1 = .ok (.iload_n 1, 1) := by decide +kernel
theorem dX0_sewNext_2 : decode cX0_sewNext 2 = .ok (.iconst 0, 1) := by decide +kernel
theorem dX0_sewNext_3 : decode cX0_sewNext 3 = .ok (.invokevirtual 69, 3) := by decide +kernel
theorem dX0_sewNext_6 : decode cX0_sewNext 6 = .ok (.ifCond .eq 5, 3) := by decide +kernel
theorem dX0_sewNext_9 : decode cX0_sewNext 9 = .ok (.iconst (-1), 1) := by decide +kernel
theorem dX0_sewNext_10 : decode cX0_sewNext 10 = .ok (.ireturn, 1) := by decide +kernel
theorem dX0_sewNext_11 : decode cX0_sewNext 11 = .ok (.aload_n 0, 1) := by decide +kernel
theorem dX0_sewNext_12 : decode cX0_sewNext 12 = .ok (.getfield 12, 3) := by decide +kernel
theorem dX0_sewNext_15 : decode cX0_sewNext 15 = .ok (.getfield 30, 3) := by decide +kernel
theorem dX0_sewNext_18 : decode cX0_sewNext 18 = .ok (.iload_n 1, 1) := by decide +kernel
theorem dX0_sewNext_19 : decode cX0_sewNext 19 = .ok (.aaload, 1) := by decide +kernel
theorem dX0_sewNext_20 : decode cX0_sewNext 20 = .ok (.astore_n 2, 1) := by decide +kernel
theorem dX0_sewNext_21 : decode cX0_sewNext 21 = .ok (.aload_n 2, 1) := by decide +kernel
theorem dX0_sewNext_22 : decode cX0_sewNext 22 = .ok (.getfield 73, 3) := by decide +kernel
theorem dX0_sewNext_25 : decode cX0_sewNext 25 = .ok (.aload_n 2, 1) := by decide +kernel
theorem dX0_sewNext_26 : decode cX0_sewNext 26 = .ok (.getfield 44, 3) := by decide +kernel
theorem dX0_sewNext_29 : decode cX0_sewNext 29 = .ok (.if_icmp .lt 14, 3) := by decide +kernel
theorem dX0_sewNext_32 : decode cX0_sewNext 32 = .ok (.aload_n 0, 1) := by decide +kernel
theorem dX0_sewNext_33 : decode cX0_sewNext 33 = .ok (.bipush 6, 2) := by decide +kernel
theorem dX0_sewNext_35 : decode cX0_sewNext 35 = .ok (.aload_n 2, 1) := by decide +kernel
theorem dX0_sewNext_36 : decode cX0_sewNext 36 = .ok (.getfield 44, 3) := by decide +kernel
theorem dX0_sewNext_39 : decode cX0_sewNext 39 = .ok (.invokevirtual 22, 3) := by decide +kernel
theorem dX0_sewNext_42 : decode cX0_sewNext 42 = .ok (.ireturn, 1) := by decide +kernel
theorem dX0_sewNext_43 : decode cX0_sewNext 43 = .ok (.aload_n 2, 1) := by decide +kernel
theorem dX0_sewNext_44 : decode cX0_sewNext 44 = .ok (.aload_n 2, 1) := by decide +kernel
theorem dX0_sewNext_45 : decode cX0_sewNext 45 = .ok (.getfield 73, 3) := by decide +kernel
theorem dX0_sewNext_48 : decode cX0_sewNext 48 = .ok (.invokevirtual 76, 3) := by decide +kernel
theorem dX0_sewNext_51 : decode cX0_sewNext 51 = .ok (.istore_n 3, 1) := by decide +kernel
theorem dX0_sewNext_52 : decode cX0_sewNext 52 = .ok (.iload_n 3, 1) := by decide +kernel
theorem dX0_sewNext_53 : decode cX0_sewNext 53 = .ok (.aload_n 0, 1) := by decide +kernel
theorem dX0_sewNext_54 : decode cX0_sewNext 54 = .ok (.getfield 12, 3) := by decide +kernel
theorem dX0_sewNext_57 : decode cX0_sewNext 57 = .ok (.getfield 61, 3) := by decide +kernel
theorem dX0_sewNext_60 : decode cX0_sewNext 60 = .ok (.if_icmp .le 19, 3) := by decide +kernel
theorem dX0_sewNext_63 : decode cX0_sewNext 63 = .ok (.aload_n 0, 1) := by decide +kernel
theorem dX0_sewNext_64 : decode cX0_sewNext 64 = .ok (.bipush 7, 2) := by decide +kernel
theorem dX0_sewNext_66 : decode cX0_sewNext 66 = .ok (.iload_n 3, 1) := by decide +kernel
theorem dX0_sewNext_67 : decode cX0_sewNext 67 = .ok (.aload_n 0, 1) := by decide +kernel
theorem dX0_sewNext_68 : decode cX0_sewNext 68 = .ok (.getfield 12, 3) := by decide +kernel
theorem dX0_sewNext_71 : decode cX0_sewNext 71 = .ok (.getfield 61, 3) := by decide +kernel
theorem ab_k223_0 (K : ab_Kt) : ∀ q ∈ ab_l223_0, ab_OK K ab_mt ab_g223 q.1 q.2 := by
  unfold ab_l223_0
  exact List.forall_mem_cons.mpr ⟨ab_aload_n_ok dX0_sewNext_0 rfl, List.forall_mem_cons.mpr ⟨ab_iload_n_ok dX0_sewNext_1 rfl, List.forall_mem_cons.mpr ⟨ab_iconst_ok dX0_sewNext_2 (by decide), List.forall_mem_cons.mpr ⟨ab_callV_ok' (G' := ab_g258) (C := RX0) (T := TX0) (N := 5) dX0_sewNext_3 ab_m258 rfl rfl (by decide) (by decide) (ab_l4 ab_w1155 ab_w1156 ab_w1157 ab_w313) ab_w1158 rfl ⟨by decide, by decide, by decide +kernel⟩, List.forall_mem_cons.mpr ⟨ab_if_eq_ok dX0_sewNext_6 (by decide), List.forall_mem_cons.mpr ⟨ab_iconst_ok dX0_sewNext_9 (by decide), List.forall_mem_cons.mpr ⟨ab_iret_ok dX0_sewNext_10 rfl, List.forall_mem_cons.mpr ⟨ab_aload_n_ok dX0_sewNext_11 rfl, List.forall_mem_cons.mpr ⟨ab_getf_ok (C := RX0) (T := TX0) (N := 5) (ci := 4) (k := 0) dX0_sewNext_12 rfl ab_ic4 (by decide) ab_w698, List.forall_mem_cons.mpr ⟨ab_getf_ok (C := RX5) (T := TX5) (N := 10) (ci := 9) (k := 0) dX0_sewNext_15 rfl ab_ic9 (by decide) ab_w1159, List.forall_mem_cons.mpr ⟨ab_iload_n_ok dX0_sewNext_18 rfl, List.forall_mem_cons.mpr ⟨ab_aald_ok dX0_sewNext_19 rfl, List.forall_mem_cons.mpr ⟨ab_astore_n_ok dX0_sewNext_20 rfl, List.forall_mem_cons.mpr ⟨ab_aload_n_ok dX0_sewNext_21 rfl, List.forall_mem_cons.mpr ⟨ab_getf_ok (C := RX1) (T := TX1) (N := 13) (ci := 5) (k := 4) dX0_sewNext_22 rfl ab_ic5 (by decide) ab_w1185, List.forall_mem_cons.mpr ⟨ab_aload_n_ok dX0_sewNext_25 rfl, List.forall_mem_cons.mpr ⟨ab_getf_ok (C := RX1) (T := TX1) (N := 13) (ci := 5) (k := 3) dX0_sewNext_26 rfl ab_ic5 (by decide) ab_w1184, List.forall_mem_cons.mpr ⟨ab_icmp_lt_ok dX0_sewNext_29 (by decide), List.forall_mem_cons.mpr ⟨ab_aload_n_ok dX0_sewNext_32 rfl, List.forall_mem_cons.mpr ⟨ab_bipush_ok dX0_sewNext_33 (by decide), List.forall_mem_cons.mpr ⟨ab_aload_n_ok dX0_sewNext_35 rfl, List.forall_mem_cons.mpr ⟨ab_getf_ok (C := RX1) (T := TX1) (N := 13) (ci := 5) (k := 3) dX0_sewNext_36 rfl ab_ic5 (by decide) ab_w1184, List.forall_mem_cons.mpr ⟨ab_callV_ok' (G' := ab_g256) (C := RX0) (T := TX0) (N := 5) dX0_sewNext_39 ab_m256 rfl rfl (by decide) (by decide) (ab_l4 ab_w1147 ab_w1148 ab_w1149 ab_w313) ab_w1150 rfl ⟨by decide, by decide, by decide +kernel⟩, List.forall_mem_cons.mpr ⟨ab_iret_ok dX0_sewNext_42 rfl, List.forall_mem_cons.mpr ⟨ab_aload_n_ok dX0_sewNext_43 rfl, List.forall_mem_cons.mpr ⟨ab_aload_n_ok dX0_sewNext_44 rfl, List.forall_mem_cons.mpr ⟨ab_getf_ok (C := RX1) (T := TX1) (N := 13) (ci := 5) (k := 4) dX0_sewNext_45 rfl ab_ic5 (by decide) ab_w1185, List.forall_mem_cons.mpr ⟨ab_callV_ok' (G' := ab_g250) (C := RX1) (T := TX1) (N := 13) dX0_sewNext_48 ab_m250 rfl rfl (by decide) (by decide) (ab_l4 ab_w1188 ab_w1124 ab_w1125 ab_w711) ab_w1126 rfl ⟨by decide, by decide, by decide +kernel⟩, List.forall_mem_cons.mpr ⟨ab_istore_n_ok dX0_sewNext_51 rfl, List.forall_mem_cons.mpr ⟨ab_iload_n_ok dX0_sewNext_52 rfl, List.forall_mem_cons.mpr ⟨ab_aload_n_ok dX0_sewNext_53 rfl, List.forall_mem_cons.mpr ⟨ab_getf_ok (C := RX0) (T := TX0) (N := 5) (ci := 4) (k := 0) dX0_sewNext_54 rfl ab_ic4 (by decide) ab_w698, List.forall_mem_cons.mpr ⟨ab_getf_ok (C := RX5) (T := TX5) (N := 10) (ci := 9) (k := 5) dX0_sewNext_57 rfl ab_ic9 (by decide) ab_w1189, List.forall_mem_cons.mpr ⟨ab_icmp_le_ok dX0_sewNext_60 (by decide), List.forall_mem_cons.mpr ⟨ab_aload_n_ok dX0_sewNext_63 rfl, List.forall_mem_cons.mpr ⟨ab_bipush_ok dX0_sewNext_64 (by decide), List.forall_mem_cons.mpr ⟨ab_iload_n_ok dX0_sewNext_66 rfl, List.forall_mem_cons.mpr ⟨ab_aload_n_ok dX0_sewNext_67 rfl, List.forall_mem_cons.mpr ⟨ab_getf_ok (C := RX0) (T := TX0) (N := 5) (ci := 4) (k := 0) dX0_sewNext_68 rfl ab_ic4 (by decide) ab_w698, List.forall_mem_cons.mpr ⟨ab_getf_ok (C := RX5) (T := TX5) (N := 10) (ci := 9) (k := 5) dX0_sewNext_71 rfl ab_ic9 (by decide) ab_w1189, fun _ h => absurd h List.not_mem_nil⟩⟩⟩⟩⟩⟩⟩⟩⟩⟩⟩⟩⟩⟩⟩⟩⟩⟩⟩⟩⟩⟩⟩⟩⟩⟩⟩⟩⟩⟩⟩⟩⟩⟩⟩⟩⟩⟩⟩⟩
theorem dX0_sewNext_74 : decode cX0_sewNext 74 = .ok (.isub, 1) := by decide +kernel
theorem dX0_sewNext_75 : decode cX0_sewNext 75 = .ok (.invokevirtual 22, 3) := by decide +kernel
theorem dX0_sewNext_78 : decode cX0_sewNext 78 = .ok (.ireturn, 1) := by decide +kernel
theorem dX0_sewNext_79 : decode cX0_sewNext 79 = .ok (.aload_n 0, 1) := by decide +kernel
theorem dX0_sewNext_80 : decode cX0_sewNext 80 = .ok (.getfield 12, 3) := by decide +kernel
theorem dX0_sewNext_83 : decode cX0_sewNext 83 = .ok (.dup, 1) := by decide +kernel
theorem dX0_sewNext_84 : decode cX0_sewNext 84 = .ok (.getfield 61, 3) := by decide +kernel
theorem dX0_sewNext_87 : decode cX0_sewNext 87 = .ok (.iload_n 3, 1) := by decide +kernel
theorem dX0_sewNext_88 : decode cX0_sewNext 88 = .ok (.isub, 1) := by decide +kernel
theorem dX0_sewNext_89 : decode cX0_sewNext 89 = .ok (.putfield 61, 3) := by decide +kernel
theorem dX0_sewNext_92 : decode cX0_sewNext 92 = .ok (.aload_n 0, 1) := by decide +kernel
theorem dX0_sewNext_93 : decode cX0_sewNext 93 = .ok (.getfield 12, 3) := by decide +kernel
theorem dX0_sewNext_96 : decode cX0_sewNext 96 = .ok (.dup, 1) := by decide +kernel
theorem dX0_sewNext_97 : decode cX0_sewNext 97 = .ok (.getfield 80, 3) := by decide +kernel
theorem dX0_sewNext_100 : decode cX0_sewNext 100 = .ok (.iload_n 3, 1) := by decide +kernel
theorem dX0_sewNext_101 : decode cX0_sewNext 101 = .ok (.iadd, 1) := by decide +kernel
theorem dX0_sewNext_102 : decode cX0_sewNext 102 = .ok (.putfield 80, 3) := by decide +kernel
theorem dX0_sewNext_105 : decode cX0_sewNext 105 = .ok (.aload_n 2, 1) := by decide +kernel
theorem dX0_sewNext_106 : decode cX0_sewNext 106 = .ok (.dup, 1) := by decide +kernel
theorem dX0_sewNext_107 : decode cX0_sewNext 107 = .ok (.getfield 73, 3) := by decide +kernel
theorem dX0_sewNext_110 : decode cX0_sewNext 110 = .ok (.iconst 1, 1) := by decide +kernel
theorem dX0_sewNext_111 : decode cX0_sewNext 111 = .ok (.iadd, 1) := by decide +kernel
theorem dX0_sewNext_112 : decode cX0_sewNext 112 = .ok (.putfield 73, 3) := by decide +kernel
theorem dX0_sewNext_115 : decode cX0_sewNext 115 = .ok (.aload_n 0, 1) := by decide +kernel
theorem dX0_sewNext_116 : decode cX0_sewNext 116 = .ok (.getfield 12, 3) := by decide +kernel
theorem dX0_sewNext_119 : decode cX0_sewNext 119 = .ok (.getfield 61, 3) := by decide +kernel
theorem dX0_sewNext_122 : decode cX0_sewNext 122 = .ok (.ireturn, 1) := by decide +kernel
theorem ab_k223_1 (K : ab_Kt) : ∀ q ∈ ab_l223_1, ab_OK K ab_mt ab_g223 q.1 q.2 := by
  unfold ab_l223_1
  exact List.forall_mem_cons.mpr ⟨ab_isub_ok dX0_sewNext_74, List.forall_mem_cons.mpr ⟨ab_callV_ok' (G' := ab_g256) (C := RX0) (T := TX0) (N := 5) dX0_sewNext_75 ab_m256 rfl rfl (by decide) (by decide) (ab_l4 ab_w1147 ab_w1148 ab_w1149 ab_w313) ab_w1150 rfl ⟨by decide, by decide, by decide +kernel⟩, List.forall_mem_cons.mpr ⟨ab_iret_ok dX0_sewNext_78 rfl, List.forall_mem_cons.mpr ⟨ab_aload_n_ok dX0_sewNext_79 rfl, List.forall_mem_cons.mpr ⟨ab_getf_ok (C := RX0) (T := TX0) (N := 5) (ci := 4) (k := 0) dX0_sewNext_80 rfl ab_ic4 (by decide) ab_w698, List.forall_mem_cons.mpr ⟨ab_dup_ok dX0_sewNext_83, List.forall_mem_cons.mpr ⟨ab_getf_ok (C := RX5) (T := TX5) (N := 10) (ci := 9) (k := 5) dX0_sewNext_84 rfl ab_ic9 (by decide) ab_w1189, List.forall_mem_cons.mpr ⟨ab_iload_n_ok dX0_sewNext_87 rfl, List.forall_mem_cons.mpr ⟨ab_isub_ok dX0_sewNext_88, List.forall_mem_cons.mpr ⟨ab_putf_ok (C := RX5) (T := TX5) (N := 10) (ci := 9) (k := 5) (ty0 := tyX5) dX0_sewNext_89 rfl ab_ic9 tyX5_ok nmX5 (by decide) ab_w1189 rfl (Or.inl rfl), List.forall_mem_cons.mpr ⟨ab_aload_n_ok dX0_sewNext_92 rfl, List.forall_mem_cons.mpr ⟨ab_getf_ok (C := RX0) (T := TX0) (N := 5) (ci := 4) (k := 0) dX0_sewNext_93 rfl ab_ic4 (by decide) ab_w698, List.forall_mem_cons.mpr ⟨ab_dup_ok dX0_sewNext_96, List.forall_mem_cons.mpr ⟨ab_getf_ok (C := RX5) (T := TX5) (N := 10) (ci := 9) (k := 6) dX0_sewNext_97 rfl ab_ic9 (by decide) ab_w1190, List.forall_mem_cons.mpr ⟨ab_iload_n_ok dX0_sewNext_100 rfl, List.forall_mem_cons.mpr ⟨ab_iadd_ok dX0_sewNext_101, List.forall_mem_cons.mpr ⟨ab_putf_ok (C := RX5) (T := TX5) (N := 10) (ci := 9) (k := 6) (ty0 := tyX5) dX0_sewNext_102 rfl ab_ic9 tyX5_ok nmX5 (by decide) ab_w1190 rfl (Or.inl rfl), List.forall_mem_cons.mpr ⟨ab_aload_n_ok dX0_sewNext_105 rfl, List.forall_mem_cons.mpr ⟨ab_dup_ok dX0_sewNext_106, List.forall_mem_cons.mpr ⟨ab_getf_ok (C := RX1) (T := TX1) (N := 13) (ci := 5) (k := 4) dX0_sewNext_107 rfl ab_ic5 (by decide) ab_w1185, List.forall_mem_cons.mpr ⟨ab_iconst_ok dX0_sewNext_110 (by decide), List.forall_mem_cons.mpr ⟨ab_iadd_ok dX0_sewNext_111, List.forall_mem_cons.mpr ⟨ab_putf_ok (C := RX1) (T := TX1) (N := 13) (ci := 5) (k := 4) (ty0 := tyX1) dX0_sewNext_112 rfl ab_ic5 tyX1_ok nmX1 (by decide) ab_w1185 rfl (Or.inl rfl), List.forall_mem_cons.mpr ⟨ab_aload_n_ok dX0_sewNext_115 rfl, List.forall_mem_cons.mpr ⟨ab_getf_ok (C := RX0) (T := TX0) (N := 5) (ci := 4) (k := 0) dX0_sewNext_116 rfl ab_ic4 (by decide) ab_w698, List.forall_mem_cons.mpr ⟨ab_getf_ok (C := RX5) (T := TX5) (N := 10) (ci := 9) (k := 5) dX0_sewNext_119 rfl ab_ic9 (by decide) ab_w1189, List.forall_mem_cons.mpr ⟨ab_iret_ok dX0_sewNext_122 rfl, fun _ h => absurd h List.not_mem_nil⟩⟩⟩⟩⟩⟩⟩⟩⟩⟩⟩⟩⟩⟩⟩⟩⟩⟩⟩⟩⟩⟩⟩⟩⟩⟩⟩
theorem ab_k223 (K : ab_Kt) : ∀ pc, ab_OK K ab_mt ab_g223 pc (ab_c223 pc) := ab_lk2_ok _ (List.forall_mem_cons.mpr ⟨ab_k223_0 K, List.forall_mem_cons.mpr ⟨ab_k223_1 K, fun _ h => absurd h List.not_mem_nil⟩⟩)
theorem dX0_addThread_0 : decode cX0_addThread 0 = .ok (.iload_n 1, 1) := by decide +kernel
theorem dX0_addThread_1 : decode cX0_addThread 1 = .ok (.iconst 1, 1) := by decide +kernel
theorem dX0_addThread_2 : decode cX0_addThread 2 = .ok (.sipush 200, 3) := by decide +kernel
theorem dX0_addThread_5 : decode cX0_addThread 5 = .ok (.invokestatic 18, 3) := by decide +kernel
theorem dX0_addThread_8 : decode cX0_addThread 8 = .ok (.ifCond .ne 10, 3) := by decide +kernel
theorem dX0_addThread_11 : decode cX0_addThread 11 = .ok (.aload_n 0, 1) := by decide +kernel
theorem dX0_addThread_12 : decode cX0_addThread 12 = .ok (.iconst 1, 1) := by decide +kernel
theorem dX0_addThread_13 : decode cX0_addThread 13 = .ok (.iconst 0, 1) := by decide +kernel
theorem dX0_addThread_14 : decode cX0_addThread 14 = .ok (.invokevirtual 22, 3) := by decide +kernel
theorem dX0_addThread_17 : decode cX0_addThread 17 = .ok (.ireturn, 1) := by decide +kernel
theorem dX0_addThread_18 : decode cX0_addThread 18 = .ok (.aload_n 0, 1) := by decide +kernel
theorem dX0_addThread_19 : decode cX0_addThread 19 = .ok (.getfield 12, 3) := by decide +kernel
theorem dX0_addThread_22 : decode cX0_addThread 22 = .ok (.aload_n 0, 1) := by decide +kernel
theorem dX0_addThread_23 : decode cX0_addThread 23 = .ok (.getfield 12, 3) := by decide +kernel
theorem dX0_addThread_26 : decode cX0_addThread 26 = .ok (.getfield 61, 3) := by decide +kernel
theorem dX0_addThread_29 : decode cX0_addThread 29 = .ok (.iload_n 1, 1) := by decide +kernel
theorem dX0_addThread_30 : decode cX0_addThread 30 = .ok (.iadd, 1) := by decide +kernel
theorem dX0_addThread_31 : decode cX0_addThread 31 = .ok (.sipush 999, 3) := by decide +kernel
theorem dX0_addThread_34 : decode cX0_addThread 34 = .ok (.invokestatic 64, 3) := by decide +kernel
theorem dX0_addThread_37 : decode cX0_addThread 37 = .ok (.putfield 61, 3) := by decide +kernel
theorem dX0_addThread_40 : decode cX0_addThread 40 = .ok (.aload_n 0, 1) := by decide +kernel
theorem dX0_addThread_41 : decode cX0_addThread 41 = .ok (.getfield 12, 3) := by decide +kernel
theorem dX0_addThread_44 : decode cX0_addThread 44 = .ok (.getfield 61, 3) := by decide +kernel
theorem dX0_addThread_47 : decode cX0_addThread 47 = .ok (.ireturn, 1) := by decide +kernel
theorem ab_k224_0 (K : ab_Kt) : ∀ q ∈ ab_l224_0, ab_OK K ab_mt ab_g224 q.1 q.2 := by
  unfold ab_l224_0
  exact List.forall_mem_cons.mpr ⟨ab_iload_n_ok dX0_addThread_0 rfl, List.forall_mem_cons.mpr ⟨ab_iconst_ok dX0_addThread_1 (by decide), List.forall_mem_cons.mpr ⟨ab_sipush_ok dX0_addThread_2 (by decide), List.forall_mem_cons.mpr ⟨ab_callS_ok' (G' := ab_g255) dX0_addThread_5 ab_m255 (by decide) (by decide) (ab_l3 ab_w1144 ab_w1145 ab_w313) ab_w1146 rfl ⟨by decide, by decide, by decide +kernel⟩, List.forall_mem_cons.mpr ⟨ab_if_ne_ok dX0_addThread_8 (by decide), List.forall_mem_cons.mpr ⟨ab_aload_n_ok dX0_addThread_11 rfl, List.forall_mem_cons.mpr ⟨ab_iconst_ok dX0_addThread_12 (by decide), List.forall_mem_cons.mpr ⟨ab_iconst_ok dX0_addThread_13 (by decide), List.forall_mem_cons.mpr ⟨ab_callV_ok' (G' := ab_g256) (C := RX0) (T := TX0) (N := 5) dX0_addThread_14 ab_m256 rfl rfl (by decide) (by decide) (ab_l4 ab_w1147 ab_w1148 ab_w1149 ab_w313) ab_w1150 rfl ⟨by decide, by decide, by decide +kernel⟩, List.forall_mem_cons.mpr ⟨ab_iret_ok dX0_addThread_17 rfl, List.forall_mem_cons.mpr ⟨ab_aload_n_ok dX0_addThread_18 rfl, List.forall_mem_cons.mpr ⟨ab_getf_ok (C := RX0) (T := TX0) (N := 5) (ci := 4) (k := 0) dX0_addThread_19 rfl ab_ic4 (by decide) ab_w698, List.forall_mem_cons.mpr ⟨ab_aload_n_ok dX0_addThread_22 rfl, List.forall_mem_cons.mpr ⟨ab_getf_ok (C := RX0) (T := TX0) (N := 5) (ci := 4) (k := 0) dX0_addThread_23 rfl ab_ic4 (by decide) ab_w698, List.forall_mem_cons.mpr ⟨ab_getf_ok (C := RX5) (T := TX5) (N := 10) (ci := 9) (k := 5) dX0_addThread_26 rfl ab_ic9 (by decide) ab_w1189, List.forall_mem_cons.mpr ⟨ab_iload_n_ok dX0_addThread_29 rfl, List.forall_mem_cons.mpr ⟨ab_iadd_ok dX0_addThread_30, List.forall_mem_cons.mpr ⟨ab_sipush_ok dX0_addThread_31 (by decide), List.forall_mem_cons.mpr ⟨ab_mmin_ok dX0_addThread_34 (ab_l4 ab_w1191 ab_w1192 ab_w881 ab_w1193), List.forall_mem_cons.mpr ⟨ab_putf_ok (C := RX5) (T := TX5) (N := 10) (ci := 9) (k := 5) (ty0 := tyX5) dX0_addThread_37 rfl ab_ic9 tyX5_ok nmX5 (by decide) ab_w1189 rfl (Or.inl rfl), List.forall_mem_cons.mpr ⟨ab_aload_n_ok dX0_addThread_40 rfl, List.forall_mem_cons.mpr ⟨ab_getf_ok (C := RX0) (T := TX0) (N := 5) (ci := 4) (k := 0) dX0_addThread_41 rfl ab_ic4 (by decide) ab_w698, List.forall_mem_cons.mpr ⟨ab_getf_ok (C := RX5) (T := TX5) (N := 10) (ci := 9) (k := 5) dX0_addThread_44 rfl ab_ic9 (by decide) ab_w1189, List.forall_mem_cons.mpr ⟨ab_iret_ok dX0_addThread_47 rfl, fun _ h => absurd h List.not_mem_nil⟩⟩⟩⟩⟩⟩⟩⟩⟩⟩⟩⟩⟩⟩⟩⟩⟩⟩⟩⟩⟩⟩⟩⟩
theorem ab_k224 (K : ab_Kt) : ∀ pc, ab_OK K ab_mt ab_g224 pc (ab_c224 pc) := ab_lk2_ok _ (List.forall_mem_cons.mpr ⟨ab_k224_0 K, fun _ h => absurd h List.not_mem_nil⟩)
theorem dX0_dropSignature_0 : decode cX0_dropSignature 0 = .ok (.aload_n 0, 1) := by decide +kernel
theorem dX0_dropSignature_1 : decode cX0_dropSignature 1 = .ok (.iload_n 1, 1) := by decide +kernel
theorem dX0_dropSignature_2 : decode cX0_dropSignature 2 = .ok (.invokevirtual 40, 3) := by decide +kernel
theorem dX0_dropSignature_5 : decode cX0_dropSignature 5 = .ok (.ifCond .eq 5, 3) := by decide +kernel
theorem dX0_dropSignature_8 : decode cX0_dropSignature 8 = .ok (.iconst (-1), 1) := by decide +kernel
theorem dX0_dropSignature_9 : decode cX0_dropSignature 9 = .ok (.ireturn, 1) := by decide +kernel
theorem dX0_dropSignature_10 : decode cX0_dropSignature 10 = .ok (.aload_n 0, 1) := by decide +kernel
theorem dX0_dropSignature_11 : decode cX0_dropSignature 11 = .ok (.getfield 12, 3) := by decide +kernel
theorem dX0_dropSignature_14 : decode cX0_dropSignature 14 = .ok (.getfield 30, 3) := by decide +kernel
theorem dX0_dropSignature_17 : decode cX0_dropSignature 17 = .ok (.iload_n 1, 1) := by decide +kernel
theorem dX0_dropSignature_18 : decode cX0_dropSignature 18 = .ok (.aaload, 1) := by decide +kernel
theorem dX0_dropSignature_19 : decode cX0_dropSignature 19 = .ok (.astore_n 3, 1) := by decide +kernel
theorem dX0_dropSignature_20 : decode cX0_dropSignature 20 = .ok (.aload_n 3, 1) := by decide +kernel
theorem dX0_dropSignature_21 : decode cX0_dropSignature 21 = .ok (.iload_n 2, 1) := by decide +kernel
theorem dX0_dropSignature_22 : decode cX0_dropSignature 22 = .ok (.invokevirtual 51, 3) := by decide +kernel
theorem dX0_dropSignature_25 : decode cX0_dropSignature 25 = .ok (.ifCond .ne 10, 3) := by decide +kernel
theorem dX0_dropSignature_28 : decode cX0_dropSignature 28 = .ok (.aload_n 0, 1) := by decide +kernel
theorem dX0_dropSignature_29 : decode cX0_dropSignature 29 = .ok (.iconst 3, 1) := by decide +kernel
theorem dX0_dropSignature_30 : decode cX0_dropSignature 30 = .ok (.iload_n 2, 1) := by decide +kernel
theorem dX0_dropSignature_31 : decode cX0_dropSignature 31 = .ok (.invokevirtual 22, 3) := by decide +kernel
theorem dX0_dropSignature_34 : decode cX0_dropSignature 34 = .ok (.ireturn, 1) := by decide +kernel
theorem dX0_dropSignature_35 : decode cX0_dropSignature 35 = .ok (.aload_n 3, 1) := by decide +kernel
theorem dX0_dropSignature_36 : decode cX0_dropSignature 36 = .ok (.iload_n 2, 1) := by decide +kernel
theorem dX0_dropSignature_37 : decode cX0_dropSignature 37 = .ok (.aload_n 3, 1) := by decide +kernel
theorem dX0_dropSignature_38 : decode cX0_dropSignature 38 = .ok (.getfield 44, 3) := by decide +kernel
theorem dX0_dropSignature_41 : decode cX0_dropSignature 41 = .ok (.iconst 1, 1) := by decide +kernel
theorem dX0_dropSignature_42 : decode cX0_dropSignature 42 = .ok (.isub, 1) := by decide +kernel
theorem dX0_dropSignature_43 : decode cX0_dropSignature 43 = .ok (.invokevirtual 54, 3) := by decide +kernel
theorem dX0_dropSignature_46 : decode cX0_dropSignature 46 = .ok (.aload_n 3, 1) := by decide +kernel
theorem dX0_dropSignature_47 : decode cX0_dropSignature 47 = .ok (.dup, 1) := by decide +kernel
theorem dX0_dropSignature_48 : decode cX0_dropSignature 48 = .ok (.getfield 44, 3) := by decide +kernel
theorem dX0_dropSignature_51 : decode cX0_dropSignature 51 = .ok (.iconst 1, 1) := by decide +kernel
theorem dX0_dropSignature_52 : decode cX0_dropSignature 52 = .ok (.isub, 1) := by decide +kernel
theorem dX0_dropSignature_53 : decode cX0_dropSignature 53 = .ok (.putfield 44, 3) := by decide +kernel
theorem dX0_dropSignature_56 : decode cX0_dropSignature 56 = .ok (.aload_n 3, 1) := by decide +kernel
theorem dX0_dropSignature_57 : decode cX0_dropSignature 57 = .ok (.getfield 44, 3) := by decide +kernel
theorem dX0_dropSignature_60 : decode cX0_dropSignature 60 = .ok (.ireturn, 1) := by decide +kernel
theorem ab_k225_0 (K : ab_Kt) : ∀ q ∈ ab_l225_0, ab_OK K ab_mt ab_g225 q.1 q.2 := by
  unfold ab_l225_0
  exact List.forall_mem_cons.mpr ⟨ab_aload_n_ok dX0_dropSignature_0 rfl, List.forall_mem_cons.mpr ⟨ab_iload_n_ok dX0_dropSignature_1 rfl, List.forall_mem_cons.mpr ⟨ab_callV_ok' (G' := ab_g261) (C := RX0) (T := TX0) (N := 5) dX0_dropSignature_2 ab_m261 rfl rfl (by decide) (by decide) (ab_l4 ab_w1194 ab_w1195 ab_w1196 ab_w313) ab_w1197 rfl ⟨by decide, by decide, by decide +kernel⟩, List.forall_mem_cons.mpr ⟨ab_if_eq_ok dX0_dropSignature_5 (by decide), List.forall_mem_cons.mpr ⟨ab_iconst_ok dX0_dropSignature_8 (by decide), List.forall_mem_cons.mpr ⟨ab_iret_ok dX0_dropSignature_9 rfl, List.forall_mem_cons.mpr ⟨ab_aload_n_ok dX0_dropSignature_10 rfl, List.forall_mem_cons.mpr ⟨ab_getf_ok (C := RX0) (T := TX0) (N := 5) (ci := 4) (k := 0) dX0_dropSignature_11 rfl ab_ic4 (by decide) ab_w698, List.forall_mem_cons.mpr ⟨ab_getf_ok (C := RX5) (T := TX5) (N := 10) (ci := 9) (k := 0) dX0_dropSignature_14 rfl ab_ic9 (by decide) ab_w1159, List.forall_mem_cons.mpr ⟨ab_iload_n_ok dX0_dropSignature_17 rfl, List.forall_mem_cons.mpr ⟨ab_aald_ok dX0_dropSignature_18 rfl, List.forall_mem_cons.mpr ⟨ab_astore_n_ok dX0_dropSignature_19 rfl, List.forall_mem_cons.mpr ⟨ab_aload_n_ok dX0_dropSignature_20 rfl, List.forall_mem_cons.mpr ⟨ab_iload_n_ok dX0_dropSignature_21 rfl, List.forall_mem_cons.mpr ⟨ab_callV_ok' (G' := ab_g251) (C := RX1) (T := TX1) (N := 13) dX0_dropSignature_22 ab_m251 rfl rfl (by decide) (by decide) (ab_l4 ab_w1198 ab_w1128 ab_w1129 ab_w711) ab_w1130 rfl ⟨by decide, by decide, by decide +kernel⟩, List.forall_mem_cons.mpr ⟨ab_if_ne_ok dX0_dropSignature_25 (by decide), List.forall_mem_cons.mpr ⟨ab_aload_n_ok dX0_dropSignature_28 rfl, List.forall_mem_cons.mpr ⟨ab_iconst_ok dX0_dropSignature_29 (by decide), List.forall_mem_cons.mpr ⟨ab_iload_n_ok dX0_dropSignature_30 rfl, List.forall_mem_cons.mpr ⟨ab_callV_ok' (G' := ab_g256) (C := RX0) (T := TX0) (N := 5) dX0_dropSignature_31 ab_m256 rfl rfl (by decide) (by decide) (ab_l4 ab_w1147 ab_w1148 ab_w1149 ab_w313) ab_w1150 rfl ⟨by decide, by decide, by decide +kernel⟩, List.forall_mem_cons.mpr ⟨ab_iret_ok dX0_dropSignature_34 rfl, List.forall_mem_cons.mpr ⟨ab_aload_n_ok dX0_dropSignature_35 rfl, List.forall_mem_cons.mpr ⟨ab_iload_n_ok dX0_dropSignature_36 rfl, List.forall_mem_cons.mpr ⟨ab_aload_n_ok dX0_dropSignature_37 rfl, List.forall_mem_cons.mpr ⟨ab_getf_ok (C := RX1) (T := TX1) (N := 13) (ci := 5) (k := 3) dX0_dropSignature_38 rfl ab_ic5 (by decide) ab_w1184, List.forall_mem_cons.mpr ⟨ab_iconst_ok dX0_dropSignature_41 (by decide), List.forall_mem_cons.mpr ⟨ab_isub_ok dX0_dropSignature_42, List.forall_mem_cons.mpr ⟨ab_callV_ok' (G' := ab_g262) (C := RX1) (T := TX1) (N := 13) dX0_dropSignature_43 ab_m262 rfl rfl (by decide) (by decide) (ab_l4 ab_w1199 ab_w1200 ab_w1201 ab_w711) ab_w1202 rfl ⟨by decide, by decide, by decide +kernel⟩, List.forall_mem_cons.mpr ⟨ab_aload_n_ok dX0_dropSignature_46 rfl, List.forall_mem_cons.mpr ⟨ab_dup_ok dX0_dropSignature_47, List.forall_mem_cons.mpr ⟨ab_getf_ok (C := RX1) (T := TX1) (N := 13) (ci := 5) (k := 3) dX0_dropSignature_48 rfl ab_ic5 (by decide) ab_w1184, List.forall_mem_cons.mpr ⟨ab_iconst_ok dX0_dropSignature_51 (by decide), List.forall_mem_cons.mpr ⟨ab_isub_ok dX0_dropSignature_52, List.forall_mem_cons.mpr ⟨ab_putf_ok (C := RX1) (T := TX1) (N := 13) (ci := 5) (k := 3) (ty0 := tyX1) dX0_dropSignature_53 rfl ab_ic5 tyX1_ok nmX1 (by decide) ab_w1184 rfl (Or.inl rfl), List.forall_mem_cons.mpr ⟨ab_aload_n_ok dX0_dropSignature_56 rfl, List.forall_mem_cons.mpr ⟨ab_getf_ok (C := RX1) (T := TX1) (N := 13) (ci := 5) (k := 3) dX0_dropSignature_57 rfl ab_ic5 (by decide) ab_w1184, List.forall_mem_cons.mpr ⟨ab_iret_ok dX0_dropSignature_60 rfl, fun _ h => absurd h List.not_mem_nil⟩⟩⟩⟩⟩⟩⟩⟩⟩⟩⟩⟩⟩⟩⟩⟩⟩⟩⟩⟩⟩⟩⟩⟩⟩⟩⟩⟩⟩⟩⟩⟩⟩⟩⟩⟩⟩
theorem ab_k225 (K : ab_Kt) : ∀ pc, ab_OK K ab_mt ab_g225 pc (ab_c225 pc) := ab_lk2_ok _ (List.forall_mem_cons.mpr ⟨ab_k225_0 K, fun _ h => absurd h List.not_mem_nil⟩)
theorem dX0_moveSignature_0 : decode cX0_moveSignature 0 = .ok (.aload_n 0, 1) := by decide +kernel
theorem dX0_moveSignature_1 : decode cX0_moveSignature 1 = .ok (.iload_n 1, 1) := by decide +kernel
theorem dX0_moveSignature_2 : decode cX0_moveSignature 2 = .ok (.invokevirtual 40, 3) := by decide +kernel
theorem dX0_moveSignature_5 : decode cX0_moveSignature 5 = .ok (.ifCond .eq 5, 3) := by decide +kernel
theorem dX0_moveSignature_8 : decode cX0_moveSignature 8 = .ok (.iconst (-1), 1) := by decide +kernel
theorem dX0_moveSignature_9 : decode cX0_moveSignature 9 = .ok (.ireturn, 1) := by decide +kernel
theorem dX0_moveSignature_10 : decode cX0_moveSignature 10 = .ok (.aload_n 0, 1) := by decide +kernel
theorem dX0_moveSignature_11 : decode cX0_moveSignature 11 = .ok (.getfield 12, 3) := by decide +kernel
theorem dX0_moveSignature_14 : decode cX0_moveSignature 14 = .ok (.getfield 30, 3) := by decide +kernel
theorem dX0_moveSignature_17 : decode cX0_moveSignature 17 = .ok (.iload_n 1, 1) := by decide +kernel
theorem dX0_moveSignature_18 : decode cX0_moveSignature 18 = .ok (.aaload, 1) := by decide +kernel
theorem dX0_moveSignature_19 : decode cX0_moveSignature 19 = .ok (.astore 4, 2) := by decide +kernel
theorem dX0_moveSignature_21 : decode cX0_moveSignature 21 = .ok (.aload 4, 2) := by decide +kernel
theorem dX0_moveSignature_23 : decode cX0_moveSignature 23 = .ok (.iload_n 2, 1) := by decide +kernel
theorem dX0_moveSignature_24 : decode cX0_moveSignature 24 = .ok (.invokevirtual 51, 3) := by decide +kernel
theorem dX0_moveSignature_27 : decode cX0_moveSignature 27 = .ok (.ifCond .ne 10, 3) := by decide +kernel
theorem dX0_moveSignature_30 : decode cX0_moveSignature 30 = .ok (.aload_n 0, 1) := by decide +kernel
theorem dX0_moveSignature_31 : decode cX0_moveSignature 31 = .ok (.iconst 3, 1) := by decide +kernel
theorem dX0_moveSignature_32 : decode cX0_moveSignature 32 = .ok (.iload_n 2, 1) := by decide +kernel
theorem dX0_moveSignature_33 : decode cX0_moveSignature 33 = .ok (.invokevirtual 22, 3) := by decide +kernel
theorem dX0_moveSignature_36 : decode cX0_moveSignature 36 = .ok (.ireturn, 1) := by decide +kernel
theorem dX0_moveSignature_37 : decode cX0_moveSignature 37 = .ok (.aload 4, 2) := by decide +kernel
theorem dX0_moveSignature_39 : decode cX0_moveSignature 39 = .ok (.iload_n 3, 1) := by decide +kernel
theorem dX0_moveSignature_40 : decode cX0_moveSignature 40 = .ok (.invokevirtual 51, 3) := by decide +kernel
theorem dX0_moveSignature_43 : decode cX0_moveSignature 43 = .ok (.ifCond .ne 10, 3) := by decide +kernel
theorem dX0_moveSignature_46 : decode cX0_moveSignature 46 = .ok (.aload_n 0, 1) := by decide +kernel
theorem dX0_moveSignature_47 : decode cX0_moveSignature 47 = .ok (.iconst 3, 1) := by decide +kernel
theorem dX0_moveSignature_48 : decode cX0_moveSignature 48 = .ok (.iload_n 3, 1) := by decide +kernel
theorem dX0_moveSignature_49 : decode cX0_moveSignature 49 = .ok (.invokevirtual 22, 3) := by decide +kernel
theorem dX0_moveSignature_52 : decode cX0_moveSignature 52 = .ok (.ireturn, 1) := by decide +kernel
theorem dX0_moveSignature_53 : decode cX0_moveSignature 53 = .ok (.aload 4, 2) := by decide +kernel
theorem dX0_moveSignature_55 : decode cX0_moveSignature 55 = .ok (.iload_n 2, 1) := by decide +kernel
theorem dX0_moveSignature_56 : decode cX0_moveSignature 56 = .ok (.iload_n 3, 1) := by decide +kernel
theorem dX0_moveSignature_57 : decode cX0_moveSignature 57 = .ok (.invokevirtual 54, 3) := by decide +kernel
theorem dX0_moveSignature_60 : decode cX0_moveSignature 60 = .ok (.aload 4, 2) := by decide +kernel
theorem dX0_moveSignature_62 : decode cX0_moveSignature 62 = .ok (.invokevirtual 57, 3) := by decide +kernel
theorem dX0_moveSignature_65 : decode cX0_moveSignature 65 = .ok (.ireturn, 1) := by decide +kernel
theorem ab_k226_0 (K : ab_Kt) : ∀ q ∈ ab_l226_0, ab_OK K ab_mt ab_g226 q.1 q.2 := by
  unfold ab_l226_0
  exact List.forall_mem_cons.mpr ⟨ab_aload_n_ok dX0_moveSignature_0 rfl, List.forall_mem_cons.mpr ⟨ab_iload_n_ok dX0_moveSignature_1 rfl, List.forall_mem_cons.mpr ⟨ab_callV_ok' (G' := ab_g261) (C := RX0) (T := TX0) (N := 5) dX0_moveSignature_2 ab_m261 rfl rfl (by decide) (by decide) (ab_l4 ab_w1194 ab_w1195 ab_w1196 ab_w313) ab_w1197 rfl ⟨by decide, by decide, by decide +kernel⟩, List.forall_mem_cons.mpr ⟨ab_if_eq_ok dX0_moveSignature_5 (by decide), List.forall_mem_cons.mpr ⟨ab_iconst_ok dX0_moveSignature_8 (by decide), List.forall_mem_cons.mpr ⟨ab_iret_ok dX0_moveSignature_9 rfl, List.forall_mem_cons.mpr ⟨ab_aload_n_ok dX0_moveSignature_10 rfl, List.forall_mem_cons.mpr ⟨ab_getf_ok (C := RX0) (T := TX0) (N := 5) (ci := 4) (k := 0) dX0_moveSignature_11 rfl ab_ic4 (by decide) ab_w698, List.forall_mem_cons.mpr ⟨ab_getf_ok (C := RX5) (T := TX5) (N := 10) (ci := 9) (k := 0) dX0_moveSignature_14 rfl ab_ic9 (by decide) ab_w1159, List.forall_mem_cons.mpr ⟨ab_iload_n_ok dX0_moveSignature_17 rfl, List.forall_mem_cons.mpr ⟨ab_aald_ok dX0_moveSignature_18 rfl, List.forall_mem_cons.mpr ⟨ab_astore_ok dX0_moveSignature_19, List.forall_mem_cons.mpr ⟨ab_aload_ok dX0_moveSignature_21, List.forall_mem_cons.mpr ⟨ab_iload_n_ok dX0_moveSignature_23 rfl, List.forall_mem_cons.mpr ⟨ab_callV_ok' (G' := ab_g251) (C := RX1) (T := TX1) (N := 13) dX0_moveSignature_24 ab_m251 rfl rfl (by decide) (by decide) (ab_l4 ab_w1198 ab_w1128 ab_w1129 ab_w711) ab_w1130 rfl ⟨by decide, by decide, by decide +kernel⟩, List.forall_mem_cons.mpr ⟨ab_if_ne_ok dX0_moveSignature_27 (by decide), List.forall_mem_cons.mpr ⟨ab_aload_n_ok dX0_moveSignature_30 rfl, List.forall_mem_cons.mpr ⟨ab_iconst_ok dX0_moveSignature_31 (by decide), List.forall_mem_cons.mpr ⟨ab_iload_n_ok dX0_moveSignature_32 rfl, List.forall_mem_cons.mpr ⟨ab_callV_ok' (G' := ab_g256) (C := RX0) (T := TX0) (N := 5) dX0_moveSignature_33 ab_m256 rfl rfl (by decide) (by decide) (ab_l4 ab_w1147 ab_w1148 ab_w1149 ab_w313) ab_w1150 rfl ⟨by decide, by decide, by decide +kernel⟩, List.forall_mem_cons.mpr ⟨ab_iret_ok dX0_moveSignature_36 rfl, List.forall_mem_cons.mpr ⟨ab_aload_ok dX0_moveSignature_37, List.forall_mem_cons.mpr ⟨ab_iload_n_ok dX0_moveSignature_39 rfl, List.forall_mem_cons.mpr ⟨ab_callV_ok' (G' := ab_g251) (C := RX1) (T := TX1) (N := 13) dX0_moveSignature_40 ab_m251 rfl rfl (by decide) (by decide) (ab_l4 ab_w1198 ab_w1128 ab_w1129 ab_w711) ab_w1130 rfl ⟨by decide, by decide, by decide +kernel⟩, List.forall_mem_cons.mpr ⟨ab_if_ne_ok dX0_moveSignature_43 (by decide), List.forall_mem_cons.mpr ⟨ab_aload_n_ok dX0_moveSignature_46 rfl, List.forall_mem_cons.mpr ⟨ab_iconst_ok dX0_moveSignature_47 (by decide), List.forall_mem_cons.mpr ⟨ab_iload_n_ok dX0_moveSignature_48 rfl, List.forall_mem_cons.mpr ⟨ab_callV_ok' (G' := ab_g256) (C := RX0) (T := TX0) (N := 5) dX0_moveSignature_49 ab_m256 rfl rfl (by decide) (by decide) (ab_l4 ab_w1147 ab_w1148 ab_w1149 ab_w313) ab_w1150 rfl ⟨by decide, by decide, by decide +kernel⟩, List.forall_mem_cons.mpr ⟨ab_iret_ok dX0_moveSignature_52 rfl, List.forall_mem_cons.mpr ⟨ab_aload_ok dX0_moveSignature_53, List.forall_mem_cons.mpr ⟨ab_iload_n_ok dX0_moveSignature_55 rfl, List.forall_mem_cons.mpr ⟨ab_iload_n_ok dX0_moveSignature_56 rfl, List.forall_mem_cons.mpr ⟨ab_callV_ok' (G' := ab_g262) (C := RX1) (T := TX1) (N := 13) dX0_moveSignature_57 ab_m262 rfl rfl (by decide) (by decide) (ab_l4 ab_w1199 ab_w1200 ab_w1201 ab_w711) ab_w1202 rfl ⟨by decide, by decide, by decide +kernel⟩, List.forall_mem_cons.mpr ⟨ab_aload_ok dX0_moveSignature_60, List.forall_mem_cons.mpr ⟨ab_callV_ok' (G' := ab_g184) (C := RX1) (T := TX1) (N := 13) dX0_moveSignature_62 ab_m184 rfl rfl (by decide) (by decide) (ab_l4 ab_w1164 ab_w779 ab_w780 ab_w711) ab_w781 rfl ⟨by decide, by decide, by decide +kernel⟩, List.forall_mem_cons.mpr ⟨ab_iret_ok dX0_moveSignature_65 rfl, fun _ h => absurd h List.not_mem_nil⟩⟩⟩⟩⟩⟩⟩⟩⟩⟩⟩⟩⟩⟩⟩⟩⟩⟩⟩⟩⟩⟩⟩⟩⟩⟩⟩⟩⟩⟩⟩⟩⟩⟩⟩⟩⟩
theorem ab_k226 (K : ab_Kt) : ∀ pc, ab_OK K ab_mt ab_g226 pc (ab_c226 pc) := ab_lk2_ok _ (List.forall_mem_cons.mpr ⟨ab_k226_0 K, fun _ h => absurd h List.not_mem_nil⟩)
theorem dX0_addSignature_0 : decode cX0_addSignature 0 = .ok (.aload_n 0, 1) := by decide +kernel
theorem dX0_addSignature_1 : decode cX0_addSignature 1 = .ok (.iload_n 1, 1) := by decide +kernel
theorem dX0_addSignature_2 : decode cX0_addSignature 2 = .ok (.invokevirtual 40, 3) := by decide +kernel
theorem dX0_addSignature_5 : decode cX0_addSignature 5 = .ok (.ifCond .eq 5, 3) := by decide +kernel
theorem dX0_addSignature_8 : decode cX0_addSignature 8 = .ok (.iconst (-1), 1) := by decide +kernel
theorem dX0_addSignature_9 : decode cX0_addSignature 9 = .ok (.ireturn, 1) := by decide +kernel
theorem dX0_addSignature_10 : decode cX0_addSignature 10 = .ok (.aload_n 0, 1) := by decide +kernel
theorem dX0_addSignature_11 : decode cX0_addSignature 11 = .ok (.getfield 12, 3) := by decide +kernel
theorem dX0_addSignature_14 : decode cX0_addSignature 14 = .ok (.getfield 30, 3) := by decide +kernel
theorem dX0_addSignature_17 : decode cX0_addSignature 17 = .ok (.iload_n 1, 1) := by decide +kernel
theorem dX0_addSignature_18 : decode cX0_addSignature 18 = .ok (.aaload, 1) := by decide +kernel
theorem dX0_addSignature_19 : decode cX0_addSignature 19 = .ok (.astore 5, 2) := by decide +kernel
theorem dX0_addSignature_21 : decode cX0_addSignature 21 = .ok (.iload_n 2, 1) := by decide +kernel
theorem dX0_addSignature_22 : decode cX0_addSignature 22 = .ok (.iconst 1, 1) := by decide +kernel
theorem dX0_addSignature_23 : decode cX0_addSignature 23 = .ok (.bipush 99, 2) := by decide +kernel
theorem dX0_addSignature_25 : decode cX0_addSignature 25 = .ok (.invokestatic 18, 3) := by decide +kernel
theorem dX0_addSignature_28 : decode cX0_addSignature 28 = .ok (.ifCond .eq 16, 3) := by decide +kernel
theorem dX0_addSignature_31 : decode cX0_addSignature 31 = .ok (.iload_n 3, 1) := by decide +kernel
theorem dX0_addSignature_32 : decode cX0_addSignature 32 = .ok (.iconst 1, 1) := by decide +kernel
theorem dX0_addSignature_33 : decode cX0_addSignature 33 = .ok (.iconst 3, 1) := by decide +kernel
theorem dX0_addSignature_34 : decode cX0_addSignature 34 = .ok (.invokestatic 18, 3) := by decide +kernel
theorem dX0_addSignature_37 : decode cX0_addSignature 37 = .ok (.ifCond .eq 7, 3) := by decide +kernel
theorem dX0_addSignature_40 : decode cX0_addSignature 40 = .ok (.iconst 1, 1) := by decide +kernel
theorem dX0_addSignature_41 : decode cX0_addSignature 41 = .ok (.goto 4, 3) := by decide +kernel
theorem dX0_addSignature_44 : decode cX0_addSignature 44 = .ok (.iconst 0, 1) := by decide +kernel
theorem dX0_addSignature_45 : decode cX0_addSignature 45 = .ok (.istore 6, 2) := by decide +kernel
theorem dX0_addSignature_47 : decode cX0_addSignature 47 = .ok (.iload 6, 2) := by decide +kernel
theorem dX0_addSignature_49 : decode cX0_addSignature 49 = .ok (.ifCond .ne 10, 3) := by decide +kernel
theorem dX0_addSignature_52 : decode cX0_addSignature 52 = .ok (.aload_n 0, 1) := by decide +kernel
theorem dX0_addSignature_53 : decode cX0_addSignature 53 = .ok (.iconst 1, 1) := by decide +kernel
theorem dX0_addSignature_54 : decode cX0_addSignature 54 = .ok (.iconst 0, 1) := by decide +kernel
theorem dX0_addSignature_55 : decode cX0_addSignature 55 = .ok (.invokevirtual 22, 3) := by decide +kernel
theorem dX0_addSignature_58 : decode cX0_addSignature 58 = .ok (.ireturn, 1) := by decide +kernel
theorem dX0_addSignature_59 : decode cX0_addSignature 59 = .ok (.aload 5, 2) := by decide +kernel
theorem dX0_addSignature_61 : decode cX0_addSignature 61 = .ok (.getfield 44, 3) := by decide +kernel
theorem dX0_addSignature_64 : decode cX0_addSignature 64 = .ok (.bipush 12, 2) := by decide +kernel
theorem dX0_addSignature_66 : decode cX0_addSignature 66 = .ok (.if_icmp .lt 11, 3) := by decide +kernel
theorem dX0_addSignature_69 : decode cX0_addSignature 69 = .ok (.aload_n 0, 1) := by decide +kernel
theorem dX0_addSignature_70 : decode cX0_addSignature 70 = .ok (.iconst 2, 1) := by decide +kernel
theorem dX0_addSignature_71 : decode cX0_addSignature 71 = .ok (.bipush 12, 2) := by decide +kernel
theorem ab_k227_0 (K : ab_Kt) : ∀ q ∈ ab_l227_0, ab_OK K ab_mt ab_g227 q.1 q.2 := by
  unfold ab_l227_0
  exact List.forall_mem_cons.mpr ⟨ab_aload_n_ok dX0_addSignature_0 rfl, List.forall_mem_cons.mpr ⟨ab_iload_n_ok dX0_addSignature_1 rfl, List.forall_mem_cons.mpr ⟨ab_callV_ok' (G' := ab_g261) (C := RX0) (T := TX0) (N := 5) dX0_addSignature_2 ab_m261 rfl rfl (by decide) (by decide) (ab_l4 ab_w1194 ab_w1195 ab_w1196 ab_w313) ab_w1197 rfl ⟨by decide, by decide, by decide +kernel⟩, List.forall_mem_cons.mpr ⟨ab_if_eq_ok dX0_addSignature_5 (by decide), List.forall_mem_cons.mpr ⟨ab_iconst_ok dX0_addSignature_8 (by decide), List.forall_mem_cons.mpr ⟨ab_iret_ok dX0_addSignature_9 rfl, List.forall_mem_cons.mpr ⟨ab_aload_n_ok dX0_addSignature_10 rfl, List.forall_mem_cons.mpr ⟨ab_getf_ok (C := RX0) (T := TX0) (N := 5) (ci := 4) (k := 0) dX0_addSignature_11 rfl ab_ic4 (by decide) ab_w698, List.forall_mem_cons.mpr ⟨ab_getf_ok (C := RX5) (T := TX5) (N := 10) (ci := 9) (k := 0) dX0_addSignature_14 rfl ab_ic9 (by decide) ab_w1159, List.forall_mem_cons.mpr ⟨ab_iload_n_ok dX0_addSignature_17 rfl, List.forall_mem_cons.mpr ⟨ab_aald_ok dX0_addSignature_18 rfl, List.forall_mem_cons.mpr ⟨ab_astore_ok dX0_addSignature_19, List.forall_mem_cons.mpr ⟨ab_iload_n_ok dX0_addSignature_21 rfl, List.forall_mem_cons.mpr ⟨ab_iconst_ok dX0_addSignature_22 (by decide), List.forall_mem_cons.mpr ⟨ab_bipush_ok dX0_addSignature_23 (by decide), List.forall_mem_cons.mpr ⟨ab_callS_ok' (G' := ab_g255) dX0_addSignature_25 ab_m255 (by decide) (by decide) (ab_l3 ab_w1144 ab_w1145 ab_w313) ab_w1146 rfl ⟨by decide, by decide, by decide +kernel⟩, List.forall_mem_cons.mpr ⟨ab_if_eq_ok dX0_addSignature_28 (by decide), List.forall_mem_cons.mpr ⟨ab_iload_n_ok dX0_addSignature_31 rfl, List.forall_mem_cons.mpr ⟨ab_iconst_ok dX0_addSignature_32 (by decide), List.forall_mem_cons.mpr ⟨ab_iconst_ok dX0_addSignature_33 (by decide), List.forall_mem_cons.mpr ⟨ab_callS_ok' (G' := ab_g255) dX0_addSignature_34 ab_m255 (by decide) (by decide) (ab_l3 ab_w1144 ab_w1145 ab_w313) ab_w1146 rfl ⟨by decide, by decide, by decide +kernel⟩, List.forall_mem_cons.mpr ⟨ab_if_eq_ok dX0_addSignature_37 (by decide), List.forall_mem_cons.mpr ⟨ab_iconst_ok dX0_addSignature_40 (by decide), List.forall_mem_cons.mpr ⟨ab_goto_ok dX0_addSignature_41 (by decide), List.forall_mem_cons.mpr ⟨ab_iconst_ok dX0_addSignature_44 (by decide), List.forall_mem_cons.mpr ⟨ab_istore_ok dX0_addSignature_45, List.forall_mem_cons.mpr ⟨ab_iload_ok dX0_addSignature_47, List.forall_mem_cons.mpr ⟨ab_if_ne_ok dX0_addSignature_49 (by decide), List.forall_mem_cons.mpr ⟨ab_aload_n_ok dX0_addSignature_52 rfl, List.forall_mem_cons.mpr ⟨ab_iconst_ok dX0_addSignature_53 (by decide), List.forall_mem_cons.mpr ⟨ab_iconst_ok dX0_addSignature_54 (by decide), List.forall_mem_cons.mpr ⟨ab_callV_ok' (G' := ab_g256) (C := RX0) (T := TX0) (N := 5) dX0_addSignature_55 ab_m256 rfl rfl (by decide) (by decide) (ab_l4 ab_w1147 ab_w1148 ab_w1149 ab_w313) ab_w1150 rfl ⟨by decide, by decide, by decide +kernel⟩, List.forall_mem_cons.mpr ⟨ab_iret_ok dX0_addSignature_58 rfl, List.forall_mem_cons.mpr ⟨ab_aload_ok dX0_addSignature_59, List.forall_mem_cons.mpr ⟨ab_getf_ok (C := RX1) (T := TX1) (N := 13) (ci := 5) (k := 3) dX0_addSignature_61 rfl ab_ic5 (by decide) ab_w1184, List.forall_mem_cons.mpr ⟨ab_bipush_ok dX0_addSignature_64 (by decide), List.forall_mem_cons.mpr ⟨ab_icmp_lt_ok dX0_addSignature_66 (by decide), List.forall_mem_cons.mpr ⟨ab_aload_n_ok dX0_addSignature_69 rfl, List.forall_mem_cons.mpr ⟨ab_iconst_ok dX0_addSignature_70 (by decide), List.forall_mem_cons.mpr ⟨ab_bipush_ok dX0_addSignature_71 (by decide), fun _ h => absurd h List.not_mem_nil⟩⟩⟩⟩⟩⟩⟩⟩⟩⟩⟩⟩⟩⟩⟩⟩⟩⟩⟩⟩⟩⟩⟩⟩⟩⟩⟩⟩⟩⟩⟩⟩⟩⟩⟩⟩⟩⟩⟩⟩
theorem dX0_addSignature_73 : decode cX0_addSignature 73 = .ok (.invokevirtual 22, 3) := by decide +kernel
theorem dX0_addSignature_76 : decode cX0_addSignature 76 = .ok (.ireturn, 1) := by decide +kernel
theorem dX0_addSignature_77 : decode cX0_addSignature 77 = .ok (.aload 5, 2) := by decide +kernel
theorem dX0_addSignature_79 : decode cX0_addSignature 79 = .ok (.getfield 44, 3) := by decide +kernel
theorem dX0_addSignature_82 : decode cX0_addSignature 82 = .ok (.istore 7, 2) := by decide +kernel
theorem dX0_addSignature_84 : decode cX0_addSignature 84 = .ok (.aload 5, 2) := by decide +kernel
theorem dX0_addSignature_86 : decode cX0_addSignature 86 = .ok (.iload 7, 2) := by decide +kernel
theorem dX0_addSignature_88 : decode cX0_addSignature 88 = .ok (.iload_n 2, 1) := by decide +kernel
theorem dX0_addSignature_89 : decode cX0_addSignature 89 = .ok (.iload_n 3, 1) := by decide +kernel
theorem dX0_addSignature_90 : decode cX0_addSignature 90 = .ok (.iload 4, 2) := by decide +kernel
theorem dX0_addSignature_92 : decode cX0_addSignature 92 = .ok (.invokevirtual 47, 3) := by decide +kernel
theorem dX0_addSignature_95 : decode cX0_addSignature 95 = .ok (.aload 5, 2) := by decide +kernel
theorem dX0_addSignature_97 : decode cX0_addSignature 97 = .ok (.dup, 1) := by decide +kernel
theorem dX0_addSignature_98 : decode cX0_addSignature 98 = .ok (.getfield 44, 3) := by decide +kernel
theorem dX0_addSignature_101 : decode cX0_addSignature 101 = .ok (.iconst 1, 1) := by decide +kernel
theorem dX0_addSignature_102 : decode cX0_addSignature 102 = .ok (.iadd, 1) := by decide +kernel
theorem dX0_addSignature_103 : decode cX0_addSignature 103 = .ok (.putfield 44, 3) := by decide +kernel
theorem dX0_addSignature_106 : decode cX0_addSignature 106 = .ok (.iload 7, 2) := by decide +kernel
theorem dX0_addSignature_108 : decode cX0_addSignature 108 = .ok (.ireturn, 1) := by decide +kernel
theorem ab_k227_1 (K : ab_Kt) : ∀ q ∈ ab_l227_1, ab_OK K ab_mt ab_g227 q.1 q.2 := by
  unfold ab_l227_1
  exact List.forall_mem_cons.mpr ⟨ab_callV_ok' (G' := ab_g256) (C := RX0) (T := TX0) (N := 5) dX0_addSignature_73 ab_m256 rfl rfl (by decide) (by decide) (ab_l4 ab_w1147 ab_w1148 ab_w1149 ab_w313) ab_w1150 rfl ⟨by decide, by decide, by decide +kernel⟩, List.forall_mem_cons.mpr ⟨ab_iret_ok dX0_addSignature_76 rfl, List.forall_mem_cons.mpr ⟨ab_aload_ok dX0_addSignature_77, List.forall_mem_cons.mpr ⟨ab_getf_ok (C := RX1) (T := TX1) (N := 13) (ci := 5) (k := 3) dX0_addSignature_79 rfl ab_ic5 (by decide) ab_w1184, List.forall_mem_cons.mpr ⟨ab_istore_ok dX0_addSignature_82, List.forall_mem_cons.mpr ⟨ab_aload_ok dX0_addSignature_84, List.forall_mem_cons.mpr ⟨ab_iload_ok dX0_addSignature_86, List.forall_mem_cons.mpr ⟨ab_iload_n_ok dX0_addSignature_88 rfl, List.forall_mem_cons.mpr ⟨ab_iload_n_ok dX0_addSignature_89 rfl, List.forall_mem_cons.mpr ⟨ab_iload_ok dX0_addSignature_90, List.forall_mem_cons.mpr ⟨ab_callV_ok' (G' := ab_g229) (C := RX1) (T := TX1) (N := 13) dX0_addSignature_92 ab_m229 rfl rfl (by decide) (by decide) (ab_l4 ab_w1203 ab_w1017 ab_w1018 ab_w711) ab_w1019 rfl ⟨by decide, by decide, by decide +kernel⟩, List.forall_mem_cons.mpr ⟨ab_aload_ok dX0_addSignature_95, List.forall_mem_cons.mpr ⟨ab_dup_ok dX0_addSignature_97, List.forall_mem_cons.mpr ⟨ab_getf_ok (C := RX1) (T := TX1) (N := 13) (ci := 5) (k := 3) dX0_addSignature_98 rfl ab_ic5 (by decide) ab_w1184, List.forall_mem_cons.mpr ⟨ab_iconst_ok dX0_addSignature_101 (by decide), List.forall_mem_cons.mpr ⟨ab_iadd_ok dX0_addSignature_102, List.forall_mem_cons.mpr ⟨ab_putf_ok (C := RX1) (T := TX1) (N := 13) (ci := 5) (k := 3) (ty0 := tyX1) dX0_addSignature_103 rfl ab_ic5 tyX1_ok nmX1 (by decide) ab_w1184 rfl (Or.inl rfl), List.forall_mem_cons.mpr ⟨ab_iload_ok dX0_addSignature_106, List.forall_mem_cons.mpr ⟨ab_iret_ok dX0_addSignature_108 rfl, fun _ h => absurd h List.not_mem_nil⟩⟩⟩⟩⟩⟩⟩⟩⟩⟩⟩⟩⟩⟩⟩⟩⟩⟩⟩
theorem ab_k227 (K : ab_Kt) : ∀ pc, ab_OK K ab_mt ab_g227 pc (ab_c227 pc) := ab_lk2_ok _ (List.forall_mem_cons.mpr ⟨ab_k227_0 K, List.forall_mem_cons.mpr ⟨ab_k227_1 K, fun _ h => absurd h List.not_mem_nil⟩⟩)
theorem dX0_planBook_0 : decode cX0_planBook 0 = .ok (.iload_n 1, 1) := by decide +kernel
theorem dX0_planBook_1 : decode cX0_planBook 1 = .ok (.iconst 4, 1) := by decide +kernel
theorem dX0_planBook_2 : decode cX0_planBook 2 = .ok (.bipush 96, 2) := by decide +kernel
theorem dX0_planBook_4 : decode cX0_planBook 4 = .ok (.invokestatic 18, 3) := by decide +kernel
theorem dX0_planBook_7 : decode cX0_planBook 7 = .ok (.ifCond .eq 16, 3) := by decide +kernel
theorem dX0_planBook_10 : decode cX0_planBook 10 = .ok (.iload_n 2, 1) := by decide +kernel
theorem dX0_planBook_11 : decode cX0_planBook 11 = .ok (.iconst 2, 1) := by decide +kernel
theorem dX0_planBook_12 : decode cX0_planBook 12 = .ok (.iconst 5, 1) := by decide +kernel
theorem dX0_planBook_13 : decode cX0_planBook 13 = .ok (.invokestatic 18, 3) := by decide +kernel
theorem dX0_planBook_16 : decode cX0_planBook 16 = .ok (.ifCond .eq 7, 3) := by decide +kernel
theorem dX0_planBook_19 : decode cX0_planBook 19 = .ok (.iconst 1, 1) := by decide +kernel
theorem dX0_planBook_20 : decode cX0_planBook 20 = .ok (.goto 4, 3) := by decide +kernel
theorem dX0_planBook_23 : decode cX0_planBook 23 = .ok (.iconst 0, 1) := by decide +kernel
theorem dX0_planBook_24 : decode cX0_planBook 24 = .ok (.istore_n 3, 1) := by decide +kernel
theorem dX0_planBook_25 : decode cX0_planBook 25 = .ok (.iload_n 3, 1) := by decide +kernel
theorem dX0_planBook_26 : decode cX0_planBook 26 = .ok (.ifCond .ne 10, 3) := by decide +kernel
theorem dX0_planBook_29 : decode cX0_planBook 29 = .ok (.aload_n 0, 1) := by decide +kernel
theorem dX0_planBook_30 : decode cX0_planBook 30 = .ok (.iconst 1, 1) := by decide +kernel
theorem dX0_planBook_31 : decode cX0_planBook 31 = .ok (.iconst 0, 1) := by decide +kernel
theorem dX0_planBook_32 : decode cX0_planBook 32 = .ok (.invokevirtual 22, 3) := by decide +kernel
theorem dX0_planBook_35 : decode cX0_planBook 35 = .ok (.ireturn, 1) := by decide +kernel
theorem dX0_planBook_36 : decode cX0_planBook 36 = .ok (.aload_n 0, 1) := by decide +kernel
theorem dX0_planBook_37 : decode cX0_planBook 37 = .ok (.getfield 12, 3) := by decide +kernel
theorem dX0_planBook_40 : decode cX0_planBook 40 = .ok (.getfield 26, 3) := by decide +kernel
theorem dX0_planBook_43 : decode cX0_planBook 43 = .ok (.bipush 6, 2) := by decide +kernel
theorem dX0_planBook_45 : decode cX0_planBook 45 = .ok (.if_icmp .lt 11, 3) := by decide +kernel
theorem dX0_planBook_48 : decode cX0_planBook 48 = .ok (.aload_n 0, 1) := by decide +kernel
theorem dX0_planBook_49 : decode cX0_planBook 49 = .ok (.iconst 2, 1) := by decide +kernel
theorem dX0_planBook_50 : decode cX0_planBook 50 = .ok (.bipush 6, 2) := by decide +kernel
theorem dX0_planBook_52 : decode cX0_planBook 52 = .ok (.invokevirtual 22, 3) := by decide +kernel
theorem dX0_planBook_55 : decode cX0_planBook 55 = .ok (.ireturn, 1) := by decide +kernel
theorem dX0_planBook_56 : decode cX0_planBook 56 = .ok (.aload_n 0, 1) := by decide +kernel
theorem dX0_planBook_57 : decode cX0_planBook 57 = .ok (.getfield 12, 3) := by decide +kernel
theorem dX0_planBook_60 : decode cX0_planBook 60 = .ok (.getfield 26, 3) := by decide +kernel
theorem dX0_planBook_63 : decode cX0_planBook 63 = .ok (.istore 4, 2) := by decide +kernel
theorem dX0_planBook_65 : decode cX0_planBook 65 = .ok (.aload_n 0, 1) := by decide +kernel
theorem dX0_planBook_66 : decode cX0_planBook 66 = .ok (.getfield 12, 3) := by decide +kernel
theorem dX0_planBook_69 : decode cX0_planBook 69 = .ok (.getfield 30, 3) := by decide +kernel
theorem dX0_planBook_72 : decode cX0_planBook 72 = .ok (.iload 4, 2) := by decide +kernel
theorem dX0_planBook_74 : decode cX0_planBook 74 = .ok (.aaload, 1) := by decide +kernel
theorem ab_k228_0 (K : ab_Kt) : ∀ q ∈ ab_l228_0, ab_OK K ab_mt ab_g228 q.1 q.2 := by
  unfold ab_l228_0
  exact List.forall_mem_cons.mpr ⟨ab_iload_n_ok dX0_planBook_0 rfl, List.forall_mem_cons.mpr ⟨ab_iconst_ok dX0_planBook_1 (by decide), List.forall_mem_cons.mpr ⟨ab_bipush_ok dX0_planBook_2 (by decide), List.forall_mem_cons.mpr ⟨ab_callS_ok' (G' := ab_g255) dX0_planBook_4 ab_m255 (by decide) (by decide) (ab_l3 ab_w1144 ab_w1145 ab_w313) ab_w1146 rfl ⟨by decide, by decide, by decide +kernel⟩, List.forall_mem_cons.mpr ⟨ab_if_eq_ok dX0_planBook_7 (by decide), List.forall_mem_cons.mpr ⟨ab_iload_n_ok dX0_planBook_10 rfl, List.forall_mem_cons.mpr ⟨ab_iconst_ok dX0_planBook_11 (by decide), List.forall_mem_cons.mpr ⟨ab_iconst_ok dX0_planBook_12 (by decide), List.forall_mem_cons.mpr ⟨ab_callS_ok' (G' := ab_g255) dX0_planBook_13 ab_m255 (by decide) (by decide) (ab_l3 ab_w1144 ab_w1145 ab_w313) ab_w1146 rfl ⟨by decide, by decide, by decide +kernel⟩, List.forall_mem_cons.mpr ⟨ab_if_eq_ok dX0_planBook_16 (by decide), List.forall_mem_cons.mpr ⟨ab_iconst_ok dX0_planBook_19 (by decide), List.forall_mem_cons.mpr ⟨ab_goto_ok dX0_planBook_20 (by decide), List.forall_mem_cons.mpr ⟨ab_iconst_ok dX0_planBook_23 (by decide), List.forall_mem_cons.mpr ⟨ab_istore_n_ok dX0_planBook_24 rfl, List.forall_mem_cons.mpr ⟨ab_iload_n_ok dX0_planBook_25 rfl, List.forall_mem_cons.mpr ⟨ab_if_ne_ok dX0_planBook_26 (by decide), List.forall_mem_cons.mpr ⟨ab_aload_n_ok dX0_planBook_29 rfl, List.forall_mem_cons.mpr ⟨ab_iconst_ok dX0_planBook_30 (by decide), List.forall_mem_cons.mpr ⟨ab_iconst_ok dX0_planBook_31 (by decide), List.forall_mem_cons.mpr ⟨ab_callV_ok' (G' := ab_g256) (C := RX0) (T := TX0) (N := 5) dX0_planBook_32 ab_m256 rfl rfl (by decide) (by decide) (ab_l4 ab_w1147 ab_w1148 ab_w1149 ab_w313) ab_w1150 rfl ⟨by decide, by decide, by decide +kernel⟩, List.forall_mem_cons.mpr ⟨ab_iret_ok dX0_planBook_35 rfl, List.forall_mem_cons.mpr ⟨ab_aload_n_ok dX0_planBook_36 rfl, List.forall_mem_cons.mpr ⟨ab_getf_ok (C := RX0) (T := TX0) (N := 5) (ci := 4) (k := 0) dX0_planBook_37 rfl ab_ic4 (by decide) ab_w698, List.forall_mem_cons.mpr ⟨ab_getf_ok (C := RX5) (T := TX5) (N := 10) (ci := 9) (k := 2) dX0_planBook_40 rfl ab_ic9 (by decide) ab_w1204, List.forall_mem_cons.mpr ⟨ab_bipush_ok dX0_planBook_43 (by decide), List.forall_mem_cons.mpr ⟨ab_icmp_lt_ok dX0_planBook_45 (by decide), List.forall_mem_cons.mpr ⟨ab_aload_n_ok dX0_planBook_48 rfl, List.forall_mem_cons.mpr ⟨ab_iconst_ok dX0_planBook_49 (by decide), List.forall_mem_cons.mpr ⟨ab_bipush_ok dX0_planBook_50 (by decide), List.forall_mem_cons.mpr ⟨ab_callV_ok' (G' := ab_g256) (C := RX0) (T := TX0) (N := 5) dX0_planBook_52 ab_m256 rfl rfl (by decide) (by decide) (ab_l4 ab_w1147 ab_w1148 ab_w1149 ab_w313) ab_w1150 rfl ⟨by decide, by decide, by decide +kernel⟩, List.forall_mem_cons.mpr ⟨ab_iret_ok dX0_planBook_55 rfl, List.forall_mem_cons.mpr ⟨ab_aload_n_ok dX0_planBook_56 rfl, List.forall_mem_cons.mpr ⟨ab_getf_ok (C := RX0) (T := TX0) (N := 5) (ci := 4) (k := 0) dX0_planBook_57 rfl ab_ic4 (by decide) ab_w698, List.forall_mem_cons.mpr ⟨ab_getf_ok (C := RX5) (T := TX5) (N := 10) (ci := 9) (k := 2) dX0_planBook_60 rfl ab_ic9 (by decide) ab_w1204, List.forall_mem_cons.mpr ⟨ab_istore_ok dX0_planBook_63, List.forall_mem_cons.mpr ⟨ab_aload_n_ok dX0_planBook_65 rfl, List.forall_mem_cons.mpr ⟨ab_getf_ok (C := RX0) (T := TX0) (N := 5) (ci := 4) (k := 0) dX0_planBook_66 rfl ab_ic4 (by decide) ab_w698, List.forall_mem_cons.mpr ⟨ab_getf_ok (C := RX5) (T := TX5) (N := 10) (ci := 9) (k := 0) dX0_planBook_69 rfl ab_ic9 (by decide) ab_w1159, List.forall_mem_cons.mpr ⟨ab_iload_ok dX0_planBook_72, List.forall_mem_cons.mpr ⟨ab_aald_ok dX0_planBook_74 rfl, fun _ h => absurd h List.not_mem_nil⟩⟩⟩⟩⟩⟩⟩⟩⟩⟩⟩⟩⟩⟩⟩⟩⟩⟩⟩⟩⟩⟩⟩⟩⟩⟩⟩⟩⟩⟩⟩⟩⟩⟩⟩⟩⟩⟩⟩⟩
theorem dX0_planBook_75 : decode cX0_planBook 75 = .ok (.iload_n 1, 1) := by decide +kernel
theorem dX0_planBook_76 : decode cX0_planBook 76 = .ok (.iload_n 2, 1) := by decide +kernel
theorem dX0_planBook_77 : decode cX0_planBook 77 = .ok (.invokevirtual 34, 3) := by decide +kernel
theorem dX0_planBook_80 : decode cX0_planBook 80 = .ok (.aload_n 0, 1) := by decide +kernel
theorem dX0_planBook_81 : decode cX0_planBook 81 = .ok (.getfield 12, 3) := by decide +kernel
theorem dX0_planBook_84 : decode cX0_planBook 84 = .ok (.dup, 1) := by decide +kernel
theorem dX0_planBook_85 : decode cX0_planBook 85 = .ok (.getfield 26, 3) := by decide +kernel
theorem dX0_planBook_88 : decode cX0_planBook 88 = .ok (.iconst 1, 1) := by decide +kernel
theorem dX0_planBook_89 : decode cX0_planBook 89 = .ok (.iadd, 1) := by decide +kernel
theorem dX0_planBook_90 : decode cX0_planBook 90 = .ok (.putfield 26, 3) := by decide +kernel
theorem dX0_planBook_93 : decode cX0_planBook 93 = .ok (.iload 4, 2) := by decide +kernel
theorem dX0_planBook_95 : decode cX0_planBook 95 = .ok (.ireturn, 1) := by decide +kernel
theorem ab_k228_1 (K : ab_Kt) : ∀ q ∈ ab_l228_1, ab_OK K ab_mt ab_g228 q.1 q.2 := by
  unfold ab_l228_1
  exact List.forall_mem_cons.mpr ⟨ab_iload_n_ok dX0_planBook_75 rfl, List.forall_mem_cons.mpr ⟨ab_iload_n_ok dX0_planBook_76 rfl, List.forall_mem_cons.mpr ⟨ab_callV_ok' (G' := ab_g263) (C := RX1) (T := TX1) (N := 13) dX0_planBook_77 ab_m263 rfl rfl (by decide) (by decide) (ab_l4 ab_w1205 ab_w1206 ab_w1207 ab_w711) ab_w1208 rfl ⟨by decide, by decide, by decide +kernel⟩, List.forall_mem_cons.mpr ⟨ab_aload_n_ok dX0_planBook_80 rfl, List.forall_mem_cons.mpr ⟨ab_getf_ok (C := RX0) (T := TX0) (N := 5) (ci := 4) (k := 0) dX0_planBook_81 rfl ab_ic4 (by decide) ab_w698, List.forall_mem_cons.mpr ⟨ab_dup_ok dX0_planBook_84, List.forall_mem_cons.mpr ⟨ab_getf_ok (C := RX5) (T := TX5) (N := 10) (ci := 9) (k := 2) dX0_planBook_85 rfl ab_ic9 (by decide) ab_w1204, List.forall_mem_cons.mpr ⟨ab_iconst_ok dX0_planBook_88 (by decide), List.forall_mem_cons.mpr ⟨ab_iadd_ok dX0_planBook_89, List.forall_mem_cons.mpr ⟨ab_putf_ok (C := RX5) (T := TX5) (N := 10) (ci := 9) (k := 2) (ty0 := tyX5) dX0_planBook_90 rfl ab_ic9 tyX5_ok nmX5 (by decide) ab_w1204 rfl (Or.inl rfl), List.forall_mem_cons.mpr ⟨ab_iload_ok dX0_planBook_93, List.forall_mem_cons.mpr ⟨ab_iret_ok dX0_planBook_95 rfl, fun _ h => absurd h List.not_mem_nil⟩⟩⟩⟩⟩⟩⟩⟩⟩⟩⟩⟩
theorem ab_k228 (K : ab_Kt) : ∀ pc, ab_OK K ab_mt ab_g228 pc (ab_c228 pc) := ab_lk2_ok _ (List.forall_mem_cons.mpr ⟨ab_k228_0 K, List.forall_mem_cons.mpr ⟨ab_k228_1 K, fun _ h => absurd h List.not_mem_nil⟩⟩)
theorem dX1_put_0 : decode cX1_put 0 = .ok (.aload_n 0, 1) := by decide +kernel
theorem dX1_put_1 : decode cX1_put 1 = .ok (.getfield 15, 3) := by decide +kernel
theorem dX1_put_4 : decode cX1_put 4 = .ok (.iload_n 1, 1) := by decide +kernel
theorem dX1_put_5 : decode cX1_put 5 = .ok (.iload_n 2, 1) := by decide +kernel
theorem dX1_put_6 : decode cX1_put 6 = .ok (.iastore, 1) := by decide +kernel
theorem dX1_put_7 : decode cX1_put 7 = .ok (.aload_n 0, 1) := by decide +kernel
theorem dX1_put_8 : decode cX1_put 8 = .ok (.getfield 19, 3) := by decide +kernel
theorem dX1_put_11 : decode cX1_put 11 = .ok (.iload_n 1, 1) := by decide +kernel
theorem dX1_put_12 : decode cX1_put 12 = .ok (.iload_n 2, 1) := by decide +kernel
theorem dX1_put_13 : decode cX1_put 13 = .ok (.iconst 2, 1) := by decide +kernel
theorem dX1_put_14 : decode cX1_put 14 = .ok (.iload_n 3, 1) := by decide +kernel
theorem dX1_put_15 : decode cX1_put 15 = .ok (.ishl, 1) := by decide +kernel
theorem dX1_put_16 : decode cX1_put 16 = .ok (.iadd, 1) := by decide +kernel
theorem dX1_put_17 : decode cX1_put 17 = .ok (.iconst 1, 1) := by decide +kernel
theorem dX1_put_18 : decode cX1_put 18 = .ok (.isub, 1) := by decide +kernel
theorem dX1_put_19 : decode cX1_put 19 = .ok (.iastore, 1) := by decide +kernel
theorem dX1_put_20 : decode cX1_put 20 = .ok (.aload_n 0, 1) := by decide +kernel
theorem dX1_put_21 : decode cX1_put 21 = .ok (.getfield 22, 3) := by decide +kernel
theorem dX1_put_24 : decode cX1_put 24 = .ok (.iload_n 1, 1) := by decide +kernel
theorem dX1_put_25 : decode cX1_put 25 = .ok (.iload_n 3, 1) := by decide +kernel
theorem dX1_put_26 : decode cX1_put 26 = .ok (.iastore, 1) := by decide +kernel
theorem dX1_put_27 : decode cX1_put 27 = .ok (.aload_n 0, 1) := by decide +kernel
theorem dX1_put_28 : decode cX1_put 28 = .ok (.getfield 25, 3) := by decide +kernel
theorem dX1_put_31 : decode cX1_put 31 = .ok (.iload_n 1, 1) := by decide +kernel
theorem dX1_put_32 : decode cX1_put 32 = .ok (.iload 4, 2) := by decide +kernel
theorem dX1_put_34 : decode cX1_put 34 = .ok (.bastore, 1) := by decide +kernel
theorem dX1_put_35 : decode cX1_put 35 = .ok (.return_, 1) := by decide +kernel
theorem ab_k229_0 (K : ab_Kt) : ∀ q ∈ ab_l229_0, ab_OK K ab_mt ab_g229 q.1 q.2 := by
  unfold ab_l229_0
  exact List.forall_mem_cons.mpr ⟨ab_aload_n_ok dX1_put_0 rfl, List.forall_mem_cons.mpr ⟨ab_getf_ok (C := RX1) (T := TX1) (N := 13) (ci := 5) (k := 8) dX1_put_1 rfl ab_ic5 (by decide) ab_w995, List.forall_mem_cons.mpr ⟨ab_iload_n_ok dX1_put_4 rfl, List.forall_mem_cons.mpr ⟨ab_iload_n_ok dX1_put_5 rfl, List.forall_mem_cons.mpr ⟨ab_ast0_ok dX1_put_6, List.forall_mem_cons.mpr ⟨ab_aload_n_ok dX1_put_7 rfl, List.forall_mem_cons.mpr ⟨ab_getf_ok (C := RX1) (T := TX1) (N := 13) (ci := 5) (k := 9) dX1_put_8 rfl ab_ic5 (by decide) ab_w996, List.forall_mem_cons.mpr ⟨ab_iload_n_ok dX1_put_11 rfl, List.forall_mem_cons.mpr ⟨ab_iload_n_ok dX1_put_12 rfl, List.forall_mem_cons.mpr ⟨ab_iconst_ok dX1_put_13 (by decide), List.forall_mem_cons.mpr ⟨ab_iload_n_ok dX1_put_14 rfl, List.forall_mem_cons.mpr ⟨ab_ishl_ok dX1_put_15, List.forall_mem_cons.mpr ⟨ab_iadd_ok dX1_put_16, List.forall_mem_cons.mpr ⟨ab_iconst_ok dX1_put_17 (by decide), List.forall_mem_cons.mpr ⟨ab_isub_ok dX1_put_18, List.forall_mem_cons.mpr ⟨ab_ast0_ok dX1_put_19, List.forall_mem_cons.mpr ⟨ab_aload_n_ok dX1_put_20 rfl, List.forall_mem_cons.mpr ⟨ab_getf_ok (C := RX1) (T := TX1) (N := 13) (ci := 5) (k := 10) dX1_put_21 rfl ab_ic5 (by decide) ab_w997, List.forall_mem_cons.mpr ⟨ab_iload_n_ok dX1_put_24 rfl, List.forall_mem_cons.mpr ⟨ab_iload_n_ok dX1_put_25 rfl, List.forall_mem_cons.mpr ⟨ab_ast0_ok dX1_put_26, List.forall_mem_cons.mpr ⟨ab_aload_n_ok dX1_put_27 rfl, List.forall_mem_cons.mpr ⟨ab_getf_ok (C := RX1) (T := TX1) (N := 13) (ci := 5) (k := 11) dX1_put_28 rfl ab_ic5 (by decide) ab_w999, List.forall_mem_cons.mpr ⟨ab_iload_n_ok dX1_put_31 rfl, List.forall_mem_cons.mpr ⟨ab_iload_ok dX1_put_32, List.forall_mem_cons.mpr ⟨ab_ast1_ok dX1_put_34, List.forall_mem_cons.mpr ⟨ab_vret_ok dX1_put_35 rfl, fun _ h => absurd h List.not_mem_nil⟩⟩⟩⟩⟩⟩⟩⟩⟩⟩⟩⟩⟩⟩⟩⟩⟩⟩⟩⟩⟩⟩⟩⟩⟩⟩⟩
theorem ab_k229 (K : ab_Kt) : ∀ pc, ab_OK K ab_mt ab_g229 pc (ab_c229 pc) := ab_lk2_ok _ (List.forall_mem_cons.mpr ⟨ab_k229_0 K, fun _ h => absurd h List.not_mem_nil⟩)
theorem dX5_hasBook_0 : decode cX5_hasBook 0 = .ok (.iload_n 1, 1) := by decide +kernel
theorem dX5_hasBook_1 : decode cX5_hasBook 1 = .ok (.ifCond .lt 15, 3) := by decide +kernel
theorem dX5_hasBook_4 : decode cX5_hasBook 4 = .ok (.iload_n 1, 1) := by decide +kernel
theorem dX5_hasBook_5 : decode cX5_hasBook 5 = .ok (.aload_n 0, 1) := by decide +kernel
theorem dX5_hasBook_6 : decode cX5_hasBook 6 = .ok (.getfield 39, 3) := by decide +kernel
theorem dX5_hasBook_9 : decode cX5_hasBook 9 = .ok (.if_icmp .ge 7, 3) := by decide +kernel
theorem dX5_hasBook_12 : decode cX5_hasBook 12 = .ok (.iconst 1, 1) := by decide +kernel
theorem dX5_hasBook_13 : decode cX5_hasBook 13 = .ok (.goto 4, 3) := by decide +kernel
theorem dX5_hasBook_16 : decode cX5_hasBook 16 = .ok (.iconst 0, 1) := by decide +kernel
theorem dX5_hasBook_17 : decode cX5_hasBook 17 = .ok (.ireturn, 1) := by decide +kernel
theorem ab_k230_0 (K : ab_Kt) : ∀ q ∈ ab_l230_0, ab_OK K ab_mt ab_g230 q.1 q.2 := by
  unfold ab_l230_0
  exact List.forall_mem_cons.mpr ⟨ab_iload_n_ok dX5_hasBook_0 rfl, List.forall_mem_cons.mpr ⟨ab_if_lt_ok dX5_hasBook_1 (by decide), List.forall_mem_cons.mpr ⟨ab_iload_n_ok dX5_hasBook_4 rfl, List.forall_mem_cons.mpr ⟨ab_aload_n_ok dX5_hasBook_5 rfl, List.forall_mem_cons.mpr ⟨ab_getf_ok (C := RX5) (T := TX5) (N := 10) (ci := 9) (k := 2) dX5_hasBook_6 rfl ab_ic9 (by decide) ab_w739, List.forall_mem_cons.mpr ⟨ab_icmp_ge_ok dX5_hasBook_9 (by decide), List.forall_mem_cons.mpr ⟨ab_iconst_ok dX5_hasBook_12 (by decide), List.forall_mem_cons.mpr ⟨ab_goto_ok dX5_hasBook_13 (by decide), List.forall_mem_cons.mpr ⟨ab_iconst_ok dX5_hasBook_16 (by decide), List.forall_mem_cons.mpr ⟨ab_zret_ok dX5_hasBook_17 rfl, fun _ h => absurd h List.not_mem_nil⟩⟩⟩⟩⟩⟩⟩⟩⟩⟩
theorem ab_k230 (K : ab_Kt) : ∀ pc, ab_OK K ab_mt ab_g230 pc (ab_c230 pc) := ab_lk2_ok _ (List.forall_mem_cons.mpr ⟨ab_k230_0 K, fun _ h => absurd h List.not_mem_nil⟩)
theorem dX1_sizeOf_0 : decode cX1_sizeOf 0 = .ok (.aload_n 0, 1) := by decide +kernel
theorem dX1_sizeOf_1 : decode cX1_sizeOf 1 = .ok (.getfield 19, 3) := by decide +kernel
theorem dX1_sizeOf_4 : decode cX1_sizeOf 4 = .ok (.iload_n 1, 1) := by decide +kernel
theorem dX1_sizeOf_5 : decode cX1_sizeOf 5 = .ok (.iaload, 1) := by decide +kernel
theorem dX1_sizeOf_6 : decode cX1_sizeOf 6 = .ok (.aload_n 0, 1) := by decide +kernel
theorem dX1_sizeOf_7 : decode cX1_sizeOf 7 = .ok (.getfield 15, 3) := by decide +kernel
theorem dX1_sizeOf_10 : decode cX1_sizeOf 10 = .ok (.iload_n 1, 1) := by decide +kernel
theorem dX1_sizeOf_11 : decode cX1_sizeOf 11 = .ok (.iaload, 1) := by decide +kernel
theorem dX1_sizeOf_12 : decode cX1_sizeOf 12 = .ok (.isub, 1) := by decide +kernel
theorem dX1_sizeOf_13 : decode cX1_sizeOf 13 = .ok (.iconst 1, 1) := by decide +kernel
theorem dX1_sizeOf_14 : decode cX1_sizeOf 14 = .ok (.iadd, 1) := by decide +kernel
theorem dX1_sizeOf_15 : decode cX1_sizeOf 15 = .ok (.ireturn, 1) := by decide +kernel
theorem ab_k231_0 (K : ab_Kt) : ∀ q ∈ ab_l231_0, ab_OK K ab_mt ab_g231 q.1 q.2 := by
  unfold ab_l231_0
  exact List.forall_mem_cons.mpr ⟨ab_aload_n_ok dX1_sizeOf_0 rfl, List.forall_mem_cons.mpr ⟨ab_getf_ok (C := RX1) (T := TX1) (N := 13) (ci := 5) (k := 9) dX1_sizeOf_1 rfl ab_ic5 (by decide) ab_w996, List.forall_mem_cons.mpr ⟨ab_iload_n_ok dX1_sizeOf_4 rfl, List.forall_mem_cons.mpr ⟨ab_ald0_ok dX1_sizeOf_5, List.forall_mem_cons.mpr ⟨ab_aload_n_ok dX1_sizeOf_6 rfl, List.forall_mem_cons.mpr ⟨ab_getf_ok (C := RX1) (T := TX1) (N := 13) (ci := 5) (k := 8) dX1_sizeOf_7 rfl ab_ic5 (by decide) ab_w995, List.forall_mem_cons.mpr ⟨ab_iload_n_ok dX1_sizeOf_10 rfl, List.forall_mem_cons.mpr ⟨ab_ald0_ok dX1_sizeOf_11, List.forall_mem_cons.mpr ⟨ab_isub_ok dX1_sizeOf_12, List.forall_mem_cons.mpr ⟨ab_iconst_ok dX1_sizeOf_13 (by decide), List.forall_mem_cons.mpr ⟨ab_iadd_ok dX1_sizeOf_14, List.forall_mem_cons.mpr ⟨ab_iret_ok dX1_sizeOf_15 rfl, fun _ h => absurd h List.not_mem_nil⟩⟩⟩⟩⟩⟩⟩⟩⟩⟩⟩⟩
theorem ab_k231 (K : ab_Kt) : ∀ pc, ab_OK K ab_mt ab_g231 pc (ab_c231 pc) := ab_lk2_ok _ (List.forall_mem_cons.mpr ⟨ab_k231_0 K, fun _ h => absurd h List.not_mem_nil⟩)
theorem dX1_leafed_0 : decode cX1_leafed 0 = .ok (.aload_n 0, 1) := by decide +kernel
theorem dX1_leafed_1 : decode cX1_leafed 1 = .ok (.getfield 25, 3) := by decide +kernel
theorem dX1_leafed_4 : decode cX1_leafed 4 = .ok (.iload_n 1, 1) := by decide +kernel
theorem dX1_leafed_5 : decode cX1_leafed 5 = .ok (.baload, 1) := by decide +kernel
theorem dX1_leafed_6 : decode cX1_leafed 6 = .ok (.ifCond .eq 14, 3) := by decide +kernel
theorem dX1_leafed_9 : decode cX1_leafed 9 = .ok (.aload_n 0, 1) := by decide +kernel
theorem dX1_leafed_10 : decode cX1_leafed 10 = .ok (.getfield 19, 3) := by decide +kernel
theorem dX1_leafed_13 : decode cX1_leafed 13 = .ok (.iload_n 1, 1) := by decide +kernel
theorem dX1_leafed_14 : decode cX1_leafed 14 = .ok (.iaload, 1) := by decide +kernel
theorem dX1_leafed_15 : decode cX1_leafed 15 = .ok (.iload_n 2, 1) := by decide +kernel
theorem dX1_leafed_16 : decode cX1_leafed 16 = .ok (.isub, 1) := by decide +kernel
theorem dX1_leafed_17 : decode cX1_leafed 17 = .ok (.goto 11, 3) := by decide +kernel
theorem dX1_leafed_20 : decode cX1_leafed 20 = .ok (.aload_n 0, 1) := by decide +kernel
theorem dX1_leafed_21 : decode cX1_leafed 21 = .ok (.getfield 15, 3) := by decide +kernel
theorem dX1_leafed_24 : decode cX1_leafed 24 = .ok (.iload_n 1, 1) := by decide +kernel
theorem dX1_leafed_25 : decode cX1_leafed 25 = .ok (.iaload, 1) := by decide +kernel
theorem dX1_leafed_26 : decode cX1_leafed 26 = .ok (.iload_n 2, 1) := by decide +kernel
theorem dX1_leafed_27 : decode cX1_leafed 27 = .ok (.iadd, 1) := by decide +kernel
theorem dX1_leafed_28 : decode cX1_leafed 28 = .ok (.ireturn, 1) := by decide +kernel
theorem ab_k232_0 (K : ab_Kt) : ∀ q ∈ ab_l232_0, ab_OK K ab_mt ab_g232 q.1 q.2 := by
  unfold ab_l232_0
  exact List.forall_mem_cons.mpr ⟨ab_aload_n_ok dX1_leafed_0 rfl, List.forall_mem_cons.mpr ⟨ab_getf_ok (C := RX1) (T := TX1) (N := 13) (ci := 5) (k := 11) dX1_leafed_1 rfl ab_ic5 (by decide) ab_w999, List.forall_mem_cons.mpr ⟨ab_iload_n_ok dX1_leafed_4 rfl, List.forall_mem_cons.mpr ⟨ab_ald1_ok dX1_leafed_5, List.forall_mem_cons.mpr ⟨ab_if_eq_ok dX1_leafed_6 (by decide), List.forall_mem_cons.mpr ⟨ab_aload_n_ok dX1_leafed_9 rfl, List.forall_mem_cons.mpr ⟨ab_getf_ok (C := RX1) (T := TX1) (N := 13) (ci := 5) (k := 9) dX1_leafed_10 rfl ab_ic5 (by decide) ab_w996, List.forall_mem_cons.mpr ⟨ab_iload_n_ok dX1_leafed_13 rfl, List.forall_mem_cons.mpr ⟨ab_ald0_ok dX1_leafed_14, List.forall_mem_cons.mpr ⟨ab_iload_n_ok dX1_leafed_15 rfl, List.forall_mem_cons.mpr ⟨ab_isub_ok dX1_leafed_16, List.forall_mem_cons.mpr ⟨ab_goto_ok dX1_leafed_17 (by decide), List.forall_mem_cons.mpr ⟨ab_aload_n_ok dX1_leafed_20 rfl, List.forall_mem_cons.mpr ⟨ab_getf_ok (C := RX1) (T := TX1) (N := 13) (ci := 5) (k := 8) dX1_leafed_21 rfl ab_ic5 (by decide) ab_w995, List.forall_mem_cons.mpr ⟨ab_iload_n_ok dX1_leafed_24 rfl, List.forall_mem_cons.mpr ⟨ab_ald0_ok dX1_leafed_25, List.forall_mem_cons.mpr ⟨ab_iload_n_ok dX1_leafed_26 rfl, List.forall_mem_cons.mpr ⟨ab_iadd_ok dX1_leafed_27, List.forall_mem_cons.mpr ⟨ab_iret_ok dX1_leafed_28 rfl, fun _ h => absurd h List.not_mem_nil⟩⟩⟩⟩⟩⟩⟩⟩⟩⟩⟩⟩⟩⟩⟩⟩⟩⟩⟩
theorem ab_k232 (K : ab_Kt) : ∀ pc, ab_OK K ab_mt ab_g232 pc (ab_c232 pc) := ab_lk2_ok _ (List.forall_mem_cons.mpr ⟨ab_k232_0 K, fun _ h => absurd h List.not_mem_nil⟩)
theorem dX1_isRight_0 : decode cX1_isRight 0 = .ok (.iload_n 2, 1) := by decide +kernel
theorem dX1_isRight_1 : decode cX1_isRight 1 = .ok (.iload_n 1, 1) := by decide +kernel
theorem dX1_isRight_2 : decode cX1_isRight 2 = .ok (.iconst 1, 1) := by decide +kernel
theorem dX1_isRight_3 : decode cX1_isRight 3 = .ok (.iadd, 1) := by decide +kernel
theorem dX1_isRight_4 : decode cX1_isRight 4 = .ok (.if_icmp .ne 15, 3) := by decide +kernel
theorem dX1_isRight_7 : decode cX1_isRight 7 = .ok (.iload_n 2, 1) := by decide +kernel
theorem dX1_isRight_8 : decode cX1_isRight 8 = .ok (.aload_n 0, 1) := by decide +kernel
theorem dX1_isRight_9 : decode cX1_isRight 9 = .ok (.getfield 33, 3) := by decide +kernel
theorem dX1_isRight_12 : decode cX1_isRight 12 = .ok (.if_icmp .gt 7, 3) := by decide +kernel
theorem dX1_isRight_15 : decode cX1_isRight 15 = .ok (.iconst 1, 1) := by decide +kernel
theorem dX1_isRight_16 : decode cX1_isRight 16 = .ok (.goto 4, 3) := by decide +kernel
theorem dX1_isRight_19 : decode cX1_isRight 19 = .ok (.iconst 0, 1) := by decide +kernel
theorem dX1_isRight_20 : decode cX1_isRight 20 = .ok (.ireturn, 1) := by decide +kernel
theorem ab_k233_0 (K : ab_Kt) : ∀ q ∈ ab_l233_0, ab_OK K ab_mt ab_g233 q.1 q.2 := by
  unfold ab_l233_0
  exact List.forall_mem_cons.mpr ⟨ab_iload_n_ok dX1_isRight_0 rfl, List.forall_mem_cons.mpr ⟨ab_iload_n_ok dX1_isRight_1 rfl, List.forall_mem_cons.mpr ⟨ab_iconst_ok dX1_isRight_2 (by decide), List.forall_mem_cons.mpr ⟨ab_iadd_ok dX1_isRight_3, List.forall_mem_cons.mpr ⟨ab_icmp_ne_ok dX1_isRight_4 (by decide), List.forall_mem_cons.mpr ⟨ab_iload_n_ok dX1_isRight_7 rfl, List.forall_mem_cons.mpr ⟨ab_aload_n_ok dX1_isRight_8 rfl, List.forall_mem_cons.mpr ⟨ab_getf_ok (C := RX1) (T := TX1) (N := 13) (ci := 5) (k := 0) dX1_isRight_9 rfl ab_ic5 (by decide) ab_w1009, List.forall_mem_cons.mpr ⟨ab_icmp_gt_ok dX1_isRight_12 (by decide), List.forall_mem_cons.mpr ⟨ab_iconst_ok dX1_isRight_15 (by decide), List.forall_mem_cons.mpr ⟨ab_goto_ok dX1_isRight_16 (by decide), List.forall_mem_cons.mpr ⟨ab_iconst_ok dX1_isRight_19 (by decide), List.forall_mem_cons.mpr ⟨ab_zret_ok dX1_isRight_20 rfl, fun _ h => absurd h List.not_mem_nil⟩⟩⟩⟩⟩⟩⟩⟩⟩⟩⟩⟩⟩
theorem ab_k233 (K : ab_Kt) : ∀ pc, ab_OK K ab_mt ab_g233 pc (ab_c233 pc) := ab_lk2_ok _ (List.forall_mem_cons.mpr ⟨ab_k233_0 K, fun _ h => absurd h List.not_mem_nil⟩)
theorem dJ5_length_8abf5_0 : decode cJ5_length_8abf5 0 = .ok (.aload_n 0, 1) := by decide +kernel
theorem dJ5_length_8abf5_1 : decode cJ5_length_8abf5 1 = .ok (.getfield 79, 3) := by decide +kernel
theorem dJ5_length_8abf5_4 : decode cJ5_length_8abf5 4 = .ok (.ireturn, 1) := by decide +kernel
theorem ab_k234_0 (K : ab_Kt) : ∀ q ∈ ab_l234_0, ab_OK K ab_mt ab_g234 q.1 q.2 := by
  unfold ab_l234_0
  exact List.forall_mem_cons.mpr ⟨ab_aload_n_ok dJ5_length_8abf5_0 rfl, List.forall_mem_cons.mpr ⟨ab_getf_ok (C := RJ4) (T := TJ4) (N := 4) (ci := 1) (k := 3) dJ5_length_8abf5_1 rfl ab_ic1 (by decide) ab_w1209, List.forall_mem_cons.mpr ⟨ab_iret_ok dJ5_length_8abf5_4 rfl, fun _ h => absurd h List.not_mem_nil⟩⟩⟩
theorem ab_k234 (K : ab_Kt) : ∀ pc, ab_OK K ab_mt ab_g234 pc (ab_c234 pc) := ab_lk2_ok _ (List.forall_mem_cons.mpr ⟨ab_k234_0 K, fun _ h => absurd h List.not_mem_nil⟩)
theorem dJ5_charAt_5068e_0 : decode cJ5_charAt_5068e 0 = .ok (.aload_n 0, 1) := by decide +kernel
theorem dJ5_charAt_5068e_1 : decode cJ5_charAt_5068e 1 = .ok (.getfield 22, 3) := by decide +kernel
theorem dJ5_charAt_5068e_4 : decode cJ5_charAt_5068e 4 = .ok (.istore_n 2, 1) := by decide +kernel
theorem dJ5_charAt_5068e_5 : decode cJ5_charAt_5068e 5 = .ok (.aload_n 0, 1) := by decide +kernel
theorem dJ5_charAt_5068e_6 : decode cJ5_charAt_5068e 6 = .ok (.getfield 15, 3) := by decide +kernel
theorem dJ5_charAt_5068e_9 : decode cJ5_charAt_5068e 9 = .ok (.astore_n 3, 1) := by decide +kernel
theorem dJ5_charAt_5068e_10 : decode cJ5_charAt_5068e 10 = .ok (.aload_n 0, 1) := by decide +kernel
theorem dJ5_charAt_5068e_11 : decode cJ5_charAt_5068e 11 = .ok (.getfield 79, 3) := by decide +kernel
theorem dJ5_charAt_5068e_14 : decode cJ5_charAt_5068e 14 = .ok (.aload_n 3, 1) := by decide +kernel
theorem dJ5_charAt_5068e_15 : decode cJ5_charAt_5068e 15 = .ok (.arraylength, 1) := by decide +kernel
theorem dJ5_charAt_5068e_16 : decode cJ5_charAt_5068e 16 = .ok (.iload_n 2, 1) := by decide +kernel
theorem dJ5_charAt_5068e_17 : decode cJ5_charAt_5068e 17 = .ok (.ishr, 1) := by decide +kernel
theorem dJ5_charAt_5068e_18 : decode cJ5_charAt_5068e 18 = .ok (.invokestatic 138, 3) := by decide +kernel
theorem dJ5_charAt_5068e_21 : decode cJ5_charAt_5068e 21 = .ok (.istore 4, 2) := by decide +kernel
theorem dJ5_charAt_5068e_23 : decode cJ5_charAt_5068e 23 = .ok (.iload_n 1, 1) := by decide +kernel
theorem dJ5_charAt_5068e_24 : decode cJ5_charAt_5068e 24 = .ok (.iload 4, 2) := by decide +kernel
theorem dJ5_charAt_5068e_26 : decode cJ5_charAt_5068e 26 = .ok (.invokestatic 144, 3) := by decide +kernel
theorem dJ5_charAt_5068e_29 : decode cJ5_charAt_5068e 29 = .ok (.iload_n 2, 1) := by decide +kernel
theorem dJ5_charAt_5068e_30 : decode cJ5_charAt_5068e 30 = .ok (.ifCond .ne 12, 3) := by decide +kernel
theorem dJ5_charAt_5068e_33 : decode cJ5_charAt_5068e 33 = .ok (.aload_n 3, 1) := by decide +kernel
theorem dJ5_charAt_5068e_34 : decode cJ5_charAt_5068e 34 = .ok (.iload_n 1, 1) := by decide +kernel
theorem dJ5_charAt_5068e_35 : decode cJ5_charAt_5068e 35 = .ok (.baload, 1) := by decide +kernel
theorem dJ5_charAt_5068e_36 : decode cJ5_charAt_5068e 36 = .ok (.sipush 255, 3) := by decide +kernel
theorem dJ5_charAt_5068e_39 : decode cJ5_charAt_5068e 39 = .ok (.iand, 1) := by decide +kernel
theorem dJ5_charAt_5068e_40 : decode cJ5_charAt_5068e 40 = .ok (.i2c, 1) := by decide +kernel
theorem dJ5_charAt_5068e_41 : decode cJ5_charAt_5068e 41 = .ok (.ireturn, 1) := by decide +kernel
theorem dJ5_charAt_5068e_42 : decode cJ5_charAt_5068e 42 = .ok (.aload_n 3, 1) := by decide +kernel
theorem dJ5_charAt_5068e_43 : decode cJ5_charAt_5068e 43 = .ok (.iload_n 1, 1) := by decide +kernel
theorem ab_k235_0 (K : ab_Kt) : ∀ q ∈ ab_l235_0, ab_OK K ab_mt ab_g235 q.1 q.2 := by
  unfold ab_l235_0
  exact List.forall_mem_cons.mpr ⟨ab_aload_n_ok dJ5_charAt_5068e_0 rfl, List.forall_mem_cons.mpr ⟨ab_getf_ok (C := RJ4) (T := TJ4) (N := 4) (ci := 1) (k := 1) dJ5_charAt_5068e_1 rfl ab_ic1 (by decide) ab_w1007, List.forall_mem_cons.mpr ⟨ab_istore_n_ok dJ5_charAt_5068e_4 rfl, List.forall_mem_cons.mpr ⟨ab_aload_n_ok dJ5_charAt_5068e_5 rfl, List.forall_mem_cons.mpr ⟨ab_getf_ok (C := RJ4) (T := TJ4) (N := 4) (ci := 1) (k := 0) dJ5_charAt_5068e_6 rfl ab_ic1 (by decide) ab_w1006, List.forall_mem_cons.mpr ⟨ab_astore_n_ok dJ5_charAt_5068e_9 rfl, List.forall_mem_cons.mpr ⟨ab_aload_n_ok dJ5_charAt_5068e_10 rfl, List.forall_mem_cons.mpr ⟨ab_getf_ok (C := RJ4) (T := TJ4) (N := 4) (ci := 1) (k := 3) dJ5_charAt_5068e_11 rfl ab_ic1 (by decide) ab_w1209, List.forall_mem_cons.mpr ⟨ab_aload_n_ok dJ5_charAt_5068e_14 rfl, List.forall_mem_cons.mpr ⟨ab_alen_ok dJ5_charAt_5068e_15, List.forall_mem_cons.mpr ⟨ab_iload_n_ok dJ5_charAt_5068e_16 rfl, List.forall_mem_cons.mpr ⟨ab_ishr_ok dJ5_charAt_5068e_17, List.forall_mem_cons.mpr ⟨ab_mmin_ok dJ5_charAt_5068e_18 (ab_l4 ab_w1210 ab_w1192 ab_w881 ab_w1193), List.forall_mem_cons.mpr ⟨ab_istore_ok dJ5_charAt_5068e_21, List.forall_mem_cons.mpr ⟨ab_iload_n_ok dJ5_charAt_5068e_23 rfl, List.forall_mem_cons.mpr ⟨ab_iload_ok dJ5_charAt_5068e_24, List.forall_mem_cons.mpr ⟨ab_callS_ok' (G' := ab_g264) dJ5_charAt_5068e_26 ab_m264 (by decide) (by decide) (ab_l3 ab_w1211 ab_w1212 ab_w1213) ab_w1214 rfl ⟨by decide, by decide, by decide +kernel⟩, List.forall_mem_cons.mpr ⟨ab_iload_n_ok dJ5_charAt_5068e_29 rfl, List.forall_mem_cons.mpr ⟨ab_if_ne_ok dJ5_charAt_5068e_30 (by decide), List.forall_mem_cons.mpr ⟨ab_aload_n_ok dJ5_charAt_5068e_33 rfl, List.forall_mem_cons.mpr ⟨ab_iload_n_ok dJ5_charAt_5068e_34 rfl, List.forall_mem_cons.mpr ⟨ab_ald4_ok dJ5_charAt_5068e_35, List.forall_mem_cons.mpr ⟨ab_sipush_ok dJ5_charAt_5068e_36 (by decide), List.forall_mem_cons.mpr ⟨ab_iand_ok dJ5_charAt_5068e_39, List.forall_mem_cons.mpr ⟨ab_i2c_ok dJ5_charAt_5068e_40, List.forall_mem_cons.mpr ⟨ab_cret_ok dJ5_charAt_5068e_41 rfl, List.forall_mem_cons.mpr ⟨ab_aload_n_ok dJ5_charAt_5068e_42 rfl, List.forall_mem_cons.mpr ⟨ab_iload_n_ok dJ5_charAt_5068e_43 rfl, fun _ h => absurd h List.not_mem_nil⟩⟩⟩⟩⟩⟩⟩⟩⟩⟩⟩⟩⟩⟩⟩⟩⟩⟩⟩⟩⟩⟩⟩⟩⟩⟩⟩⟩
theorem ab_k235 (K : ab_Kt) : ∀ pc, ab_OK K ab_mt ab_g235 pc (ab_c235 pc) := ab_lk2_ok _ (List.forall_mem_cons.mpr ⟨ab_k235_0 K, fun _ h => absurd h List.not_mem_nil⟩)
theorem dJ5_setLength_d00df_0 : decode cJ5_setLength_d00df 0 = .ok (.iload_n 1, 1) := by decide +kernel
theorem dJ5_setLength_d00df_1 : decode cJ5_setLength_d00df 1 = .ok (.ifCond .ge 12, 3) := by decide +kernel
theorem dJ5_setLength_d00df_13 : decode cJ5_setLength_d00df 13 = .ok (.aload_n 0, 1) := by decide +kernel
theorem dJ5_setLength_d00df_14 : decode cJ5_setLength_d00df 14 = .ok (.iload_n 1, 1) := by decide +kernel
theorem dJ5_setLength_d00df_15 : decode cJ5_setLength_d00df 15 = .ok (.invokevirtual 100, 3) := by decide +kernel
theorem dJ5_setLength_d00df_18 : decode cJ5_setLength_d00df 18 = .ok (.aload_n 0, 1) := by decide +kernel
theorem dJ5_setLength_d00df_19 : decode cJ5_setLength_d00df 19 = .ok (.getfield 79, 3) := by decide +kernel
theorem dJ5_setLength_d00df_22 : decode cJ5_setLength_d00df 22 = .ok (.iload_n 1, 1) := by decide +kernel
theorem dJ5_setLength_d00df_23 : decode cJ5_setLength_d00df 23 = .ok (.if_icmp .ge 40, 3) := by decide +kernel
theorem dJ5_setLength_d00df_26 : decode cJ5_setLength_d00df 26 = .ok (.aload_n 0, 1) := by decide +kernel
theorem dJ5_setLength_d00df_27 : decode cJ5_setLength_d00df 27 = .ok (.invokevirtual 83, 3) := by decide +kernel
theorem dJ5_setLength_d00df_30 : decode cJ5_setLength_d00df 30 = .ok (.ifCond .eq 18, 3) := by decide +kernel
theorem dJ5_setLength_d00df_33 : decode cJ5_setLength_d00df 33 = .ok (.aload_n 0, 1) := by decide +kernel
theorem dJ5_setLength_d00df_34 : decode cJ5_setLength_d00df 34 = .ok (.getfield 15, 3) := by decide +kernel
theorem dJ5_setLength_d00df_37 : decode cJ5_setLength_d00df 37 = .ok (.aload_n 0, 1) := by decide +kernel
theorem dJ5_setLength_d00df_38 : decode cJ5_setLength_d00df 38 = .ok (.getfield 79, 3) := by decide +kernel
theorem dJ5_setLength_d00df_41 : decode cJ5_setLength_d00df 41 = .ok (.iload_n 1, 1) := by decide +kernel
theorem dJ5_setLength_d00df_48 : decode cJ5_setLength_d00df 48 = .ok (.aload_n 0, 1) := by decide +kernel
theorem dJ5_setLength_d00df_49 : decode cJ5_setLength_d00df 49 = .ok (.getfield 15, 3) := by decide +kernel
theorem dJ5_setLength_d00df_52 : decode cJ5_setLength_d00df 52 = .ok (.aload_n 0, 1) := by decide +kernel
theorem dJ5_setLength_d00df_53 : decode cJ5_setLength_d00df 53 = .ok (.getfield 79, 3) := by decide +kernel
theorem dJ5_setLength_d00df_56 : decode cJ5_setLength_d00df 56 = .ok (.iload_n 1, 1) := by decide +kernel
theorem dJ5_setLength_d00df_63 : decode cJ5_setLength_d00df 63 = .ok (.aload_n 0, 1) := by decide +kernel
theorem dJ5_setLength_d00df_64 : decode cJ5_setLength_d00df 64 = .ok (.getfield 79, 3) := by decide +kernel
theorem dJ5_setLength_d00df_67 : decode cJ5_setLength_d00df 67 = .ok (.iload_n 1, 1) := by decide +kernel
theorem dJ5_setLength_d00df_68 : decode cJ5_setLength_d00df 68 = .ok (.if_icmp .le 8, 3) := by decide +kernel
theorem dJ5_setLength_d00df_71 : decode cJ5_setLength_d00df 71 = .ok (.aload_n 0, 1) := by decide +kernel
theorem dJ5_setLength_d00df_72 : decode cJ5_setLength_d00df 72 = .ok (.iconst 1, 1) := by decide +kernel
theorem dJ5_setLength_d00df_73 : decode cJ5_setLength_d00df 73 = .ok (.putfield 73, 3) := by decide +kernel
theorem dJ5_setLength_d00df_76 : decode cJ5_setLength_d00df 76 = .ok (.aload_n 0, 1) := by decide +kernel
theorem dJ5_setLength_d00df_77 : decode cJ5_setLength_d00df 77 = .ok (.iload_n 1, 1) := by decide +kernel
theorem dJ5_setLength_d00df_78 : decode cJ5_setLength_d00df 78 = .ok (.putfield 79, 3) := by decide +kernel
theorem dJ5_setLength_d00df_81 : decode cJ5_setLength_d00df 81 = .ok (.return_, 1) := by decide +kernel
theorem ab_k236_0 (K : ab_Kt) : ∀ q ∈ ab_l236_0, ab_OK K ab_mt ab_g236 q.1 q.2 := by
  unfold ab_l236_0
  exact List.forall_mem_cons.mpr ⟨ab_iload_n_ok dJ5_setLength_d00df_0 rfl, List.forall_mem_cons.mpr ⟨ab_if_ge_ok dJ5_setLength_d00df_1 (by decide), List.forall_mem_cons.mpr ⟨ab_aload_n_ok dJ5_setLength_d00df_13 rfl, List.forall_mem_cons.mpr ⟨ab_iload_n_ok dJ5_setLength_d00df_14 rfl, List.forall_mem_cons.mpr ⟨ab_callU_ok' (G' := ab_g265) (C := RJ4) (T := TJ4) (N := 4) dJ5_setLength_d00df_15 ab_m265 rfl rfl (by decide) (by decide) ab_w1215 (ab_l5 ab_w1216 ab_w1217 ab_w1218 ab_w1219 ab_w724) ⟨by decide, by decide, by decide +kernel⟩, List.forall_mem_cons.mpr ⟨ab_aload_n_ok dJ5_setLength_d00df_18 rfl, List.forall_mem_cons.mpr ⟨ab_getf_ok (C := RJ4) (T := TJ4) (N := 4) (ci := 1) (k := 3) dJ5_setLength_d00df_19 rfl ab_ic1 (by decide) ab_w1209, List.forall_mem_cons.mpr ⟨ab_iload_n_ok dJ5_setLength_d00df_22 rfl, List.forall_mem_cons.mpr ⟨ab_icmp_ge_ok dJ5_setLength_d00df_23 (by decide), List.forall_mem_cons.mpr ⟨ab_aload_n_ok dJ5_setLength_d00df_26 rfl, List.forall_mem_cons.mpr ⟨ab_callU_ok' (G' := ab_g266) (C := RJ4) (T := TJ4) (N := 4) dJ5_setLength_d00df_27 ab_m266 rfl rfl (by decide) (by decide) ab_w1220 (ab_l5 ab_w1221 ab_w1222 ab_w1223 ab_w1224 ab_w724) ⟨by decide, by decide, by decide +kernel⟩, List.forall_mem_cons.mpr ⟨ab_if_eq_ok dJ5_setLength_d00df_30 (by decide), List.forall_mem_cons.mpr ⟨ab_aload_n_ok dJ5_setLength_d00df_33 rfl, List.forall_mem_cons.mpr ⟨ab_getf_ok (C := RJ4) (T := TJ4) (N := 4) (ci := 1) (k := 0) dJ5_setLength_d00df_34 rfl ab_ic1 (by decide) ab_w1006, List.forall_mem_cons.mpr ⟨ab_aload_n_ok dJ5_setLength_d00df_37 rfl, List.forall_mem_cons.mpr ⟨ab_getf_ok (C := RJ4) (T := TJ4) (N := 4) (ci := 1) (k := 3) dJ5_setLength_d00df_38 rfl ab_ic1 (by decide) ab_w1209, List.forall_mem_cons.mpr ⟨ab_iload_n_ok dJ5_setLength_d00df_41 rfl, List.forall_mem_cons.mpr ⟨ab_aload_n_ok dJ5_setLength_d00df_48 rfl, List.forall_mem_cons.mpr ⟨ab_getf_ok (C := RJ4) (T := TJ4) (N := 4) (ci := 1) (k := 0) dJ5_setLength_d00df_49 rfl ab_ic1 (by decide) ab_w1006, List.forall_mem_cons.mpr ⟨ab_aload_n_ok dJ5_setLength_d00df_52 rfl, List.forall_mem_cons.mpr ⟨ab_getf_ok (C := RJ4) (T := TJ4) (N := 4) (ci := 1) (k := 3) dJ5_setLength_d00df_53 rfl ab_ic1 (by decide) ab_w1209, List.forall_mem_cons.mpr ⟨ab_iload_n_ok dJ5_setLength_d00df_56 rfl, List.forall_mem_cons.mpr ⟨ab_aload_n_ok dJ5_setLength_d00df_63 rfl, List.forall_mem_cons.mpr ⟨ab_getf_ok (C := RJ4) (T := TJ4) (N := 4) (ci := 1) (k := 3) dJ5_setLength_d00df_64 rfl ab_ic1 (by decide) ab_w1209, List.forall_mem_cons.mpr ⟨ab_iload_n_ok dJ5_setLength_d00df_67 rfl, List.forall_mem_cons.mpr ⟨ab_icmp_le_ok dJ5_setLength_d00df_68 (by decide), List.forall_mem_cons.mpr ⟨ab_aload_n_ok dJ5_setLength_d00df_71 rfl, List.forall_mem_cons.mpr ⟨ab_iconst_ok dJ5_setLength_d00df_72 (by decide), List.forall_mem_cons.mpr ⟨ab_putf_ok (C := RJ4) (T := TJ4) (N := 4) (ci := 1) (k := 2) (ty0 := tyJ4) dJ5_setLength_d00df_73 rfl ab_ic1 tyJ4_ok nmJ4 (by decide) ab_w1225 rfl (Or.inl rfl), List.forall_mem_cons.mpr ⟨ab_aload_n_ok dJ5_setLength_d00df_76 rfl, List.forall_mem_cons.mpr ⟨ab_iload_n_ok dJ5_setLength_d00df_77 rfl, List.forall_mem_cons.mpr ⟨ab_putf_ok (C := RJ4) (T := TJ4) (N := 4) (ci := 1) (k := 3) (ty0 := tyJ4) dJ5_setLength_d00df_78 rfl ab_ic1 tyJ4_ok nmJ4 (by decide) ab_w1209 rfl (Or.inl rfl), List.forall_mem_cons.mpr ⟨ab_vret_ok dJ5_setLength_d00df_81 rfl, fun _ h => absurd h List.not_mem_nil⟩⟩⟩⟩⟩⟩⟩⟩⟩⟩⟩⟩⟩⟩⟩⟩⟩⟩⟩⟩⟩⟩⟩⟩⟩⟩⟩⟩⟩⟩⟩⟩⟩
theorem ab_k236 (K : ab_Kt) : ∀ pc, ab_OK K ab_mt ab_g236 pc (ab_c236 pc) := ab_lk2_ok _ (List.forall_mem_cons.mpr ⟨ab_k236_0 K, fun _ h => absurd h List.not_mem_nil⟩)
