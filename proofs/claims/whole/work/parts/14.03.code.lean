/-! ===== the code tables hold: X6_twice .. ===== -/
theorem dX6_twice_0 : decode cX6_twice 0 = .ok (.aload_n 0, 1) := by decide +kernel
theorem dX6_twice_1 : decode cX6_twice 1 = .ok (.iload_n 1, 1) := by decide +kernel
theorem dX6_twice_2 : decode cX6_twice 2 = .ok (.invokevirtual 106, 3) := by decide +kernel
theorem dX6_twice_5 : decode cX6_twice 5 = .ok (.invokevirtual 188, 3) := by decide +kernel
theorem dX6_twice_8 : decode cX6_twice 8 = .ok (.ireturn, 1) := by decide +kernel
theorem ab_k135_0 (K : ab_Kt) : ∀ q ∈ ab_l135_0, ab_OK K ab_mt ab_g135 q.1 q.2 := by
  unfold ab_l135_0
  exact List.forall_mem_cons.mpr ⟨ab_aload_n_ok dX6_twice_0 rfl, List.forall_mem_cons.mpr ⟨ab_iload_n_ok dX6_twice_1 rfl, List.forall_mem_cons.mpr ⟨ab_callV_ok' (G' := ab_g182) (C := RX6) (T := TX6) (N := 9) dX6_twice_2 ab_m182 rfl rfl (by decide) (by decide) (ab_l4 ab_w770 ab_w771 ab_w772 ab_w2) ab_w773 rfl ⟨by decide, by decide, by decide +kernel⟩, List.forall_mem_cons.mpr ⟨ab_callV_ok' (G' := ab_g209) (C := RX1) (T := TX1) (N := 13) dX6_twice_5 ab_m209 rfl rfl (by decide) (by decide) (ab_l4 ab_w907 ab_w908 ab_w909 ab_w711) ab_w910 rfl ⟨by decide, by decide, by decide +kernel⟩, List.forall_mem_cons.mpr ⟨ab_iret_ok dX6_twice_8 rfl, fun _ h => absurd h List.not_mem_nil⟩⟩⟩⟩⟩
theorem ab_k135 (K : ab_Kt) : ∀ pc, ab_OK K ab_mt ab_g135 pc (ab_c135 pc) := ab_lk2_ok _ (List.forall_mem_cons.mpr ⟨ab_k135_0 K, fun _ h => absurd h List.not_mem_nil⟩)
theorem dX7_comings_0 : decode cX7_comings 0 = .ok (.iconst 0, 1) := by decide +kernel
theorem dX7_comings_1 : decode cX7_comings 1 = .ok (.istore_n 3, 1) := by decide +kernel
theorem dX7_comings_2 : decode cX7_comings 2 = .ok (.iconst 0, 1) := by decide +kernel
theorem dX7_comings_3 : decode cX7_comings 3 = .ok (.istore 4, 2) := by decide +kernel
theorem dX7_comings_5 : decode cX7_comings 5 = .ok (.iload 4, 2) := by decide +kernel
theorem dX7_comings_7 : decode cX7_comings 7 = .ok (.aload_n 0, 1) := by decide +kernel
theorem dX7_comings_8 : decode cX7_comings 8 = .ok (.iload_n 1, 1) := by decide +kernel
theorem dX7_comings_9 : decode cX7_comings 9 = .ok (.iconst 3, 1) := by decide +kernel
theorem dX7_comings_10 : decode cX7_comings 10 = .ok (.invokevirtual 63, 3) := by decide +kernel
theorem dX7_comings_13 : decode cX7_comings 13 = .ok (.if_icmp .ge 50, 3) := by decide +kernel
theorem dX7_comings_16 : decode cX7_comings 16 = .ok (.iload_n 3, 1) := by decide +kernel
theorem dX7_comings_17 : decode cX7_comings 17 = .ok (.iload_n 2, 1) := by decide +kernel
theorem dX7_comings_18 : decode cX7_comings 18 = .ok (.aload_n 0, 1) := by decide +kernel
theorem dX7_comings_19 : decode cX7_comings 19 = .ok (.iload_n 1, 1) := by decide +kernel
theorem dX7_comings_20 : decode cX7_comings 20 = .ok (.iload 4, 2) := by decide +kernel
theorem dX7_comings_22 : decode cX7_comings 22 = .ok (.iconst 0, 1) := by decide +kernel
theorem dX7_comings_23 : decode cX7_comings 23 = .ok (.invokevirtual 67, 3) := by decide +kernel
theorem dX7_comings_26 : decode cX7_comings 26 = .ok (.aload_n 0, 1) := by decide +kernel
theorem dX7_comings_27 : decode cX7_comings 27 = .ok (.iload_n 1, 1) := by decide +kernel
theorem dX7_comings_28 : decode cX7_comings 28 = .ok (.iload 4, 2) := by decide +kernel
theorem dX7_comings_30 : decode cX7_comings 30 = .ok (.iconst 0, 1) := by decide +kernel
theorem dX7_comings_31 : decode cX7_comings 31 = .ok (.invokevirtual 67, 3) := by decide +kernel
theorem dX7_comings_34 : decode cX7_comings 34 = .ok (.aload_n 0, 1) := by decide +kernel
theorem dX7_comings_35 : decode cX7_comings 35 = .ok (.iload_n 1, 1) := by decide +kernel
theorem dX7_comings_36 : decode cX7_comings 36 = .ok (.iload 4, 2) := by decide +kernel
theorem dX7_comings_38 : decode cX7_comings 38 = .ok (.invokevirtual 71, 3) := by decide +kernel
theorem dX7_comings_41 : decode cX7_comings 41 = .ok (.iadd, 1) := by decide +kernel
theorem dX7_comings_42 : decode cX7_comings 42 = .ok (.iconst 1, 1) := by decide +kernel
theorem dX7_comings_43 : decode cX7_comings 43 = .ok (.isub, 1) := by decide +kernel
theorem dX7_comings_44 : decode cX7_comings 44 = .ok (.invokestatic 59, 3) := by decide +kernel
theorem dX7_comings_47 : decode cX7_comings 47 = .ok (.ifCond .eq 7, 3) := by decide +kernel
theorem dX7_comings_50 : decode cX7_comings 50 = .ok (.iconst 1, 1) := by decide +kernel
theorem dX7_comings_51 : decode cX7_comings 51 = .ok (.goto 4, 3) := by decide +kernel
theorem dX7_comings_54 : decode cX7_comings 54 = .ok (.iconst 0, 1) := by decide +kernel
theorem dX7_comings_55 : decode cX7_comings 55 = .ok (.iadd, 1) := by decide +kernel
theorem dX7_comings_56 : decode cX7_comings 56 = .ok (.istore_n 3, 1) := by decide +kernel
theorem dX7_comings_57 : decode cX7_comings 57 = .ok (.iinc 4 1, 3) := by decide +kernel
theorem dX7_comings_60 : decode cX7_comings 60 = .ok (.goto (-55), 3) := by decide +kernel
theorem dX7_comings_63 : decode cX7_comings 63 = .ok (.iload_n 3, 1) := by decide +kernel
theorem dX7_comings_64 : decode cX7_comings 64 = .ok (.ireturn, 1) := by decide +kernel
theorem ab_k136_0 (K : ab_Kt) : ∀ q ∈ ab_l136_0, ab_OK K ab_mt ab_g136 q.1 q.2 := by
  unfold ab_l136_0
  exact List.forall_mem_cons.mpr ⟨ab_iconst_ok dX7_comings_0 (by decide), List.forall_mem_cons.mpr ⟨ab_istore_n_ok dX7_comings_1 rfl, List.forall_mem_cons.mpr ⟨ab_iconst_ok dX7_comings_2 (by decide), List.forall_mem_cons.mpr ⟨ab_istore_ok dX7_comings_3, List.forall_mem_cons.mpr ⟨ab_iload_ok dX7_comings_5, List.forall_mem_cons.mpr ⟨ab_aload_n_ok dX7_comings_7 rfl, List.forall_mem_cons.mpr ⟨ab_iload_n_ok dX7_comings_8 rfl, List.forall_mem_cons.mpr ⟨ab_iconst_ok dX7_comings_9 (by decide), List.forall_mem_cons.mpr ⟨ab_callV_ok' (G' := ab_g110) (C := RX7) (T := TX7) (N := 19) dX7_comings_10 ab_m110 rfl rfl (by decide) (by decide) (ab_l4 ab_w440 ab_w441 ab_w442 ab_w8) ab_w443 rfl ⟨by decide, by decide, by decide +kernel⟩, List.forall_mem_cons.mpr ⟨ab_icmp_ge_ok dX7_comings_13 (by decide), List.forall_mem_cons.mpr ⟨ab_iload_n_ok dX7_comings_16 rfl, List.forall_mem_cons.mpr ⟨ab_iload_n_ok dX7_comings_17 rfl, List.forall_mem_cons.mpr ⟨ab_aload_n_ok dX7_comings_18 rfl, List.forall_mem_cons.mpr ⟨ab_iload_n_ok dX7_comings_19 rfl, List.forall_mem_cons.mpr ⟨ab_iload_ok dX7_comings_20, List.forall_mem_cons.mpr ⟨ab_iconst_ok dX7_comings_22 (by decide), List.forall_mem_cons.mpr ⟨ab_callV_ok' (G' := ab_g111) (C := RX7) (T := TX7) (N := 19) dX7_comings_23 ab_m111 rfl rfl (by decide) (by decide) (ab_l4 ab_w444 ab_w445 ab_w446 ab_w8) ab_w447 rfl ⟨by decide, by decide, by decide +kernel⟩, List.forall_mem_cons.mpr ⟨ab_aload_n_ok dX7_comings_26 rfl, List.forall_mem_cons.mpr ⟨ab_iload_n_ok dX7_comings_27 rfl, List.forall_mem_cons.mpr ⟨ab_iload_ok dX7_comings_28, List.forall_mem_cons.mpr ⟨ab_iconst_ok dX7_comings_30 (by decide), List.forall_mem_cons.mpr ⟨ab_callV_ok' (G' := ab_g111) (C := RX7) (T := TX7) (N := 19) dX7_comings_31 ab_m111 rfl rfl (by decide) (by decide) (ab_l4 ab_w444 ab_w445 ab_w446 ab_w8) ab_w447 rfl ⟨by decide, by decide, by decide +kernel⟩, List.forall_mem_cons.mpr ⟨ab_aload_n_ok dX7_comings_34 rfl, List.forall_mem_cons.mpr ⟨ab_iload_n_ok dX7_comings_35 rfl, List.forall_mem_cons.mpr ⟨ab_iload_ok dX7_comings_36, List.forall_mem_cons.mpr ⟨ab_callV_ok' (G' := ab_g112) (C := RX7) (T := TX7) (N := 19) dX7_comings_38 ab_m112 rfl rfl (by decide) (by decide) (ab_l4 ab_w448 ab_w449 ab_w450 ab_w8) ab_w451 rfl ⟨by decide, by decide, by decide +kernel⟩, List.forall_mem_cons.mpr ⟨ab_iadd_ok dX7_comings_41, List.forall_mem_cons.mpr ⟨ab_iconst_ok dX7_comings_42 (by decide), List.forall_mem_cons.mpr ⟨ab_isub_ok dX7_comings_43, List.forall_mem_cons.mpr ⟨ab_callS_ok' (G' := ab_g97) dX7_comings_44 ab_m97 (by decide) (by decide) (ab_l3 ab_w387 ab_w388 ab_w8) ab_w389 rfl ⟨by decide, by decide, by decide +kernel⟩, List.forall_mem_cons.mpr ⟨ab_if_eq_ok dX7_comings_47 (by decide), List.forall_mem_cons.mpr ⟨ab_iconst_ok dX7_comings_50 (by decide), List.forall_mem_cons.mpr ⟨ab_goto_ok dX7_comings_51 (by decide), List.forall_mem_cons.mpr ⟨ab_iconst_ok dX7_comings_54 (by decide), List.forall_mem_cons.mpr ⟨ab_iadd_ok dX7_comings_55, List.forall_mem_cons.mpr ⟨ab_istore_n_ok dX7_comings_56 rfl, List.forall_mem_cons.mpr ⟨ab_iinc_ok dX7_comings_57 (by decide), List.forall_mem_cons.mpr ⟨ab_goto_ok dX7_comings_60 (by decide), List.forall_mem_cons.mpr ⟨ab_iload_n_ok dX7_comings_63 rfl, List.forall_mem_cons.mpr ⟨ab_iret_ok dX7_comings_64 rfl, fun _ h => absurd h List.not_mem_nil⟩⟩⟩⟩⟩⟩⟩⟩⟩⟩⟩⟩⟩⟩⟩⟩⟩⟩⟩⟩⟩⟩⟩⟩⟩⟩⟩⟩⟩⟩⟩⟩⟩⟩⟩⟩⟩⟩⟩⟩
theorem ab_k136 (K : ab_Kt) : ∀ pc, ab_OK K ab_mt ab_g136 pc (ab_c136 pc) := ab_lk2_ok _ (List.forall_mem_cons.mpr ⟨ab_k136_0 K, fun _ h => absurd h List.not_mem_nil⟩)
theorem dX6_missingPage_0 : decode cX6_missingPage 0 = .ok (.aload_n 0, 1) := by decide +kernel
theorem dX6_missingPage_1 : decode cX6_missingPage 1 = .ok (.iload_n 1, 1) := by decide +kernel
theorem dX6_missingPage_2 : decode cX6_missingPage 2 = .ok (.invokevirtual 106, 3) := by decide +kernel
theorem dX6_missingPage_5 : decode cX6_missingPage 5 = .ok (.iload_n 2, 1) := by decide +kernel
theorem dX6_missingPage_6 : decode cX6_missingPage 6 = .ok (.invokevirtual 185, 3) := by decide +kernel
theorem dX6_missingPage_9 : decode cX6_missingPage 9 = .ok (.istore_n 3, 1) := by decide +kernel
theorem dX6_missingPage_10 : decode cX6_missingPage 10 = .ok (.iload_n 3, 1) := by decide +kernel
theorem dX6_missingPage_11 : decode cX6_missingPage 11 = .ok (.iconst (-1), 1) := by decide +kernel
theorem dX6_missingPage_12 : decode cX6_missingPage 12 = .ok (.if_icmp .ne 11, 3) := by decide +kernel
theorem dX6_missingPage_15 : decode cX6_missingPage 15 = .ok (.new 179, 3) := by decide +kernel
theorem dX6_missingPage_18 : decode cX6_missingPage 18 = .ok (.dup, 1) := by decide +kernel
theorem dX6_missingPage_19 : decode cX6_missingPage 19 = .ok (.invokespecial 181, 3) := by decide +kernel
theorem dX6_missingPage_22 : decode cX6_missingPage 22 = .ok (.athrow, 1) := by decide +kernel
theorem dX6_missingPage_23 : decode cX6_missingPage 23 = .ok (.iload_n 3, 1) := by decide +kernel
theorem dX6_missingPage_24 : decode cX6_missingPage 24 = .ok (.ireturn, 1) := by decide +kernel
theorem ab_k137_0 (K : ab_Kt) : ∀ q ∈ ab_l137_0, ab_OK K ab_mt ab_g137 q.1 q.2 := by
  unfold ab_l137_0
  exact List.forall_mem_cons.mpr ⟨ab_aload_n_ok dX6_missingPage_0 rfl, List.forall_mem_cons.mpr ⟨ab_iload_n_ok dX6_missingPage_1 rfl, List.forall_mem_cons.mpr ⟨ab_callV_ok' (G' := ab_g182) (C := RX6) (T := TX6) (N := 9) dX6_missingPage_2 ab_m182 rfl rfl (by decide) (by decide) (ab_l4 ab_w770 ab_w771 ab_w772 ab_w2) ab_w773 rfl ⟨by decide, by decide, by decide +kernel⟩, List.forall_mem_cons.mpr ⟨ab_iload_n_ok dX6_missingPage_5 rfl, List.forall_mem_cons.mpr ⟨ab_callV_ok' (G' := ab_g210) (C := RX1) (T := TX1) (N := 13) dX6_missingPage_6 ab_m210 rfl rfl (by decide) (by decide) (ab_l4 ab_w911 ab_w912 ab_w913 ab_w711) ab_w914 rfl ⟨by decide, by decide, by decide +kernel⟩, List.forall_mem_cons.mpr ⟨ab_istore_n_ok dX6_missingPage_9 rfl, List.forall_mem_cons.mpr ⟨ab_iload_n_ok dX6_missingPage_10 rfl, List.forall_mem_cons.mpr ⟨ab_iconst_ok dX6_missingPage_11 (by decide), List.forall_mem_cons.mpr ⟨ab_icmp_ne_ok dX6_missingPage_12 (by decide), List.forall_mem_cons.mpr ⟨ab_thr_ok (ik := 179) (ic := 181) (by decide +kernel) (ab_l2 ab_w810 ab_w811) ab_th_4 (by decide +kernel) dX6_missingPage_15 dX6_missingPage_18 dX6_missingPage_19 dX6_missingPage_22 rfl, List.forall_mem_cons.mpr ⟨ab_iload_n_ok dX6_missingPage_23 rfl, List.forall_mem_cons.mpr ⟨ab_iret_ok dX6_missingPage_24 rfl, fun _ h => absurd h List.not_mem_nil⟩⟩⟩⟩⟩⟩⟩⟩⟩⟩⟩⟩
theorem ab_k137 (K : ab_Kt) : ∀ pc, ab_OK K ab_mt ab_g137 pc (ab_c137 pc) := ab_lk2_ok _ (List.forall_mem_cons.mpr ⟨ab_k137_0 K, fun _ h => absurd h List.not_mem_nil⟩)
theorem dX6_missing_0 : decode cX6_missing 0 = .ok (.aload_n 0, 1) := by decide +kernel
theorem dX6_missing_1 : decode cX6_missing 1 = .ok (.iload_n 1, 1) := by decide +kernel
theorem dX6_missing_2 : decode cX6_missing 2 = .ok (.invokevirtual 106, 3) := by decide +kernel
theorem dX6_missing_5 : decode cX6_missing 5 = .ok (.invokevirtual 182, 3) := by decide +kernel
theorem dX6_missing_8 : decode cX6_missing 8 = .ok (.ireturn, 1) := by decide +kernel
theorem ab_k138_0 (K : ab_Kt) : ∀ q ∈ ab_l138_0, ab_OK K ab_mt ab_g138 q.1 q.2 := by
  unfold ab_l138_0
  exact List.forall_mem_cons.mpr ⟨ab_aload_n_ok dX6_missing_0 rfl, List.forall_mem_cons.mpr ⟨ab_iload_n_ok dX6_missing_1 rfl, List.forall_mem_cons.mpr ⟨ab_callV_ok' (G' := ab_g182) (C := RX6) (T := TX6) (N := 9) dX6_missing_2 ab_m182 rfl rfl (by decide) (by decide) (ab_l4 ab_w770 ab_w771 ab_w772 ab_w2) ab_w773 rfl ⟨by decide, by decide, by decide +kernel⟩, List.forall_mem_cons.mpr ⟨ab_callV_ok' (G' := ab_g211) (C := RX1) (T := TX1) (N := 13) dX6_missing_5 ab_m211 rfl rfl (by decide) (by decide) (ab_l4 ab_w915 ab_w916 ab_w917 ab_w711) ab_w918 rfl ⟨by decide, by decide, by decide +kernel⟩, List.forall_mem_cons.mpr ⟨ab_iret_ok dX6_missing_8 rfl, fun _ h => absurd h List.not_mem_nil⟩⟩⟩⟩⟩
theorem ab_k138 (K : ab_Kt) : ∀ pc, ab_OK K ab_mt ab_g138 pc (ab_c138 pc) := ab_lk2_ok _ (List.forall_mem_cons.mpr ⟨ab_k138_0 K, fun _ h => absurd h List.not_mem_nil⟩)
theorem dX7_missingOf_0 : decode cX7_missingOf 0 = .ok (.iconst 0, 1) := by decide +kernel
theorem dX7_missingOf_1 : decode cX7_missingOf 1 = .ok (.istore_n 2, 1) := by decide +kernel
theorem dX7_missingOf_2 : decode cX7_missingOf 2 = .ok (.iconst 1, 1) := by decide +kernel
theorem dX7_missingOf_3 : decode cX7_missingOf 3 = .ok (.istore_n 3, 1) := by decide +kernel
theorem dX7_missingOf_4 : decode cX7_missingOf 4 = .ok (.iload_n 3, 1) := by decide +kernel
theorem dX7_missingOf_5 : decode cX7_missingOf 5 = .ok (.aload_n 0, 1) := by decide +kernel
theorem dX7_missingOf_6 : decode cX7_missingOf 6 = .ok (.iload_n 1, 1) := by decide +kernel
theorem dX7_missingOf_7 : decode cX7_missingOf 7 = .ok (.iconst 0, 1) := by decide +kernel
theorem dX7_missingOf_8 : decode cX7_missingOf 8 = .ok (.invokevirtual 63, 3) := by decide +kernel
theorem dX7_missingOf_11 : decode cX7_missingOf 11 = .ok (.if_icmp .gt 26, 3) := by decide +kernel
theorem dX7_missingOf_14 : decode cX7_missingOf 14 = .ok (.iload_n 2, 1) := by decide +kernel
theorem dX7_missingOf_15 : decode cX7_missingOf 15 = .ok (.aload_n 0, 1) := by decide +kernel
theorem dX7_missingOf_16 : decode cX7_missingOf 16 = .ok (.iload_n 1, 1) := by decide +kernel
theorem dX7_missingOf_17 : decode cX7_missingOf 17 = .ok (.iload_n 3, 1) := by decide +kernel
theorem dX7_missingOf_18 : decode cX7_missingOf 18 = .ok (.invokevirtual 88, 3) := by decide +kernel
theorem dX7_missingOf_21 : decode cX7_missingOf 21 = .ok (.ifCond .ne 7, 3) := by decide +kernel
theorem dX7_missingOf_24 : decode cX7_missingOf 24 = .ok (.iconst 1, 1) := by decide +kernel
theorem dX7_missingOf_25 : decode cX7_missingOf 25 = .ok (.goto 4, 3) := by decide +kernel
theorem dX7_missingOf_28 : decode cX7_missingOf 28 = .ok (.iconst 0, 1) := by decide +kernel
theorem dX7_missingOf_29 : decode cX7_missingOf 29 = .ok (.iadd, 1) := by decide +kernel
theorem dX7_missingOf_30 : decode cX7_missingOf 30 = .ok (.istore_n 2, 1) := by decide +kernel
theorem dX7_missingOf_31 : decode cX7_missingOf 31 = .ok (.iinc 3 1, 3) := by decide +kernel
theorem dX7_missingOf_34 : decode cX7_missingOf 34 = .ok (.goto (-30), 3) := by decide +kernel
theorem dX7_missingOf_37 : decode cX7_missingOf 37 = .ok (.iload_n 2, 1) := by decide +kernel
theorem dX7_missingOf_38 : decode cX7_missingOf 38 = .ok (.ireturn, 1) := by decide +kernel
theorem ab_k139_0 (K : ab_Kt) : ∀ q ∈ ab_l139_0, ab_OK K ab_mt ab_g139 q.1 q.2 := by
  unfold ab_l139_0
  exact List.forall_mem_cons.mpr ⟨ab_iconst_ok dX7_missingOf_0 (by decide), List.forall_mem_cons.mpr ⟨ab_istore_n_ok dX7_missingOf_1 rfl, List.forall_mem_cons.mpr ⟨ab_iconst_ok dX7_missingOf_2 (by decide), List.forall_mem_cons.mpr ⟨ab_istore_n_ok dX7_missingOf_3 rfl, List.forall_mem_cons.mpr ⟨ab_iload_n_ok dX7_missingOf_4 rfl, List.forall_mem_cons.mpr ⟨ab_aload_n_ok dX7_missingOf_5 rfl, List.forall_mem_cons.mpr ⟨ab_iload_n_ok dX7_missingOf_6 rfl, List.forall_mem_cons.mpr ⟨ab_iconst_ok dX7_missingOf_7 (by decide), List.forall_mem_cons.mpr ⟨ab_callV_ok' (G' := ab_g110) (C := RX7) (T := TX7) (N := 19) dX7_missingOf_8 ab_m110 rfl rfl (by decide) (by decide) (ab_l4 ab_w440 ab_w441 ab_w442 ab_w8) ab_w443 rfl ⟨by decide, by decide, by decide +kernel⟩, List.forall_mem_cons.mpr ⟨ab_icmp_gt_ok dX7_missingOf_11 (by decide), List.forall_mem_cons.mpr ⟨ab_iload_n_ok dX7_missingOf_14 rfl, List.forall_mem_cons.mpr ⟨ab_aload_n_ok dX7_missingOf_15 rfl, List.forall_mem_cons.mpr ⟨ab_iload_n_ok dX7_missingOf_16 rfl, List.forall_mem_cons.mpr ⟨ab_iload_n_ok dX7_missingOf_17 rfl, List.forall_mem_cons.mpr ⟨ab_callV_ok' (G' := ab_g136) (C := RX7) (T := TX7) (N := 19) dX7_missingOf_18 ab_m136 rfl rfl (by decide) (by decide) (ab_l4 ab_w548 ab_w549 ab_w550 ab_w8) ab_w551 rfl ⟨by decide, by decide, by decide +kernel⟩, List.forall_mem_cons.mpr ⟨ab_if_ne_ok dX7_missingOf_21 (by decide), List.forall_mem_cons.mpr ⟨ab_iconst_ok dX7_missingOf_24 (by decide), List.forall_mem_cons.mpr ⟨ab_goto_ok dX7_missingOf_25 (by decide), List.forall_mem_cons.mpr ⟨ab_iconst_ok dX7_missingOf_28 (by decide), List.forall_mem_cons.mpr ⟨ab_iadd_ok dX7_missingOf_29, List.forall_mem_cons.mpr ⟨ab_istore_n_ok dX7_missingOf_30 rfl, List.forall_mem_cons.mpr ⟨ab_iinc_ok dX7_missingOf_31 (by decide), List.forall_mem_cons.mpr ⟨ab_goto_ok dX7_missingOf_34 (by decide), List.forall_mem_cons.mpr ⟨ab_iload_n_ok dX7_missingOf_37 rfl, List.forall_mem_cons.mpr ⟨ab_iret_ok dX7_missingOf_38 rfl, fun _ h => absurd h List.not_mem_nil⟩⟩⟩⟩⟩⟩⟩⟩⟩⟩⟩⟩⟩⟩⟩⟩⟩⟩⟩⟩⟩⟩⟩⟩⟩
theorem ab_k139 (K : ab_Kt) : ∀ pc, ab_OK K ab_mt ab_g139 pc (ab_c139 pc) := ab_lk2_ok _ (List.forall_mem_cons.mpr ⟨ab_k139_0 K, fun _ h => absurd h List.not_mem_nil⟩)
theorem dX6_firstWrong_0 : decode cX6_firstWrong 0 = .ok (.aload_n 0, 1) := by decide +kernel
theorem dX6_firstWrong_1 : decode cX6_firstWrong 1 = .ok (.iload_n 1, 1) := by decide +kernel
theorem dX6_firstWrong_2 : decode cX6_firstWrong 2 = .ok (.invokevirtual 106, 3) := by decide +kernel
theorem dX6_firstWrong_5 : decode cX6_firstWrong 5 = .ok (.iconst 0, 1) := by decide +kernel
theorem dX6_firstWrong_6 : decode cX6_firstWrong 6 = .ok (.invokevirtual 175, 3) := by decide +kernel
theorem dX6_firstWrong_9 : decode cX6_firstWrong 9 = .ok (.istore_n 2, 1) := by decide +kernel
theorem dX6_firstWrong_10 : decode cX6_firstWrong 10 = .ok (.iload_n 2, 1) := by decide +kernel
theorem dX6_firstWrong_11 : decode cX6_firstWrong 11 = .ok (.iconst (-1), 1) := by decide +kernel
theorem dX6_firstWrong_12 : decode cX6_firstWrong 12 = .ok (.if_icmp .ne 11, 3) := by decide +kernel
theorem dX6_firstWrong_15 : decode cX6_firstWrong 15 = .ok (.new 179, 3) := by decide +kernel
theorem dX6_firstWrong_18 : decode cX6_firstWrong 18 = .ok (.dup, 1) := by decide +kernel
theorem dX6_firstWrong_19 : decode cX6_firstWrong 19 = .ok (.invokespecial 181, 3) := by decide +kernel
theorem dX6_firstWrong_22 : decode cX6_firstWrong 22 = .ok (.athrow, 1) := by decide +kernel
theorem dX6_firstWrong_23 : decode cX6_firstWrong 23 = .ok (.iload_n 2, 1) := by decide +kernel
theorem dX6_firstWrong_24 : decode cX6_firstWrong 24 = .ok (.ireturn, 1) := by decide +kernel
theorem ab_k140_0 (K : ab_Kt) : ∀ q ∈ ab_l140_0, ab_OK K ab_mt ab_g140 q.1 q.2 := by
  unfold ab_l140_0
  exact List.forall_mem_cons.mpr ⟨ab_aload_n_ok dX6_firstWrong_0 rfl, List.forall_mem_cons.mpr ⟨ab_iload_n_ok dX6_firstWrong_1 rfl, List.forall_mem_cons.mpr ⟨ab_callV_ok' (G' := ab_g182) (C := RX6) (T := TX6) (N := 9) dX6_firstWrong_2 ab_m182 rfl rfl (by decide) (by decide) (ab_l4 ab_w770 ab_w771 ab_w772 ab_w2) ab_w773 rfl ⟨by decide, by decide, by decide +kernel⟩, List.forall_mem_cons.mpr ⟨ab_iconst_ok dX6_firstWrong_5 (by decide), List.forall_mem_cons.mpr ⟨ab_callV_ok' (G' := ab_g212) (C := RX1) (T := TX1) (N := 13) dX6_firstWrong_6 ab_m212 rfl rfl (by decide) (by decide) (ab_l4 ab_w919 ab_w920 ab_w921 ab_w711) ab_w922 rfl ⟨by decide, by decide, by decide +kernel⟩, List.forall_mem_cons.mpr ⟨ab_istore_n_ok dX6_firstWrong_9 rfl, List.forall_mem_cons.mpr ⟨ab_iload_n_ok dX6_firstWrong_10 rfl, List.forall_mem_cons.mpr ⟨ab_iconst_ok dX6_firstWrong_11 (by decide), List.forall_mem_cons.mpr ⟨ab_icmp_ne_ok dX6_firstWrong_12 (by decide), List.forall_mem_cons.mpr ⟨ab_thr_ok (ik := 179) (ic := 181) (by decide +kernel) (ab_l2 ab_w810 ab_w811) ab_th_4 (by decide +kernel) dX6_firstWrong_15 dX6_firstWrong_18 dX6_firstWrong_19 dX6_firstWrong_22 rfl, List.forall_mem_cons.mpr ⟨ab_iload_n_ok dX6_firstWrong_23 rfl, List.forall_mem_cons.mpr ⟨ab_iret_ok dX6_firstWrong_24 rfl, fun _ h => absurd h List.not_mem_nil⟩⟩⟩⟩⟩⟩⟩⟩⟩⟩⟩⟩
theorem ab_k140 (K : ab_Kt) : ∀ pc, ab_OK K ab_mt ab_g140 pc (ab_c140 pc) := ab_lk2_ok _ (List.forall_mem_cons.mpr ⟨ab_k140_0 K, fun _ h => absurd h List.not_mem_nil⟩)
theorem dX7_isRight_0 : decode cX7_isRight 0 = .ok (.aload_n 0, 1) := by decide +kernel
theorem dX7_isRight_1 : decode cX7_isRight 1 = .ok (.iload_n 1, 1) := by decide +kernel
theorem dX7_isRight_2 : decode cX7_isRight 2 = .ok (.iload_n 2, 1) := by decide +kernel
theorem dX7_isRight_3 : decode cX7_isRight 3 = .ok (.invokevirtual 77, 3) := by decide +kernel
theorem dX7_isRight_6 : decode cX7_isRight 6 = .ok (.iload_n 2, 1) := by decide +kernel
theorem dX7_isRight_7 : decode cX7_isRight 7 = .ok (.iconst 1, 1) := by decide +kernel
theorem dX7_isRight_8 : decode cX7_isRight 8 = .ok (.iadd, 1) := by decide +kernel
theorem dX7_isRight_9 : decode cX7_isRight 9 = .ok (.if_icmp .ne 17, 3) := by decide +kernel
theorem dX7_isRight_12 : decode cX7_isRight 12 = .ok (.iload_n 2, 1) := by decide +kernel
theorem dX7_isRight_13 : decode cX7_isRight 13 = .ok (.aload_n 0, 1) := by decide +kernel
theorem dX7_isRight_14 : decode cX7_isRight 14 = .ok (.iload_n 1, 1) := by decide +kernel
theorem dX7_isRight_15 : decode cX7_isRight 15 = .ok (.iconst 0, 1) := by decide +kernel
theorem dX7_isRight_16 : decode cX7_isRight 16 = .ok (.invokevirtual 63, 3) := by decide +kernel
theorem dX7_isRight_19 : decode cX7_isRight 19 = .ok (.if_icmp .ge 7, 3) := by decide +kernel
theorem dX7_isRight_22 : decode cX7_isRight 22 = .ok (.iconst 1, 1) := by decide +kernel
theorem dX7_isRight_23 : decode cX7_isRight 23 = .ok (.goto 4, 3) := by decide +kernel
theorem dX7_isRight_26 : decode cX7_isRight 26 = .ok (.iconst 0, 1) := by decide +kernel
theorem dX7_isRight_27 : decode cX7_isRight 27 = .ok (.ireturn, 1) := by decide +kernel
theorem ab_k141_0 (K : ab_Kt) : ∀ q ∈ ab_l141_0, ab_OK K ab_mt ab_g141 q.1 q.2 := by
  unfold ab_l141_0
  exact List.forall_mem_cons.mpr ⟨ab_aload_n_ok dX7_isRight_0 rfl, List.forall_mem_cons.mpr ⟨ab_iload_n_ok dX7_isRight_1 rfl, List.forall_mem_cons.mpr ⟨ab_iload_n_ok dX7_isRight_2 rfl, List.forall_mem_cons.mpr ⟨ab_callV_ok' (G' := ab_g146) (C := RX7) (T := TX7) (N := 19) dX7_isRight_3 ab_m146 rfl rfl (by decide) (by decide) (ab_l4 ab_w588 ab_w589 ab_w590 ab_w8) ab_w591 rfl ⟨by decide, by decide, by decide +kernel⟩, List.forall_mem_cons.mpr ⟨ab_iload_n_ok dX7_isRight_6 rfl, List.forall_mem_cons.mpr ⟨ab_iconst_ok dX7_isRight_7 (by decide), List.forall_mem_cons.mpr ⟨ab_iadd_ok dX7_isRight_8, List.forall_mem_cons.mpr ⟨ab_icmp_ne_ok dX7_isRight_9 (by decide), List.forall_mem_cons.mpr ⟨ab_iload_n_ok dX7_isRight_12 rfl, List.forall_mem_cons.mpr ⟨ab_aload_n_ok dX7_isRight_13 rfl, List.forall_mem_cons.mpr ⟨ab_iload_n_ok dX7_isRight_14 rfl, List.forall_mem_cons.mpr ⟨ab_iconst_ok dX7_isRight_15 (by decide), List.forall_mem_cons.mpr ⟨ab_callV_ok' (G' := ab_g110) (C := RX7) (T := TX7) (N := 19) dX7_isRight_16 ab_m110 rfl rfl (by decide) (by decide) (ab_l4 ab_w440 ab_w441 ab_w442 ab_w8) ab_w443 rfl ⟨by decide, by decide, by decide +kernel⟩, List.forall_mem_cons.mpr ⟨ab_icmp_ge_ok dX7_isRight_19 (by decide), List.forall_mem_cons.mpr ⟨ab_iconst_ok dX7_isRight_22 (by decide), List.forall_mem_cons.mpr ⟨ab_goto_ok dX7_isRight_23 (by decide), List.forall_mem_cons.mpr ⟨ab_iconst_ok dX7_isRight_26 (by decide), List.forall_mem_cons.mpr ⟨ab_zret_ok dX7_isRight_27 rfl, fun _ h => absurd h List.not_mem_nil⟩⟩⟩⟩⟩⟩⟩⟩⟩⟩⟩⟩⟩⟩⟩⟩⟩⟩
theorem ab_k141 (K : ab_Kt) : ∀ pc, ab_OK K ab_mt ab_g141 pc (ab_c141 pc) := ab_lk2_ok _ (List.forall_mem_cons.mpr ⟨ab_k141_0 K, fun _ h => absurd h List.not_mem_nil⟩)
theorem dX6_wrongAgain_0 : decode cX6_wrongAgain 0 = .ok (.aload_n 0, 1) := by decide +kernel
theorem dX6_wrongAgain_1 : decode cX6_wrongAgain 1 = .ok (.iload_n 1, 1) := by decide +kernel
theorem dX6_wrongAgain_2 : decode cX6_wrongAgain 2 = .ok (.invokevirtual 106, 3) := by decide +kernel
theorem dX6_wrongAgain_5 : decode cX6_wrongAgain 5 = .ok (.invokevirtual 172, 3) := by decide +kernel
theorem dX6_wrongAgain_8 : decode cX6_wrongAgain 8 = .ok (.ireturn, 1) := by decide +kernel
theorem ab_k142_0 (K : ab_Kt) : ∀ q ∈ ab_l142_0, ab_OK K ab_mt ab_g142 q.1 q.2 := by
  unfold ab_l142_0
  exact List.forall_mem_cons.mpr ⟨ab_aload_n_ok dX6_wrongAgain_0 rfl, List.forall_mem_cons.mpr ⟨ab_iload_n_ok dX6_wrongAgain_1 rfl, List.forall_mem_cons.mpr ⟨ab_callV_ok' (G' := ab_g182) (C := RX6) (T := TX6) (N := 9) dX6_wrongAgain_2 ab_m182 rfl rfl (by decide) (by decide) (ab_l4 ab_w770 ab_w771 ab_w772 ab_w2) ab_w773 rfl ⟨by decide, by decide, by decide +kernel⟩, List.forall_mem_cons.mpr ⟨ab_callV_ok' (G' := ab_g213) (C := RX1) (T := TX1) (N := 13) dX6_wrongAgain_5 ab_m213 rfl rfl (by decide) (by decide) (ab_l4 ab_w923 ab_w924 ab_w925 ab_w711) ab_w926 rfl ⟨by decide, by decide, by decide +kernel⟩, List.forall_mem_cons.mpr ⟨ab_iret_ok dX6_wrongAgain_8 rfl, fun _ h => absurd h List.not_mem_nil⟩⟩⟩⟩⟩
theorem ab_k142 (K : ab_Kt) : ∀ pc, ab_OK K ab_mt ab_g142 pc (ab_c142 pc) := ab_lk2_ok _ (List.forall_mem_cons.mpr ⟨ab_k142_0 K, fun _ h => absurd h List.not_mem_nil⟩)
theorem dX7_rightIn_0 : decode cX7_rightIn 0 = .ok (.aload_n 0, 1) := by decide +kernel
theorem dX7_rightIn_1 : decode cX7_rightIn 1 = .ok (.iload_n 1, 1) := by decide +kernel
theorem dX7_rightIn_2 : decode cX7_rightIn 2 = .ok (.iload_n 2, 1) := by decide +kernel
theorem dX7_rightIn_3 : decode cX7_rightIn 3 = .ok (.invokevirtual 74, 3) := by decide +kernel
theorem dX7_rightIn_6 : decode cX7_rightIn 6 = .ok (.istore_n 3, 1) := by decide +kernel
theorem dX7_rightIn_7 : decode cX7_rightIn 7 = .ok (.aload_n 0, 1) := by decide +kernel
theorem dX7_rightIn_8 : decode cX7_rightIn 8 = .ok (.iload_n 1, 1) := by decide +kernel
theorem dX7_rightIn_9 : decode cX7_rightIn 9 = .ok (.iload_n 2, 1) := by decide +kernel
theorem dX7_rightIn_10 : decode cX7_rightIn 10 = .ok (.invokevirtual 71, 3) := by decide +kernel
theorem dX7_rightIn_13 : decode cX7_rightIn 13 = .ok (.istore 4, 2) := by decide +kernel
theorem dX7_rightIn_15 : decode cX7_rightIn 15 = .ok (.aload_n 0, 1) := by decide +kernel
theorem dX7_rightIn_16 : decode cX7_rightIn 16 = .ok (.iload_n 1, 1) := by decide +kernel
theorem dX7_rightIn_17 : decode cX7_rightIn 17 = .ok (.iload_n 2, 1) := by decide +kernel
theorem dX7_rightIn_18 : decode cX7_rightIn 18 = .ok (.iconst 0, 1) := by decide +kernel
theorem dX7_rightIn_19 : decode cX7_rightIn 19 = .ok (.invokevirtual 67, 3) := by decide +kernel
theorem dX7_rightIn_22 : decode cX7_rightIn 22 = .ok (.istore 5, 2) := by decide +kernel
theorem dX7_rightIn_24 : decode cX7_rightIn 24 = .ok (.aload_n 0, 1) := by decide +kernel
theorem dX7_rightIn_25 : decode cX7_rightIn 25 = .ok (.iload_n 1, 1) := by decide +kernel
theorem dX7_rightIn_26 : decode cX7_rightIn 26 = .ok (.iload_n 2, 1) := by decide +kernel
theorem dX7_rightIn_27 : decode cX7_rightIn 27 = .ok (.iconst 2, 1) := by decide +kernel
theorem dX7_rightIn_28 : decode cX7_rightIn 28 = .ok (.invokevirtual 67, 3) := by decide +kernel
theorem dX7_rightIn_31 : decode cX7_rightIn 31 = .ok (.ifCond .ne 38, 3) := by decide +kernel
theorem dX7_rightIn_34 : decode cX7_rightIn 34 = .ok (.iload 5, 2) := by decide +kernel
theorem dX7_rightIn_36 : decode cX7_rightIn 36 = .ok (.iload_n 3, 1) := by decide +kernel
theorem dX7_rightIn_37 : decode cX7_rightIn 37 = .ok (.iconst 1, 1) := by decide +kernel
theorem dX7_rightIn_38 : decode cX7_rightIn 38 = .ok (.iadd, 1) := by decide +kernel
theorem dX7_rightIn_39 : decode cX7_rightIn 39 = .ok (.if_icmp .eq 7, 3) := by decide +kernel
theorem dX7_rightIn_42 : decode cX7_rightIn 42 = .ok (.iconst 0, 1) := by decide +kernel
theorem dX7_rightIn_43 : decode cX7_rightIn 43 = .ok (.goto 25, 3) := by decide +kernel
theorem dX7_rightIn_46 : decode cX7_rightIn 46 = .ok (.iconst 0, 1) := by decide +kernel
theorem dX7_rightIn_47 : decode cX7_rightIn 47 = .ok (.iload 4, 2) := by decide +kernel
theorem dX7_rightIn_49 : decode cX7_rightIn 49 = .ok (.iconst 0, 1) := by decide +kernel
theorem dX7_rightIn_50 : decode cX7_rightIn 50 = .ok (.iload_n 3, 1) := by decide +kernel
theorem dX7_rightIn_51 : decode cX7_rightIn 51 = .ok (.iload 4, 2) := by decide +kernel
theorem dX7_rightIn_53 : decode cX7_rightIn 53 = .ok (.iadd, 1) := by decide +kernel
theorem dX7_rightIn_54 : decode cX7_rightIn 54 = .ok (.aload_n 0, 1) := by decide +kernel
theorem dX7_rightIn_55 : decode cX7_rightIn 55 = .ok (.iload_n 1, 1) := by decide +kernel
theorem dX7_rightIn_56 : decode cX7_rightIn 56 = .ok (.iconst 0, 1) := by decide +kernel
theorem dX7_rightIn_57 : decode cX7_rightIn 57 = .ok (.invokevirtual 63, 3) := by decide +kernel
theorem dX7_rightIn_60 : decode cX7_rightIn 60 = .ok (.isub, 1) := by decide +kernel
theorem ab_k143_0 (K : ab_Kt) : ∀ q ∈ ab_l143_0, ab_OK K ab_mt ab_g143 q.1 q.2 := by
  unfold ab_l143_0
  exact List.forall_mem_cons.mpr ⟨ab_aload_n_ok dX7_rightIn_0 rfl, List.forall_mem_cons.mpr ⟨ab_iload_n_ok dX7_rightIn_1 rfl, List.forall_mem_cons.mpr ⟨ab_iload_n_ok dX7_rightIn_2 rfl, List.forall_mem_cons.mpr ⟨ab_callV_ok' (G' := ab_g148) (C := RX7) (T := TX7) (N := 19) dX7_rightIn_3 ab_m148 rfl rfl (by decide) (by decide) (ab_l4 ab_w596 ab_w597 ab_w598 ab_w8) ab_w599 rfl ⟨by decide, by decide, by decide +kernel⟩, List.forall_mem_cons.mpr ⟨ab_istore_n_ok dX7_rightIn_6 rfl, List.forall_mem_cons.mpr ⟨ab_aload_n_ok dX7_rightIn_7 rfl, List.forall_mem_cons.mpr ⟨ab_iload_n_ok dX7_rightIn_8 rfl, List.forall_mem_cons.mpr ⟨ab_iload_n_ok dX7_rightIn_9 rfl, List.forall_mem_cons.mpr ⟨ab_callV_ok' (G' := ab_g112) (C := RX7) (T := TX7) (N := 19) dX7_rightIn_10 ab_m112 rfl rfl (by decide) (by decide) (ab_l4 ab_w448 ab_w449 ab_w450 ab_w8) ab_w451 rfl ⟨by decide, by decide, by decide +kernel⟩, List.forall_mem_cons.mpr ⟨ab_istore_ok dX7_rightIn_13, List.forall_mem_cons.mpr ⟨ab_aload_n_ok dX7_rightIn_15 rfl, List.forall_mem_cons.mpr ⟨ab_iload_n_ok dX7_rightIn_16 rfl, List.forall_mem_cons.mpr ⟨ab_iload_n_ok dX7_rightIn_17 rfl, List.forall_mem_cons.mpr ⟨ab_iconst_ok dX7_rightIn_18 (by decide), List.forall_mem_cons.mpr ⟨ab_callV_ok' (G' := ab_g111) (C := RX7) (T := TX7) (N := 19) dX7_rightIn_19 ab_m111 rfl rfl (by decide) (by decide) (ab_l4 ab_w444 ab_w445 ab_w446 ab_w8) ab_w447 rfl ⟨by decide, by decide, by decide +kernel⟩, List.forall_mem_cons.mpr ⟨ab_istore_ok dX7_rightIn_22, List.forall_mem_cons.mpr ⟨ab_aload_n_ok dX7_rightIn_24 rfl, List.forall_mem_cons.mpr ⟨ab_iload_n_ok dX7_rightIn_25 rfl, List.forall_mem_cons.mpr ⟨ab_iload_n_ok dX7_rightIn_26 rfl, List.forall_mem_cons.mpr ⟨ab_iconst_ok dX7_rightIn_27 (by decide), List.forall_mem_cons.mpr ⟨ab_callV_ok' (G' := ab_g111) (C := RX7) (T := TX7) (N := 19) dX7_rightIn_28 ab_m111 rfl rfl (by decide) (by decide) (ab_l4 ab_w444 ab_w445 ab_w446 ab_w8) ab_w447 rfl ⟨by decide, by decide, by decide +kernel⟩, List.forall_mem_cons.mpr ⟨ab_if_ne_ok dX7_rightIn_31 (by decide), List.forall_mem_cons.mpr ⟨ab_iload_ok dX7_rightIn_34, List.forall_mem_cons.mpr ⟨ab_iload_n_ok dX7_rightIn_36 rfl, List.forall_mem_cons.mpr ⟨ab_iconst_ok dX7_rightIn_37 (by decide), List.forall_mem_cons.mpr ⟨ab_iadd_ok dX7_rightIn_38, List.forall_mem_cons.mpr ⟨ab_icmp_eq_ok dX7_rightIn_39 (by decide), List.forall_mem_cons.mpr ⟨ab_iconst_ok dX7_rightIn_42 (by decide), List.forall_mem_cons.mpr ⟨ab_goto_ok dX7_rightIn_43 (by decide), List.forall_mem_cons.mpr ⟨ab_iconst_ok dX7_rightIn_46 (by decide), List.forall_mem_cons.mpr ⟨ab_iload_ok dX7_rightIn_47, List.forall_mem_cons.mpr ⟨ab_iconst_ok dX7_rightIn_49 (by decide), List.forall_mem_cons.mpr ⟨ab_iload_n_ok dX7_rightIn_50 rfl, List.forall_mem_cons.mpr ⟨ab_iload_ok dX7_rightIn_51, List.forall_mem_cons.mpr ⟨ab_iadd_ok dX7_rightIn_53, List.forall_mem_cons.mpr ⟨ab_aload_n_ok dX7_rightIn_54 rfl, List.forall_mem_cons.mpr ⟨ab_iload_n_ok dX7_rightIn_55 rfl, List.forall_mem_cons.mpr ⟨ab_iconst_ok dX7_rightIn_56 (by decide), List.forall_mem_cons.mpr ⟨ab_callV_ok' (G' := ab_g110) (C := RX7) (T := TX7) (N := 19) dX7_rightIn_57 ab_m110 rfl rfl (by decide) (by decide) (ab_l4 ab_w440 ab_w441 ab_w442 ab_w8) ab_w443 rfl ⟨by decide, by decide, by decide +kernel⟩, List.forall_mem_cons.mpr ⟨ab_isub_ok dX7_rightIn_60, fun _ h => absurd h List.not_mem_nil⟩⟩⟩⟩⟩⟩⟩⟩⟩⟩⟩⟩⟩⟩⟩⟩⟩⟩⟩⟩⟩⟩⟩⟩⟩⟩⟩⟩⟩⟩⟩⟩⟩⟩⟩⟩⟩⟩⟩⟩
theorem dX7_rightIn_61 : decode cX7_rightIn 61 = .ok (.invokestatic 131, 3) := by decide +kernel
theorem dX7_rightIn_64 : decode cX7_rightIn 64 = .ok (.isub, 1) := by decide +kernel
theorem dX7_rightIn_65 : decode cX7_rightIn 65 = .ok (.invokestatic 131, 3) := by decide +kernel
theorem dX7_rightIn_68 : decode cX7_rightIn 68 = .ok (.ireturn, 1) := by decide +kernel
theorem dX7_rightIn_69 : decode cX7_rightIn 69 = .ok (.iload 5, 2) := by decide +kernel
theorem dX7_rightIn_71 : decode cX7_rightIn 71 = .ok (.iload 4, 2) := by decide +kernel
theorem dX7_rightIn_73 : decode cX7_rightIn 73 = .ok (.iadd, 1) := by decide +kernel
theorem dX7_rightIn_74 : decode cX7_rightIn 74 = .ok (.iconst 2, 1) := by decide +kernel
theorem dX7_rightIn_75 : decode cX7_rightIn 75 = .ok (.isub, 1) := by decide +kernel
theorem dX7_rightIn_76 : decode cX7_rightIn 76 = .ok (.iload_n 3, 1) := by decide +kernel
theorem dX7_rightIn_77 : decode cX7_rightIn 77 = .ok (.isub, 1) := by decide +kernel
theorem dX7_rightIn_78 : decode cX7_rightIn 78 = .ok (.istore 6, 2) := by decide +kernel
theorem dX7_rightIn_80 : decode cX7_rightIn 80 = .ok (.iload 6, 2) := by decide +kernel
theorem dX7_rightIn_82 : decode cX7_rightIn 82 = .ok (.iconst 2, 1) := by decide +kernel
theorem dX7_rightIn_83 : decode cX7_rightIn 83 = .ok (.idiv, 1) := by decide +kernel
theorem dX7_rightIn_84 : decode cX7_rightIn 84 = .ok (.istore 7, 2) := by decide +kernel
theorem dX7_rightIn_86 : decode cX7_rightIn 86 = .ok (.iload 6, 2) := by decide +kernel
theorem dX7_rightIn_88 : decode cX7_rightIn 88 = .ok (.iconst 2, 1) := by decide +kernel
theorem dX7_rightIn_89 : decode cX7_rightIn 89 = .ok (.irem, 1) := by decide +kernel
theorem dX7_rightIn_90 : decode cX7_rightIn 90 = .ok (.ifCond .ne 33, 3) := by decide +kernel
theorem dX7_rightIn_93 : decode cX7_rightIn 93 = .ok (.iload 7, 2) := by decide +kernel
theorem dX7_rightIn_95 : decode cX7_rightIn 95 = .ok (.iconst 0, 1) := by decide +kernel
theorem dX7_rightIn_96 : decode cX7_rightIn 96 = .ok (.iload 4, 2) := by decide +kernel
theorem dX7_rightIn_98 : decode cX7_rightIn 98 = .ok (.iconst 1, 1) := by decide +kernel
theorem dX7_rightIn_99 : decode cX7_rightIn 99 = .ok (.isub, 1) := by decide +kernel
theorem dX7_rightIn_100 : decode cX7_rightIn 100 = .ok (.invokestatic 59, 3) := by decide +kernel
theorem dX7_rightIn_103 : decode cX7_rightIn 103 = .ok (.ifCond .eq 20, 3) := by decide +kernel
theorem dX7_rightIn_106 : decode cX7_rightIn 106 = .ok (.iload_n 3, 1) := by decide +kernel
theorem dX7_rightIn_107 : decode cX7_rightIn 107 = .ok (.iload 7, 2) := by decide +kernel
theorem dX7_rightIn_109 : decode cX7_rightIn 109 = .ok (.iadd, 1) := by decide +kernel
theorem dX7_rightIn_110 : decode cX7_rightIn 110 = .ok (.aload_n 0, 1) := by decide +kernel
theorem dX7_rightIn_111 : decode cX7_rightIn 111 = .ok (.iload_n 1, 1) := by decide +kernel
theorem dX7_rightIn_112 : decode cX7_rightIn 112 = .ok (.iconst 0, 1) := by decide +kernel
theorem dX7_rightIn_113 : decode cX7_rightIn 113 = .ok (.invokevirtual 63, 3) := by decide +kernel
theorem dX7_rightIn_116 : decode cX7_rightIn 116 = .ok (.if_icmp .ge 7, 3) := by decide +kernel
theorem dX7_rightIn_119 : decode cX7_rightIn 119 = .ok (.iconst 1, 1) := by decide +kernel
theorem dX7_rightIn_120 : decode cX7_rightIn 120 = .ok (.goto 4, 3) := by decide +kernel
theorem dX7_rightIn_123 : decode cX7_rightIn 123 = .ok (.iconst 0, 1) := by decide +kernel
theorem dX7_rightIn_124 : decode cX7_rightIn 124 = .ok (.ireturn, 1) := by decide +kernel
theorem ab_k143_1 (K : ab_Kt) : ∀ q ∈ ab_l143_1, ab_OK K ab_mt ab_g143 q.1 q.2 := by
  unfold ab_l143_1
  exact List.forall_mem_cons.mpr ⟨ab_callS_ok' (G' := ab_g126) dX7_rightIn_61 ab_m126 (by decide) (by decide) (ab_l3 ab_w509 ab_w510 ab_w8) ab_w511 rfl ⟨by decide, by decide, by decide +kernel⟩, List.forall_mem_cons.mpr ⟨ab_isub_ok dX7_rightIn_64, List.forall_mem_cons.mpr ⟨ab_callS_ok' (G' := ab_g126) dX7_rightIn_65 ab_m126 (by decide) (by decide) (ab_l3 ab_w509 ab_w510 ab_w8) ab_w511 rfl ⟨by decide, by decide, by decide +kernel⟩, List.forall_mem_cons.mpr ⟨ab_iret_ok dX7_rightIn_68 rfl, List.forall_mem_cons.mpr ⟨ab_iload_ok dX7_rightIn_69, List.forall_mem_cons.mpr ⟨ab_iload_ok dX7_rightIn_71, List.forall_mem_cons.mpr ⟨ab_iadd_ok dX7_rightIn_73, List.forall_mem_cons.mpr ⟨ab_iconst_ok dX7_rightIn_74 (by decide), List.forall_mem_cons.mpr ⟨ab_isub_ok dX7_rightIn_75, List.forall_mem_cons.mpr ⟨ab_iload_n_ok dX7_rightIn_76 rfl, List.forall_mem_cons.mpr ⟨ab_isub_ok dX7_rightIn_77, List.forall_mem_cons.mpr ⟨ab_istore_ok dX7_rightIn_78, List.forall_mem_cons.mpr ⟨ab_iload_ok dX7_rightIn_80, List.forall_mem_cons.mpr ⟨ab_iconst_ok dX7_rightIn_82 (by decide), List.forall_mem_cons.mpr ⟨ab_idiv_ok dX7_rightIn_83, List.forall_mem_cons.mpr ⟨ab_istore_ok dX7_rightIn_84, List.forall_mem_cons.mpr ⟨ab_iload_ok dX7_rightIn_86, List.forall_mem_cons.mpr ⟨ab_iconst_ok dX7_rightIn_88 (by decide), List.forall_mem_cons.mpr ⟨ab_irem_ok dX7_rightIn_89, List.forall_mem_cons.mpr ⟨ab_if_ne_ok dX7_rightIn_90 (by decide), List.forall_mem_cons.mpr ⟨ab_iload_ok dX7_rightIn_93, List.forall_mem_cons.mpr ⟨ab_iconst_ok dX7_rightIn_95 (by decide), List.forall_mem_cons.mpr ⟨ab_iload_ok dX7_rightIn_96, List.forall_mem_cons.mpr ⟨ab_iconst_ok dX7_rightIn_98 (by decide), List.forall_mem_cons.mpr ⟨ab_isub_ok dX7_rightIn_99, List.forall_mem_cons.mpr ⟨ab_callS_ok' (G' := ab_g97) dX7_rightIn_100 ab_m97 (by decide) (by decide) (ab_l3 ab_w387 ab_w388 ab_w8) ab_w389 rfl ⟨by decide, by decide, by decide +kernel⟩, List.forall_mem_cons.mpr ⟨ab_if_eq_ok dX7_rightIn_103 (by decide), List.forall_mem_cons.mpr ⟨ab_iload_n_ok dX7_rightIn_106 rfl, List.forall_mem_cons.mpr ⟨ab_iload_ok dX7_rightIn_107, List.forall_mem_cons.mpr ⟨ab_iadd_ok dX7_rightIn_109, List.forall_mem_cons.mpr ⟨ab_aload_n_ok dX7_rightIn_110 rfl, List.forall_mem_cons.mpr ⟨ab_iload_n_ok dX7_rightIn_111 rfl, List.forall_mem_cons.mpr ⟨ab_iconst_ok dX7_rightIn_112 (by decide), List.forall_mem_cons.mpr ⟨ab_callV_ok' (G' := ab_g110) (C := RX7) (T := TX7) (N := 19) dX7_rightIn_113 ab_m110 rfl rfl (by decide) (by decide) (ab_l4 ab_w440 ab_w441 ab_w442 ab_w8) ab_w443 rfl ⟨by decide, by decide, by decide +kernel⟩, List.forall_mem_cons.mpr ⟨ab_icmp_ge_ok dX7_rightIn_116 (by decide), List.forall_mem_cons.mpr ⟨ab_iconst_ok dX7_rightIn_119 (by decide), List.forall_mem_cons.mpr ⟨ab_goto_ok dX7_rightIn_120 (by decide), List.forall_mem_cons.mpr ⟨ab_iconst_ok dX7_rightIn_123 (by decide), List.forall_mem_cons.mpr ⟨ab_iret_ok dX7_rightIn_124 rfl, fun _ h => absurd h List.not_mem_nil⟩⟩⟩⟩⟩⟩⟩⟩⟩⟩⟩⟩⟩⟩⟩⟩⟩⟩⟩⟩⟩⟩⟩⟩⟩⟩⟩⟩⟩⟩⟩⟩⟩⟩⟩⟩⟩⟩⟩
theorem ab_k143 (K : ab_Kt) : ∀ pc, ab_OK K ab_mt ab_g143 pc (ab_c143 pc) := ab_lk2_ok _ (List.forall_mem_cons.mpr ⟨ab_k143_0 K, List.forall_mem_cons.mpr ⟨ab_k143_1 K, fun _ h => absurd h List.not_mem_nil⟩⟩)
theorem dX6_wrong_0 : decode cX6_wrong 0 = .ok (.aload_n 0, 1) := by decide +kernel
theorem dX6_wrong_1 : decode cX6_wrong 1 = .ok (.iload_n 1, 1) := by decide +kernel
theorem dX6_wrong_2 : decode cX6_wrong 2 = .ok (.invokevirtual 106, 3) := by decide +kernel
theorem dX6_wrong_5 : decode cX6_wrong 5 = .ok (.invokevirtual 169, 3) := by decide +kernel
theorem dX6_wrong_8 : decode cX6_wrong 8 = .ok (.ireturn, 1) := by decide +kernel
theorem ab_k144_0 (K : ab_Kt) : ∀ q ∈ ab_l144_0, ab_OK K ab_mt ab_g144 q.1 q.2 := by
  unfold ab_l144_0
  exact List.forall_mem_cons.mpr ⟨ab_aload_n_ok dX6_wrong_0 rfl, List.forall_mem_cons.mpr ⟨ab_iload_n_ok dX6_wrong_1 rfl, List.forall_mem_cons.mpr ⟨ab_callV_ok' (G' := ab_g182) (C := RX6) (T := TX6) (N := 9) dX6_wrong_2 ab_m182 rfl rfl (by decide) (by decide) (ab_l4 ab_w770 ab_w771 ab_w772 ab_w2) ab_w773 rfl ⟨by decide, by decide, by decide +kernel⟩, List.forall_mem_cons.mpr ⟨ab_callV_ok' (G' := ab_g184) (C := RX1) (T := TX1) (N := 13) dX6_wrong_5 ab_m184 rfl rfl (by decide) (by decide) (ab_l4 ab_w778 ab_w779 ab_w780 ab_w711) ab_w781 rfl ⟨by decide, by decide, by decide +kernel⟩, List.forall_mem_cons.mpr ⟨ab_iret_ok dX6_wrong_8 rfl, fun _ h => absurd h List.not_mem_nil⟩⟩⟩⟩⟩
theorem ab_k144 (K : ab_Kt) : ∀ pc, ab_OK K ab_mt ab_g144 pc (ab_c144 pc) := ab_lk2_ok _ (List.forall_mem_cons.mpr ⟨ab_k144_0 K, fun _ h => absurd h List.not_mem_nil⟩)
theorem dX6_pageAt_0 : decode cX6_pageAt 0 = .ok (.aload_n 0, 1) := by decide +kernel
theorem dX6_pageAt_1 : decode cX6_pageAt 1 = .ok (.iload_n 1, 1) := by decide +kernel
theorem dX6_pageAt_2 : decode cX6_pageAt 2 = .ok (.iload_n 2, 1) := by decide +kernel
theorem dX6_pageAt_3 : decode cX6_pageAt 3 = .ok (.invokevirtual 163, 3) := by decide +kernel
theorem dX6_pageAt_6 : decode cX6_pageAt 6 = .ok (.iload_n 2, 1) := by decide +kernel
theorem dX6_pageAt_7 : decode cX6_pageAt 7 = .ok (.invokevirtual 166, 3) := by decide +kernel
theorem dX6_pageAt_10 : decode cX6_pageAt 10 = .ok (.ireturn, 1) := by decide +kernel
theorem ab_k145_0 (K : ab_Kt) : ∀ q ∈ ab_l145_0, ab_OK K ab_mt ab_g145 q.1 q.2 := by
  unfold ab_l145_0
  exact List.forall_mem_cons.mpr ⟨ab_aload_n_ok dX6_pageAt_0 rfl, List.forall_mem_cons.mpr ⟨ab_iload_n_ok dX6_pageAt_1 rfl, List.forall_mem_cons.mpr ⟨ab_iload_n_ok dX6_pageAt_2 rfl, List.forall_mem_cons.mpr ⟨ab_callV_ok' (G' := ab_g204) (C := RX6) (T := TX6) (N := 9) dX6_pageAt_3 ab_m204 rfl rfl (by decide) (by decide) (ab_l4 ab_w887 ab_w888 ab_w889 ab_w2) ab_w890 rfl ⟨by decide, by decide, by decide +kernel⟩, List.forall_mem_cons.mpr ⟨ab_iload_n_ok dX6_pageAt_6 rfl, List.forall_mem_cons.mpr ⟨ab_callV_ok' (G' := ab_g214) (C := RX1) (T := TX1) (N := 13) dX6_pageAt_7 ab_m214 rfl rfl (by decide) (by decide) (ab_l4 ab_w927 ab_w928 ab_w929 ab_w711) ab_w930 rfl ⟨by decide, by decide, by decide +kernel⟩, List.forall_mem_cons.mpr ⟨ab_iret_ok dX6_pageAt_10 rfl, fun _ h => absurd h List.not_mem_nil⟩⟩⟩⟩⟩⟩⟩
theorem ab_k145 (K : ab_Kt) : ∀ pc, ab_OK K ab_mt ab_g145 pc (ab_c145 pc) := ab_lk2_ok _ (List.forall_mem_cons.mpr ⟨ab_k145_0 K, fun _ h => absurd h List.not_mem_nil⟩)
theorem dX7_page_0 : decode cX7_page 0 = .ok (.iconst 0, 1) := by decide +kernel
theorem dX7_page_1 : decode cX7_page 1 = .ok (.istore_n 3, 1) := by decide +kernel
theorem dX7_page_2 : decode cX7_page 2 = .ok (.iload_n 2, 1) := by decide +kernel
theorem dX7_page_3 : decode cX7_page 3 = .ok (.istore 4, 2) := by decide +kernel
theorem dX7_page_5 : decode cX7_page 5 = .ok (.iload 4, 2) := by decide +kernel
theorem dX7_page_7 : decode cX7_page 7 = .ok (.aload_n 0, 1) := by decide +kernel
theorem dX7_page_8 : decode cX7_page 8 = .ok (.iload_n 1, 1) := by decide +kernel
theorem dX7_page_9 : decode cX7_page 9 = .ok (.iload_n 3, 1) := by decide +kernel
theorem dX7_page_10 : decode cX7_page 10 = .ok (.invokevirtual 71, 3) := by decide +kernel
theorem dX7_page_13 : decode cX7_page 13 = .ok (.if_icmp .lt 20, 3) := by decide +kernel
theorem dX7_page_16 : decode cX7_page 16 = .ok (.iload 4, 2) := by decide +kernel
theorem dX7_page_18 : decode cX7_page 18 = .ok (.aload_n 0, 1) := by decide +kernel
theorem dX7_page_19 : decode cX7_page 19 = .ok (.iload_n 1, 1) := by decide +kernel
theorem dX7_page_20 : decode cX7_page 20 = .ok (.iload_n 3, 1) := by decide +kernel
theorem dX7_page_21 : decode cX7_page 21 = .ok (.invokevirtual 71, 3) := by decide +kernel
theorem dX7_page_24 : decode cX7_page 24 = .ok (.isub, 1) := by decide +kernel
theorem dX7_page_25 : decode cX7_page 25 = .ok (.istore 4, 2) := by decide +kernel
theorem dX7_page_27 : decode cX7_page 27 = .ok (.iinc 3 1, 3) := by decide +kernel
theorem dX7_page_30 : decode cX7_page 30 = .ok (.goto (-25), 3) := by decide +kernel
theorem dX7_page_33 : decode cX7_page 33 = .ok (.aload_n 0, 1) := by decide +kernel
theorem dX7_page_34 : decode cX7_page 34 = .ok (.iload_n 1, 1) := by decide +kernel
theorem dX7_page_35 : decode cX7_page 35 = .ok (.iload_n 3, 1) := by decide +kernel
theorem dX7_page_36 : decode cX7_page 36 = .ok (.iconst 2, 1) := by decide +kernel
theorem dX7_page_37 : decode cX7_page 37 = .ok (.invokevirtual 67, 3) := by decide +kernel
theorem dX7_page_40 : decode cX7_page 40 = .ok (.iconst 1, 1) := by decide +kernel
theorem dX7_page_41 : decode cX7_page 41 = .ok (.if_icmp .ne 25, 3) := by decide +kernel
theorem dX7_page_44 : decode cX7_page 44 = .ok (.aload_n 0, 1) := by decide +kernel
theorem dX7_page_45 : decode cX7_page 45 = .ok (.iload_n 1, 1) := by decide +kernel
theorem dX7_page_46 : decode cX7_page 46 = .ok (.iload_n 3, 1) := by decide +kernel
theorem dX7_page_47 : decode cX7_page 47 = .ok (.iconst 0, 1) := by decide +kernel
theorem dX7_page_48 : decode cX7_page 48 = .ok (.invokevirtual 67, 3) := by decide +kernel
theorem dX7_page_51 : decode cX7_page 51 = .ok (.aload_n 0, 1) := by decide +kernel
theorem dX7_page_52 : decode cX7_page 52 = .ok (.iload_n 1, 1) := by decide +kernel
theorem dX7_page_53 : decode cX7_page 53 = .ok (.iload_n 3, 1) := by decide +kernel
theorem dX7_page_54 : decode cX7_page 54 = .ok (.invokevirtual 71, 3) := by decide +kernel
theorem dX7_page_57 : decode cX7_page 57 = .ok (.iadd, 1) := by decide +kernel
theorem dX7_page_58 : decode cX7_page 58 = .ok (.iconst 1, 1) := by decide +kernel
theorem dX7_page_59 : decode cX7_page 59 = .ok (.isub, 1) := by decide +kernel
theorem dX7_page_60 : decode cX7_page 60 = .ok (.iload 4, 2) := by decide +kernel
theorem dX7_page_62 : decode cX7_page 62 = .ok (.isub, 1) := by decide +kernel
theorem ab_k146_0 (K : ab_Kt) : ∀ q ∈ ab_l146_0, ab_OK K ab_mt ab_g146 q.1 q.2 := by
  unfold ab_l146_0
  exact List.forall_mem_cons.mpr ⟨ab_iconst_ok dX7_page_0 (by decide), List.forall_mem_cons.mpr ⟨ab_istore_n_ok dX7_page_1 rfl, List.forall_mem_cons.mpr ⟨ab_iload_n_ok dX7_page_2 rfl, List.forall_mem_cons.mpr ⟨ab_istore_ok dX7_page_3, List.forall_mem_cons.mpr ⟨ab_iload_ok dX7_page_5, List.forall_mem_cons.mpr ⟨ab_aload_n_ok dX7_page_7 rfl, List.forall_mem_cons.mpr ⟨ab_iload_n_ok dX7_page_8 rfl, List.forall_mem_cons.mpr ⟨ab_iload_n_ok dX7_page_9 rfl, List.forall_mem_cons.mpr ⟨ab_callV_ok' (G' := ab_g112) (C := RX7) (T := TX7) (N := 19) dX7_page_10 ab_m112 rfl rfl (by decide) (by decide) (ab_l4 ab_w448 ab_w449 ab_w450 ab_w8) ab_w451 rfl ⟨by decide, by decide, by decide +kernel⟩, List.forall_mem_cons.mpr ⟨ab_icmp_lt_ok dX7_page_13 (by decide), List.forall_mem_cons.mpr ⟨ab_iload_ok dX7_page_16, List.forall_mem_cons.mpr ⟨ab_aload_n_ok dX7_page_18 rfl, List.forall_mem_cons.mpr ⟨ab_iload_n_ok dX7_page_19 rfl, List.forall_mem_cons.mpr ⟨ab_iload_n_ok dX7_page_20 rfl, List.forall_mem_cons.mpr ⟨ab_callV_ok' (G' := ab_g112) (C := RX7) (T := TX7) (N := 19) dX7_page_21 ab_m112 rfl rfl (by decide) (by decide) (ab_l4 ab_w448 ab_w449 ab_w450 ab_w8) ab_w451 rfl ⟨by decide, by decide, by decide +kernel⟩, List.forall_mem_cons.mpr ⟨ab_isub_ok dX7_page_24, List.forall_mem_cons.mpr ⟨ab_istore_ok dX7_page_25, List.forall_mem_cons.mpr ⟨ab_iinc_ok dX7_page_27 (by decide), List.forall_mem_cons.mpr ⟨ab_goto_ok dX7_page_30 (by decide), List.forall_mem_cons.mpr ⟨ab_aload_n_ok dX7_page_33 rfl, List.forall_mem_cons.mpr ⟨ab_iload_n_ok dX7_page_34 rfl, List.forall_mem_cons.mpr ⟨ab_iload_n_ok dX7_page_35 rfl, List.forall_mem_cons.mpr ⟨ab_iconst_ok dX7_page_36 (by decide), List.forall_mem_cons.mpr ⟨ab_callV_ok' (G' := ab_g111) (C := RX7) (T := TX7) (N := 19) dX7_page_37 ab_m111 rfl rfl (by decide) (by decide) (ab_l4 ab_w444 ab_w445 ab_w446 ab_w8) ab_w447 rfl ⟨by decide, by decide, by decide +kernel⟩, List.forall_mem_cons.mpr ⟨ab_iconst_ok dX7_page_40 (by decide), List.forall_mem_cons.mpr ⟨ab_icmp_ne_ok dX7_page_41 (by decide), List.forall_mem_cons.mpr ⟨ab_aload_n_ok dX7_page_44 rfl, List.forall_mem_cons.mpr ⟨ab_iload_n_ok dX7_page_45 rfl, List.forall_mem_cons.mpr ⟨ab_iload_n_ok dX7_page_46 rfl, List.forall_mem_cons.mpr ⟨ab_iconst_ok dX7_page_47 (by decide), List.forall_mem_cons.mpr ⟨ab_callV_ok' (G' := ab_g111) (C := RX7) (T := TX7) (N := 19) dX7_page_48 ab_m111 rfl rfl (by decide) (by decide) (ab_l4 ab_w444 ab_w445 ab_w446 ab_w8) ab_w447 rfl ⟨by decide, by decide, by decide +kernel⟩, List.forall_mem_cons.mpr ⟨ab_aload_n_ok dX7_page_51 rfl, List.forall_mem_cons.mpr ⟨ab_iload_n_ok dX7_page_52 rfl, List.forall_mem_cons.mpr ⟨ab_iload_n_ok dX7_page_53 rfl, List.forall_mem_cons.mpr ⟨ab_callV_ok' (G' := ab_g112) (C := RX7) (T := TX7) (N := 19) dX7_page_54 ab_m112 rfl rfl (by decide) (by decide) (ab_l4 ab_w448 ab_w449 ab_w450 ab_w8) ab_w451 rfl ⟨by decide, by decide, by decide +kernel⟩, List.forall_mem_cons.mpr ⟨ab_iadd_ok dX7_page_57, List.forall_mem_cons.mpr ⟨ab_iconst_ok dX7_page_58 (by decide), List.forall_mem_cons.mpr ⟨ab_isub_ok dX7_page_59, List.forall_mem_cons.mpr ⟨ab_iload_ok dX7_page_60, List.forall_mem_cons.mpr ⟨ab_isub_ok dX7_page_62, fun _ h => absurd h List.not_mem_nil⟩⟩⟩⟩⟩⟩⟩⟩⟩⟩⟩⟩⟩⟩⟩⟩⟩⟩⟩⟩⟩⟩⟩⟩⟩⟩⟩⟩⟩⟩⟩⟩⟩⟩⟩⟩⟩⟩⟩⟩
theorem dX7_page_63 : decode cX7_page 63 = .ok (.goto 13, 3) := by decide +kernel
theorem dX7_page_66 : decode cX7_page 66 = .ok (.aload_n 0, 1) := by decide +kernel
theorem dX7_page_67 : decode cX7_page 67 = .ok (.iload_n 1, 1) := by decide +kernel
theorem dX7_page_68 : decode cX7_page 68 = .ok (.iload_n 3, 1) := by decide +kernel
theorem dX7_page_69 : decode cX7_page 69 = .ok (.iconst 0, 1) := by decide +kernel
theorem dX7_page_70 : decode cX7_page 70 = .ok (.invokevirtual 67, 3) := by decide +kernel
theorem dX7_page_73 : decode cX7_page 73 = .ok (.iload 4, 2) := by decide +kernel
theorem dX7_page_75 : decode cX7_page 75 = .ok (.iadd, 1) := by decide +kernel
theorem dX7_page_76 : decode cX7_page 76 = .ok (.ireturn, 1) := by decide +kernel
theorem ab_k146_1 (K : ab_Kt) : ∀ q ∈ ab_l146_1, ab_OK K ab_mt ab_g146 q.1 q.2 := by
  unfold ab_l146_1
  exact List.forall_mem_cons.mpr ⟨ab_goto_ok dX7_page_63 (by decide), List.forall_mem_cons.mpr ⟨ab_aload_n_ok dX7_page_66 rfl, List.forall_mem_cons.mpr ⟨ab_iload_n_ok dX7_page_67 rfl, List.forall_mem_cons.mpr ⟨ab_iload_n_ok dX7_page_68 rfl, List.forall_mem_cons.mpr ⟨ab_iconst_ok dX7_page_69 (by decide), List.forall_mem_cons.mpr ⟨ab_callV_ok' (G' := ab_g111) (C := RX7) (T := TX7) (N := 19) dX7_page_70 ab_m111 rfl rfl (by decide) (by decide) (ab_l4 ab_w444 ab_w445 ab_w446 ab_w8) ab_w447 rfl ⟨by decide, by decide, by decide +kernel⟩, List.forall_mem_cons.mpr ⟨ab_iload_ok dX7_page_73, List.forall_mem_cons.mpr ⟨ab_iadd_ok dX7_page_75, List.forall_mem_cons.mpr ⟨ab_iret_ok dX7_page_76 rfl, fun _ h => absurd h List.not_mem_nil⟩⟩⟩⟩⟩⟩⟩⟩⟩
theorem ab_k146 (K : ab_Kt) : ∀ pc, ab_OK K ab_mt ab_g146 pc (ab_c146 pc) := ab_lk2_ok _ (List.forall_mem_cons.mpr ⟨ab_k146_0 K, List.forall_mem_cons.mpr ⟨ab_k146_1 K, fun _ h => absurd h List.not_mem_nil⟩⟩)
theorem dX6_signatureOf_0 : decode cX6_signatureOf 0 = .ok (.aload_n 0, 1) := by decide +kernel
theorem dX6_signatureOf_1 : decode cX6_signatureOf 1 = .ok (.iload_n 1, 1) := by decide +kernel
theorem dX6_signatureOf_2 : decode cX6_signatureOf 2 = .ok (.iload_n 2, 1) := by decide +kernel
theorem dX6_signatureOf_3 : decode cX6_signatureOf 3 = .ok (.invokevirtual 143, 3) := by decide +kernel
theorem dX6_signatureOf_6 : decode cX6_signatureOf 6 = .ok (.astore 4, 2) := by decide +kernel
theorem dX6_signatureOf_8 : decode cX6_signatureOf 8 = .ok (.iload_n 3, 1) := by decide +kernel
theorem dX6_signatureOf_9 : decode cX6_signatureOf 9 = .ok (.tableswitch 82 0 4 #[35, 43, 51, 59, 75], 35) := by decide +kernel
theorem dX6_signatureOf_44 : decode cX6_signatureOf 44 = .ok (.aload 4, 2) := by decide +kernel
theorem dX6_signatureOf_46 : decode cX6_signatureOf 46 = .ok (.getfield 147, 3) := by decide +kernel
theorem dX6_signatureOf_49 : decode cX6_signatureOf 49 = .ok (.iload_n 2, 1) := by decide +kernel
theorem dX6_signatureOf_50 : decode cX6_signatureOf 50 = .ok (.iaload, 1) := by decide +kernel
theorem dX6_signatureOf_51 : decode cX6_signatureOf 51 = .ok (.ireturn, 1) := by decide +kernel
theorem dX6_signatureOf_52 : decode cX6_signatureOf 52 = .ok (.aload 4, 2) := by decide +kernel
theorem dX6_signatureOf_54 : decode cX6_signatureOf 54 = .ok (.getfield 150, 3) := by decide +kernel
theorem dX6_signatureOf_57 : decode cX6_signatureOf 57 = .ok (.iload_n 2, 1) := by decide +kernel
theorem dX6_signatureOf_58 : decode cX6_signatureOf 58 = .ok (.iaload, 1) := by decide +kernel
theorem dX6_signatureOf_59 : decode cX6_signatureOf 59 = .ok (.ireturn, 1) := by decide +kernel
theorem dX6_signatureOf_60 : decode cX6_signatureOf 60 = .ok (.aload 4, 2) := by decide +kernel
theorem dX6_signatureOf_62 : decode cX6_signatureOf 62 = .ok (.getfield 153, 3) := by decide +kernel
theorem dX6_signatureOf_65 : decode cX6_signatureOf 65 = .ok (.iload_n 2, 1) := by decide +kernel
theorem dX6_signatureOf_66 : decode cX6_signatureOf 66 = .ok (.iaload, 1) := by decide +kernel
theorem dX6_signatureOf_67 : decode cX6_signatureOf 67 = .ok (.ireturn, 1) := by decide +kernel
theorem dX6_signatureOf_68 : decode cX6_signatureOf 68 = .ok (.aload 4, 2) := by decide +kernel
theorem dX6_signatureOf_70 : decode cX6_signatureOf 70 = .ok (.getfield 156, 3) := by decide +kernel
theorem dX6_signatureOf_73 : decode cX6_signatureOf 73 = .ok (.iload_n 2, 1) := by decide +kernel
theorem dX6_signatureOf_74 : decode cX6_signatureOf 74 = .ok (.baload, 1) := by decide +kernel
theorem dX6_signatureOf_75 : decode cX6_signatureOf 75 = .ok (.ifCond .eq 7, 3) := by decide +kernel
theorem dX6_signatureOf_78 : decode cX6_signatureOf 78 = .ok (.iconst 1, 1) := by decide +kernel
theorem dX6_signatureOf_79 : decode cX6_signatureOf 79 = .ok (.goto 4, 3) := by decide +kernel
theorem dX6_signatureOf_82 : decode cX6_signatureOf 82 = .ok (.iconst 0, 1) := by decide +kernel
theorem dX6_signatureOf_83 : decode cX6_signatureOf 83 = .ok (.ireturn, 1) := by decide +kernel
theorem dX6_signatureOf_84 : decode cX6_signatureOf 84 = .ok (.aload 4, 2) := by decide +kernel
theorem dX6_signatureOf_86 : decode cX6_signatureOf 86 = .ok (.iload_n 2, 1) := by decide +kernel
theorem dX6_signatureOf_87 : decode cX6_signatureOf 87 = .ok (.invokevirtual 160, 3) := by decide +kernel
theorem dX6_signatureOf_90 : decode cX6_signatureOf 90 = .ok (.ireturn, 1) := by decide +kernel
theorem dX6_signatureOf_91 : decode cX6_signatureOf 91 = .ok (.new 140, 3) := by decide +kernel
theorem dX6_signatureOf_94 : decode cX6_signatureOf 94 = .ok (.dup, 1) := by decide +kernel
theorem dX6_signatureOf_95 : decode cX6_signatureOf 95 = .ok (.invokespecial 142, 3) := by decide +kernel
theorem dX6_signatureOf_98 : decode cX6_signatureOf 98 = .ok (.athrow, 1) := by decide +kernel
theorem ab_k147_0 (K : ab_Kt) : ∀ q ∈ ab_l147_0, ab_OK K ab_mt ab_g147 q.1 q.2 := by
  unfold ab_l147_0
  exact List.forall_mem_cons.mpr ⟨ab_aload_n_ok dX6_signatureOf_0 rfl, List.forall_mem_cons.mpr ⟨ab_iload_n_ok dX6_signatureOf_1 rfl, List.forall_mem_cons.mpr ⟨ab_iload_n_ok dX6_signatureOf_2 rfl, List.forall_mem_cons.mpr ⟨ab_callV_ok' (G' := ab_g207) (C := RX6) (T := TX6) (N := 9) dX6_signatureOf_3 ab_m207 rfl rfl (by decide) (by decide) (ab_l4 ab_w899 ab_w900 ab_w901 ab_w2) ab_w902 rfl ⟨by decide, by decide, by decide +kernel⟩, List.forall_mem_cons.mpr ⟨ab_astore_ok dX6_signatureOf_6, List.forall_mem_cons.mpr ⟨ab_iload_n_ok dX6_signatureOf_8 rfl, List.forall_mem_cons.mpr ⟨ab_tsw_ok dX6_signatureOf_9 (by decide) (by decide) (by decide), List.forall_mem_cons.mpr ⟨ab_aload_ok dX6_signatureOf_44, List.forall_mem_cons.mpr ⟨ab_getf_ok (C := RX1) (T := TX1) (N := 13) (ci := 5) (k := 8) dX6_signatureOf_46 rfl ab_ic5 (by decide) ab_w805, List.forall_mem_cons.mpr ⟨ab_iload_n_ok dX6_signatureOf_49 rfl, List.forall_mem_cons.mpr ⟨ab_ald0_ok dX6_signatureOf_50, List.forall_mem_cons.mpr ⟨ab_iret_ok dX6_signatureOf_51 rfl, List.forall_mem_cons.mpr ⟨ab_aload_ok dX6_signatureOf_52, List.forall_mem_cons.mpr ⟨ab_getf_ok (C := RX1) (T := TX1) (N := 13) (ci := 5) (k := 9) dX6_signatureOf_54 rfl ab_ic5 (by decide) ab_w806, List.forall_mem_cons.mpr ⟨ab_iload_n_ok dX6_signatureOf_57 rfl, List.forall_mem_cons.mpr ⟨ab_ald0_ok dX6_signatureOf_58, List.forall_mem_cons.mpr ⟨ab_iret_ok dX6_signatureOf_59 rfl, List.forall_mem_cons.mpr ⟨ab_aload_ok dX6_signatureOf_60, List.forall_mem_cons.mpr ⟨ab_getf_ok (C := RX1) (T := TX1) (N := 13) (ci := 5) (k := 10) dX6_signatureOf_62 rfl ab_ic5 (by decide) ab_w935, List.forall_mem_cons.mpr ⟨ab_iload_n_ok dX6_signatureOf_65 rfl, List.forall_mem_cons.mpr ⟨ab_ald0_ok dX6_signatureOf_66, List.forall_mem_cons.mpr ⟨ab_iret_ok dX6_signatureOf_67 rfl, List.forall_mem_cons.mpr ⟨ab_aload_ok dX6_signatureOf_68, List.forall_mem_cons.mpr ⟨ab_getf_ok (C := RX1) (T := TX1) (N := 13) (ci := 5) (k := 11) dX6_signatureOf_70 rfl ab_ic5 (by decide) ab_w807, List.forall_mem_cons.mpr ⟨ab_iload_n_ok dX6_signatureOf_73 rfl, List.forall_mem_cons.mpr ⟨ab_ald1_ok dX6_signatureOf_74, List.forall_mem_cons.mpr ⟨ab_if_eq_ok dX6_signatureOf_75 (by decide), List.forall_mem_cons.mpr ⟨ab_iconst_ok dX6_signatureOf_78 (by decide), List.forall_mem_cons.mpr ⟨ab_goto_ok dX6_signatureOf_79 (by decide), List.forall_mem_cons.mpr ⟨ab_iconst_ok dX6_signatureOf_82 (by decide), List.forall_mem_cons.mpr ⟨ab_iret_ok dX6_signatureOf_83 rfl, List.forall_mem_cons.mpr ⟨ab_aload_ok dX6_signatureOf_84, List.forall_mem_cons.mpr ⟨ab_iload_n_ok dX6_signatureOf_86 rfl, List.forall_mem_cons.mpr ⟨ab_callV_ok' (G' := ab_g215) (C := RX1) (T := TX1) (N := 13) dX6_signatureOf_87 ab_m215 rfl rfl (by decide) (by decide) (ab_l4 ab_w931 ab_w932 ab_w933 ab_w711) ab_w934 rfl ⟨by decide, by decide, by decide +kernel⟩, List.forall_mem_cons.mpr ⟨ab_iret_ok dX6_signatureOf_90 rfl, List.forall_mem_cons.mpr ⟨ab_thr_ok (ik := 140) (ic := 142) (by decide +kernel) (ab_l2 ab_w750 ab_w751) ab_th_1 (by decide +kernel) dX6_signatureOf_91 dX6_signatureOf_94 dX6_signatureOf_95 dX6_signatureOf_98 rfl, fun _ h => absurd h List.not_mem_nil⟩⟩⟩⟩⟩⟩⟩⟩⟩⟩⟩⟩⟩⟩⟩⟩⟩⟩⟩⟩⟩⟩⟩⟩⟩⟩⟩⟩⟩⟩⟩⟩⟩⟩⟩⟩
theorem ab_k147 (K : ab_Kt) : ∀ pc, ab_OK K ab_mt ab_g147 pc (ab_c147 pc) := ab_lk2_ok _ (List.forall_mem_cons.mpr ⟨ab_k147_0 K, fun _ h => absurd h List.not_mem_nil⟩)
theorem dX7_beginOf_0 : decode cX7_beginOf 0 = .ok (.iconst 0, 1) := by decide +kernel
theorem dX7_beginOf_1 : decode cX7_beginOf 1 = .ok (.istore_n 3, 1) := by decide +kernel
theorem dX7_beginOf_2 : decode cX7_beginOf 2 = .ok (.iconst 0, 1) := by decide +kernel
theorem dX7_beginOf_3 : decode cX7_beginOf 3 = .ok (.istore 4, 2) := by decide +kernel
theorem dX7_beginOf_5 : decode cX7_beginOf 5 = .ok (.iload 4, 2) := by decide +kernel
theorem dX7_beginOf_7 : decode cX7_beginOf 7 = .ok (.iload_n 2, 1) := by decide +kernel
theorem dX7_beginOf_8 : decode cX7_beginOf 8 = .ok (.if_icmp .ge 19, 3) := by decide +kernel
theorem dX7_beginOf_11 : decode cX7_beginOf 11 = .ok (.iload_n 3, 1) := by decide +kernel
theorem dX7_beginOf_12 : decode cX7_beginOf 12 = .ok (.aload_n 0, 1) := by decide +kernel
theorem dX7_beginOf_13 : decode cX7_beginOf 13 = .ok (.iload_n 1, 1) := by decide +kernel
theorem dX7_beginOf_14 : decode cX7_beginOf 14 = .ok (.iload 4, 2) := by decide +kernel
theorem dX7_beginOf_16 : decode cX7_beginOf 16 = .ok (.invokevirtual 71, 3) := by decide +kernel
theorem dX7_beginOf_19 : decode cX7_beginOf 19 = .ok (.iadd, 1) := by decide +kernel
theorem dX7_beginOf_20 : decode cX7_beginOf 20 = .ok (.istore_n 3, 1) := by decide +kernel
theorem dX7_beginOf_21 : decode cX7_beginOf 21 = .ok (.iinc 4 1, 3) := by decide +kernel
theorem dX7_beginOf_24 : decode cX7_beginOf 24 = .ok (.goto (-19), 3) := by decide +kernel
theorem dX7_beginOf_27 : decode cX7_beginOf 27 = .ok (.iload_n 3, 1) := by decide +kernel
theorem dX7_beginOf_28 : decode cX7_beginOf 28 = .ok (.ireturn, 1) := by decide +kernel
theorem ab_k148_0 (K : ab_Kt) : ∀ q ∈ ab_l148_0, ab_OK K ab_mt ab_g148 q.1 q.2 := by
  unfold ab_l148_0
  exact List.forall_mem_cons.mpr ⟨ab_iconst_ok dX7_beginOf_0 (by decide), List.forall_mem_cons.mpr ⟨ab_istore_n_ok dX7_beginOf_1 rfl, List.forall_mem_cons.mpr ⟨ab_iconst_ok dX7_beginOf_2 (by decide), List.forall_mem_cons.mpr ⟨ab_istore_ok dX7_beginOf_3, List.forall_mem_cons.mpr ⟨ab_iload_ok dX7_beginOf_5, List.forall_mem_cons.mpr ⟨ab_iload_n_ok dX7_beginOf_7 rfl, List.forall_mem_cons.mpr ⟨ab_icmp_ge_ok dX7_beginOf_8 (by decide), List.forall_mem_cons.mpr ⟨ab_iload_n_ok dX7_beginOf_11 rfl, List.forall_mem_cons.mpr ⟨ab_aload_n_ok dX7_beginOf_12 rfl, List.forall_mem_cons.mpr ⟨ab_iload_n_ok dX7_beginOf_13 rfl, List.forall_mem_cons.mpr ⟨ab_iload_ok dX7_beginOf_14, List.forall_mem_cons.mpr ⟨ab_callV_ok' (G' := ab_g112) (C := RX7) (T := TX7) (N := 19) dX7_beginOf_16 ab_m112 rfl rfl (by decide) (by decide) (ab_l4 ab_w448 ab_w449 ab_w450 ab_w8) ab_w451 rfl ⟨by decide, by decide, by decide +kernel⟩, List.forall_mem_cons.mpr ⟨ab_iadd_ok dX7_beginOf_19, List.forall_mem_cons.mpr ⟨ab_istore_n_ok dX7_beginOf_20 rfl, List.forall_mem_cons.mpr ⟨ab_iinc_ok dX7_beginOf_21 (by decide), List.forall_mem_cons.mpr ⟨ab_goto_ok dX7_beginOf_24 (by decide), List.forall_mem_cons.mpr ⟨ab_iload_n_ok dX7_beginOf_27 rfl, List.forall_mem_cons.mpr ⟨ab_iret_ok dX7_beginOf_28 rfl, fun _ h => absurd h List.not_mem_nil⟩⟩⟩⟩⟩⟩⟩⟩⟩⟩⟩⟩⟩⟩⟩⟩⟩⟩
theorem ab_k148 (K : ab_Kt) : ∀ pc, ab_OK K ab_mt ab_g148 pc (ab_c148 pc) := ab_lk2_ok _ (List.forall_mem_cons.mpr ⟨ab_k148_0 K, fun _ h => absurd h List.not_mem_nil⟩)
theorem dX6_bookOf_0 : decode cX6_bookOf 0 = .ok (.aload_n 0, 1) := by decide +kernel
theorem dX6_bookOf_1 : decode cX6_bookOf 1 = .ok (.iload_n 1, 1) := by decide +kernel
theorem dX6_bookOf_2 : decode cX6_bookOf 2 = .ok (.invokevirtual 106, 3) := by decide +kernel
theorem dX6_bookOf_5 : decode cX6_bookOf 5 = .ok (.astore_n 3, 1) := by decide +kernel
theorem dX6_bookOf_6 : decode cX6_bookOf 6 = .ok (.iload_n 2, 1) := by decide +kernel
theorem dX6_bookOf_7 : decode cX6_bookOf 7 = .ok (.tableswitch 94 0 8 #[49, 54, 59, 64, 69, 74, 79, 84, 89], 49) := by decide +kernel
theorem dX6_bookOf_56 : decode cX6_bookOf 56 = .ok (.aload_n 3, 1) := by decide +kernel
theorem dX6_bookOf_57 : decode cX6_bookOf 57 = .ok (.getfield 110, 3) := by decide +kernel
theorem dX6_bookOf_60 : decode cX6_bookOf 60 = .ok (.ireturn, 1) := by decide +kernel
theorem dX6_bookOf_61 : decode cX6_bookOf 61 = .ok (.aload_n 3, 1) := by decide +kernel
theorem dX6_bookOf_62 : decode cX6_bookOf 62 = .ok (.getfield 115, 3) := by decide +kernel
theorem dX6_bookOf_65 : decode cX6_bookOf 65 = .ok (.ireturn, 1) := by decide +kernel
theorem dX6_bookOf_66 : decode cX6_bookOf 66 = .ok (.aload_n 3, 1) := by decide +kernel
theorem dX6_bookOf_67 : decode cX6_bookOf 67 = .ok (.getfield 118, 3) := by decide +kernel
theorem dX6_bookOf_70 : decode cX6_bookOf 70 = .ok (.ireturn, 1) := by decide +kernel
theorem dX6_bookOf_71 : decode cX6_bookOf 71 = .ok (.aload_n 3, 1) := by decide +kernel
theorem dX6_bookOf_72 : decode cX6_bookOf 72 = .ok (.getfield 121, 3) := by decide +kernel
theorem dX6_bookOf_75 : decode cX6_bookOf 75 = .ok (.ireturn, 1) := by decide +kernel
theorem dX6_bookOf_76 : decode cX6_bookOf 76 = .ok (.aload_n 3, 1) := by decide +kernel
theorem dX6_bookOf_77 : decode cX6_bookOf 77 = .ok (.getfield 124, 3) := by decide +kernel
theorem dX6_bookOf_80 : decode cX6_bookOf 80 = .ok (.ireturn, 1) := by decide +kernel
theorem dX6_bookOf_81 : decode cX6_bookOf 81 = .ok (.aload_n 3, 1) := by decide +kernel
theorem dX6_bookOf_82 : decode cX6_bookOf 82 = .ok (.invokevirtual 127, 3) := by decide +kernel
theorem dX6_bookOf_85 : decode cX6_bookOf 85 = .ok (.ireturn, 1) := by decide +kernel
theorem dX6_bookOf_86 : decode cX6_bookOf 86 = .ok (.aload_n 3, 1) := by decide +kernel
theorem dX6_bookOf_87 : decode cX6_bookOf 87 = .ok (.getfield 131, 3) := by decide +kernel
theorem dX6_bookOf_90 : decode cX6_bookOf 90 = .ok (.ireturn, 1) := by decide +kernel
theorem dX6_bookOf_91 : decode cX6_bookOf 91 = .ok (.aload_n 3, 1) := by decide +kernel
theorem dX6_bookOf_92 : decode cX6_bookOf 92 = .ok (.getfield 134, 3) := by decide +kernel
theorem dX6_bookOf_95 : decode cX6_bookOf 95 = .ok (.ireturn, 1) := by decide +kernel
theorem dX6_bookOf_96 : decode cX6_bookOf 96 = .ok (.aload_n 3, 1) := by decide +kernel
theorem dX6_bookOf_97 : decode cX6_bookOf 97 = .ok (.getfield 137, 3) := by decide +kernel
theorem dX6_bookOf_100 : decode cX6_bookOf 100 = .ok (.ireturn, 1) := by decide +kernel
theorem dX6_bookOf_101 : decode cX6_bookOf 101 = .ok (.new 140, 3) := by decide +kernel
theorem dX6_bookOf_104 : decode cX6_bookOf 104 = .ok (.dup, 1) := by decide +kernel
theorem dX6_bookOf_105 : decode cX6_bookOf 105 = .ok (.invokespecial 142, 3) := by decide +kernel
theorem dX6_bookOf_108 : decode cX6_bookOf 108 = .ok (.athrow, 1) := by decide +kernel
theorem ab_k149_0 (K : ab_Kt) : ∀ q ∈ ab_l149_0, ab_OK K ab_mt ab_g149 q.1 q.2 := by
  unfold ab_l149_0
  exact List.forall_mem_cons.mpr ⟨ab_aload_n_ok dX6_bookOf_0 rfl, List.forall_mem_cons.mpr ⟨ab_iload_n_ok dX6_bookOf_1 rfl, List.forall_mem_cons.mpr ⟨ab_callV_ok' (G' := ab_g182) (C := RX6) (T := TX6) (N := 9) dX6_bookOf_2 ab_m182 rfl rfl (by decide) (by decide) (ab_l4 ab_w770 ab_w771 ab_w772 ab_w2) ab_w773 rfl ⟨by decide, by decide, by decide +kernel⟩, List.forall_mem_cons.mpr ⟨ab_astore_n_ok dX6_bookOf_5 rfl, List.forall_mem_cons.mpr ⟨ab_iload_n_ok dX6_bookOf_6 rfl, List.forall_mem_cons.mpr ⟨ab_tsw_ok dX6_bookOf_7 (by decide) (by decide) (by decide), List.forall_mem_cons.mpr ⟨ab_aload_n_ok dX6_bookOf_56 rfl, List.forall_mem_cons.mpr ⟨ab_getf_ok (C := RX1) (T := TX1) (N := 13) (ci := 5) (k := 0) dX6_bookOf_57 rfl ab_ic5 (by decide) ab_w940, List.forall_mem_cons.mpr ⟨ab_iret_ok dX6_bookOf_60 rfl, List.forall_mem_cons.mpr ⟨ab_aload_n_ok dX6_bookOf_61 rfl, List.forall_mem_cons.mpr ⟨ab_getf_ok (C := RX1) (T := TX1) (N := 13) (ci := 5) (k := 1) dX6_bookOf_62 rfl ab_ic5 (by decide) ab_w939, List.forall_mem_cons.mpr ⟨ab_iret_ok dX6_bookOf_65 rfl, List.forall_mem_cons.mpr ⟨ab_aload_n_ok dX6_bookOf_66 rfl, List.forall_mem_cons.mpr ⟨ab_getf_ok (C := RX1) (T := TX1) (N := 13) (ci := 5) (k := 2) dX6_bookOf_67 rfl ab_ic5 (by decide) ab_w938, List.forall_mem_cons.mpr ⟨ab_iret_ok dX6_bookOf_70 rfl, List.forall_mem_cons.mpr ⟨ab_aload_n_ok dX6_bookOf_71 rfl, List.forall_mem_cons.mpr ⟨ab_getf_ok (C := RX1) (T := TX1) (N := 13) (ci := 5) (k := 3) dX6_bookOf_72 rfl ab_ic5 (by decide) ab_w804, List.forall_mem_cons.mpr ⟨ab_iret_ok dX6_bookOf_75 rfl, List.forall_mem_cons.mpr ⟨ab_aload_n_ok dX6_bookOf_76 rfl, List.forall_mem_cons.mpr ⟨ab_getf_ok (C := RX1) (T := TX1) (N := 13) (ci := 5) (k := 4) dX6_bookOf_77 rfl ab_ic5 (by decide) ab_w808, List.forall_mem_cons.mpr ⟨ab_iret_ok dX6_bookOf_80 rfl, List.forall_mem_cons.mpr ⟨ab_aload_n_ok dX6_bookOf_81 rfl, List.forall_mem_cons.mpr ⟨ab_callV_ok' (G' := ab_g183) (C := RX1) (T := TX1) (N := 13) dX6_bookOf_82 ab_m183 rfl rfl (by decide) (by decide) (ab_l4 ab_w774 ab_w775 ab_w776 ab_w711) ab_w777 rfl ⟨by decide, by decide, by decide +kernel⟩, List.forall_mem_cons.mpr ⟨ab_iret_ok dX6_bookOf_85 rfl, List.forall_mem_cons.mpr ⟨ab_aload_n_ok dX6_bookOf_86 rfl, List.forall_mem_cons.mpr ⟨ab_getf_ok (C := RX1) (T := TX1) (N := 13) (ci := 5) (k := 5) dX6_bookOf_87 rfl ab_ic5 (by decide) ab_w937, List.forall_mem_cons.mpr ⟨ab_iret_ok dX6_bookOf_90 rfl, List.forall_mem_cons.mpr ⟨ab_aload_n_ok dX6_bookOf_91 rfl, List.forall_mem_cons.mpr ⟨ab_getf_ok (C := RX1) (T := TX1) (N := 13) (ci := 5) (k := 6) dX6_bookOf_92 rfl ab_ic5 (by decide) ab_w936, List.forall_mem_cons.mpr ⟨ab_iret_ok dX6_bookOf_95 rfl, List.forall_mem_cons.mpr ⟨ab_aload_n_ok dX6_bookOf_96 rfl, List.forall_mem_cons.mpr ⟨ab_getf_ok (C := RX1) (T := TX1) (N := 13) (ci := 5) (k := 7) dX6_bookOf_97 rfl ab_ic5 (by decide) ab_w878, List.forall_mem_cons.mpr ⟨ab_iret_ok dX6_bookOf_100 rfl, List.forall_mem_cons.mpr ⟨ab_thr_ok (ik := 140) (ic := 142) (by decide +kernel) (ab_l2 ab_w750 ab_w751) ab_th_1 (by decide +kernel) dX6_bookOf_101 dX6_bookOf_104 dX6_bookOf_105 dX6_bookOf_108 rfl, fun _ h => absurd h List.not_mem_nil⟩⟩⟩⟩⟩⟩⟩⟩⟩⟩⟩⟩⟩⟩⟩⟩⟩⟩⟩⟩⟩⟩⟩⟩⟩⟩⟩⟩⟩⟩⟩⟩⟩⟩
theorem ab_k149 (K : ab_Kt) : ∀ pc, ab_OK K ab_mt ab_g149 pc (ab_c149 pc) := ab_lk2_ok _ (List.forall_mem_cons.mpr ⟨ab_k149_0 K, fun _ h => absurd h List.not_mem_nil⟩)
theorem dX7_slipsOf_0 : decode cX7_slipsOf 0 = .ok (.iconst 0, 1) := by decide +kernel
theorem dX7_slipsOf_1 : decode cX7_slipsOf 1 = .ok (.istore_n 2, 1) := by decide +kernel
theorem dX7_slipsOf_2 : decode cX7_slipsOf 2 = .ok (.iconst 0, 1) := by decide +kernel
theorem dX7_slipsOf_3 : decode cX7_slipsOf 3 = .ok (.istore_n 3, 1) := by decide +kernel
theorem dX7_slipsOf_4 : decode cX7_slipsOf 4 = .ok (.iload_n 3, 1) := by decide +kernel
theorem dX7_slipsOf_5 : decode cX7_slipsOf 5 = .ok (.sipush 192, 3) := by decide +kernel
theorem dX7_slipsOf_8 : decode cX7_slipsOf 8 = .ok (.if_icmp .ge 26, 3) := by decide +kernel
theorem dX7_slipsOf_11 : decode cX7_slipsOf 11 = .ok (.iload_n 2, 1) := by decide +kernel
theorem dX7_slipsOf_12 : decode cX7_slipsOf 12 = .ok (.aload_n 0, 1) := by decide +kernel
theorem dX7_slipsOf_13 : decode cX7_slipsOf 13 = .ok (.iload_n 1, 1) := by decide +kernel
theorem dX7_slipsOf_14 : decode cX7_slipsOf 14 = .ok (.iload_n 3, 1) := by decide +kernel
theorem dX7_slipsOf_15 : decode cX7_slipsOf 15 = .ok (.invokevirtual 91, 3) := by decide +kernel
theorem dX7_slipsOf_18 : decode cX7_slipsOf 18 = .ok (.ifCond .eq 7, 3) := by decide +kernel
theorem dX7_slipsOf_21 : decode cX7_slipsOf 21 = .ok (.iconst 1, 1) := by decide +kernel
theorem dX7_slipsOf_22 : decode cX7_slipsOf 22 = .ok (.goto 4, 3) := by decide +kernel
theorem dX7_slipsOf_25 : decode cX7_slipsOf 25 = .ok (.iconst 0, 1) := by decide +kernel
theorem dX7_slipsOf_26 : decode cX7_slipsOf 26 = .ok (.iadd, 1) := by decide +kernel
theorem dX7_slipsOf_27 : decode cX7_slipsOf 27 = .ok (.istore_n 2, 1) := by decide +kernel
theorem dX7_slipsOf_28 : decode cX7_slipsOf 28 = .ok (.iinc 3 1, 3) := by decide +kernel
theorem dX7_slipsOf_31 : decode cX7_slipsOf 31 = .ok (.goto (-27), 3) := by decide +kernel
theorem dX7_slipsOf_34 : decode cX7_slipsOf 34 = .ok (.iload_n 2, 1) := by decide +kernel
theorem dX7_slipsOf_35 : decode cX7_slipsOf 35 = .ok (.ireturn, 1) := by decide +kernel
theorem ab_k150_0 (K : ab_Kt) : ∀ q ∈ ab_l150_0, ab_OK K ab_mt ab_g150 q.1 q.2 := by
  unfold ab_l150_0
  exact List.forall_mem_cons.mpr ⟨ab_iconst_ok dX7_slipsOf_0 (by decide), List.forall_mem_cons.mpr ⟨ab_istore_n_ok dX7_slipsOf_1 rfl, List.forall_mem_cons.mpr ⟨ab_iconst_ok dX7_slipsOf_2 (by decide), List.forall_mem_cons.mpr ⟨ab_istore_n_ok dX7_slipsOf_3 rfl, List.forall_mem_cons.mpr ⟨ab_iload_n_ok dX7_slipsOf_4 rfl, List.forall_mem_cons.mpr ⟨ab_sipush_ok dX7_slipsOf_5 (by decide), List.forall_mem_cons.mpr ⟨ab_icmp_ge_ok dX7_slipsOf_8 (by decide), List.forall_mem_cons.mpr ⟨ab_iload_n_ok dX7_slipsOf_11 rfl, List.forall_mem_cons.mpr ⟨ab_aload_n_ok dX7_slipsOf_12 rfl, List.forall_mem_cons.mpr ⟨ab_iload_n_ok dX7_slipsOf_13 rfl, List.forall_mem_cons.mpr ⟨ab_iload_n_ok dX7_slipsOf_14 rfl, List.forall_mem_cons.mpr ⟨ab_callV_ok' (G' := ab_g130) (C := RX7) (T := TX7) (N := 19) dX7_slipsOf_15 ab_m130 rfl rfl (by decide) (by decide) (ab_l4 ab_w524 ab_w525 ab_w526 ab_w8) ab_w527 rfl ⟨by decide, by decide, by decide +kernel⟩, List.forall_mem_cons.mpr ⟨ab_if_eq_ok dX7_slipsOf_18 (by decide), List.forall_mem_cons.mpr ⟨ab_iconst_ok dX7_slipsOf_21 (by decide), List.forall_mem_cons.mpr ⟨ab_goto_ok dX7_slipsOf_22 (by decide), List.forall_mem_cons.mpr ⟨ab_iconst_ok dX7_slipsOf_25 (by decide), List.forall_mem_cons.mpr ⟨ab_iadd_ok dX7_slipsOf_26, List.forall_mem_cons.mpr ⟨ab_istore_n_ok dX7_slipsOf_27 rfl, List.forall_mem_cons.mpr ⟨ab_iinc_ok dX7_slipsOf_28 (by decide), List.forall_mem_cons.mpr ⟨ab_goto_ok dX7_slipsOf_31 (by decide), List.forall_mem_cons.mpr ⟨ab_iload_n_ok dX7_slipsOf_34 rfl, List.forall_mem_cons.mpr ⟨ab_iret_ok dX7_slipsOf_35 rfl, fun _ h => absurd h List.not_mem_nil⟩⟩⟩⟩⟩⟩⟩⟩⟩⟩⟩⟩⟩⟩⟩⟩⟩⟩⟩⟩⟩⟩
theorem ab_k150 (K : ab_Kt) : ∀ pc, ab_OK K ab_mt ab_g150 pc (ab_c150 pc) := ab_lk2_ok _ (List.forall_mem_cons.mpr ⟨ab_k150_0 K, fun _ h => absurd h List.not_mem_nil⟩)
theorem dX6_pass_0 : decode cX6_pass 0 = .ok (.aload_n 0, 1) := by decide +kernel
theorem dX6_pass_1 : decode cX6_pass 1 = .ok (.getfield 24, 3) := by decide +kernel
theorem dX6_pass_4 : decode cX6_pass 4 = .ok (.aload_n 0, 1) := by decide +kernel
theorem dX6_pass_5 : decode cX6_pass 5 = .ok (.getfield 20, 3) := by decide +kernel
theorem dX6_pass_8 : decode cX6_pass 8 = .ok (.invokevirtual 56, 3) := by decide +kernel
theorem dX6_pass_11 : decode cX6_pass 11 = .ok (.aload_n 0, 1) := by decide +kernel
theorem dX6_pass_12 : decode cX6_pass 12 = .ok (.aload_n 0, 1) := by decide +kernel
theorem dX6_pass_13 : decode cX6_pass 13 = .ok (.getfield 10, 3) := by decide +kernel
theorem dX6_pass_16 : decode cX6_pass 16 = .ok (.iload_n 1, 1) := by decide +kernel
theorem dX6_pass_17 : decode cX6_pass 17 = .ok (.invokevirtual 103, 3) := by decide +kernel
theorem dX6_pass_20 : decode cX6_pass 20 = .ok (.invokevirtual 64, 3) := by decide +kernel
theorem dX6_pass_23 : decode cX6_pass 23 = .ok (.ireturn, 1) := by decide +kernel
theorem ab_k151_0 (K : ab_Kt) : ∀ q ∈ ab_l151_0, ab_OK K ab_mt ab_g151 q.1 q.2 := by
  unfold ab_l151_0
  exact List.forall_mem_cons.mpr ⟨ab_aload_n_ok dX6_pass_0 rfl, List.forall_mem_cons.mpr ⟨ab_getf_ok (C := RX6) (T := TX6) (N := 9) (ci := 10) (k := 2) dX6_pass_1 rfl ab_ic10 (by decide) ab_w325, List.forall_mem_cons.mpr ⟨ab_aload_n_ok dX6_pass_4 rfl, List.forall_mem_cons.mpr ⟨ab_getf_ok (C := RX6) (T := TX6) (N := 9) (ci := 10) (k := 1) dX6_pass_5 rfl ab_ic10 (by decide) ab_w318, List.forall_mem_cons.mpr ⟨ab_callV_ok' (G' := ab_g192) (C := RX3) (T := TX3) (N := 3) dX6_pass_8 ab_m192 rfl rfl (by decide) (by decide) (ab_l4 ab_w822 ab_w823 ab_w824 ab_w321) ab_w825 rfl ⟨by decide, by decide, by decide +kernel⟩, List.forall_mem_cons.mpr ⟨ab_aload_n_ok dX6_pass_11 rfl, List.forall_mem_cons.mpr ⟨ab_aload_n_ok dX6_pass_12 rfl, List.forall_mem_cons.mpr ⟨ab_getf_ok (C := RX6) (T := TX6) (N := 9) (ci := 10) (k := 0) dX6_pass_13 rfl ab_ic10 (by decide) ab_w316, List.forall_mem_cons.mpr ⟨ab_iload_n_ok dX6_pass_16 rfl, List.forall_mem_cons.mpr ⟨ab_callV_ok' (G' := ab_g216) (C := RX0) (T := TX0) (N := 5) dX6_pass_17 ab_m216 rfl rfl (by decide) (by decide) (ab_l4 ab_w941 ab_w942 ab_w943 ab_w313) ab_w944 rfl ⟨by decide, by decide, by decide +kernel⟩, List.forall_mem_cons.mpr ⟨ab_callV_ok' (G' := ab_g195) (C := RX6) (T := TX6) (N := 9) dX6_pass_20 ab_m195 rfl rfl (by decide) (by decide) (ab_l4 ab_w834 ab_w835 ab_w836 ab_w2) ab_w837 rfl ⟨by decide, by decide, by decide +kernel⟩, List.forall_mem_cons.mpr ⟨ab_iret_ok dX6_pass_23 rfl, fun _ h => absurd h List.not_mem_nil⟩⟩⟩⟩⟩⟩⟩⟩⟩⟩⟩⟩
theorem ab_k151 (K : ab_Kt) : ∀ pc, ab_OK K ab_mt ab_g151 pc (ab_c151 pc) := ab_lk2_ok _ (List.forall_mem_cons.mpr ⟨ab_k151_0 K, fun _ h => absurd h List.not_mem_nil⟩)
theorem dX7_refuses_0 : decode cX7_refuses 0 = .ok (.aload_n 0, 1) := by decide +kernel
theorem dX7_refuses_1 : decode cX7_refuses 1 = .ok (.iconst 1, 1) := by decide +kernel
theorem dX7_refuses_2 : decode cX7_refuses 2 = .ok (.putfield 36, 3) := by decide +kernel
theorem dX7_refuses_5 : decode cX7_refuses 5 = .ok (.aload_n 0, 1) := by decide +kernel
theorem dX7_refuses_6 : decode cX7_refuses 6 = .ok (.iload_n 1, 1) := by decide +kernel
theorem dX7_refuses_7 : decode cX7_refuses 7 = .ok (.putfield 39, 3) := by decide +kernel
theorem dX7_refuses_10 : decode cX7_refuses 10 = .ok (.aload_n 0, 1) := by decide +kernel
theorem dX7_refuses_11 : decode cX7_refuses 11 = .ok (.iload_n 2, 1) := by decide +kernel
theorem dX7_refuses_12 : decode cX7_refuses 12 = .ok (.putfield 42, 3) := by decide +kernel
theorem dX7_refuses_15 : decode cX7_refuses 15 = .ok (.aload_n 0, 1) := by decide +kernel
theorem dX7_refuses_16 : decode cX7_refuses 16 = .ok (.iconst 0, 1) := by decide +kernel
theorem dX7_refuses_17 : decode cX7_refuses 17 = .ok (.putfield 45, 3) := by decide +kernel
theorem dX7_refuses_20 : decode cX7_refuses 20 = .ok (.iconst 0, 1) := by decide +kernel
theorem dX7_refuses_21 : decode cX7_refuses 21 = .ok (.ireturn, 1) := by decide +kernel
theorem ab_k152_0 (K : ab_Kt) : ∀ q ∈ ab_l152_0, ab_OK K ab_mt ab_g152 q.1 q.2 := by
  unfold ab_l152_0
  exact List.forall_mem_cons.mpr ⟨ab_aload_n_ok dX7_refuses_0 rfl, List.forall_mem_cons.mpr ⟨ab_iconst_ok dX7_refuses_1 (by decide), List.forall_mem_cons.mpr ⟨ab_putf_ok (C := RX7) (T := TX7) (N := 19) (ci := 11) (k := 7) (ty0 := tyX7) dX7_refuses_2 rfl ab_ic11 tyX7_ok nmX7 (by decide) ab_w372 rfl (Or.inl rfl), List.forall_mem_cons.mpr ⟨ab_aload_n_ok dX7_refuses_5 rfl, List.forall_mem_cons.mpr ⟨ab_iload_n_ok dX7_refuses_6 rfl, List.forall_mem_cons.mpr ⟨ab_putf_ok (C := RX7) (T := TX7) (N := 19) (ci := 11) (k := 8) (ty0 := tyX7) dX7_refuses_7 rfl ab_ic11 tyX7_ok nmX7 (by decide) ab_w456 rfl (Or.inl rfl), List.forall_mem_cons.mpr ⟨ab_aload_n_ok dX7_refuses_10 rfl, List.forall_mem_cons.mpr ⟨ab_iload_n_ok dX7_refuses_11 rfl, List.forall_mem_cons.mpr ⟨ab_putf_ok (C := RX7) (T := TX7) (N := 19) (ci := 11) (k := 9) (ty0 := tyX7) dX7_refuses_12 rfl ab_ic11 tyX7_ok nmX7 (by decide) ab_w457 rfl (Or.inl rfl), List.forall_mem_cons.mpr ⟨ab_aload_n_ok dX7_refuses_15 rfl, List.forall_mem_cons.mpr ⟨ab_iconst_ok dX7_refuses_16 (by decide), List.forall_mem_cons.mpr ⟨ab_putf_ok (C := RX7) (T := TX7) (N := 19) (ci := 11) (k := 10) (ty0 := tyX7) dX7_refuses_17 rfl ab_ic11 tyX7_ok nmX7 (by decide) ab_w458 rfl (Or.inl rfl), List.forall_mem_cons.mpr ⟨ab_iconst_ok dX7_refuses_20 (by decide), List.forall_mem_cons.mpr ⟨ab_iret_ok dX7_refuses_21 rfl, fun _ h => absurd h List.not_mem_nil⟩⟩⟩⟩⟩⟩⟩⟩⟩⟩⟩⟩⟩⟩
theorem ab_k152 (K : ab_Kt) : ∀ pc, ab_OK K ab_mt ab_g152 pc (ab_c152 pc) := ab_lk2_ok _ (List.forall_mem_cons.mpr ⟨ab_k152_0 K, fun _ h => absurd h List.not_mem_nil⟩)
theorem dX7_goesBy_0 : decode cX7_goesBy 0 = .ok (.iconst 0, 1) := by decide +kernel
theorem dX7_goesBy_1 : decode cX7_goesBy 1 = .ok (.istore_n 1, 1) := by decide +kernel
theorem dX7_goesBy_2 : decode cX7_goesBy 2 = .ok (.aload_n 0, 1) := by decide +kernel
theorem dX7_goesBy_3 : decode cX7_goesBy 3 = .ok (.getfield 7, 3) := by decide +kernel
theorem dX7_goesBy_6 : decode cX7_goesBy 6 = .ok (.iconst 0, 1) := by decide +kernel
theorem dX7_goesBy_7 : decode cX7_goesBy 7 = .ok (.dup2, 1) := by decide +kernel
theorem dX7_goesBy_8 : decode cX7_goesBy 8 = .ok (.iaload, 1) := by decide +kernel
theorem dX7_goesBy_9 : decode cX7_goesBy 9 = .ok (.iconst 1, 1) := by decide +kernel
theorem dX7_goesBy_10 : decode cX7_goesBy 10 = .ok (.iadd, 1) := by decide +kernel
theorem dX7_goesBy_11 : decode cX7_goesBy 11 = .ok (.iastore, 1) := by decide +kernel
theorem dX7_goesBy_12 : decode cX7_goesBy 12 = .ok (.iconst 0, 1) := by decide +kernel
theorem dX7_goesBy_13 : decode cX7_goesBy 13 = .ok (.istore_n 2, 1) := by decide +kernel
theorem dX7_goesBy_14 : decode cX7_goesBy 14 = .ok (.iload_n 2, 1) := by decide +kernel
theorem dX7_goesBy_15 : decode cX7_goesBy 15 = .ok (.aload_n 0, 1) := by decide +kernel
theorem dX7_goesBy_16 : decode cX7_goesBy 16 = .ok (.getfield 7, 3) := by decide +kernel
theorem dX7_goesBy_19 : decode cX7_goesBy 19 = .ok (.iconst 3, 1) := by decide +kernel
theorem dX7_goesBy_20 : decode cX7_goesBy 20 = .ok (.iaload, 1) := by decide +kernel
theorem dX7_goesBy_21 : decode cX7_goesBy 21 = .ok (.if_icmp .ge 77, 3) := by decide +kernel
theorem dX7_goesBy_24 : decode cX7_goesBy 24 = .ok (.aload_n 0, 1) := by decide +kernel
theorem dX7_goesBy_25 : decode cX7_goesBy 25 = .ok (.iload_n 2, 1) := by decide +kernel
theorem dX7_goesBy_26 : decode cX7_goesBy 26 = .ok (.iconst 2, 1) := by decide +kernel
theorem dX7_goesBy_27 : decode cX7_goesBy 27 = .ok (.invokevirtual 63, 3) := by decide +kernel
theorem dX7_goesBy_30 : decode cX7_goesBy 30 = .ok (.iconst 1, 1) := by decide +kernel
theorem dX7_goesBy_31 : decode cX7_goesBy 31 = .ok (.if_icmp .ne 61, 3) := by decide +kernel
theorem dX7_goesBy_34 : decode cX7_goesBy 34 = .ok (.aload_n 0, 1) := by decide +kernel
theorem dX7_goesBy_35 : decode cX7_goesBy 35 = .ok (.iload_n 2, 1) := by decide +kernel
theorem dX7_goesBy_36 : decode cX7_goesBy 36 = .ok (.invokevirtual 146, 3) := by decide +kernel
theorem dX7_goesBy_39 : decode cX7_goesBy 39 = .ok (.ifCond .le 6, 3) := by decide +kernel
theorem dX7_goesBy_42 : decode cX7_goesBy 42 = .ok (.goto 50, 3) := by decide +kernel
theorem dX7_goesBy_45 : decode cX7_goesBy 45 = .ok (.iinc 1 1, 3) := by decide +kernel
theorem dX7_goesBy_48 : decode cX7_goesBy 48 = .ok (.aload_n 0, 1) := by decide +kernel
theorem dX7_goesBy_49 : decode cX7_goesBy 49 = .ok (.getfield 7, 3) := by decide +kernel
theorem dX7_goesBy_52 : decode cX7_goesBy 52 = .ok (.iconst 5, 1) := by decide +kernel
theorem dX7_goesBy_53 : decode cX7_goesBy 53 = .ok (.dup2, 1) := by decide +kernel
theorem dX7_goesBy_54 : decode cX7_goesBy 54 = .ok (.iaload, 1) := by decide +kernel
theorem dX7_goesBy_55 : decode cX7_goesBy 55 = .ok (.aload_n 0, 1) := by decide +kernel
theorem dX7_goesBy_56 : decode cX7_goesBy 56 = .ok (.iload_n 2, 1) := by decide +kernel
theorem dX7_goesBy_57 : decode cX7_goesBy 57 = .ok (.iconst 4, 1) := by decide +kernel
theorem dX7_goesBy_58 : decode cX7_goesBy 58 = .ok (.invokevirtual 63, 3) := by decide +kernel
theorem dX7_goesBy_61 : decode cX7_goesBy 61 = .ok (.iadd, 1) := by decide +kernel
theorem ab_k153_0 (K : ab_Kt) : ∀ q ∈ ab_l153_0, ab_OK K ab_mt ab_g153 q.1 q.2 := by
  unfold ab_l153_0
  exact List.forall_mem_cons.mpr ⟨ab_iconst_ok dX7_goesBy_0 (by decide), List.forall_mem_cons.mpr ⟨ab_istore_n_ok dX7_goesBy_1 rfl, List.forall_mem_cons.mpr ⟨ab_aload_n_ok dX7_goesBy_2 rfl, List.forall_mem_cons.mpr ⟨ab_getf_ok (C := RX7) (T := TX7) (N := 19) (ci := 11) (k := 0) dX7_goesBy_3 rfl ab_ic11 (by decide) ab_w350, List.forall_mem_cons.mpr ⟨ab_iconst_ok dX7_goesBy_6 (by decide), List.forall_mem_cons.mpr ⟨ab_dup2_ok dX7_goesBy_7, List.forall_mem_cons.mpr ⟨ab_ald0_ok dX7_goesBy_8, List.forall_mem_cons.mpr ⟨ab_iconst_ok dX7_goesBy_9 (by decide), List.forall_mem_cons.mpr ⟨ab_iadd_ok dX7_goesBy_10, List.forall_mem_cons.mpr ⟨ab_ast0_ok dX7_goesBy_11, List.forall_mem_cons.mpr ⟨ab_iconst_ok dX7_goesBy_12 (by decide), List.forall_mem_cons.mpr ⟨ab_istore_n_ok dX7_goesBy_13 rfl, List.forall_mem_cons.mpr ⟨ab_iload_n_ok dX7_goesBy_14 rfl, List.forall_mem_cons.mpr ⟨ab_aload_n_ok dX7_goesBy_15 rfl, List.forall_mem_cons.mpr ⟨ab_getf_ok (C := RX7) (T := TX7) (N := 19) (ci := 11) (k := 0) dX7_goesBy_16 rfl ab_ic11 (by decide) ab_w350, List.forall_mem_cons.mpr ⟨ab_iconst_ok dX7_goesBy_19 (by decide), List.forall_mem_cons.mpr ⟨ab_ald0_ok dX7_goesBy_20, List.forall_mem_cons.mpr ⟨ab_icmp_ge_ok dX7_goesBy_21 (by decide), List.forall_mem_cons.mpr ⟨ab_aload_n_ok dX7_goesBy_24 rfl, List.forall_mem_cons.mpr ⟨ab_iload_n_ok dX7_goesBy_25 rfl, List.forall_mem_cons.mpr ⟨ab_iconst_ok dX7_goesBy_26 (by decide), List.forall_mem_cons.mpr ⟨ab_callV_ok' (G' := ab_g110) (C := RX7) (T := TX7) (N := 19) dX7_goesBy_27 ab_m110 rfl rfl (by decide) (by decide) (ab_l4 ab_w440 ab_w441 ab_w442 ab_w8) ab_w443 rfl ⟨by decide, by decide, by decide +kernel⟩, List.forall_mem_cons.mpr ⟨ab_iconst_ok dX7_goesBy_30 (by decide), List.forall_mem_cons.mpr ⟨ab_icmp_ne_ok dX7_goesBy_31 (by decide), List.forall_mem_cons.mpr ⟨ab_aload_n_ok dX7_goesBy_34 rfl, List.forall_mem_cons.mpr ⟨ab_iload_n_ok dX7_goesBy_35 rfl, List.forall_mem_cons.mpr ⟨ab_callV_ok' (G' := ab_g125) (C := RX7) (T := TX7) (N := 19) dX7_goesBy_36 ab_m125 rfl rfl (by decide) (by decide) (ab_l4 ab_w505 ab_w506 ab_w507 ab_w8) ab_w508 rfl ⟨by decide, by decide, by decide +kernel⟩, List.forall_mem_cons.mpr ⟨ab_if_le_ok dX7_goesBy_39 (by decide), List.forall_mem_cons.mpr ⟨ab_goto_ok dX7_goesBy_42 (by decide), List.forall_mem_cons.mpr ⟨ab_iinc_ok dX7_goesBy_45 (by decide), List.forall_mem_cons.mpr ⟨ab_aload_n_ok dX7_goesBy_48 rfl, List.forall_mem_cons.mpr ⟨ab_getf_ok (C := RX7) (T := TX7) (N := 19) (ci := 11) (k := 0) dX7_goesBy_49 rfl ab_ic11 (by decide) ab_w350, List.forall_mem_cons.mpr ⟨ab_iconst_ok dX7_goesBy_52 (by decide), List.forall_mem_cons.mpr ⟨ab_dup2_ok dX7_goesBy_53, List.forall_mem_cons.mpr ⟨ab_ald0_ok dX7_goesBy_54, List.forall_mem_cons.mpr ⟨ab_aload_n_ok dX7_goesBy_55 rfl, List.forall_mem_cons.mpr ⟨ab_iload_n_ok dX7_goesBy_56 rfl, List.forall_mem_cons.mpr ⟨ab_iconst_ok dX7_goesBy_57 (by decide), List.forall_mem_cons.mpr ⟨ab_callV_ok' (G' := ab_g110) (C := RX7) (T := TX7) (N := 19) dX7_goesBy_58 ab_m110 rfl rfl (by decide) (by decide) (ab_l4 ab_w440 ab_w441 ab_w442 ab_w8) ab_w443 rfl ⟨by decide, by decide, by decide +kernel⟩, List.forall_mem_cons.mpr ⟨ab_iadd_ok dX7_goesBy_61, fun _ h => absurd h List.not_mem_nil⟩⟩⟩⟩⟩⟩⟩⟩⟩⟩⟩⟩⟩⟩⟩⟩⟩⟩⟩⟩⟩⟩⟩⟩⟩⟩⟩⟩⟩⟩⟩⟩⟩⟩⟩⟩⟩⟩⟩⟩
theorem dX7_goesBy_62 : decode cX7_goesBy 62 = .ok (.iastore, 1) := by decide +kernel
theorem dX7_goesBy_63 : decode cX7_goesBy 63 = .ok (.aload_n 0, 1) := by decide +kernel
theorem dX7_goesBy_64 : decode cX7_goesBy 64 = .ok (.iload_n 2, 1) := by decide +kernel
theorem dX7_goesBy_65 : decode cX7_goesBy 65 = .ok (.iconst 4, 1) := by decide +kernel
theorem dX7_goesBy_66 : decode cX7_goesBy 66 = .ok (.iconst 0, 1) := by decide +kernel
theorem dX7_goesBy_67 : decode cX7_goesBy 67 = .ok (.invokevirtual 108, 3) := by decide +kernel
theorem dX7_goesBy_70 : decode cX7_goesBy 70 = .ok (.aload_n 0, 1) := by decide +kernel
theorem dX7_goesBy_71 : decode cX7_goesBy 71 = .ok (.iload_n 2, 1) := by decide +kernel
theorem dX7_goesBy_72 : decode cX7_goesBy 72 = .ok (.iconst 2, 1) := by decide +kernel
theorem dX7_goesBy_73 : decode cX7_goesBy 73 = .ok (.iconst 0, 1) := by decide +kernel
theorem dX7_goesBy_74 : decode cX7_goesBy 74 = .ok (.invokevirtual 108, 3) := by decide +kernel
theorem dX7_goesBy_77 : decode cX7_goesBy 77 = .ok (.aload_n 0, 1) := by decide +kernel
theorem dX7_goesBy_78 : decode cX7_goesBy 78 = .ok (.iload_n 2, 1) := by decide +kernel
theorem dX7_goesBy_79 : decode cX7_goesBy 79 = .ok (.iconst 5, 1) := by decide +kernel
theorem dX7_goesBy_80 : decode cX7_goesBy 80 = .ok (.iconst (-1), 1) := by decide +kernel
theorem dX7_goesBy_81 : decode cX7_goesBy 81 = .ok (.invokevirtual 108, 3) := by decide +kernel
theorem dX7_goesBy_84 : decode cX7_goesBy 84 = .ok (.aload_n 0, 1) := by decide +kernel
theorem dX7_goesBy_85 : decode cX7_goesBy 85 = .ok (.iload_n 2, 1) := by decide +kernel
theorem dX7_goesBy_86 : decode cX7_goesBy 86 = .ok (.bipush 6, 2) := by decide +kernel
theorem dX7_goesBy_88 : decode cX7_goesBy 88 = .ok (.iconst 0, 1) := by decide +kernel
theorem dX7_goesBy_89 : decode cX7_goesBy 89 = .ok (.invokevirtual 108, 3) := by decide +kernel
theorem dX7_goesBy_92 : decode cX7_goesBy 92 = .ok (.iinc 2 1, 3) := by decide +kernel
theorem dX7_goesBy_95 : decode cX7_goesBy 95 = .ok (.goto (-81), 3) := by decide +kernel
theorem dX7_goesBy_98 : decode cX7_goesBy 98 = .ok (.iload_n 1, 1) := by decide +kernel
theorem dX7_goesBy_99 : decode cX7_goesBy 99 = .ok (.ireturn, 1) := by decide +kernel
theorem ab_k153_1 (K : ab_Kt) : ∀ q ∈ ab_l153_1, ab_OK K ab_mt ab_g153 q.1 q.2 := by
  unfold ab_l153_1
  exact List.forall_mem_cons.mpr ⟨ab_ast0_ok dX7_goesBy_62, List.forall_mem_cons.mpr ⟨ab_aload_n_ok dX7_goesBy_63 rfl, List.forall_mem_cons.mpr ⟨ab_iload_n_ok dX7_goesBy_64 rfl, List.forall_mem_cons.mpr ⟨ab_iconst_ok dX7_goesBy_65 (by decide), List.forall_mem_cons.mpr ⟨ab_iconst_ok dX7_goesBy_66 (by decide), List.forall_mem_cons.mpr ⟨ab_callV_ok' (G' := ab_g157) (C := RX7) (T := TX7) (N := 19) dX7_goesBy_67 ab_m157 rfl rfl (by decide) (by decide) (ab_l4 ab_w632 ab_w633 ab_w634 ab_w8) ab_w635 rfl ⟨by decide, by decide, by decide +kernel⟩, List.forall_mem_cons.mpr ⟨ab_aload_n_ok dX7_goesBy_70 rfl, List.forall_mem_cons.mpr ⟨ab_iload_n_ok dX7_goesBy_71 rfl, List.forall_mem_cons.mpr ⟨ab_iconst_ok dX7_goesBy_72 (by decide), List.forall_mem_cons.mpr ⟨ab_iconst_ok dX7_goesBy_73 (by decide), List.forall_mem_cons.mpr ⟨ab_callV_ok' (G' := ab_g157) (C := RX7) (T := TX7) (N := 19) dX7_goesBy_74 ab_m157 rfl rfl (by decide) (by decide) (ab_l4 ab_w632 ab_w633 ab_w634 ab_w8) ab_w635 rfl ⟨by decide, by decide, by decide +kernel⟩, List.forall_mem_cons.mpr ⟨ab_aload_n_ok dX7_goesBy_77 rfl, List.forall_mem_cons.mpr ⟨ab_iload_n_ok dX7_goesBy_78 rfl, List.forall_mem_cons.mpr ⟨ab_iconst_ok dX7_goesBy_79 (by decide), List.forall_mem_cons.mpr ⟨ab_iconst_ok dX7_goesBy_80 (by decide), List.forall_mem_cons.mpr ⟨ab_callV_ok' (G' := ab_g157) (C := RX7) (T := TX7) (N := 19) dX7_goesBy_81 ab_m157 rfl rfl (by decide) (by decide) (ab_l4 ab_w632 ab_w633 ab_w634 ab_w8) ab_w635 rfl ⟨by decide, by decide, by decide +kernel⟩, List.forall_mem_cons.mpr ⟨ab_aload_n_ok dX7_goesBy_84 rfl, List.forall_mem_cons.mpr ⟨ab_iload_n_ok dX7_goesBy_85 rfl, List.forall_mem_cons.mpr ⟨ab_bipush_ok dX7_goesBy_86 (by decide), List.forall_mem_cons.mpr ⟨ab_iconst_ok dX7_goesBy_88 (by decide), List.forall_mem_cons.mpr ⟨ab_callV_ok' (G' := ab_g157) (C := RX7) (T := TX7) (N := 19) dX7_goesBy_89 ab_m157 rfl rfl (by decide) (by decide) (ab_l4 ab_w632 ab_w633 ab_w634 ab_w8) ab_w635 rfl ⟨by decide, by decide, by decide +kernel⟩, List.forall_mem_cons.mpr ⟨ab_iinc_ok dX7_goesBy_92 (by decide), List.forall_mem_cons.mpr ⟨ab_goto_ok dX7_goesBy_95 (by decide), List.forall_mem_cons.mpr ⟨ab_iload_n_ok dX7_goesBy_98 rfl, List.forall_mem_cons.mpr ⟨ab_iret_ok dX7_goesBy_99 rfl, fun _ h => absurd h List.not_mem_nil⟩⟩⟩⟩⟩⟩⟩⟩⟩⟩⟩⟩⟩⟩⟩⟩⟩⟩⟩⟩⟩⟩⟩⟩⟩
theorem ab_k153 (K : ab_Kt) : ∀ pc, ab_OK K ab_mt ab_g153 pc (ab_c153 pc) := ab_lk2_ok _ (List.forall_mem_cons.mpr ⟨ab_k153_0 K, List.forall_mem_cons.mpr ⟨ab_k153_1 K, fun _ h => absurd h List.not_mem_nil⟩⟩)
theorem dX6_deliver_0 : decode cX6_deliver 0 = .ok (.aload_n 0, 1) := by decide +kernel
theorem dX6_deliver_1 : decode cX6_deliver 1 = .ok (.getfield 24, 3) := by decide +kernel
theorem dX6_deliver_4 : decode cX6_deliver 4 = .ok (.aload_n 0, 1) := by decide +kernel
theorem dX6_deliver_5 : decode cX6_deliver 5 = .ok (.getfield 20, 3) := by decide +kernel
theorem dX6_deliver_8 : decode cX6_deliver 8 = .ok (.invokevirtual 56, 3) := by decide +kernel
theorem dX6_deliver_11 : decode cX6_deliver 11 = .ok (.aload_n 0, 1) := by decide +kernel
theorem dX6_deliver_12 : decode cX6_deliver 12 = .ok (.aload_n 0, 1) := by decide +kernel
theorem dX6_deliver_13 : decode cX6_deliver 13 = .ok (.getfield 10, 3) := by decide +kernel
theorem dX6_deliver_16 : decode cX6_deliver 16 = .ok (.iload_n 1, 1) := by decide +kernel
theorem dX6_deliver_17 : decode cX6_deliver 17 = .ok (.invokevirtual 100, 3) := by decide +kernel
theorem dX6_deliver_20 : decode cX6_deliver 20 = .ok (.invokevirtual 64, 3) := by decide +kernel
theorem dX6_deliver_23 : decode cX6_deliver 23 = .ok (.ireturn, 1) := by decide +kernel
theorem ab_k154_0 (K : ab_Kt) : ∀ q ∈ ab_l154_0, ab_OK K ab_mt ab_g154 q.1 q.2 := by
  unfold ab_l154_0
  exact List.forall_mem_cons.mpr ⟨ab_aload_n_ok dX6_deliver_0 rfl, List.forall_mem_cons.mpr ⟨ab_getf_ok (C := RX6) (T := TX6) (N := 9) (ci := 10) (k := 2) dX6_deliver_1 rfl ab_ic10 (by decide) ab_w325, List.forall_mem_cons.mpr ⟨ab_aload_n_ok dX6_deliver_4 rfl, List.forall_mem_cons.mpr ⟨ab_getf_ok (C := RX6) (T := TX6) (N := 9) (ci := 10) (k := 1) dX6_deliver_5 rfl ab_ic10 (by decide) ab_w318, List.forall_mem_cons.mpr ⟨ab_callV_ok' (G' := ab_g192) (C := RX3) (T := TX3) (N := 3) dX6_deliver_8 ab_m192 rfl rfl (by decide) (by decide) (ab_l4 ab_w822 ab_w823 ab_w824 ab_w321) ab_w825 rfl ⟨by decide, by decide, by decide +kernel⟩, List.forall_mem_cons.mpr ⟨ab_aload_n_ok dX6_deliver_11 rfl, List.forall_mem_cons.mpr ⟨ab_aload_n_ok dX6_deliver_12 rfl, List.forall_mem_cons.mpr ⟨ab_getf_ok (C := RX6) (T := TX6) (N := 9) (ci := 10) (k := 0) dX6_deliver_13 rfl ab_ic10 (by decide) ab_w316, List.forall_mem_cons.mpr ⟨ab_iload_n_ok dX6_deliver_16 rfl, List.forall_mem_cons.mpr ⟨ab_callV_ok' (G' := ab_g217) (C := RX0) (T := TX0) (N := 5) dX6_deliver_17 ab_m217 rfl rfl (by decide) (by decide) (ab_l4 ab_w945 ab_w946 ab_w947 ab_w313) ab_w948 rfl ⟨by decide, by decide, by decide +kernel⟩, List.forall_mem_cons.mpr ⟨ab_callV_ok' (G' := ab_g195) (C := RX6) (T := TX6) (N := 9) dX6_deliver_20 ab_m195 rfl rfl (by decide) (by decide) (ab_l4 ab_w834 ab_w835 ab_w836 ab_w2) ab_w837 rfl ⟨by decide, by decide, by decide +kernel⟩, List.forall_mem_cons.mpr ⟨ab_iret_ok dX6_deliver_23 rfl, fun _ h => absurd h List.not_mem_nil⟩⟩⟩⟩⟩⟩⟩⟩⟩⟩⟩⟩
theorem ab_k154 (K : ab_Kt) : ∀ pc, ab_OK K ab_mt ab_g154 pc (ab_c154 pc) := ab_lk2_ok _ (List.forall_mem_cons.mpr ⟨ab_k154_0 K, fun _ h => absurd h List.not_mem_nil⟩)
theorem dX7_isNotAt_0 : decode cX7_isNotAt 0 = .ok (.aload_n 0, 1) := by decide +kernel
theorem dX7_isNotAt_1 : decode cX7_isNotAt 1 = .ok (.iload_n 1, 1) := by decide +kernel
theorem dX7_isNotAt_2 : decode cX7_isNotAt 2 = .ok (.invokevirtual 94, 3) := by decide +kernel
theorem dX7_isNotAt_5 : decode cX7_isNotAt 5 = .ok (.ifCond .ne 13, 3) := by decide +kernel
theorem dX7_isNotAt_8 : decode cX7_isNotAt 8 = .ok (.aload_n 0, 1) := by decide +kernel
theorem dX7_isNotAt_9 : decode cX7_isNotAt 9 = .ok (.iconst 3, 1) := by decide +kernel
theorem dX7_isNotAt_10 : decode cX7_isNotAt 10 = .ok (.iload_n 1, 1) := by decide +kernel
theorem dX7_isNotAt_11 : decode cX7_isNotAt 11 = .ok (.invokevirtual 98, 3) := by decide +kernel
theorem dX7_isNotAt_14 : decode cX7_isNotAt 14 = .ok (.pop, 1) := by decide +kernel
theorem dX7_isNotAt_15 : decode cX7_isNotAt 15 = .ok (.goto 30, 3) := by decide +kernel
theorem dX7_isNotAt_18 : decode cX7_isNotAt 18 = .ok (.aload_n 0, 1) := by decide +kernel
theorem dX7_isNotAt_19 : decode cX7_isNotAt 19 = .ok (.iload_n 1, 1) := by decide +kernel
theorem dX7_isNotAt_20 : decode cX7_isNotAt 20 = .ok (.iconst 2, 1) := by decide +kernel
theorem dX7_isNotAt_21 : decode cX7_isNotAt 21 = .ok (.invokevirtual 63, 3) := by decide +kernel
theorem dX7_isNotAt_24 : decode cX7_isNotAt 24 = .ok (.iload_n 2, 1) := by decide +kernel
theorem dX7_isNotAt_25 : decode cX7_isNotAt 25 = .ok (.if_icmp .eq 18, 3) := by decide +kernel
theorem dX7_isNotAt_28 : decode cX7_isNotAt 28 = .ok (.aload_n 0, 1) := by decide +kernel
theorem dX7_isNotAt_29 : decode cX7_isNotAt 29 = .ok (.iconst 4, 1) := by decide +kernel
theorem dX7_isNotAt_30 : decode cX7_isNotAt 30 = .ok (.aload_n 0, 1) := by decide +kernel
theorem dX7_isNotAt_31 : decode cX7_isNotAt 31 = .ok (.iload_n 1, 1) := by decide +kernel
theorem dX7_isNotAt_32 : decode cX7_isNotAt 32 = .ok (.iconst 2, 1) := by decide +kernel
theorem dX7_isNotAt_33 : decode cX7_isNotAt 33 = .ok (.invokevirtual 63, 3) := by decide +kernel
theorem dX7_isNotAt_36 : decode cX7_isNotAt 36 = .ok (.invokevirtual 98, 3) := by decide +kernel
theorem dX7_isNotAt_39 : decode cX7_isNotAt 39 = .ok (.pop, 1) := by decide +kernel
theorem dX7_isNotAt_40 : decode cX7_isNotAt 40 = .ok (.goto 5, 3) := by decide +kernel
theorem dX7_isNotAt_43 : decode cX7_isNotAt 43 = .ok (.iconst 0, 1) := by decide +kernel
theorem dX7_isNotAt_44 : decode cX7_isNotAt 44 = .ok (.ireturn, 1) := by decide +kernel
theorem dX7_isNotAt_45 : decode cX7_isNotAt 45 = .ok (.iconst 1, 1) := by decide +kernel
theorem dX7_isNotAt_46 : decode cX7_isNotAt 46 = .ok (.ireturn, 1) := by decide +kernel
theorem ab_k155_0 (K : ab_Kt) : ∀ q ∈ ab_l155_0, ab_OK K ab_mt ab_g155 q.1 q.2 := by
  unfold ab_l155_0
  exact List.forall_mem_cons.mpr ⟨ab_aload_n_ok dX7_isNotAt_0 rfl, List.forall_mem_cons.mpr ⟨ab_iload_n_ok dX7_isNotAt_1 rfl, List.forall_mem_cons.mpr ⟨ab_callV_ok' (G' := ab_g103) (C := RX7) (T := TX7) (N := 19) dX7_isNotAt_2 ab_m103 rfl rfl (by decide) (by decide) (ab_l4 ab_w411 ab_w412 ab_w413 ab_w8) ab_w414 rfl ⟨by decide, by decide, by decide +kernel⟩, List.forall_mem_cons.mpr ⟨ab_if_ne_ok dX7_isNotAt_5 (by decide), List.forall_mem_cons.mpr ⟨ab_aload_n_ok dX7_isNotAt_8 rfl, List.forall_mem_cons.mpr ⟨ab_iconst_ok dX7_isNotAt_9 (by decide), List.forall_mem_cons.mpr ⟨ab_iload_n_ok dX7_isNotAt_10 rfl, List.forall_mem_cons.mpr ⟨ab_callV_ok' (G' := ab_g152) (C := RX7) (T := TX7) (N := 19) dX7_isNotAt_11 ab_m152 rfl rfl (by decide) (by decide) (ab_l4 ab_w612 ab_w613 ab_w614 ab_w8) ab_w615 rfl ⟨by decide, by decide, by decide +kernel⟩, List.forall_mem_cons.mpr ⟨ab_pop_ok dX7_isNotAt_14, List.forall_mem_cons.mpr ⟨ab_goto_ok dX7_isNotAt_15 (by decide), List.forall_mem_cons.mpr ⟨ab_aload_n_ok dX7_isNotAt_18 rfl, List.forall_mem_cons.mpr ⟨ab_iload_n_ok dX7_isNotAt_19 rfl, List.forall_mem_cons.mpr ⟨ab_iconst_ok dX7_isNotAt_20 (by decide), List.forall_mem_cons.mpr ⟨ab_callV_ok' (G' := ab_g110) (C := RX7) (T := TX7) (N := 19) dX7_isNotAt_21 ab_m110 rfl rfl (by decide) (by decide) (ab_l4 ab_w440 ab_w441 ab_w442 ab_w8) ab_w443 rfl ⟨by decide, by decide, by decide +kernel⟩, List.forall_mem_cons.mpr ⟨ab_iload_n_ok dX7_isNotAt_24 rfl, List.forall_mem_cons.mpr ⟨ab_icmp_eq_ok dX7_isNotAt_25 (by decide), List.forall_mem_cons.mpr ⟨ab_aload_n_ok dX7_isNotAt_28 rfl, List.forall_mem_cons.mpr ⟨ab_iconst_ok dX7_isNotAt_29 (by decide), List.forall_mem_cons.mpr ⟨ab_aload_n_ok dX7_isNotAt_30 rfl, List.forall_mem_cons.mpr ⟨ab_iload_n_ok dX7_isNotAt_31 rfl, List.forall_mem_cons.mpr ⟨ab_iconst_ok dX7_isNotAt_32 (by decide), List.forall_mem_cons.mpr ⟨ab_callV_ok' (G' := ab_g110) (C := RX7) (T := TX7) (N := 19) dX7_isNotAt_33 ab_m110 rfl rfl (by decide) (by decide) (ab_l4 ab_w440 ab_w441 ab_w442 ab_w8) ab_w443 rfl ⟨by decide, by decide, by decide +kernel⟩, List.forall_mem_cons.mpr ⟨ab_callV_ok' (G' := ab_g152) (C := RX7) (T := TX7) (N := 19) dX7_isNotAt_36 ab_m152 rfl rfl (by decide) (by decide) (ab_l4 ab_w612 ab_w613 ab_w614 ab_w8) ab_w615 rfl ⟨by decide, by decide, by decide +kernel⟩, List.forall_mem_cons.mpr ⟨ab_pop_ok dX7_isNotAt_39, List.forall_mem_cons.mpr ⟨ab_goto_ok dX7_isNotAt_40 (by decide), List.forall_mem_cons.mpr ⟨ab_iconst_ok dX7_isNotAt_43 (by decide), List.forall_mem_cons.mpr ⟨ab_zret_ok dX7_isNotAt_44 rfl, List.forall_mem_cons.mpr ⟨ab_iconst_ok dX7_isNotAt_45 (by decide), List.forall_mem_cons.mpr ⟨ab_zret_ok dX7_isNotAt_46 rfl, fun _ h => absurd h List.not_mem_nil⟩⟩⟩⟩⟩⟩⟩⟩⟩⟩⟩⟩⟩⟩⟩⟩⟩⟩⟩⟩⟩⟩⟩⟩⟩⟩⟩⟩⟩
theorem ab_k155 (K : ab_Kt) : ∀ pc, ab_OK K ab_mt ab_g155 pc (ab_c155 pc) := ab_lk2_ok _ (List.forall_mem_cons.mpr ⟨ab_k155_0 K, fun _ h => absurd h List.not_mem_nil⟩)
theorem dX7_withoutSlip_0 : decode cX7_withoutSlip 0 = .ok (.aload_n 0, 1) := by decide +kernel
theorem dX7_withoutSlip_1 : decode cX7_withoutSlip 1 = .ok (.iload_n 1, 1) := by decide +kernel
theorem dX7_withoutSlip_2 : decode cX7_withoutSlip 2 = .ok (.invokevirtual 80, 3) := by decide +kernel
theorem dX7_withoutSlip_5 : decode cX7_withoutSlip 5 = .ok (.istore_n 2, 1) := by decide +kernel
theorem dX7_withoutSlip_6 : decode cX7_withoutSlip 6 = .ok (.iconst 0, 1) := by decide +kernel
theorem dX7_withoutSlip_7 : decode cX7_withoutSlip 7 = .ok (.istore_n 3, 1) := by decide +kernel
theorem dX7_withoutSlip_8 : decode cX7_withoutSlip 8 = .ok (.iload_n 3, 1) := by decide +kernel
theorem dX7_withoutSlip_9 : decode cX7_withoutSlip 9 = .ok (.iload_n 2, 1) := by decide +kernel
theorem dX7_withoutSlip_10 : decode cX7_withoutSlip 10 = .ok (.if_icmp .ge 29, 3) := by decide +kernel
theorem dX7_withoutSlip_13 : decode cX7_withoutSlip 13 = .ok (.aload_n 0, 1) := by decide +kernel
theorem dX7_withoutSlip_14 : decode cX7_withoutSlip 14 = .ok (.iload_n 1, 1) := by decide +kernel
theorem dX7_withoutSlip_15 : decode cX7_withoutSlip 15 = .ok (.iload_n 3, 1) := by decide +kernel
theorem dX7_withoutSlip_16 : decode cX7_withoutSlip 16 = .ok (.invokevirtual 84, 3) := by decide +kernel
theorem dX7_withoutSlip_19 : decode cX7_withoutSlip 19 = .ok (.ifCond .ne 14, 3) := by decide +kernel
theorem dX7_withoutSlip_22 : decode cX7_withoutSlip 22 = .ok (.aload_n 0, 1) := by decide +kernel
theorem dX7_withoutSlip_23 : decode cX7_withoutSlip 23 = .ok (.iload_n 1, 1) := by decide +kernel
theorem dX7_withoutSlip_24 : decode cX7_withoutSlip 24 = .ok (.iload_n 3, 1) := by decide +kernel
theorem dX7_withoutSlip_25 : decode cX7_withoutSlip 25 = .ok (.invokevirtual 91, 3) := by decide +kernel
theorem dX7_withoutSlip_28 : decode cX7_withoutSlip 28 = .ok (.ifCond .ne 5, 3) := by decide +kernel
theorem dX7_withoutSlip_31 : decode cX7_withoutSlip 31 = .ok (.iload_n 3, 1) := by decide +kernel
theorem dX7_withoutSlip_32 : decode cX7_withoutSlip 32 = .ok (.ireturn, 1) := by decide +kernel
theorem dX7_withoutSlip_33 : decode cX7_withoutSlip 33 = .ok (.iinc 3 1, 3) := by decide +kernel
theorem dX7_withoutSlip_36 : decode cX7_withoutSlip 36 = .ok (.goto (-28), 3) := by decide +kernel
theorem dX7_withoutSlip_39 : decode cX7_withoutSlip 39 = .ok (.iconst (-1), 1) := by decide +kernel
theorem dX7_withoutSlip_40 : decode cX7_withoutSlip 40 = .ok (.ireturn, 1) := by decide +kernel
theorem ab_k156_0 (K : ab_Kt) : ∀ q ∈ ab_l156_0, ab_OK K ab_mt ab_g156 q.1 q.2 := by
  unfold ab_l156_0
  exact List.forall_mem_cons.mpr ⟨ab_aload_n_ok dX7_withoutSlip_0 rfl, List.forall_mem_cons.mpr ⟨ab_iload_n_ok dX7_withoutSlip_1 rfl, List.forall_mem_cons.mpr ⟨ab_callV_ok' (G' := ab_g104) (C := RX7) (T := TX7) (N := 19) dX7_withoutSlip_2 ab_m104 rfl rfl (by decide) (by decide) (ab_l4 ab_w415 ab_w416 ab_w417 ab_w8) ab_w418 rfl ⟨by decide, by decide, by decide +kernel⟩, List.forall_mem_cons.mpr ⟨ab_istore_n_ok dX7_withoutSlip_5 rfl, List.forall_mem_cons.mpr ⟨ab_iconst_ok dX7_withoutSlip_6 (by decide), List.forall_mem_cons.mpr ⟨ab_istore_n_ok dX7_withoutSlip_7 rfl, List.forall_mem_cons.mpr ⟨ab_iload_n_ok dX7_withoutSlip_8 rfl, List.forall_mem_cons.mpr ⟨ab_iload_n_ok dX7_withoutSlip_9 rfl, List.forall_mem_cons.mpr ⟨ab_icmp_ge_ok dX7_withoutSlip_10 (by decide), List.forall_mem_cons.mpr ⟨ab_aload_n_ok dX7_withoutSlip_13 rfl, List.forall_mem_cons.mpr ⟨ab_iload_n_ok dX7_withoutSlip_14 rfl, List.forall_mem_cons.mpr ⟨ab_iload_n_ok dX7_withoutSlip_15 rfl, List.forall_mem_cons.mpr ⟨ab_callV_ok' (G' := ab_g141) (C := RX7) (T := TX7) (N := 19) dX7_withoutSlip_16 ab_m141 rfl rfl (by decide) (by decide) (ab_l4 ab_w568 ab_w569 ab_w570 ab_w8) ab_w571 rfl ⟨by decide, by decide, by decide +kernel⟩, List.forall_mem_cons.mpr ⟨ab_if_ne_ok dX7_withoutSlip_19 (by decide), List.forall_mem_cons.mpr ⟨ab_aload_n_ok dX7_withoutSlip_22 rfl, List.forall_mem_cons.mpr ⟨ab_iload_n_ok dX7_withoutSlip_23 rfl, List.forall_mem_cons.mpr ⟨ab_iload_n_ok dX7_withoutSlip_24 rfl, List.forall_mem_cons.mpr ⟨ab_callV_ok' (G' := ab_g130) (C := RX7) (T := TX7) (N := 19) dX7_withoutSlip_25 ab_m130 rfl rfl (by decide) (by decide) (ab_l4 ab_w524 ab_w525 ab_w526 ab_w8) ab_w527 rfl ⟨by decide, by decide, by decide +kernel⟩, List.forall_mem_cons.mpr ⟨ab_if_ne_ok dX7_withoutSlip_28 (by decide), List.forall_mem_cons.mpr ⟨ab_iload_n_ok dX7_withoutSlip_31 rfl, List.forall_mem_cons.mpr ⟨ab_iret_ok dX7_withoutSlip_32 rfl, List.forall_mem_cons.mpr ⟨ab_iinc_ok dX7_withoutSlip_33 (by decide), List.forall_mem_cons.mpr ⟨ab_goto_ok dX7_withoutSlip_36 (by decide), List.forall_mem_cons.mpr ⟨ab_iconst_ok dX7_withoutSlip_39 (by decide), List.forall_mem_cons.mpr ⟨ab_iret_ok dX7_withoutSlip_40 rfl, fun _ h => absurd h List.not_mem_nil⟩⟩⟩⟩⟩⟩⟩⟩⟩⟩⟩⟩⟩⟩⟩⟩⟩⟩⟩⟩⟩⟩⟩⟩⟩
theorem ab_k156 (K : ab_Kt) : ∀ pc, ab_OK K ab_mt ab_g156 pc (ab_c156 pc) := ab_lk2_ok _ (List.forall_mem_cons.mpr ⟨ab_k156_0 K, fun _ h => absurd h List.not_mem_nil⟩)
theorem dX7_lays_0 : decode cX7_lays 0 = .ok (.aload_n 0, 1) := by decide +kernel
theorem dX7_lays_1 : decode cX7_lays 1 = .ok (.getfield 7, 3) := by decide +kernel
theorem dX7_lays_4 : decode cX7_lays 4 = .ok (.bipush 16, 2) := by decide +kernel
theorem dX7_lays_6 : decode cX7_lays 6 = .ok (.bipush 51, 2) := by decide +kernel
theorem dX7_lays_8 : decode cX7_lays 8 = .ok (.iload_n 1, 1) := by decide +kernel
theorem dX7_lays_9 : decode cX7_lays 9 = .ok (.imul, 1) := by decide +kernel
theorem dX7_lays_10 : decode cX7_lays 10 = .ok (.iadd, 1) := by decide +kernel
theorem dX7_lays_11 : decode cX7_lays 11 = .ok (.iload_n 2, 1) := by decide +kernel
theorem dX7_lays_12 : decode cX7_lays 12 = .ok (.iadd, 1) := by decide +kernel
theorem dX7_lays_13 : decode cX7_lays 13 = .ok (.iload_n 3, 1) := by decide +kernel
theorem dX7_lays_14 : decode cX7_lays 14 = .ok (.iastore, 1) := by decide +kernel
theorem dX7_lays_15 : decode cX7_lays 15 = .ok (.return_, 1) := by decide +kernel
theorem ab_k157_0 (K : ab_Kt) : ∀ q ∈ ab_l157_0, ab_OK K ab_mt ab_g157 q.1 q.2 := by
  unfold ab_l157_0
  exact List.forall_mem_cons.mpr ⟨ab_aload_n_ok dX7_lays_0 rfl, List.forall_mem_cons.mpr ⟨ab_getf_ok (C := RX7) (T := TX7) (N := 19) (ci := 11) (k := 0) dX7_lays_1 rfl ab_ic11 (by decide) ab_w350, List.forall_mem_cons.mpr ⟨ab_bipush_ok dX7_lays_4 (by decide), List.forall_mem_cons.mpr ⟨ab_bipush_ok dX7_lays_6 (by decide), List.forall_mem_cons.mpr ⟨ab_iload_n_ok dX7_lays_8 rfl, List.forall_mem_cons.mpr ⟨ab_imul_ok dX7_lays_9, List.forall_mem_cons.mpr ⟨ab_iadd_ok dX7_lays_10, List.forall_mem_cons.mpr ⟨ab_iload_n_ok dX7_lays_11 rfl, List.forall_mem_cons.mpr ⟨ab_iadd_ok dX7_lays_12, List.forall_mem_cons.mpr ⟨ab_iload_n_ok dX7_lays_13 rfl, List.forall_mem_cons.mpr ⟨ab_ast0_ok dX7_lays_14, List.forall_mem_cons.mpr ⟨ab_vret_ok dX7_lays_15 rfl, fun _ h => absurd h List.not_mem_nil⟩⟩⟩⟩⟩⟩⟩⟩⟩⟩⟩⟩
theorem ab_k157 (K : ab_Kt) : ∀ pc, ab_OK K ab_mt ab_g157 pc (ab_c157 pc) := ab_lk2_ok _ (List.forall_mem_cons.mpr ⟨ab_k157_0 K, fun _ h => absurd h List.not_mem_nil⟩)
theorem dX6_slip_0 : decode cX6_slip 0 = .ok (.aload_n 0, 1) := by decide +kernel
theorem dX6_slip_1 : decode cX6_slip 1 = .ok (.getfield 24, 3) := by decide +kernel
theorem dX6_slip_4 : decode cX6_slip 4 = .ok (.aload_n 0, 1) := by decide +kernel
theorem dX6_slip_5 : decode cX6_slip 5 = .ok (.getfield 20, 3) := by decide +kernel
theorem dX6_slip_8 : decode cX6_slip 8 = .ok (.invokevirtual 56, 3) := by decide +kernel
theorem dX6_slip_11 : decode cX6_slip 11 = .ok (.aload_n 0, 1) := by decide +kernel
theorem dX6_slip_12 : decode cX6_slip 12 = .ok (.aload_n 0, 1) := by decide +kernel
theorem dX6_slip_13 : decode cX6_slip 13 = .ok (.getfield 10, 3) := by decide +kernel
theorem dX6_slip_16 : decode cX6_slip 16 = .ok (.iload_n 1, 1) := by decide +kernel
theorem dX6_slip_17 : decode cX6_slip 17 = .ok (.iload_n 2, 1) := by decide +kernel
theorem dX6_slip_18 : decode cX6_slip 18 = .ok (.invokevirtual 97, 3) := by decide +kernel
theorem dX6_slip_21 : decode cX6_slip 21 = .ok (.invokevirtual 64, 3) := by decide +kernel
theorem dX6_slip_24 : decode cX6_slip 24 = .ok (.ireturn, 1) := by decide +kernel
theorem ab_k158_0 (K : ab_Kt) : ∀ q ∈ ab_l158_0, ab_OK K ab_mt ab_g158 q.1 q.2 := by
  unfold ab_l158_0
  exact List.forall_mem_cons.mpr ⟨ab_aload_n_ok dX6_slip_0 rfl, List.forall_mem_cons.mpr ⟨ab_getf_ok (C := RX6) (T := TX6) (N := 9) (ci := 10) (k := 2) dX6_slip_1 rfl ab_ic10 (by decide) ab_w325, List.forall_mem_cons.mpr ⟨ab_aload_n_ok dX6_slip_4 rfl, List.forall_mem_cons.mpr ⟨ab_getf_ok (C := RX6) (T := TX6) (N := 9) (ci := 10) (k := 1) dX6_slip_5 rfl ab_ic10 (by decide) ab_w318, List.forall_mem_cons.mpr ⟨ab_callV_ok' (G' := ab_g192) (C := RX3) (T := TX3) (N := 3) dX6_slip_8 ab_m192 rfl rfl (by decide) (by decide) (ab_l4 ab_w822 ab_w823 ab_w824 ab_w321) ab_w825 rfl ⟨by decide, by decide, by decide +kernel⟩, List.forall_mem_cons.mpr ⟨ab_aload_n_ok dX6_slip_11 rfl, List.forall_mem_cons.mpr ⟨ab_aload_n_ok dX6_slip_12 rfl, List.forall_mem_cons.mpr ⟨ab_getf_ok (C := RX6) (T := TX6) (N := 9) (ci := 10) (k := 0) dX6_slip_13 rfl ab_ic10 (by decide) ab_w316, List.forall_mem_cons.mpr ⟨ab_iload_n_ok dX6_slip_16 rfl, List.forall_mem_cons.mpr ⟨ab_iload_n_ok dX6_slip_17 rfl, List.forall_mem_cons.mpr ⟨ab_callV_ok' (G' := ab_g218) (C := RX0) (T := TX0) (N := 5) dX6_slip_18 ab_m218 rfl rfl (by decide) (by decide) (ab_l4 ab_w949 ab_w950 ab_w951 ab_w313) ab_w952 rfl ⟨by decide, by decide, by decide +kernel⟩, List.forall_mem_cons.mpr ⟨ab_callV_ok' (G' := ab_g195) (C := RX6) (T := TX6) (N := 9) dX6_slip_21 ab_m195 rfl rfl (by decide) (by decide) (ab_l4 ab_w834 ab_w835 ab_w836 ab_w2) ab_w837 rfl ⟨by decide, by decide, by decide +kernel⟩, List.forall_mem_cons.mpr ⟨ab_iret_ok dX6_slip_24 rfl, fun _ h => absurd h List.not_mem_nil⟩⟩⟩⟩⟩⟩⟩⟩⟩⟩⟩⟩⟩
theorem ab_k158 (K : ab_Kt) : ∀ pc, ab_OK K ab_mt ab_g158 pc (ab_c158 pc) := ab_lk2_ok _ (List.forall_mem_cons.mpr ⟨ab_k158_0 K, fun _ h => absurd h List.not_mem_nil⟩)
theorem dX6_lift_0 : decode cX6_lift 0 = .ok (.aload_n 0, 1) := by decide +kernel
theorem dX6_lift_1 : decode cX6_lift 1 = .ok (.getfield 24, 3) := by decide +kernel
theorem dX6_lift_4 : decode cX6_lift 4 = .ok (.aload_n 0, 1) := by decide +kernel
theorem dX6_lift_5 : decode cX6_lift 5 = .ok (.getfield 20, 3) := by decide +kernel
theorem dX6_lift_8 : decode cX6_lift 8 = .ok (.invokevirtual 56, 3) := by decide +kernel
theorem dX6_lift_11 : decode cX6_lift 11 = .ok (.aload_n 0, 1) := by decide +kernel
theorem dX6_lift_12 : decode cX6_lift 12 = .ok (.aload_n 0, 1) := by decide +kernel
theorem dX6_lift_13 : decode cX6_lift 13 = .ok (.getfield 10, 3) := by decide +kernel
theorem dX6_lift_16 : decode cX6_lift 16 = .ok (.iload_n 1, 1) := by decide +kernel
theorem dX6_lift_17 : decode cX6_lift 17 = .ok (.invokevirtual 94, 3) := by decide +kernel
theorem dX6_lift_20 : decode cX6_lift 20 = .ok (.invokevirtual 64, 3) := by decide +kernel
theorem dX6_lift_23 : decode cX6_lift 23 = .ok (.ireturn, 1) := by decide +kernel
theorem ab_k159_0 (K : ab_Kt) : ∀ q ∈ ab_l159_0, ab_OK K ab_mt ab_g159 q.1 q.2 := by
  unfold ab_l159_0
  exact List.forall_mem_cons.mpr ⟨ab_aload_n_ok dX6_lift_0 rfl, List.forall_mem_cons.mpr ⟨ab_getf_ok (C := RX6) (T := TX6) (N := 9) (ci := 10) (k := 2) dX6_lift_1 rfl ab_ic10 (by decide) ab_w325, List.forall_mem_cons.mpr ⟨ab_aload_n_ok dX6_lift_4 rfl, List.forall_mem_cons.mpr ⟨ab_getf_ok (C := RX6) (T := TX6) (N := 9) (ci := 10) (k := 1) dX6_lift_5 rfl ab_ic10 (by decide) ab_w318, List.forall_mem_cons.mpr ⟨ab_callV_ok' (G' := ab_g192) (C := RX3) (T := TX3) (N := 3) dX6_lift_8 ab_m192 rfl rfl (by decide) (by decide) (ab_l4 ab_w822 ab_w823 ab_w824 ab_w321) ab_w825 rfl ⟨by decide, by decide, by decide +kernel⟩, List.forall_mem_cons.mpr ⟨ab_aload_n_ok dX6_lift_11 rfl, List.forall_mem_cons.mpr ⟨ab_aload_n_ok dX6_lift_12 rfl, List.forall_mem_cons.mpr ⟨ab_getf_ok (C := RX6) (T := TX6) (N := 9) (ci := 10) (k := 0) dX6_lift_13 rfl ab_ic10 (by decide) ab_w316, List.forall_mem_cons.mpr ⟨ab_iload_n_ok dX6_lift_16 rfl, List.forall_mem_cons.mpr ⟨ab_callV_ok' (G' := ab_g219) (C := RX0) (T := TX0) (N := 5) dX6_lift_17 ab_m219 rfl rfl (by decide) (by decide) (ab_l4 ab_w953 ab_w954 ab_w955 ab_w313) ab_w956 rfl ⟨by decide, by decide, by decide +kernel⟩, List.forall_mem_cons.mpr ⟨ab_callV_ok' (G' := ab_g195) (C := RX6) (T := TX6) (N := 9) dX6_lift_20 ab_m195 rfl rfl (by decide) (by decide) (ab_l4 ab_w834 ab_w835 ab_w836 ab_w2) ab_w837 rfl ⟨by decide, by decide, by decide +kernel⟩, List.forall_mem_cons.mpr ⟨ab_iret_ok dX6_lift_23 rfl, fun _ h => absurd h List.not_mem_nil⟩⟩⟩⟩⟩⟩⟩⟩⟩⟩⟩⟩
theorem ab_k159 (K : ab_Kt) : ∀ pc, ab_OK K ab_mt ab_g159 pc (ab_c159 pc) := ab_lk2_ok _ (List.forall_mem_cons.mpr ⟨ab_k159_0 K, fun _ h => absurd h List.not_mem_nil⟩)
theorem dX6_press_0 : decode cX6_press 0 = .ok (.aload_n 0, 1) := by decide +kernel
theorem dX6_press_1 : decode cX6_press 1 = .ok (.getfield 24, 3) := by decide +kernel
theorem dX6_press_4 : decode cX6_press 4 = .ok (.aload_n 0, 1) := by decide +kernel
theorem dX6_press_5 : decode cX6_press 5 = .ok (.getfield 20, 3) := by decide +kernel
theorem dX6_press_8 : decode cX6_press 8 = .ok (.invokevirtual 56, 3) := by decide +kernel
theorem dX6_press_11 : decode cX6_press 11 = .ok (.aload_n 0, 1) := by decide +kernel
theorem dX6_press_12 : decode cX6_press 12 = .ok (.aload_n 0, 1) := by decide +kernel
theorem dX6_press_13 : decode cX6_press 13 = .ok (.getfield 10, 3) := by decide +kernel
theorem dX6_press_16 : decode cX6_press 16 = .ok (.iload_n 1, 1) := by decide +kernel
theorem dX6_press_17 : decode cX6_press 17 = .ok (.iload_n 2, 1) := by decide +kernel
theorem dX6_press_18 : decode cX6_press 18 = .ok (.invokevirtual 91, 3) := by decide +kernel
theorem dX6_press_21 : decode cX6_press 21 = .ok (.invokevirtual 64, 3) := by decide +kernel
theorem dX6_press_24 : decode cX6_press 24 = .ok (.ireturn, 1) := by decide +kernel
theorem ab_k160_0 (K : ab_Kt) : ∀ q ∈ ab_l160_0, ab_OK K ab_mt ab_g160 q.1 q.2 := by
  unfold ab_l160_0
  exact List.forall_mem_cons.mpr ⟨ab_aload_n_ok dX6_press_0 rfl, List.forall_mem_cons.mpr ⟨ab_getf_ok (C := RX6) (T := TX6) (N := 9) (ci := 10) (k := 2) dX6_press_1 rfl ab_ic10 (by decide) ab_w325, List.forall_mem_cons.mpr ⟨ab_aload_n_ok dX6_press_4 rfl, List.forall_mem_cons.mpr ⟨ab_getf_ok (C := RX6) (T := TX6) (N := 9) (ci := 10) (k := 1) dX6_press_5 rfl ab_ic10 (by decide) ab_w318, List.forall_mem_cons.mpr ⟨ab_callV_ok' (G' := ab_g192) (C := RX3) (T := TX3) (N := 3) dX6_press_8 ab_m192 rfl rfl (by decide) (by decide) (ab_l4 ab_w822 ab_w823 ab_w824 ab_w321) ab_w825 rfl ⟨by decide, by decide, by decide +kernel⟩, List.forall_mem_cons.mpr ⟨ab_aload_n_ok dX6_press_11 rfl, List.forall_mem_cons.mpr ⟨ab_aload_n_ok dX6_press_12 rfl, List.forall_mem_cons.mpr ⟨ab_getf_ok (C := RX6) (T := TX6) (N := 9) (ci := 10) (k := 0) dX6_press_13 rfl ab_ic10 (by decide) ab_w316, List.forall_mem_cons.mpr ⟨ab_iload_n_ok dX6_press_16 rfl, List.forall_mem_cons.mpr ⟨ab_iload_n_ok dX6_press_17 rfl, List.forall_mem_cons.mpr ⟨ab_callV_ok' (G' := ab_g220) (C := RX0) (T := TX0) (N := 5) dX6_press_18 ab_m220 rfl rfl (by decide) (by decide) (ab_l4 ab_w957 ab_w958 ab_w959 ab_w313) ab_w960 rfl ⟨by decide, by decide, by decide +kernel⟩, List.forall_mem_cons.mpr ⟨ab_callV_ok' (G' := ab_g195) (C := RX6) (T := TX6) (N := 9) dX6_press_21 ab_m195 rfl rfl (by decide) (by decide) (ab_l4 ab_w834 ab_w835 ab_w836 ab_w2) ab_w837 rfl ⟨by decide, by decide, by decide +kernel⟩, List.forall_mem_cons.mpr ⟨ab_iret_ok dX6_press_24 rfl, fun _ h => absurd h List.not_mem_nil⟩⟩⟩⟩⟩⟩⟩⟩⟩⟩⟩⟩⟩
theorem ab_k160 (K : ab_Kt) : ∀ pc, ab_OK K ab_mt ab_g160 pc (ab_c160 pc) := ab_lk2_ok _ (List.forall_mem_cons.mpr ⟨ab_k160_0 K, fun _ h => absurd h List.not_mem_nil⟩)
theorem dX6_glue_0 : decode cX6_glue 0 = .ok (.aload_n 0, 1) := by decide +kernel
theorem dX6_glue_1 : decode cX6_glue 1 = .ok (.getfield 24, 3) := by decide +kernel
theorem dX6_glue_4 : decode cX6_glue 4 = .ok (.aload_n 0, 1) := by decide +kernel
theorem dX6_glue_5 : decode cX6_glue 5 = .ok (.getfield 20, 3) := by decide +kernel
theorem dX6_glue_8 : decode cX6_glue 8 = .ok (.invokevirtual 56, 3) := by decide +kernel
theorem dX6_glue_11 : decode cX6_glue 11 = .ok (.aload_n 0, 1) := by decide +kernel
theorem dX6_glue_12 : decode cX6_glue 12 = .ok (.aload_n 0, 1) := by decide +kernel
theorem dX6_glue_13 : decode cX6_glue 13 = .ok (.getfield 10, 3) := by decide +kernel
theorem dX6_glue_16 : decode cX6_glue 16 = .ok (.iload_n 1, 1) := by decide +kernel
theorem dX6_glue_17 : decode cX6_glue 17 = .ok (.iload_n 2, 1) := by decide +kernel
theorem dX6_glue_18 : decode cX6_glue 18 = .ok (.invokevirtual 88, 3) := by decide +kernel
theorem dX6_glue_21 : decode cX6_glue 21 = .ok (.invokevirtual 64, 3) := by decide +kernel
theorem dX6_glue_24 : decode cX6_glue 24 = .ok (.ireturn, 1) := by decide +kernel
theorem ab_k161_0 (K : ab_Kt) : ∀ q ∈ ab_l161_0, ab_OK K ab_mt ab_g161 q.1 q.2 := by
  unfold ab_l161_0
  exact List.forall_mem_cons.mpr ⟨ab_aload_n_ok dX6_glue_0 rfl, List.forall_mem_cons.mpr ⟨ab_getf_ok (C := RX6) (T := TX6) (N := 9) (ci := 10) (k := 2) dX6_glue_1 rfl ab_ic10 (by decide) ab_w325, List.forall_mem_cons.mpr ⟨ab_aload_n_ok dX6_glue_4 rfl, List.forall_mem_cons.mpr ⟨ab_getf_ok (C := RX6) (T := TX6) (N := 9) (ci := 10) (k := 1) dX6_glue_5 rfl ab_ic10 (by decide) ab_w318, List.forall_mem_cons.mpr ⟨ab_callV_ok' (G' := ab_g192) (C := RX3) (T := TX3) (N := 3) dX6_glue_8 ab_m192 rfl rfl (by decide) (by decide) (ab_l4 ab_w822 ab_w823 ab_w824 ab_w321) ab_w825 rfl ⟨by decide, by decide, by decide +kernel⟩, List.forall_mem_cons.mpr ⟨ab_aload_n_ok dX6_glue_11 rfl, List.forall_mem_cons.mpr ⟨ab_aload_n_ok dX6_glue_12 rfl, List.forall_mem_cons.mpr ⟨ab_getf_ok (C := RX6) (T := TX6) (N := 9) (ci := 10) (k := 0) dX6_glue_13 rfl ab_ic10 (by decide) ab_w316, List.forall_mem_cons.mpr ⟨ab_iload_n_ok dX6_glue_16 rfl, List.forall_mem_cons.mpr ⟨ab_iload_n_ok dX6_glue_17 rfl, List.forall_mem_cons.mpr ⟨ab_callV_ok' (G' := ab_g221) (C := RX0) (T := TX0) (N := 5) dX6_glue_18 ab_m221 rfl rfl (by decide) (by decide) (ab_l4 ab_w961 ab_w962 ab_w963 ab_w313) ab_w964 rfl ⟨by decide, by decide, by decide +kernel⟩, List.forall_mem_cons.mpr ⟨ab_callV_ok' (G' := ab_g195) (C := RX6) (T := TX6) (N := 9) dX6_glue_21 ab_m195 rfl rfl (by decide) (by decide) (ab_l4 ab_w834 ab_w835 ab_w836 ab_w2) ab_w837 rfl ⟨by decide, by decide, by decide +kernel⟩, List.forall_mem_cons.mpr ⟨ab_iret_ok dX6_glue_24 rfl, fun _ h => absurd h List.not_mem_nil⟩⟩⟩⟩⟩⟩⟩⟩⟩⟩⟩⟩⟩
theorem ab_k161 (K : ab_Kt) : ∀ pc, ab_OK K ab_mt ab_g161 pc (ab_c161 pc) := ab_lk2_ok _ (List.forall_mem_cons.mpr ⟨ab_k161_0 K, fun _ h => absurd h List.not_mem_nil⟩)
theorem dX7_setTime_0 : decode cX7_setTime 0 = .ok (.iload_n 0, 1) := by decide +kernel
theorem dX7_setTime_1 : decode cX7_setTime 1 = .ok (.ifCond .ne 8, 3) := by decide +kernel
theorem dX7_setTime_4 : decode cX7_setTime 4 = .ok (.bipush 30, 2) := by decide +kernel
theorem dX7_setTime_6 : decode cX7_setTime 6 = .ok (.goto 15, 3) := by decide +kernel
theorem dX7_setTime_9 : decode cX7_setTime 9 = .ok (.iload_n 0, 1) := by decide +kernel
theorem dX7_setTime_10 : decode cX7_setTime 10 = .ok (.iconst 1, 1) := by decide +kernel
theorem dX7_setTime_11 : decode cX7_setTime 11 = .ok (.if_icmp .ne 8, 3) := by decide +kernel
theorem dX7_setTime_14 : decode cX7_setTime 14 = .ok (.bipush 8, 2) := by decide +kernel
theorem dX7_setTime_16 : decode cX7_setTime 16 = .ok (.goto 5, 3) := by decide +kernel
theorem dX7_setTime_19 : decode cX7_setTime 19 = .ok (.bipush 15, 2) := by decide +kernel
theorem dX7_setTime_21 : decode cX7_setTime 21 = .ok (.ireturn, 1) := by decide +kernel
theorem ab_k162_0 (K : ab_Kt) : ∀ q ∈ ab_l162_0, ab_OK K ab_mt ab_g162 q.1 q.2 := by
  unfold ab_l162_0
  exact List.forall_mem_cons.mpr ⟨ab_iload_n_ok dX7_setTime_0 rfl, List.forall_mem_cons.mpr ⟨ab_if_ne_ok dX7_setTime_1 (by decide), List.forall_mem_cons.mpr ⟨ab_bipush_ok dX7_setTime_4 (by decide), List.forall_mem_cons.mpr ⟨ab_goto_ok dX7_setTime_6 (by decide), List.forall_mem_cons.mpr ⟨ab_iload_n_ok dX7_setTime_9 rfl, List.forall_mem_cons.mpr ⟨ab_iconst_ok dX7_setTime_10 (by decide), List.forall_mem_cons.mpr ⟨ab_icmp_ne_ok dX7_setTime_11 (by decide), List.forall_mem_cons.mpr ⟨ab_bipush_ok dX7_setTime_14 (by decide), List.forall_mem_cons.mpr ⟨ab_goto_ok dX7_setTime_16 (by decide), List.forall_mem_cons.mpr ⟨ab_bipush_ok dX7_setTime_19 (by decide), List.forall_mem_cons.mpr ⟨ab_iret_ok dX7_setTime_21 rfl, fun _ h => absurd h List.not_mem_nil⟩⟩⟩⟩⟩⟩⟩⟩⟩⟩⟩
theorem ab_k162 (K : ab_Kt) : ∀ pc, ab_OK K ab_mt ab_g162 pc (ab_c162 pc) := ab_lk2_ok _ (List.forall_mem_cons.mpr ⟨ab_k162_0 K, fun _ h => absurd h List.not_mem_nil⟩)
theorem dX6_unpick_0 : decode cX6_unpick 0 = .ok (.aload_n 0, 1) := by decide +kernel
theorem dX6_unpick_1 : decode cX6_unpick 1 = .ok (.getfield 24, 3) := by decide +kernel
theorem dX6_unpick_4 : decode cX6_unpick 4 = .ok (.aload_n 0, 1) := by decide +kernel
theorem dX6_unpick_5 : decode cX6_unpick 5 = .ok (.getfield 20, 3) := by decide +kernel
theorem dX6_unpick_8 : decode cX6_unpick 8 = .ok (.invokevirtual 56, 3) := by decide +kernel
theorem dX6_unpick_11 : decode cX6_unpick 11 = .ok (.aload_n 0, 1) := by decide +kernel
theorem dX6_unpick_12 : decode cX6_unpick 12 = .ok (.aload_n 0, 1) := by decide +kernel
theorem dX6_unpick_13 : decode cX6_unpick 13 = .ok (.getfield 10, 3) := by decide +kernel
theorem dX6_unpick_16 : decode cX6_unpick 16 = .ok (.iload_n 1, 1) := by decide +kernel
theorem dX6_unpick_17 : decode cX6_unpick 17 = .ok (.invokevirtual 85, 3) := by decide +kernel
theorem dX6_unpick_20 : decode cX6_unpick 20 = .ok (.invokevirtual 64, 3) := by decide +kernel
theorem dX6_unpick_23 : decode cX6_unpick 23 = .ok (.ireturn, 1) := by decide +kernel
theorem ab_k163_0 (K : ab_Kt) : ∀ q ∈ ab_l163_0, ab_OK K ab_mt ab_g163 q.1 q.2 := by
  unfold ab_l163_0
  exact List.forall_mem_cons.mpr ⟨ab_aload_n_ok dX6_unpick_0 rfl, List.forall_mem_cons.mpr ⟨ab_getf_ok (C := RX6) (T := TX6) (N := 9) (ci := 10) (k := 2) dX6_unpick_1 rfl ab_ic10 (by decide) ab_w325, List.forall_mem_cons.mpr ⟨ab_aload_n_ok dX6_unpick_4 rfl, List.forall_mem_cons.mpr ⟨ab_getf_ok (C := RX6) (T := TX6) (N := 9) (ci := 10) (k := 1) dX6_unpick_5 rfl ab_ic10 (by decide) ab_w318, List.forall_mem_cons.mpr ⟨ab_callV_ok' (G' := ab_g192) (C := RX3) (T := TX3) (N := 3) dX6_unpick_8 ab_m192 rfl rfl (by decide) (by decide) (ab_l4 ab_w822 ab_w823 ab_w824 ab_w321) ab_w825 rfl ⟨by decide, by decide, by decide +kernel⟩, List.forall_mem_cons.mpr ⟨ab_aload_n_ok dX6_unpick_11 rfl, List.forall_mem_cons.mpr ⟨ab_aload_n_ok dX6_unpick_12 rfl, List.forall_mem_cons.mpr ⟨ab_getf_ok (C := RX6) (T := TX6) (N := 9) (ci := 10) (k := 0) dX6_unpick_13 rfl ab_ic10 (by decide) ab_w316, List.forall_mem_cons.mpr ⟨ab_iload_n_ok dX6_unpick_16 rfl, List.forall_mem_cons.mpr ⟨ab_callV_ok' (G' := ab_g222) (C := RX0) (T := TX0) (N := 5) dX6_unpick_17 ab_m222 rfl rfl (by decide) (by decide) (ab_l4 ab_w965 ab_w966 ab_w967 ab_w313) ab_w968 rfl ⟨by decide, by decide, by decide +kernel⟩, List.forall_mem_cons.mpr ⟨ab_callV_ok' (G' := ab_g195) (C := RX6) (T := TX6) (N := 9) dX6_unpick_20 ab_m195 rfl rfl (by decide) (by decide) (ab_l4 ab_w834 ab_w835 ab_w836 ab_w2) ab_w837 rfl ⟨by decide, by decide, by decide +kernel⟩, List.forall_mem_cons.mpr ⟨ab_iret_ok dX6_unpick_23 rfl, fun _ h => absurd h List.not_mem_nil⟩⟩⟩⟩⟩⟩⟩⟩⟩⟩⟩⟩
theorem ab_k163 (K : ab_Kt) : ∀ pc, ab_OK K ab_mt ab_g163 pc (ab_c163 pc) := ab_lk2_ok _ (List.forall_mem_cons.mpr ⟨ab_k163_0 K, fun _ h => absurd h List.not_mem_nil⟩)
theorem dX6_sew_0 : decode cX6_sew 0 = .ok (.aload_n 0, 1) := by decide +kernel
theorem dX6_sew_1 : decode cX6_sew 1 = .ok (.getfield 24, 3) := by decide +kernel
theorem dX6_sew_4 : decode cX6_sew 4 = .ok (.aload_n 0, 1) := by decide +kernel
theorem dX6_sew_5 : decode cX6_sew 5 = .ok (.getfield 20, 3) := by decide +kernel
theorem dX6_sew_8 : decode cX6_sew 8 = .ok (.invokevirtual 56, 3) := by decide +kernel
theorem dX6_sew_11 : decode cX6_sew 11 = .ok (.aload_n 0, 1) := by decide +kernel
theorem dX6_sew_12 : decode cX6_sew 12 = .ok (.aload_n 0, 1) := by decide +kernel
theorem dX6_sew_13 : decode cX6_sew 13 = .ok (.getfield 10, 3) := by decide +kernel
theorem dX6_sew_16 : decode cX6_sew 16 = .ok (.iload_n 1, 1) := by decide +kernel
theorem dX6_sew_17 : decode cX6_sew 17 = .ok (.invokevirtual 82, 3) := by decide +kernel
theorem dX6_sew_20 : decode cX6_sew 20 = .ok (.invokevirtual 64, 3) := by decide +kernel
theorem dX6_sew_23 : decode cX6_sew 23 = .ok (.ireturn, 1) := by decide +kernel
theorem ab_k164_0 (K : ab_Kt) : ∀ q ∈ ab_l164_0, ab_OK K ab_mt ab_g164 q.1 q.2 := by
  unfold ab_l164_0
  exact List.forall_mem_cons.mpr ⟨ab_aload_n_ok dX6_sew_0 rfl, List.forall_mem_cons.mpr ⟨ab_getf_ok (C := RX6) (T := TX6) (N := 9) (ci := 10) (k := 2) dX6_sew_1 rfl ab_ic10 (by decide) ab_w325, List.forall_mem_cons.mpr ⟨ab_aload_n_ok dX6_sew_4 rfl, List.forall_mem_cons.mpr ⟨ab_getf_ok (C := RX6) (T := TX6) (N := 9) (ci := 10) (k := 1) dX6_sew_5 rfl ab_ic10 (by decide) ab_w318, List.forall_mem_cons.mpr ⟨ab_callV_ok' (G' := ab_g192) (C := RX3) (T := TX3) (N := 3) dX6_sew_8 ab_m192 rfl rfl (by decide) (by decide) (ab_l4 ab_w822 ab_w823 ab_w824 ab_w321) ab_w825 rfl ⟨by decide, by decide, by decide +kernel⟩, List.forall_mem_cons.mpr ⟨ab_aload_n_ok dX6_sew_11 rfl, List.forall_mem_cons.mpr ⟨ab_aload_n_ok dX6_sew_12 rfl, List.forall_mem_cons.mpr ⟨ab_getf_ok (C := RX6) (T := TX6) (N := 9) (ci := 10) (k := 0) dX6_sew_13 rfl ab_ic10 (by decide) ab_w316, List.forall_mem_cons.mpr ⟨ab_iload_n_ok dX6_sew_16 rfl, List.forall_mem_cons.mpr ⟨ab_callV_ok' (G' := ab_g223) (C := RX0) (T := TX0) (N := 5) dX6_sew_17 ab_m223 rfl rfl (by decide) (by decide) (ab_l4 ab_w969 ab_w970 ab_w971 ab_w313) ab_w972 rfl ⟨by decide, by decide, by decide +kernel⟩, List.forall_mem_cons.mpr ⟨ab_callV_ok' (G' := ab_g195) (C := RX6) (T := TX6) (N := 9) dX6_sew_20 ab_m195 rfl rfl (by decide) (by decide) (ab_l4 ab_w834 ab_w835 ab_w836 ab_w2) ab_w837 rfl ⟨by decide, by decide, by decide +kernel⟩, List.forall_mem_cons.mpr ⟨ab_iret_ok dX6_sew_23 rfl, fun _ h => absurd h List.not_mem_nil⟩⟩⟩⟩⟩⟩⟩⟩⟩⟩⟩⟩
theorem ab_k164 (K : ab_Kt) : ∀ pc, ab_OK K ab_mt ab_g164 pc (ab_c164 pc) := ab_lk2_ok _ (List.forall_mem_cons.mpr ⟨ab_k164_0 K, fun _ h => absurd h List.not_mem_nil⟩)
theorem dX6_spool_0 : decode cX6_spool 0 = .ok (.aload_n 0, 1) := by decide +kernel
theorem dX6_spool_1 : decode cX6_spool 1 = .ok (.getfield 24, 3) := by decide +kernel
theorem dX6_spool_4 : decode cX6_spool 4 = .ok (.aload_n 0, 1) := by decide +kernel
theorem dX6_spool_5 : decode cX6_spool 5 = .ok (.getfield 20, 3) := by decide +kernel
theorem dX6_spool_8 : decode cX6_spool 8 = .ok (.invokevirtual 56, 3) := by decide +kernel
theorem dX6_spool_11 : decode cX6_spool 11 = .ok (.aload_n 0, 1) := by decide +kernel
theorem dX6_spool_12 : decode cX6_spool 12 = .ok (.aload_n 0, 1) := by decide +kernel
theorem dX6_spool_13 : decode cX6_spool 13 = .ok (.getfield 10, 3) := by decide +kernel
theorem dX6_spool_16 : decode cX6_spool 16 = .ok (.iload_n 1, 1) := by decide +kernel
theorem dX6_spool_17 : decode cX6_spool 17 = .ok (.invokevirtual 79, 3) := by decide +kernel
theorem dX6_spool_20 : decode cX6_spool 20 = .ok (.invokevirtual 64, 3) := by decide +kernel
theorem dX6_spool_23 : decode cX6_spool 23 = .ok (.ireturn, 1) := by decide +kernel
theorem ab_k165_0 (K : ab_Kt) : ∀ q ∈ ab_l165_0, ab_OK K ab_mt ab_g165 q.1 q.2 := by
  unfold ab_l165_0
  exact List.forall_mem_cons.mpr ⟨ab_aload_n_ok dX6_spool_0 rfl, List.forall_mem_cons.mpr ⟨ab_getf_ok (C := RX6) (T := TX6) (N := 9) (ci := 10) (k := 2) dX6_spool_1 rfl ab_ic10 (by decide) ab_w325, List.forall_mem_cons.mpr ⟨ab_aload_n_ok dX6_spool_4 rfl, List.forall_mem_cons.mpr ⟨ab_getf_ok (C := RX6) (T := TX6) (N := 9) (ci := 10) (k := 1) dX6_spool_5 rfl ab_ic10 (by decide) ab_w318, List.forall_mem_cons.mpr ⟨ab_callV_ok' (G' := ab_g192) (C := RX3) (T := TX3) (N := 3) dX6_spool_8 ab_m192 rfl rfl (by decide) (by decide) (ab_l4 ab_w822 ab_w823 ab_w824 ab_w321) ab_w825 rfl ⟨by decide, by decide, by decide +kernel⟩, List.forall_mem_cons.mpr ⟨ab_aload_n_ok dX6_spool_11 rfl, List.forall_mem_cons.mpr ⟨ab_aload_n_ok dX6_spool_12 rfl, List.forall_mem_cons.mpr ⟨ab_getf_ok (C := RX6) (T := TX6) (N := 9) (ci := 10) (k := 0) dX6_spool_13 rfl ab_ic10 (by decide) ab_w316, List.forall_mem_cons.mpr ⟨ab_iload_n_ok dX6_spool_16 rfl, List.forall_mem_cons.mpr ⟨ab_callV_ok' (G' := ab_g224) (C := RX0) (T := TX0) (N := 5) dX6_spool_17 ab_m224 rfl rfl (by decide) (by decide) (ab_l4 ab_w973 ab_w974 ab_w975 ab_w313) ab_w976 rfl ⟨by decide, by decide, by decide +kernel⟩, List.forall_mem_cons.mpr ⟨ab_callV_ok' (G' := ab_g195) (C := RX6) (T := TX6) (N := 9) dX6_spool_20 ab_m195 rfl rfl (by decide) (by decide) (ab_l4 ab_w834 ab_w835 ab_w836 ab_w2) ab_w837 rfl ⟨by decide, by decide, by decide +kernel⟩, List.forall_mem_cons.mpr ⟨ab_iret_ok dX6_spool_23 rfl, fun _ h => absurd h List.not_mem_nil⟩⟩⟩⟩⟩⟩⟩⟩⟩⟩⟩⟩
theorem ab_k165 (K : ab_Kt) : ∀ pc, ab_OK K ab_mt ab_g165 pc (ab_c165 pc) := ab_lk2_ok _ (List.forall_mem_cons.mpr ⟨ab_k165_0 K, fun _ h => absurd h List.not_mem_nil⟩)
theorem dX6_drop_0 : decode cX6_drop 0 = .ok (.aload_n 0, 1) := by decide +kernel
theorem dX6_drop_1 : decode cX6_drop 1 = .ok (.getfield 24, 3) := by decide +kernel
theorem dX6_drop_4 : decode cX6_drop 4 = .ok (.aload_n 0, 1) := by decide +kernel
theorem dX6_drop_5 : decode cX6_drop 5 = .ok (.getfield 20, 3) := by decide +kernel
theorem dX6_drop_8 : decode cX6_drop 8 = .ok (.invokevirtual 56, 3) := by decide +kernel
theorem dX6_drop_11 : decode cX6_drop 11 = .ok (.aload_n 0, 1) := by decide +kernel
theorem dX6_drop_12 : decode cX6_drop 12 = .ok (.aload_n 0, 1) := by decide +kernel
theorem dX6_drop_13 : decode cX6_drop 13 = .ok (.getfield 10, 3) := by decide +kernel
theorem dX6_drop_16 : decode cX6_drop 16 = .ok (.iload_n 1, 1) := by decide +kernel
theorem dX6_drop_17 : decode cX6_drop 17 = .ok (.iload_n 2, 1) := by decide +kernel
theorem dX6_drop_18 : decode cX6_drop 18 = .ok (.invokevirtual 76, 3) := by decide +kernel
theorem dX6_drop_21 : decode cX6_drop 21 = .ok (.invokevirtual 64, 3) := by decide +kernel
theorem dX6_drop_24 : decode cX6_drop 24 = .ok (.ireturn, 1) := by decide +kernel
theorem ab_k166_0 (K : ab_Kt) : ∀ q ∈ ab_l166_0, ab_OK K ab_mt ab_g166 q.1 q.2 := by
  unfold ab_l166_0
  exact List.forall_mem_cons.mpr ⟨ab_aload_n_ok dX6_drop_0 rfl, List.forall_mem_cons.mpr ⟨ab_getf_ok (C := RX6) (T := TX6) (N := 9) (ci := 10) (k := 2) dX6_drop_1 rfl ab_ic10 (by decide) ab_w325, List.forall_mem_cons.mpr ⟨ab_aload_n_ok dX6_drop_4 rfl, List.forall_mem_cons.mpr ⟨ab_getf_ok (C := RX6) (T := TX6) (N := 9) (ci := 10) (k := 1) dX6_drop_5 rfl ab_ic10 (by decide) ab_w318, List.forall_mem_cons.mpr ⟨ab_callV_ok' (G' := ab_g192) (C := RX3) (T := TX3) (N := 3) dX6_drop_8 ab_m192 rfl rfl (by decide) (by decide) (ab_l4 ab_w822 ab_w823 ab_w824 ab_w321) ab_w825 rfl ⟨by decide, by decide, by decide +kernel⟩, List.forall_mem_cons.mpr ⟨ab_aload_n_ok dX6_drop_11 rfl, List.forall_mem_cons.mpr ⟨ab_aload_n_ok dX6_drop_12 rfl, List.forall_mem_cons.mpr ⟨ab_getf_ok (C := RX6) (T := TX6) (N := 9) (ci := 10) (k := 0) dX6_drop_13 rfl ab_ic10 (by decide) ab_w316, List.forall_mem_cons.mpr ⟨ab_iload_n_ok dX6_drop_16 rfl, List.forall_mem_cons.mpr ⟨ab_iload_n_ok dX6_drop_17 rfl, List.forall_mem_cons.mpr ⟨ab_callV_ok' (G' := ab_g225) (C := RX0) (T := TX0) (N := 5) dX6_drop_18 ab_m225 rfl rfl (by decide) (by decide) (ab_l4 ab_w977 ab_w978 ab_w979 ab_w313) ab_w980 rfl ⟨by decide, by decide, by decide +kernel⟩, List.forall_mem_cons.mpr ⟨ab_callV_ok' (G' := ab_g195) (C := RX6) (T := TX6) (N := 9) dX6_drop_21 ab_m195 rfl rfl (by decide) (by decide) (ab_l4 ab_w834 ab_w835 ab_w836 ab_w2) ab_w837 rfl ⟨by decide, by decide, by decide +kernel⟩, List.forall_mem_cons.mpr ⟨ab_iret_ok dX6_drop_24 rfl, fun _ h => absurd h List.not_mem_nil⟩⟩⟩⟩⟩⟩⟩⟩⟩⟩⟩⟩⟩
theorem ab_k166 (K : ab_Kt) : ∀ pc, ab_OK K ab_mt ab_g166 pc (ab_c166 pc) := ab_lk2_ok _ (List.forall_mem_cons.mpr ⟨ab_k166_0 K, fun _ h => absurd h List.not_mem_nil⟩)
theorem dX7_isHeld_0 : decode cX7_isHeld 0 = .ok (.aload_n 0, 1) := by decide +kernel
theorem dX7_isHeld_1 : decode cX7_isHeld 1 = .ok (.iload_n 1, 1) := by decide +kernel
theorem dX7_isHeld_2 : decode cX7_isHeld 2 = .ok (.iconst 0, 1) := by decide +kernel
theorem dX7_isHeld_3 : decode cX7_isHeld 3 = .ok (.invokevirtual 101, 3) := by decide +kernel
theorem dX7_isHeld_6 : decode cX7_isHeld 6 = .ok (.ifCond .eq 5, 3) := by decide +kernel
theorem dX7_isHeld_9 : decode cX7_isHeld 9 = .ok (.iconst 1, 1) := by decide +kernel
theorem dX7_isHeld_10 : decode cX7_isHeld 10 = .ok (.ireturn, 1) := by decide +kernel
theorem dX7_isHeld_11 : decode cX7_isHeld 11 = .ok (.aload_n 0, 1) := by decide +kernel
theorem dX7_isHeld_12 : decode cX7_isHeld 12 = .ok (.iload_n 1, 1) := by decide +kernel
theorem dX7_isHeld_13 : decode cX7_isHeld 13 = .ok (.iconst 4, 1) := by decide +kernel
theorem dX7_isHeld_14 : decode cX7_isHeld 14 = .ok (.invokevirtual 63, 3) := by decide +kernel
theorem dX7_isHeld_17 : decode cX7_isHeld 17 = .ok (.ifCond .ne 5, 3) := by decide +kernel
theorem dX7_isHeld_20 : decode cX7_isHeld 20 = .ok (.iconst 0, 1) := by decide +kernel
theorem dX7_isHeld_21 : decode cX7_isHeld 21 = .ok (.ireturn, 1) := by decide +kernel
theorem dX7_isHeld_22 : decode cX7_isHeld 22 = .ok (.aload_n 0, 1) := by decide +kernel
theorem dX7_isHeld_23 : decode cX7_isHeld 23 = .ok (.iconst 5, 1) := by decide +kernel
theorem dX7_isHeld_24 : decode cX7_isHeld 24 = .ok (.aload_n 0, 1) := by decide +kernel
theorem dX7_isHeld_25 : decode cX7_isHeld 25 = .ok (.iload_n 1, 1) := by decide +kernel
theorem dX7_isHeld_26 : decode cX7_isHeld 26 = .ok (.iconst 4, 1) := by decide +kernel
theorem dX7_isHeld_27 : decode cX7_isHeld 27 = .ok (.invokevirtual 63, 3) := by decide +kernel
theorem dX7_isHeld_30 : decode cX7_isHeld 30 = .ok (.invokevirtual 98, 3) := by decide +kernel
theorem dX7_isHeld_33 : decode cX7_isHeld 33 = .ok (.pop, 1) := by decide +kernel
theorem dX7_isHeld_34 : decode cX7_isHeld 34 = .ok (.iconst 1, 1) := by decide +kernel
theorem dX7_isHeld_35 : decode cX7_isHeld 35 = .ok (.ireturn, 1) := by decide +kernel
theorem ab_k167_0 (K : ab_Kt) : ∀ q ∈ ab_l167_0, ab_OK K ab_mt ab_g167 q.1 q.2 := by
  unfold ab_l167_0
  exact List.forall_mem_cons.mpr ⟨ab_aload_n_ok dX7_isHeld_0 rfl, List.forall_mem_cons.mpr ⟨ab_iload_n_ok dX7_isHeld_1 rfl, List.forall_mem_cons.mpr ⟨ab_iconst_ok dX7_isHeld_2 (by decide), List.forall_mem_cons.mpr ⟨ab_callV_ok' (G' := ab_g155) (C := RX7) (T := TX7) (N := 19) dX7_isHeld_3 ab_m155 rfl rfl (by decide) (by decide) (ab_l4 ab_w624 ab_w625 ab_w626 ab_w8) ab_w627 rfl ⟨by decide, by decide, by decide +kernel⟩, List.forall_mem_cons.mpr ⟨ab_if_eq_ok dX7_isHeld_6 (by decide), List.forall_mem_cons.mpr ⟨ab_iconst_ok dX7_isHeld_9 (by decide), List.forall_mem_cons.mpr ⟨ab_zret_ok dX7_isHeld_10 rfl, List.forall_mem_cons.mpr ⟨ab_aload_n_ok dX7_isHeld_11 rfl, List.forall_mem_cons.mpr ⟨ab_iload_n_ok dX7_isHeld_12 rfl, List.forall_mem_cons.mpr ⟨ab_iconst_ok dX7_isHeld_13 (by decide), List.forall_mem_cons.mpr ⟨ab_callV_ok' (G' := ab_g110) (C := RX7) (T := TX7) (N := 19) dX7_isHeld_14 ab_m110 rfl rfl (by decide) (by decide) (ab_l4 ab_w440 ab_w441 ab_w442 ab_w8) ab_w443 rfl ⟨by decide, by decide, by decide +kernel⟩, List.forall_mem_cons.mpr ⟨ab_if_ne_ok dX7_isHeld_17 (by decide), List.forall_mem_cons.mpr ⟨ab_iconst_ok dX7_isHeld_20 (by decide), List.forall_mem_cons.mpr ⟨ab_zret_ok dX7_isHeld_21 rfl, List.forall_mem_cons.mpr ⟨ab_aload_n_ok dX7_isHeld_22 rfl, List.forall_mem_cons.mpr ⟨ab_iconst_ok dX7_isHeld_23 (by decide), List.forall_mem_cons.mpr ⟨ab_aload_n_ok dX7_isHeld_24 rfl, List.forall_mem_cons.mpr ⟨ab_iload_n_ok dX7_isHeld_25 rfl, List.forall_mem_cons.mpr ⟨ab_iconst_ok dX7_isHeld_26 (by decide), List.forall_mem_cons.mpr ⟨ab_callV_ok' (G' := ab_g110) (C := RX7) (T := TX7) (N := 19) dX7_isHeld_27 ab_m110 rfl rfl (by decide) (by decide) (ab_l4 ab_w440 ab_w441 ab_w442 ab_w8) ab_w443 rfl ⟨by decide, by decide, by decide +kernel⟩, List.forall_mem_cons.mpr ⟨ab_callV_ok' (G' := ab_g152) (C := RX7) (T := TX7) (N := 19) dX7_isHeld_30 ab_m152 rfl rfl (by decide) (by decide) (ab_l4 ab_w612 ab_w613 ab_w614 ab_w8) ab_w615 rfl ⟨by decide, by decide, by decide +kernel⟩, List.forall_mem_cons.mpr ⟨ab_pop_ok dX7_isHeld_33, List.forall_mem_cons.mpr ⟨ab_iconst_ok dX7_isHeld_34 (by decide), List.forall_mem_cons.mpr ⟨ab_zret_ok dX7_isHeld_35 rfl, fun _ h => absurd h List.not_mem_nil⟩⟩⟩⟩⟩⟩⟩⟩⟩⟩⟩⟩⟩⟩⟩⟩⟩⟩⟩⟩⟩⟩⟩⟩
theorem ab_k167 (K : ab_Kt) : ∀ pc, ab_OK K ab_mt ab_g167 pc (ab_c167 pc) := ab_lk2_ok _ (List.forall_mem_cons.mpr ⟨ab_k167_0 K, fun _ h => absurd h List.not_mem_nil⟩)
theorem dX7_swaps_0 : decode cX7_swaps 0 = .ok (.aload_n 0, 1) := by decide +kernel
theorem dX7_swaps_1 : decode cX7_swaps 1 = .ok (.iload_n 1, 1) := by decide +kernel
theorem dX7_swaps_2 : decode cX7_swaps 2 = .ok (.iload_n 2, 1) := by decide +kernel
theorem dX7_swaps_3 : decode cX7_swaps 3 = .ok (.iconst 0, 1) := by decide +kernel
theorem dX7_swaps_4 : decode cX7_swaps 4 = .ok (.invokevirtual 67, 3) := by decide +kernel
theorem dX7_swaps_7 : decode cX7_swaps 7 = .ok (.istore 4, 2) := by decide +kernel
theorem dX7_swaps_9 : decode cX7_swaps 9 = .ok (.aload_n 0, 1) := by decide +kernel
theorem dX7_swaps_10 : decode cX7_swaps 10 = .ok (.iload_n 1, 1) := by decide +kernel
theorem dX7_swaps_11 : decode cX7_swaps 11 = .ok (.iload_n 2, 1) := by decide +kernel
theorem dX7_swaps_12 : decode cX7_swaps 12 = .ok (.iconst 1, 1) := by decide +kernel
theorem dX7_swaps_13 : decode cX7_swaps 13 = .ok (.invokevirtual 67, 3) := by decide +kernel
theorem dX7_swaps_16 : decode cX7_swaps 16 = .ok (.istore 5, 2) := by decide +kernel
theorem dX7_swaps_18 : decode cX7_swaps 18 = .ok (.aload_n 0, 1) := by decide +kernel
theorem dX7_swaps_19 : decode cX7_swaps 19 = .ok (.iload_n 1, 1) := by decide +kernel
theorem dX7_swaps_20 : decode cX7_swaps 20 = .ok (.iload_n 2, 1) := by decide +kernel
theorem dX7_swaps_21 : decode cX7_swaps 21 = .ok (.iconst 2, 1) := by decide +kernel
theorem dX7_swaps_22 : decode cX7_swaps 22 = .ok (.invokevirtual 67, 3) := by decide +kernel
theorem dX7_swaps_25 : decode cX7_swaps 25 = .ok (.istore 6, 2) := by decide +kernel
theorem dX7_swaps_27 : decode cX7_swaps 27 = .ok (.aload_n 0, 1) := by decide +kernel
theorem dX7_swaps_28 : decode cX7_swaps 28 = .ok (.iload_n 1, 1) := by decide +kernel
theorem dX7_swaps_29 : decode cX7_swaps 29 = .ok (.iload_n 2, 1) := by decide +kernel
theorem dX7_swaps_30 : decode cX7_swaps 30 = .ok (.aload_n 0, 1) := by decide +kernel
theorem dX7_swaps_31 : decode cX7_swaps 31 = .ok (.iload_n 1, 1) := by decide +kernel
theorem dX7_swaps_32 : decode cX7_swaps 32 = .ok (.iload_n 3, 1) := by decide +kernel
theorem dX7_swaps_33 : decode cX7_swaps 33 = .ok (.iconst 0, 1) := by decide +kernel
theorem dX7_swaps_34 : decode cX7_swaps 34 = .ok (.invokevirtual 67, 3) := by decide +kernel
theorem dX7_swaps_37 : decode cX7_swaps 37 = .ok (.aload_n 0, 1) := by decide +kernel
theorem dX7_swaps_38 : decode cX7_swaps 38 = .ok (.iload_n 1, 1) := by decide +kernel
theorem dX7_swaps_39 : decode cX7_swaps 39 = .ok (.iload_n 3, 1) := by decide +kernel
theorem dX7_swaps_40 : decode cX7_swaps 40 = .ok (.iconst 1, 1) := by decide +kernel
theorem dX7_swaps_41 : decode cX7_swaps 41 = .ok (.invokevirtual 67, 3) := by decide +kernel
theorem dX7_swaps_44 : decode cX7_swaps 44 = .ok (.aload_n 0, 1) := by decide +kernel
theorem dX7_swaps_45 : decode cX7_swaps 45 = .ok (.iload_n 1, 1) := by decide +kernel
theorem dX7_swaps_46 : decode cX7_swaps 46 = .ok (.iload_n 3, 1) := by decide +kernel
theorem dX7_swaps_47 : decode cX7_swaps 47 = .ok (.iconst 2, 1) := by decide +kernel
theorem dX7_swaps_48 : decode cX7_swaps 48 = .ok (.invokevirtual 67, 3) := by decide +kernel
theorem dX7_swaps_51 : decode cX7_swaps 51 = .ok (.invokevirtual 115, 3) := by decide +kernel
theorem dX7_swaps_54 : decode cX7_swaps 54 = .ok (.aload_n 0, 1) := by decide +kernel
theorem dX7_swaps_55 : decode cX7_swaps 55 = .ok (.iload_n 1, 1) := by decide +kernel
theorem dX7_swaps_56 : decode cX7_swaps 56 = .ok (.iload_n 3, 1) := by decide +kernel
theorem ab_k168_0 (K : ab_Kt) : ∀ q ∈ ab_l168_0, ab_OK K ab_mt ab_g168 q.1 q.2 := by
  unfold ab_l168_0
  exact List.forall_mem_cons.mpr ⟨ab_aload_n_ok dX7_swaps_0 rfl, List.forall_mem_cons.mpr ⟨ab_iload_n_ok dX7_swaps_1 rfl, List.forall_mem_cons.mpr ⟨ab_iload_n_ok dX7_swaps_2 rfl, List.forall_mem_cons.mpr ⟨ab_iconst_ok dX7_swaps_3 (by decide), List.forall_mem_cons.mpr ⟨ab_callV_ok' (G' := ab_g111) (C := RX7) (T := TX7) (N := 19) dX7_swaps_4 ab_m111 rfl rfl (by decide) (by decide) (ab_l4 ab_w444 ab_w445 ab_w446 ab_w8) ab_w447 rfl ⟨by decide, by decide, by decide +kernel⟩, List.forall_mem_cons.mpr ⟨ab_istore_ok dX7_swaps_7, List.forall_mem_cons.mpr ⟨ab_aload_n_ok dX7_swaps_9 rfl, List.forall_mem_cons.mpr ⟨ab_iload_n_ok dX7_swaps_10 rfl, List.forall_mem_cons.mpr ⟨ab_iload_n_ok dX7_swaps_11 rfl, List.forall_mem_cons.mpr ⟨ab_iconst_ok dX7_swaps_12 (by decide), List.forall_mem_cons.mpr ⟨ab_callV_ok' (G' := ab_g111) (C := RX7) (T := TX7) (N := 19) dX7_swaps_13 ab_m111 rfl rfl (by decide) (by decide) (ab_l4 ab_w444 ab_w445 ab_w446 ab_w8) ab_w447 rfl ⟨by decide, by decide, by decide +kernel⟩, List.forall_mem_cons.mpr ⟨ab_istore_ok dX7_swaps_16, List.forall_mem_cons.mpr ⟨ab_aload_n_ok dX7_swaps_18 rfl, List.forall_mem_cons.mpr ⟨ab_iload_n_ok dX7_swaps_19 rfl, List.forall_mem_cons.mpr ⟨ab_iload_n_ok dX7_swaps_20 rfl, List.forall_mem_cons.mpr ⟨ab_iconst_ok dX7_swaps_21 (by decide), List.forall_mem_cons.mpr ⟨ab_callV_ok' (G' := ab_g111) (C := RX7) (T := TX7) (N := 19) dX7_swaps_22 ab_m111 rfl rfl (by decide) (by decide) (ab_l4 ab_w444 ab_w445 ab_w446 ab_w8) ab_w447 rfl ⟨by decide, by decide, by decide +kernel⟩, List.forall_mem_cons.mpr ⟨ab_istore_ok dX7_swaps_25, List.forall_mem_cons.mpr ⟨ab_aload_n_ok dX7_swaps_27 rfl, List.forall_mem_cons.mpr ⟨ab_iload_n_ok dX7_swaps_28 rfl, List.forall_mem_cons.mpr ⟨ab_iload_n_ok dX7_swaps_29 rfl, List.forall_mem_cons.mpr ⟨ab_aload_n_ok dX7_swaps_30 rfl, List.forall_mem_cons.mpr ⟨ab_iload_n_ok dX7_swaps_31 rfl, List.forall_mem_cons.mpr ⟨ab_iload_n_ok dX7_swaps_32 rfl, List.forall_mem_cons.mpr ⟨ab_iconst_ok dX7_swaps_33 (by decide), List.forall_mem_cons.mpr ⟨ab_callV_ok' (G' := ab_g111) (C := RX7) (T := TX7) (N := 19) dX7_swaps_34 ab_m111 rfl rfl (by decide) (by decide) (ab_l4 ab_w444 ab_w445 ab_w446 ab_w8) ab_w447 rfl ⟨by decide, by decide, by decide +kernel⟩, List.forall_mem_cons.mpr ⟨ab_aload_n_ok dX7_swaps_37 rfl, List.forall_mem_cons.mpr ⟨ab_iload_n_ok dX7_swaps_38 rfl, List.forall_mem_cons.mpr ⟨ab_iload_n_ok dX7_swaps_39 rfl, List.forall_mem_cons.mpr ⟨ab_iconst_ok dX7_swaps_40 (by decide), List.forall_mem_cons.mpr ⟨ab_callV_ok' (G' := ab_g111) (C := RX7) (T := TX7) (N := 19) dX7_swaps_41 ab_m111 rfl rfl (by decide) (by decide) (ab_l4 ab_w444 ab_w445 ab_w446 ab_w8) ab_w447 rfl ⟨by decide, by decide, by decide +kernel⟩, List.forall_mem_cons.mpr ⟨ab_aload_n_ok dX7_swaps_44 rfl, List.forall_mem_cons.mpr ⟨ab_iload_n_ok dX7_swaps_45 rfl, List.forall_mem_cons.mpr ⟨ab_iload_n_ok dX7_swaps_46 rfl, List.forall_mem_cons.mpr ⟨ab_iconst_ok dX7_swaps_47 (by decide), List.forall_mem_cons.mpr ⟨ab_callV_ok' (G' := ab_g111) (C := RX7) (T := TX7) (N := 19) dX7_swaps_48 ab_m111 rfl rfl (by decide) (by decide) (ab_l4 ab_w444 ab_w445 ab_w446 ab_w8) ab_w447 rfl ⟨by decide, by decide, by decide +kernel⟩, List.forall_mem_cons.mpr ⟨ab_callV_ok' (G' := ab_g169) (C := RX7) (T := TX7) (N := 19) dX7_swaps_51 ab_m169 rfl rfl (by decide) (by decide) (ab_l4 ab_w679 ab_w680 ab_w681 ab_w8) ab_w682 rfl ⟨by decide, by decide, by decide +kernel⟩, List.forall_mem_cons.mpr ⟨ab_aload_n_ok dX7_swaps_54 rfl, List.forall_mem_cons.mpr ⟨ab_iload_n_ok dX7_swaps_55 rfl, List.forall_mem_cons.mpr ⟨ab_iload_n_ok dX7_swaps_56 rfl, fun _ h => absurd h List.not_mem_nil⟩⟩⟩⟩⟩⟩⟩⟩⟩⟩⟩⟩⟩⟩⟩⟩⟩⟩⟩⟩⟩⟩⟩⟩⟩⟩⟩⟩⟩⟩⟩⟩⟩⟩⟩⟩⟩⟩⟩⟩
theorem dX7_swaps_57 : decode cX7_swaps 57 = .ok (.iload 4, 2) := by decide +kernel
theorem dX7_swaps_59 : decode cX7_swaps 59 = .ok (.iload 5, 2) := by decide +kernel
theorem dX7_swaps_61 : decode cX7_swaps 61 = .ok (.iload 6, 2) := by decide +kernel
theorem dX7_swaps_63 : decode cX7_swaps 63 = .ok (.invokevirtual 115, 3) := by decide +kernel
theorem dX7_swaps_66 : decode cX7_swaps 66 = .ok (.return_, 1) := by decide +kernel
theorem ab_k168_1 (K : ab_Kt) : ∀ q ∈ ab_l168_1, ab_OK K ab_mt ab_g168 q.1 q.2 := by
  unfold ab_l168_1
  exact List.forall_mem_cons.mpr ⟨ab_iload_ok dX7_swaps_57, List.forall_mem_cons.mpr ⟨ab_iload_ok dX7_swaps_59, List.forall_mem_cons.mpr ⟨ab_iload_ok dX7_swaps_61, List.forall_mem_cons.mpr ⟨ab_callV_ok' (G' := ab_g169) (C := RX7) (T := TX7) (N := 19) dX7_swaps_63 ab_m169 rfl rfl (by decide) (by decide) (ab_l4 ab_w679 ab_w680 ab_w681 ab_w8) ab_w682 rfl ⟨by decide, by decide, by decide +kernel⟩, List.forall_mem_cons.mpr ⟨ab_vret_ok dX7_swaps_66 rfl, fun _ h => absurd h List.not_mem_nil⟩⟩⟩⟩⟩
theorem ab_k168 (K : ab_Kt) : ∀ pc, ab_OK K ab_mt ab_g168 pc (ab_c168 pc) := ab_lk2_ok _ (List.forall_mem_cons.mpr ⟨ab_k168_0 K, List.forall_mem_cons.mpr ⟨ab_k168_1 K, fun _ h => absurd h List.not_mem_nil⟩⟩)
theorem dX7_puts_0 : decode cX7_puts 0 = .ok (.aload_n 0, 1) := by decide +kernel
theorem dX7_puts_1 : decode cX7_puts 1 = .ok (.iload_n 1, 1) := by decide +kernel
theorem dX7_puts_2 : decode cX7_puts 2 = .ok (.bipush 7, 2) := by decide +kernel
theorem dX7_puts_4 : decode cX7_puts 4 = .ok (.iconst 3, 1) := by decide +kernel
theorem dX7_puts_5 : decode cX7_puts 5 = .ok (.iload_n 2, 1) := by decide +kernel
theorem dX7_puts_6 : decode cX7_puts 6 = .ok (.imul, 1) := by decide +kernel
theorem dX7_puts_7 : decode cX7_puts 7 = .ok (.iadd, 1) := by decide +kernel
theorem dX7_puts_8 : decode cX7_puts 8 = .ok (.iload_n 3, 1) := by decide +kernel
theorem dX7_puts_9 : decode cX7_puts 9 = .ok (.invokevirtual 108, 3) := by decide +kernel
theorem dX7_puts_12 : decode cX7_puts 12 = .ok (.aload_n 0, 1) := by decide +kernel
theorem dX7_puts_13 : decode cX7_puts 13 = .ok (.iload_n 1, 1) := by decide +kernel
theorem dX7_puts_14 : decode cX7_puts 14 = .ok (.bipush 7, 2) := by decide +kernel
theorem dX7_puts_16 : decode cX7_puts 16 = .ok (.iconst 3, 1) := by decide +kernel
theorem dX7_puts_17 : decode cX7_puts 17 = .ok (.iload_n 2, 1) := by decide +kernel
theorem dX7_puts_18 : decode cX7_puts 18 = .ok (.imul, 1) := by decide +kernel
theorem dX7_puts_19 : decode cX7_puts 19 = .ok (.iadd, 1) := by decide +kernel
theorem dX7_puts_20 : decode cX7_puts 20 = .ok (.iconst 1, 1) := by decide +kernel
theorem dX7_puts_21 : decode cX7_puts 21 = .ok (.iadd, 1) := by decide +kernel
theorem dX7_puts_22 : decode cX7_puts 22 = .ok (.iload 4, 2) := by decide +kernel
theorem dX7_puts_24 : decode cX7_puts 24 = .ok (.invokevirtual 108, 3) := by decide +kernel
theorem dX7_puts_27 : decode cX7_puts 27 = .ok (.aload_n 0, 1) := by decide +kernel
theorem dX7_puts_28 : decode cX7_puts 28 = .ok (.iload_n 1, 1) := by decide +kernel
theorem dX7_puts_29 : decode cX7_puts 29 = .ok (.bipush 7, 2) := by decide +kernel
theorem dX7_puts_31 : decode cX7_puts 31 = .ok (.iconst 3, 1) := by decide +kernel
theorem dX7_puts_32 : decode cX7_puts 32 = .ok (.iload_n 2, 1) := by decide +kernel
theorem dX7_puts_33 : decode cX7_puts 33 = .ok (.imul, 1) := by decide +kernel
theorem dX7_puts_34 : decode cX7_puts 34 = .ok (.iadd, 1) := by decide +kernel
theorem dX7_puts_35 : decode cX7_puts 35 = .ok (.iconst 2, 1) := by decide +kernel
theorem dX7_puts_36 : decode cX7_puts 36 = .ok (.iadd, 1) := by decide +kernel
theorem dX7_puts_37 : decode cX7_puts 37 = .ok (.iload 5, 2) := by decide +kernel
theorem dX7_puts_39 : decode cX7_puts 39 = .ok (.invokevirtual 108, 3) := by decide +kernel
theorem dX7_puts_42 : decode cX7_puts 42 = .ok (.return_, 1) := by decide +kernel
theorem ab_k169_0 (K : ab_Kt) : ∀ q ∈ ab_l169_0, ab_OK K ab_mt ab_g169 q.1 q.2 := by
  unfold ab_l169_0
  exact List.forall_mem_cons.mpr ⟨ab_aload_n_ok dX7_puts_0 rfl, List.forall_mem_cons.mpr ⟨ab_iload_n_ok dX7_puts_1 rfl, List.forall_mem_cons.mpr ⟨ab_bipush_ok dX7_puts_2 (by decide), List.forall_mem_cons.mpr ⟨ab_iconst_ok dX7_puts_4 (by decide), List.forall_mem_cons.mpr ⟨ab_iload_n_ok dX7_puts_5 rfl, List.forall_mem_cons.mpr ⟨ab_imul_ok dX7_puts_6, List.forall_mem_cons.mpr ⟨ab_iadd_ok dX7_puts_7, List.forall_mem_cons.mpr ⟨ab_iload_n_ok dX7_puts_8 rfl, List.forall_mem_cons.mpr ⟨ab_callV_ok' (G' := ab_g157) (C := RX7) (T := TX7) (N := 19) dX7_puts_9 ab_m157 rfl rfl (by decide) (by decide) (ab_l4 ab_w632 ab_w633 ab_w634 ab_w8) ab_w635 rfl ⟨by decide, by decide, by decide +kernel⟩, List.forall_mem_cons.mpr ⟨ab_aload_n_ok dX7_puts_12 rfl, List.forall_mem_cons.mpr ⟨ab_iload_n_ok dX7_puts_13 rfl, List.forall_mem_cons.mpr ⟨ab_bipush_ok dX7_puts_14 (by decide), List.forall_mem_cons.mpr ⟨ab_iconst_ok dX7_puts_16 (by decide), List.forall_mem_cons.mpr ⟨ab_iload_n_ok dX7_puts_17 rfl, List.forall_mem_cons.mpr ⟨ab_imul_ok dX7_puts_18, List.forall_mem_cons.mpr ⟨ab_iadd_ok dX7_puts_19, List.forall_mem_cons.mpr ⟨ab_iconst_ok dX7_puts_20 (by decide), List.forall_mem_cons.mpr ⟨ab_iadd_ok dX7_puts_21, List.forall_mem_cons.mpr ⟨ab_iload_ok dX7_puts_22, List.forall_mem_cons.mpr ⟨ab_callV_ok' (G' := ab_g157) (C := RX7) (T := TX7) (N := 19) dX7_puts_24 ab_m157 rfl rfl (by decide) (by decide) (ab_l4 ab_w632 ab_w633 ab_w634 ab_w8) ab_w635 rfl ⟨by decide, by decide, by decide +kernel⟩, List.forall_mem_cons.mpr ⟨ab_aload_n_ok dX7_puts_27 rfl, List.forall_mem_cons.mpr ⟨ab_iload_n_ok dX7_puts_28 rfl, List.forall_mem_cons.mpr ⟨ab_bipush_ok dX7_puts_29 (by decide), List.forall_mem_cons.mpr ⟨ab_iconst_ok dX7_puts_31 (by decide), List.forall_mem_cons.mpr ⟨ab_iload_n_ok dX7_puts_32 rfl, List.forall_mem_cons.mpr ⟨ab_imul_ok dX7_puts_33, List.forall_mem_cons.mpr ⟨ab_iadd_ok dX7_puts_34, List.forall_mem_cons.mpr ⟨ab_iconst_ok dX7_puts_35 (by decide), List.forall_mem_cons.mpr ⟨ab_iadd_ok dX7_puts_36, List.forall_mem_cons.mpr ⟨ab_iload_ok dX7_puts_37, List.forall_mem_cons.mpr ⟨ab_callV_ok' (G' := ab_g157) (C := RX7) (T := TX7) (N := 19) dX7_puts_39 ab_m157 rfl rfl (by decide) (by decide) (ab_l4 ab_w632 ab_w633 ab_w634 ab_w8) ab_w635 rfl ⟨by decide, by decide, by decide +kernel⟩, List.forall_mem_cons.mpr ⟨ab_vret_ok dX7_puts_42 rfl, fun _ h => absurd h List.not_mem_nil⟩⟩⟩⟩⟩⟩⟩⟩⟩⟩⟩⟩⟩⟩⟩⟩⟩⟩⟩⟩⟩⟩⟩⟩⟩⟩⟩⟩⟩⟩⟩⟩
theorem ab_k169 (K : ab_Kt) : ∀ pc, ab_OK K ab_mt ab_g169 pc (ab_c169 pc) := ab_lk2_ok _ (List.forall_mem_cons.mpr ⟨ab_k169_0 K, fun _ h => absurd h List.not_mem_nil⟩)
theorem dX6_move_0 : decode cX6_move 0 = .ok (.aload_n 0, 1) := by decide +kernel
theorem dX6_move_1 : decode cX6_move 1 = .ok (.getfield 24, 3) := by decide +kernel
theorem dX6_move_4 : decode cX6_move 4 = .ok (.aload_n 0, 1) := by decide +kernel
theorem dX6_move_5 : decode cX6_move 5 = .ok (.getfield 20, 3) := by decide +kernel
theorem dX6_move_8 : decode cX6_move 8 = .ok (.invokevirtual 56, 3) := by decide +kernel
theorem dX6_move_11 : decode cX6_move 11 = .ok (.aload_n 0, 1) := by decide +kernel
theorem dX6_move_12 : decode cX6_move 12 = .ok (.aload_n 0, 1) := by decide +kernel
theorem dX6_move_13 : decode cX6_move 13 = .ok (.getfield 10, 3) := by decide +kernel
theorem dX6_move_16 : decode cX6_move 16 = .ok (.iload_n 1, 1) := by decide +kernel
theorem dX6_move_17 : decode cX6_move 17 = .ok (.iload_n 2, 1) := by decide +kernel
theorem dX6_move_18 : decode cX6_move 18 = .ok (.iload_n 3, 1) := by decide +kernel
theorem dX6_move_19 : decode cX6_move 19 = .ok (.invokevirtual 72, 3) := by decide +kernel
theorem dX6_move_22 : decode cX6_move 22 = .ok (.invokevirtual 64, 3) := by decide +kernel
theorem dX6_move_25 : decode cX6_move 25 = .ok (.ireturn, 1) := by decide +kernel
theorem ab_k170_0 (K : ab_Kt) : ∀ q ∈ ab_l170_0, ab_OK K ab_mt ab_g170 q.1 q.2 := by
  unfold ab_l170_0
  exact List.forall_mem_cons.mpr ⟨ab_aload_n_ok dX6_move_0 rfl, List.forall_mem_cons.mpr ⟨ab_getf_ok (C := RX6) (T := TX6) (N := 9) (ci := 10) (k := 2) dX6_move_1 rfl ab_ic10 (by decide) ab_w325, List.forall_mem_cons.mpr ⟨ab_aload_n_ok dX6_move_4 rfl, List.forall_mem_cons.mpr ⟨ab_getf_ok (C := RX6) (T := TX6) (N := 9) (ci := 10) (k := 1) dX6_move_5 rfl ab_ic10 (by decide) ab_w318, List.forall_mem_cons.mpr ⟨ab_callV_ok' (G' := ab_g192) (C := RX3) (T := TX3) (N := 3) dX6_move_8 ab_m192 rfl rfl (by decide) (by decide) (ab_l4 ab_w822 ab_w823 ab_w824 ab_w321) ab_w825 rfl ⟨by decide, by decide, by decide +kernel⟩, List.forall_mem_cons.mpr ⟨ab_aload_n_ok dX6_move_11 rfl, List.forall_mem_cons.mpr ⟨ab_aload_n_ok dX6_move_12 rfl, List.forall_mem_cons.mpr ⟨ab_getf_ok (C := RX6) (T := TX6) (N := 9) (ci := 10) (k := 0) dX6_move_13 rfl ab_ic10 (by decide) ab_w316, List.forall_mem_cons.mpr ⟨ab_iload_n_ok dX6_move_16 rfl, List.forall_mem_cons.mpr ⟨ab_iload_n_ok dX6_move_17 rfl, List.forall_mem_cons.mpr ⟨ab_iload_n_ok dX6_move_18 rfl, List.forall_mem_cons.mpr ⟨ab_callV_ok' (G' := ab_g226) (C := RX0) (T := TX0) (N := 5) dX6_move_19 ab_m226 rfl rfl (by decide) (by decide) (ab_l4 ab_w981 ab_w982 ab_w983 ab_w313) ab_w984 rfl ⟨by decide, by decide, by decide +kernel⟩, List.forall_mem_cons.mpr ⟨ab_callV_ok' (G' := ab_g195) (C := RX6) (T := TX6) (N := 9) dX6_move_22 ab_m195 rfl rfl (by decide) (by decide) (ab_l4 ab_w834 ab_w835 ab_w836 ab_w2) ab_w837 rfl ⟨by decide, by decide, by decide +kernel⟩, List.forall_mem_cons.mpr ⟨ab_iret_ok dX6_move_25 rfl, fun _ h => absurd h List.not_mem_nil⟩⟩⟩⟩⟩⟩⟩⟩⟩⟩⟩⟩⟩⟩
theorem ab_k170 (K : ab_Kt) : ∀ pc, ab_OK K ab_mt ab_g170 pc (ab_c170 pc) := ab_lk2_ok _ (List.forall_mem_cons.mpr ⟨ab_k170_0 K, fun _ h => absurd h List.not_mem_nil⟩)
theorem dX6_gather_0 : decode cX6_gather 0 = .ok (.aload_n 0, 1) := by decide +kernel
theorem dX6_gather_1 : decode cX6_gather 1 = .ok (.getfield 24, 3) := by decide +kernel
theorem dX6_gather_4 : decode cX6_gather 4 = .ok (.aload_n 0, 1) := by decide +kernel
theorem dX6_gather_5 : decode cX6_gather 5 = .ok (.getfield 20, 3) := by decide +kernel
theorem dX6_gather_8 : decode cX6_gather 8 = .ok (.invokevirtual 56, 3) := by decide +kernel
theorem dX6_gather_11 : decode cX6_gather 11 = .ok (.aload_n 0, 1) := by decide +kernel
theorem dX6_gather_12 : decode cX6_gather 12 = .ok (.aload_n 0, 1) := by decide +kernel
theorem dX6_gather_13 : decode cX6_gather 13 = .ok (.getfield 10, 3) := by decide +kernel
theorem dX6_gather_16 : decode cX6_gather 16 = .ok (.iload_n 1, 1) := by decide +kernel
theorem dX6_gather_17 : decode cX6_gather 17 = .ok (.iload_n 2, 1) := by decide +kernel
theorem dX6_gather_18 : decode cX6_gather 18 = .ok (.iload_n 3, 1) := by decide +kernel
theorem dX6_gather_19 : decode cX6_gather 19 = .ok (.iload 4, 2) := by decide +kernel
theorem dX6_gather_21 : decode cX6_gather 21 = .ok (.invokevirtual 68, 3) := by decide +kernel
theorem dX6_gather_24 : decode cX6_gather 24 = .ok (.invokevirtual 64, 3) := by decide +kernel
theorem dX6_gather_27 : decode cX6_gather 27 = .ok (.ireturn, 1) := by decide +kernel
theorem ab_k171_0 (K : ab_Kt) : ∀ q ∈ ab_l171_0, ab_OK K ab_mt ab_g171 q.1 q.2 := by
  unfold ab_l171_0
  exact List.forall_mem_cons.mpr ⟨ab_aload_n_ok dX6_gather_0 rfl, List.forall_mem_cons.mpr ⟨ab_getf_ok (C := RX6) (T := TX6) (N := 9) (ci := 10) (k := 2) dX6_gather_1 rfl ab_ic10 (by decide) ab_w325, List.forall_mem_cons.mpr ⟨ab_aload_n_ok dX6_gather_4 rfl, List.forall_mem_cons.mpr ⟨ab_getf_ok (C := RX6) (T := TX6) (N := 9) (ci := 10) (k := 1) dX6_gather_5 rfl ab_ic10 (by decide) ab_w318, List.forall_mem_cons.mpr ⟨ab_callV_ok' (G' := ab_g192) (C := RX3) (T := TX3) (N := 3) dX6_gather_8 ab_m192 rfl rfl (by decide) (by decide) (ab_l4 ab_w822 ab_w823 ab_w824 ab_w321) ab_w825 rfl ⟨by decide, by decide, by decide +kernel⟩, List.forall_mem_cons.mpr ⟨ab_aload_n_ok dX6_gather_11 rfl, List.forall_mem_cons.mpr ⟨ab_aload_n_ok dX6_gather_12 rfl, List.forall_mem_cons.mpr ⟨ab_getf_ok (C := RX6) (T := TX6) (N := 9) (ci := 10) (k := 0) dX6_gather_13 rfl ab_ic10 (by decide) ab_w316, List.forall_mem_cons.mpr ⟨ab_iload_n_ok dX6_gather_16 rfl, List.forall_mem_cons.mpr ⟨ab_iload_n_ok dX6_gather_17 rfl, List.forall_mem_cons.mpr ⟨ab_iload_n_ok dX6_gather_18 rfl, List.forall_mem_cons.mpr ⟨ab_iload_ok dX6_gather_19, List.forall_mem_cons.mpr ⟨ab_callV_ok' (G' := ab_g227) (C := RX0) (T := TX0) (N := 5) dX6_gather_21 ab_m227 rfl rfl (by decide) (by decide) (ab_l4 ab_w985 ab_w986 ab_w987 ab_w313) ab_w988 rfl ⟨by decide, by decide, by decide +kernel⟩, List.forall_mem_cons.mpr ⟨ab_callV_ok' (G' := ab_g195) (C := RX6) (T := TX6) (N := 9) dX6_gather_24 ab_m195 rfl rfl (by decide) (by decide) (ab_l4 ab_w834 ab_w835 ab_w836 ab_w2) ab_w837 rfl ⟨by decide, by decide, by decide +kernel⟩, List.forall_mem_cons.mpr ⟨ab_iret_ok dX6_gather_27 rfl, fun _ h => absurd h List.not_mem_nil⟩⟩⟩⟩⟩⟩⟩⟩⟩⟩⟩⟩⟩⟩⟩
theorem ab_k171 (K : ab_Kt) : ∀ pc, ab_OK K ab_mt ab_g171 pc (ab_c171 pc) := ab_lk2_ok _ (List.forall_mem_cons.mpr ⟨ab_k171_0 K, fun _ h => absurd h List.not_mem_nil⟩)
theorem dX6_book_0 : decode cX6_book 0 = .ok (.aload_n 0, 1) := by decide +kernel
theorem dX6_book_1 : decode cX6_book 1 = .ok (.getfield 24, 3) := by decide +kernel
theorem dX6_book_4 : decode cX6_book 4 = .ok (.aload_n 0, 1) := by decide +kernel
theorem dX6_book_5 : decode cX6_book 5 = .ok (.getfield 20, 3) := by decide +kernel
theorem dX6_book_8 : decode cX6_book 8 = .ok (.invokevirtual 56, 3) := by decide +kernel
theorem dX6_book_11 : decode cX6_book 11 = .ok (.aload_n 0, 1) := by decide +kernel
theorem dX6_book_12 : decode cX6_book 12 = .ok (.aload_n 0, 1) := by decide +kernel
theorem dX6_book_13 : decode cX6_book 13 = .ok (.getfield 10, 3) := by decide +kernel
theorem dX6_book_16 : decode cX6_book 16 = .ok (.iload_n 1, 1) := by decide +kernel
theorem dX6_book_17 : decode cX6_book 17 = .ok (.iload_n 2, 1) := by decide +kernel
theorem dX6_book_18 : decode cX6_book 18 = .ok (.invokevirtual 60, 3) := by decide +kernel
theorem dX6_book_21 : decode cX6_book 21 = .ok (.invokevirtual 64, 3) := by decide +kernel
theorem dX6_book_24 : decode cX6_book 24 = .ok (.ireturn, 1) := by decide +kernel
theorem ab_k172_0 (K : ab_Kt) : ∀ q ∈ ab_l172_0, ab_OK K ab_mt ab_g172 q.1 q.2 := by
  unfold ab_l172_0
  exact List.forall_mem_cons.mpr ⟨ab_aload_n_ok dX6_book_0 rfl, List.forall_mem_cons.mpr ⟨ab_getf_ok (C := RX6) (T := TX6) (N := 9) (ci := 10) (k := 2) dX6_book_1 rfl ab_ic10 (by decide) ab_w325, List.forall_mem_cons.mpr ⟨ab_aload_n_ok dX6_book_4 rfl, List.forall_mem_cons.mpr ⟨ab_getf_ok (C := RX6) (T := TX6) (N := 9) (ci := 10) (k := 1) dX6_book_5 rfl ab_ic10 (by decide) ab_w318, List.forall_mem_cons.mpr ⟨ab_callV_ok' (G' := ab_g192) (C := RX3) (T := TX3) (N := 3) dX6_book_8 ab_m192 rfl rfl (by decide) (by decide) (ab_l4 ab_w822 ab_w823 ab_w824 ab_w321) ab_w825 rfl ⟨by decide, by decide, by decide +kernel⟩, List.forall_mem_cons.mpr ⟨ab_aload_n_ok dX6_book_11 rfl, List.forall_mem_cons.mpr ⟨ab_aload_n_ok dX6_book_12 rfl, List.forall_mem_cons.mpr ⟨ab_getf_ok (C := RX6) (T := TX6) (N := 9) (ci := 10) (k := 0) dX6_book_13 rfl ab_ic10 (by decide) ab_w316, List.forall_mem_cons.mpr ⟨ab_iload_n_ok dX6_book_16 rfl, List.forall_mem_cons.mpr ⟨ab_iload_n_ok dX6_book_17 rfl, List.forall_mem_cons.mpr ⟨ab_callV_ok' (G' := ab_g228) (C := RX0) (T := TX0) (N := 5) dX6_book_18 ab_m228 rfl rfl (by decide) (by decide) (ab_l4 ab_w989 ab_w990 ab_w991 ab_w313) ab_w992 rfl ⟨by decide, by decide, by decide +kernel⟩, List.forall_mem_cons.mpr ⟨ab_callV_ok' (G' := ab_g195) (C := RX6) (T := TX6) (N := 9) dX6_book_21 ab_m195 rfl rfl (by decide) (by decide) (ab_l4 ab_w834 ab_w835 ab_w836 ab_w2) ab_w837 rfl ⟨by decide, by decide, by decide +kernel⟩, List.forall_mem_cons.mpr ⟨ab_iret_ok dX6_book_24 rfl, fun _ h => absurd h List.not_mem_nil⟩⟩⟩⟩⟩⟩⟩⟩⟩⟩⟩⟩⟩
theorem ab_k172 (K : ab_Kt) : ∀ pc, ab_OK K ab_mt ab_g172 pc (ab_c172 pc) := ab_lk2_ok _ (List.forall_mem_cons.mpr ⟨ab_k172_0 K, fun _ h => absurd h List.not_mem_nil⟩)
theorem dX1_init_0 : decode cX1_init 0 = .ok (.aload_n 0, 1) := by decide +kernel
theorem dX1_init_1 : decode cX1_init 1 = .ok (.invokespecial 3, 3) := by decide +kernel
theorem dX1_init_4 : decode cX1_init 4 = .ok (.aload_n 0, 1) := by decide +kernel
theorem dX1_init_5 : decode cX1_init 5 = .ok (.iconst (-1), 1) := by decide +kernel
theorem dX1_init_6 : decode cX1_init 6 = .ok (.putfield 9, 3) := by decide +kernel
theorem dX1_init_9 : decode cX1_init 9 = .ok (.aload_n 0, 1) := by decide +kernel
theorem dX1_init_10 : decode cX1_init 10 = .ok (.bipush 12, 2) := by decide +kernel
theorem dX1_init_12 : decode cX1_init 12 = .ok (.newarray .int, 2) := by decide +kernel
theorem dX1_init_14 : decode cX1_init 14 = .ok (.putfield 15, 3) := by decide +kernel
theorem dX1_init_17 : decode cX1_init 17 = .ok (.aload_n 0, 1) := by decide +kernel
theorem dX1_init_18 : decode cX1_init 18 = .ok (.bipush 12, 2) := by decide +kernel
theorem dX1_init_20 : decode cX1_init 20 = .ok (.newarray .int, 2) := by decide +kernel
theorem dX1_init_22 : decode cX1_init 22 = .ok (.putfield 19, 3) := by decide +kernel
theorem dX1_init_25 : decode cX1_init 25 = .ok (.aload_n 0, 1) := by decide +kernel
theorem dX1_init_26 : decode cX1_init 26 = .ok (.bipush 12, 2) := by decide +kernel
theorem dX1_init_28 : decode cX1_init 28 = .ok (.newarray .int, 2) := by decide +kernel
theorem dX1_init_30 : decode cX1_init 30 = .ok (.putfield 22, 3) := by decide +kernel
theorem dX1_init_33 : decode cX1_init 33 = .ok (.aload_n 0, 1) := by decide +kernel
theorem dX1_init_34 : decode cX1_init 34 = .ok (.bipush 12, 2) := by decide +kernel
theorem dX1_init_36 : decode cX1_init 36 = .ok (.newarray .boolean, 2) := by decide +kernel
theorem dX1_init_38 : decode cX1_init 38 = .ok (.putfield 25, 3) := by decide +kernel
theorem dX1_init_41 : decode cX1_init 41 = .ok (.aload_n 0, 1) := by decide +kernel
theorem dX1_init_42 : decode cX1_init 42 = .ok (.iconst 3, 1) := by decide +kernel
theorem dX1_init_43 : decode cX1_init 43 = .ok (.newarray .long, 2) := by decide +kernel
theorem dX1_init_45 : decode cX1_init 45 = .ok (.putfield 29, 3) := by decide +kernel
theorem dX1_init_48 : decode cX1_init 48 = .ok (.return_, 1) := by decide +kernel
theorem ab_k173_0 (K : ab_Kt) : ∀ q ∈ ab_l173_0, ab_OK K ab_mt ab_g173 q.1 q.2 := by
  unfold ab_l173_0
  exact List.forall_mem_cons.mpr ⟨ab_aload_n_ok dX1_init_0 rfl, List.forall_mem_cons.mpr ⟨ab_oini_ok dX1_init_1 (ab_l3 ab_w993 ab_w309 ab_w310), List.forall_mem_cons.mpr ⟨ab_aload_n_ok dX1_init_4 rfl, List.forall_mem_cons.mpr ⟨ab_iconst_ok dX1_init_5 (by decide), List.forall_mem_cons.mpr ⟨ab_putf_ok (C := RX1) (T := TX1) (N := 13) (ci := 5) (k := 6) (ty0 := tyX1) dX1_init_6 rfl ab_ic5 tyX1_ok nmX1 (by decide) ab_w994 rfl (Or.inl rfl), List.forall_mem_cons.mpr ⟨ab_aload_n_ok dX1_init_9 rfl, List.forall_mem_cons.mpr ⟨ab_bipush_ok dX1_init_10 (by decide), List.forall_mem_cons.mpr ⟨ab_newa0_ok dX1_init_12 ab_w347, List.forall_mem_cons.mpr ⟨ab_putf_ok (C := RX1) (T := TX1) (N := 13) (ci := 5) (k := 8) (ty0 := tyX1) dX1_init_14 rfl ab_ic5 tyX1_ok nmX1 (by decide) ab_w995 rfl (Or.inr ⟨rfl, rfl, rfl⟩), List.forall_mem_cons.mpr ⟨ab_aload_n_ok dX1_init_17 rfl, List.forall_mem_cons.mpr ⟨ab_bipush_ok dX1_init_18 (by decide), List.forall_mem_cons.mpr ⟨ab_newa0_ok dX1_init_20 ab_w347, List.forall_mem_cons.mpr ⟨ab_putf_ok (C := RX1) (T := TX1) (N := 13) (ci := 5) (k := 9) (ty0 := tyX1) dX1_init_22 rfl ab_ic5 tyX1_ok nmX1 (by decide) ab_w996 rfl (Or.inr ⟨rfl, rfl, rfl⟩), List.forall_mem_cons.mpr ⟨ab_aload_n_ok dX1_init_25 rfl, List.forall_mem_cons.mpr ⟨ab_bipush_ok dX1_init_26 (by decide), List.forall_mem_cons.mpr ⟨ab_newa0_ok dX1_init_28 ab_w347, List.forall_mem_cons.mpr ⟨ab_putf_ok (C := RX1) (T := TX1) (N := 13) (ci := 5) (k := 10) (ty0 := tyX1) dX1_init_30 rfl ab_ic5 tyX1_ok nmX1 (by decide) ab_w997 rfl (Or.inr ⟨rfl, rfl, rfl⟩), List.forall_mem_cons.mpr ⟨ab_aload_n_ok dX1_init_33 rfl, List.forall_mem_cons.mpr ⟨ab_bipush_ok dX1_init_34 (by decide), List.forall_mem_cons.mpr ⟨ab_newa1_ok dX1_init_36 ab_w998, List.forall_mem_cons.mpr ⟨ab_putf_ok (C := RX1) (T := TX1) (N := 13) (ci := 5) (k := 11) (ty0 := tyX1) dX1_init_38 rfl ab_ic5 tyX1_ok nmX1 (by decide) ab_w999 rfl (Or.inr ⟨rfl, rfl, rfl⟩), List.forall_mem_cons.mpr ⟨ab_aload_n_ok dX1_init_41 rfl, List.forall_mem_cons.mpr ⟨ab_iconst_ok dX1_init_42 (by decide), List.forall_mem_cons.mpr ⟨ab_newa2_ok dX1_init_43 ab_w12, List.forall_mem_cons.mpr ⟨ab_putf_ok (C := RX1) (T := TX1) (N := 13) (ci := 5) (k := 12) (ty0 := tyX1) dX1_init_45 rfl ab_ic5 tyX1_ok nmX1 (by decide) ab_w1000 rfl (Or.inr ⟨rfl, rfl, rfl⟩), List.forall_mem_cons.mpr ⟨ab_vret_ok dX1_init_48 rfl, fun _ h => absurd h List.not_mem_nil⟩⟩⟩⟩⟩⟩⟩⟩⟩⟩⟩⟩⟩⟩⟩⟩⟩⟩⟩⟩⟩⟩⟩⟩⟩⟩
theorem ab_k173 (K : ab_Kt) : ∀ pc, ab_OK K ab_mt ab_g173 pc (ab_c173 pc) := ab_lk2_ok _ (List.forall_mem_cons.mpr ⟨ab_k173_0 K, fun _ h => absurd h List.not_mem_nil⟩)
theorem dX4_init_0 : decode cX4_init 0 = .ok (.aload_n 0, 1) := by decide +kernel
theorem dX4_init_1 : decode cX4_init 1 = .ok (.invokespecial 3, 3) := by decide +kernel
theorem dX4_init_4 : decode cX4_init 4 = .ok (.aload_n 0, 1) := by decide +kernel
theorem dX4_init_5 : decode cX4_init 5 = .ok (.iconst 3, 1) := by decide +kernel
theorem dX4_init_6 : decode cX4_init 6 = .ok (.newarray .int, 2) := by decide +kernel
theorem dX4_init_8 : decode cX4_init 8 = .ok (.putfield 9, 3) := by decide +kernel
theorem dX4_init_11 : decode cX4_init 11 = .ok (.return_, 1) := by decide +kernel
theorem ab_k174_0 (K : ab_Kt) : ∀ q ∈ ab_l174_0, ab_OK K ab_mt ab_g174 q.1 q.2 := by
  unfold ab_l174_0
  exact List.forall_mem_cons.mpr ⟨ab_aload_n_ok dX4_init_0 rfl, List.forall_mem_cons.mpr ⟨ab_oini_ok dX4_init_1 (ab_l3 ab_w1001 ab_w309 ab_w310), List.forall_mem_cons.mpr ⟨ab_aload_n_ok dX4_init_4 rfl, List.forall_mem_cons.mpr ⟨ab_iconst_ok dX4_init_5 (by decide), List.forall_mem_cons.mpr ⟨ab_newa0_ok dX4_init_6 ab_w347, List.forall_mem_cons.mpr ⟨ab_putf_ok (C := RX4) (T := TX4) (N := 2) (ci := 8) (k := 0) (ty0 := tyX4) dX4_init_8 rfl ab_ic8 tyX4_ok nmX4 (by decide) ab_w1002 rfl (Or.inr ⟨rfl, rfl, rfl⟩), List.forall_mem_cons.mpr ⟨ab_vret_ok dX4_init_11 rfl, fun _ h => absurd h List.not_mem_nil⟩⟩⟩⟩⟩⟩⟩
theorem ab_k174 (K : ab_Kt) : ∀ pc, ab_OK K ab_mt ab_g174 pc (ab_c174 pc) := ab_lk2_ok _ (List.forall_mem_cons.mpr ⟨ab_k174_0 K, fun _ h => absurd h List.not_mem_nil⟩)
theorem dJ5_init_d00df_0 : decode cJ5_init_d00df 0 = .ok (.aload_n 0, 1) := by decide +kernel
theorem dJ5_init_d00df_1 : decode cJ5_init_d00df 1 = .ok (.invokespecial 3, 3) := by decide +kernel
theorem dJ5_init_d00df_4 : decode cJ5_init_d00df 4 = .ok (.getstatic 18, 3) := by decide +kernel
theorem dJ5_init_d00df_7 : decode cJ5_init_d00df 7 = .ok (.ifCond .eq 18, 3) := by decide +kernel
theorem dJ5_init_d00df_10 : decode cJ5_init_d00df 10 = .ok (.aload_n 0, 1) := by decide +kernel
theorem dJ5_init_d00df_11 : decode cJ5_init_d00df 11 = .ok (.iload_n 1, 1) := by decide +kernel
theorem dJ5_init_d00df_12 : decode cJ5_init_d00df 12 = .ok (.newarray .byte, 2) := by decide +kernel
theorem dJ5_init_d00df_14 : decode cJ5_init_d00df 14 = .ok (.putfield 15, 3) := by decide +kernel
theorem dJ5_init_d00df_17 : decode cJ5_init_d00df 17 = .ok (.aload_n 0, 1) := by decide +kernel
theorem dJ5_init_d00df_18 : decode cJ5_init_d00df 18 = .ok (.iconst 0, 1) := by decide +kernel
theorem dJ5_init_d00df_19 : decode cJ5_init_d00df 19 = .ok (.putfield 22, 3) := by decide +kernel
theorem dJ5_init_d00df_22 : decode cJ5_init_d00df 22 = .ok (.goto 16, 3) := by decide +kernel
theorem dJ5_init_d00df_25 : decode cJ5_init_d00df 25 = .ok (.aload_n 0, 1) := by decide +kernel
theorem dJ5_init_d00df_26 : decode cJ5_init_d00df 26 = .ok (.iload_n 1, 1) := by decide +kernel
theorem dJ5_init_d00df_38 : decode cJ5_init_d00df 38 = .ok (.return_, 1) := by decide +kernel
theorem ab_k175_0 (K : ab_Kt) : ∀ q ∈ ab_l175_0, ab_OK K ab_mt ab_g175 q.1 q.2 := by
  unfold ab_l175_0
  exact List.forall_mem_cons.mpr ⟨ab_aload_n_ok dJ5_init_d00df_0 rfl, List.forall_mem_cons.mpr ⟨ab_oini_ok dJ5_init_d00df_1 (ab_l3 ab_w1003 ab_w309 ab_w310), List.forall_mem_cons.mpr ⟨ab_gcom_ok dJ5_init_d00df_4 ab_w1004, List.forall_mem_cons.mpr ⟨ab_if_eq_ok dJ5_init_d00df_7 (by decide), List.forall_mem_cons.mpr ⟨ab_aload_n_ok dJ5_init_d00df_10 rfl, List.forall_mem_cons.mpr ⟨ab_iload_n_ok dJ5_init_d00df_11 rfl, List.forall_mem_cons.mpr ⟨ab_newa4_ok dJ5_init_d00df_12 ab_w1005, List.forall_mem_cons.mpr ⟨ab_putf_ok (C := RJ4) (T := TJ4) (N := 4) (ci := 1) (k := 0) (ty0 := tyJ4) dJ5_init_d00df_14 rfl ab_ic1 tyJ4_ok nmJ4 (by decide) ab_w1006 rfl (Or.inl rfl), List.forall_mem_cons.mpr ⟨ab_aload_n_ok dJ5_init_d00df_17 rfl, List.forall_mem_cons.mpr ⟨ab_iconst_ok dJ5_init_d00df_18 (by decide), List.forall_mem_cons.mpr ⟨ab_putf_ok (C := RJ4) (T := TJ4) (N := 4) (ci := 1) (k := 1) (ty0 := tyJ4) dJ5_init_d00df_19 rfl ab_ic1 tyJ4_ok nmJ4 (by decide) ab_w1007 rfl (Or.inl rfl), List.forall_mem_cons.mpr ⟨ab_goto_ok dJ5_init_d00df_22 (by decide), List.forall_mem_cons.mpr ⟨ab_aload_n_ok dJ5_init_d00df_25 rfl, List.forall_mem_cons.mpr ⟨ab_iload_n_ok dJ5_init_d00df_26 rfl, List.forall_mem_cons.mpr ⟨ab_vret_ok dJ5_init_d00df_38 rfl, fun _ h => absurd h List.not_mem_nil⟩⟩⟩⟩⟩⟩⟩⟩⟩⟩⟩⟩⟩⟩⟩
theorem ab_k175 (K : ab_Kt) : ∀ pc, ab_OK K ab_mt ab_g175 pc (ab_c175 pc) := ab_lk2_ok _ (List.forall_mem_cons.mpr ⟨ab_k175_0 K, fun _ h => absurd h List.not_mem_nil⟩)
theorem dX3_forget_0 : decode cX3_forget 0 = .ok (.aload_n 0, 1) := by decide +kernel
theorem dX3_forget_1 : decode cX3_forget 1 = .ok (.iconst 0, 1) := by decide +kernel
theorem dX3_forget_2 : decode cX3_forget 2 = .ok (.putfield 26, 3) := by decide +kernel
theorem dX3_forget_5 : decode cX3_forget 5 = .ok (.return_, 1) := by decide +kernel
theorem ab_k176_0 (K : ab_Kt) : ∀ q ∈ ab_l176_0, ab_OK K ab_mt ab_g176 q.1 q.2 := by
  unfold ab_l176_0
  exact List.forall_mem_cons.mpr ⟨ab_aload_n_ok dX3_forget_0 rfl, List.forall_mem_cons.mpr ⟨ab_iconst_ok dX3_forget_1 (by decide), List.forall_mem_cons.mpr ⟨ab_putf_ok (C := RX3) (T := TX3) (N := 3) (ci := 7) (k := 2) (ty0 := tyX3) dX3_forget_2 rfl ab_ic7 tyX3_ok nmX3 (by decide) ab_w1008 rfl (Or.inl rfl), List.forall_mem_cons.mpr ⟨ab_vret_ok dX3_forget_5 rfl, fun _ h => absurd h List.not_mem_nil⟩⟩⟩⟩
theorem ab_k176 (K : ab_Kt) : ∀ pc, ab_OK K ab_mt ab_g176 pc (ab_c176 pc) := ab_lk2_ok _ (List.forall_mem_cons.mpr ⟨ab_k176_0 K, fun _ h => absurd h List.not_mem_nil⟩)
theorem dX1_copyFrom_0 : decode cX1_copyFrom 0 = .ok (.aload_n 0, 1) := by decide +kernel
theorem dX1_copyFrom_1 : decode cX1_copyFrom 1 = .ok (.aload_n 1, 1) := by decide +kernel
theorem dX1_copyFrom_2 : decode cX1_copyFrom 2 = .ok (.getfield 33, 3) := by decide +kernel
theorem dX1_copyFrom_5 : decode cX1_copyFrom 5 = .ok (.putfield 33, 3) := by decide +kernel
theorem dX1_copyFrom_8 : decode cX1_copyFrom 8 = .ok (.aload_n 0, 1) := by decide +kernel
theorem dX1_copyFrom_9 : decode cX1_copyFrom 9 = .ok (.aload_n 1, 1) := by decide +kernel
theorem dX1_copyFrom_10 : decode cX1_copyFrom 10 = .ok (.getfield 36, 3) := by decide +kernel
theorem dX1_copyFrom_13 : decode cX1_copyFrom 13 = .ok (.putfield 36, 3) := by decide +kernel
theorem dX1_copyFrom_16 : decode cX1_copyFrom 16 = .ok (.aload_n 0, 1) := by decide +kernel
theorem dX1_copyFrom_17 : decode cX1_copyFrom 17 = .ok (.aload_n 1, 1) := by decide +kernel
theorem dX1_copyFrom_18 : decode cX1_copyFrom 18 = .ok (.getfield 39, 3) := by decide +kernel
theorem dX1_copyFrom_21 : decode cX1_copyFrom 21 = .ok (.putfield 39, 3) := by decide +kernel
theorem dX1_copyFrom_24 : decode cX1_copyFrom 24 = .ok (.aload_n 0, 1) := by decide +kernel
theorem dX1_copyFrom_25 : decode cX1_copyFrom 25 = .ok (.aload_n 1, 1) := by decide +kernel
theorem dX1_copyFrom_26 : decode cX1_copyFrom 26 = .ok (.getfield 42, 3) := by decide +kernel
theorem dX1_copyFrom_29 : decode cX1_copyFrom 29 = .ok (.putfield 42, 3) := by decide +kernel
theorem dX1_copyFrom_32 : decode cX1_copyFrom 32 = .ok (.aload_n 0, 1) := by decide +kernel
theorem dX1_copyFrom_33 : decode cX1_copyFrom 33 = .ok (.aload_n 1, 1) := by decide +kernel
theorem dX1_copyFrom_34 : decode cX1_copyFrom 34 = .ok (.getfield 45, 3) := by decide +kernel
theorem dX1_copyFrom_37 : decode cX1_copyFrom 37 = .ok (.putfield 45, 3) := by decide +kernel
theorem dX1_copyFrom_40 : decode cX1_copyFrom 40 = .ok (.aload_n 0, 1) := by decide +kernel
theorem dX1_copyFrom_41 : decode cX1_copyFrom 41 = .ok (.aload_n 1, 1) := by decide +kernel
theorem dX1_copyFrom_42 : decode cX1_copyFrom 42 = .ok (.getfield 48, 3) := by decide +kernel
theorem dX1_copyFrom_45 : decode cX1_copyFrom 45 = .ok (.putfield 48, 3) := by decide +kernel
theorem dX1_copyFrom_48 : decode cX1_copyFrom 48 = .ok (.aload_n 0, 1) := by decide +kernel
theorem dX1_copyFrom_49 : decode cX1_copyFrom 49 = .ok (.aload_n 1, 1) := by decide +kernel
theorem dX1_copyFrom_50 : decode cX1_copyFrom 50 = .ok (.getfield 9, 3) := by decide +kernel
theorem dX1_copyFrom_53 : decode cX1_copyFrom 53 = .ok (.putfield 9, 3) := by decide +kernel
theorem dX1_copyFrom_56 : decode cX1_copyFrom 56 = .ok (.aload_n 0, 1) := by decide +kernel
theorem dX1_copyFrom_57 : decode cX1_copyFrom 57 = .ok (.aload_n 1, 1) := by decide +kernel
theorem dX1_copyFrom_58 : decode cX1_copyFrom 58 = .ok (.getfield 51, 3) := by decide +kernel
theorem dX1_copyFrom_61 : decode cX1_copyFrom 61 = .ok (.putfield 51, 3) := by decide +kernel
theorem dX1_copyFrom_64 : decode cX1_copyFrom 64 = .ok (.iconst 0, 1) := by decide +kernel
theorem dX1_copyFrom_65 : decode cX1_copyFrom 65 = .ok (.istore_n 2, 1) := by decide +kernel
theorem dX1_copyFrom_66 : decode cX1_copyFrom 66 = .ok (.iload_n 2, 1) := by decide +kernel
theorem dX1_copyFrom_67 : decode cX1_copyFrom 67 = .ok (.bipush 12, 2) := by decide +kernel
theorem dX1_copyFrom_69 : decode cX1_copyFrom 69 = .ok (.if_icmp .ge 32, 3) := by decide +kernel
theorem dX1_copyFrom_72 : decode cX1_copyFrom 72 = .ok (.aload_n 0, 1) := by decide +kernel
theorem dX1_copyFrom_73 : decode cX1_copyFrom 73 = .ok (.iload_n 2, 1) := by decide +kernel
theorem dX1_copyFrom_74 : decode cX1_copyFrom 74 = .ok (.aload_n 1, 1) := by decide +kernel
theorem ab_k177_0 (K : ab_Kt) : ∀ q ∈ ab_l177_0, ab_OK K ab_mt ab_g177 q.1 q.2 := by
  unfold ab_l177_0
  exact List.forall_mem_cons.mpr ⟨ab_aload_n_ok dX1_copyFrom_0 rfl, List.forall_mem_cons.mpr ⟨ab_aload_n_ok dX1_copyFrom_1 rfl, List.forall_mem_cons.mpr ⟨ab_getf_ok (C := RX1) (T := TX1) (N := 13) (ci := 5) (k := 0) dX1_copyFrom_2 rfl ab_ic5 (by decide) ab_w1009, List.forall_mem_cons.mpr ⟨ab_putf_ok (C := RX1) (T := TX1) (N := 13) (ci := 5) (k := 0) (ty0 := tyX1) dX1_copyFrom_5 rfl ab_ic5 tyX1_ok nmX1 (by decide) ab_w1009 rfl (Or.inl rfl), List.forall_mem_cons.mpr ⟨ab_aload_n_ok dX1_copyFrom_8 rfl, List.forall_mem_cons.mpr ⟨ab_aload_n_ok dX1_copyFrom_9 rfl, List.forall_mem_cons.mpr ⟨ab_getf_ok (C := RX1) (T := TX1) (N := 13) (ci := 5) (k := 1) dX1_copyFrom_10 rfl ab_ic5 (by decide) ab_w1010, List.forall_mem_cons.mpr ⟨ab_putf_ok (C := RX1) (T := TX1) (N := 13) (ci := 5) (k := 1) (ty0 := tyX1) dX1_copyFrom_13 rfl ab_ic5 tyX1_ok nmX1 (by decide) ab_w1010 rfl (Or.inl rfl), List.forall_mem_cons.mpr ⟨ab_aload_n_ok dX1_copyFrom_16 rfl, List.forall_mem_cons.mpr ⟨ab_aload_n_ok dX1_copyFrom_17 rfl, List.forall_mem_cons.mpr ⟨ab_getf_ok (C := RX1) (T := TX1) (N := 13) (ci := 5) (k := 2) dX1_copyFrom_18 rfl ab_ic5 (by decide) ab_w1011, List.forall_mem_cons.mpr ⟨ab_putf_ok (C := RX1) (T := TX1) (N := 13) (ci := 5) (k := 2) (ty0 := tyX1) dX1_copyFrom_21 rfl ab_ic5 tyX1_ok nmX1 (by decide) ab_w1011 rfl (Or.inl rfl), List.forall_mem_cons.mpr ⟨ab_aload_n_ok dX1_copyFrom_24 rfl, List.forall_mem_cons.mpr ⟨ab_aload_n_ok dX1_copyFrom_25 rfl, List.forall_mem_cons.mpr ⟨ab_getf_ok (C := RX1) (T := TX1) (N := 13) (ci := 5) (k := 3) dX1_copyFrom_26 rfl ab_ic5 (by decide) ab_w1012, List.forall_mem_cons.mpr ⟨ab_putf_ok (C := RX1) (T := TX1) (N := 13) (ci := 5) (k := 3) (ty0 := tyX1) dX1_copyFrom_29 rfl ab_ic5 tyX1_ok nmX1 (by decide) ab_w1012 rfl (Or.inl rfl), List.forall_mem_cons.mpr ⟨ab_aload_n_ok dX1_copyFrom_32 rfl, List.forall_mem_cons.mpr ⟨ab_aload_n_ok dX1_copyFrom_33 rfl, List.forall_mem_cons.mpr ⟨ab_getf_ok (C := RX1) (T := TX1) (N := 13) (ci := 5) (k := 4) dX1_copyFrom_34 rfl ab_ic5 (by decide) ab_w1013, List.forall_mem_cons.mpr ⟨ab_putf_ok (C := RX1) (T := TX1) (N := 13) (ci := 5) (k := 4) (ty0 := tyX1) dX1_copyFrom_37 rfl ab_ic5 tyX1_ok nmX1 (by decide) ab_w1013 rfl (Or.inl rfl), List.forall_mem_cons.mpr ⟨ab_aload_n_ok dX1_copyFrom_40 rfl, List.forall_mem_cons.mpr ⟨ab_aload_n_ok dX1_copyFrom_41 rfl, List.forall_mem_cons.mpr ⟨ab_getf_ok (C := RX1) (T := TX1) (N := 13) (ci := 5) (k := 5) dX1_copyFrom_42 rfl ab_ic5 (by decide) ab_w1014, List.forall_mem_cons.mpr ⟨ab_putf_ok (C := RX1) (T := TX1) (N := 13) (ci := 5) (k := 5) (ty0 := tyX1) dX1_copyFrom_45 rfl ab_ic5 tyX1_ok nmX1 (by decide) ab_w1014 rfl (Or.inl rfl), List.forall_mem_cons.mpr ⟨ab_aload_n_ok dX1_copyFrom_48 rfl, List.forall_mem_cons.mpr ⟨ab_aload_n_ok dX1_copyFrom_49 rfl, List.forall_mem_cons.mpr ⟨ab_getf_ok (C := RX1) (T := TX1) (N := 13) (ci := 5) (k := 6) dX1_copyFrom_50 rfl ab_ic5 (by decide) ab_w994, List.forall_mem_cons.mpr ⟨ab_putf_ok (C := RX1) (T := TX1) (N := 13) (ci := 5) (k := 6) (ty0 := tyX1) dX1_copyFrom_53 rfl ab_ic5 tyX1_ok nmX1 (by decide) ab_w994 rfl (Or.inl rfl), List.forall_mem_cons.mpr ⟨ab_aload_n_ok dX1_copyFrom_56 rfl, List.forall_mem_cons.mpr ⟨ab_aload_n_ok dX1_copyFrom_57 rfl, List.forall_mem_cons.mpr ⟨ab_getf_ok (C := RX1) (T := TX1) (N := 13) (ci := 5) (k := 7) dX1_copyFrom_58 rfl ab_ic5 (by decide) ab_w1015, List.forall_mem_cons.mpr ⟨ab_putf_ok (C := RX1) (T := TX1) (N := 13) (ci := 5) (k := 7) (ty0 := tyX1) dX1_copyFrom_61 rfl ab_ic5 tyX1_ok nmX1 (by decide) ab_w1015 rfl (Or.inl rfl), List.forall_mem_cons.mpr ⟨ab_iconst_ok dX1_copyFrom_64 (by decide), List.forall_mem_cons.mpr ⟨ab_istore_n_ok dX1_copyFrom_65 rfl, List.forall_mem_cons.mpr ⟨ab_iload_n_ok dX1_copyFrom_66 rfl, List.forall_mem_cons.mpr ⟨ab_bipush_ok dX1_copyFrom_67 (by decide), List.forall_mem_cons.mpr ⟨ab_icmp_ge_ok dX1_copyFrom_69 (by decide), List.forall_mem_cons.mpr ⟨ab_aload_n_ok dX1_copyFrom_72 rfl, List.forall_mem_cons.mpr ⟨ab_iload_n_ok dX1_copyFrom_73 rfl, List.forall_mem_cons.mpr ⟨ab_aload_n_ok dX1_copyFrom_74 rfl, fun _ h => absurd h List.not_mem_nil⟩⟩⟩⟩⟩⟩⟩⟩⟩⟩⟩⟩⟩⟩⟩⟩⟩⟩⟩⟩⟩⟩⟩⟩⟩⟩⟩⟩⟩⟩⟩⟩⟩⟩⟩⟩⟩⟩⟩⟩
theorem dX1_copyFrom_75 : decode cX1_copyFrom 75 = .ok (.getfield 15, 3) := by decide +kernel
theorem dX1_copyFrom_78 : decode cX1_copyFrom 78 = .ok (.iload_n 2, 1) := by decide +kernel
theorem dX1_copyFrom_79 : decode cX1_copyFrom 79 = .ok (.iaload, 1) := by decide +kernel
theorem dX1_copyFrom_80 : decode cX1_copyFrom 80 = .ok (.aload_n 1, 1) := by decide +kernel
theorem dX1_copyFrom_81 : decode cX1_copyFrom 81 = .ok (.getfield 22, 3) := by decide +kernel
theorem dX1_copyFrom_84 : decode cX1_copyFrom 84 = .ok (.iload_n 2, 1) := by decide +kernel
theorem dX1_copyFrom_85 : decode cX1_copyFrom 85 = .ok (.iaload, 1) := by decide +kernel
theorem dX1_copyFrom_86 : decode cX1_copyFrom 86 = .ok (.aload_n 1, 1) := by decide +kernel
theorem dX1_copyFrom_87 : decode cX1_copyFrom 87 = .ok (.getfield 25, 3) := by decide +kernel
theorem dX1_copyFrom_90 : decode cX1_copyFrom 90 = .ok (.iload_n 2, 1) := by decide +kernel
theorem dX1_copyFrom_91 : decode cX1_copyFrom 91 = .ok (.baload, 1) := by decide +kernel
theorem dX1_copyFrom_92 : decode cX1_copyFrom 92 = .ok (.invokevirtual 54, 3) := by decide +kernel
theorem dX1_copyFrom_95 : decode cX1_copyFrom 95 = .ok (.iinc 2 1, 3) := by decide +kernel
theorem dX1_copyFrom_98 : decode cX1_copyFrom 98 = .ok (.goto (-32), 3) := by decide +kernel
theorem dX1_copyFrom_101 : decode cX1_copyFrom 101 = .ok (.aload_n 1, 1) := by decide +kernel
theorem dX1_copyFrom_102 : decode cX1_copyFrom 102 = .ok (.getfield 29, 3) := by decide +kernel
theorem dX1_copyFrom_105 : decode cX1_copyFrom 105 = .ok (.iconst 0, 1) := by decide +kernel
theorem dX1_copyFrom_106 : decode cX1_copyFrom 106 = .ok (.aload_n 0, 1) := by decide +kernel
theorem dX1_copyFrom_107 : decode cX1_copyFrom 107 = .ok (.getfield 29, 3) := by decide +kernel
theorem dX1_copyFrom_110 : decode cX1_copyFrom 110 = .ok (.iconst 0, 1) := by decide +kernel
theorem dX1_copyFrom_111 : decode cX1_copyFrom 111 = .ok (.iconst 3, 1) := by decide +kernel
theorem dX1_copyFrom_112 : decode cX1_copyFrom 112 = .ok (.invokestatic 58, 3) := by decide +kernel
theorem dX1_copyFrom_115 : decode cX1_copyFrom 115 = .ok (.return_, 1) := by decide +kernel
theorem ab_k177_1 (K : ab_Kt) : ∀ q ∈ ab_l177_1, ab_OK K ab_mt ab_g177 q.1 q.2 := by
  unfold ab_l177_1
  exact List.forall_mem_cons.mpr ⟨ab_getf_ok (C := RX1) (T := TX1) (N := 13) (ci := 5) (k := 8) dX1_copyFrom_75 rfl ab_ic5 (by decide) ab_w995, List.forall_mem_cons.mpr ⟨ab_iload_n_ok dX1_copyFrom_78 rfl, List.forall_mem_cons.mpr ⟨ab_ald0_ok dX1_copyFrom_79, List.forall_mem_cons.mpr ⟨ab_aload_n_ok dX1_copyFrom_80 rfl, List.forall_mem_cons.mpr ⟨ab_getf_ok (C := RX1) (T := TX1) (N := 13) (ci := 5) (k := 10) dX1_copyFrom_81 rfl ab_ic5 (by decide) ab_w997, List.forall_mem_cons.mpr ⟨ab_iload_n_ok dX1_copyFrom_84 rfl, List.forall_mem_cons.mpr ⟨ab_ald0_ok dX1_copyFrom_85, List.forall_mem_cons.mpr ⟨ab_aload_n_ok dX1_copyFrom_86 rfl, List.forall_mem_cons.mpr ⟨ab_getf_ok (C := RX1) (T := TX1) (N := 13) (ci := 5) (k := 11) dX1_copyFrom_87 rfl ab_ic5 (by decide) ab_w999, List.forall_mem_cons.mpr ⟨ab_iload_n_ok dX1_copyFrom_90 rfl, List.forall_mem_cons.mpr ⟨ab_ald1_ok dX1_copyFrom_91, List.forall_mem_cons.mpr ⟨ab_callV_ok' (G' := ab_g229) (C := RX1) (T := TX1) (N := 13) dX1_copyFrom_92 ab_m229 rfl rfl (by decide) (by decide) (ab_l4 ab_w1016 ab_w1017 ab_w1018 ab_w711) ab_w1019 rfl ⟨by decide, by decide, by decide +kernel⟩, List.forall_mem_cons.mpr ⟨ab_iinc_ok dX1_copyFrom_95 (by decide), List.forall_mem_cons.mpr ⟨ab_goto_ok dX1_copyFrom_98 (by decide), List.forall_mem_cons.mpr ⟨ab_aload_n_ok dX1_copyFrom_101 rfl, List.forall_mem_cons.mpr ⟨ab_getf_ok (C := RX1) (T := TX1) (N := 13) (ci := 5) (k := 12) dX1_copyFrom_102 rfl ab_ic5 (by decide) ab_w1000, List.forall_mem_cons.mpr ⟨ab_iconst_ok dX1_copyFrom_105 (by decide), List.forall_mem_cons.mpr ⟨ab_aload_n_ok dX1_copyFrom_106 rfl, List.forall_mem_cons.mpr ⟨ab_getf_ok (C := RX1) (T := TX1) (N := 13) (ci := 5) (k := 12) dX1_copyFrom_107 rfl ab_ic5 (by decide) ab_w1000, List.forall_mem_cons.mpr ⟨ab_iconst_ok dX1_copyFrom_110 (by decide), List.forall_mem_cons.mpr ⟨ab_iconst_ok dX1_copyFrom_111 (by decide), List.forall_mem_cons.mpr ⟨ab_acopyl_ok dX1_copyFrom_112 (ab_l4 ab_w1020 ab_w1021 ab_w1022 ab_w1023), List.forall_mem_cons.mpr ⟨ab_vret_ok dX1_copyFrom_115 rfl, fun _ h => absurd h List.not_mem_nil⟩⟩⟩⟩⟩⟩⟩⟩⟩⟩⟩⟩⟩⟩⟩⟩⟩⟩⟩⟩⟩⟩⟩
theorem ab_k177 (K : ab_Kt) : ∀ pc, ab_OK K ab_mt ab_g177 pc (ab_c177 pc) := ab_lk2_ok _ (List.forall_mem_cons.mpr ⟨ab_k177_0 K, List.forall_mem_cons.mpr ⟨ab_k177_1 K, fun _ h => absurd h List.not_mem_nil⟩⟩)
theorem dX4_copyFrom_0 : decode cX4_copyFrom 0 = .ok (.aload_n 1, 1) := by decide +kernel
theorem dX4_copyFrom_1 : decode cX4_copyFrom 1 = .ok (.getfield 9, 3) := by decide +kernel
theorem dX4_copyFrom_4 : decode cX4_copyFrom 4 = .ok (.iconst 0, 1) := by decide +kernel
theorem dX4_copyFrom_5 : decode cX4_copyFrom 5 = .ok (.aload_n 0, 1) := by decide +kernel
theorem dX4_copyFrom_6 : decode cX4_copyFrom 6 = .ok (.getfield 9, 3) := by decide +kernel
theorem dX4_copyFrom_9 : decode cX4_copyFrom 9 = .ok (.iconst 0, 1) := by decide +kernel
theorem dX4_copyFrom_10 : decode cX4_copyFrom 10 = .ok (.iconst 3, 1) := by decide +kernel
theorem dX4_copyFrom_11 : decode cX4_copyFrom 11 = .ok (.invokestatic 15, 3) := by decide +kernel
theorem dX4_copyFrom_14 : decode cX4_copyFrom 14 = .ok (.aload_n 0, 1) := by decide +kernel
theorem dX4_copyFrom_15 : decode cX4_copyFrom 15 = .ok (.aload_n 1, 1) := by decide +kernel
theorem dX4_copyFrom_16 : decode cX4_copyFrom 16 = .ok (.getfield 21, 3) := by decide +kernel
theorem dX4_copyFrom_19 : decode cX4_copyFrom 19 = .ok (.putfield 21, 3) := by decide +kernel
theorem dX4_copyFrom_22 : decode cX4_copyFrom 22 = .ok (.return_, 1) := by decide +kernel
theorem ab_k178_0 (K : ab_Kt) : ∀ q ∈ ab_l178_0, ab_OK K ab_mt ab_g178 q.1 q.2 := by
  unfold ab_l178_0
  exact List.forall_mem_cons.mpr ⟨ab_aload_n_ok dX4_copyFrom_0 rfl, List.forall_mem_cons.mpr ⟨ab_getf_ok (C := RX4) (T := TX4) (N := 2) (ci := 8) (k := 0) dX4_copyFrom_1 rfl ab_ic8 (by decide) ab_w1002, List.forall_mem_cons.mpr ⟨ab_iconst_ok dX4_copyFrom_4 (by decide), List.forall_mem_cons.mpr ⟨ab_aload_n_ok dX4_copyFrom_5 rfl, List.forall_mem_cons.mpr ⟨ab_getf_ok (C := RX4) (T := TX4) (N := 2) (ci := 8) (k := 0) dX4_copyFrom_6 rfl ab_ic8 (by decide) ab_w1002, List.forall_mem_cons.mpr ⟨ab_iconst_ok dX4_copyFrom_9 (by decide), List.forall_mem_cons.mpr ⟨ab_iconst_ok dX4_copyFrom_10 (by decide), List.forall_mem_cons.mpr ⟨ab_acopy_ok dX4_copyFrom_11 rfl rfl (ab_l4 ab_w1024 ab_w1021 ab_w1022 ab_w1023), List.forall_mem_cons.mpr ⟨ab_aload_n_ok dX4_copyFrom_14 rfl, List.forall_mem_cons.mpr ⟨ab_aload_n_ok dX4_copyFrom_15 rfl, List.forall_mem_cons.mpr ⟨ab_getf_ok (C := RX4) (T := TX4) (N := 2) (ci := 8) (k := 1) dX4_copyFrom_16 rfl ab_ic8 (by decide) ab_w1025, List.forall_mem_cons.mpr ⟨ab_putf_ok (C := RX4) (T := TX4) (N := 2) (ci := 8) (k := 1) (ty0 := tyX4) dX4_copyFrom_19 rfl ab_ic8 tyX4_ok nmX4 (by decide) ab_w1025 rfl (Or.inl rfl), List.forall_mem_cons.mpr ⟨ab_vret_ok dX4_copyFrom_22 rfl, fun _ h => absurd h List.not_mem_nil⟩⟩⟩⟩⟩⟩⟩⟩⟩⟩⟩⟩⟩
theorem ab_k178 (K : ab_Kt) : ∀ pc, ab_OK K ab_mt ab_g178 pc (ab_c178 pc) := ab_lk2_ok _ (List.forall_mem_cons.mpr ⟨ab_k178_0 K, fun _ h => absurd h List.not_mem_nil⟩)
theorem dX3_takeBackLatest_0 : decode cX3_takeBackLatest 0 = .ok (.aload_n 0, 1) := by decide +kernel
theorem dX3_takeBackLatest_1 : decode cX3_takeBackLatest 1 = .ok (.aload_n 0, 1) := by decide +kernel
theorem dX3_takeBackLatest_2 : decode cX3_takeBackLatest 2 = .ok (.getfield 18, 3) := by decide +kernel
theorem dX3_takeBackLatest_5 : decode cX3_takeBackLatest 5 = .ok (.ifCond .le 12, 3) := by decide +kernel
theorem dX3_takeBackLatest_8 : decode cX3_takeBackLatest 8 = .ok (.aload_n 0, 1) := by decide +kernel
theorem dX3_takeBackLatest_9 : decode cX3_takeBackLatest 9 = .ok (.getfield 18, 3) := by decide +kernel
theorem dX3_takeBackLatest_12 : decode cX3_takeBackLatest 12 = .ok (.iconst 1, 1) := by decide +kernel
theorem dX3_takeBackLatest_13 : decode cX3_takeBackLatest 13 = .ok (.isub, 1) := by decide +kernel
theorem dX3_takeBackLatest_14 : decode cX3_takeBackLatest 14 = .ok (.goto 5, 3) := by decide +kernel
theorem dX3_takeBackLatest_17 : decode cX3_takeBackLatest 17 = .ok (.bipush 8, 2) := by decide +kernel
theorem dX3_takeBackLatest_19 : decode cX3_takeBackLatest 19 = .ok (.putfield 18, 3) := by decide +kernel
theorem dX3_takeBackLatest_22 : decode cX3_takeBackLatest 22 = .ok (.aload_n 0, 1) := by decide +kernel
theorem dX3_takeBackLatest_23 : decode cX3_takeBackLatest 23 = .ok (.dup, 1) := by decide +kernel
theorem dX3_takeBackLatest_24 : decode cX3_takeBackLatest 24 = .ok (.getfield 26, 3) := by decide +kernel
theorem dX3_takeBackLatest_27 : decode cX3_takeBackLatest 27 = .ok (.iconst 1, 1) := by decide +kernel
theorem dX3_takeBackLatest_28 : decode cX3_takeBackLatest 28 = .ok (.isub, 1) := by decide +kernel
theorem dX3_takeBackLatest_29 : decode cX3_takeBackLatest 29 = .ok (.putfield 26, 3) := by decide +kernel
theorem dX3_takeBackLatest_32 : decode cX3_takeBackLatest 32 = .ok (.aload_n 1, 1) := by decide +kernel
theorem dX3_takeBackLatest_33 : decode cX3_takeBackLatest 33 = .ok (.aload_n 0, 1) := by decide +kernel
theorem dX3_takeBackLatest_34 : decode cX3_takeBackLatest 34 = .ok (.getfield 13, 3) := by decide +kernel
theorem dX3_takeBackLatest_37 : decode cX3_takeBackLatest 37 = .ok (.aload_n 0, 1) := by decide +kernel
theorem dX3_takeBackLatest_38 : decode cX3_takeBackLatest 38 = .ok (.getfield 18, 3) := by decide +kernel
theorem dX3_takeBackLatest_41 : decode cX3_takeBackLatest 41 = .ok (.aaload, 1) := by decide +kernel
theorem dX3_takeBackLatest_42 : decode cX3_takeBackLatest 42 = .ok (.invokevirtual 22, 3) := by decide +kernel
theorem dX3_takeBackLatest_45 : decode cX3_takeBackLatest 45 = .ok (.return_, 1) := by decide +kernel
theorem ab_k179_0 (K : ab_Kt) : ∀ q ∈ ab_l179_0, ab_OK K ab_mt ab_g179 q.1 q.2 := by
  unfold ab_l179_0
  exact List.forall_mem_cons.mpr ⟨ab_aload_n_ok dX3_takeBackLatest_0 rfl, List.forall_mem_cons.mpr ⟨ab_aload_n_ok dX3_takeBackLatest_1 rfl, List.forall_mem_cons.mpr ⟨ab_getf_ok (C := RX3) (T := TX3) (N := 3) (ci := 7) (k := 1) dX3_takeBackLatest_2 rfl ab_ic7 (by decide) ab_w1026, List.forall_mem_cons.mpr ⟨ab_if_le_ok dX3_takeBackLatest_5 (by decide), List.forall_mem_cons.mpr ⟨ab_aload_n_ok dX3_takeBackLatest_8 rfl, List.forall_mem_cons.mpr ⟨ab_getf_ok (C := RX3) (T := TX3) (N := 3) (ci := 7) (k := 1) dX3_takeBackLatest_9 rfl ab_ic7 (by decide) ab_w1026, List.forall_mem_cons.mpr ⟨ab_iconst_ok dX3_takeBackLatest_12 (by decide), List.forall_mem_cons.mpr ⟨ab_isub_ok dX3_takeBackLatest_13, List.forall_mem_cons.mpr ⟨ab_goto_ok dX3_takeBackLatest_14 (by decide), List.forall_mem_cons.mpr ⟨ab_bipush_ok dX3_takeBackLatest_17 (by decide), List.forall_mem_cons.mpr ⟨ab_putf_ok (C := RX3) (T := TX3) (N := 3) (ci := 7) (k := 1) (ty0 := tyX3) dX3_takeBackLatest_19 rfl ab_ic7 tyX3_ok nmX3 (by decide) ab_w1026 rfl (Or.inl rfl), List.forall_mem_cons.mpr ⟨ab_aload_n_ok dX3_takeBackLatest_22 rfl, List.forall_mem_cons.mpr ⟨ab_dup_ok dX3_takeBackLatest_23, List.forall_mem_cons.mpr ⟨ab_getf_ok (C := RX3) (T := TX3) (N := 3) (ci := 7) (k := 2) dX3_takeBackLatest_24 rfl ab_ic7 (by decide) ab_w1008, List.forall_mem_cons.mpr ⟨ab_iconst_ok dX3_takeBackLatest_27 (by decide), List.forall_mem_cons.mpr ⟨ab_isub_ok dX3_takeBackLatest_28, List.forall_mem_cons.mpr ⟨ab_putf_ok (C := RX3) (T := TX3) (N := 3) (ci := 7) (k := 2) (ty0 := tyX3) dX3_takeBackLatest_29 rfl ab_ic7 tyX3_ok nmX3 (by decide) ab_w1008 rfl (Or.inl rfl), List.forall_mem_cons.mpr ⟨ab_aload_n_ok dX3_takeBackLatest_32 rfl, List.forall_mem_cons.mpr ⟨ab_aload_n_ok dX3_takeBackLatest_33 rfl, List.forall_mem_cons.mpr ⟨ab_getf_ok (C := RX3) (T := TX3) (N := 3) (ci := 7) (k := 0) dX3_takeBackLatest_34 rfl ab_ic7 (by decide) ab_w701, List.forall_mem_cons.mpr ⟨ab_aload_n_ok dX3_takeBackLatest_37 rfl, List.forall_mem_cons.mpr ⟨ab_getf_ok (C := RX3) (T := TX3) (N := 3) (ci := 7) (k := 1) dX3_takeBackLatest_38 rfl ab_ic7 (by decide) ab_w1026, List.forall_mem_cons.mpr ⟨ab_aald_ok dX3_takeBackLatest_41 rfl, List.forall_mem_cons.mpr ⟨ab_callV_ok' (G' := ab_g94) (C := RX5) (T := TX5) (N := 10) dX3_takeBackLatest_42 ab_m94 rfl rfl (by decide) (by decide) (ab_l4 ab_w1027 ab_w374 ab_w375 ab_w328) ab_w376 rfl ⟨by decide, by decide, by decide +kernel⟩, List.forall_mem_cons.mpr ⟨ab_vret_ok dX3_takeBackLatest_45 rfl, fun _ h => absurd h List.not_mem_nil⟩⟩⟩⟩⟩⟩⟩⟩⟩⟩⟩⟩⟩⟩⟩⟩⟩⟩⟩⟩⟩⟩⟩⟩⟩
theorem ab_k179 (K : ab_Kt) : ∀ pc, ab_OK K ab_mt ab_g179 pc (ab_c179 pc) := ab_lk2_ok _ (List.forall_mem_cons.mpr ⟨ab_k179_0 K, fun _ h => absurd h List.not_mem_nil⟩)
theorem dX5_countSignatures_0 : decode cX5_countSignatures 0 = .ok (.iconst 0, 1) := by decide +kernel
theorem dX5_countSignatures_1 : decode cX5_countSignatures 1 = .ok (.istore_n 1, 1) := by decide +kernel
theorem dX5_countSignatures_2 : decode cX5_countSignatures 2 = .ok (.iconst 0, 1) := by decide +kernel
theorem dX5_countSignatures_3 : decode cX5_countSignatures 3 = .ok (.istore_n 2, 1) := by decide +kernel
theorem dX5_countSignatures_4 : decode cX5_countSignatures 4 = .ok (.iload_n 2, 1) := by decide +kernel
theorem dX5_countSignatures_5 : decode cX5_countSignatures 5 = .ok (.aload_n 0, 1) := by decide +kernel
theorem dX5_countSignatures_6 : decode cX5_countSignatures 6 = .ok (.getfield 39, 3) := by decide +kernel
theorem dX5_countSignatures_9 : decode cX5_countSignatures 9 = .ok (.if_icmp .ge 21, 3) := by decide +kernel
theorem dX5_countSignatures_12 : decode cX5_countSignatures 12 = .ok (.iload_n 1, 1) := by decide +kernel
theorem dX5_countSignatures_13 : decode cX5_countSignatures 13 = .ok (.aload_n 0, 1) := by decide +kernel
theorem dX5_countSignatures_14 : decode cX5_countSignatures 14 = .ok (.getfield 11, 3) := by decide +kernel
theorem dX5_countSignatures_17 : decode cX5_countSignatures 17 = .ok (.iload_n 2, 1) := by decide +kernel
theorem dX5_countSignatures_18 : decode cX5_countSignatures 18 = .ok (.aaload, 1) := by decide +kernel
theorem dX5_countSignatures_19 : decode cX5_countSignatures 19 = .ok (.getfield 60, 3) := by decide +kernel
theorem dX5_countSignatures_22 : decode cX5_countSignatures 22 = .ok (.iadd, 1) := by decide +kernel
theorem dX5_countSignatures_23 : decode cX5_countSignatures 23 = .ok (.istore_n 1, 1) := by decide +kernel
theorem dX5_countSignatures_24 : decode cX5_countSignatures 24 = .ok (.iinc 2 1, 3) := by decide +kernel
theorem dX5_countSignatures_27 : decode cX5_countSignatures 27 = .ok (.goto (-23), 3) := by decide +kernel
theorem dX5_countSignatures_30 : decode cX5_countSignatures 30 = .ok (.iload_n 1, 1) := by decide +kernel
theorem dX5_countSignatures_31 : decode cX5_countSignatures 31 = .ok (.ireturn, 1) := by decide +kernel
theorem ab_k180_0 (K : ab_Kt) : ∀ q ∈ ab_l180_0, ab_OK K ab_mt ab_g180 q.1 q.2 := by
  unfold ab_l180_0
  exact List.forall_mem_cons.mpr ⟨ab_iconst_ok dX5_countSignatures_0 (by decide), List.forall_mem_cons.mpr ⟨ab_istore_n_ok dX5_countSignatures_1 rfl, List.forall_mem_cons.mpr ⟨ab_iconst_ok dX5_countSignatures_2 (by decide), List.forall_mem_cons.mpr ⟨ab_istore_n_ok dX5_countSignatures_3 rfl, List.forall_mem_cons.mpr ⟨ab_iload_n_ok dX5_countSignatures_4 rfl, List.forall_mem_cons.mpr ⟨ab_aload_n_ok dX5_countSignatures_5 rfl, List.forall_mem_cons.mpr ⟨ab_getf_ok (C := RX5) (T := TX5) (N := 10) (ci := 9) (k := 2) dX5_countSignatures_6 rfl ab_ic9 (by decide) ab_w739, List.forall_mem_cons.mpr ⟨ab_icmp_ge_ok dX5_countSignatures_9 (by decide), List.forall_mem_cons.mpr ⟨ab_iload_n_ok dX5_countSignatures_12 rfl, List.forall_mem_cons.mpr ⟨ab_aload_n_ok dX5_countSignatures_13 rfl, List.forall_mem_cons.mpr ⟨ab_getf_ok (C := RX5) (T := TX5) (N := 10) (ci := 9) (k := 0) dX5_countSignatures_14 rfl ab_ic9 (by decide) ab_w705, List.forall_mem_cons.mpr ⟨ab_iload_n_ok dX5_countSignatures_17 rfl, List.forall_mem_cons.mpr ⟨ab_aald_ok dX5_countSignatures_18 rfl, List.forall_mem_cons.mpr ⟨ab_getf_ok (C := RX1) (T := TX1) (N := 13) (ci := 5) (k := 3) dX5_countSignatures_19 rfl ab_ic5 (by decide) ab_w1028, List.forall_mem_cons.mpr ⟨ab_iadd_ok dX5_countSignatures_22, List.forall_mem_cons.mpr ⟨ab_istore_n_ok dX5_countSignatures_23 rfl, List.forall_mem_cons.mpr ⟨ab_iinc_ok dX5_countSignatures_24 (by decide), List.forall_mem_cons.mpr ⟨ab_goto_ok dX5_countSignatures_27 (by decide), List.forall_mem_cons.mpr ⟨ab_iload_n_ok dX5_countSignatures_30 rfl, List.forall_mem_cons.mpr ⟨ab_iret_ok dX5_countSignatures_31 rfl, fun _ h => absurd h List.not_mem_nil⟩⟩⟩⟩⟩⟩⟩⟩⟩⟩⟩⟩⟩⟩⟩⟩⟩⟩⟩⟩
theorem ab_k180 (K : ab_Kt) : ∀ pc, ab_OK K ab_mt ab_g180 pc (ab_c180 pc) := ab_lk2_ok _ (List.forall_mem_cons.mpr ⟨ab_k180_0 K, fun _ h => absurd h List.not_mem_nil⟩)
theorem dX5_countAtStage_0 : decode cX5_countAtStage 0 = .ok (.iconst 0, 1) := by decide +kernel
theorem dX5_countAtStage_1 : decode cX5_countAtStage 1 = .ok (.istore_n 2, 1) := by decide +kernel
theorem dX5_countAtStage_2 : decode cX5_countAtStage 2 = .ok (.iconst 0, 1) := by decide +kernel
theorem dX5_countAtStage_3 : decode cX5_countAtStage 3 = .ok (.istore_n 3, 1) := by decide +kernel
theorem dX5_countAtStage_4 : decode cX5_countAtStage 4 = .ok (.iload_n 3, 1) := by decide +kernel
theorem dX5_countAtStage_5 : decode cX5_countAtStage 5 = .ok (.aload_n 0, 1) := by decide +kernel
theorem dX5_countAtStage_6 : decode cX5_countAtStage 6 = .ok (.getfield 39, 3) := by decide +kernel
theorem dX5_countAtStage_9 : decode cX5_countAtStage 9 = .ok (.if_icmp .ge 25, 3) := by decide +kernel
theorem dX5_countAtStage_12 : decode cX5_countAtStage 12 = .ok (.aload_n 0, 1) := by decide +kernel
theorem dX5_countAtStage_13 : decode cX5_countAtStage 13 = .ok (.getfield 11, 3) := by decide +kernel
theorem dX5_countAtStage_16 : decode cX5_countAtStage 16 = .ok (.iload_n 3, 1) := by decide +kernel
theorem dX5_countAtStage_17 : decode cX5_countAtStage 17 = .ok (.aaload, 1) := by decide +kernel
theorem dX5_countAtStage_18 : decode cX5_countAtStage 18 = .ok (.getfield 57, 3) := by decide +kernel
theorem dX5_countAtStage_21 : decode cX5_countAtStage 21 = .ok (.iload_n 1, 1) := by decide +kernel
theorem dX5_countAtStage_22 : decode cX5_countAtStage 22 = .ok (.if_icmp .ne 6, 3) := by decide +kernel
theorem dX5_countAtStage_25 : decode cX5_countAtStage 25 = .ok (.iinc 2 1, 3) := by decide +kernel
theorem dX5_countAtStage_28 : decode cX5_countAtStage 28 = .ok (.iinc 3 1, 3) := by decide +kernel
theorem dX5_countAtStage_31 : decode cX5_countAtStage 31 = .ok (.goto (-27), 3) := by decide +kernel
theorem dX5_countAtStage_34 : decode cX5_countAtStage 34 = .ok (.iload_n 2, 1) := by decide +kernel
theorem dX5_countAtStage_35 : decode cX5_countAtStage 35 = .ok (.ireturn, 1) := by decide +kernel
theorem ab_k181_0 (K : ab_Kt) : ∀ q ∈ ab_l181_0, ab_OK K ab_mt ab_g181 q.1 q.2 := by
  unfold ab_l181_0
  exact List.forall_mem_cons.mpr ⟨ab_iconst_ok dX5_countAtStage_0 (by decide), List.forall_mem_cons.mpr ⟨ab_istore_n_ok dX5_countAtStage_1 rfl, List.forall_mem_cons.mpr ⟨ab_iconst_ok dX5_countAtStage_2 (by decide), List.forall_mem_cons.mpr ⟨ab_istore_n_ok dX5_countAtStage_3 rfl, List.forall_mem_cons.mpr ⟨ab_iload_n_ok dX5_countAtStage_4 rfl, List.forall_mem_cons.mpr ⟨ab_aload_n_ok dX5_countAtStage_5 rfl, List.forall_mem_cons.mpr ⟨ab_getf_ok (C := RX5) (T := TX5) (N := 10) (ci := 9) (k := 2) dX5_countAtStage_6 rfl ab_ic9 (by decide) ab_w739, List.forall_mem_cons.mpr ⟨ab_icmp_ge_ok dX5_countAtStage_9 (by decide), List.forall_mem_cons.mpr ⟨ab_aload_n_ok dX5_countAtStage_12 rfl, List.forall_mem_cons.mpr ⟨ab_getf_ok (C := RX5) (T := TX5) (N := 10) (ci := 9) (k := 0) dX5_countAtStage_13 rfl ab_ic9 (by decide) ab_w705, List.forall_mem_cons.mpr ⟨ab_iload_n_ok dX5_countAtStage_16 rfl, List.forall_mem_cons.mpr ⟨ab_aald_ok dX5_countAtStage_17 rfl, List.forall_mem_cons.mpr ⟨ab_getf_ok (C := RX1) (T := TX1) (N := 13) (ci := 5) (k := 2) dX5_countAtStage_18 rfl ab_ic5 (by decide) ab_w1029, List.forall_mem_cons.mpr ⟨ab_iload_n_ok dX5_countAtStage_21 rfl, List.forall_mem_cons.mpr ⟨ab_icmp_ne_ok dX5_countAtStage_22 (by decide), List.forall_mem_cons.mpr ⟨ab_iinc_ok dX5_countAtStage_25 (by decide), List.forall_mem_cons.mpr ⟨ab_iinc_ok dX5_countAtStage_28 (by decide), List.forall_mem_cons.mpr ⟨ab_goto_ok dX5_countAtStage_31 (by decide), List.forall_mem_cons.mpr ⟨ab_iload_n_ok dX5_countAtStage_34 rfl, List.forall_mem_cons.mpr ⟨ab_iret_ok dX5_countAtStage_35 rfl, fun _ h => absurd h List.not_mem_nil⟩⟩⟩⟩⟩⟩⟩⟩⟩⟩⟩⟩⟩⟩⟩⟩⟩⟩⟩⟩
theorem ab_k181 (K : ab_Kt) : ∀ pc, ab_OK K ab_mt ab_g181 pc (ab_c181 pc) := ab_lk2_ok _ (List.forall_mem_cons.mpr ⟨ab_k181_0 K, fun _ h => absurd h List.not_mem_nil⟩)
theorem dX6_existing_0 : decode cX6_existing 0 = .ok (.aload_n 0, 1) := by decide +kernel
theorem dX6_existing_1 : decode cX6_existing 1 = .ok (.getfield 20, 3) := by decide +kernel
theorem dX6_existing_4 : decode cX6_existing 4 = .ok (.iload_n 1, 1) := by decide +kernel
theorem dX6_existing_5 : decode cX6_existing 5 = .ok (.invokevirtual 342, 3) := by decide +kernel
theorem dX6_existing_8 : decode cX6_existing 8 = .ok (.ifCond .ne 11, 3) := by decide +kernel
theorem dX6_existing_11 : decode cX6_existing 11 = .ok (.new 283, 3) := by decide +kernel
theorem dX6_existing_14 : decode cX6_existing 14 = .ok (.dup, 1) := by decide +kernel
theorem dX6_existing_15 : decode cX6_existing 15 = .ok (.invokespecial 285, 3) := by decide +kernel
theorem dX6_existing_18 : decode cX6_existing 18 = .ok (.athrow, 1) := by decide +kernel
theorem dX6_existing_19 : decode cX6_existing 19 = .ok (.aload_n 0, 1) := by decide +kernel
theorem dX6_existing_20 : decode cX6_existing 20 = .ok (.getfield 20, 3) := by decide +kernel
theorem dX6_existing_23 : decode cX6_existing 23 = .ok (.getfield 216, 3) := by decide +kernel
theorem dX6_existing_26 : decode cX6_existing 26 = .ok (.iload_n 1, 1) := by decide +kernel
theorem dX6_existing_27 : decode cX6_existing 27 = .ok (.aaload, 1) := by decide +kernel
theorem dX6_existing_28 : decode cX6_existing 28 = .ok (.areturn, 1) := by decide +kernel
theorem ab_k182_0 (K : ab_Kt) : ∀ q ∈ ab_l182_0, ab_OK K ab_mt ab_g182 q.1 q.2 := by
  unfold ab_l182_0
  exact List.forall_mem_cons.mpr ⟨ab_aload_n_ok dX6_existing_0 rfl, List.forall_mem_cons.mpr ⟨ab_getf_ok (C := RX6) (T := TX6) (N := 9) (ci := 10) (k := 1) dX6_existing_1 rfl ab_ic10 (by decide) ab_w318, List.forall_mem_cons.mpr ⟨ab_iload_n_ok dX6_existing_4 rfl, List.forall_mem_cons.mpr ⟨ab_callV_ok' (G' := ab_g230) (C := RX5) (T := TX5) (N := 10) dX6_existing_5 ab_m230 rfl rfl (by decide) (by decide) (ab_l4 ab_w1030 ab_w1031 ab_w1032 ab_w328) ab_w1033 rfl ⟨by decide, by decide, by decide +kernel⟩, List.forall_mem_cons.mpr ⟨ab_if_ne_ok dX6_existing_8 (by decide), List.forall_mem_cons.mpr ⟨ab_thr_ok (ik := 283) (ic := 285) (by decide +kernel) (ab_l2 ab_w786 ab_w787) ab_th_3 (by decide +kernel) dX6_existing_11 dX6_existing_14 dX6_existing_15 dX6_existing_18 rfl, List.forall_mem_cons.mpr ⟨ab_aload_n_ok dX6_existing_19 rfl, List.forall_mem_cons.mpr ⟨ab_getf_ok (C := RX6) (T := TX6) (N := 9) (ci := 10) (k := 1) dX6_existing_20 rfl ab_ic10 (by decide) ab_w318, List.forall_mem_cons.mpr ⟨ab_getf_ok (C := RX5) (T := TX5) (N := 10) (ci := 9) (k := 0) dX6_existing_23 rfl ab_ic9 (by decide) ab_w859, List.forall_mem_cons.mpr ⟨ab_iload_n_ok dX6_existing_26 rfl, List.forall_mem_cons.mpr ⟨ab_aald_ok dX6_existing_27 rfl, List.forall_mem_cons.mpr ⟨ab_aret_ok dX6_existing_28 (Or.inl ⟨_, rfl⟩) rfl, fun _ h => absurd h List.not_mem_nil⟩⟩⟩⟩⟩⟩⟩⟩⟩⟩⟩⟩
theorem ab_k182 (K : ab_Kt) : ∀ pc, ab_OK K ab_mt ab_g182 pc (ab_c182 pc) := ab_lk2_ok _ (List.forall_mem_cons.mpr ⟨ab_k182_0 K, fun _ h => absurd h List.not_mem_nil⟩)
theorem dX1_positions_0 : decode cX1_positions 0 = .ok (.aload_n 0, 1) := by decide +kernel
theorem dX1_positions_1 : decode cX1_positions 1 = .ok (.aload_n 0, 1) := by decide +kernel
theorem dX1_positions_2 : decode cX1_positions 2 = .ok (.getfield 42, 3) := by decide +kernel
theorem dX1_positions_5 : decode cX1_positions 5 = .ok (.invokevirtual 71, 3) := by decide +kernel
theorem dX1_positions_8 : decode cX1_positions 8 = .ok (.ireturn, 1) := by decide +kernel
theorem ab_k183_0 (K : ab_Kt) : ∀ q ∈ ab_l183_0, ab_OK K ab_mt ab_g183 q.1 q.2 := by
  unfold ab_l183_0
  exact List.forall_mem_cons.mpr ⟨ab_aload_n_ok dX1_positions_0 rfl, List.forall_mem_cons.mpr ⟨ab_aload_n_ok dX1_positions_1 rfl, List.forall_mem_cons.mpr ⟨ab_getf_ok (C := RX1) (T := TX1) (N := 13) (ci := 5) (k := 3) dX1_positions_2 rfl ab_ic5 (by decide) ab_w1012, List.forall_mem_cons.mpr ⟨ab_callV_ok' (G' := ab_g215) (C := RX1) (T := TX1) (N := 13) dX1_positions_5 ab_m215 rfl rfl (by decide) (by decide) (ab_l4 ab_w1034 ab_w932 ab_w933 ab_w711) ab_w934 rfl ⟨by decide, by decide, by decide +kernel⟩, List.forall_mem_cons.mpr ⟨ab_iret_ok dX1_positions_8 rfl, fun _ h => absurd h List.not_mem_nil⟩⟩⟩⟩⟩
theorem ab_k183 (K : ab_Kt) : ∀ pc, ab_OK K ab_mt ab_g183 pc (ab_c183 pc) := ab_lk2_ok _ (List.forall_mem_cons.mpr ⟨ab_k183_0 K, fun _ h => absurd h List.not_mem_nil⟩)
theorem dX1_countWrong_0 : decode cX1_countWrong 0 = .ok (.iconst 0, 1) := by decide +kernel
theorem dX1_countWrong_1 : decode cX1_countWrong 1 = .ok (.istore_n 1, 1) := by decide +kernel
theorem dX1_countWrong_2 : decode cX1_countWrong 2 = .ok (.iconst 0, 1) := by decide +kernel
theorem dX1_countWrong_3 : decode cX1_countWrong 3 = .ok (.istore_n 2, 1) := by decide +kernel
theorem dX1_countWrong_4 : decode cX1_countWrong 4 = .ok (.iconst 0, 1) := by decide +kernel
theorem dX1_countWrong_5 : decode cX1_countWrong 5 = .ok (.istore_n 3, 1) := by decide +kernel
theorem dX1_countWrong_6 : decode cX1_countWrong 6 = .ok (.iload_n 3, 1) := by decide +kernel
theorem dX1_countWrong_7 : decode cX1_countWrong 7 = .ok (.aload_n 0, 1) := by decide +kernel
theorem dX1_countWrong_8 : decode cX1_countWrong 8 = .ok (.getfield 42, 3) := by decide +kernel
theorem dX1_countWrong_11 : decode cX1_countWrong 11 = .ok (.if_icmp .ge 53, 3) := by decide +kernel
theorem dX1_countWrong_14 : decode cX1_countWrong 14 = .ok (.aload_n 0, 1) := by decide +kernel
theorem dX1_countWrong_15 : decode cX1_countWrong 15 = .ok (.iload_n 3, 1) := by decide +kernel
theorem dX1_countWrong_16 : decode cX1_countWrong 16 = .ok (.invokevirtual 68, 3) := by decide +kernel
theorem dX1_countWrong_19 : decode cX1_countWrong 19 = .ok (.istore 4, 2) := by decide +kernel
theorem dX1_countWrong_21 : decode cX1_countWrong 21 = .ok (.iconst 0, 1) := by decide +kernel
theorem dX1_countWrong_22 : decode cX1_countWrong 22 = .ok (.istore 5, 2) := by decide +kernel
theorem dX1_countWrong_24 : decode cX1_countWrong 24 = .ok (.iload 5, 2) := by decide +kernel
theorem dX1_countWrong_26 : decode cX1_countWrong 26 = .ok (.iload 4, 2) := by decide +kernel
theorem dX1_countWrong_28 : decode cX1_countWrong 28 = .ok (.if_icmp .ge 30, 3) := by decide +kernel
theorem dX1_countWrong_31 : decode cX1_countWrong 31 = .ok (.aload_n 0, 1) := by decide +kernel
theorem dX1_countWrong_32 : decode cX1_countWrong 32 = .ok (.iload_n 2, 1) := by decide +kernel
theorem dX1_countWrong_33 : decode cX1_countWrong 33 = .ok (.aload_n 0, 1) := by decide +kernel
theorem dX1_countWrong_34 : decode cX1_countWrong 34 = .ok (.iload_n 3, 1) := by decide +kernel
theorem dX1_countWrong_35 : decode cX1_countWrong 35 = .ok (.iload 5, 2) := by decide +kernel
theorem dX1_countWrong_37 : decode cX1_countWrong 37 = .ok (.invokevirtual 74, 3) := by decide +kernel
theorem dX1_countWrong_40 : decode cX1_countWrong 40 = .ok (.invokevirtual 78, 3) := by decide +kernel
theorem dX1_countWrong_43 : decode cX1_countWrong 43 = .ok (.ifCond .ne 6, 3) := by decide +kernel
theorem dX1_countWrong_46 : decode cX1_countWrong 46 = .ok (.iinc 1 1, 3) := by decide +kernel
theorem dX1_countWrong_49 : decode cX1_countWrong 49 = .ok (.iinc 2 1, 3) := by decide +kernel
theorem dX1_countWrong_52 : decode cX1_countWrong 52 = .ok (.iinc 5 1, 3) := by decide +kernel
theorem dX1_countWrong_55 : decode cX1_countWrong 55 = .ok (.goto (-31), 3) := by decide +kernel
theorem dX1_countWrong_58 : decode cX1_countWrong 58 = .ok (.iinc 3 1, 3) := by decide +kernel
theorem dX1_countWrong_61 : decode cX1_countWrong 61 = .ok (.goto (-55), 3) := by decide +kernel
theorem dX1_countWrong_64 : decode cX1_countWrong 64 = .ok (.iload_n 1, 1) := by decide +kernel
theorem dX1_countWrong_65 : decode cX1_countWrong 65 = .ok (.ireturn, 1) := by decide +kernel
theorem ab_k184_0 (K : ab_Kt) : ∀ q ∈ ab_l184_0, ab_OK K ab_mt ab_g184 q.1 q.2 := by
  unfold ab_l184_0
  exact List.forall_mem_cons.mpr ⟨ab_iconst_ok dX1_countWrong_0 (by decide), List.forall_mem_cons.mpr ⟨ab_istore_n_ok dX1_countWrong_1 rfl, List.forall_mem_cons.mpr ⟨ab_iconst_ok dX1_countWrong_2 (by decide), List.forall_mem_cons.mpr ⟨ab_istore_n_ok dX1_countWrong_3 rfl, List.forall_mem_cons.mpr ⟨ab_iconst_ok dX1_countWrong_4 (by decide), List.forall_mem_cons.mpr ⟨ab_istore_n_ok dX1_countWrong_5 rfl, List.forall_mem_cons.mpr ⟨ab_iload_n_ok dX1_countWrong_6 rfl, List.forall_mem_cons.mpr ⟨ab_aload_n_ok dX1_countWrong_7 rfl, List.forall_mem_cons.mpr ⟨ab_getf_ok (C := RX1) (T := TX1) (N := 13) (ci := 5) (k := 3) dX1_countWrong_8 rfl ab_ic5 (by decide) ab_w1012, List.forall_mem_cons.mpr ⟨ab_icmp_ge_ok dX1_countWrong_11 (by decide), List.forall_mem_cons.mpr ⟨ab_aload_n_ok dX1_countWrong_14 rfl, List.forall_mem_cons.mpr ⟨ab_iload_n_ok dX1_countWrong_15 rfl, List.forall_mem_cons.mpr ⟨ab_callV_ok' (G' := ab_g231) (C := RX1) (T := TX1) (N := 13) dX1_countWrong_16 ab_m231 rfl rfl (by decide) (by decide) (ab_l4 ab_w1035 ab_w1036 ab_w1037 ab_w711) ab_w1038 rfl ⟨by decide, by decide, by decide +kernel⟩, List.forall_mem_cons.mpr ⟨ab_istore_ok dX1_countWrong_19, List.forall_mem_cons.mpr ⟨ab_iconst_ok dX1_countWrong_21 (by decide), List.forall_mem_cons.mpr ⟨ab_istore_ok dX1_countWrong_22, List.forall_mem_cons.mpr ⟨ab_iload_ok dX1_countWrong_24, List.forall_mem_cons.mpr ⟨ab_iload_ok dX1_countWrong_26, List.forall_mem_cons.mpr ⟨ab_icmp_ge_ok dX1_countWrong_28 (by decide), List.forall_mem_cons.mpr ⟨ab_aload_n_ok dX1_countWrong_31 rfl, List.forall_mem_cons.mpr ⟨ab_iload_n_ok dX1_countWrong_32 rfl, List.forall_mem_cons.mpr ⟨ab_aload_n_ok dX1_countWrong_33 rfl, List.forall_mem_cons.mpr ⟨ab_iload_n_ok dX1_countWrong_34 rfl, List.forall_mem_cons.mpr ⟨ab_iload_ok dX1_countWrong_35, List.forall_mem_cons.mpr ⟨ab_callV_ok' (G' := ab_g232) (C := RX1) (T := TX1) (N := 13) dX1_countWrong_37 ab_m232 rfl rfl (by decide) (by decide) (ab_l4 ab_w1039 ab_w1040 ab_w1041 ab_w711) ab_w1042 rfl ⟨by decide, by decide, by decide +kernel⟩, List.forall_mem_cons.mpr ⟨ab_callV_ok' (G' := ab_g233) (C := RX1) (T := TX1) (N := 13) dX1_countWrong_40 ab_m233 rfl rfl (by decide) (by decide) (ab_l4 ab_w1043 ab_w1044 ab_w1045 ab_w711) ab_w1046 rfl ⟨by decide, by decide, by decide +kernel⟩, List.forall_mem_cons.mpr ⟨ab_if_ne_ok dX1_countWrong_43 (by decide), List.forall_mem_cons.mpr ⟨ab_iinc_ok dX1_countWrong_46 (by decide), List.forall_mem_cons.mpr ⟨ab_iinc_ok dX1_countWrong_49 (by decide), List.forall_mem_cons.mpr ⟨ab_iinc_ok dX1_countWrong_52 (by decide), List.forall_mem_cons.mpr ⟨ab_goto_ok dX1_countWrong_55 (by decide), List.forall_mem_cons.mpr ⟨ab_iinc_ok dX1_countWrong_58 (by decide), List.forall_mem_cons.mpr ⟨ab_goto_ok dX1_countWrong_61 (by decide), List.forall_mem_cons.mpr ⟨ab_iload_n_ok dX1_countWrong_64 rfl, List.forall_mem_cons.mpr ⟨ab_iret_ok dX1_countWrong_65 rfl, fun _ h => absurd h List.not_mem_nil⟩⟩⟩⟩⟩⟩⟩⟩⟩⟩⟩⟩⟩⟩⟩⟩⟩⟩⟩⟩⟩⟩⟩⟩⟩⟩⟩⟩⟩⟩⟩⟩⟩⟩⟩
theorem ab_k184 (K : ab_Kt) : ∀ pc, ab_OK K ab_mt ab_g184 pc (ab_c184 pc) := ab_lk2_ok _ (List.forall_mem_cons.mpr ⟨ab_k184_0 K, fun _ h => absurd h List.not_mem_nil⟩)
theorem dJ4_length_8abf5_0 : decode cJ4_length_8abf5 0 = .ok (.aload_n 0, 1) := by decide +kernel
theorem dJ4_length_8abf5_1 : decode cJ4_length_8abf5 1 = .ok (.invokespecial 343, 3) := by decide +kernel
theorem dJ4_length_8abf5_4 : decode cJ4_length_8abf5 4 = .ok (.ireturn, 1) := by decide +kernel
theorem ab_k185_0 (K : ab_Kt) : ∀ q ∈ ab_l185_0, ab_OK K ab_mt ab_g185 q.1 q.2 := by
  unfold ab_l185_0
  exact List.forall_mem_cons.mpr ⟨ab_aload_n_ok dJ4_length_8abf5_0 rfl, List.forall_mem_cons.mpr ⟨ab_callSU_ok' (G' := ab_g234) (C := RJ4) (T := TJ4) (N := 4) dJ4_length_8abf5_1 ab_m234 rfl rfl (by decide) (by decide) ab_w1047 (ab_l5 ab_w1048 ab_w1049 ab_w1050 ab_w1051 ab_w724) ⟨by decide, by decide +kernel⟩, List.forall_mem_cons.mpr ⟨ab_iret_ok dJ4_length_8abf5_4 rfl, fun _ h => absurd h List.not_mem_nil⟩⟩⟩
theorem ab_k185 (K : ab_Kt) : ∀ pc, ab_OK K ab_mt ab_g185 pc (ab_c185 pc) := ab_lk2_ok _ (List.forall_mem_cons.mpr ⟨ab_k185_0 K, fun _ h => absurd h List.not_mem_nil⟩)
theorem dJ4_charAt_5068e_0 : decode cJ4_charAt_5068e 0 = .ok (.aload_n 0, 1) := by decide +kernel
theorem dJ4_charAt_5068e_1 : decode cJ4_charAt_5068e 1 = .ok (.iload_n 1, 1) := by decide +kernel
theorem dJ4_charAt_5068e_2 : decode cJ4_charAt_5068e 2 = .ok (.invokespecial 329, 3) := by decide +kernel
theorem dJ4_charAt_5068e_5 : decode cJ4_charAt_5068e 5 = .ok (.ireturn, 1) := by decide +kernel
theorem ab_k186_0 (K : ab_Kt) : ∀ q ∈ ab_l186_0, ab_OK K ab_mt ab_g186 q.1 q.2 := by
  unfold ab_l186_0
  exact List.forall_mem_cons.mpr ⟨ab_aload_n_ok dJ4_charAt_5068e_0 rfl, List.forall_mem_cons.mpr ⟨ab_iload_n_ok dJ4_charAt_5068e_1 rfl, List.forall_mem_cons.mpr ⟨ab_callSU_ok' (G' := ab_g235) (C := RJ4) (T := TJ4) (N := 4) dJ4_charAt_5068e_2 ab_m235 rfl rfl (by decide) (by decide) ab_w1052 (ab_l5 ab_w1053 ab_w1054 ab_w1050 ab_w1055 ab_w724) ⟨by decide, by decide +kernel⟩, List.forall_mem_cons.mpr ⟨ab_cret_ok dJ4_charAt_5068e_5 rfl, fun _ h => absurd h List.not_mem_nil⟩⟩⟩⟩
theorem ab_k186 (K : ab_Kt) : ∀ pc, ab_OK K ab_mt ab_g186 pc (ab_c186 pc) := ab_lk2_ok _ (List.forall_mem_cons.mpr ⟨ab_k186_0 K, fun _ h => absurd h List.not_mem_nil⟩)
theorem dJ4_setLength_d00df_0 : decode cJ4_setLength_d00df 0 = .ok (.aload_n 0, 1) := by decide +kernel
theorem dJ4_setLength_d00df_1 : decode cJ4_setLength_d00df 1 = .ok (.iload_n 1, 1) := by decide +kernel
theorem dJ4_setLength_d00df_2 : decode cJ4_setLength_d00df 2 = .ok (.invokespecial 333, 3) := by decide +kernel
theorem dJ4_setLength_d00df_5 : decode cJ4_setLength_d00df 5 = .ok (.return_, 1) := by decide +kernel
theorem ab_k187_0 (K : ab_Kt) : ∀ q ∈ ab_l187_0, ab_OK K ab_mt ab_g187 q.1 q.2 := by
  unfold ab_l187_0
  exact List.forall_mem_cons.mpr ⟨ab_aload_n_ok dJ4_setLength_d00df_0 rfl, List.forall_mem_cons.mpr ⟨ab_iload_n_ok dJ4_setLength_d00df_1 rfl, List.forall_mem_cons.mpr ⟨ab_callSU_ok' (G' := ab_g236) (C := RJ4) (T := TJ4) (N := 4) dJ4_setLength_d00df_2 ab_m236 rfl rfl (by decide) (by decide) ab_w1056 (ab_l5 ab_w1057 ab_w1058 ab_w1050 ab_w1059 ab_w724) ⟨by decide, by decide +kernel⟩, List.forall_mem_cons.mpr ⟨ab_vret_ok dJ4_setLength_d00df_5 rfl, fun _ h => absurd h List.not_mem_nil⟩⟩⟩⟩
theorem ab_k187 (K : ab_Kt) : ∀ pc, ab_OK K ab_mt ab_g187 pc (ab_c187 pc) := ab_lk2_ok _ (List.forall_mem_cons.mpr ⟨ab_k187_0 K, fun _ h => absurd h List.not_mem_nil⟩)
theorem dJ4_append_bf812_0 : decode cJ4_append_bf812 0 = .ok (.aload_n 0, 1) := by decide +kernel
theorem dJ4_append_bf812_1 : decode cJ4_append_bf812 1 = .ok (.iload_n 1, 1) := by decide +kernel
theorem dJ4_append_bf812_2 : decode cJ4_append_bf812 2 = .ok (.invokespecial 53, 3) := by decide +kernel
theorem dJ4_append_bf812_5 : decode cJ4_append_bf812 5 = .ok (.pop, 1) := by decide +kernel
theorem dJ4_append_bf812_6 : decode cJ4_append_bf812 6 = .ok (.aload_n 0, 1) := by decide +kernel
theorem dJ4_append_bf812_7 : decode cJ4_append_bf812 7 = .ok (.areturn, 1) := by decide +kernel
theorem ab_k188_0 (K : ab_Kt) : ∀ q ∈ ab_l188_0, ab_OK K ab_mt ab_g188 q.1 q.2 := by
  unfold ab_l188_0
  exact List.forall_mem_cons.mpr ⟨ab_aload_n_ok dJ4_append_bf812_0 rfl, List.forall_mem_cons.mpr ⟨ab_iload_n_ok dJ4_append_bf812_1 rfl, List.forall_mem_cons.mpr ⟨ab_callSU_ok' (G' := ab_g237) (C := RJ4) (T := TJ4) (N := 4) dJ4_append_bf812_2 ab_m237 rfl rfl (by decide) (by decide) ab_w1060 (ab_l5 ab_w1061 ab_w1062 ab_w1050 ab_w1063 ab_w724) ⟨by decide, by decide +kernel⟩, List.forall_mem_cons.mpr ⟨ab_pop_ok dJ4_append_bf812_5, List.forall_mem_cons.mpr ⟨ab_aload_n_ok dJ4_append_bf812_6 rfl, List.forall_mem_cons.mpr ⟨ab_aret_ok dJ4_append_bf812_7 (Or.inl ⟨_, rfl⟩) rfl, fun _ h => absurd h List.not_mem_nil⟩⟩⟩⟩⟩⟩
theorem ab_k188 (K : ab_Kt) : ∀ pc, ab_OK K ab_mt ab_g188 pc (ab_c188 pc) := ab_lk2_ok _ (List.forall_mem_cons.mpr ⟨ab_k188_0 K, fun _ h => absurd h List.not_mem_nil⟩)
theorem dJ4_append_cf468_0 : decode cJ4_append_cf468 0 = .ok (.aload_n 0, 1) := by decide +kernel
theorem dJ4_append_cf468_1 : decode cJ4_append_cf468 1 = .ok (.iload_n 1, 1) := by decide +kernel
theorem dJ4_append_cf468_2 : decode cJ4_append_cf468 2 = .ok (.invokespecial 50, 3) := by decide +kernel
theorem dJ4_append_cf468_5 : decode cJ4_append_cf468 5 = .ok (.pop, 1) := by decide +kernel
theorem dJ4_append_cf468_6 : decode cJ4_append_cf468 6 = .ok (.aload_n 0, 1) := by decide +kernel
theorem dJ4_append_cf468_7 : decode cJ4_append_cf468 7 = .ok (.areturn, 1) := by decide +kernel
theorem ab_k189_0 (K : ab_Kt) : ∀ q ∈ ab_l189_0, ab_OK K ab_mt ab_g189 q.1 q.2 := by
  unfold ab_l189_0
  exact List.forall_mem_cons.mpr ⟨ab_aload_n_ok dJ4_append_cf468_0 rfl, List.forall_mem_cons.mpr ⟨ab_iload_n_ok dJ4_append_cf468_1 rfl, List.forall_mem_cons.mpr ⟨ab_callSU_ok' (G' := ab_g238) (C := RJ4) (T := TJ4) (N := 4) dJ4_append_cf468_2 ab_m238 rfl rfl (by decide) (by decide) ab_w1064 (ab_l5 ab_w1065 ab_w1066 ab_w1050 ab_w1067 ab_w724) ⟨by decide, by decide +kernel⟩, List.forall_mem_cons.mpr ⟨ab_pop_ok dJ4_append_cf468_5, List.forall_mem_cons.mpr ⟨ab_aload_n_ok dJ4_append_cf468_6 rfl, List.forall_mem_cons.mpr ⟨ab_aret_ok dJ4_append_cf468_7 (Or.inl ⟨_, rfl⟩) rfl, fun _ h => absurd h List.not_mem_nil⟩⟩⟩⟩⟩⟩
theorem ab_k189 (K : ab_Kt) : ∀ pc, ab_OK K ab_mt ab_g189 pc (ab_c189 pc) := ab_lk2_ok _ (List.forall_mem_cons.mpr ⟨ab_k189_0 K, fun _ h => absurd h List.not_mem_nil⟩)
theorem dX2_findFault_0 : decode cX2_findFault 0 = .ok (.aload_n 0, 1) := by decide +kernel
theorem dX2_findFault_1 : decode cX2_findFault 1 = .ok (.invokevirtual 26, 3) := by decide +kernel
theorem dX2_findFault_4 : decode cX2_findFault 4 = .ok (.aload_n 0, 1) := by decide +kernel
theorem dX2_findFault_5 : decode cX2_findFault 5 = .ok (.iconst 0, 1) := by decide +kernel
theorem dX2_findFault_6 : decode cX2_findFault 6 = .ok (.putfield 29, 3) := by decide +kernel
theorem dX2_findFault_9 : decode cX2_findFault 9 = .ok (.iconst 0, 1) := by decide +kernel
theorem dX2_findFault_10 : decode cX2_findFault 10 = .ok (.istore_n 1, 1) := by decide +kernel
theorem dX2_findFault_11 : decode cX2_findFault 11 = .ok (.iload_n 1, 1) := by decide +kernel
theorem dX2_findFault_12 : decode cX2_findFault 12 = .ok (.bipush 60, 2) := by decide +kernel
theorem dX2_findFault_14 : decode cX2_findFault 14 = .ok (.if_icmp .gt 58, 3) := by decide +kernel
theorem dX2_findFault_17 : decode cX2_findFault 17 = .ok (.aload_n 0, 1) := by decide +kernel
theorem dX2_findFault_18 : decode cX2_findFault 18 = .ok (.invokevirtual 32, 3) := by decide +kernel
theorem dX2_findFault_21 : decode cX2_findFault 21 = .ok (.ifCond .ne 8, 3) := by decide +kernel
theorem dX2_findFault_24 : decode cX2_findFault 24 = .ok (.aload_n 0, 1) := by decide +kernel
theorem dX2_findFault_25 : decode cX2_findFault 25 = .ok (.getfield 23, 3) := by decide +kernel
theorem dX2_findFault_28 : decode cX2_findFault 28 = .ok (.ireturn, 1) := by decide +kernel
theorem dX2_findFault_29 : decode cX2_findFault 29 = .ok (.aload_n 0, 1) := by decide +kernel
theorem dX2_findFault_30 : decode cX2_findFault 30 = .ok (.dup, 1) := by decide +kernel
theorem dX2_findFault_31 : decode cX2_findFault 31 = .ok (.getfield 29, 3) := by decide +kernel
theorem dX2_findFault_34 : decode cX2_findFault 34 = .ok (.iconst 1, 1) := by decide +kernel
theorem dX2_findFault_35 : decode cX2_findFault 35 = .ok (.iadd, 1) := by decide +kernel
theorem dX2_findFault_36 : decode cX2_findFault 36 = .ok (.putfield 29, 3) := by decide +kernel
theorem dX2_findFault_39 : decode cX2_findFault 39 = .ok (.aload_n 0, 1) := by decide +kernel
theorem dX2_findFault_40 : decode cX2_findFault 40 = .ok (.getfield 23, 3) := by decide +kernel
theorem dX2_findFault_43 : decode cX2_findFault 43 = .ok (.aload_n 0, 1) := by decide +kernel
theorem dX2_findFault_44 : decode cX2_findFault 44 = .ok (.getfield 19, 3) := by decide +kernel
theorem dX2_findFault_47 : decode cX2_findFault 47 = .ok (.if_icmp .lt 5, 3) := by decide +kernel
theorem dX2_findFault_50 : decode cX2_findFault 50 = .ok (.iconst (-1), 1) := by decide +kernel
theorem dX2_findFault_51 : decode cX2_findFault 51 = .ok (.ireturn, 1) := by decide +kernel
theorem dX2_findFault_52 : decode cX2_findFault 52 = .ok (.aload_n 0, 1) := by decide +kernel
theorem dX2_findFault_53 : decode cX2_findFault 53 = .ok (.bipush 59, 2) := by decide +kernel
theorem dX2_findFault_55 : decode cX2_findFault 55 = .ok (.invokevirtual 36, 3) := by decide +kernel
theorem dX2_findFault_58 : decode cX2_findFault 58 = .ok (.ifCond .ne 8, 3) := by decide +kernel
theorem dX2_findFault_61 : decode cX2_findFault 61 = .ok (.aload_n 0, 1) := by decide +kernel
theorem dX2_findFault_62 : decode cX2_findFault 62 = .ok (.getfield 23, 3) := by decide +kernel
theorem dX2_findFault_65 : decode cX2_findFault 65 = .ok (.ireturn, 1) := by decide +kernel
theorem dX2_findFault_66 : decode cX2_findFault 66 = .ok (.iinc 1 1, 3) := by decide +kernel
theorem dX2_findFault_69 : decode cX2_findFault 69 = .ok (.goto (-58), 3) := by decide +kernel
theorem dX2_findFault_72 : decode cX2_findFault 72 = .ok (.aload_n 0, 1) := by decide +kernel
theorem dX2_findFault_73 : decode cX2_findFault 73 = .ok (.getfield 23, 3) := by decide +kernel
theorem ab_k190_0 (K : ab_Kt) : ∀ q ∈ ab_l190_0, ab_OK K ab_mt ab_g190 q.1 q.2 := by
  unfold ab_l190_0
  exact List.forall_mem_cons.mpr ⟨ab_aload_n_ok dX2_findFault_0 rfl, List.forall_mem_cons.mpr ⟨ab_callV_ok' (G' := ab_g239) (C := RX2) (T := TX2) (N := 8) dX2_findFault_1 ab_m239 rfl rfl (by decide) (by decide) (ab_l4 ab_w1068 ab_w1069 ab_w1070 ab_w335) ab_w1071 rfl ⟨by decide, by decide, by decide +kernel⟩, List.forall_mem_cons.mpr ⟨ab_aload_n_ok dX2_findFault_4 rfl, List.forall_mem_cons.mpr ⟨ab_iconst_ok dX2_findFault_5 (by decide), List.forall_mem_cons.mpr ⟨ab_putf_ok (C := RX2) (T := TX2) (N := 8) (ci := 6) (k := 2) (ty0 := tyX2) dX2_findFault_6 rfl ab_ic6 tyX2_ok nmX2 (by decide) ab_w1072 rfl (Or.inl rfl), List.forall_mem_cons.mpr ⟨ab_iconst_ok dX2_findFault_9 (by decide), List.forall_mem_cons.mpr ⟨ab_istore_n_ok dX2_findFault_10 rfl, List.forall_mem_cons.mpr ⟨ab_iload_n_ok dX2_findFault_11 rfl, List.forall_mem_cons.mpr ⟨ab_bipush_ok dX2_findFault_12 (by decide), List.forall_mem_cons.mpr ⟨ab_icmp_gt_ok dX2_findFault_14 (by decide), List.forall_mem_cons.mpr ⟨ab_aload_n_ok dX2_findFault_17 rfl, List.forall_mem_cons.mpr ⟨ab_callV_ok' (G' := ab_g240) (C := RX2) (T := TX2) (N := 8) dX2_findFault_18 ab_m240 rfl rfl (by decide) (by decide) (ab_l4 ab_w1073 ab_w1074 ab_w1075 ab_w335) ab_w1076 rfl ⟨by decide, by decide, by decide +kernel⟩, List.forall_mem_cons.mpr ⟨ab_if_ne_ok dX2_findFault_21 (by decide), List.forall_mem_cons.mpr ⟨ab_aload_n_ok dX2_findFault_24 rfl, List.forall_mem_cons.mpr ⟨ab_getf_ok (C := RX2) (T := TX2) (N := 8) (ci := 6) (k := 3) dX2_findFault_25 rfl ab_ic6 (by decide) ab_w1077, List.forall_mem_cons.mpr ⟨ab_iret_ok dX2_findFault_28 rfl, List.forall_mem_cons.mpr ⟨ab_aload_n_ok dX2_findFault_29 rfl, List.forall_mem_cons.mpr ⟨ab_dup_ok dX2_findFault_30, List.forall_mem_cons.mpr ⟨ab_getf_ok (C := RX2) (T := TX2) (N := 8) (ci := 6) (k := 2) dX2_findFault_31 rfl ab_ic6 (by decide) ab_w1072, List.forall_mem_cons.mpr ⟨ab_iconst_ok dX2_findFault_34 (by decide), List.forall_mem_cons.mpr ⟨ab_iadd_ok dX2_findFault_35, List.forall_mem_cons.mpr ⟨ab_putf_ok (C := RX2) (T := TX2) (N := 8) (ci := 6) (k := 2) (ty0 := tyX2) dX2_findFault_36 rfl ab_ic6 tyX2_ok nmX2 (by decide) ab_w1072 rfl (Or.inl rfl), List.forall_mem_cons.mpr ⟨ab_aload_n_ok dX2_findFault_39 rfl, List.forall_mem_cons.mpr ⟨ab_getf_ok (C := RX2) (T := TX2) (N := 8) (ci := 6) (k := 3) dX2_findFault_40 rfl ab_ic6 (by decide) ab_w1077, List.forall_mem_cons.mpr ⟨ab_aload_n_ok dX2_findFault_43 rfl, List.forall_mem_cons.mpr ⟨ab_getf_ok (C := RX2) (T := TX2) (N := 8) (ci := 6) (k := 1) dX2_findFault_44 rfl ab_ic6 (by decide) ab_w1078, List.forall_mem_cons.mpr ⟨ab_icmp_lt_ok dX2_findFault_47 (by decide), List.forall_mem_cons.mpr ⟨ab_iconst_ok dX2_findFault_50 (by decide), List.forall_mem_cons.mpr ⟨ab_iret_ok dX2_findFault_51 rfl, List.forall_mem_cons.mpr ⟨ab_aload_n_ok dX2_findFault_52 rfl, List.forall_mem_cons.mpr ⟨ab_bipush_ok dX2_findFault_53 (by decide), List.forall_mem_cons.mpr ⟨ab_callV_ok' (G' := ab_g241) (C := RX2) (T := TX2) (N := 8) dX2_findFault_55 ab_m241 rfl rfl (by decide) (by decide) (ab_l4 ab_w1079 ab_w1080 ab_w1081 ab_w335) ab_w1082 rfl ⟨by decide, by decide, by decide +kernel⟩, List.forall_mem_cons.mpr ⟨ab_if_ne_ok dX2_findFault_58 (by decide), List.forall_mem_cons.mpr ⟨ab_aload_n_ok dX2_findFault_61 rfl, List.forall_mem_cons.mpr ⟨ab_getf_ok (C := RX2) (T := TX2) (N := 8) (ci := 6) (k := 3) dX2_findFault_62 rfl ab_ic6 (by decide) ab_w1077, List.forall_mem_cons.mpr ⟨ab_iret_ok dX2_findFault_65 rfl, List.forall_mem_cons.mpr ⟨ab_iinc_ok dX2_findFault_66 (by decide), List.forall_mem_cons.mpr ⟨ab_goto_ok dX2_findFault_69 (by decide), List.forall_mem_cons.mpr ⟨ab_aload_n_ok dX2_findFault_72 rfl, List.forall_mem_cons.mpr ⟨ab_getf_ok (C := RX2) (T := TX2) (N := 8) (ci := 6) (k := 3) dX2_findFault_73 rfl ab_ic6 (by decide) ab_w1077, fun _ h => absurd h List.not_mem_nil⟩⟩⟩⟩⟩⟩⟩⟩⟩⟩⟩⟩⟩⟩⟩⟩⟩⟩⟩⟩⟩⟩⟩⟩⟩⟩⟩⟩⟩⟩⟩⟩⟩⟩⟩⟩⟩⟩⟩⟩
theorem dX2_findFault_76 : decode cX2_findFault 76 = .ok (.ireturn, 1) := by decide +kernel
theorem ab_k190_1 (K : ab_Kt) : ∀ q ∈ ab_l190_1, ab_OK K ab_mt ab_g190 q.1 q.2 := by
  unfold ab_l190_1
  exact List.forall_mem_cons.mpr ⟨ab_iret_ok dX2_findFault_76 rfl, fun _ h => absurd h List.not_mem_nil⟩
theorem ab_k190 (K : ab_Kt) : ∀ pc, ab_OK K ab_mt ab_g190 pc (ab_c190 pc) := ab_lk2_ok _ (List.forall_mem_cons.mpr ⟨ab_k190_0 K, List.forall_mem_cons.mpr ⟨ab_k190_1 K, fun _ h => absurd h List.not_mem_nil⟩⟩)
theorem dX2_clear_0 : decode cX2_clear 0 = .ok (.aload_n 0, 1) := by decide +kernel
theorem dX2_clear_1 : decode cX2_clear 1 = .ok (.iconst 0, 1) := by decide +kernel
theorem dX2_clear_2 : decode cX2_clear 2 = .ok (.putfield 19, 3) := by decide +kernel
theorem dX2_clear_5 : decode cX2_clear 5 = .ok (.return_, 1) := by decide +kernel
theorem ab_k191_0 (K : ab_Kt) : ∀ q ∈ ab_l191_0, ab_OK K ab_mt ab_g191 q.1 q.2 := by
  unfold ab_l191_0
  exact List.forall_mem_cons.mpr ⟨ab_aload_n_ok dX2_clear_0 rfl, List.forall_mem_cons.mpr ⟨ab_iconst_ok dX2_clear_1 (by decide), List.forall_mem_cons.mpr ⟨ab_putf_ok (C := RX2) (T := TX2) (N := 8) (ci := 6) (k := 1) (ty0 := tyX2) dX2_clear_2 rfl ab_ic6 tyX2_ok nmX2 (by decide) ab_w1078 rfl (Or.inl rfl), List.forall_mem_cons.mpr ⟨ab_vret_ok dX2_clear_5 rfl, fun _ h => absurd h List.not_mem_nil⟩⟩⟩⟩
theorem ab_k191 (K : ab_Kt) : ∀ pc, ab_OK K ab_mt ab_g191 pc (ab_c191 pc) := ab_lk2_ok _ (List.forall_mem_cons.mpr ⟨ab_k191_0 K, fun _ h => absurd h List.not_mem_nil⟩)
theorem dX3_note_0 : decode cX3_note 0 = .ok (.aload_n 0, 1) := by decide +kernel
theorem dX3_note_1 : decode cX3_note 1 = .ok (.getfield 13, 3) := by decide +kernel
theorem dX3_note_4 : decode cX3_note 4 = .ok (.aload_n 0, 1) := by decide +kernel
theorem dX3_note_5 : decode cX3_note 5 = .ok (.getfield 18, 3) := by decide +kernel
theorem dX3_note_8 : decode cX3_note 8 = .ok (.aaload, 1) := by decide +kernel
theorem dX3_note_9 : decode cX3_note 9 = .ok (.aload_n 1, 1) := by decide +kernel
theorem dX3_note_10 : decode cX3_note 10 = .ok (.invokevirtual 22, 3) := by decide +kernel
theorem dX3_note_13 : decode cX3_note 13 = .ok (.return_, 1) := by decide +kernel
theorem ab_k192_0 (K : ab_Kt) : ∀ q ∈ ab_l192_0, ab_OK K ab_mt ab_g192 q.1 q.2 := by
  unfold ab_l192_0
  exact List.forall_mem_cons.mpr ⟨ab_aload_n_ok dX3_note_0 rfl, List.forall_mem_cons.mpr ⟨ab_getf_ok (C := RX3) (T := TX3) (N := 3) (ci := 7) (k := 0) dX3_note_1 rfl ab_ic7 (by decide) ab_w701, List.forall_mem_cons.mpr ⟨ab_aload_n_ok dX3_note_4 rfl, List.forall_mem_cons.mpr ⟨ab_getf_ok (C := RX3) (T := TX3) (N := 3) (ci := 7) (k := 1) dX3_note_5 rfl ab_ic7 (by decide) ab_w1026, List.forall_mem_cons.mpr ⟨ab_aald_ok dX3_note_8 rfl, List.forall_mem_cons.mpr ⟨ab_aload_n_ok dX3_note_9 rfl, List.forall_mem_cons.mpr ⟨ab_callV_ok' (G' := ab_g94) (C := RX5) (T := TX5) (N := 10) dX3_note_10 ab_m94 rfl rfl (by decide) (by decide) (ab_l4 ab_w1027 ab_w374 ab_w375 ab_w328) ab_w376 rfl ⟨by decide, by decide, by decide +kernel⟩, List.forall_mem_cons.mpr ⟨ab_vret_ok dX3_note_13 rfl, fun _ h => absurd h List.not_mem_nil⟩⟩⟩⟩⟩⟩⟩⟩
theorem ab_k192 (K : ab_Kt) : ∀ pc, ab_OK K ab_mt ab_g192 pc (ab_c192 pc) := ab_lk2_ok _ (List.forall_mem_cons.mpr ⟨ab_k192_0 K, fun _ h => absurd h List.not_mem_nil⟩)
theorem dX0_carryOut_0 : decode cX0_carryOut 0 = .ok (.aload_n 1, 1) := by decide +kernel
theorem dX0_carryOut_1 : decode cX0_carryOut 1 = .ok (.getfield 152, 3) := by decide +kernel
theorem dX0_carryOut_4 : decode cX0_carryOut 4 = .ok (.istore_n 2, 1) := by decide +kernel
theorem dX0_carryOut_5 : decode cX0_carryOut 5 = .ok (.iload_n 2, 1) := by decide +kernel
theorem dX0_carryOut_6 : decode cX0_carryOut 6 = .ok (.istore_n 3, 1) := by decide +kernel
theorem dX0_carryOut_7 : decode cX0_carryOut 7 = .ok (.aload_n 1, 1) := by decide +kernel
theorem dX0_carryOut_8 : decode cX0_carryOut 8 = .ok (.invokevirtual 157, 3) := by decide +kernel
theorem dX0_carryOut_11 : decode cX0_carryOut 11 = .ok (.iconst 0, 1) := by decide +kernel
theorem dX0_carryOut_12 : decode cX0_carryOut 12 = .ok (.istore 4, 2) := by decide +kernel
theorem dX0_carryOut_14 : decode cX0_carryOut 14 = .ok (.iload 4, 2) := by decide +kernel
theorem dX0_carryOut_16 : decode cX0_carryOut 16 = .ok (.iload_n 2, 1) := by decide +kernel
theorem dX0_carryOut_17 : decode cX0_carryOut 17 = .ok (.if_icmp .ge 30, 3) := by decide +kernel
theorem dX0_carryOut_20 : decode cX0_carryOut 20 = .ok (.iload_n 3, 1) := by decide +kernel
theorem dX0_carryOut_21 : decode cX0_carryOut 21 = .ok (.iconst (-1), 1) := by decide +kernel
theorem dX0_carryOut_22 : decode cX0_carryOut 22 = .ok (.if_icmp .eq 25, 3) := by decide +kernel
theorem dX0_carryOut_25 : decode cX0_carryOut 25 = .ok (.aload_n 1, 1) := by decide +kernel
theorem dX0_carryOut_26 : decode cX0_carryOut 26 = .ok (.invokevirtual 160, 3) := by decide +kernel
theorem dX0_carryOut_29 : decode cX0_carryOut 29 = .ok (.aload_n 0, 1) := by decide +kernel
theorem dX0_carryOut_30 : decode cX0_carryOut 30 = .ok (.iload 4, 2) := by decide +kernel
theorem dX0_carryOut_32 : decode cX0_carryOut 32 = .ok (.putfield 163, 3) := by decide +kernel
theorem dX0_carryOut_35 : decode cX0_carryOut 35 = .ok (.aload_n 0, 1) := by decide +kernel
theorem dX0_carryOut_36 : decode cX0_carryOut 36 = .ok (.aload_n 1, 1) := by decide +kernel
theorem dX0_carryOut_37 : decode cX0_carryOut 37 = .ok (.invokevirtual 166, 3) := by decide +kernel
theorem dX0_carryOut_40 : decode cX0_carryOut 40 = .ok (.istore_n 3, 1) := by decide +kernel
theorem dX0_carryOut_41 : decode cX0_carryOut 41 = .ok (.iinc 4 1, 3) := by decide +kernel
theorem dX0_carryOut_44 : decode cX0_carryOut 44 = .ok (.goto (-30), 3) := by decide +kernel
theorem dX0_carryOut_47 : decode cX0_carryOut 47 = .ok (.aload_n 0, 1) := by decide +kernel
theorem dX0_carryOut_48 : decode cX0_carryOut 48 = .ok (.iconst 0, 1) := by decide +kernel
theorem dX0_carryOut_49 : decode cX0_carryOut 49 = .ok (.putfield 163, 3) := by decide +kernel
theorem dX0_carryOut_52 : decode cX0_carryOut 52 = .ok (.iload_n 3, 1) := by decide +kernel
theorem dX0_carryOut_53 : decode cX0_carryOut 53 = .ok (.iconst (-1), 1) := by decide +kernel
theorem dX0_carryOut_54 : decode cX0_carryOut 54 = .ok (.if_icmp .ne 7, 3) := by decide +kernel
theorem dX0_carryOut_57 : decode cX0_carryOut 57 = .ok (.iconst (-1), 1) := by decide +kernel
theorem dX0_carryOut_58 : decode cX0_carryOut 58 = .ok (.goto 4, 3) := by decide +kernel
theorem dX0_carryOut_61 : decode cX0_carryOut 61 = .ok (.iload_n 2, 1) := by decide +kernel
theorem dX0_carryOut_62 : decode cX0_carryOut 62 = .ok (.ireturn, 1) := by decide +kernel
theorem ab_k193_0 (K : ab_Kt) : ∀ q ∈ ab_l193_0, ab_OK K ab_mt ab_g193 q.1 q.2 := by
  unfold ab_l193_0
  exact List.forall_mem_cons.mpr ⟨ab_aload_n_ok dX0_carryOut_0 rfl, List.forall_mem_cons.mpr ⟨ab_getf_ok (C := RX2) (T := TX2) (N := 8) (ci := 6) (k := 2) dX0_carryOut_1 rfl ab_ic6 (by decide) ab_w1083, List.forall_mem_cons.mpr ⟨ab_istore_n_ok dX0_carryOut_4 rfl, List.forall_mem_cons.mpr ⟨ab_iload_n_ok dX0_carryOut_5 rfl, List.forall_mem_cons.mpr ⟨ab_istore_n_ok dX0_carryOut_6 rfl, List.forall_mem_cons.mpr ⟨ab_aload_n_ok dX0_carryOut_7 rfl, List.forall_mem_cons.mpr ⟨ab_callV_ok' (G' := ab_g239) (C := RX2) (T := TX2) (N := 8) dX0_carryOut_8 ab_m239 rfl rfl (by decide) (by decide) (ab_l4 ab_w1084 ab_w1069 ab_w1070 ab_w335) ab_w1071 rfl ⟨by decide, by decide, by decide +kernel⟩, List.forall_mem_cons.mpr ⟨ab_iconst_ok dX0_carryOut_11 (by decide), List.forall_mem_cons.mpr ⟨ab_istore_ok dX0_carryOut_12, List.forall_mem_cons.mpr ⟨ab_iload_ok dX0_carryOut_14, List.forall_mem_cons.mpr ⟨ab_iload_n_ok dX0_carryOut_16 rfl, List.forall_mem_cons.mpr ⟨ab_icmp_ge_ok dX0_carryOut_17 (by decide), List.forall_mem_cons.mpr ⟨ab_iload_n_ok dX0_carryOut_20 rfl, List.forall_mem_cons.mpr ⟨ab_iconst_ok dX0_carryOut_21 (by decide), List.forall_mem_cons.mpr ⟨ab_icmp_eq_ok dX0_carryOut_22 (by decide), List.forall_mem_cons.mpr ⟨ab_aload_n_ok dX0_carryOut_25 rfl, List.forall_mem_cons.mpr ⟨ab_callV_ok' (G' := ab_g242) (C := RX2) (T := TX2) (N := 8) dX0_carryOut_26 ab_m242 rfl rfl (by decide) (by decide) (ab_l4 ab_w1085 ab_w1086 ab_w1087 ab_w335) ab_w1088 rfl ⟨by decide, by decide, by decide +kernel⟩, List.forall_mem_cons.mpr ⟨ab_aload_n_ok dX0_carryOut_29 rfl, List.forall_mem_cons.mpr ⟨ab_iload_ok dX0_carryOut_30, List.forall_mem_cons.mpr ⟨ab_putf_ok (C := RX0) (T := TX0) (N := 5) (ci := 4) (k := 4) (ty0 := tyX0) dX0_carryOut_32 rfl ab_ic4 tyX0_ok nmX0 (by decide) ab_w1089 rfl (Or.inl rfl), List.forall_mem_cons.mpr ⟨ab_aload_n_ok dX0_carryOut_35 rfl, List.forall_mem_cons.mpr ⟨ab_aload_n_ok dX0_carryOut_36 rfl, List.forall_mem_cons.mpr ⟨ab_callV_ok' (G' := ab_g243) (C := RX0) (T := TX0) (N := 5) dX0_carryOut_37 ab_m243 rfl rfl (by decide) (by decide) (ab_l4 ab_w1090 ab_w1091 ab_w1092 ab_w313) ab_w1093 rfl ⟨by decide, by decide, by decide +kernel⟩, List.forall_mem_cons.mpr ⟨ab_istore_n_ok dX0_carryOut_40 rfl, List.forall_mem_cons.mpr ⟨ab_iinc_ok dX0_carryOut_41 (by decide), List.forall_mem_cons.mpr ⟨ab_goto_ok dX0_carryOut_44 (by decide), List.forall_mem_cons.mpr ⟨ab_aload_n_ok dX0_carryOut_47 rfl, List.forall_mem_cons.mpr ⟨ab_iconst_ok dX0_carryOut_48 (by decide), List.forall_mem_cons.mpr ⟨ab_putf_ok (C := RX0) (T := TX0) (N := 5) (ci := 4) (k := 4) (ty0 := tyX0) dX0_carryOut_49 rfl ab_ic4 tyX0_ok nmX0 (by decide) ab_w1089 rfl (Or.inl rfl), List.forall_mem_cons.mpr ⟨ab_iload_n_ok dX0_carryOut_52 rfl, List.forall_mem_cons.mpr ⟨ab_iconst_ok dX0_carryOut_53 (by decide), List.forall_mem_cons.mpr ⟨ab_icmp_ne_ok dX0_carryOut_54 (by decide), List.forall_mem_cons.mpr ⟨ab_iconst_ok dX0_carryOut_57 (by decide), List.forall_mem_cons.mpr ⟨ab_goto_ok dX0_carryOut_58 (by decide), List.forall_mem_cons.mpr ⟨ab_iload_n_ok dX0_carryOut_61 rfl, List.forall_mem_cons.mpr ⟨ab_iret_ok dX0_carryOut_62 rfl, fun _ h => absurd h List.not_mem_nil⟩⟩⟩⟩⟩⟩⟩⟩⟩⟩⟩⟩⟩⟩⟩⟩⟩⟩⟩⟩⟩⟩⟩⟩⟩⟩⟩⟩⟩⟩⟩⟩⟩⟩⟩⟩
theorem ab_k193 (K : ab_Kt) : ∀ pc, ab_OK K ab_mt ab_g193 pc (ab_c193 pc) := ab_lk2_ok _ (List.forall_mem_cons.mpr ⟨ab_k193_0 K, fun _ h => absurd h List.not_mem_nil⟩)
theorem dX3_takeBackNoted_0 : decode cX3_takeBackNoted 0 = .ok (.aload_n 1, 1) := by decide +kernel
theorem dX3_takeBackNoted_1 : decode cX3_takeBackNoted 1 = .ok (.aload_n 0, 1) := by decide +kernel
theorem dX3_takeBackNoted_2 : decode cX3_takeBackNoted 2 = .ok (.getfield 13, 3) := by decide +kernel
theorem dX3_takeBackNoted_5 : decode cX3_takeBackNoted 5 = .ok (.aload_n 0, 1) := by decide +kernel
theorem dX3_takeBackNoted_6 : decode cX3_takeBackNoted 6 = .ok (.getfield 18, 3) := by decide +kernel
theorem dX3_takeBackNoted_9 : decode cX3_takeBackNoted 9 = .ok (.aaload, 1) := by decide +kernel
theorem dX3_takeBackNoted_10 : decode cX3_takeBackNoted 10 = .ok (.invokevirtual 22, 3) := by decide +kernel
theorem dX3_takeBackNoted_13 : decode cX3_takeBackNoted 13 = .ok (.return_, 1) := by decide +kernel
theorem ab_k194_0 (K : ab_Kt) : ∀ q ∈ ab_l194_0, ab_OK K ab_mt ab_g194 q.1 q.2 := by
  unfold ab_l194_0
  exact List.forall_mem_cons.mpr ⟨ab_aload_n_ok dX3_takeBackNoted_0 rfl, List.forall_mem_cons.mpr ⟨ab_aload_n_ok dX3_takeBackNoted_1 rfl, List.forall_mem_cons.mpr ⟨ab_getf_ok (C := RX3) (T := TX3) (N := 3) (ci := 7) (k := 0) dX3_takeBackNoted_2 rfl ab_ic7 (by decide) ab_w701, List.forall_mem_cons.mpr ⟨ab_aload_n_ok dX3_takeBackNoted_5 rfl, List.forall_mem_cons.mpr ⟨ab_getf_ok (C := RX3) (T := TX3) (N := 3) (ci := 7) (k := 1) dX3_takeBackNoted_6 rfl ab_ic7 (by decide) ab_w1026, List.forall_mem_cons.mpr ⟨ab_aald_ok dX3_takeBackNoted_9 rfl, List.forall_mem_cons.mpr ⟨ab_callV_ok' (G' := ab_g94) (C := RX5) (T := TX5) (N := 10) dX3_takeBackNoted_10 ab_m94 rfl rfl (by decide) (by decide) (ab_l4 ab_w1027 ab_w374 ab_w375 ab_w328) ab_w376 rfl ⟨by decide, by decide, by decide +kernel⟩, List.forall_mem_cons.mpr ⟨ab_vret_ok dX3_takeBackNoted_13 rfl, fun _ h => absurd h List.not_mem_nil⟩⟩⟩⟩⟩⟩⟩⟩
theorem ab_k194 (K : ab_Kt) : ∀ pc, ab_OK K ab_mt ab_g194 pc (ab_c194 pc) := ab_lk2_ok _ (List.forall_mem_cons.mpr ⟨ab_k194_0 K, fun _ h => absurd h List.not_mem_nil⟩)
theorem dX6_changedBy_0 : decode cX6_changedBy 0 = .ok (.iload_n 1, 1) := by decide +kernel
theorem dX6_changedBy_1 : decode cX6_changedBy 1 = .ok (.iconst (-1), 1) := by decide +kernel
theorem dX6_changedBy_2 : decode cX6_changedBy 2 = .ok (.if_icmp .ne 11, 3) := by decide +kernel
theorem dX6_changedBy_5 : decode cX6_changedBy 5 = .ok (.new 336, 3) := by decide +kernel
theorem dX6_changedBy_8 : decode cX6_changedBy 8 = .ok (.dup, 1) := by decide +kernel
theorem dX6_changedBy_9 : decode cX6_changedBy 9 = .ok (.invokespecial 338, 3) := by decide +kernel
theorem dX6_changedBy_12 : decode cX6_changedBy 12 = .ok (.athrow, 1) := by decide +kernel
theorem dX6_changedBy_13 : decode cX6_changedBy 13 = .ok (.aload_n 0, 1) := by decide +kernel
theorem dX6_changedBy_14 : decode cX6_changedBy 14 = .ok (.getfield 24, 3) := by decide +kernel
theorem dX6_changedBy_17 : decode cX6_changedBy 17 = .ok (.invokevirtual 339, 3) := by decide +kernel
theorem dX6_changedBy_20 : decode cX6_changedBy 20 = .ok (.iload_n 1, 1) := by decide +kernel
theorem dX6_changedBy_21 : decode cX6_changedBy 21 = .ok (.ireturn, 1) := by decide +kernel
theorem ab_k195_0 (K : ab_Kt) : ∀ q ∈ ab_l195_0, ab_OK K ab_mt ab_g195 q.1 q.2 := by
  unfold ab_l195_0
  exact List.forall_mem_cons.mpr ⟨ab_iload_n_ok dX6_changedBy_0 rfl, List.forall_mem_cons.mpr ⟨ab_iconst_ok dX6_changedBy_1 (by decide), List.forall_mem_cons.mpr ⟨ab_icmp_ne_ok dX6_changedBy_2 (by decide), List.forall_mem_cons.mpr ⟨ab_thr_ok (ik := 336) (ic := 338) (by decide +kernel) (ab_l2 ab_w1094 ab_w1095) ab_th_5 (by decide +kernel) dX6_changedBy_5 dX6_changedBy_8 dX6_changedBy_9 dX6_changedBy_12 rfl, List.forall_mem_cons.mpr ⟨ab_aload_n_ok dX6_changedBy_13 rfl, List.forall_mem_cons.mpr ⟨ab_getf_ok (C := RX6) (T := TX6) (N := 9) (ci := 10) (k := 2) dX6_changedBy_14 rfl ab_ic10 (by decide) ab_w325, List.forall_mem_cons.mpr ⟨ab_callV_ok' (G' := ab_g244) (C := RX3) (T := TX3) (N := 3) dX6_changedBy_17 ab_m244 rfl rfl (by decide) (by decide) (ab_l4 ab_w1096 ab_w1097 ab_w1098 ab_w321) ab_w1099 rfl ⟨by decide, by decide, by decide +kernel⟩, List.forall_mem_cons.mpr ⟨ab_iload_n_ok dX6_changedBy_20 rfl, List.forall_mem_cons.mpr ⟨ab_iret_ok dX6_changedBy_21 rfl, fun _ h => absurd h List.not_mem_nil⟩⟩⟩⟩⟩⟩⟩⟩⟩
theorem ab_k195 (K : ab_Kt) : ∀ pc, ab_OK K ab_mt ab_g195 pc (ab_c195 pc) := ab_lk2_ok _ (List.forall_mem_cons.mpr ⟨ab_k195_0 K, fun _ h => absurd h List.not_mem_nil⟩)
theorem dX7_commandHere_0 : decode cX7_commandHere 0 = .ok (.iconst 5, 1) := by decide +kernel
theorem dX7_commandHere_1 : decode cX7_commandHere 1 = .ok (.aload_n 0, 1) := by decide +kernel
theorem dX7_commandHere_2 : decode cX7_commandHere 2 = .ok (.getfield 189, 3) := by decide +kernel
theorem dX7_commandHere_5 : decode cX7_commandHere 5 = .ok (.imul, 1) := by decide +kernel
theorem dX7_commandHere_6 : decode cX7_commandHere 6 = .ok (.istore_n 1, 1) := by decide +kernel
theorem dX7_commandHere_7 : decode cX7_commandHere 7 = .ok (.aload_n 0, 1) := by decide +kernel
theorem dX7_commandHere_8 : decode cX7_commandHere 8 = .ok (.getfield 33, 3) := by decide +kernel
theorem dX7_commandHere_11 : decode cX7_commandHere 11 = .ok (.iload_n 1, 1) := by decide +kernel
theorem dX7_commandHere_12 : decode cX7_commandHere 12 = .ok (.aload_n 0, 1) := by decide +kernel
theorem dX7_commandHere_13 : decode cX7_commandHere 13 = .ok (.invokevirtual 180, 3) := by decide +kernel
theorem dX7_commandHere_16 : decode cX7_commandHere 16 = .ok (.iastore, 1) := by decide +kernel
theorem dX7_commandHere_17 : decode cX7_commandHere 17 = .ok (.aload_n 0, 1) := by decide +kernel
theorem dX7_commandHere_18 : decode cX7_commandHere 18 = .ok (.bipush 103, 2) := by decide +kernel
theorem dX7_commandHere_20 : decode cX7_commandHere 20 = .ok (.invokevirtual 186, 3) := by decide +kernel
theorem dX7_commandHere_23 : decode cX7_commandHere 23 = .ok (.ifCond .eq 9, 3) := by decide +kernel
theorem dX7_commandHere_26 : decode cX7_commandHere 26 = .ok (.aload_n 0, 1) := by decide +kernel
theorem dX7_commandHere_27 : decode cX7_commandHere 27 = .ok (.iload_n 1, 1) := by decide +kernel
theorem dX7_commandHere_28 : decode cX7_commandHere 28 = .ok (.invokevirtual 192, 3) := by decide +kernel
theorem dX7_commandHere_31 : decode cX7_commandHere 31 = .ok (.ireturn, 1) := by decide +kernel
theorem dX7_commandHere_32 : decode cX7_commandHere 32 = .ok (.aload_n 0, 1) := by decide +kernel
theorem dX7_commandHere_33 : decode cX7_commandHere 33 = .ok (.bipush 108, 2) := by decide +kernel
theorem dX7_commandHere_35 : decode cX7_commandHere 35 = .ok (.invokevirtual 186, 3) := by decide +kernel
theorem dX7_commandHere_38 : decode cX7_commandHere 38 = .ok (.ifCond .ne 12, 3) := by decide +kernel
theorem dX7_commandHere_41 : decode cX7_commandHere 41 = .ok (.aload_n 0, 1) := by decide +kernel
theorem dX7_commandHere_42 : decode cX7_commandHere 42 = .ok (.bipush 112, 2) := by decide +kernel
theorem dX7_commandHere_44 : decode cX7_commandHere 44 = .ok (.invokevirtual 186, 3) := by decide +kernel
theorem dX7_commandHere_47 : decode cX7_commandHere 47 = .ok (.ifCond .eq 31, 3) := by decide +kernel
theorem dX7_commandHere_50 : decode cX7_commandHere 50 = .ok (.aload_n 0, 1) := by decide +kernel
theorem dX7_commandHere_51 : decode cX7_commandHere 51 = .ok (.iload_n 1, 1) := by decide +kernel
theorem dX7_commandHere_52 : decode cX7_commandHere 52 = .ok (.iconst 1, 1) := by decide +kernel
theorem dX7_commandHere_53 : decode cX7_commandHere 53 = .ok (.iadd, 1) := by decide +kernel
theorem dX7_commandHere_54 : decode cX7_commandHere 54 = .ok (.iconst 1, 1) := by decide +kernel
theorem dX7_commandHere_55 : decode cX7_commandHere 55 = .ok (.invokevirtual 183, 3) := by decide +kernel
theorem dX7_commandHere_58 : decode cX7_commandHere 58 = .ok (.ifCond .eq 18, 3) := by decide +kernel
theorem dX7_commandHere_61 : decode cX7_commandHere 61 = .ok (.aload_n 0, 1) := by decide +kernel
theorem dX7_commandHere_62 : decode cX7_commandHere 62 = .ok (.iload_n 1, 1) := by decide +kernel
theorem dX7_commandHere_63 : decode cX7_commandHere 63 = .ok (.iconst 2, 1) := by decide +kernel
theorem dX7_commandHere_64 : decode cX7_commandHere 64 = .ok (.iadd, 1) := by decide +kernel
theorem dX7_commandHere_65 : decode cX7_commandHere 65 = .ok (.iconst 1, 1) := by decide +kernel
theorem dX7_commandHere_66 : decode cX7_commandHere 66 = .ok (.invokevirtual 183, 3) := by decide +kernel
theorem ab_k196_0 (K : ab_Kt) : ∀ q ∈ ab_l196_0, ab_OK K ab_mt ab_g196 q.1 q.2 := by
  unfold ab_l196_0
  exact List.forall_mem_cons.mpr ⟨ab_iconst_ok dX7_commandHere_0 (by decide), List.forall_mem_cons.mpr ⟨ab_aload_n_ok dX7_commandHere_1 rfl, List.forall_mem_cons.mpr ⟨ab_getf_ok (C := RX7) (T := TX7) (N := 19) (ci := 11) (k := 18) dX7_commandHere_2 rfl ab_ic11 (by decide) ab_w468, List.forall_mem_cons.mpr ⟨ab_imul_ok dX7_commandHere_5, List.forall_mem_cons.mpr ⟨ab_istore_n_ok dX7_commandHere_6 rfl, List.forall_mem_cons.mpr ⟨ab_aload_n_ok dX7_commandHere_7 rfl, List.forall_mem_cons.mpr ⟨ab_getf_ok (C := RX7) (T := TX7) (N := 19) (ci := 11) (k := 17) dX7_commandHere_8 rfl ab_ic11 (by decide) ab_w358, List.forall_mem_cons.mpr ⟨ab_iload_n_ok dX7_commandHere_11 rfl, List.forall_mem_cons.mpr ⟨ab_aload_n_ok dX7_commandHere_12 rfl, List.forall_mem_cons.mpr ⟨ab_callV_ok' (G' := ab_g245) (C := RX7) (T := TX7) (N := 19) dX7_commandHere_13 ab_m245 rfl rfl (by decide) (by decide) (ab_l4 ab_w1100 ab_w1101 ab_w1102 ab_w8) ab_w1103 rfl ⟨by decide, by decide, by decide +kernel⟩, List.forall_mem_cons.mpr ⟨ab_ast0_ok dX7_commandHere_16, List.forall_mem_cons.mpr ⟨ab_aload_n_ok dX7_commandHere_17 rfl, List.forall_mem_cons.mpr ⟨ab_bipush_ok dX7_commandHere_18 (by decide), List.forall_mem_cons.mpr ⟨ab_callV_ok' (G' := ab_g197) (C := RX7) (T := TX7) (N := 19) dX7_commandHere_20 ab_m197 rfl rfl (by decide) (by decide) (ab_l4 ab_w842 ab_w843 ab_w844 ab_w8) ab_w845 rfl ⟨by decide, by decide, by decide +kernel⟩, List.forall_mem_cons.mpr ⟨ab_if_eq_ok dX7_commandHere_23 (by decide), List.forall_mem_cons.mpr ⟨ab_aload_n_ok dX7_commandHere_26 rfl, List.forall_mem_cons.mpr ⟨ab_iload_n_ok dX7_commandHere_27 rfl, List.forall_mem_cons.mpr ⟨ab_callV_ok' (G' := ab_g246) (C := RX7) (T := TX7) (N := 19) dX7_commandHere_28 ab_m246 rfl rfl (by decide) (by decide) (ab_l4 ab_w1104 ab_w1105 ab_w1106 ab_w8) ab_w1107 rfl ⟨by decide, by decide, by decide +kernel⟩, List.forall_mem_cons.mpr ⟨ab_zret_ok dX7_commandHere_31 rfl, List.forall_mem_cons.mpr ⟨ab_aload_n_ok dX7_commandHere_32 rfl, List.forall_mem_cons.mpr ⟨ab_bipush_ok dX7_commandHere_33 (by decide), List.forall_mem_cons.mpr ⟨ab_callV_ok' (G' := ab_g197) (C := RX7) (T := TX7) (N := 19) dX7_commandHere_35 ab_m197 rfl rfl (by decide) (by decide) (ab_l4 ab_w842 ab_w843 ab_w844 ab_w8) ab_w845 rfl ⟨by decide, by decide, by decide +kernel⟩, List.forall_mem_cons.mpr ⟨ab_if_ne_ok dX7_commandHere_38 (by decide), List.forall_mem_cons.mpr ⟨ab_aload_n_ok dX7_commandHere_41 rfl, List.forall_mem_cons.mpr ⟨ab_bipush_ok dX7_commandHere_42 (by decide), List.forall_mem_cons.mpr ⟨ab_callV_ok' (G' := ab_g197) (C := RX7) (T := TX7) (N := 19) dX7_commandHere_44 ab_m197 rfl rfl (by decide) (by decide) (ab_l4 ab_w842 ab_w843 ab_w844 ab_w8) ab_w845 rfl ⟨by decide, by decide, by decide +kernel⟩, List.forall_mem_cons.mpr ⟨ab_if_eq_ok dX7_commandHere_47 (by decide), List.forall_mem_cons.mpr ⟨ab_aload_n_ok dX7_commandHere_50 rfl, List.forall_mem_cons.mpr ⟨ab_iload_n_ok dX7_commandHere_51 rfl, List.forall_mem_cons.mpr ⟨ab_iconst_ok dX7_commandHere_52 (by decide), List.forall_mem_cons.mpr ⟨ab_iadd_ok dX7_commandHere_53, List.forall_mem_cons.mpr ⟨ab_iconst_ok dX7_commandHere_54 (by decide), List.forall_mem_cons.mpr ⟨ab_callV_ok' (G' := ab_g247) (C := RX7) (T := TX7) (N := 19) dX7_commandHere_55 ab_m247 rfl rfl (by decide) (by decide) (ab_l4 ab_w1108 ab_w1109 ab_w1110 ab_w8) ab_w1111 rfl ⟨by decide, by decide, by decide +kernel⟩, List.forall_mem_cons.mpr ⟨ab_if_eq_ok dX7_commandHere_58 (by decide), List.forall_mem_cons.mpr ⟨ab_aload_n_ok dX7_commandHere_61 rfl, List.forall_mem_cons.mpr ⟨ab_iload_n_ok dX7_commandHere_62 rfl, List.forall_mem_cons.mpr ⟨ab_iconst_ok dX7_commandHere_63 (by decide), List.forall_mem_cons.mpr ⟨ab_iadd_ok dX7_commandHere_64, List.forall_mem_cons.mpr ⟨ab_iconst_ok dX7_commandHere_65 (by decide), List.forall_mem_cons.mpr ⟨ab_callV_ok' (G' := ab_g247) (C := RX7) (T := TX7) (N := 19) dX7_commandHere_66 ab_m247 rfl rfl (by decide) (by decide) (ab_l4 ab_w1108 ab_w1109 ab_w1110 ab_w8) ab_w1111 rfl ⟨by decide, by decide, by decide +kernel⟩, fun _ h => absurd h List.not_mem_nil⟩⟩⟩⟩⟩⟩⟩⟩⟩⟩⟩⟩⟩⟩⟩⟩⟩⟩⟩⟩⟩⟩⟩⟩⟩⟩⟩⟩⟩⟩⟩⟩⟩⟩⟩⟩⟩⟩⟩⟩
theorem dX7_commandHere_69 : decode cX7_commandHere 69 = .ok (.ifCond .eq 7, 3) := by decide +kernel
theorem dX7_commandHere_72 : decode cX7_commandHere 72 = .ok (.iconst 1, 1) := by decide +kernel
theorem dX7_commandHere_73 : decode cX7_commandHere 73 = .ok (.goto 4, 3) := by decide +kernel
theorem dX7_commandHere_76 : decode cX7_commandHere 76 = .ok (.iconst 0, 1) := by decide +kernel
theorem dX7_commandHere_77 : decode cX7_commandHere 77 = .ok (.ireturn, 1) := by decide +kernel
theorem dX7_commandHere_78 : decode cX7_commandHere 78 = .ok (.aload_n 0, 1) := by decide +kernel
theorem dX7_commandHere_79 : decode cX7_commandHere 79 = .ok (.bipush 101, 2) := by decide +kernel
theorem dX7_commandHere_81 : decode cX7_commandHere 81 = .ok (.invokevirtual 186, 3) := by decide +kernel
theorem dX7_commandHere_84 : decode cX7_commandHere 84 = .ok (.ifCond .eq 40, 3) := by decide +kernel
theorem dX7_commandHere_87 : decode cX7_commandHere 87 = .ok (.aload_n 0, 1) := by decide +kernel
theorem dX7_commandHere_88 : decode cX7_commandHere 88 = .ok (.iload_n 1, 1) := by decide +kernel
theorem dX7_commandHere_89 : decode cX7_commandHere 89 = .ok (.iconst 1, 1) := by decide +kernel
theorem dX7_commandHere_90 : decode cX7_commandHere 90 = .ok (.iadd, 1) := by decide +kernel
theorem dX7_commandHere_91 : decode cX7_commandHere 91 = .ok (.iconst 1, 1) := by decide +kernel
theorem dX7_commandHere_92 : decode cX7_commandHere 92 = .ok (.invokevirtual 183, 3) := by decide +kernel
theorem dX7_commandHere_95 : decode cX7_commandHere 95 = .ok (.ifCond .eq 27, 3) := by decide +kernel
theorem dX7_commandHere_98 : decode cX7_commandHere 98 = .ok (.aload_n 0, 1) := by decide +kernel
theorem dX7_commandHere_99 : decode cX7_commandHere 99 = .ok (.bipush 47, 2) := by decide +kernel
theorem dX7_commandHere_101 : decode cX7_commandHere 101 = .ok (.invokevirtual 186, 3) := by decide +kernel
theorem dX7_commandHere_104 : decode cX7_commandHere 104 = .ok (.ifCond .eq 18, 3) := by decide +kernel
theorem dX7_commandHere_107 : decode cX7_commandHere 107 = .ok (.aload_n 0, 1) := by decide +kernel
theorem dX7_commandHere_108 : decode cX7_commandHere 108 = .ok (.iload_n 1, 1) := by decide +kernel
theorem dX7_commandHere_109 : decode cX7_commandHere 109 = .ok (.iconst 2, 1) := by decide +kernel
theorem dX7_commandHere_110 : decode cX7_commandHere 110 = .ok (.iadd, 1) := by decide +kernel
theorem dX7_commandHere_111 : decode cX7_commandHere 111 = .ok (.iconst 2, 1) := by decide +kernel
theorem dX7_commandHere_112 : decode cX7_commandHere 112 = .ok (.invokevirtual 183, 3) := by decide +kernel
theorem dX7_commandHere_115 : decode cX7_commandHere 115 = .ok (.ifCond .eq 7, 3) := by decide +kernel
theorem dX7_commandHere_118 : decode cX7_commandHere 118 = .ok (.iconst 1, 1) := by decide +kernel
theorem dX7_commandHere_119 : decode cX7_commandHere 119 = .ok (.goto 4, 3) := by decide +kernel
theorem dX7_commandHere_122 : decode cX7_commandHere 122 = .ok (.iconst 0, 1) := by decide +kernel
theorem dX7_commandHere_123 : decode cX7_commandHere 123 = .ok (.ireturn, 1) := by decide +kernel
theorem dX7_commandHere_124 : decode cX7_commandHere 124 = .ok (.aload_n 0, 1) := by decide +kernel
theorem dX7_commandHere_125 : decode cX7_commandHere 125 = .ok (.bipush 119, 2) := by decide +kernel
theorem dX7_commandHere_127 : decode cX7_commandHere 127 = .ok (.invokevirtual 186, 3) := by decide +kernel
theorem dX7_commandHere_130 : decode cX7_commandHere 130 = .ok (.ifCond .eq 12, 3) := by decide +kernel
theorem dX7_commandHere_133 : decode cX7_commandHere 133 = .ok (.aload_n 0, 1) := by decide +kernel
theorem dX7_commandHere_134 : decode cX7_commandHere 134 = .ok (.iload_n 1, 1) := by decide +kernel
theorem dX7_commandHere_135 : decode cX7_commandHere 135 = .ok (.iconst 1, 1) := by decide +kernel
theorem dX7_commandHere_136 : decode cX7_commandHere 136 = .ok (.iadd, 1) := by decide +kernel
theorem dX7_commandHere_137 : decode cX7_commandHere 137 = .ok (.iconst 2, 1) := by decide +kernel
theorem ab_k196_1 (K : ab_Kt) : ∀ q ∈ ab_l196_1, ab_OK K ab_mt ab_g196 q.1 q.2 := by
  unfold ab_l196_1
  exact List.forall_mem_cons.mpr ⟨ab_if_eq_ok dX7_commandHere_69 (by decide), List.forall_mem_cons.mpr ⟨ab_iconst_ok dX7_commandHere_72 (by decide), List.forall_mem_cons.mpr ⟨ab_goto_ok dX7_commandHere_73 (by decide), List.forall_mem_cons.mpr ⟨ab_iconst_ok dX7_commandHere_76 (by decide), List.forall_mem_cons.mpr ⟨ab_zret_ok dX7_commandHere_77 rfl, List.forall_mem_cons.mpr ⟨ab_aload_n_ok dX7_commandHere_78 rfl, List.forall_mem_cons.mpr ⟨ab_bipush_ok dX7_commandHere_79 (by decide), List.forall_mem_cons.mpr ⟨ab_callV_ok' (G' := ab_g197) (C := RX7) (T := TX7) (N := 19) dX7_commandHere_81 ab_m197 rfl rfl (by decide) (by decide) (ab_l4 ab_w842 ab_w843 ab_w844 ab_w8) ab_w845 rfl ⟨by decide, by decide, by decide +kernel⟩, List.forall_mem_cons.mpr ⟨ab_if_eq_ok dX7_commandHere_84 (by decide), List.forall_mem_cons.mpr ⟨ab_aload_n_ok dX7_commandHere_87 rfl, List.forall_mem_cons.mpr ⟨ab_iload_n_ok dX7_commandHere_88 rfl, List.forall_mem_cons.mpr ⟨ab_iconst_ok dX7_commandHere_89 (by decide), List.forall_mem_cons.mpr ⟨ab_iadd_ok dX7_commandHere_90, List.forall_mem_cons.mpr ⟨ab_iconst_ok dX7_commandHere_91 (by decide), List.forall_mem_cons.mpr ⟨ab_callV_ok' (G' := ab_g247) (C := RX7) (T := TX7) (N := 19) dX7_commandHere_92 ab_m247 rfl rfl (by decide) (by decide) (ab_l4 ab_w1108 ab_w1109 ab_w1110 ab_w8) ab_w1111 rfl ⟨by decide, by decide, by decide +kernel⟩, List.forall_mem_cons.mpr ⟨ab_if_eq_ok dX7_commandHere_95 (by decide), List.forall_mem_cons.mpr ⟨ab_aload_n_ok dX7_commandHere_98 rfl, List.forall_mem_cons.mpr ⟨ab_bipush_ok dX7_commandHere_99 (by decide), List.forall_mem_cons.mpr ⟨ab_callV_ok' (G' := ab_g197) (C := RX7) (T := TX7) (N := 19) dX7_commandHere_101 ab_m197 rfl rfl (by decide) (by decide) (ab_l4 ab_w842 ab_w843 ab_w844 ab_w8) ab_w845 rfl ⟨by decide, by decide, by decide +kernel⟩, List.forall_mem_cons.mpr ⟨ab_if_eq_ok dX7_commandHere_104 (by decide), List.forall_mem_cons.mpr ⟨ab_aload_n_ok dX7_commandHere_107 rfl, List.forall_mem_cons.mpr ⟨ab_iload_n_ok dX7_commandHere_108 rfl, List.forall_mem_cons.mpr ⟨ab_iconst_ok dX7_commandHere_109 (by decide), List.forall_mem_cons.mpr ⟨ab_iadd_ok dX7_commandHere_110, List.forall_mem_cons.mpr ⟨ab_iconst_ok dX7_commandHere_111 (by decide), List.forall_mem_cons.mpr ⟨ab_callV_ok' (G' := ab_g247) (C := RX7) (T := TX7) (N := 19) dX7_commandHere_112 ab_m247 rfl rfl (by decide) (by decide) (ab_l4 ab_w1108 ab_w1109 ab_w1110 ab_w8) ab_w1111 rfl ⟨by decide, by decide, by decide +kernel⟩, List.forall_mem_cons.mpr ⟨ab_if_eq_ok dX7_commandHere_115 (by decide), List.forall_mem_cons.mpr ⟨ab_iconst_ok dX7_commandHere_118 (by decide), List.forall_mem_cons.mpr ⟨ab_goto_ok dX7_commandHere_119 (by decide), List.forall_mem_cons.mpr ⟨ab_iconst_ok dX7_commandHere_122 (by decide), List.forall_mem_cons.mpr ⟨ab_zret_ok dX7_commandHere_123 rfl, List.forall_mem_cons.mpr ⟨ab_aload_n_ok dX7_commandHere_124 rfl, List.forall_mem_cons.mpr ⟨ab_bipush_ok dX7_commandHere_125 (by decide), List.forall_mem_cons.mpr ⟨ab_callV_ok' (G' := ab_g197) (C := RX7) (T := TX7) (N := 19) dX7_commandHere_127 ab_m197 rfl rfl (by decide) (by decide) (ab_l4 ab_w842 ab_w843 ab_w844 ab_w8) ab_w845 rfl ⟨by decide, by decide, by decide +kernel⟩, List.forall_mem_cons.mpr ⟨ab_if_eq_ok dX7_commandHere_130 (by decide), List.forall_mem_cons.mpr ⟨ab_aload_n_ok dX7_commandHere_133 rfl, List.forall_mem_cons.mpr ⟨ab_iload_n_ok dX7_commandHere_134 rfl, List.forall_mem_cons.mpr ⟨ab_iconst_ok dX7_commandHere_135 (by decide), List.forall_mem_cons.mpr ⟨ab_iadd_ok dX7_commandHere_136, List.forall_mem_cons.mpr ⟨ab_iconst_ok dX7_commandHere_137 (by decide), fun _ h => absurd h List.not_mem_nil⟩⟩⟩⟩⟩⟩⟩⟩⟩⟩⟩⟩⟩⟩⟩⟩⟩⟩⟩⟩⟩⟩⟩⟩⟩⟩⟩⟩⟩⟩⟩⟩⟩⟩⟩⟩⟩⟩⟩⟩
theorem dX7_commandHere_138 : decode cX7_commandHere 138 = .ok (.invokevirtual 183, 3) := by decide +kernel
theorem dX7_commandHere_141 : decode cX7_commandHere 141 = .ok (.ireturn, 1) := by decide +kernel
theorem dX7_commandHere_142 : decode cX7_commandHere 142 = .ok (.aload_n 0, 1) := by decide +kernel
theorem dX7_commandHere_143 : decode cX7_commandHere 143 = .ok (.bipush 115, 2) := by decide +kernel
theorem dX7_commandHere_145 : decode cX7_commandHere 145 = .ok (.invokevirtual 186, 3) := by decide +kernel
theorem dX7_commandHere_148 : decode cX7_commandHere 148 = .ok (.ifCond .ne 30, 3) := by decide +kernel
theorem dX7_commandHere_151 : decode cX7_commandHere 151 = .ok (.aload_n 0, 1) := by decide +kernel
theorem dX7_commandHere_152 : decode cX7_commandHere 152 = .ok (.bipush 117, 2) := by decide +kernel
theorem dX7_commandHere_154 : decode cX7_commandHere 154 = .ok (.invokevirtual 186, 3) := by decide +kernel
theorem dX7_commandHere_157 : decode cX7_commandHere 157 = .ok (.ifCond .ne 21, 3) := by decide +kernel
theorem dX7_commandHere_160 : decode cX7_commandHere 160 = .ok (.aload_n 0, 1) := by decide +kernel
theorem dX7_commandHere_161 : decode cX7_commandHere 161 = .ok (.bipush 116, 2) := by decide +kernel
theorem dX7_commandHere_163 : decode cX7_commandHere 163 = .ok (.invokevirtual 186, 3) := by decide +kernel
theorem dX7_commandHere_166 : decode cX7_commandHere 166 = .ok (.ifCond .ne 12, 3) := by decide +kernel
theorem dX7_commandHere_169 : decode cX7_commandHere 169 = .ok (.aload_n 0, 1) := by decide +kernel
theorem dX7_commandHere_170 : decode cX7_commandHere 170 = .ok (.bipush 100, 2) := by decide +kernel
theorem dX7_commandHere_172 : decode cX7_commandHere 172 = .ok (.invokevirtual 186, 3) := by decide +kernel
theorem dX7_commandHere_175 : decode cX7_commandHere 175 = .ok (.ifCond .eq 18, 3) := by decide +kernel
theorem dX7_commandHere_178 : decode cX7_commandHere 178 = .ok (.aload_n 0, 1) := by decide +kernel
theorem dX7_commandHere_179 : decode cX7_commandHere 179 = .ok (.iload_n 1, 1) := by decide +kernel
theorem dX7_commandHere_180 : decode cX7_commandHere 180 = .ok (.iconst 1, 1) := by decide +kernel
theorem dX7_commandHere_181 : decode cX7_commandHere 181 = .ok (.iadd, 1) := by decide +kernel
theorem dX7_commandHere_182 : decode cX7_commandHere 182 = .ok (.iconst 1, 1) := by decide +kernel
theorem dX7_commandHere_183 : decode cX7_commandHere 183 = .ok (.invokevirtual 183, 3) := by decide +kernel
theorem dX7_commandHere_186 : decode cX7_commandHere 186 = .ok (.ifCond .eq 7, 3) := by decide +kernel
theorem dX7_commandHere_189 : decode cX7_commandHere 189 = .ok (.iconst 1, 1) := by decide +kernel
theorem dX7_commandHere_190 : decode cX7_commandHere 190 = .ok (.goto 4, 3) := by decide +kernel
theorem dX7_commandHere_193 : decode cX7_commandHere 193 = .ok (.iconst 0, 1) := by decide +kernel
theorem dX7_commandHere_194 : decode cX7_commandHere 194 = .ok (.ireturn, 1) := by decide +kernel
theorem ab_k196_2 (K : ab_Kt) : ∀ q ∈ ab_l196_2, ab_OK K ab_mt ab_g196 q.1 q.2 := by
  unfold ab_l196_2
  exact List.forall_mem_cons.mpr ⟨ab_callV_ok' (G' := ab_g247) (C := RX7) (T := TX7) (N := 19) dX7_commandHere_138 ab_m247 rfl rfl (by decide) (by decide) (ab_l4 ab_w1108 ab_w1109 ab_w1110 ab_w8) ab_w1111 rfl ⟨by decide, by decide, by decide +kernel⟩, List.forall_mem_cons.mpr ⟨ab_zret_ok dX7_commandHere_141 rfl, List.forall_mem_cons.mpr ⟨ab_aload_n_ok dX7_commandHere_142 rfl, List.forall_mem_cons.mpr ⟨ab_bipush_ok dX7_commandHere_143 (by decide), List.forall_mem_cons.mpr ⟨ab_callV_ok' (G' := ab_g197) (C := RX7) (T := TX7) (N := 19) dX7_commandHere_145 ab_m197 rfl rfl (by decide) (by decide) (ab_l4 ab_w842 ab_w843 ab_w844 ab_w8) ab_w845 rfl ⟨by decide, by decide, by decide +kernel⟩, List.forall_mem_cons.mpr ⟨ab_if_ne_ok dX7_commandHere_148 (by decide), List.forall_mem_cons.mpr ⟨ab_aload_n_ok dX7_commandHere_151 rfl, List.forall_mem_cons.mpr ⟨ab_bipush_ok dX7_commandHere_152 (by decide), List.forall_mem_cons.mpr ⟨ab_callV_ok' (G' := ab_g197) (C := RX7) (T := TX7) (N := 19) dX7_commandHere_154 ab_m197 rfl rfl (by decide) (by decide) (ab_l4 ab_w842 ab_w843 ab_w844 ab_w8) ab_w845 rfl ⟨by decide, by decide, by decide +kernel⟩, List.forall_mem_cons.mpr ⟨ab_if_ne_ok dX7_commandHere_157 (by decide), List.forall_mem_cons.mpr ⟨ab_aload_n_ok dX7_commandHere_160 rfl, List.forall_mem_cons.mpr ⟨ab_bipush_ok dX7_commandHere_161 (by decide), List.forall_mem_cons.mpr ⟨ab_callV_ok' (G' := ab_g197) (C := RX7) (T := TX7) (N := 19) dX7_commandHere_163 ab_m197 rfl rfl (by decide) (by decide) (ab_l4 ab_w842 ab_w843 ab_w844 ab_w8) ab_w845 rfl ⟨by decide, by decide, by decide +kernel⟩, List.forall_mem_cons.mpr ⟨ab_if_ne_ok dX7_commandHere_166 (by decide), List.forall_mem_cons.mpr ⟨ab_aload_n_ok dX7_commandHere_169 rfl, List.forall_mem_cons.mpr ⟨ab_bipush_ok dX7_commandHere_170 (by decide), List.forall_mem_cons.mpr ⟨ab_callV_ok' (G' := ab_g197) (C := RX7) (T := TX7) (N := 19) dX7_commandHere_172 ab_m197 rfl rfl (by decide) (by decide) (ab_l4 ab_w842 ab_w843 ab_w844 ab_w8) ab_w845 rfl ⟨by decide, by decide, by decide +kernel⟩, List.forall_mem_cons.mpr ⟨ab_if_eq_ok dX7_commandHere_175 (by decide), List.forall_mem_cons.mpr ⟨ab_aload_n_ok dX7_commandHere_178 rfl, List.forall_mem_cons.mpr ⟨ab_iload_n_ok dX7_commandHere_179 rfl, List.forall_mem_cons.mpr ⟨ab_iconst_ok dX7_commandHere_180 (by decide), List.forall_mem_cons.mpr ⟨ab_iadd_ok dX7_commandHere_181, List.forall_mem_cons.mpr ⟨ab_iconst_ok dX7_commandHere_182 (by decide), List.forall_mem_cons.mpr ⟨ab_callV_ok' (G' := ab_g247) (C := RX7) (T := TX7) (N := 19) dX7_commandHere_183 ab_m247 rfl rfl (by decide) (by decide) (ab_l4 ab_w1108 ab_w1109 ab_w1110 ab_w8) ab_w1111 rfl ⟨by decide, by decide, by decide +kernel⟩, List.forall_mem_cons.mpr ⟨ab_if_eq_ok dX7_commandHere_186 (by decide), List.forall_mem_cons.mpr ⟨ab_iconst_ok dX7_commandHere_189 (by decide), List.forall_mem_cons.mpr ⟨ab_goto_ok dX7_commandHere_190 (by decide), List.forall_mem_cons.mpr ⟨ab_iconst_ok dX7_commandHere_193 (by decide), List.forall_mem_cons.mpr ⟨ab_zret_ok dX7_commandHere_194 rfl, fun _ h => absurd h List.not_mem_nil⟩⟩⟩⟩⟩⟩⟩⟩⟩⟩⟩⟩⟩⟩⟩⟩⟩⟩⟩⟩⟩⟩⟩⟩⟩⟩⟩⟩⟩
theorem ab_k196 (K : ab_Kt) : ∀ pc, ab_OK K ab_mt ab_g196 pc (ab_c196 pc) := ab_lk2_ok _ (List.forall_mem_cons.mpr ⟨ab_k196_0 K, List.forall_mem_cons.mpr ⟨ab_k196_1 K, List.forall_mem_cons.mpr ⟨ab_k196_2 K, fun _ h => absurd h List.not_mem_nil⟩⟩⟩)
