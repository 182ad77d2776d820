/-! ===== the code tables hold: L_firstWrong .. ===== -/
theorem dL_firstWrong_0 : decode cL_firstWrong 0 = .ok (.aload_n 2, 1) := by decide +kernel
theorem dL_firstWrong_1 : decode cL_firstWrong 1 = .ok (.iconst 0, 1) := by decide +kernel
theorem dL_firstWrong_2 : decode cL_firstWrong 2 = .ok (.aload_n 0, 1) := by decide +kernel
theorem dL_firstWrong_3 : decode cL_firstWrong 3 = .ok (.iload_n 1, 1) := by decide +kernel
theorem dL_firstWrong_4 : decode cL_firstWrong 4 = .ok (.invokevirtual 73, 3) := by decide +kernel
theorem dL_firstWrong_7 : decode cL_firstWrong 7 = .ok (.i2l, 1) := by decide +kernel
theorem dL_firstWrong_8 : decode cL_firstWrong 8 = .ok (.lastore, 1) := by decide +kernel
theorem dL_firstWrong_9 : decode cL_firstWrong 9 = .ok (.goto 9, 3) := by decide +kernel
theorem dL_firstWrong_12 : decode cL_firstWrong 12 = .ok (.astore_n 3, 1) := by decide +kernel
theorem dL_firstWrong_13 : decode cL_firstWrong 13 = .ok (.iconst 1, 1) := by decide +kernel
theorem dL_firstWrong_14 : decode cL_firstWrong 14 = .ok (.ireturn, 1) := by decide +kernel
theorem dL_firstWrong_15 : decode cL_firstWrong 15 = .ok (.astore_n 3, 1) := by decide +kernel
theorem dL_firstWrong_16 : decode cL_firstWrong 16 = .ok (.iconst 2, 1) := by decide +kernel
theorem dL_firstWrong_17 : decode cL_firstWrong 17 = .ok (.ireturn, 1) := by decide +kernel
theorem dL_firstWrong_18 : decode cL_firstWrong 18 = .ok (.iconst 0, 1) := by decide +kernel
theorem dL_firstWrong_19 : decode cL_firstWrong 19 = .ok (.ireturn, 1) := by decide +kernel
theorem ab_k48_0 (K : ab_Kt) : ∀ q ∈ ab_l48_0, ab_OK K ab_mt ab_g48 q.1 q.2 := by
  unfold ab_l48_0
  exact List.forall_mem_cons.mpr ⟨ab_aload_n_ok dL_firstWrong_0 rfl, List.forall_mem_cons.mpr ⟨ab_iconst_ok dL_firstWrong_1 (by decide), List.forall_mem_cons.mpr ⟨ab_aload_n_ok dL_firstWrong_2 rfl, List.forall_mem_cons.mpr ⟨ab_iload_n_ok dL_firstWrong_3 rfl, List.forall_mem_cons.mpr ⟨ab_callV_ok' (G' := ab_g140) (C := RX6) (T := TX6) (N := 9) dL_firstWrong_4 ab_m140 rfl rfl (by decide) (by decide) (ab_l4 ab_w564 ab_w565 ab_w566 ab_w2) ab_w567 rfl ⟨by decide, by decide, by decide +kernel⟩, List.forall_mem_cons.mpr ⟨ab_i2l_ok dL_firstWrong_7, List.forall_mem_cons.mpr ⟨ab_last_ok dL_firstWrong_8, List.forall_mem_cons.mpr ⟨ab_goto_ok dL_firstWrong_9 (by decide), List.forall_mem_cons.mpr ⟨ab_astore_n_ok dL_firstWrong_12 rfl, List.forall_mem_cons.mpr ⟨ab_iconst_ok dL_firstWrong_13 (by decide), List.forall_mem_cons.mpr ⟨ab_iret_ok dL_firstWrong_14 rfl, List.forall_mem_cons.mpr ⟨ab_astore_n_ok dL_firstWrong_15 rfl, List.forall_mem_cons.mpr ⟨ab_iconst_ok dL_firstWrong_16 (by decide), List.forall_mem_cons.mpr ⟨ab_iret_ok dL_firstWrong_17 rfl, List.forall_mem_cons.mpr ⟨ab_iconst_ok dL_firstWrong_18 (by decide), List.forall_mem_cons.mpr ⟨ab_iret_ok dL_firstWrong_19 rfl, fun _ h => absurd h List.not_mem_nil⟩⟩⟩⟩⟩⟩⟩⟩⟩⟩⟩⟩⟩⟩⟩⟩
theorem ab_k48 (K : ab_Kt) : ∀ pc, ab_OK K ab_mt ab_g48 pc (ab_c48 pc) := ab_lk2_ok _ (List.forall_mem_cons.mpr ⟨ab_k48_0 K, fun _ h => absurd h List.not_mem_nil⟩)
theorem dX7_firstWrong_0 : decode cX7_firstWrong 0 = .ok (.aload_n 0, 1) := by decide +kernel
theorem dX7_firstWrong_1 : decode cX7_firstWrong 1 = .ok (.aload_n 0, 1) := by decide +kernel
theorem dX7_firstWrong_2 : decode cX7_firstWrong 2 = .ok (.iload_n 1, 1) := by decide +kernel
theorem dX7_firstWrong_3 : decode cX7_firstWrong 3 = .ok (.invokevirtual 94, 3) := by decide +kernel
theorem dX7_firstWrong_6 : decode cX7_firstWrong 6 = .ok (.ifCond .eq 7, 3) := by decide +kernel
theorem dX7_firstWrong_9 : decode cX7_firstWrong 9 = .ok (.iconst 0, 1) := by decide +kernel
theorem dX7_firstWrong_10 : decode cX7_firstWrong 10 = .ok (.goto 4, 3) := by decide +kernel
theorem dX7_firstWrong_13 : decode cX7_firstWrong 13 = .ok (.iconst 1, 1) := by decide +kernel
theorem dX7_firstWrong_14 : decode cX7_firstWrong 14 = .ok (.invokevirtual 162, 3) := by decide +kernel
theorem dX7_firstWrong_17 : decode cX7_firstWrong 17 = .ok (.ifCond .eq 5, 3) := by decide +kernel
theorem dX7_firstWrong_20 : decode cX7_firstWrong 20 = .ok (.iconst 0, 1) := by decide +kernel
theorem dX7_firstWrong_21 : decode cX7_firstWrong 21 = .ok (.ireturn, 1) := by decide +kernel
theorem dX7_firstWrong_22 : decode cX7_firstWrong 22 = .ok (.aload_n 0, 1) := by decide +kernel
theorem dX7_firstWrong_23 : decode cX7_firstWrong 23 = .ok (.iload_n 1, 1) := by decide +kernel
theorem dX7_firstWrong_24 : decode cX7_firstWrong 24 = .ok (.invokevirtual 80, 3) := by decide +kernel
theorem dX7_firstWrong_27 : decode cX7_firstWrong 27 = .ok (.istore_n 2, 1) := by decide +kernel
theorem dX7_firstWrong_28 : decode cX7_firstWrong 28 = .ok (.iconst 0, 1) := by decide +kernel
theorem dX7_firstWrong_29 : decode cX7_firstWrong 29 = .ok (.istore_n 3, 1) := by decide +kernel
theorem dX7_firstWrong_30 : decode cX7_firstWrong 30 = .ok (.iload_n 3, 1) := by decide +kernel
theorem dX7_firstWrong_31 : decode cX7_firstWrong 31 = .ok (.iload_n 2, 1) := by decide +kernel
theorem dX7_firstWrong_32 : decode cX7_firstWrong 32 = .ok (.if_icmp .ge 18, 3) := by decide +kernel
theorem dX7_firstWrong_35 : decode cX7_firstWrong 35 = .ok (.aload_n 0, 1) := by decide +kernel
theorem dX7_firstWrong_36 : decode cX7_firstWrong 36 = .ok (.iload_n 1, 1) := by decide +kernel
theorem dX7_firstWrong_37 : decode cX7_firstWrong 37 = .ok (.iload_n 3, 1) := by decide +kernel
theorem dX7_firstWrong_38 : decode cX7_firstWrong 38 = .ok (.invokevirtual 84, 3) := by decide +kernel
theorem dX7_firstWrong_41 : decode cX7_firstWrong 41 = .ok (.ifCond .eq 9, 3) := by decide +kernel
theorem dX7_firstWrong_44 : decode cX7_firstWrong 44 = .ok (.iinc 3 1, 3) := by decide +kernel
theorem dX7_firstWrong_47 : decode cX7_firstWrong 47 = .ok (.goto (-17), 3) := by decide +kernel
theorem dX7_firstWrong_50 : decode cX7_firstWrong 50 = .ok (.aload_n 0, 1) := by decide +kernel
theorem dX7_firstWrong_51 : decode cX7_firstWrong 51 = .ok (.iload_n 3, 1) := by decide +kernel
theorem dX7_firstWrong_52 : decode cX7_firstWrong 52 = .ok (.iload_n 2, 1) := by decide +kernel
theorem dX7_firstWrong_53 : decode cX7_firstWrong 53 = .ok (.if_icmp .ne 7, 3) := by decide +kernel
theorem dX7_firstWrong_56 : decode cX7_firstWrong 56 = .ok (.iconst 2, 1) := by decide +kernel
theorem dX7_firstWrong_57 : decode cX7_firstWrong 57 = .ok (.goto 4, 3) := by decide +kernel
theorem dX7_firstWrong_60 : decode cX7_firstWrong 60 = .ok (.iconst 0, 1) := by decide +kernel
theorem dX7_firstWrong_61 : decode cX7_firstWrong 61 = .ok (.invokevirtual 162, 3) := by decide +kernel
theorem dX7_firstWrong_64 : decode cX7_firstWrong 64 = .ok (.ifCond .eq 7, 3) := by decide +kernel
theorem dX7_firstWrong_67 : decode cX7_firstWrong 67 = .ok (.iconst 0, 1) := by decide +kernel
theorem dX7_firstWrong_68 : decode cX7_firstWrong 68 = .ok (.goto 4, 3) := by decide +kernel
theorem dX7_firstWrong_71 : decode cX7_firstWrong 71 = .ok (.iload_n 3, 1) := by decide +kernel
theorem ab_k49_0 (K : ab_Kt) : ∀ q ∈ ab_l49_0, ab_OK K ab_mt ab_g49 q.1 q.2 := by
  unfold ab_l49_0
  exact List.forall_mem_cons.mpr ⟨ab_aload_n_ok dX7_firstWrong_0 rfl, List.forall_mem_cons.mpr ⟨ab_aload_n_ok dX7_firstWrong_1 rfl, List.forall_mem_cons.mpr ⟨ab_iload_n_ok dX7_firstWrong_2 rfl, List.forall_mem_cons.mpr ⟨ab_callV_ok' (G' := ab_g103) (C := RX7) (T := TX7) (N := 19) dX7_firstWrong_3 ab_m103 rfl rfl (by decide) (by decide) (ab_l4 ab_w411 ab_w412 ab_w413 ab_w8) ab_w414 rfl ⟨by decide, by decide, by decide +kernel⟩, List.forall_mem_cons.mpr ⟨ab_if_eq_ok dX7_firstWrong_6 (by decide), List.forall_mem_cons.mpr ⟨ab_iconst_ok dX7_firstWrong_9 (by decide), List.forall_mem_cons.mpr ⟨ab_goto_ok dX7_firstWrong_10 (by decide), List.forall_mem_cons.mpr ⟨ab_iconst_ok dX7_firstWrong_13 (by decide), List.forall_mem_cons.mpr ⟨ab_callV_ok' (G' := ab_g92) (C := RX7) (T := TX7) (N := 19) dX7_firstWrong_14 ab_m92 rfl rfl (by decide) (by decide) (ab_l4 ab_w364 ab_w365 ab_w366 ab_w8) ab_w367 rfl ⟨by decide, by decide, by decide +kernel⟩, List.forall_mem_cons.mpr ⟨ab_if_eq_ok dX7_firstWrong_17 (by decide), List.forall_mem_cons.mpr ⟨ab_iconst_ok dX7_firstWrong_20 (by decide), List.forall_mem_cons.mpr ⟨ab_iret_ok dX7_firstWrong_21 rfl, List.forall_mem_cons.mpr ⟨ab_aload_n_ok dX7_firstWrong_22 rfl, List.forall_mem_cons.mpr ⟨ab_iload_n_ok dX7_firstWrong_23 rfl, List.forall_mem_cons.mpr ⟨ab_callV_ok' (G' := ab_g104) (C := RX7) (T := TX7) (N := 19) dX7_firstWrong_24 ab_m104 rfl rfl (by decide) (by decide) (ab_l4 ab_w415 ab_w416 ab_w417 ab_w8) ab_w418 rfl ⟨by decide, by decide, by decide +kernel⟩, List.forall_mem_cons.mpr ⟨ab_istore_n_ok dX7_firstWrong_27 rfl, List.forall_mem_cons.mpr ⟨ab_iconst_ok dX7_firstWrong_28 (by decide), List.forall_mem_cons.mpr ⟨ab_istore_n_ok dX7_firstWrong_29 rfl, List.forall_mem_cons.mpr ⟨ab_iload_n_ok dX7_firstWrong_30 rfl, List.forall_mem_cons.mpr ⟨ab_iload_n_ok dX7_firstWrong_31 rfl, List.forall_mem_cons.mpr ⟨ab_icmp_ge_ok dX7_firstWrong_32 (by decide), List.forall_mem_cons.mpr ⟨ab_aload_n_ok dX7_firstWrong_35 rfl, List.forall_mem_cons.mpr ⟨ab_iload_n_ok dX7_firstWrong_36 rfl, List.forall_mem_cons.mpr ⟨ab_iload_n_ok dX7_firstWrong_37 rfl, List.forall_mem_cons.mpr ⟨ab_callV_ok' (G' := ab_g141) (C := RX7) (T := TX7) (N := 19) dX7_firstWrong_38 ab_m141 rfl rfl (by decide) (by decide) (ab_l4 ab_w568 ab_w569 ab_w570 ab_w8) ab_w571 rfl ⟨by decide, by decide, by decide +kernel⟩, List.forall_mem_cons.mpr ⟨ab_if_eq_ok dX7_firstWrong_41 (by decide), List.forall_mem_cons.mpr ⟨ab_iinc_ok dX7_firstWrong_44 (by decide), List.forall_mem_cons.mpr ⟨ab_goto_ok dX7_firstWrong_47 (by decide), List.forall_mem_cons.mpr ⟨ab_aload_n_ok dX7_firstWrong_50 rfl, List.forall_mem_cons.mpr ⟨ab_iload_n_ok dX7_firstWrong_51 rfl, List.forall_mem_cons.mpr ⟨ab_iload_n_ok dX7_firstWrong_52 rfl, List.forall_mem_cons.mpr ⟨ab_icmp_ne_ok dX7_firstWrong_53 (by decide), List.forall_mem_cons.mpr ⟨ab_iconst_ok dX7_firstWrong_56 (by decide), List.forall_mem_cons.mpr ⟨ab_goto_ok dX7_firstWrong_57 (by decide), List.forall_mem_cons.mpr ⟨ab_iconst_ok dX7_firstWrong_60 (by decide), List.forall_mem_cons.mpr ⟨ab_callV_ok' (G' := ab_g92) (C := RX7) (T := TX7) (N := 19) dX7_firstWrong_61 ab_m92 rfl rfl (by decide) (by decide) (ab_l4 ab_w364 ab_w365 ab_w366 ab_w8) ab_w367 rfl ⟨by decide, by decide, by decide +kernel⟩, List.forall_mem_cons.mpr ⟨ab_if_eq_ok dX7_firstWrong_64 (by decide), List.forall_mem_cons.mpr ⟨ab_iconst_ok dX7_firstWrong_67 (by decide), List.forall_mem_cons.mpr ⟨ab_goto_ok dX7_firstWrong_68 (by decide), List.forall_mem_cons.mpr ⟨ab_iload_n_ok dX7_firstWrong_71 rfl, fun _ h => absurd h List.not_mem_nil⟩⟩⟩⟩⟩⟩⟩⟩⟩⟩⟩⟩⟩⟩⟩⟩⟩⟩⟩⟩⟩⟩⟩⟩⟩⟩⟩⟩⟩⟩⟩⟩⟩⟩⟩⟩⟩⟩⟩⟩
theorem dX7_firstWrong_72 : decode cX7_firstWrong 72 = .ok (.ireturn, 1) := by decide +kernel
theorem ab_k49_1 (K : ab_Kt) : ∀ q ∈ ab_l49_1, ab_OK K ab_mt ab_g49 q.1 q.2 := by
  unfold ab_l49_1
  exact List.forall_mem_cons.mpr ⟨ab_iret_ok dX7_firstWrong_72 rfl, fun _ h => absurd h List.not_mem_nil⟩
theorem ab_k49 (K : ab_Kt) : ∀ pc, ab_OK K ab_mt ab_g49 pc (ab_c49 pc) := ab_lk2_ok _ (List.forall_mem_cons.mpr ⟨ab_k49_0 K, List.forall_mem_cons.mpr ⟨ab_k49_1 K, fun _ h => absurd h List.not_mem_nil⟩⟩)
theorem dL_wrongAgain_0 : decode cL_wrongAgain 0 = .ok (.aload_n 2, 1) := by decide +kernel
theorem dL_wrongAgain_1 : decode cL_wrongAgain 1 = .ok (.iconst 0, 1) := by decide +kernel
theorem dL_wrongAgain_2 : decode cL_wrongAgain 2 = .ok (.aload_n 0, 1) := by decide +kernel
theorem dL_wrongAgain_3 : decode cL_wrongAgain 3 = .ok (.iload_n 1, 1) := by decide +kernel
theorem dL_wrongAgain_4 : decode cL_wrongAgain 4 = .ok (.invokevirtual 70, 3) := by decide +kernel
theorem dL_wrongAgain_7 : decode cL_wrongAgain 7 = .ok (.i2l, 1) := by decide +kernel
theorem dL_wrongAgain_8 : decode cL_wrongAgain 8 = .ok (.lastore, 1) := by decide +kernel
theorem dL_wrongAgain_9 : decode cL_wrongAgain 9 = .ok (.goto 6, 3) := by decide +kernel
theorem dL_wrongAgain_12 : decode cL_wrongAgain 12 = .ok (.astore_n 3, 1) := by decide +kernel
theorem dL_wrongAgain_13 : decode cL_wrongAgain 13 = .ok (.iconst 1, 1) := by decide +kernel
theorem dL_wrongAgain_14 : decode cL_wrongAgain 14 = .ok (.ireturn, 1) := by decide +kernel
theorem dL_wrongAgain_15 : decode cL_wrongAgain 15 = .ok (.iconst 0, 1) := by decide +kernel
theorem dL_wrongAgain_16 : decode cL_wrongAgain 16 = .ok (.ireturn, 1) := by decide +kernel
theorem ab_k50_0 (K : ab_Kt) : ∀ q ∈ ab_l50_0, ab_OK K ab_mt ab_g50 q.1 q.2 := by
  unfold ab_l50_0
  exact List.forall_mem_cons.mpr ⟨ab_aload_n_ok dL_wrongAgain_0 rfl, List.forall_mem_cons.mpr ⟨ab_iconst_ok dL_wrongAgain_1 (by decide), List.forall_mem_cons.mpr ⟨ab_aload_n_ok dL_wrongAgain_2 rfl, List.forall_mem_cons.mpr ⟨ab_iload_n_ok dL_wrongAgain_3 rfl, List.forall_mem_cons.mpr ⟨ab_callV_ok' (G' := ab_g142) (C := RX6) (T := TX6) (N := 9) dL_wrongAgain_4 ab_m142 rfl rfl (by decide) (by decide) (ab_l4 ab_w572 ab_w573 ab_w574 ab_w2) ab_w575 rfl ⟨by decide, by decide, by decide +kernel⟩, List.forall_mem_cons.mpr ⟨ab_i2l_ok dL_wrongAgain_7, List.forall_mem_cons.mpr ⟨ab_last_ok dL_wrongAgain_8, List.forall_mem_cons.mpr ⟨ab_goto_ok dL_wrongAgain_9 (by decide), List.forall_mem_cons.mpr ⟨ab_astore_n_ok dL_wrongAgain_12 rfl, List.forall_mem_cons.mpr ⟨ab_iconst_ok dL_wrongAgain_13 (by decide), List.forall_mem_cons.mpr ⟨ab_iret_ok dL_wrongAgain_14 rfl, List.forall_mem_cons.mpr ⟨ab_iconst_ok dL_wrongAgain_15 (by decide), List.forall_mem_cons.mpr ⟨ab_iret_ok dL_wrongAgain_16 rfl, fun _ h => absurd h List.not_mem_nil⟩⟩⟩⟩⟩⟩⟩⟩⟩⟩⟩⟩⟩
theorem ab_k50 (K : ab_Kt) : ∀ pc, ab_OK K ab_mt ab_g50 pc (ab_c50 pc) := ab_lk2_ok _ (List.forall_mem_cons.mpr ⟨ab_k50_0 K, fun _ h => absurd h List.not_mem_nil⟩)
theorem dX7_wrongAgain_0 : decode cX7_wrongAgain 0 = .ok (.aload_n 0, 1) := by decide +kernel
theorem dX7_wrongAgain_1 : decode cX7_wrongAgain 1 = .ok (.aload_n 0, 1) := by decide +kernel
theorem dX7_wrongAgain_2 : decode cX7_wrongAgain 2 = .ok (.iload_n 1, 1) := by decide +kernel
theorem dX7_wrongAgain_3 : decode cX7_wrongAgain 3 = .ok (.invokevirtual 94, 3) := by decide +kernel
theorem dX7_wrongAgain_6 : decode cX7_wrongAgain 6 = .ok (.ifCond .eq 7, 3) := by decide +kernel
theorem dX7_wrongAgain_9 : decode cX7_wrongAgain 9 = .ok (.iconst 0, 1) := by decide +kernel
theorem dX7_wrongAgain_10 : decode cX7_wrongAgain 10 = .ok (.goto 4, 3) := by decide +kernel
theorem dX7_wrongAgain_13 : decode cX7_wrongAgain 13 = .ok (.iconst 1, 1) := by decide +kernel
theorem dX7_wrongAgain_14 : decode cX7_wrongAgain 14 = .ok (.invokevirtual 162, 3) := by decide +kernel
theorem dX7_wrongAgain_17 : decode cX7_wrongAgain 17 = .ok (.ifCond .eq 5, 3) := by decide +kernel
theorem dX7_wrongAgain_20 : decode cX7_wrongAgain 20 = .ok (.iconst 0, 1) := by decide +kernel
theorem dX7_wrongAgain_21 : decode cX7_wrongAgain 21 = .ok (.ireturn, 1) := by decide +kernel
theorem dX7_wrongAgain_22 : decode cX7_wrongAgain 22 = .ok (.aload_n 0, 1) := by decide +kernel
theorem dX7_wrongAgain_23 : decode cX7_wrongAgain 23 = .ok (.iload_n 1, 1) := by decide +kernel
theorem dX7_wrongAgain_24 : decode cX7_wrongAgain 24 = .ok (.invokevirtual 80, 3) := by decide +kernel
theorem dX7_wrongAgain_27 : decode cX7_wrongAgain 27 = .ok (.istore_n 2, 1) := by decide +kernel
theorem dX7_wrongAgain_28 : decode cX7_wrongAgain 28 = .ok (.iconst 0, 1) := by decide +kernel
theorem dX7_wrongAgain_29 : decode cX7_wrongAgain 29 = .ok (.istore_n 3, 1) := by decide +kernel
theorem dX7_wrongAgain_30 : decode cX7_wrongAgain 30 = .ok (.iload_n 3, 1) := by decide +kernel
theorem dX7_wrongAgain_31 : decode cX7_wrongAgain 31 = .ok (.aload_n 0, 1) := by decide +kernel
theorem dX7_wrongAgain_32 : decode cX7_wrongAgain 32 = .ok (.iload_n 1, 1) := by decide +kernel
theorem dX7_wrongAgain_33 : decode cX7_wrongAgain 33 = .ok (.iconst 3, 1) := by decide +kernel
theorem dX7_wrongAgain_34 : decode cX7_wrongAgain 34 = .ok (.invokevirtual 63, 3) := by decide +kernel
theorem dX7_wrongAgain_37 : decode cX7_wrongAgain 37 = .ok (.if_icmp .ge 18, 3) := by decide +kernel
theorem dX7_wrongAgain_40 : decode cX7_wrongAgain 40 = .ok (.iload_n 2, 1) := by decide +kernel
theorem dX7_wrongAgain_41 : decode cX7_wrongAgain 41 = .ok (.aload_n 0, 1) := by decide +kernel
theorem dX7_wrongAgain_42 : decode cX7_wrongAgain 42 = .ok (.iload_n 1, 1) := by decide +kernel
theorem dX7_wrongAgain_43 : decode cX7_wrongAgain 43 = .ok (.iload_n 3, 1) := by decide +kernel
theorem dX7_wrongAgain_44 : decode cX7_wrongAgain 44 = .ok (.invokevirtual 168, 3) := by decide +kernel
theorem dX7_wrongAgain_47 : decode cX7_wrongAgain 47 = .ok (.isub, 1) := by decide +kernel
theorem dX7_wrongAgain_48 : decode cX7_wrongAgain 48 = .ok (.istore_n 2, 1) := by decide +kernel
theorem dX7_wrongAgain_49 : decode cX7_wrongAgain 49 = .ok (.iinc 3 1, 3) := by decide +kernel
theorem dX7_wrongAgain_52 : decode cX7_wrongAgain 52 = .ok (.goto (-22), 3) := by decide +kernel
theorem dX7_wrongAgain_55 : decode cX7_wrongAgain 55 = .ok (.iload_n 2, 1) := by decide +kernel
theorem dX7_wrongAgain_56 : decode cX7_wrongAgain 56 = .ok (.ireturn, 1) := by decide +kernel
theorem ab_k51_0 (K : ab_Kt) : ∀ q ∈ ab_l51_0, ab_OK K ab_mt ab_g51 q.1 q.2 := by
  unfold ab_l51_0
  exact List.forall_mem_cons.mpr ⟨ab_aload_n_ok dX7_wrongAgain_0 rfl, List.forall_mem_cons.mpr ⟨ab_aload_n_ok dX7_wrongAgain_1 rfl, List.forall_mem_cons.mpr ⟨ab_iload_n_ok dX7_wrongAgain_2 rfl, List.forall_mem_cons.mpr ⟨ab_callV_ok' (G' := ab_g103) (C := RX7) (T := TX7) (N := 19) dX7_wrongAgain_3 ab_m103 rfl rfl (by decide) (by decide) (ab_l4 ab_w411 ab_w412 ab_w413 ab_w8) ab_w414 rfl ⟨by decide, by decide, by decide +kernel⟩, List.forall_mem_cons.mpr ⟨ab_if_eq_ok dX7_wrongAgain_6 (by decide), List.forall_mem_cons.mpr ⟨ab_iconst_ok dX7_wrongAgain_9 (by decide), List.forall_mem_cons.mpr ⟨ab_goto_ok dX7_wrongAgain_10 (by decide), List.forall_mem_cons.mpr ⟨ab_iconst_ok dX7_wrongAgain_13 (by decide), List.forall_mem_cons.mpr ⟨ab_callV_ok' (G' := ab_g92) (C := RX7) (T := TX7) (N := 19) dX7_wrongAgain_14 ab_m92 rfl rfl (by decide) (by decide) (ab_l4 ab_w364 ab_w365 ab_w366 ab_w8) ab_w367 rfl ⟨by decide, by decide, by decide +kernel⟩, List.forall_mem_cons.mpr ⟨ab_if_eq_ok dX7_wrongAgain_17 (by decide), List.forall_mem_cons.mpr ⟨ab_iconst_ok dX7_wrongAgain_20 (by decide), List.forall_mem_cons.mpr ⟨ab_iret_ok dX7_wrongAgain_21 rfl, List.forall_mem_cons.mpr ⟨ab_aload_n_ok dX7_wrongAgain_22 rfl, List.forall_mem_cons.mpr ⟨ab_iload_n_ok dX7_wrongAgain_23 rfl, List.forall_mem_cons.mpr ⟨ab_callV_ok' (G' := ab_g104) (C := RX7) (T := TX7) (N := 19) dX7_wrongAgain_24 ab_m104 rfl rfl (by decide) (by decide) (ab_l4 ab_w415 ab_w416 ab_w417 ab_w8) ab_w418 rfl ⟨by decide, by decide, by decide +kernel⟩, List.forall_mem_cons.mpr ⟨ab_istore_n_ok dX7_wrongAgain_27 rfl, List.forall_mem_cons.mpr ⟨ab_iconst_ok dX7_wrongAgain_28 (by decide), List.forall_mem_cons.mpr ⟨ab_istore_n_ok dX7_wrongAgain_29 rfl, List.forall_mem_cons.mpr ⟨ab_iload_n_ok dX7_wrongAgain_30 rfl, List.forall_mem_cons.mpr ⟨ab_aload_n_ok dX7_wrongAgain_31 rfl, List.forall_mem_cons.mpr ⟨ab_iload_n_ok dX7_wrongAgain_32 rfl, List.forall_mem_cons.mpr ⟨ab_iconst_ok dX7_wrongAgain_33 (by decide), List.forall_mem_cons.mpr ⟨ab_callV_ok' (G' := ab_g110) (C := RX7) (T := TX7) (N := 19) dX7_wrongAgain_34 ab_m110 rfl rfl (by decide) (by decide) (ab_l4 ab_w440 ab_w441 ab_w442 ab_w8) ab_w443 rfl ⟨by decide, by decide, by decide +kernel⟩, List.forall_mem_cons.mpr ⟨ab_icmp_ge_ok dX7_wrongAgain_37 (by decide), List.forall_mem_cons.mpr ⟨ab_iload_n_ok dX7_wrongAgain_40 rfl, List.forall_mem_cons.mpr ⟨ab_aload_n_ok dX7_wrongAgain_41 rfl, List.forall_mem_cons.mpr ⟨ab_iload_n_ok dX7_wrongAgain_42 rfl, List.forall_mem_cons.mpr ⟨ab_iload_n_ok dX7_wrongAgain_43 rfl, List.forall_mem_cons.mpr ⟨ab_callV_ok' (G' := ab_g143) (C := RX7) (T := TX7) (N := 19) dX7_wrongAgain_44 ab_m143 rfl rfl (by decide) (by decide) (ab_l4 ab_w576 ab_w577 ab_w578 ab_w8) ab_w579 rfl ⟨by decide, by decide, by decide +kernel⟩, List.forall_mem_cons.mpr ⟨ab_isub_ok dX7_wrongAgain_47, List.forall_mem_cons.mpr ⟨ab_istore_n_ok dX7_wrongAgain_48 rfl, List.forall_mem_cons.mpr ⟨ab_iinc_ok dX7_wrongAgain_49 (by decide), List.forall_mem_cons.mpr ⟨ab_goto_ok dX7_wrongAgain_52 (by decide), List.forall_mem_cons.mpr ⟨ab_iload_n_ok dX7_wrongAgain_55 rfl, List.forall_mem_cons.mpr ⟨ab_iret_ok dX7_wrongAgain_56 rfl, fun _ h => absurd h List.not_mem_nil⟩⟩⟩⟩⟩⟩⟩⟩⟩⟩⟩⟩⟩⟩⟩⟩⟩⟩⟩⟩⟩⟩⟩⟩⟩⟩⟩⟩⟩⟩⟩⟩⟩⟩⟩
theorem ab_k51 (K : ab_Kt) : ∀ pc, ab_OK K ab_mt ab_g51 pc (ab_c51 pc) := ab_lk2_ok _ (List.forall_mem_cons.mpr ⟨ab_k51_0 K, fun _ h => absurd h List.not_mem_nil⟩)
theorem dL_wrong_0 : decode cL_wrong 0 = .ok (.aload_n 2, 1) := by decide +kernel
theorem dL_wrong_1 : decode cL_wrong 1 = .ok (.iconst 0, 1) := by decide +kernel
theorem dL_wrong_2 : decode cL_wrong 2 = .ok (.aload_n 0, 1) := by decide +kernel
theorem dL_wrong_3 : decode cL_wrong 3 = .ok (.iload_n 1, 1) := by decide +kernel
theorem dL_wrong_4 : decode cL_wrong 4 = .ok (.invokevirtual 67, 3) := by decide +kernel
theorem dL_wrong_7 : decode cL_wrong 7 = .ok (.i2l, 1) := by decide +kernel
theorem dL_wrong_8 : decode cL_wrong 8 = .ok (.lastore, 1) := by decide +kernel
theorem dL_wrong_9 : decode cL_wrong 9 = .ok (.goto 6, 3) := by decide +kernel
theorem dL_wrong_12 : decode cL_wrong 12 = .ok (.astore_n 3, 1) := by decide +kernel
theorem dL_wrong_13 : decode cL_wrong 13 = .ok (.iconst 1, 1) := by decide +kernel
theorem dL_wrong_14 : decode cL_wrong 14 = .ok (.ireturn, 1) := by decide +kernel
theorem dL_wrong_15 : decode cL_wrong 15 = .ok (.iconst 0, 1) := by decide +kernel
theorem dL_wrong_16 : decode cL_wrong 16 = .ok (.ireturn, 1) := by decide +kernel
theorem ab_k52_0 (K : ab_Kt) : ∀ q ∈ ab_l52_0, ab_OK K ab_mt ab_g52 q.1 q.2 := by
  unfold ab_l52_0
  exact List.forall_mem_cons.mpr ⟨ab_aload_n_ok dL_wrong_0 rfl, List.forall_mem_cons.mpr ⟨ab_iconst_ok dL_wrong_1 (by decide), List.forall_mem_cons.mpr ⟨ab_aload_n_ok dL_wrong_2 rfl, List.forall_mem_cons.mpr ⟨ab_iload_n_ok dL_wrong_3 rfl, List.forall_mem_cons.mpr ⟨ab_callV_ok' (G' := ab_g144) (C := RX6) (T := TX6) (N := 9) dL_wrong_4 ab_m144 rfl rfl (by decide) (by decide) (ab_l4 ab_w580 ab_w581 ab_w582 ab_w2) ab_w583 rfl ⟨by decide, by decide, by decide +kernel⟩, List.forall_mem_cons.mpr ⟨ab_i2l_ok dL_wrong_7, List.forall_mem_cons.mpr ⟨ab_last_ok dL_wrong_8, List.forall_mem_cons.mpr ⟨ab_goto_ok dL_wrong_9 (by decide), List.forall_mem_cons.mpr ⟨ab_astore_n_ok dL_wrong_12 rfl, List.forall_mem_cons.mpr ⟨ab_iconst_ok dL_wrong_13 (by decide), List.forall_mem_cons.mpr ⟨ab_iret_ok dL_wrong_14 rfl, List.forall_mem_cons.mpr ⟨ab_iconst_ok dL_wrong_15 (by decide), List.forall_mem_cons.mpr ⟨ab_iret_ok dL_wrong_16 rfl, fun _ h => absurd h List.not_mem_nil⟩⟩⟩⟩⟩⟩⟩⟩⟩⟩⟩⟩⟩
theorem ab_k52 (K : ab_Kt) : ∀ pc, ab_OK K ab_mt ab_g52 pc (ab_c52 pc) := ab_lk2_ok _ (List.forall_mem_cons.mpr ⟨ab_k52_0 K, fun _ h => absurd h List.not_mem_nil⟩)
theorem dX7_wrong_0 : decode cX7_wrong 0 = .ok (.aload_n 0, 1) := by decide +kernel
theorem dX7_wrong_1 : decode cX7_wrong 1 = .ok (.aload_n 0, 1) := by decide +kernel
theorem dX7_wrong_2 : decode cX7_wrong 2 = .ok (.iload_n 1, 1) := by decide +kernel
theorem dX7_wrong_3 : decode cX7_wrong 3 = .ok (.invokevirtual 94, 3) := by decide +kernel
theorem dX7_wrong_6 : decode cX7_wrong 6 = .ok (.ifCond .eq 7, 3) := by decide +kernel
theorem dX7_wrong_9 : decode cX7_wrong 9 = .ok (.iconst 0, 1) := by decide +kernel
theorem dX7_wrong_10 : decode cX7_wrong 10 = .ok (.goto 4, 3) := by decide +kernel
theorem dX7_wrong_13 : decode cX7_wrong 13 = .ok (.iconst 1, 1) := by decide +kernel
theorem dX7_wrong_14 : decode cX7_wrong 14 = .ok (.invokevirtual 162, 3) := by decide +kernel
theorem dX7_wrong_17 : decode cX7_wrong 17 = .ok (.ifCond .eq 7, 3) := by decide +kernel
theorem dX7_wrong_20 : decode cX7_wrong 20 = .ok (.iconst 0, 1) := by decide +kernel
theorem dX7_wrong_21 : decode cX7_wrong 21 = .ok (.goto 8, 3) := by decide +kernel
theorem dX7_wrong_24 : decode cX7_wrong 24 = .ok (.aload_n 0, 1) := by decide +kernel
theorem dX7_wrong_25 : decode cX7_wrong 25 = .ok (.iload_n 1, 1) := by decide +kernel
theorem dX7_wrong_26 : decode cX7_wrong 26 = .ok (.invokevirtual 125, 3) := by decide +kernel
theorem dX7_wrong_29 : decode cX7_wrong 29 = .ok (.ireturn, 1) := by decide +kernel
theorem ab_k53_0 (K : ab_Kt) : ∀ q ∈ ab_l53_0, ab_OK K ab_mt ab_g53 q.1 q.2 := by
  unfold ab_l53_0
  exact List.forall_mem_cons.mpr ⟨ab_aload_n_ok dX7_wrong_0 rfl, List.forall_mem_cons.mpr ⟨ab_aload_n_ok dX7_wrong_1 rfl, List.forall_mem_cons.mpr ⟨ab_iload_n_ok dX7_wrong_2 rfl, List.forall_mem_cons.mpr ⟨ab_callV_ok' (G' := ab_g103) (C := RX7) (T := TX7) (N := 19) dX7_wrong_3 ab_m103 rfl rfl (by decide) (by decide) (ab_l4 ab_w411 ab_w412 ab_w413 ab_w8) ab_w414 rfl ⟨by decide, by decide, by decide +kernel⟩, List.forall_mem_cons.mpr ⟨ab_if_eq_ok dX7_wrong_6 (by decide), List.forall_mem_cons.mpr ⟨ab_iconst_ok dX7_wrong_9 (by decide), List.forall_mem_cons.mpr ⟨ab_goto_ok dX7_wrong_10 (by decide), List.forall_mem_cons.mpr ⟨ab_iconst_ok dX7_wrong_13 (by decide), List.forall_mem_cons.mpr ⟨ab_callV_ok' (G' := ab_g92) (C := RX7) (T := TX7) (N := 19) dX7_wrong_14 ab_m92 rfl rfl (by decide) (by decide) (ab_l4 ab_w364 ab_w365 ab_w366 ab_w8) ab_w367 rfl ⟨by decide, by decide, by decide +kernel⟩, List.forall_mem_cons.mpr ⟨ab_if_eq_ok dX7_wrong_17 (by decide), List.forall_mem_cons.mpr ⟨ab_iconst_ok dX7_wrong_20 (by decide), List.forall_mem_cons.mpr ⟨ab_goto_ok dX7_wrong_21 (by decide), List.forall_mem_cons.mpr ⟨ab_aload_n_ok dX7_wrong_24 rfl, List.forall_mem_cons.mpr ⟨ab_iload_n_ok dX7_wrong_25 rfl, List.forall_mem_cons.mpr ⟨ab_callV_ok' (G' := ab_g105) (C := RX7) (T := TX7) (N := 19) dX7_wrong_26 ab_m105 rfl rfl (by decide) (by decide) (ab_l4 ab_w419 ab_w420 ab_w421 ab_w8) ab_w422 rfl ⟨by decide, by decide, by decide +kernel⟩, List.forall_mem_cons.mpr ⟨ab_iret_ok dX7_wrong_29 rfl, fun _ h => absurd h List.not_mem_nil⟩⟩⟩⟩⟩⟩⟩⟩⟩⟩⟩⟩⟩⟩⟩⟩
theorem ab_k53 (K : ab_Kt) : ∀ pc, ab_OK K ab_mt ab_g53 pc (ab_c53 pc) := ab_lk2_ok _ (List.forall_mem_cons.mpr ⟨ab_k53_0 K, fun _ h => absurd h List.not_mem_nil⟩)
theorem dL_pageAt_0 : decode cL_pageAt 0 = .ok (.aload_n 3, 1) := by decide +kernel
theorem dL_pageAt_1 : decode cL_pageAt 1 = .ok (.iconst 0, 1) := by decide +kernel
theorem dL_pageAt_2 : decode cL_pageAt 2 = .ok (.aload_n 0, 1) := by decide +kernel
theorem dL_pageAt_3 : decode cL_pageAt 3 = .ok (.iload_n 1, 1) := by decide +kernel
theorem dL_pageAt_4 : decode cL_pageAt 4 = .ok (.iload_n 2, 1) := by decide +kernel
theorem dL_pageAt_5 : decode cL_pageAt 5 = .ok (.invokevirtual 64, 3) := by decide +kernel
theorem dL_pageAt_8 : decode cL_pageAt 8 = .ok (.i2l, 1) := by decide +kernel
theorem dL_pageAt_9 : decode cL_pageAt 9 = .ok (.lastore, 1) := by decide +kernel
theorem dL_pageAt_10 : decode cL_pageAt 10 = .ok (.goto 7, 3) := by decide +kernel
theorem dL_pageAt_13 : decode cL_pageAt 13 = .ok (.astore 4, 2) := by decide +kernel
theorem dL_pageAt_15 : decode cL_pageAt 15 = .ok (.iconst 1, 1) := by decide +kernel
theorem dL_pageAt_16 : decode cL_pageAt 16 = .ok (.ireturn, 1) := by decide +kernel
theorem dL_pageAt_17 : decode cL_pageAt 17 = .ok (.iconst 0, 1) := by decide +kernel
theorem dL_pageAt_18 : decode cL_pageAt 18 = .ok (.ireturn, 1) := by decide +kernel
theorem ab_k54_0 (K : ab_Kt) : ∀ q ∈ ab_l54_0, ab_OK K ab_mt ab_g54 q.1 q.2 := by
  unfold ab_l54_0
  exact List.forall_mem_cons.mpr ⟨ab_aload_n_ok dL_pageAt_0 rfl, List.forall_mem_cons.mpr ⟨ab_iconst_ok dL_pageAt_1 (by decide), List.forall_mem_cons.mpr ⟨ab_aload_n_ok dL_pageAt_2 rfl, List.forall_mem_cons.mpr ⟨ab_iload_n_ok dL_pageAt_3 rfl, List.forall_mem_cons.mpr ⟨ab_iload_n_ok dL_pageAt_4 rfl, List.forall_mem_cons.mpr ⟨ab_callV_ok' (G' := ab_g145) (C := RX6) (T := TX6) (N := 9) dL_pageAt_5 ab_m145 rfl rfl (by decide) (by decide) (ab_l4 ab_w584 ab_w585 ab_w586 ab_w2) ab_w587 rfl ⟨by decide, by decide, by decide +kernel⟩, List.forall_mem_cons.mpr ⟨ab_i2l_ok dL_pageAt_8, List.forall_mem_cons.mpr ⟨ab_last_ok dL_pageAt_9, List.forall_mem_cons.mpr ⟨ab_goto_ok dL_pageAt_10 (by decide), List.forall_mem_cons.mpr ⟨ab_astore_ok dL_pageAt_13, List.forall_mem_cons.mpr ⟨ab_iconst_ok dL_pageAt_15 (by decide), List.forall_mem_cons.mpr ⟨ab_iret_ok dL_pageAt_16 rfl, List.forall_mem_cons.mpr ⟨ab_iconst_ok dL_pageAt_17 (by decide), List.forall_mem_cons.mpr ⟨ab_iret_ok dL_pageAt_18 rfl, fun _ h => absurd h List.not_mem_nil⟩⟩⟩⟩⟩⟩⟩⟩⟩⟩⟩⟩⟩⟩
theorem ab_k54 (K : ab_Kt) : ∀ pc, ab_OK K ab_mt ab_g54 pc (ab_c54 pc) := ab_lk2_ok _ (List.forall_mem_cons.mpr ⟨ab_k54_0 K, fun _ h => absurd h List.not_mem_nil⟩)
theorem dX7_pageAt_0 : decode cX7_pageAt 0 = .ok (.aload_n 0, 1) := by decide +kernel
theorem dX7_pageAt_1 : decode cX7_pageAt 1 = .ok (.aload_n 0, 1) := by decide +kernel
theorem dX7_pageAt_2 : decode cX7_pageAt 2 = .ok (.iload_n 1, 1) := by decide +kernel
theorem dX7_pageAt_3 : decode cX7_pageAt 3 = .ok (.iload_n 2, 1) := by decide +kernel
theorem dX7_pageAt_4 : decode cX7_pageAt 4 = .ok (.invokevirtual 165, 3) := by decide +kernel
theorem dX7_pageAt_7 : decode cX7_pageAt 7 = .ok (.ifCond .eq 7, 3) := by decide +kernel
theorem dX7_pageAt_10 : decode cX7_pageAt 10 = .ok (.iconst 0, 1) := by decide +kernel
theorem dX7_pageAt_11 : decode cX7_pageAt 11 = .ok (.goto 4, 3) := by decide +kernel
theorem dX7_pageAt_14 : decode cX7_pageAt 14 = .ok (.iconst 1, 1) := by decide +kernel
theorem dX7_pageAt_15 : decode cX7_pageAt 15 = .ok (.invokevirtual 162, 3) := by decide +kernel
theorem dX7_pageAt_18 : decode cX7_pageAt 18 = .ok (.ifCond .eq 7, 3) := by decide +kernel
theorem dX7_pageAt_21 : decode cX7_pageAt 21 = .ok (.iconst 0, 1) := by decide +kernel
theorem dX7_pageAt_22 : decode cX7_pageAt 22 = .ok (.goto 9, 3) := by decide +kernel
theorem dX7_pageAt_25 : decode cX7_pageAt 25 = .ok (.aload_n 0, 1) := by decide +kernel
theorem dX7_pageAt_26 : decode cX7_pageAt 26 = .ok (.iload_n 1, 1) := by decide +kernel
theorem dX7_pageAt_27 : decode cX7_pageAt 27 = .ok (.iload_n 2, 1) := by decide +kernel
theorem dX7_pageAt_28 : decode cX7_pageAt 28 = .ok (.invokevirtual 77, 3) := by decide +kernel
theorem dX7_pageAt_31 : decode cX7_pageAt 31 = .ok (.ireturn, 1) := by decide +kernel
theorem ab_k55_0 (K : ab_Kt) : ∀ q ∈ ab_l55_0, ab_OK K ab_mt ab_g55 q.1 q.2 := by
  unfold ab_l55_0
  exact List.forall_mem_cons.mpr ⟨ab_aload_n_ok dX7_pageAt_0 rfl, List.forall_mem_cons.mpr ⟨ab_aload_n_ok dX7_pageAt_1 rfl, List.forall_mem_cons.mpr ⟨ab_iload_n_ok dX7_pageAt_2 rfl, List.forall_mem_cons.mpr ⟨ab_iload_n_ok dX7_pageAt_3 rfl, List.forall_mem_cons.mpr ⟨ab_callV_ok' (G' := ab_g129) (C := RX7) (T := TX7) (N := 19) dX7_pageAt_4 ab_m129 rfl rfl (by decide) (by decide) (ab_l4 ab_w520 ab_w521 ab_w522 ab_w8) ab_w523 rfl ⟨by decide, by decide, by decide +kernel⟩, List.forall_mem_cons.mpr ⟨ab_if_eq_ok dX7_pageAt_7 (by decide), List.forall_mem_cons.mpr ⟨ab_iconst_ok dX7_pageAt_10 (by decide), List.forall_mem_cons.mpr ⟨ab_goto_ok dX7_pageAt_11 (by decide), List.forall_mem_cons.mpr ⟨ab_iconst_ok dX7_pageAt_14 (by decide), List.forall_mem_cons.mpr ⟨ab_callV_ok' (G' := ab_g92) (C := RX7) (T := TX7) (N := 19) dX7_pageAt_15 ab_m92 rfl rfl (by decide) (by decide) (ab_l4 ab_w364 ab_w365 ab_w366 ab_w8) ab_w367 rfl ⟨by decide, by decide, by decide +kernel⟩, List.forall_mem_cons.mpr ⟨ab_if_eq_ok dX7_pageAt_18 (by decide), List.forall_mem_cons.mpr ⟨ab_iconst_ok dX7_pageAt_21 (by decide), List.forall_mem_cons.mpr ⟨ab_goto_ok dX7_pageAt_22 (by decide), List.forall_mem_cons.mpr ⟨ab_aload_n_ok dX7_pageAt_25 rfl, List.forall_mem_cons.mpr ⟨ab_iload_n_ok dX7_pageAt_26 rfl, List.forall_mem_cons.mpr ⟨ab_iload_n_ok dX7_pageAt_27 rfl, List.forall_mem_cons.mpr ⟨ab_callV_ok' (G' := ab_g146) (C := RX7) (T := TX7) (N := 19) dX7_pageAt_28 ab_m146 rfl rfl (by decide) (by decide) (ab_l4 ab_w588 ab_w589 ab_w590 ab_w8) ab_w591 rfl ⟨by decide, by decide, by decide +kernel⟩, List.forall_mem_cons.mpr ⟨ab_iret_ok dX7_pageAt_31 rfl, fun _ h => absurd h List.not_mem_nil⟩⟩⟩⟩⟩⟩⟩⟩⟩⟩⟩⟩⟩⟩⟩⟩⟩⟩
theorem ab_k55 (K : ab_Kt) : ∀ pc, ab_OK K ab_mt ab_g55 pc (ab_c55 pc) := ab_lk2_ok _ (List.forall_mem_cons.mpr ⟨ab_k55_0 K, fun _ h => absurd h List.not_mem_nil⟩)
theorem dL_signatureOf_0 : decode cL_signatureOf 0 = .ok (.aload 4, 2) := by decide +kernel
theorem dL_signatureOf_2 : decode cL_signatureOf 2 = .ok (.iconst 0, 1) := by decide +kernel
theorem dL_signatureOf_3 : decode cL_signatureOf 3 = .ok (.aload_n 0, 1) := by decide +kernel
theorem dL_signatureOf_4 : decode cL_signatureOf 4 = .ok (.iload_n 1, 1) := by decide +kernel
theorem dL_signatureOf_5 : decode cL_signatureOf 5 = .ok (.iload_n 2, 1) := by decide +kernel
theorem dL_signatureOf_6 : decode cL_signatureOf 6 = .ok (.iload_n 3, 1) := by decide +kernel
theorem dL_signatureOf_7 : decode cL_signatureOf 7 = .ok (.invokevirtual 61, 3) := by decide +kernel
theorem dL_signatureOf_10 : decode cL_signatureOf 10 = .ok (.i2l, 1) := by decide +kernel
theorem dL_signatureOf_11 : decode cL_signatureOf 11 = .ok (.lastore, 1) := by decide +kernel
theorem dL_signatureOf_12 : decode cL_signatureOf 12 = .ok (.goto 11, 3) := by decide +kernel
theorem dL_signatureOf_15 : decode cL_signatureOf 15 = .ok (.astore 5, 2) := by decide +kernel
theorem dL_signatureOf_17 : decode cL_signatureOf 17 = .ok (.iconst 1, 1) := by decide +kernel
theorem dL_signatureOf_18 : decode cL_signatureOf 18 = .ok (.ireturn, 1) := by decide +kernel
theorem dL_signatureOf_19 : decode cL_signatureOf 19 = .ok (.astore 5, 2) := by decide +kernel
theorem dL_signatureOf_21 : decode cL_signatureOf 21 = .ok (.iconst 2, 1) := by decide +kernel
theorem dL_signatureOf_22 : decode cL_signatureOf 22 = .ok (.ireturn, 1) := by decide +kernel
theorem dL_signatureOf_23 : decode cL_signatureOf 23 = .ok (.iconst 0, 1) := by decide +kernel
theorem dL_signatureOf_24 : decode cL_signatureOf 24 = .ok (.ireturn, 1) := by decide +kernel
theorem ab_k56_0 (K : ab_Kt) : ∀ q ∈ ab_l56_0, ab_OK K ab_mt ab_g56 q.1 q.2 := by
  unfold ab_l56_0
  exact List.forall_mem_cons.mpr ⟨ab_aload_ok dL_signatureOf_0, List.forall_mem_cons.mpr ⟨ab_iconst_ok dL_signatureOf_2 (by decide), List.forall_mem_cons.mpr ⟨ab_aload_n_ok dL_signatureOf_3 rfl, List.forall_mem_cons.mpr ⟨ab_iload_n_ok dL_signatureOf_4 rfl, List.forall_mem_cons.mpr ⟨ab_iload_n_ok dL_signatureOf_5 rfl, List.forall_mem_cons.mpr ⟨ab_iload_n_ok dL_signatureOf_6 rfl, List.forall_mem_cons.mpr ⟨ab_callV_ok' (G' := ab_g147) (C := RX6) (T := TX6) (N := 9) dL_signatureOf_7 ab_m147 rfl rfl (by decide) (by decide) (ab_l4 ab_w592 ab_w593 ab_w594 ab_w2) ab_w595 rfl ⟨by decide, by decide, by decide +kernel⟩, List.forall_mem_cons.mpr ⟨ab_i2l_ok dL_signatureOf_10, List.forall_mem_cons.mpr ⟨ab_last_ok dL_signatureOf_11, List.forall_mem_cons.mpr ⟨ab_goto_ok dL_signatureOf_12 (by decide), List.forall_mem_cons.mpr ⟨ab_astore_ok dL_signatureOf_15, List.forall_mem_cons.mpr ⟨ab_iconst_ok dL_signatureOf_17 (by decide), List.forall_mem_cons.mpr ⟨ab_iret_ok dL_signatureOf_18 rfl, List.forall_mem_cons.mpr ⟨ab_astore_ok dL_signatureOf_19, List.forall_mem_cons.mpr ⟨ab_iconst_ok dL_signatureOf_21 (by decide), List.forall_mem_cons.mpr ⟨ab_iret_ok dL_signatureOf_22 rfl, List.forall_mem_cons.mpr ⟨ab_iconst_ok dL_signatureOf_23 (by decide), List.forall_mem_cons.mpr ⟨ab_iret_ok dL_signatureOf_24 rfl, fun _ h => absurd h List.not_mem_nil⟩⟩⟩⟩⟩⟩⟩⟩⟩⟩⟩⟩⟩⟩⟩⟩⟩⟩
theorem ab_k56 (K : ab_Kt) : ∀ pc, ab_OK K ab_mt ab_g56 pc (ab_c56 pc) := ab_lk2_ok _ (List.forall_mem_cons.mpr ⟨ab_k56_0 K, fun _ h => absurd h List.not_mem_nil⟩)
theorem dX7_signatureOf_0 : decode cX7_signatureOf 0 = .ok (.aload_n 0, 1) := by decide +kernel
theorem dX7_signatureOf_1 : decode cX7_signatureOf 1 = .ok (.aload_n 0, 1) := by decide +kernel
theorem dX7_signatureOf_2 : decode cX7_signatureOf 2 = .ok (.iload_n 1, 1) := by decide +kernel
theorem dX7_signatureOf_3 : decode cX7_signatureOf 3 = .ok (.invokevirtual 94, 3) := by decide +kernel
theorem dX7_signatureOf_6 : decode cX7_signatureOf 6 = .ok (.ifCond .eq 12, 3) := by decide +kernel
theorem dX7_signatureOf_9 : decode cX7_signatureOf 9 = .ok (.aload_n 0, 1) := by decide +kernel
theorem dX7_signatureOf_10 : decode cX7_signatureOf 10 = .ok (.iload_n 1, 1) := by decide +kernel
theorem dX7_signatureOf_11 : decode cX7_signatureOf 11 = .ok (.iload_n 2, 1) := by decide +kernel
theorem dX7_signatureOf_12 : decode cX7_signatureOf 12 = .ok (.invokevirtual 119, 3) := by decide +kernel
theorem dX7_signatureOf_15 : decode cX7_signatureOf 15 = .ok (.ifCond .ne 7, 3) := by decide +kernel
theorem dX7_signatureOf_18 : decode cX7_signatureOf 18 = .ok (.iconst 1, 1) := by decide +kernel
theorem dX7_signatureOf_19 : decode cX7_signatureOf 19 = .ok (.goto 17, 3) := by decide +kernel
theorem dX7_signatureOf_22 : decode cX7_signatureOf 22 = .ok (.iload_n 3, 1) := by decide +kernel
theorem dX7_signatureOf_23 : decode cX7_signatureOf 23 = .ok (.iconst 0, 1) := by decide +kernel
theorem dX7_signatureOf_24 : decode cX7_signatureOf 24 = .ok (.iconst 4, 1) := by decide +kernel
theorem dX7_signatureOf_25 : decode cX7_signatureOf 25 = .ok (.invokestatic 59, 3) := by decide +kernel
theorem dX7_signatureOf_28 : decode cX7_signatureOf 28 = .ok (.ifCond .eq 7, 3) := by decide +kernel
theorem dX7_signatureOf_31 : decode cX7_signatureOf 31 = .ok (.iconst 0, 1) := by decide +kernel
theorem dX7_signatureOf_32 : decode cX7_signatureOf 32 = .ok (.goto 4, 3) := by decide +kernel
theorem dX7_signatureOf_35 : decode cX7_signatureOf 35 = .ok (.iconst 2, 1) := by decide +kernel
theorem dX7_signatureOf_36 : decode cX7_signatureOf 36 = .ok (.invokevirtual 162, 3) := by decide +kernel
theorem dX7_signatureOf_39 : decode cX7_signatureOf 39 = .ok (.ifCond .eq 5, 3) := by decide +kernel
theorem dX7_signatureOf_42 : decode cX7_signatureOf 42 = .ok (.iconst 0, 1) := by decide +kernel
theorem dX7_signatureOf_43 : decode cX7_signatureOf 43 = .ok (.ireturn, 1) := by decide +kernel
theorem dX7_signatureOf_44 : decode cX7_signatureOf 44 = .ok (.iload_n 3, 1) := by decide +kernel
theorem dX7_signatureOf_45 : decode cX7_signatureOf 45 = .ok (.tableswitch 72 0 3 #[31, 39, 56, 64], 31) := by decide +kernel
theorem dX7_signatureOf_76 : decode cX7_signatureOf 76 = .ok (.aload_n 0, 1) := by decide +kernel
theorem dX7_signatureOf_77 : decode cX7_signatureOf 77 = .ok (.iload_n 1, 1) := by decide +kernel
theorem dX7_signatureOf_78 : decode cX7_signatureOf 78 = .ok (.iload_n 2, 1) := by decide +kernel
theorem dX7_signatureOf_79 : decode cX7_signatureOf 79 = .ok (.iconst 0, 1) := by decide +kernel
theorem dX7_signatureOf_80 : decode cX7_signatureOf 80 = .ok (.invokevirtual 67, 3) := by decide +kernel
theorem dX7_signatureOf_83 : decode cX7_signatureOf 83 = .ok (.ireturn, 1) := by decide +kernel
theorem dX7_signatureOf_84 : decode cX7_signatureOf 84 = .ok (.aload_n 0, 1) := by decide +kernel
theorem dX7_signatureOf_85 : decode cX7_signatureOf 85 = .ok (.iload_n 1, 1) := by decide +kernel
theorem dX7_signatureOf_86 : decode cX7_signatureOf 86 = .ok (.iload_n 2, 1) := by decide +kernel
theorem dX7_signatureOf_87 : decode cX7_signatureOf 87 = .ok (.iconst 0, 1) := by decide +kernel
theorem dX7_signatureOf_88 : decode cX7_signatureOf 88 = .ok (.invokevirtual 67, 3) := by decide +kernel
theorem dX7_signatureOf_91 : decode cX7_signatureOf 91 = .ok (.aload_n 0, 1) := by decide +kernel
theorem dX7_signatureOf_92 : decode cX7_signatureOf 92 = .ok (.iload_n 1, 1) := by decide +kernel
theorem dX7_signatureOf_93 : decode cX7_signatureOf 93 = .ok (.iload_n 2, 1) := by decide +kernel
theorem ab_k57_0 (K : ab_Kt) : ∀ q ∈ ab_l57_0, ab_OK K ab_mt ab_g57 q.1 q.2 := by
  unfold ab_l57_0
  exact List.forall_mem_cons.mpr ⟨ab_aload_n_ok dX7_signatureOf_0 rfl, List.forall_mem_cons.mpr ⟨ab_aload_n_ok dX7_signatureOf_1 rfl, List.forall_mem_cons.mpr ⟨ab_iload_n_ok dX7_signatureOf_2 rfl, List.forall_mem_cons.mpr ⟨ab_callV_ok' (G' := ab_g103) (C := RX7) (T := TX7) (N := 19) dX7_signatureOf_3 ab_m103 rfl rfl (by decide) (by decide) (ab_l4 ab_w411 ab_w412 ab_w413 ab_w8) ab_w414 rfl ⟨by decide, by decide, by decide +kernel⟩, List.forall_mem_cons.mpr ⟨ab_if_eq_ok dX7_signatureOf_6 (by decide), List.forall_mem_cons.mpr ⟨ab_aload_n_ok dX7_signatureOf_9 rfl, List.forall_mem_cons.mpr ⟨ab_iload_n_ok dX7_signatureOf_10 rfl, List.forall_mem_cons.mpr ⟨ab_iload_n_ok dX7_signatureOf_11 rfl, List.forall_mem_cons.mpr ⟨ab_callV_ok' (G' := ab_g134) (C := RX7) (T := TX7) (N := 19) dX7_signatureOf_12 ab_m134 rfl rfl (by decide) (by decide) (ab_l4 ab_w540 ab_w541 ab_w542 ab_w8) ab_w543 rfl ⟨by decide, by decide, by decide +kernel⟩, List.forall_mem_cons.mpr ⟨ab_if_ne_ok dX7_signatureOf_15 (by decide), List.forall_mem_cons.mpr ⟨ab_iconst_ok dX7_signatureOf_18 (by decide), List.forall_mem_cons.mpr ⟨ab_goto_ok dX7_signatureOf_19 (by decide), List.forall_mem_cons.mpr ⟨ab_iload_n_ok dX7_signatureOf_22 rfl, List.forall_mem_cons.mpr ⟨ab_iconst_ok dX7_signatureOf_23 (by decide), List.forall_mem_cons.mpr ⟨ab_iconst_ok dX7_signatureOf_24 (by decide), List.forall_mem_cons.mpr ⟨ab_callS_ok' (G' := ab_g97) dX7_signatureOf_25 ab_m97 (by decide) (by decide) (ab_l3 ab_w387 ab_w388 ab_w8) ab_w389 rfl ⟨by decide, by decide, by decide +kernel⟩, List.forall_mem_cons.mpr ⟨ab_if_eq_ok dX7_signatureOf_28 (by decide), List.forall_mem_cons.mpr ⟨ab_iconst_ok dX7_signatureOf_31 (by decide), List.forall_mem_cons.mpr ⟨ab_goto_ok dX7_signatureOf_32 (by decide), List.forall_mem_cons.mpr ⟨ab_iconst_ok dX7_signatureOf_35 (by decide), List.forall_mem_cons.mpr ⟨ab_callV_ok' (G' := ab_g92) (C := RX7) (T := TX7) (N := 19) dX7_signatureOf_36 ab_m92 rfl rfl (by decide) (by decide) (ab_l4 ab_w364 ab_w365 ab_w366 ab_w8) ab_w367 rfl ⟨by decide, by decide, by decide +kernel⟩, List.forall_mem_cons.mpr ⟨ab_if_eq_ok dX7_signatureOf_39 (by decide), List.forall_mem_cons.mpr ⟨ab_iconst_ok dX7_signatureOf_42 (by decide), List.forall_mem_cons.mpr ⟨ab_iret_ok dX7_signatureOf_43 rfl, List.forall_mem_cons.mpr ⟨ab_iload_n_ok dX7_signatureOf_44 rfl, List.forall_mem_cons.mpr ⟨ab_tsw_ok dX7_signatureOf_45 (by decide) (by decide) (by decide), List.forall_mem_cons.mpr ⟨ab_aload_n_ok dX7_signatureOf_76 rfl, List.forall_mem_cons.mpr ⟨ab_iload_n_ok dX7_signatureOf_77 rfl, List.forall_mem_cons.mpr ⟨ab_iload_n_ok dX7_signatureOf_78 rfl, List.forall_mem_cons.mpr ⟨ab_iconst_ok dX7_signatureOf_79 (by decide), List.forall_mem_cons.mpr ⟨ab_callV_ok' (G' := ab_g111) (C := RX7) (T := TX7) (N := 19) dX7_signatureOf_80 ab_m111 rfl rfl (by decide) (by decide) (ab_l4 ab_w444 ab_w445 ab_w446 ab_w8) ab_w447 rfl ⟨by decide, by decide, by decide +kernel⟩, List.forall_mem_cons.mpr ⟨ab_iret_ok dX7_signatureOf_83 rfl, List.forall_mem_cons.mpr ⟨ab_aload_n_ok dX7_signatureOf_84 rfl, List.forall_mem_cons.mpr ⟨ab_iload_n_ok dX7_signatureOf_85 rfl, List.forall_mem_cons.mpr ⟨ab_iload_n_ok dX7_signatureOf_86 rfl, List.forall_mem_cons.mpr ⟨ab_iconst_ok dX7_signatureOf_87 (by decide), List.forall_mem_cons.mpr ⟨ab_callV_ok' (G' := ab_g111) (C := RX7) (T := TX7) (N := 19) dX7_signatureOf_88 ab_m111 rfl rfl (by decide) (by decide) (ab_l4 ab_w444 ab_w445 ab_w446 ab_w8) ab_w447 rfl ⟨by decide, by decide, by decide +kernel⟩, List.forall_mem_cons.mpr ⟨ab_aload_n_ok dX7_signatureOf_91 rfl, List.forall_mem_cons.mpr ⟨ab_iload_n_ok dX7_signatureOf_92 rfl, List.forall_mem_cons.mpr ⟨ab_iload_n_ok dX7_signatureOf_93 rfl, fun _ h => absurd h List.not_mem_nil⟩⟩⟩⟩⟩⟩⟩⟩⟩⟩⟩⟩⟩⟩⟩⟩⟩⟩⟩⟩⟩⟩⟩⟩⟩⟩⟩⟩⟩⟩⟩⟩⟩⟩⟩⟩⟩⟩⟩⟩
theorem dX7_signatureOf_94 : decode cX7_signatureOf 94 = .ok (.invokevirtual 71, 3) := by decide +kernel
theorem dX7_signatureOf_97 : decode cX7_signatureOf 97 = .ok (.iadd, 1) := by decide +kernel
theorem dX7_signatureOf_98 : decode cX7_signatureOf 98 = .ok (.iconst 1, 1) := by decide +kernel
theorem dX7_signatureOf_99 : decode cX7_signatureOf 99 = .ok (.isub, 1) := by decide +kernel
theorem dX7_signatureOf_100 : decode cX7_signatureOf 100 = .ok (.ireturn, 1) := by decide +kernel
theorem dX7_signatureOf_101 : decode cX7_signatureOf 101 = .ok (.aload_n 0, 1) := by decide +kernel
theorem dX7_signatureOf_102 : decode cX7_signatureOf 102 = .ok (.iload_n 1, 1) := by decide +kernel
theorem dX7_signatureOf_103 : decode cX7_signatureOf 103 = .ok (.iload_n 2, 1) := by decide +kernel
theorem dX7_signatureOf_104 : decode cX7_signatureOf 104 = .ok (.iconst 1, 1) := by decide +kernel
theorem dX7_signatureOf_105 : decode cX7_signatureOf 105 = .ok (.invokevirtual 67, 3) := by decide +kernel
theorem dX7_signatureOf_108 : decode cX7_signatureOf 108 = .ok (.ireturn, 1) := by decide +kernel
theorem dX7_signatureOf_109 : decode cX7_signatureOf 109 = .ok (.aload_n 0, 1) := by decide +kernel
theorem dX7_signatureOf_110 : decode cX7_signatureOf 110 = .ok (.iload_n 1, 1) := by decide +kernel
theorem dX7_signatureOf_111 : decode cX7_signatureOf 111 = .ok (.iload_n 2, 1) := by decide +kernel
theorem dX7_signatureOf_112 : decode cX7_signatureOf 112 = .ok (.iconst 2, 1) := by decide +kernel
theorem dX7_signatureOf_113 : decode cX7_signatureOf 113 = .ok (.invokevirtual 67, 3) := by decide +kernel
theorem dX7_signatureOf_116 : decode cX7_signatureOf 116 = .ok (.ireturn, 1) := by decide +kernel
theorem dX7_signatureOf_117 : decode cX7_signatureOf 117 = .ok (.aload_n 0, 1) := by decide +kernel
theorem dX7_signatureOf_118 : decode cX7_signatureOf 118 = .ok (.iload_n 1, 1) := by decide +kernel
theorem dX7_signatureOf_119 : decode cX7_signatureOf 119 = .ok (.iload_n 2, 1) := by decide +kernel
theorem dX7_signatureOf_120 : decode cX7_signatureOf 120 = .ok (.invokevirtual 74, 3) := by decide +kernel
theorem dX7_signatureOf_123 : decode cX7_signatureOf 123 = .ok (.ireturn, 1) := by decide +kernel
theorem ab_k57_1 (K : ab_Kt) : ∀ q ∈ ab_l57_1, ab_OK K ab_mt ab_g57 q.1 q.2 := by
  unfold ab_l57_1
  exact List.forall_mem_cons.mpr ⟨ab_callV_ok' (G' := ab_g112) (C := RX7) (T := TX7) (N := 19) dX7_signatureOf_94 ab_m112 rfl rfl (by decide) (by decide) (ab_l4 ab_w448 ab_w449 ab_w450 ab_w8) ab_w451 rfl ⟨by decide, by decide, by decide +kernel⟩, List.forall_mem_cons.mpr ⟨ab_iadd_ok dX7_signatureOf_97, List.forall_mem_cons.mpr ⟨ab_iconst_ok dX7_signatureOf_98 (by decide), List.forall_mem_cons.mpr ⟨ab_isub_ok dX7_signatureOf_99, List.forall_mem_cons.mpr ⟨ab_iret_ok dX7_signatureOf_100 rfl, List.forall_mem_cons.mpr ⟨ab_aload_n_ok dX7_signatureOf_101 rfl, List.forall_mem_cons.mpr ⟨ab_iload_n_ok dX7_signatureOf_102 rfl, List.forall_mem_cons.mpr ⟨ab_iload_n_ok dX7_signatureOf_103 rfl, List.forall_mem_cons.mpr ⟨ab_iconst_ok dX7_signatureOf_104 (by decide), List.forall_mem_cons.mpr ⟨ab_callV_ok' (G' := ab_g111) (C := RX7) (T := TX7) (N := 19) dX7_signatureOf_105 ab_m111 rfl rfl (by decide) (by decide) (ab_l4 ab_w444 ab_w445 ab_w446 ab_w8) ab_w447 rfl ⟨by decide, by decide, by decide +kernel⟩, List.forall_mem_cons.mpr ⟨ab_iret_ok dX7_signatureOf_108 rfl, List.forall_mem_cons.mpr ⟨ab_aload_n_ok dX7_signatureOf_109 rfl, List.forall_mem_cons.mpr ⟨ab_iload_n_ok dX7_signatureOf_110 rfl, List.forall_mem_cons.mpr ⟨ab_iload_n_ok dX7_signatureOf_111 rfl, List.forall_mem_cons.mpr ⟨ab_iconst_ok dX7_signatureOf_112 (by decide), List.forall_mem_cons.mpr ⟨ab_callV_ok' (G' := ab_g111) (C := RX7) (T := TX7) (N := 19) dX7_signatureOf_113 ab_m111 rfl rfl (by decide) (by decide) (ab_l4 ab_w444 ab_w445 ab_w446 ab_w8) ab_w447 rfl ⟨by decide, by decide, by decide +kernel⟩, List.forall_mem_cons.mpr ⟨ab_iret_ok dX7_signatureOf_116 rfl, List.forall_mem_cons.mpr ⟨ab_aload_n_ok dX7_signatureOf_117 rfl, List.forall_mem_cons.mpr ⟨ab_iload_n_ok dX7_signatureOf_118 rfl, List.forall_mem_cons.mpr ⟨ab_iload_n_ok dX7_signatureOf_119 rfl, List.forall_mem_cons.mpr ⟨ab_callV_ok' (G' := ab_g148) (C := RX7) (T := TX7) (N := 19) dX7_signatureOf_120 ab_m148 rfl rfl (by decide) (by decide) (ab_l4 ab_w596 ab_w597 ab_w598 ab_w8) ab_w599 rfl ⟨by decide, by decide, by decide +kernel⟩, List.forall_mem_cons.mpr ⟨ab_iret_ok dX7_signatureOf_123 rfl, fun _ h => absurd h List.not_mem_nil⟩⟩⟩⟩⟩⟩⟩⟩⟩⟩⟩⟩⟩⟩⟩⟩⟩⟩⟩⟩⟩⟩
theorem ab_k57 (K : ab_Kt) : ∀ pc, ab_OK K ab_mt ab_g57 pc (ab_c57 pc) := ab_lk2_ok _ (List.forall_mem_cons.mpr ⟨ab_k57_0 K, List.forall_mem_cons.mpr ⟨ab_k57_1 K, fun _ h => absurd h List.not_mem_nil⟩⟩)
theorem dL_bookOf_0 : decode cL_bookOf 0 = .ok (.aload_n 3, 1) := by decide +kernel
theorem dL_bookOf_1 : decode cL_bookOf 1 = .ok (.iconst 0, 1) := by decide +kernel
theorem dL_bookOf_2 : decode cL_bookOf 2 = .ok (.aload_n 0, 1) := by decide +kernel
theorem dL_bookOf_3 : decode cL_bookOf 3 = .ok (.iload_n 1, 1) := by decide +kernel
theorem dL_bookOf_4 : decode cL_bookOf 4 = .ok (.iload_n 2, 1) := by decide +kernel
theorem dL_bookOf_5 : decode cL_bookOf 5 = .ok (.invokevirtual 54, 3) := by decide +kernel
theorem dL_bookOf_8 : decode cL_bookOf 8 = .ok (.i2l, 1) := by decide +kernel
theorem dL_bookOf_9 : decode cL_bookOf 9 = .ok (.lastore, 1) := by decide +kernel
theorem dL_bookOf_10 : decode cL_bookOf 10 = .ok (.goto 11, 3) := by decide +kernel
theorem dL_bookOf_13 : decode cL_bookOf 13 = .ok (.astore 4, 2) := by decide +kernel
theorem dL_bookOf_15 : decode cL_bookOf 15 = .ok (.iconst 1, 1) := by decide +kernel
theorem dL_bookOf_16 : decode cL_bookOf 16 = .ok (.ireturn, 1) := by decide +kernel
theorem dL_bookOf_17 : decode cL_bookOf 17 = .ok (.astore 4, 2) := by decide +kernel
theorem dL_bookOf_19 : decode cL_bookOf 19 = .ok (.iconst 2, 1) := by decide +kernel
theorem dL_bookOf_20 : decode cL_bookOf 20 = .ok (.ireturn, 1) := by decide +kernel
theorem dL_bookOf_21 : decode cL_bookOf 21 = .ok (.iconst 0, 1) := by decide +kernel
theorem dL_bookOf_22 : decode cL_bookOf 22 = .ok (.ireturn, 1) := by decide +kernel
theorem ab_k58_0 (K : ab_Kt) : ∀ q ∈ ab_l58_0, ab_OK K ab_mt ab_g58 q.1 q.2 := by
  unfold ab_l58_0
  exact List.forall_mem_cons.mpr ⟨ab_aload_n_ok dL_bookOf_0 rfl, List.forall_mem_cons.mpr ⟨ab_iconst_ok dL_bookOf_1 (by decide), List.forall_mem_cons.mpr ⟨ab_aload_n_ok dL_bookOf_2 rfl, List.forall_mem_cons.mpr ⟨ab_iload_n_ok dL_bookOf_3 rfl, List.forall_mem_cons.mpr ⟨ab_iload_n_ok dL_bookOf_4 rfl, List.forall_mem_cons.mpr ⟨ab_callV_ok' (G' := ab_g149) (C := RX6) (T := TX6) (N := 9) dL_bookOf_5 ab_m149 rfl rfl (by decide) (by decide) (ab_l4 ab_w600 ab_w601 ab_w602 ab_w2) ab_w603 rfl ⟨by decide, by decide, by decide +kernel⟩, List.forall_mem_cons.mpr ⟨ab_i2l_ok dL_bookOf_8, List.forall_mem_cons.mpr ⟨ab_last_ok dL_bookOf_9, List.forall_mem_cons.mpr ⟨ab_goto_ok dL_bookOf_10 (by decide), List.forall_mem_cons.mpr ⟨ab_astore_ok dL_bookOf_13, List.forall_mem_cons.mpr ⟨ab_iconst_ok dL_bookOf_15 (by decide), List.forall_mem_cons.mpr ⟨ab_iret_ok dL_bookOf_16 rfl, List.forall_mem_cons.mpr ⟨ab_astore_ok dL_bookOf_17, List.forall_mem_cons.mpr ⟨ab_iconst_ok dL_bookOf_19 (by decide), List.forall_mem_cons.mpr ⟨ab_iret_ok dL_bookOf_20 rfl, List.forall_mem_cons.mpr ⟨ab_iconst_ok dL_bookOf_21 (by decide), List.forall_mem_cons.mpr ⟨ab_iret_ok dL_bookOf_22 rfl, fun _ h => absurd h List.not_mem_nil⟩⟩⟩⟩⟩⟩⟩⟩⟩⟩⟩⟩⟩⟩⟩⟩⟩
theorem ab_k58 (K : ab_Kt) : ∀ pc, ab_OK K ab_mt ab_g58 pc (ab_c58 pc) := ab_lk2_ok _ (List.forall_mem_cons.mpr ⟨ab_k58_0 K, fun _ h => absurd h List.not_mem_nil⟩)
theorem dX7_bookOf_0 : decode cX7_bookOf 0 = .ok (.aload_n 0, 1) := by decide +kernel
theorem dX7_bookOf_1 : decode cX7_bookOf 1 = .ok (.aload_n 0, 1) := by decide +kernel
theorem dX7_bookOf_2 : decode cX7_bookOf 2 = .ok (.iload_n 1, 1) := by decide +kernel
theorem dX7_bookOf_3 : decode cX7_bookOf 3 = .ok (.invokevirtual 94, 3) := by decide +kernel
theorem dX7_bookOf_6 : decode cX7_bookOf 6 = .ok (.ifCond .ne 7, 3) := by decide +kernel
theorem dX7_bookOf_9 : decode cX7_bookOf 9 = .ok (.iconst 1, 1) := by decide +kernel
theorem dX7_bookOf_10 : decode cX7_bookOf 10 = .ok (.goto 18, 3) := by decide +kernel
theorem dX7_bookOf_13 : decode cX7_bookOf 13 = .ok (.iload_n 2, 1) := by decide +kernel
theorem dX7_bookOf_14 : decode cX7_bookOf 14 = .ok (.iconst 0, 1) := by decide +kernel
theorem dX7_bookOf_15 : decode cX7_bookOf 15 = .ok (.bipush 8, 2) := by decide +kernel
theorem dX7_bookOf_17 : decode cX7_bookOf 17 = .ok (.invokestatic 59, 3) := by decide +kernel
theorem dX7_bookOf_20 : decode cX7_bookOf 20 = .ok (.ifCond .eq 7, 3) := by decide +kernel
theorem dX7_bookOf_23 : decode cX7_bookOf 23 = .ok (.iconst 0, 1) := by decide +kernel
theorem dX7_bookOf_24 : decode cX7_bookOf 24 = .ok (.goto 4, 3) := by decide +kernel
theorem dX7_bookOf_27 : decode cX7_bookOf 27 = .ok (.iconst 2, 1) := by decide +kernel
theorem dX7_bookOf_28 : decode cX7_bookOf 28 = .ok (.invokevirtual 162, 3) := by decide +kernel
theorem dX7_bookOf_31 : decode cX7_bookOf 31 = .ok (.ifCond .eq 5, 3) := by decide +kernel
theorem dX7_bookOf_34 : decode cX7_bookOf 34 = .ok (.iconst 0, 1) := by decide +kernel
theorem dX7_bookOf_35 : decode cX7_bookOf 35 = .ok (.ireturn, 1) := by decide +kernel
theorem dX7_bookOf_36 : decode cX7_bookOf 36 = .ok (.iload_n 2, 1) := by decide +kernel
theorem dX7_bookOf_37 : decode cX7_bookOf 37 = .ok (.tableswitch 56 5 8 #[31, 37, 43, 50], 31) := by decide +kernel
theorem dX7_bookOf_68 : decode cX7_bookOf 68 = .ok (.aload_n 0, 1) := by decide +kernel
theorem dX7_bookOf_69 : decode cX7_bookOf 69 = .ok (.iload_n 1, 1) := by decide +kernel
theorem dX7_bookOf_70 : decode cX7_bookOf 70 = .ok (.invokevirtual 80, 3) := by decide +kernel
theorem dX7_bookOf_73 : decode cX7_bookOf 73 = .ok (.ireturn, 1) := by decide +kernel
theorem dX7_bookOf_74 : decode cX7_bookOf 74 = .ok (.aload_n 0, 1) := by decide +kernel
theorem dX7_bookOf_75 : decode cX7_bookOf 75 = .ok (.iload_n 1, 1) := by decide +kernel
theorem dX7_bookOf_76 : decode cX7_bookOf 76 = .ok (.invokevirtual 149, 3) := by decide +kernel
theorem dX7_bookOf_79 : decode cX7_bookOf 79 = .ok (.ireturn, 1) := by decide +kernel
theorem dX7_bookOf_80 : decode cX7_bookOf 80 = .ok (.aload_n 0, 1) := by decide +kernel
theorem dX7_bookOf_81 : decode cX7_bookOf 81 = .ok (.iload_n 1, 1) := by decide +kernel
theorem dX7_bookOf_82 : decode cX7_bookOf 82 = .ok (.iconst 5, 1) := by decide +kernel
theorem dX7_bookOf_83 : decode cX7_bookOf 83 = .ok (.invokevirtual 63, 3) := by decide +kernel
theorem dX7_bookOf_86 : decode cX7_bookOf 86 = .ok (.ireturn, 1) := by decide +kernel
theorem dX7_bookOf_87 : decode cX7_bookOf 87 = .ok (.aload_n 0, 1) := by decide +kernel
theorem dX7_bookOf_88 : decode cX7_bookOf 88 = .ok (.iload_n 1, 1) := by decide +kernel
theorem dX7_bookOf_89 : decode cX7_bookOf 89 = .ok (.invokevirtual 146, 3) := by decide +kernel
theorem dX7_bookOf_92 : decode cX7_bookOf 92 = .ok (.ireturn, 1) := by decide +kernel
theorem dX7_bookOf_93 : decode cX7_bookOf 93 = .ok (.aload_n 0, 1) := by decide +kernel
theorem dX7_bookOf_94 : decode cX7_bookOf 94 = .ok (.iload_n 1, 1) := by decide +kernel
theorem ab_k59_0 (K : ab_Kt) : ∀ q ∈ ab_l59_0, ab_OK K ab_mt ab_g59 q.1 q.2 := by
  unfold ab_l59_0
  exact List.forall_mem_cons.mpr ⟨ab_aload_n_ok dX7_bookOf_0 rfl, List.forall_mem_cons.mpr ⟨ab_aload_n_ok dX7_bookOf_1 rfl, List.forall_mem_cons.mpr ⟨ab_iload_n_ok dX7_bookOf_2 rfl, List.forall_mem_cons.mpr ⟨ab_callV_ok' (G' := ab_g103) (C := RX7) (T := TX7) (N := 19) dX7_bookOf_3 ab_m103 rfl rfl (by decide) (by decide) (ab_l4 ab_w411 ab_w412 ab_w413 ab_w8) ab_w414 rfl ⟨by decide, by decide, by decide +kernel⟩, List.forall_mem_cons.mpr ⟨ab_if_ne_ok dX7_bookOf_6 (by decide), List.forall_mem_cons.mpr ⟨ab_iconst_ok dX7_bookOf_9 (by decide), List.forall_mem_cons.mpr ⟨ab_goto_ok dX7_bookOf_10 (by decide), List.forall_mem_cons.mpr ⟨ab_iload_n_ok dX7_bookOf_13 rfl, List.forall_mem_cons.mpr ⟨ab_iconst_ok dX7_bookOf_14 (by decide), List.forall_mem_cons.mpr ⟨ab_bipush_ok dX7_bookOf_15 (by decide), List.forall_mem_cons.mpr ⟨ab_callS_ok' (G' := ab_g97) dX7_bookOf_17 ab_m97 (by decide) (by decide) (ab_l3 ab_w387 ab_w388 ab_w8) ab_w389 rfl ⟨by decide, by decide, by decide +kernel⟩, List.forall_mem_cons.mpr ⟨ab_if_eq_ok dX7_bookOf_20 (by decide), List.forall_mem_cons.mpr ⟨ab_iconst_ok dX7_bookOf_23 (by decide), List.forall_mem_cons.mpr ⟨ab_goto_ok dX7_bookOf_24 (by decide), List.forall_mem_cons.mpr ⟨ab_iconst_ok dX7_bookOf_27 (by decide), List.forall_mem_cons.mpr ⟨ab_callV_ok' (G' := ab_g92) (C := RX7) (T := TX7) (N := 19) dX7_bookOf_28 ab_m92 rfl rfl (by decide) (by decide) (ab_l4 ab_w364 ab_w365 ab_w366 ab_w8) ab_w367 rfl ⟨by decide, by decide, by decide +kernel⟩, List.forall_mem_cons.mpr ⟨ab_if_eq_ok dX7_bookOf_31 (by decide), List.forall_mem_cons.mpr ⟨ab_iconst_ok dX7_bookOf_34 (by decide), List.forall_mem_cons.mpr ⟨ab_iret_ok dX7_bookOf_35 rfl, List.forall_mem_cons.mpr ⟨ab_iload_n_ok dX7_bookOf_36 rfl, List.forall_mem_cons.mpr ⟨ab_tsw_ok dX7_bookOf_37 (by decide) (by decide) (by decide), List.forall_mem_cons.mpr ⟨ab_aload_n_ok dX7_bookOf_68 rfl, List.forall_mem_cons.mpr ⟨ab_iload_n_ok dX7_bookOf_69 rfl, List.forall_mem_cons.mpr ⟨ab_callV_ok' (G' := ab_g104) (C := RX7) (T := TX7) (N := 19) dX7_bookOf_70 ab_m104 rfl rfl (by decide) (by decide) (ab_l4 ab_w415 ab_w416 ab_w417 ab_w8) ab_w418 rfl ⟨by decide, by decide, by decide +kernel⟩, List.forall_mem_cons.mpr ⟨ab_iret_ok dX7_bookOf_73 rfl, List.forall_mem_cons.mpr ⟨ab_aload_n_ok dX7_bookOf_74 rfl, List.forall_mem_cons.mpr ⟨ab_iload_n_ok dX7_bookOf_75 rfl, List.forall_mem_cons.mpr ⟨ab_callV_ok' (G' := ab_g150) (C := RX7) (T := TX7) (N := 19) dX7_bookOf_76 ab_m150 rfl rfl (by decide) (by decide) (ab_l4 ab_w604 ab_w605 ab_w606 ab_w8) ab_w607 rfl ⟨by decide, by decide, by decide +kernel⟩, List.forall_mem_cons.mpr ⟨ab_iret_ok dX7_bookOf_79 rfl, List.forall_mem_cons.mpr ⟨ab_aload_n_ok dX7_bookOf_80 rfl, List.forall_mem_cons.mpr ⟨ab_iload_n_ok dX7_bookOf_81 rfl, List.forall_mem_cons.mpr ⟨ab_iconst_ok dX7_bookOf_82 (by decide), List.forall_mem_cons.mpr ⟨ab_callV_ok' (G' := ab_g110) (C := RX7) (T := TX7) (N := 19) dX7_bookOf_83 ab_m110 rfl rfl (by decide) (by decide) (ab_l4 ab_w440 ab_w441 ab_w442 ab_w8) ab_w443 rfl ⟨by decide, by decide, by decide +kernel⟩, List.forall_mem_cons.mpr ⟨ab_iret_ok dX7_bookOf_86 rfl, List.forall_mem_cons.mpr ⟨ab_aload_n_ok dX7_bookOf_87 rfl, List.forall_mem_cons.mpr ⟨ab_iload_n_ok dX7_bookOf_88 rfl, List.forall_mem_cons.mpr ⟨ab_callV_ok' (G' := ab_g125) (C := RX7) (T := TX7) (N := 19) dX7_bookOf_89 ab_m125 rfl rfl (by decide) (by decide) (ab_l4 ab_w505 ab_w506 ab_w507 ab_w8) ab_w508 rfl ⟨by decide, by decide, by decide +kernel⟩, List.forall_mem_cons.mpr ⟨ab_iret_ok dX7_bookOf_92 rfl, List.forall_mem_cons.mpr ⟨ab_aload_n_ok dX7_bookOf_93 rfl, List.forall_mem_cons.mpr ⟨ab_iload_n_ok dX7_bookOf_94 rfl, fun _ h => absurd h List.not_mem_nil⟩⟩⟩⟩⟩⟩⟩⟩⟩⟩⟩⟩⟩⟩⟩⟩⟩⟩⟩⟩⟩⟩⟩⟩⟩⟩⟩⟩⟩⟩⟩⟩⟩⟩⟩⟩⟩⟩⟩⟩
theorem dX7_bookOf_95 : decode cX7_bookOf 95 = .ok (.iload_n 2, 1) := by decide +kernel
theorem dX7_bookOf_96 : decode cX7_bookOf 96 = .ok (.invokevirtual 63, 3) := by decide +kernel
theorem dX7_bookOf_99 : decode cX7_bookOf 99 = .ok (.ireturn, 1) := by decide +kernel
theorem ab_k59_1 (K : ab_Kt) : ∀ q ∈ ab_l59_1, ab_OK K ab_mt ab_g59 q.1 q.2 := by
  unfold ab_l59_1
  exact List.forall_mem_cons.mpr ⟨ab_iload_n_ok dX7_bookOf_95 rfl, List.forall_mem_cons.mpr ⟨ab_callV_ok' (G' := ab_g110) (C := RX7) (T := TX7) (N := 19) dX7_bookOf_96 ab_m110 rfl rfl (by decide) (by decide) (ab_l4 ab_w440 ab_w441 ab_w442 ab_w8) ab_w443 rfl ⟨by decide, by decide, by decide +kernel⟩, List.forall_mem_cons.mpr ⟨ab_iret_ok dX7_bookOf_99 rfl, fun _ h => absurd h List.not_mem_nil⟩⟩⟩
theorem ab_k59 (K : ab_Kt) : ∀ pc, ab_OK K ab_mt ab_g59 pc (ab_c59 pc) := ab_lk2_ok _ (List.forall_mem_cons.mpr ⟨ab_k59_0 K, List.forall_mem_cons.mpr ⟨ab_k59_1 K, fun _ h => absurd h List.not_mem_nil⟩⟩)
theorem dL_pass_0 : decode cL_pass 0 = .ok (.aload_n 2, 1) := by decide +kernel
theorem dL_pass_1 : decode cL_pass 1 = .ok (.iconst 0, 1) := by decide +kernel
theorem dL_pass_2 : decode cL_pass 2 = .ok (.aload_n 0, 1) := by decide +kernel
theorem dL_pass_3 : decode cL_pass 3 = .ok (.iload_n 1, 1) := by decide +kernel
theorem dL_pass_4 : decode cL_pass 4 = .ok (.invokevirtual 51, 3) := by decide +kernel
theorem dL_pass_7 : decode cL_pass 7 = .ok (.i2l, 1) := by decide +kernel
theorem dL_pass_8 : decode cL_pass 8 = .ok (.lastore, 1) := by decide +kernel
theorem dL_pass_9 : decode cL_pass 9 = .ok (.goto 6, 3) := by decide +kernel
theorem dL_pass_12 : decode cL_pass 12 = .ok (.astore_n 3, 1) := by decide +kernel
theorem dL_pass_13 : decode cL_pass 13 = .ok (.iconst 1, 1) := by decide +kernel
theorem dL_pass_14 : decode cL_pass 14 = .ok (.ireturn, 1) := by decide +kernel
theorem dL_pass_15 : decode cL_pass 15 = .ok (.iconst 0, 1) := by decide +kernel
theorem dL_pass_16 : decode cL_pass 16 = .ok (.ireturn, 1) := by decide +kernel
theorem ab_k60_0 (K : ab_Kt) : ∀ q ∈ ab_l60_0, ab_OK K ab_mt ab_g60 q.1 q.2 := by
  unfold ab_l60_0
  exact List.forall_mem_cons.mpr ⟨ab_aload_n_ok dL_pass_0 rfl, List.forall_mem_cons.mpr ⟨ab_iconst_ok dL_pass_1 (by decide), List.forall_mem_cons.mpr ⟨ab_aload_n_ok dL_pass_2 rfl, List.forall_mem_cons.mpr ⟨ab_iload_n_ok dL_pass_3 rfl, List.forall_mem_cons.mpr ⟨ab_callV_ok' (G' := ab_g151) (C := RX6) (T := TX6) (N := 9) dL_pass_4 ab_m151 rfl rfl (by decide) (by decide) (ab_l4 ab_w608 ab_w609 ab_w610 ab_w2) ab_w611 rfl ⟨by decide, by decide, by decide +kernel⟩, List.forall_mem_cons.mpr ⟨ab_i2l_ok dL_pass_7, List.forall_mem_cons.mpr ⟨ab_last_ok dL_pass_8, List.forall_mem_cons.mpr ⟨ab_goto_ok dL_pass_9 (by decide), List.forall_mem_cons.mpr ⟨ab_astore_n_ok dL_pass_12 rfl, List.forall_mem_cons.mpr ⟨ab_iconst_ok dL_pass_13 (by decide), List.forall_mem_cons.mpr ⟨ab_iret_ok dL_pass_14 rfl, List.forall_mem_cons.mpr ⟨ab_iconst_ok dL_pass_15 (by decide), List.forall_mem_cons.mpr ⟨ab_iret_ok dL_pass_16 rfl, fun _ h => absurd h List.not_mem_nil⟩⟩⟩⟩⟩⟩⟩⟩⟩⟩⟩⟩⟩
theorem ab_k60 (K : ab_Kt) : ∀ pc, ab_OK K ab_mt ab_g60 pc (ab_c60 pc) := ab_lk2_ok _ (List.forall_mem_cons.mpr ⟨ab_k60_0 K, fun _ h => absurd h List.not_mem_nil⟩)
theorem dX7_pass_0 : decode cX7_pass 0 = .ok (.iload_n 1, 1) := by decide +kernel
theorem dX7_pass_1 : decode cX7_pass 1 = .ok (.iconst 1, 1) := by decide +kernel
theorem dX7_pass_2 : decode cX7_pass 2 = .ok (.bipush 60, 2) := by decide +kernel
theorem dX7_pass_4 : decode cX7_pass 4 = .ok (.invokestatic 59, 3) := by decide +kernel
theorem dX7_pass_7 : decode cX7_pass 7 = .ok (.ifCond .ne 10, 3) := by decide +kernel
theorem dX7_pass_10 : decode cX7_pass 10 = .ok (.aload_n 0, 1) := by decide +kernel
theorem dX7_pass_11 : decode cX7_pass 11 = .ok (.iconst 1, 1) := by decide +kernel
theorem dX7_pass_12 : decode cX7_pass 12 = .ok (.iconst 0, 1) := by decide +kernel
theorem dX7_pass_13 : decode cX7_pass 13 = .ok (.invokevirtual 98, 3) := by decide +kernel
theorem dX7_pass_16 : decode cX7_pass 16 = .ok (.ireturn, 1) := by decide +kernel
theorem dX7_pass_17 : decode cX7_pass 17 = .ok (.aload_n 0, 1) := by decide +kernel
theorem dX7_pass_18 : decode cX7_pass 18 = .ok (.aload_n 0, 1) := by decide +kernel
theorem dX7_pass_19 : decode cX7_pass 19 = .ok (.getfield 7, 3) := by decide +kernel
theorem dX7_pass_22 : decode cX7_pass 22 = .ok (.invokevirtual 104, 3) := by decide +kernel
theorem dX7_pass_25 : decode cX7_pass 25 = .ok (.iconst 0, 1) := by decide +kernel
theorem dX7_pass_26 : decode cX7_pass 26 = .ok (.istore_n 2, 1) := by decide +kernel
theorem dX7_pass_27 : decode cX7_pass 27 = .ok (.iconst 0, 1) := by decide +kernel
theorem dX7_pass_28 : decode cX7_pass 28 = .ok (.istore_n 3, 1) := by decide +kernel
theorem dX7_pass_29 : decode cX7_pass 29 = .ok (.iload_n 3, 1) := by decide +kernel
theorem dX7_pass_30 : decode cX7_pass 30 = .ok (.iload_n 1, 1) := by decide +kernel
theorem dX7_pass_31 : decode cX7_pass 31 = .ok (.if_icmp .ge 16, 3) := by decide +kernel
theorem dX7_pass_34 : decode cX7_pass 34 = .ok (.iload_n 2, 1) := by decide +kernel
theorem dX7_pass_35 : decode cX7_pass 35 = .ok (.aload_n 0, 1) := by decide +kernel
theorem dX7_pass_36 : decode cX7_pass 36 = .ok (.invokevirtual 158, 3) := by decide +kernel
theorem dX7_pass_39 : decode cX7_pass 39 = .ok (.iadd, 1) := by decide +kernel
theorem dX7_pass_40 : decode cX7_pass 40 = .ok (.istore_n 2, 1) := by decide +kernel
theorem dX7_pass_41 : decode cX7_pass 41 = .ok (.iinc 3 1, 3) := by decide +kernel
theorem dX7_pass_44 : decode cX7_pass 44 = .ok (.goto (-15), 3) := by decide +kernel
theorem dX7_pass_47 : decode cX7_pass 47 = .ok (.iload_n 2, 1) := by decide +kernel
theorem dX7_pass_48 : decode cX7_pass 48 = .ok (.ireturn, 1) := by decide +kernel
theorem ab_k61_0 (K : ab_Kt) : ∀ q ∈ ab_l61_0, ab_OK K ab_mt ab_g61 q.1 q.2 := by
  unfold ab_l61_0
  exact List.forall_mem_cons.mpr ⟨ab_iload_n_ok dX7_pass_0 rfl, List.forall_mem_cons.mpr ⟨ab_iconst_ok dX7_pass_1 (by decide), List.forall_mem_cons.mpr ⟨ab_bipush_ok dX7_pass_2 (by decide), List.forall_mem_cons.mpr ⟨ab_callS_ok' (G' := ab_g97) dX7_pass_4 ab_m97 (by decide) (by decide) (ab_l3 ab_w387 ab_w388 ab_w8) ab_w389 rfl ⟨by decide, by decide, by decide +kernel⟩, List.forall_mem_cons.mpr ⟨ab_if_ne_ok dX7_pass_7 (by decide), List.forall_mem_cons.mpr ⟨ab_aload_n_ok dX7_pass_10 rfl, List.forall_mem_cons.mpr ⟨ab_iconst_ok dX7_pass_11 (by decide), List.forall_mem_cons.mpr ⟨ab_iconst_ok dX7_pass_12 (by decide), List.forall_mem_cons.mpr ⟨ab_callV_ok' (G' := ab_g152) (C := RX7) (T := TX7) (N := 19) dX7_pass_13 ab_m152 rfl rfl (by decide) (by decide) (ab_l4 ab_w612 ab_w613 ab_w614 ab_w8) ab_w615 rfl ⟨by decide, by decide, by decide +kernel⟩, List.forall_mem_cons.mpr ⟨ab_iret_ok dX7_pass_16 rfl, List.forall_mem_cons.mpr ⟨ab_aload_n_ok dX7_pass_17 rfl, List.forall_mem_cons.mpr ⟨ab_aload_n_ok dX7_pass_18 rfl, List.forall_mem_cons.mpr ⟨ab_getf_ok (C := RX7) (T := TX7) (N := 19) (ci := 11) (k := 0) dX7_pass_19 rfl ab_ic11 (by decide) ab_w350, List.forall_mem_cons.mpr ⟨ab_callV_ok' (G' := ab_g117) (C := RX7) (T := TX7) (N := 19) dX7_pass_22 ab_m117 rfl rfl (by decide) (by decide) (ab_l4 ab_w473 ab_w474 ab_w475 ab_w8) ab_w476 rfl ⟨by decide, by decide, by decide +kernel⟩, List.forall_mem_cons.mpr ⟨ab_iconst_ok dX7_pass_25 (by decide), List.forall_mem_cons.mpr ⟨ab_istore_n_ok dX7_pass_26 rfl, List.forall_mem_cons.mpr ⟨ab_iconst_ok dX7_pass_27 (by decide), List.forall_mem_cons.mpr ⟨ab_istore_n_ok dX7_pass_28 rfl, List.forall_mem_cons.mpr ⟨ab_iload_n_ok dX7_pass_29 rfl, List.forall_mem_cons.mpr ⟨ab_iload_n_ok dX7_pass_30 rfl, List.forall_mem_cons.mpr ⟨ab_icmp_ge_ok dX7_pass_31 (by decide), List.forall_mem_cons.mpr ⟨ab_iload_n_ok dX7_pass_34 rfl, List.forall_mem_cons.mpr ⟨ab_aload_n_ok dX7_pass_35 rfl, List.forall_mem_cons.mpr ⟨ab_callV_ok' (G' := ab_g153) (C := RX7) (T := TX7) (N := 19) dX7_pass_36 ab_m153 rfl rfl (by decide) (by decide) (ab_l4 ab_w616 ab_w617 ab_w618 ab_w8) ab_w619 rfl ⟨by decide, by decide, by decide +kernel⟩, List.forall_mem_cons.mpr ⟨ab_iadd_ok dX7_pass_39, List.forall_mem_cons.mpr ⟨ab_istore_n_ok dX7_pass_40 rfl, List.forall_mem_cons.mpr ⟨ab_iinc_ok dX7_pass_41 (by decide), List.forall_mem_cons.mpr ⟨ab_goto_ok dX7_pass_44 (by decide), List.forall_mem_cons.mpr ⟨ab_iload_n_ok dX7_pass_47 rfl, List.forall_mem_cons.mpr ⟨ab_iret_ok dX7_pass_48 rfl, fun _ h => absurd h List.not_mem_nil⟩⟩⟩⟩⟩⟩⟩⟩⟩⟩⟩⟩⟩⟩⟩⟩⟩⟩⟩⟩⟩⟩⟩⟩⟩⟩⟩⟩⟩⟩
theorem ab_k61 (K : ab_Kt) : ∀ pc, ab_OK K ab_mt ab_g61 pc (ab_c61 pc) := ab_lk2_ok _ (List.forall_mem_cons.mpr ⟨ab_k61_0 K, fun _ h => absurd h List.not_mem_nil⟩)
theorem dL_deliver_0 : decode cL_deliver 0 = .ok (.aload_n 2, 1) := by decide +kernel
theorem dL_deliver_1 : decode cL_deliver 1 = .ok (.iconst 0, 1) := by decide +kernel
theorem dL_deliver_2 : decode cL_deliver 2 = .ok (.aload_n 0, 1) := by decide +kernel
theorem dL_deliver_3 : decode cL_deliver 3 = .ok (.iload_n 1, 1) := by decide +kernel
theorem dL_deliver_4 : decode cL_deliver 4 = .ok (.invokevirtual 48, 3) := by decide +kernel
theorem dL_deliver_7 : decode cL_deliver 7 = .ok (.i2l, 1) := by decide +kernel
theorem dL_deliver_8 : decode cL_deliver 8 = .ok (.lastore, 1) := by decide +kernel
theorem dL_deliver_9 : decode cL_deliver 9 = .ok (.goto 6, 3) := by decide +kernel
theorem dL_deliver_12 : decode cL_deliver 12 = .ok (.astore_n 3, 1) := by decide +kernel
theorem dL_deliver_13 : decode cL_deliver 13 = .ok (.iconst 1, 1) := by decide +kernel
theorem dL_deliver_14 : decode cL_deliver 14 = .ok (.ireturn, 1) := by decide +kernel
theorem dL_deliver_15 : decode cL_deliver 15 = .ok (.iconst 0, 1) := by decide +kernel
theorem dL_deliver_16 : decode cL_deliver 16 = .ok (.ireturn, 1) := by decide +kernel
theorem ab_k62_0 (K : ab_Kt) : ∀ q ∈ ab_l62_0, ab_OK K ab_mt ab_g62 q.1 q.2 := by
  unfold ab_l62_0
  exact List.forall_mem_cons.mpr ⟨ab_aload_n_ok dL_deliver_0 rfl, List.forall_mem_cons.mpr ⟨ab_iconst_ok dL_deliver_1 (by decide), List.forall_mem_cons.mpr ⟨ab_aload_n_ok dL_deliver_2 rfl, List.forall_mem_cons.mpr ⟨ab_iload_n_ok dL_deliver_3 rfl, List.forall_mem_cons.mpr ⟨ab_callV_ok' (G' := ab_g154) (C := RX6) (T := TX6) (N := 9) dL_deliver_4 ab_m154 rfl rfl (by decide) (by decide) (ab_l4 ab_w620 ab_w621 ab_w622 ab_w2) ab_w623 rfl ⟨by decide, by decide, by decide +kernel⟩, List.forall_mem_cons.mpr ⟨ab_i2l_ok dL_deliver_7, List.forall_mem_cons.mpr ⟨ab_last_ok dL_deliver_8, List.forall_mem_cons.mpr ⟨ab_goto_ok dL_deliver_9 (by decide), List.forall_mem_cons.mpr ⟨ab_astore_n_ok dL_deliver_12 rfl, List.forall_mem_cons.mpr ⟨ab_iconst_ok dL_deliver_13 (by decide), List.forall_mem_cons.mpr ⟨ab_iret_ok dL_deliver_14 rfl, List.forall_mem_cons.mpr ⟨ab_iconst_ok dL_deliver_15 (by decide), List.forall_mem_cons.mpr ⟨ab_iret_ok dL_deliver_16 rfl, fun _ h => absurd h List.not_mem_nil⟩⟩⟩⟩⟩⟩⟩⟩⟩⟩⟩⟩⟩
theorem ab_k62 (K : ab_Kt) : ∀ pc, ab_OK K ab_mt ab_g62 pc (ab_c62 pc) := ab_lk2_ok _ (List.forall_mem_cons.mpr ⟨ab_k62_0 K, fun _ h => absurd h List.not_mem_nil⟩)
theorem dX7_deliver_0 : decode cX7_deliver 0 = .ok (.aload_n 0, 1) := by decide +kernel
theorem dX7_deliver_1 : decode cX7_deliver 1 = .ok (.iload_n 1, 1) := by decide +kernel
theorem dX7_deliver_2 : decode cX7_deliver 2 = .ok (.iconst 3, 1) := by decide +kernel
theorem dX7_deliver_3 : decode cX7_deliver 3 = .ok (.invokevirtual 101, 3) := by decide +kernel
theorem dX7_deliver_6 : decode cX7_deliver 6 = .ok (.ifCond .eq 5, 3) := by decide +kernel
theorem dX7_deliver_9 : decode cX7_deliver 9 = .ok (.iconst 0, 1) := by decide +kernel
theorem dX7_deliver_10 : decode cX7_deliver 10 = .ok (.ireturn, 1) := by decide +kernel
theorem dX7_deliver_11 : decode cX7_deliver 11 = .ok (.aload_n 0, 1) := by decide +kernel
theorem dX7_deliver_12 : decode cX7_deliver 12 = .ok (.iload_n 1, 1) := by decide +kernel
theorem dX7_deliver_13 : decode cX7_deliver 13 = .ok (.invokevirtual 152, 3) := by decide +kernel
theorem dX7_deliver_16 : decode cX7_deliver 16 = .ok (.ifCond .lt 15, 3) := by decide +kernel
theorem dX7_deliver_19 : decode cX7_deliver 19 = .ok (.aload_n 0, 1) := by decide +kernel
theorem dX7_deliver_20 : decode cX7_deliver 20 = .ok (.bipush 14, 2) := by decide +kernel
theorem dX7_deliver_22 : decode cX7_deliver 22 = .ok (.aload_n 0, 1) := by decide +kernel
theorem dX7_deliver_23 : decode cX7_deliver 23 = .ok (.iload_n 1, 1) := by decide +kernel
theorem dX7_deliver_24 : decode cX7_deliver 24 = .ok (.invokevirtual 152, 3) := by decide +kernel
theorem dX7_deliver_27 : decode cX7_deliver 27 = .ok (.invokevirtual 98, 3) := by decide +kernel
theorem dX7_deliver_30 : decode cX7_deliver 30 = .ok (.ireturn, 1) := by decide +kernel
theorem dX7_deliver_31 : decode cX7_deliver 31 = .ok (.aload_n 0, 1) := by decide +kernel
theorem dX7_deliver_32 : decode cX7_deliver 32 = .ok (.iload_n 1, 1) := by decide +kernel
theorem dX7_deliver_33 : decode cX7_deliver 33 = .ok (.invokevirtual 155, 3) := by decide +kernel
theorem dX7_deliver_36 : decode cX7_deliver 36 = .ok (.istore_n 2, 1) := by decide +kernel
theorem dX7_deliver_37 : decode cX7_deliver 37 = .ok (.iload_n 2, 1) := by decide +kernel
theorem dX7_deliver_38 : decode cX7_deliver 38 = .ok (.aload_n 0, 1) := by decide +kernel
theorem dX7_deliver_39 : decode cX7_deliver 39 = .ok (.getfield 7, 3) := by decide +kernel
theorem dX7_deliver_42 : decode cX7_deliver 42 = .ok (.iconst 1, 1) := by decide +kernel
theorem dX7_deliver_43 : decode cX7_deliver 43 = .ok (.iaload, 1) := by decide +kernel
theorem dX7_deliver_44 : decode cX7_deliver 44 = .ok (.if_icmp .le 18, 3) := by decide +kernel
theorem dX7_deliver_47 : decode cX7_deliver 47 = .ok (.aload_n 0, 1) := by decide +kernel
theorem dX7_deliver_48 : decode cX7_deliver 48 = .ok (.bipush 15, 2) := by decide +kernel
theorem dX7_deliver_50 : decode cX7_deliver 50 = .ok (.iload_n 2, 1) := by decide +kernel
theorem dX7_deliver_51 : decode cX7_deliver 51 = .ok (.aload_n 0, 1) := by decide +kernel
theorem dX7_deliver_52 : decode cX7_deliver 52 = .ok (.getfield 7, 3) := by decide +kernel
theorem dX7_deliver_55 : decode cX7_deliver 55 = .ok (.iconst 1, 1) := by decide +kernel
theorem dX7_deliver_56 : decode cX7_deliver 56 = .ok (.iaload, 1) := by decide +kernel
theorem dX7_deliver_57 : decode cX7_deliver 57 = .ok (.isub, 1) := by decide +kernel
theorem dX7_deliver_58 : decode cX7_deliver 58 = .ok (.invokevirtual 98, 3) := by decide +kernel
theorem dX7_deliver_61 : decode cX7_deliver 61 = .ok (.ireturn, 1) := by decide +kernel
theorem dX7_deliver_62 : decode cX7_deliver 62 = .ok (.aload_n 0, 1) := by decide +kernel
theorem dX7_deliver_63 : decode cX7_deliver 63 = .ok (.aload_n 0, 1) := by decide +kernel
theorem ab_k63_0 (K : ab_Kt) : ∀ q ∈ ab_l63_0, ab_OK K ab_mt ab_g63 q.1 q.2 := by
  unfold ab_l63_0
  exact List.forall_mem_cons.mpr ⟨ab_aload_n_ok dX7_deliver_0 rfl, List.forall_mem_cons.mpr ⟨ab_iload_n_ok dX7_deliver_1 rfl, List.forall_mem_cons.mpr ⟨ab_iconst_ok dX7_deliver_2 (by decide), List.forall_mem_cons.mpr ⟨ab_callV_ok' (G' := ab_g155) (C := RX7) (T := TX7) (N := 19) dX7_deliver_3 ab_m155 rfl rfl (by decide) (by decide) (ab_l4 ab_w624 ab_w625 ab_w626 ab_w8) ab_w627 rfl ⟨by decide, by decide, by decide +kernel⟩, List.forall_mem_cons.mpr ⟨ab_if_eq_ok dX7_deliver_6 (by decide), List.forall_mem_cons.mpr ⟨ab_iconst_ok dX7_deliver_9 (by decide), List.forall_mem_cons.mpr ⟨ab_iret_ok dX7_deliver_10 rfl, List.forall_mem_cons.mpr ⟨ab_aload_n_ok dX7_deliver_11 rfl, List.forall_mem_cons.mpr ⟨ab_iload_n_ok dX7_deliver_12 rfl, List.forall_mem_cons.mpr ⟨ab_callV_ok' (G' := ab_g156) (C := RX7) (T := TX7) (N := 19) dX7_deliver_13 ab_m156 rfl rfl (by decide) (by decide) (ab_l4 ab_w628 ab_w629 ab_w630 ab_w8) ab_w631 rfl ⟨by decide, by decide, by decide +kernel⟩, List.forall_mem_cons.mpr ⟨ab_if_lt_ok dX7_deliver_16 (by decide), List.forall_mem_cons.mpr ⟨ab_aload_n_ok dX7_deliver_19 rfl, List.forall_mem_cons.mpr ⟨ab_bipush_ok dX7_deliver_20 (by decide), List.forall_mem_cons.mpr ⟨ab_aload_n_ok dX7_deliver_22 rfl, List.forall_mem_cons.mpr ⟨ab_iload_n_ok dX7_deliver_23 rfl, List.forall_mem_cons.mpr ⟨ab_callV_ok' (G' := ab_g156) (C := RX7) (T := TX7) (N := 19) dX7_deliver_24 ab_m156 rfl rfl (by decide) (by decide) (ab_l4 ab_w628 ab_w629 ab_w630 ab_w8) ab_w631 rfl ⟨by decide, by decide, by decide +kernel⟩, List.forall_mem_cons.mpr ⟨ab_callV_ok' (G' := ab_g152) (C := RX7) (T := TX7) (N := 19) dX7_deliver_27 ab_m152 rfl rfl (by decide) (by decide) (ab_l4 ab_w612 ab_w613 ab_w614 ab_w8) ab_w615 rfl ⟨by decide, by decide, by decide +kernel⟩, List.forall_mem_cons.mpr ⟨ab_iret_ok dX7_deliver_30 rfl, List.forall_mem_cons.mpr ⟨ab_aload_n_ok dX7_deliver_31 rfl, List.forall_mem_cons.mpr ⟨ab_iload_n_ok dX7_deliver_32 rfl, List.forall_mem_cons.mpr ⟨ab_callV_ok' (G' := ab_g139) (C := RX7) (T := TX7) (N := 19) dX7_deliver_33 ab_m139 rfl rfl (by decide) (by decide) (ab_l4 ab_w560 ab_w561 ab_w562 ab_w8) ab_w563 rfl ⟨by decide, by decide, by decide +kernel⟩, List.forall_mem_cons.mpr ⟨ab_istore_n_ok dX7_deliver_36 rfl, List.forall_mem_cons.mpr ⟨ab_iload_n_ok dX7_deliver_37 rfl, List.forall_mem_cons.mpr ⟨ab_aload_n_ok dX7_deliver_38 rfl, List.forall_mem_cons.mpr ⟨ab_getf_ok (C := RX7) (T := TX7) (N := 19) (ci := 11) (k := 0) dX7_deliver_39 rfl ab_ic11 (by decide) ab_w350, List.forall_mem_cons.mpr ⟨ab_iconst_ok dX7_deliver_42 (by decide), List.forall_mem_cons.mpr ⟨ab_ald0_ok dX7_deliver_43, List.forall_mem_cons.mpr ⟨ab_icmp_le_ok dX7_deliver_44 (by decide), List.forall_mem_cons.mpr ⟨ab_aload_n_ok dX7_deliver_47 rfl, List.forall_mem_cons.mpr ⟨ab_bipush_ok dX7_deliver_48 (by decide), List.forall_mem_cons.mpr ⟨ab_iload_n_ok dX7_deliver_50 rfl, List.forall_mem_cons.mpr ⟨ab_aload_n_ok dX7_deliver_51 rfl, List.forall_mem_cons.mpr ⟨ab_getf_ok (C := RX7) (T := TX7) (N := 19) (ci := 11) (k := 0) dX7_deliver_52 rfl ab_ic11 (by decide) ab_w350, List.forall_mem_cons.mpr ⟨ab_iconst_ok dX7_deliver_55 (by decide), List.forall_mem_cons.mpr ⟨ab_ald0_ok dX7_deliver_56, List.forall_mem_cons.mpr ⟨ab_isub_ok dX7_deliver_57, List.forall_mem_cons.mpr ⟨ab_callV_ok' (G' := ab_g152) (C := RX7) (T := TX7) (N := 19) dX7_deliver_58 ab_m152 rfl rfl (by decide) (by decide) (ab_l4 ab_w612 ab_w613 ab_w614 ab_w8) ab_w615 rfl ⟨by decide, by decide, by decide +kernel⟩, List.forall_mem_cons.mpr ⟨ab_iret_ok dX7_deliver_61 rfl, List.forall_mem_cons.mpr ⟨ab_aload_n_ok dX7_deliver_62 rfl, List.forall_mem_cons.mpr ⟨ab_aload_n_ok dX7_deliver_63 rfl, fun _ h => absurd h List.not_mem_nil⟩⟩⟩⟩⟩⟩⟩⟩⟩⟩⟩⟩⟩⟩⟩⟩⟩⟩⟩⟩⟩⟩⟩⟩⟩⟩⟩⟩⟩⟩⟩⟩⟩⟩⟩⟩⟩⟩⟩⟩
theorem dX7_deliver_64 : decode cX7_deliver 64 = .ok (.getfield 7, 3) := by decide +kernel
theorem dX7_deliver_67 : decode cX7_deliver 67 = .ok (.invokevirtual 104, 3) := by decide +kernel
theorem dX7_deliver_70 : decode cX7_deliver 70 = .ok (.aload_n 0, 1) := by decide +kernel
theorem dX7_deliver_71 : decode cX7_deliver 71 = .ok (.iload_n 1, 1) := by decide +kernel
theorem dX7_deliver_72 : decode cX7_deliver 72 = .ok (.invokevirtual 80, 3) := by decide +kernel
theorem dX7_deliver_75 : decode cX7_deliver 75 = .ok (.aload_n 0, 1) := by decide +kernel
theorem dX7_deliver_76 : decode cX7_deliver 76 = .ok (.iload_n 1, 1) := by decide +kernel
theorem dX7_deliver_77 : decode cX7_deliver 77 = .ok (.invokevirtual 125, 3) := by decide +kernel
theorem dX7_deliver_80 : decode cX7_deliver 80 = .ok (.isub, 1) := by decide +kernel
theorem dX7_deliver_81 : decode cX7_deliver 81 = .ok (.bipush 8, 2) := by decide +kernel
theorem dX7_deliver_83 : decode cX7_deliver 83 = .ok (.idiv, 1) := by decide +kernel
theorem dX7_deliver_84 : decode cX7_deliver 84 = .ok (.istore_n 3, 1) := by decide +kernel
theorem dX7_deliver_85 : decode cX7_deliver 85 = .ok (.aload_n 0, 1) := by decide +kernel
theorem dX7_deliver_86 : decode cX7_deliver 86 = .ok (.getfield 7, 3) := by decide +kernel
theorem dX7_deliver_89 : decode cX7_deliver 89 = .ok (.iconst 1, 1) := by decide +kernel
theorem dX7_deliver_90 : decode cX7_deliver 90 = .ok (.dup2, 1) := by decide +kernel
theorem dX7_deliver_91 : decode cX7_deliver 91 = .ok (.iaload, 1) := by decide +kernel
theorem dX7_deliver_92 : decode cX7_deliver 92 = .ok (.iload_n 3, 1) := by decide +kernel
theorem dX7_deliver_93 : decode cX7_deliver 93 = .ok (.iload_n 2, 1) := by decide +kernel
theorem dX7_deliver_94 : decode cX7_deliver 94 = .ok (.isub, 1) := by decide +kernel
theorem dX7_deliver_95 : decode cX7_deliver 95 = .ok (.iadd, 1) := by decide +kernel
theorem dX7_deliver_96 : decode cX7_deliver 96 = .ok (.iastore, 1) := by decide +kernel
theorem dX7_deliver_97 : decode cX7_deliver 97 = .ok (.aload_n 0, 1) := by decide +kernel
theorem dX7_deliver_98 : decode cX7_deliver 98 = .ok (.getfield 7, 3) := by decide +kernel
theorem dX7_deliver_101 : decode cX7_deliver 101 = .ok (.bipush 7, 2) := by decide +kernel
theorem dX7_deliver_103 : decode cX7_deliver 103 = .ok (.dup2, 1) := by decide +kernel
theorem dX7_deliver_104 : decode cX7_deliver 104 = .ok (.iaload, 1) := by decide +kernel
theorem dX7_deliver_105 : decode cX7_deliver 105 = .ok (.iload_n 3, 1) := by decide +kernel
theorem dX7_deliver_106 : decode cX7_deliver 106 = .ok (.iadd, 1) := by decide +kernel
theorem dX7_deliver_107 : decode cX7_deliver 107 = .ok (.iastore, 1) := by decide +kernel
theorem dX7_deliver_108 : decode cX7_deliver 108 = .ok (.aload_n 0, 1) := by decide +kernel
theorem dX7_deliver_109 : decode cX7_deliver 109 = .ok (.iload_n 1, 1) := by decide +kernel
theorem dX7_deliver_110 : decode cX7_deliver 110 = .ok (.iconst 2, 1) := by decide +kernel
theorem dX7_deliver_111 : decode cX7_deliver 111 = .ok (.iconst 4, 1) := by decide +kernel
theorem dX7_deliver_112 : decode cX7_deliver 112 = .ok (.invokevirtual 108, 3) := by decide +kernel
theorem dX7_deliver_115 : decode cX7_deliver 115 = .ok (.iload_n 3, 1) := by decide +kernel
theorem dX7_deliver_116 : decode cX7_deliver 116 = .ok (.ireturn, 1) := by decide +kernel
theorem ab_k63_1 (K : ab_Kt) : ∀ q ∈ ab_l63_1, ab_OK K ab_mt ab_g63 q.1 q.2 := by
  unfold ab_l63_1
  exact List.forall_mem_cons.mpr ⟨ab_getf_ok (C := RX7) (T := TX7) (N := 19) (ci := 11) (k := 0) dX7_deliver_64 rfl ab_ic11 (by decide) ab_w350, List.forall_mem_cons.mpr ⟨ab_callV_ok' (G' := ab_g117) (C := RX7) (T := TX7) (N := 19) dX7_deliver_67 ab_m117 rfl rfl (by decide) (by decide) (ab_l4 ab_w473 ab_w474 ab_w475 ab_w8) ab_w476 rfl ⟨by decide, by decide, by decide +kernel⟩, List.forall_mem_cons.mpr ⟨ab_aload_n_ok dX7_deliver_70 rfl, List.forall_mem_cons.mpr ⟨ab_iload_n_ok dX7_deliver_71 rfl, List.forall_mem_cons.mpr ⟨ab_callV_ok' (G' := ab_g104) (C := RX7) (T := TX7) (N := 19) dX7_deliver_72 ab_m104 rfl rfl (by decide) (by decide) (ab_l4 ab_w415 ab_w416 ab_w417 ab_w8) ab_w418 rfl ⟨by decide, by decide, by decide +kernel⟩, List.forall_mem_cons.mpr ⟨ab_aload_n_ok dX7_deliver_75 rfl, List.forall_mem_cons.mpr ⟨ab_iload_n_ok dX7_deliver_76 rfl, List.forall_mem_cons.mpr ⟨ab_callV_ok' (G' := ab_g105) (C := RX7) (T := TX7) (N := 19) dX7_deliver_77 ab_m105 rfl rfl (by decide) (by decide) (ab_l4 ab_w419 ab_w420 ab_w421 ab_w8) ab_w422 rfl ⟨by decide, by decide, by decide +kernel⟩, List.forall_mem_cons.mpr ⟨ab_isub_ok dX7_deliver_80, List.forall_mem_cons.mpr ⟨ab_bipush_ok dX7_deliver_81 (by decide), List.forall_mem_cons.mpr ⟨ab_idiv_ok dX7_deliver_83, List.forall_mem_cons.mpr ⟨ab_istore_n_ok dX7_deliver_84 rfl, List.forall_mem_cons.mpr ⟨ab_aload_n_ok dX7_deliver_85 rfl, List.forall_mem_cons.mpr ⟨ab_getf_ok (C := RX7) (T := TX7) (N := 19) (ci := 11) (k := 0) dX7_deliver_86 rfl ab_ic11 (by decide) ab_w350, List.forall_mem_cons.mpr ⟨ab_iconst_ok dX7_deliver_89 (by decide), List.forall_mem_cons.mpr ⟨ab_dup2_ok dX7_deliver_90, List.forall_mem_cons.mpr ⟨ab_ald0_ok dX7_deliver_91, List.forall_mem_cons.mpr ⟨ab_iload_n_ok dX7_deliver_92 rfl, List.forall_mem_cons.mpr ⟨ab_iload_n_ok dX7_deliver_93 rfl, List.forall_mem_cons.mpr ⟨ab_isub_ok dX7_deliver_94, List.forall_mem_cons.mpr ⟨ab_iadd_ok dX7_deliver_95, List.forall_mem_cons.mpr ⟨ab_ast0_ok dX7_deliver_96, List.forall_mem_cons.mpr ⟨ab_aload_n_ok dX7_deliver_97 rfl, List.forall_mem_cons.mpr ⟨ab_getf_ok (C := RX7) (T := TX7) (N := 19) (ci := 11) (k := 0) dX7_deliver_98 rfl ab_ic11 (by decide) ab_w350, List.forall_mem_cons.mpr ⟨ab_bipush_ok dX7_deliver_101 (by decide), List.forall_mem_cons.mpr ⟨ab_dup2_ok dX7_deliver_103, List.forall_mem_cons.mpr ⟨ab_ald0_ok dX7_deliver_104, List.forall_mem_cons.mpr ⟨ab_iload_n_ok dX7_deliver_105 rfl, List.forall_mem_cons.mpr ⟨ab_iadd_ok dX7_deliver_106, List.forall_mem_cons.mpr ⟨ab_ast0_ok dX7_deliver_107, List.forall_mem_cons.mpr ⟨ab_aload_n_ok dX7_deliver_108 rfl, List.forall_mem_cons.mpr ⟨ab_iload_n_ok dX7_deliver_109 rfl, List.forall_mem_cons.mpr ⟨ab_iconst_ok dX7_deliver_110 (by decide), List.forall_mem_cons.mpr ⟨ab_iconst_ok dX7_deliver_111 (by decide), List.forall_mem_cons.mpr ⟨ab_callV_ok' (G' := ab_g157) (C := RX7) (T := TX7) (N := 19) dX7_deliver_112 ab_m157 rfl rfl (by decide) (by decide) (ab_l4 ab_w632 ab_w633 ab_w634 ab_w8) ab_w635 rfl ⟨by decide, by decide, by decide +kernel⟩, List.forall_mem_cons.mpr ⟨ab_iload_n_ok dX7_deliver_115 rfl, List.forall_mem_cons.mpr ⟨ab_iret_ok dX7_deliver_116 rfl, fun _ h => absurd h List.not_mem_nil⟩⟩⟩⟩⟩⟩⟩⟩⟩⟩⟩⟩⟩⟩⟩⟩⟩⟩⟩⟩⟩⟩⟩⟩⟩⟩⟩⟩⟩⟩⟩⟩⟩⟩⟩⟩⟩
theorem ab_k63 (K : ab_Kt) : ∀ pc, ab_OK K ab_mt ab_g63 pc (ab_c63 pc) := ab_lk2_ok _ (List.forall_mem_cons.mpr ⟨ab_k63_0 K, List.forall_mem_cons.mpr ⟨ab_k63_1 K, fun _ h => absurd h List.not_mem_nil⟩⟩)
theorem dL_slip_0 : decode cL_slip 0 = .ok (.aload_n 3, 1) := by decide +kernel
theorem dL_slip_1 : decode cL_slip 1 = .ok (.iconst 0, 1) := by decide +kernel
theorem dL_slip_2 : decode cL_slip 2 = .ok (.aload_n 0, 1) := by decide +kernel
theorem dL_slip_3 : decode cL_slip 3 = .ok (.iload_n 1, 1) := by decide +kernel
theorem dL_slip_4 : decode cL_slip 4 = .ok (.iload_n 2, 1) := by decide +kernel
theorem dL_slip_5 : decode cL_slip 5 = .ok (.invokevirtual 45, 3) := by decide +kernel
theorem dL_slip_8 : decode cL_slip 8 = .ok (.i2l, 1) := by decide +kernel
theorem dL_slip_9 : decode cL_slip 9 = .ok (.lastore, 1) := by decide +kernel
theorem dL_slip_10 : decode cL_slip 10 = .ok (.goto 7, 3) := by decide +kernel
theorem dL_slip_13 : decode cL_slip 13 = .ok (.astore 4, 2) := by decide +kernel
theorem dL_slip_15 : decode cL_slip 15 = .ok (.iconst 1, 1) := by decide +kernel
theorem dL_slip_16 : decode cL_slip 16 = .ok (.ireturn, 1) := by decide +kernel
theorem dL_slip_17 : decode cL_slip 17 = .ok (.iconst 0, 1) := by decide +kernel
theorem dL_slip_18 : decode cL_slip 18 = .ok (.ireturn, 1) := by decide +kernel
theorem ab_k64_0 (K : ab_Kt) : ∀ q ∈ ab_l64_0, ab_OK K ab_mt ab_g64 q.1 q.2 := by
  unfold ab_l64_0
  exact List.forall_mem_cons.mpr ⟨ab_aload_n_ok dL_slip_0 rfl, List.forall_mem_cons.mpr ⟨ab_iconst_ok dL_slip_1 (by decide), List.forall_mem_cons.mpr ⟨ab_aload_n_ok dL_slip_2 rfl, List.forall_mem_cons.mpr ⟨ab_iload_n_ok dL_slip_3 rfl, List.forall_mem_cons.mpr ⟨ab_iload_n_ok dL_slip_4 rfl, List.forall_mem_cons.mpr ⟨ab_callV_ok' (G' := ab_g158) (C := RX6) (T := TX6) (N := 9) dL_slip_5 ab_m158 rfl rfl (by decide) (by decide) (ab_l4 ab_w636 ab_w637 ab_w638 ab_w2) ab_w639 rfl ⟨by decide, by decide, by decide +kernel⟩, List.forall_mem_cons.mpr ⟨ab_i2l_ok dL_slip_8, List.forall_mem_cons.mpr ⟨ab_last_ok dL_slip_9, List.forall_mem_cons.mpr ⟨ab_goto_ok dL_slip_10 (by decide), List.forall_mem_cons.mpr ⟨ab_astore_ok dL_slip_13, List.forall_mem_cons.mpr ⟨ab_iconst_ok dL_slip_15 (by decide), List.forall_mem_cons.mpr ⟨ab_iret_ok dL_slip_16 rfl, List.forall_mem_cons.mpr ⟨ab_iconst_ok dL_slip_17 (by decide), List.forall_mem_cons.mpr ⟨ab_iret_ok dL_slip_18 rfl, fun _ h => absurd h List.not_mem_nil⟩⟩⟩⟩⟩⟩⟩⟩⟩⟩⟩⟩⟩⟩
theorem ab_k64 (K : ab_Kt) : ∀ pc, ab_OK K ab_mt ab_g64 pc (ab_c64 pc) := ab_lk2_ok _ (List.forall_mem_cons.mpr ⟨ab_k64_0 K, fun _ h => absurd h List.not_mem_nil⟩)
theorem dX7_slip_0 : decode cX7_slip 0 = .ok (.aload_n 0, 1) := by decide +kernel
theorem dX7_slip_1 : decode cX7_slip 1 = .ok (.iload_n 1, 1) := by decide +kernel
theorem dX7_slip_2 : decode cX7_slip 2 = .ok (.iconst 3, 1) := by decide +kernel
theorem dX7_slip_3 : decode cX7_slip 3 = .ok (.invokevirtual 101, 3) := by decide +kernel
theorem dX7_slip_6 : decode cX7_slip 6 = .ok (.ifCond .eq 5, 3) := by decide +kernel
theorem dX7_slip_9 : decode cX7_slip 9 = .ok (.iconst 0, 1) := by decide +kernel
theorem dX7_slip_10 : decode cX7_slip 10 = .ok (.ireturn, 1) := by decide +kernel
theorem dX7_slip_11 : decode cX7_slip 11 = .ok (.iload_n 2, 1) := by decide +kernel
theorem dX7_slip_12 : decode cX7_slip 12 = .ok (.iconst 0, 1) := by decide +kernel
theorem dX7_slip_13 : decode cX7_slip 13 = .ok (.aload_n 0, 1) := by decide +kernel
theorem dX7_slip_14 : decode cX7_slip 14 = .ok (.iload_n 1, 1) := by decide +kernel
theorem dX7_slip_15 : decode cX7_slip 15 = .ok (.invokevirtual 80, 3) := by decide +kernel
theorem dX7_slip_18 : decode cX7_slip 18 = .ok (.iconst 1, 1) := by decide +kernel
theorem dX7_slip_19 : decode cX7_slip 19 = .ok (.isub, 1) := by decide +kernel
theorem dX7_slip_20 : decode cX7_slip 20 = .ok (.invokestatic 59, 3) := by decide +kernel
theorem dX7_slip_23 : decode cX7_slip 23 = .ok (.ifCond .eq 12, 3) := by decide +kernel
theorem dX7_slip_26 : decode cX7_slip 26 = .ok (.aload_n 0, 1) := by decide +kernel
theorem dX7_slip_27 : decode cX7_slip 27 = .ok (.iload_n 1, 1) := by decide +kernel
theorem dX7_slip_28 : decode cX7_slip 28 = .ok (.iload_n 2, 1) := by decide +kernel
theorem dX7_slip_29 : decode cX7_slip 29 = .ok (.invokevirtual 84, 3) := by decide +kernel
theorem dX7_slip_32 : decode cX7_slip 32 = .ok (.ifCond .eq 11, 3) := by decide +kernel
theorem dX7_slip_35 : decode cX7_slip 35 = .ok (.aload_n 0, 1) := by decide +kernel
theorem dX7_slip_36 : decode cX7_slip 36 = .ok (.bipush 12, 2) := by decide +kernel
theorem dX7_slip_38 : decode cX7_slip 38 = .ok (.iload_n 2, 1) := by decide +kernel
theorem dX7_slip_39 : decode cX7_slip 39 = .ok (.invokevirtual 98, 3) := by decide +kernel
theorem dX7_slip_42 : decode cX7_slip 42 = .ok (.ireturn, 1) := by decide +kernel
theorem dX7_slip_43 : decode cX7_slip 43 = .ok (.aload_n 0, 1) := by decide +kernel
theorem dX7_slip_44 : decode cX7_slip 44 = .ok (.iload_n 1, 1) := by decide +kernel
theorem dX7_slip_45 : decode cX7_slip 45 = .ok (.iload_n 2, 1) := by decide +kernel
theorem dX7_slip_46 : decode cX7_slip 46 = .ok (.invokevirtual 91, 3) := by decide +kernel
theorem dX7_slip_49 : decode cX7_slip 49 = .ok (.ifCond .eq 11, 3) := by decide +kernel
theorem dX7_slip_52 : decode cX7_slip 52 = .ok (.aload_n 0, 1) := by decide +kernel
theorem dX7_slip_53 : decode cX7_slip 53 = .ok (.bipush 13, 2) := by decide +kernel
theorem dX7_slip_55 : decode cX7_slip 55 = .ok (.iload_n 2, 1) := by decide +kernel
theorem dX7_slip_56 : decode cX7_slip 56 = .ok (.invokevirtual 98, 3) := by decide +kernel
theorem dX7_slip_59 : decode cX7_slip 59 = .ok (.ireturn, 1) := by decide +kernel
theorem dX7_slip_60 : decode cX7_slip 60 = .ok (.aload_n 0, 1) := by decide +kernel
theorem dX7_slip_61 : decode cX7_slip 61 = .ok (.aload_n 0, 1) := by decide +kernel
theorem dX7_slip_62 : decode cX7_slip 62 = .ok (.getfield 7, 3) := by decide +kernel
theorem dX7_slip_65 : decode cX7_slip 65 = .ok (.invokevirtual 104, 3) := by decide +kernel
theorem ab_k65_0 (K : ab_Kt) : ∀ q ∈ ab_l65_0, ab_OK K ab_mt ab_g65 q.1 q.2 := by
  unfold ab_l65_0
  exact List.forall_mem_cons.mpr ⟨ab_aload_n_ok dX7_slip_0 rfl, List.forall_mem_cons.mpr ⟨ab_iload_n_ok dX7_slip_1 rfl, List.forall_mem_cons.mpr ⟨ab_iconst_ok dX7_slip_2 (by decide), List.forall_mem_cons.mpr ⟨ab_callV_ok' (G' := ab_g155) (C := RX7) (T := TX7) (N := 19) dX7_slip_3 ab_m155 rfl rfl (by decide) (by decide) (ab_l4 ab_w624 ab_w625 ab_w626 ab_w8) ab_w627 rfl ⟨by decide, by decide, by decide +kernel⟩, List.forall_mem_cons.mpr ⟨ab_if_eq_ok dX7_slip_6 (by decide), List.forall_mem_cons.mpr ⟨ab_iconst_ok dX7_slip_9 (by decide), List.forall_mem_cons.mpr ⟨ab_iret_ok dX7_slip_10 rfl, List.forall_mem_cons.mpr ⟨ab_iload_n_ok dX7_slip_11 rfl, List.forall_mem_cons.mpr ⟨ab_iconst_ok dX7_slip_12 (by decide), List.forall_mem_cons.mpr ⟨ab_aload_n_ok dX7_slip_13 rfl, List.forall_mem_cons.mpr ⟨ab_iload_n_ok dX7_slip_14 rfl, List.forall_mem_cons.mpr ⟨ab_callV_ok' (G' := ab_g104) (C := RX7) (T := TX7) (N := 19) dX7_slip_15 ab_m104 rfl rfl (by decide) (by decide) (ab_l4 ab_w415 ab_w416 ab_w417 ab_w8) ab_w418 rfl ⟨by decide, by decide, by decide +kernel⟩, List.forall_mem_cons.mpr ⟨ab_iconst_ok dX7_slip_18 (by decide), List.forall_mem_cons.mpr ⟨ab_isub_ok dX7_slip_19, List.forall_mem_cons.mpr ⟨ab_callS_ok' (G' := ab_g97) dX7_slip_20 ab_m97 (by decide) (by decide) (ab_l3 ab_w387 ab_w388 ab_w8) ab_w389 rfl ⟨by decide, by decide, by decide +kernel⟩, List.forall_mem_cons.mpr ⟨ab_if_eq_ok dX7_slip_23 (by decide), List.forall_mem_cons.mpr ⟨ab_aload_n_ok dX7_slip_26 rfl, List.forall_mem_cons.mpr ⟨ab_iload_n_ok dX7_slip_27 rfl, List.forall_mem_cons.mpr ⟨ab_iload_n_ok dX7_slip_28 rfl, List.forall_mem_cons.mpr ⟨ab_callV_ok' (G' := ab_g141) (C := RX7) (T := TX7) (N := 19) dX7_slip_29 ab_m141 rfl rfl (by decide) (by decide) (ab_l4 ab_w568 ab_w569 ab_w570 ab_w8) ab_w571 rfl ⟨by decide, by decide, by decide +kernel⟩, List.forall_mem_cons.mpr ⟨ab_if_eq_ok dX7_slip_32 (by decide), List.forall_mem_cons.mpr ⟨ab_aload_n_ok dX7_slip_35 rfl, List.forall_mem_cons.mpr ⟨ab_bipush_ok dX7_slip_36 (by decide), List.forall_mem_cons.mpr ⟨ab_iload_n_ok dX7_slip_38 rfl, List.forall_mem_cons.mpr ⟨ab_callV_ok' (G' := ab_g152) (C := RX7) (T := TX7) (N := 19) dX7_slip_39 ab_m152 rfl rfl (by decide) (by decide) (ab_l4 ab_w612 ab_w613 ab_w614 ab_w8) ab_w615 rfl ⟨by decide, by decide, by decide +kernel⟩, List.forall_mem_cons.mpr ⟨ab_iret_ok dX7_slip_42 rfl, List.forall_mem_cons.mpr ⟨ab_aload_n_ok dX7_slip_43 rfl, List.forall_mem_cons.mpr ⟨ab_iload_n_ok dX7_slip_44 rfl, List.forall_mem_cons.mpr ⟨ab_iload_n_ok dX7_slip_45 rfl, List.forall_mem_cons.mpr ⟨ab_callV_ok' (G' := ab_g130) (C := RX7) (T := TX7) (N := 19) dX7_slip_46 ab_m130 rfl rfl (by decide) (by decide) (ab_l4 ab_w524 ab_w525 ab_w526 ab_w8) ab_w527 rfl ⟨by decide, by decide, by decide +kernel⟩, List.forall_mem_cons.mpr ⟨ab_if_eq_ok dX7_slip_49 (by decide), List.forall_mem_cons.mpr ⟨ab_aload_n_ok dX7_slip_52 rfl, List.forall_mem_cons.mpr ⟨ab_bipush_ok dX7_slip_53 (by decide), List.forall_mem_cons.mpr ⟨ab_iload_n_ok dX7_slip_55 rfl, List.forall_mem_cons.mpr ⟨ab_callV_ok' (G' := ab_g152) (C := RX7) (T := TX7) (N := 19) dX7_slip_56 ab_m152 rfl rfl (by decide) (by decide) (ab_l4 ab_w612 ab_w613 ab_w614 ab_w8) ab_w615 rfl ⟨by decide, by decide, by decide +kernel⟩, List.forall_mem_cons.mpr ⟨ab_iret_ok dX7_slip_59 rfl, List.forall_mem_cons.mpr ⟨ab_aload_n_ok dX7_slip_60 rfl, List.forall_mem_cons.mpr ⟨ab_aload_n_ok dX7_slip_61 rfl, List.forall_mem_cons.mpr ⟨ab_getf_ok (C := RX7) (T := TX7) (N := 19) (ci := 11) (k := 0) dX7_slip_62 rfl ab_ic11 (by decide) ab_w350, List.forall_mem_cons.mpr ⟨ab_callV_ok' (G' := ab_g117) (C := RX7) (T := TX7) (N := 19) dX7_slip_65 ab_m117 rfl rfl (by decide) (by decide) (ab_l4 ab_w473 ab_w474 ab_w475 ab_w8) ab_w476 rfl ⟨by decide, by decide, by decide +kernel⟩, fun _ h => absurd h List.not_mem_nil⟩⟩⟩⟩⟩⟩⟩⟩⟩⟩⟩⟩⟩⟩⟩⟩⟩⟩⟩⟩⟩⟩⟩⟩⟩⟩⟩⟩⟩⟩⟩⟩⟩⟩⟩⟩⟩⟩⟩⟩
theorem dX7_slip_68 : decode cX7_slip 68 = .ok (.aload_n 0, 1) := by decide +kernel
theorem dX7_slip_69 : decode cX7_slip 69 = .ok (.iload_n 1, 1) := by decide +kernel
theorem dX7_slip_70 : decode cX7_slip 70 = .ok (.bipush 43, 2) := by decide +kernel
theorem dX7_slip_72 : decode cX7_slip 72 = .ok (.iload_n 2, 1) := by decide +kernel
theorem dX7_slip_73 : decode cX7_slip 73 = .ok (.bipush 24, 2) := by decide +kernel
theorem dX7_slip_75 : decode cX7_slip 75 = .ok (.idiv, 1) := by decide +kernel
theorem dX7_slip_76 : decode cX7_slip 76 = .ok (.iadd, 1) := by decide +kernel
theorem dX7_slip_77 : decode cX7_slip 77 = .ok (.aload_n 0, 1) := by decide +kernel
theorem dX7_slip_78 : decode cX7_slip 78 = .ok (.iload_n 1, 1) := by decide +kernel
theorem dX7_slip_79 : decode cX7_slip 79 = .ok (.bipush 43, 2) := by decide +kernel
theorem dX7_slip_81 : decode cX7_slip 81 = .ok (.iload_n 2, 1) := by decide +kernel
theorem dX7_slip_82 : decode cX7_slip 82 = .ok (.bipush 24, 2) := by decide +kernel
theorem dX7_slip_84 : decode cX7_slip 84 = .ok (.idiv, 1) := by decide +kernel
theorem dX7_slip_85 : decode cX7_slip 85 = .ok (.iadd, 1) := by decide +kernel
theorem dX7_slip_86 : decode cX7_slip 86 = .ok (.invokevirtual 63, 3) := by decide +kernel
theorem dX7_slip_89 : decode cX7_slip 89 = .ok (.iconst 1, 1) := by decide +kernel
theorem dX7_slip_90 : decode cX7_slip 90 = .ok (.iload_n 2, 1) := by decide +kernel
theorem dX7_slip_91 : decode cX7_slip 91 = .ok (.bipush 24, 2) := by decide +kernel
theorem dX7_slip_93 : decode cX7_slip 93 = .ok (.irem, 1) := by decide +kernel
theorem dX7_slip_94 : decode cX7_slip 94 = .ok (.ishl, 1) := by decide +kernel
theorem dX7_slip_95 : decode cX7_slip 95 = .ok (.ior, 1) := by decide +kernel
theorem dX7_slip_96 : decode cX7_slip 96 = .ok (.invokevirtual 108, 3) := by decide +kernel
theorem dX7_slip_99 : decode cX7_slip 99 = .ok (.aload_n 0, 1) := by decide +kernel
theorem dX7_slip_100 : decode cX7_slip 100 = .ok (.getfield 7, 3) := by decide +kernel
theorem dX7_slip_103 : decode cX7_slip 103 = .ok (.bipush 6, 2) := by decide +kernel
theorem dX7_slip_105 : decode cX7_slip 105 = .ok (.dup2, 1) := by decide +kernel
theorem dX7_slip_106 : decode cX7_slip 106 = .ok (.iaload, 1) := by decide +kernel
theorem dX7_slip_107 : decode cX7_slip 107 = .ok (.iconst 1, 1) := by decide +kernel
theorem dX7_slip_108 : decode cX7_slip 108 = .ok (.iadd, 1) := by decide +kernel
theorem dX7_slip_109 : decode cX7_slip 109 = .ok (.iastore, 1) := by decide +kernel
theorem dX7_slip_110 : decode cX7_slip 110 = .ok (.aload_n 0, 1) := by decide +kernel
theorem dX7_slip_111 : decode cX7_slip 111 = .ok (.iload_n 1, 1) := by decide +kernel
theorem dX7_slip_112 : decode cX7_slip 112 = .ok (.invokevirtual 149, 3) := by decide +kernel
theorem dX7_slip_115 : decode cX7_slip 115 = .ok (.ireturn, 1) := by decide +kernel
theorem ab_k65_1 (K : ab_Kt) : ∀ q ∈ ab_l65_1, ab_OK K ab_mt ab_g65 q.1 q.2 := by
  unfold ab_l65_1
  exact List.forall_mem_cons.mpr ⟨ab_aload_n_ok dX7_slip_68 rfl, List.forall_mem_cons.mpr ⟨ab_iload_n_ok dX7_slip_69 rfl, List.forall_mem_cons.mpr ⟨ab_bipush_ok dX7_slip_70 (by decide), List.forall_mem_cons.mpr ⟨ab_iload_n_ok dX7_slip_72 rfl, List.forall_mem_cons.mpr ⟨ab_bipush_ok dX7_slip_73 (by decide), List.forall_mem_cons.mpr ⟨ab_idiv_ok dX7_slip_75, List.forall_mem_cons.mpr ⟨ab_iadd_ok dX7_slip_76, List.forall_mem_cons.mpr ⟨ab_aload_n_ok dX7_slip_77 rfl, List.forall_mem_cons.mpr ⟨ab_iload_n_ok dX7_slip_78 rfl, List.forall_mem_cons.mpr ⟨ab_bipush_ok dX7_slip_79 (by decide), List.forall_mem_cons.mpr ⟨ab_iload_n_ok dX7_slip_81 rfl, List.forall_mem_cons.mpr ⟨ab_bipush_ok dX7_slip_82 (by decide), List.forall_mem_cons.mpr ⟨ab_idiv_ok dX7_slip_84, List.forall_mem_cons.mpr ⟨ab_iadd_ok dX7_slip_85, List.forall_mem_cons.mpr ⟨ab_callV_ok' (G' := ab_g110) (C := RX7) (T := TX7) (N := 19) dX7_slip_86 ab_m110 rfl rfl (by decide) (by decide) (ab_l4 ab_w440 ab_w441 ab_w442 ab_w8) ab_w443 rfl ⟨by decide, by decide, by decide +kernel⟩, List.forall_mem_cons.mpr ⟨ab_iconst_ok dX7_slip_89 (by decide), List.forall_mem_cons.mpr ⟨ab_iload_n_ok dX7_slip_90 rfl, List.forall_mem_cons.mpr ⟨ab_bipush_ok dX7_slip_91 (by decide), List.forall_mem_cons.mpr ⟨ab_irem_ok dX7_slip_93, List.forall_mem_cons.mpr ⟨ab_ishl_ok dX7_slip_94, List.forall_mem_cons.mpr ⟨ab_ior_ok dX7_slip_95, List.forall_mem_cons.mpr ⟨ab_callV_ok' (G' := ab_g157) (C := RX7) (T := TX7) (N := 19) dX7_slip_96 ab_m157 rfl rfl (by decide) (by decide) (ab_l4 ab_w632 ab_w633 ab_w634 ab_w8) ab_w635 rfl ⟨by decide, by decide, by decide +kernel⟩, List.forall_mem_cons.mpr ⟨ab_aload_n_ok dX7_slip_99 rfl, List.forall_mem_cons.mpr ⟨ab_getf_ok (C := RX7) (T := TX7) (N := 19) (ci := 11) (k := 0) dX7_slip_100 rfl ab_ic11 (by decide) ab_w350, List.forall_mem_cons.mpr ⟨ab_bipush_ok dX7_slip_103 (by decide), List.forall_mem_cons.mpr ⟨ab_dup2_ok dX7_slip_105, List.forall_mem_cons.mpr ⟨ab_ald0_ok dX7_slip_106, List.forall_mem_cons.mpr ⟨ab_iconst_ok dX7_slip_107 (by decide), List.forall_mem_cons.mpr ⟨ab_iadd_ok dX7_slip_108, List.forall_mem_cons.mpr ⟨ab_ast0_ok dX7_slip_109, List.forall_mem_cons.mpr ⟨ab_aload_n_ok dX7_slip_110 rfl, List.forall_mem_cons.mpr ⟨ab_iload_n_ok dX7_slip_111 rfl, List.forall_mem_cons.mpr ⟨ab_callV_ok' (G' := ab_g150) (C := RX7) (T := TX7) (N := 19) dX7_slip_112 ab_m150 rfl rfl (by decide) (by decide) (ab_l4 ab_w604 ab_w605 ab_w606 ab_w8) ab_w607 rfl ⟨by decide, by decide, by decide +kernel⟩, List.forall_mem_cons.mpr ⟨ab_iret_ok dX7_slip_115 rfl, fun _ h => absurd h List.not_mem_nil⟩⟩⟩⟩⟩⟩⟩⟩⟩⟩⟩⟩⟩⟩⟩⟩⟩⟩⟩⟩⟩⟩⟩⟩⟩⟩⟩⟩⟩⟩⟩⟩⟩⟩
theorem ab_k65 (K : ab_Kt) : ∀ pc, ab_OK K ab_mt ab_g65 pc (ab_c65 pc) := ab_lk2_ok _ (List.forall_mem_cons.mpr ⟨ab_k65_0 K, List.forall_mem_cons.mpr ⟨ab_k65_1 K, fun _ h => absurd h List.not_mem_nil⟩⟩)
theorem dL_lift_0 : decode cL_lift 0 = .ok (.aload_n 2, 1) := by decide +kernel
theorem dL_lift_1 : decode cL_lift 1 = .ok (.iconst 0, 1) := by decide +kernel
theorem dL_lift_2 : decode cL_lift 2 = .ok (.aload_n 0, 1) := by decide +kernel
theorem dL_lift_3 : decode cL_lift 3 = .ok (.iload_n 1, 1) := by decide +kernel
theorem dL_lift_4 : decode cL_lift 4 = .ok (.invokevirtual 42, 3) := by decide +kernel
theorem dL_lift_7 : decode cL_lift 7 = .ok (.i2l, 1) := by decide +kernel
theorem dL_lift_8 : decode cL_lift 8 = .ok (.lastore, 1) := by decide +kernel
theorem dL_lift_9 : decode cL_lift 9 = .ok (.goto 6, 3) := by decide +kernel
theorem dL_lift_12 : decode cL_lift 12 = .ok (.astore_n 3, 1) := by decide +kernel
theorem dL_lift_13 : decode cL_lift 13 = .ok (.iconst 1, 1) := by decide +kernel
theorem dL_lift_14 : decode cL_lift 14 = .ok (.ireturn, 1) := by decide +kernel
theorem dL_lift_15 : decode cL_lift 15 = .ok (.iconst 0, 1) := by decide +kernel
theorem dL_lift_16 : decode cL_lift 16 = .ok (.ireturn, 1) := by decide +kernel
theorem ab_k66_0 (K : ab_Kt) : ∀ q ∈ ab_l66_0, ab_OK K ab_mt ab_g66 q.1 q.2 := by
  unfold ab_l66_0
  exact List.forall_mem_cons.mpr ⟨ab_aload_n_ok dL_lift_0 rfl, List.forall_mem_cons.mpr ⟨ab_iconst_ok dL_lift_1 (by decide), List.forall_mem_cons.mpr ⟨ab_aload_n_ok dL_lift_2 rfl, List.forall_mem_cons.mpr ⟨ab_iload_n_ok dL_lift_3 rfl, List.forall_mem_cons.mpr ⟨ab_callV_ok' (G' := ab_g159) (C := RX6) (T := TX6) (N := 9) dL_lift_4 ab_m159 rfl rfl (by decide) (by decide) (ab_l4 ab_w640 ab_w641 ab_w642 ab_w2) ab_w643 rfl ⟨by decide, by decide, by decide +kernel⟩, List.forall_mem_cons.mpr ⟨ab_i2l_ok dL_lift_7, List.forall_mem_cons.mpr ⟨ab_last_ok dL_lift_8, List.forall_mem_cons.mpr ⟨ab_goto_ok dL_lift_9 (by decide), List.forall_mem_cons.mpr ⟨ab_astore_n_ok dL_lift_12 rfl, List.forall_mem_cons.mpr ⟨ab_iconst_ok dL_lift_13 (by decide), List.forall_mem_cons.mpr ⟨ab_iret_ok dL_lift_14 rfl, List.forall_mem_cons.mpr ⟨ab_iconst_ok dL_lift_15 (by decide), List.forall_mem_cons.mpr ⟨ab_iret_ok dL_lift_16 rfl, fun _ h => absurd h List.not_mem_nil⟩⟩⟩⟩⟩⟩⟩⟩⟩⟩⟩⟩⟩
theorem ab_k66 (K : ab_Kt) : ∀ pc, ab_OK K ab_mt ab_g66 pc (ab_c66 pc) := ab_lk2_ok _ (List.forall_mem_cons.mpr ⟨ab_k66_0 K, fun _ h => absurd h List.not_mem_nil⟩)
theorem dX7_lift_0 : decode cX7_lift 0 = .ok (.iload_n 1, 1) := by decide +kernel
theorem dX7_lift_1 : decode cX7_lift 1 = .ok (.invokestatic 137, 3) := by decide +kernel
theorem dX7_lift_4 : decode cX7_lift 4 = .ok (.ifCond .ne 10, 3) := by decide +kernel
theorem dX7_lift_7 : decode cX7_lift 7 = .ok (.aload_n 0, 1) := by decide +kernel
theorem dX7_lift_8 : decode cX7_lift 8 = .ok (.iconst 3, 1) := by decide +kernel
theorem dX7_lift_9 : decode cX7_lift 9 = .ok (.iload_n 1, 1) := by decide +kernel
theorem dX7_lift_10 : decode cX7_lift 10 = .ok (.invokevirtual 98, 3) := by decide +kernel
theorem dX7_lift_13 : decode cX7_lift 13 = .ok (.ireturn, 1) := by decide +kernel
theorem dX7_lift_14 : decode cX7_lift 14 = .ok (.aload_n 0, 1) := by decide +kernel
theorem dX7_lift_15 : decode cX7_lift 15 = .ok (.iload_n 1, 1) := by decide +kernel
theorem dX7_lift_16 : decode cX7_lift 16 = .ok (.invokevirtual 140, 3) := by decide +kernel
theorem dX7_lift_19 : decode cX7_lift 19 = .ok (.ifCond .ne 11, 3) := by decide +kernel
theorem dX7_lift_22 : decode cX7_lift 22 = .ok (.aload_n 0, 1) := by decide +kernel
theorem dX7_lift_23 : decode cX7_lift 23 = .ok (.bipush 11, 2) := by decide +kernel
theorem dX7_lift_25 : decode cX7_lift 25 = .ok (.iload_n 1, 1) := by decide +kernel
theorem dX7_lift_26 : decode cX7_lift 26 = .ok (.invokevirtual 98, 3) := by decide +kernel
theorem dX7_lift_29 : decode cX7_lift 29 = .ok (.ireturn, 1) := by decide +kernel
theorem dX7_lift_30 : decode cX7_lift 30 = .ok (.aload_n 0, 1) := by decide +kernel
theorem dX7_lift_31 : decode cX7_lift 31 = .ok (.iload_n 1, 1) := by decide +kernel
theorem dX7_lift_32 : decode cX7_lift 32 = .ok (.aload_n 0, 1) := by decide +kernel
theorem dX7_lift_33 : decode cX7_lift 33 = .ok (.iload_n 1, 1) := by decide +kernel
theorem dX7_lift_34 : decode cX7_lift 34 = .ok (.invokevirtual 140, 3) := by decide +kernel
theorem dX7_lift_37 : decode cX7_lift 37 = .ok (.iconst 1, 1) := by decide +kernel
theorem dX7_lift_38 : decode cX7_lift 38 = .ok (.isub, 1) := by decide +kernel
theorem dX7_lift_39 : decode cX7_lift 39 = .ok (.invokevirtual 143, 3) := by decide +kernel
theorem dX7_lift_42 : decode cX7_lift 42 = .ok (.istore_n 2, 1) := by decide +kernel
theorem dX7_lift_43 : decode cX7_lift 43 = .ok (.aload_n 0, 1) := by decide +kernel
theorem dX7_lift_44 : decode cX7_lift 44 = .ok (.iload_n 2, 1) := by decide +kernel
theorem dX7_lift_45 : decode cX7_lift 45 = .ok (.invokevirtual 146, 3) := by decide +kernel
theorem dX7_lift_48 : decode cX7_lift 48 = .ok (.ifCond .le 15, 3) := by decide +kernel
theorem dX7_lift_51 : decode cX7_lift 51 = .ok (.aload_n 0, 1) := by decide +kernel
theorem dX7_lift_52 : decode cX7_lift 52 = .ok (.bipush 10, 2) := by decide +kernel
theorem dX7_lift_54 : decode cX7_lift 54 = .ok (.aload_n 0, 1) := by decide +kernel
theorem dX7_lift_55 : decode cX7_lift 55 = .ok (.iload_n 2, 1) := by decide +kernel
theorem dX7_lift_56 : decode cX7_lift 56 = .ok (.invokevirtual 146, 3) := by decide +kernel
theorem dX7_lift_59 : decode cX7_lift 59 = .ok (.invokevirtual 98, 3) := by decide +kernel
theorem dX7_lift_62 : decode cX7_lift 62 = .ok (.ireturn, 1) := by decide +kernel
theorem dX7_lift_63 : decode cX7_lift 63 = .ok (.aload_n 0, 1) := by decide +kernel
theorem dX7_lift_64 : decode cX7_lift 64 = .ok (.aload_n 0, 1) := by decide +kernel
theorem dX7_lift_65 : decode cX7_lift 65 = .ok (.getfield 7, 3) := by decide +kernel
theorem ab_k67_0 (K : ab_Kt) : ∀ q ∈ ab_l67_0, ab_OK K ab_mt ab_g67 q.1 q.2 := by
  unfold ab_l67_0
  exact List.forall_mem_cons.mpr ⟨ab_iload_n_ok dX7_lift_0 rfl, List.forall_mem_cons.mpr ⟨ab_callS_ok' (G' := ab_g122) dX7_lift_1 ab_m122 (by decide) (by decide) (ab_l3 ab_w494 ab_w495 ab_w8) ab_w496 rfl ⟨by decide, by decide, by decide +kernel⟩, List.forall_mem_cons.mpr ⟨ab_if_ne_ok dX7_lift_4 (by decide), List.forall_mem_cons.mpr ⟨ab_aload_n_ok dX7_lift_7 rfl, List.forall_mem_cons.mpr ⟨ab_iconst_ok dX7_lift_8 (by decide), List.forall_mem_cons.mpr ⟨ab_iload_n_ok dX7_lift_9 rfl, List.forall_mem_cons.mpr ⟨ab_callV_ok' (G' := ab_g152) (C := RX7) (T := TX7) (N := 19) dX7_lift_10 ab_m152 rfl rfl (by decide) (by decide) (ab_l4 ab_w612 ab_w613 ab_w614 ab_w8) ab_w615 rfl ⟨by decide, by decide, by decide +kernel⟩, List.forall_mem_cons.mpr ⟨ab_iret_ok dX7_lift_13 rfl, List.forall_mem_cons.mpr ⟨ab_aload_n_ok dX7_lift_14 rfl, List.forall_mem_cons.mpr ⟨ab_iload_n_ok dX7_lift_15 rfl, List.forall_mem_cons.mpr ⟨ab_callV_ok' (G' := ab_g100) (C := RX7) (T := TX7) (N := 19) dX7_lift_16 ab_m100 rfl rfl (by decide) (by decide) (ab_l4 ab_w399 ab_w400 ab_w401 ab_w8) ab_w402 rfl ⟨by decide, by decide, by decide +kernel⟩, List.forall_mem_cons.mpr ⟨ab_if_ne_ok dX7_lift_19 (by decide), List.forall_mem_cons.mpr ⟨ab_aload_n_ok dX7_lift_22 rfl, List.forall_mem_cons.mpr ⟨ab_bipush_ok dX7_lift_23 (by decide), List.forall_mem_cons.mpr ⟨ab_iload_n_ok dX7_lift_25 rfl, List.forall_mem_cons.mpr ⟨ab_callV_ok' (G' := ab_g152) (C := RX7) (T := TX7) (N := 19) dX7_lift_26 ab_m152 rfl rfl (by decide) (by decide) (ab_l4 ab_w612 ab_w613 ab_w614 ab_w8) ab_w615 rfl ⟨by decide, by decide, by decide +kernel⟩, List.forall_mem_cons.mpr ⟨ab_iret_ok dX7_lift_29 rfl, List.forall_mem_cons.mpr ⟨ab_aload_n_ok dX7_lift_30 rfl, List.forall_mem_cons.mpr ⟨ab_iload_n_ok dX7_lift_31 rfl, List.forall_mem_cons.mpr ⟨ab_aload_n_ok dX7_lift_32 rfl, List.forall_mem_cons.mpr ⟨ab_iload_n_ok dX7_lift_33 rfl, List.forall_mem_cons.mpr ⟨ab_callV_ok' (G' := ab_g100) (C := RX7) (T := TX7) (N := 19) dX7_lift_34 ab_m100 rfl rfl (by decide) (by decide) (ab_l4 ab_w399 ab_w400 ab_w401 ab_w8) ab_w402 rfl ⟨by decide, by decide, by decide +kernel⟩, List.forall_mem_cons.mpr ⟨ab_iconst_ok dX7_lift_37 (by decide), List.forall_mem_cons.mpr ⟨ab_isub_ok dX7_lift_38, List.forall_mem_cons.mpr ⟨ab_callV_ok' (G' := ab_g123) (C := RX7) (T := TX7) (N := 19) dX7_lift_39 ab_m123 rfl rfl (by decide) (by decide) (ab_l4 ab_w497 ab_w498 ab_w499 ab_w8) ab_w500 rfl ⟨by decide, by decide, by decide +kernel⟩, List.forall_mem_cons.mpr ⟨ab_istore_n_ok dX7_lift_42 rfl, List.forall_mem_cons.mpr ⟨ab_aload_n_ok dX7_lift_43 rfl, List.forall_mem_cons.mpr ⟨ab_iload_n_ok dX7_lift_44 rfl, List.forall_mem_cons.mpr ⟨ab_callV_ok' (G' := ab_g125) (C := RX7) (T := TX7) (N := 19) dX7_lift_45 ab_m125 rfl rfl (by decide) (by decide) (ab_l4 ab_w505 ab_w506 ab_w507 ab_w8) ab_w508 rfl ⟨by decide, by decide, by decide +kernel⟩, List.forall_mem_cons.mpr ⟨ab_if_le_ok dX7_lift_48 (by decide), List.forall_mem_cons.mpr ⟨ab_aload_n_ok dX7_lift_51 rfl, List.forall_mem_cons.mpr ⟨ab_bipush_ok dX7_lift_52 (by decide), List.forall_mem_cons.mpr ⟨ab_aload_n_ok dX7_lift_54 rfl, List.forall_mem_cons.mpr ⟨ab_iload_n_ok dX7_lift_55 rfl, List.forall_mem_cons.mpr ⟨ab_callV_ok' (G' := ab_g125) (C := RX7) (T := TX7) (N := 19) dX7_lift_56 ab_m125 rfl rfl (by decide) (by decide) (ab_l4 ab_w505 ab_w506 ab_w507 ab_w8) ab_w508 rfl ⟨by decide, by decide, by decide +kernel⟩, List.forall_mem_cons.mpr ⟨ab_callV_ok' (G' := ab_g152) (C := RX7) (T := TX7) (N := 19) dX7_lift_59 ab_m152 rfl rfl (by decide) (by decide) (ab_l4 ab_w612 ab_w613 ab_w614 ab_w8) ab_w615 rfl ⟨by decide, by decide, by decide +kernel⟩, List.forall_mem_cons.mpr ⟨ab_iret_ok dX7_lift_62 rfl, List.forall_mem_cons.mpr ⟨ab_aload_n_ok dX7_lift_63 rfl, List.forall_mem_cons.mpr ⟨ab_aload_n_ok dX7_lift_64 rfl, List.forall_mem_cons.mpr ⟨ab_getf_ok (C := RX7) (T := TX7) (N := 19) (ci := 11) (k := 0) dX7_lift_65 rfl ab_ic11 (by decide) ab_w350, fun _ h => absurd h List.not_mem_nil⟩⟩⟩⟩⟩⟩⟩⟩⟩⟩⟩⟩⟩⟩⟩⟩⟩⟩⟩⟩⟩⟩⟩⟩⟩⟩⟩⟩⟩⟩⟩⟩⟩⟩⟩⟩⟩⟩⟩⟩
theorem dX7_lift_68 : decode cX7_lift 68 = .ok (.invokevirtual 104, 3) := by decide +kernel
theorem dX7_lift_71 : decode cX7_lift 71 = .ok (.aload_n 0, 1) := by decide +kernel
theorem dX7_lift_72 : decode cX7_lift 72 = .ok (.getfield 7, 3) := by decide +kernel
theorem dX7_lift_75 : decode cX7_lift 75 = .ok (.bipush 8, 2) := by decide +kernel
theorem dX7_lift_77 : decode cX7_lift 77 = .ok (.iconst 4, 1) := by decide +kernel
theorem dX7_lift_78 : decode cX7_lift 78 = .ok (.iload_n 1, 1) := by decide +kernel
theorem dX7_lift_79 : decode cX7_lift 79 = .ok (.imul, 1) := by decide +kernel
theorem dX7_lift_80 : decode cX7_lift 80 = .ok (.iadd, 1) := by decide +kernel
theorem dX7_lift_81 : decode cX7_lift 81 = .ok (.dup2, 1) := by decide +kernel
theorem dX7_lift_82 : decode cX7_lift 82 = .ok (.iaload, 1) := by decide +kernel
theorem dX7_lift_83 : decode cX7_lift 83 = .ok (.iconst 1, 1) := by decide +kernel
theorem dX7_lift_84 : decode cX7_lift 84 = .ok (.isub, 1) := by decide +kernel
theorem dX7_lift_85 : decode cX7_lift 85 = .ok (.iastore, 1) := by decide +kernel
theorem dX7_lift_86 : decode cX7_lift 86 = .ok (.aload_n 0, 1) := by decide +kernel
theorem dX7_lift_87 : decode cX7_lift 87 = .ok (.iload_n 2, 1) := by decide +kernel
theorem dX7_lift_88 : decode cX7_lift 88 = .ok (.iconst 2, 1) := by decide +kernel
theorem dX7_lift_89 : decode cX7_lift 89 = .ok (.iconst 3, 1) := by decide +kernel
theorem dX7_lift_90 : decode cX7_lift 90 = .ok (.invokevirtual 108, 3) := by decide +kernel
theorem dX7_lift_93 : decode cX7_lift 93 = .ok (.iload_n 2, 1) := by decide +kernel
theorem dX7_lift_94 : decode cX7_lift 94 = .ok (.ireturn, 1) := by decide +kernel
theorem ab_k67_1 (K : ab_Kt) : ∀ q ∈ ab_l67_1, ab_OK K ab_mt ab_g67 q.1 q.2 := by
  unfold ab_l67_1
  exact List.forall_mem_cons.mpr ⟨ab_callV_ok' (G' := ab_g117) (C := RX7) (T := TX7) (N := 19) dX7_lift_68 ab_m117 rfl rfl (by decide) (by decide) (ab_l4 ab_w473 ab_w474 ab_w475 ab_w8) ab_w476 rfl ⟨by decide, by decide, by decide +kernel⟩, List.forall_mem_cons.mpr ⟨ab_aload_n_ok dX7_lift_71 rfl, List.forall_mem_cons.mpr ⟨ab_getf_ok (C := RX7) (T := TX7) (N := 19) (ci := 11) (k := 0) dX7_lift_72 rfl ab_ic11 (by decide) ab_w350, List.forall_mem_cons.mpr ⟨ab_bipush_ok dX7_lift_75 (by decide), List.forall_mem_cons.mpr ⟨ab_iconst_ok dX7_lift_77 (by decide), List.forall_mem_cons.mpr ⟨ab_iload_n_ok dX7_lift_78 rfl, List.forall_mem_cons.mpr ⟨ab_imul_ok dX7_lift_79, List.forall_mem_cons.mpr ⟨ab_iadd_ok dX7_lift_80, List.forall_mem_cons.mpr ⟨ab_dup2_ok dX7_lift_81, List.forall_mem_cons.mpr ⟨ab_ald0_ok dX7_lift_82, List.forall_mem_cons.mpr ⟨ab_iconst_ok dX7_lift_83 (by decide), List.forall_mem_cons.mpr ⟨ab_isub_ok dX7_lift_84, List.forall_mem_cons.mpr ⟨ab_ast0_ok dX7_lift_85, List.forall_mem_cons.mpr ⟨ab_aload_n_ok dX7_lift_86 rfl, List.forall_mem_cons.mpr ⟨ab_iload_n_ok dX7_lift_87 rfl, List.forall_mem_cons.mpr ⟨ab_iconst_ok dX7_lift_88 (by decide), List.forall_mem_cons.mpr ⟨ab_iconst_ok dX7_lift_89 (by decide), List.forall_mem_cons.mpr ⟨ab_callV_ok' (G' := ab_g157) (C := RX7) (T := TX7) (N := 19) dX7_lift_90 ab_m157 rfl rfl (by decide) (by decide) (ab_l4 ab_w632 ab_w633 ab_w634 ab_w8) ab_w635 rfl ⟨by decide, by decide, by decide +kernel⟩, List.forall_mem_cons.mpr ⟨ab_iload_n_ok dX7_lift_93 rfl, List.forall_mem_cons.mpr ⟨ab_iret_ok dX7_lift_94 rfl, fun _ h => absurd h List.not_mem_nil⟩⟩⟩⟩⟩⟩⟩⟩⟩⟩⟩⟩⟩⟩⟩⟩⟩⟩⟩⟩
theorem ab_k67 (K : ab_Kt) : ∀ pc, ab_OK K ab_mt ab_g67 pc (ab_c67 pc) := ab_lk2_ok _ (List.forall_mem_cons.mpr ⟨ab_k67_0 K, List.forall_mem_cons.mpr ⟨ab_k67_1 K, fun _ h => absurd h List.not_mem_nil⟩⟩)
theorem dL_press_0 : decode cL_press 0 = .ok (.aload_n 3, 1) := by decide +kernel
theorem dL_press_1 : decode cL_press 1 = .ok (.iconst 0, 1) := by decide +kernel
theorem dL_press_2 : decode cL_press 2 = .ok (.aload_n 0, 1) := by decide +kernel
theorem dL_press_3 : decode cL_press 3 = .ok (.iload_n 1, 1) := by decide +kernel
theorem dL_press_4 : decode cL_press 4 = .ok (.iload_n 2, 1) := by decide +kernel
theorem dL_press_5 : decode cL_press 5 = .ok (.invokevirtual 39, 3) := by decide +kernel
theorem dL_press_8 : decode cL_press 8 = .ok (.i2l, 1) := by decide +kernel
theorem dL_press_9 : decode cL_press 9 = .ok (.lastore, 1) := by decide +kernel
theorem dL_press_10 : decode cL_press 10 = .ok (.goto 7, 3) := by decide +kernel
theorem dL_press_13 : decode cL_press 13 = .ok (.astore 4, 2) := by decide +kernel
theorem dL_press_15 : decode cL_press 15 = .ok (.iconst 1, 1) := by decide +kernel
theorem dL_press_16 : decode cL_press 16 = .ok (.ireturn, 1) := by decide +kernel
theorem dL_press_17 : decode cL_press 17 = .ok (.iconst 0, 1) := by decide +kernel
theorem dL_press_18 : decode cL_press 18 = .ok (.ireturn, 1) := by decide +kernel
theorem ab_k68_0 (K : ab_Kt) : ∀ q ∈ ab_l68_0, ab_OK K ab_mt ab_g68 q.1 q.2 := by
  unfold ab_l68_0
  exact List.forall_mem_cons.mpr ⟨ab_aload_n_ok dL_press_0 rfl, List.forall_mem_cons.mpr ⟨ab_iconst_ok dL_press_1 (by decide), List.forall_mem_cons.mpr ⟨ab_aload_n_ok dL_press_2 rfl, List.forall_mem_cons.mpr ⟨ab_iload_n_ok dL_press_3 rfl, List.forall_mem_cons.mpr ⟨ab_iload_n_ok dL_press_4 rfl, List.forall_mem_cons.mpr ⟨ab_callV_ok' (G' := ab_g160) (C := RX6) (T := TX6) (N := 9) dL_press_5 ab_m160 rfl rfl (by decide) (by decide) (ab_l4 ab_w644 ab_w645 ab_w646 ab_w2) ab_w647 rfl ⟨by decide, by decide, by decide +kernel⟩, List.forall_mem_cons.mpr ⟨ab_i2l_ok dL_press_8, List.forall_mem_cons.mpr ⟨ab_last_ok dL_press_9, List.forall_mem_cons.mpr ⟨ab_goto_ok dL_press_10 (by decide), List.forall_mem_cons.mpr ⟨ab_astore_ok dL_press_13, List.forall_mem_cons.mpr ⟨ab_iconst_ok dL_press_15 (by decide), List.forall_mem_cons.mpr ⟨ab_iret_ok dL_press_16 rfl, List.forall_mem_cons.mpr ⟨ab_iconst_ok dL_press_17 (by decide), List.forall_mem_cons.mpr ⟨ab_iret_ok dL_press_18 rfl, fun _ h => absurd h List.not_mem_nil⟩⟩⟩⟩⟩⟩⟩⟩⟩⟩⟩⟩⟩⟩
theorem ab_k68 (K : ab_Kt) : ∀ pc, ab_OK K ab_mt ab_g68 pc (ab_c68 pc) := ab_lk2_ok _ (List.forall_mem_cons.mpr ⟨ab_k68_0 K, fun _ h => absurd h List.not_mem_nil⟩)
theorem dX7_press_0 : decode cX7_press 0 = .ok (.aload_n 0, 1) := by decide +kernel
theorem dX7_press_1 : decode cX7_press 1 = .ok (.iload_n 1, 1) := by decide +kernel
theorem dX7_press_2 : decode cX7_press 2 = .ok (.invokevirtual 94, 3) := by decide +kernel
theorem dX7_press_5 : decode cX7_press 5 = .ok (.ifCond .ne 10, 3) := by decide +kernel
theorem dX7_press_8 : decode cX7_press 8 = .ok (.aload_n 0, 1) := by decide +kernel
theorem dX7_press_9 : decode cX7_press 9 = .ok (.iconst 3, 1) := by decide +kernel
theorem dX7_press_10 : decode cX7_press 10 = .ok (.iload_n 1, 1) := by decide +kernel
theorem dX7_press_11 : decode cX7_press 11 = .ok (.invokevirtual 98, 3) := by decide +kernel
theorem dX7_press_14 : decode cX7_press 14 = .ok (.ireturn, 1) := by decide +kernel
theorem dX7_press_15 : decode cX7_press 15 = .ok (.iload_n 2, 1) := by decide +kernel
theorem dX7_press_16 : decode cX7_press 16 = .ok (.invokestatic 137, 3) := by decide +kernel
theorem dX7_press_19 : decode cX7_press 19 = .ok (.ifCond .ne 10, 3) := by decide +kernel
theorem dX7_press_22 : decode cX7_press 22 = .ok (.aload_n 0, 1) := by decide +kernel
theorem dX7_press_23 : decode cX7_press 23 = .ok (.iconst 3, 1) := by decide +kernel
theorem dX7_press_24 : decode cX7_press 24 = .ok (.iload_n 2, 1) := by decide +kernel
theorem dX7_press_25 : decode cX7_press 25 = .ok (.invokevirtual 98, 3) := by decide +kernel
theorem dX7_press_28 : decode cX7_press 28 = .ok (.ireturn, 1) := by decide +kernel
theorem dX7_press_29 : decode cX7_press 29 = .ok (.aload_n 0, 1) := by decide +kernel
theorem dX7_press_30 : decode cX7_press 30 = .ok (.iload_n 1, 1) := by decide +kernel
theorem dX7_press_31 : decode cX7_press 31 = .ok (.iconst 1, 1) := by decide +kernel
theorem dX7_press_32 : decode cX7_press 32 = .ok (.invokevirtual 101, 3) := by decide +kernel
theorem dX7_press_35 : decode cX7_press 35 = .ok (.ifCond .eq 5, 3) := by decide +kernel
theorem dX7_press_38 : decode cX7_press 38 = .ok (.iconst 0, 1) := by decide +kernel
theorem dX7_press_39 : decode cX7_press 39 = .ok (.ireturn, 1) := by decide +kernel
theorem dX7_press_40 : decode cX7_press 40 = .ok (.aload_n 0, 1) := by decide +kernel
theorem dX7_press_41 : decode cX7_press 41 = .ok (.iload_n 2, 1) := by decide +kernel
theorem dX7_press_42 : decode cX7_press 42 = .ok (.invokevirtual 140, 3) := by decide +kernel
theorem dX7_press_45 : decode cX7_press 45 = .ok (.iconst 3, 1) := by decide +kernel
theorem dX7_press_46 : decode cX7_press 46 = .ok (.if_icmp .ne 10, 3) := by decide +kernel
theorem dX7_press_49 : decode cX7_press 49 = .ok (.aload_n 0, 1) := by decide +kernel
theorem dX7_press_50 : decode cX7_press 50 = .ok (.iconst 2, 1) := by decide +kernel
theorem dX7_press_51 : decode cX7_press 51 = .ok (.iconst 3, 1) := by decide +kernel
theorem dX7_press_52 : decode cX7_press 52 = .ok (.invokevirtual 98, 3) := by decide +kernel
theorem dX7_press_55 : decode cX7_press 55 = .ok (.ireturn, 1) := by decide +kernel
theorem dX7_press_56 : decode cX7_press 56 = .ok (.aload_n 0, 1) := by decide +kernel
theorem dX7_press_57 : decode cX7_press 57 = .ok (.aload_n 0, 1) := by decide +kernel
theorem dX7_press_58 : decode cX7_press 58 = .ok (.getfield 7, 3) := by decide +kernel
theorem dX7_press_61 : decode cX7_press 61 = .ok (.invokevirtual 104, 3) := by decide +kernel
theorem dX7_press_64 : decode cX7_press 64 = .ok (.aload_n 0, 1) := by decide +kernel
theorem dX7_press_65 : decode cX7_press 65 = .ok (.getfield 7, 3) := by decide +kernel
theorem ab_k69_0 (K : ab_Kt) : ∀ q ∈ ab_l69_0, ab_OK K ab_mt ab_g69 q.1 q.2 := by
  unfold ab_l69_0
  exact List.forall_mem_cons.mpr ⟨ab_aload_n_ok dX7_press_0 rfl, List.forall_mem_cons.mpr ⟨ab_iload_n_ok dX7_press_1 rfl, List.forall_mem_cons.mpr ⟨ab_callV_ok' (G' := ab_g103) (C := RX7) (T := TX7) (N := 19) dX7_press_2 ab_m103 rfl rfl (by decide) (by decide) (ab_l4 ab_w411 ab_w412 ab_w413 ab_w8) ab_w414 rfl ⟨by decide, by decide, by decide +kernel⟩, List.forall_mem_cons.mpr ⟨ab_if_ne_ok dX7_press_5 (by decide), List.forall_mem_cons.mpr ⟨ab_aload_n_ok dX7_press_8 rfl, List.forall_mem_cons.mpr ⟨ab_iconst_ok dX7_press_9 (by decide), List.forall_mem_cons.mpr ⟨ab_iload_n_ok dX7_press_10 rfl, List.forall_mem_cons.mpr ⟨ab_callV_ok' (G' := ab_g152) (C := RX7) (T := TX7) (N := 19) dX7_press_11 ab_m152 rfl rfl (by decide) (by decide) (ab_l4 ab_w612 ab_w613 ab_w614 ab_w8) ab_w615 rfl ⟨by decide, by decide, by decide +kernel⟩, List.forall_mem_cons.mpr ⟨ab_iret_ok dX7_press_14 rfl, List.forall_mem_cons.mpr ⟨ab_iload_n_ok dX7_press_15 rfl, List.forall_mem_cons.mpr ⟨ab_callS_ok' (G' := ab_g122) dX7_press_16 ab_m122 (by decide) (by decide) (ab_l3 ab_w494 ab_w495 ab_w8) ab_w496 rfl ⟨by decide, by decide, by decide +kernel⟩, List.forall_mem_cons.mpr ⟨ab_if_ne_ok dX7_press_19 (by decide), List.forall_mem_cons.mpr ⟨ab_aload_n_ok dX7_press_22 rfl, List.forall_mem_cons.mpr ⟨ab_iconst_ok dX7_press_23 (by decide), List.forall_mem_cons.mpr ⟨ab_iload_n_ok dX7_press_24 rfl, List.forall_mem_cons.mpr ⟨ab_callV_ok' (G' := ab_g152) (C := RX7) (T := TX7) (N := 19) dX7_press_25 ab_m152 rfl rfl (by decide) (by decide) (ab_l4 ab_w612 ab_w613 ab_w614 ab_w8) ab_w615 rfl ⟨by decide, by decide, by decide +kernel⟩, List.forall_mem_cons.mpr ⟨ab_iret_ok dX7_press_28 rfl, List.forall_mem_cons.mpr ⟨ab_aload_n_ok dX7_press_29 rfl, List.forall_mem_cons.mpr ⟨ab_iload_n_ok dX7_press_30 rfl, List.forall_mem_cons.mpr ⟨ab_iconst_ok dX7_press_31 (by decide), List.forall_mem_cons.mpr ⟨ab_callV_ok' (G' := ab_g155) (C := RX7) (T := TX7) (N := 19) dX7_press_32 ab_m155 rfl rfl (by decide) (by decide) (ab_l4 ab_w624 ab_w625 ab_w626 ab_w8) ab_w627 rfl ⟨by decide, by decide, by decide +kernel⟩, List.forall_mem_cons.mpr ⟨ab_if_eq_ok dX7_press_35 (by decide), List.forall_mem_cons.mpr ⟨ab_iconst_ok dX7_press_38 (by decide), List.forall_mem_cons.mpr ⟨ab_iret_ok dX7_press_39 rfl, List.forall_mem_cons.mpr ⟨ab_aload_n_ok dX7_press_40 rfl, List.forall_mem_cons.mpr ⟨ab_iload_n_ok dX7_press_41 rfl, List.forall_mem_cons.mpr ⟨ab_callV_ok' (G' := ab_g100) (C := RX7) (T := TX7) (N := 19) dX7_press_42 ab_m100 rfl rfl (by decide) (by decide) (ab_l4 ab_w399 ab_w400 ab_w401 ab_w8) ab_w402 rfl ⟨by decide, by decide, by decide +kernel⟩, List.forall_mem_cons.mpr ⟨ab_iconst_ok dX7_press_45 (by decide), List.forall_mem_cons.mpr ⟨ab_icmp_ne_ok dX7_press_46 (by decide), List.forall_mem_cons.mpr ⟨ab_aload_n_ok dX7_press_49 rfl, List.forall_mem_cons.mpr ⟨ab_iconst_ok dX7_press_50 (by decide), List.forall_mem_cons.mpr ⟨ab_iconst_ok dX7_press_51 (by decide), List.forall_mem_cons.mpr ⟨ab_callV_ok' (G' := ab_g152) (C := RX7) (T := TX7) (N := 19) dX7_press_52 ab_m152 rfl rfl (by decide) (by decide) (ab_l4 ab_w612 ab_w613 ab_w614 ab_w8) ab_w615 rfl ⟨by decide, by decide, by decide +kernel⟩, List.forall_mem_cons.mpr ⟨ab_iret_ok dX7_press_55 rfl, List.forall_mem_cons.mpr ⟨ab_aload_n_ok dX7_press_56 rfl, List.forall_mem_cons.mpr ⟨ab_aload_n_ok dX7_press_57 rfl, List.forall_mem_cons.mpr ⟨ab_getf_ok (C := RX7) (T := TX7) (N := 19) (ci := 11) (k := 0) dX7_press_58 rfl ab_ic11 (by decide) ab_w350, List.forall_mem_cons.mpr ⟨ab_callV_ok' (G' := ab_g117) (C := RX7) (T := TX7) (N := 19) dX7_press_61 ab_m117 rfl rfl (by decide) (by decide) (ab_l4 ab_w473 ab_w474 ab_w475 ab_w8) ab_w476 rfl ⟨by decide, by decide, by decide +kernel⟩, List.forall_mem_cons.mpr ⟨ab_aload_n_ok dX7_press_64 rfl, List.forall_mem_cons.mpr ⟨ab_getf_ok (C := RX7) (T := TX7) (N := 19) (ci := 11) (k := 0) dX7_press_65 rfl ab_ic11 (by decide) ab_w350, fun _ h => absurd h List.not_mem_nil⟩⟩⟩⟩⟩⟩⟩⟩⟩⟩⟩⟩⟩⟩⟩⟩⟩⟩⟩⟩⟩⟩⟩⟩⟩⟩⟩⟩⟩⟩⟩⟩⟩⟩⟩⟩⟩⟩⟩⟩
theorem dX7_press_68 : decode cX7_press 68 = .ok (.bipush 8, 2) := by decide +kernel
theorem dX7_press_70 : decode cX7_press 70 = .ok (.iconst 4, 1) := by decide +kernel
theorem dX7_press_71 : decode cX7_press 71 = .ok (.iload_n 2, 1) := by decide +kernel
theorem dX7_press_72 : decode cX7_press 72 = .ok (.imul, 1) := by decide +kernel
theorem dX7_press_73 : decode cX7_press 73 = .ok (.iadd, 1) := by decide +kernel
theorem dX7_press_74 : decode cX7_press 74 = .ok (.iconst 1, 1) := by decide +kernel
theorem dX7_press_75 : decode cX7_press 75 = .ok (.iadd, 1) := by decide +kernel
theorem dX7_press_76 : decode cX7_press 76 = .ok (.aload_n 0, 1) := by decide +kernel
theorem dX7_press_77 : decode cX7_press 77 = .ok (.iload_n 2, 1) := by decide +kernel
theorem dX7_press_78 : decode cX7_press 78 = .ok (.invokevirtual 140, 3) := by decide +kernel
theorem dX7_press_81 : decode cX7_press 81 = .ok (.iadd, 1) := by decide +kernel
theorem dX7_press_82 : decode cX7_press 82 = .ok (.iload_n 1, 1) := by decide +kernel
theorem dX7_press_83 : decode cX7_press 83 = .ok (.iastore, 1) := by decide +kernel
theorem dX7_press_84 : decode cX7_press 84 = .ok (.aload_n 0, 1) := by decide +kernel
theorem dX7_press_85 : decode cX7_press 85 = .ok (.getfield 7, 3) := by decide +kernel
theorem dX7_press_88 : decode cX7_press 88 = .ok (.bipush 8, 2) := by decide +kernel
theorem dX7_press_90 : decode cX7_press 90 = .ok (.iconst 4, 1) := by decide +kernel
theorem dX7_press_91 : decode cX7_press 91 = .ok (.iload_n 2, 1) := by decide +kernel
theorem dX7_press_92 : decode cX7_press 92 = .ok (.imul, 1) := by decide +kernel
theorem dX7_press_93 : decode cX7_press 93 = .ok (.iadd, 1) := by decide +kernel
theorem dX7_press_94 : decode cX7_press 94 = .ok (.dup2, 1) := by decide +kernel
theorem dX7_press_95 : decode cX7_press 95 = .ok (.iaload, 1) := by decide +kernel
theorem dX7_press_96 : decode cX7_press 96 = .ok (.iconst 1, 1) := by decide +kernel
theorem dX7_press_97 : decode cX7_press 97 = .ok (.iadd, 1) := by decide +kernel
theorem dX7_press_98 : decode cX7_press 98 = .ok (.iastore, 1) := by decide +kernel
theorem dX7_press_99 : decode cX7_press 99 = .ok (.aload_n 0, 1) := by decide +kernel
theorem dX7_press_100 : decode cX7_press 100 = .ok (.iload_n 1, 1) := by decide +kernel
theorem dX7_press_101 : decode cX7_press 101 = .ok (.iconst 2, 1) := by decide +kernel
theorem dX7_press_102 : decode cX7_press 102 = .ok (.iconst 2, 1) := by decide +kernel
theorem dX7_press_103 : decode cX7_press 103 = .ok (.invokevirtual 108, 3) := by decide +kernel
theorem dX7_press_106 : decode cX7_press 106 = .ok (.aload_n 0, 1) := by decide +kernel
theorem dX7_press_107 : decode cX7_press 107 = .ok (.iload_n 2, 1) := by decide +kernel
theorem dX7_press_108 : decode cX7_press 108 = .ok (.invokevirtual 140, 3) := by decide +kernel
theorem dX7_press_111 : decode cX7_press 111 = .ok (.ireturn, 1) := by decide +kernel
theorem ab_k69_1 (K : ab_Kt) : ∀ q ∈ ab_l69_1, ab_OK K ab_mt ab_g69 q.1 q.2 := by
  unfold ab_l69_1
  exact List.forall_mem_cons.mpr ⟨ab_bipush_ok dX7_press_68 (by decide), List.forall_mem_cons.mpr ⟨ab_iconst_ok dX7_press_70 (by decide), List.forall_mem_cons.mpr ⟨ab_iload_n_ok dX7_press_71 rfl, List.forall_mem_cons.mpr ⟨ab_imul_ok dX7_press_72, List.forall_mem_cons.mpr ⟨ab_iadd_ok dX7_press_73, List.forall_mem_cons.mpr ⟨ab_iconst_ok dX7_press_74 (by decide), List.forall_mem_cons.mpr ⟨ab_iadd_ok dX7_press_75, List.forall_mem_cons.mpr ⟨ab_aload_n_ok dX7_press_76 rfl, List.forall_mem_cons.mpr ⟨ab_iload_n_ok dX7_press_77 rfl, List.forall_mem_cons.mpr ⟨ab_callV_ok' (G' := ab_g100) (C := RX7) (T := TX7) (N := 19) dX7_press_78 ab_m100 rfl rfl (by decide) (by decide) (ab_l4 ab_w399 ab_w400 ab_w401 ab_w8) ab_w402 rfl ⟨by decide, by decide, by decide +kernel⟩, List.forall_mem_cons.mpr ⟨ab_iadd_ok dX7_press_81, List.forall_mem_cons.mpr ⟨ab_iload_n_ok dX7_press_82 rfl, List.forall_mem_cons.mpr ⟨ab_ast0_ok dX7_press_83, List.forall_mem_cons.mpr ⟨ab_aload_n_ok dX7_press_84 rfl, List.forall_mem_cons.mpr ⟨ab_getf_ok (C := RX7) (T := TX7) (N := 19) (ci := 11) (k := 0) dX7_press_85 rfl ab_ic11 (by decide) ab_w350, List.forall_mem_cons.mpr ⟨ab_bipush_ok dX7_press_88 (by decide), List.forall_mem_cons.mpr ⟨ab_iconst_ok dX7_press_90 (by decide), List.forall_mem_cons.mpr ⟨ab_iload_n_ok dX7_press_91 rfl, List.forall_mem_cons.mpr ⟨ab_imul_ok dX7_press_92, List.forall_mem_cons.mpr ⟨ab_iadd_ok dX7_press_93, List.forall_mem_cons.mpr ⟨ab_dup2_ok dX7_press_94, List.forall_mem_cons.mpr ⟨ab_ald0_ok dX7_press_95, List.forall_mem_cons.mpr ⟨ab_iconst_ok dX7_press_96 (by decide), List.forall_mem_cons.mpr ⟨ab_iadd_ok dX7_press_97, List.forall_mem_cons.mpr ⟨ab_ast0_ok dX7_press_98, List.forall_mem_cons.mpr ⟨ab_aload_n_ok dX7_press_99 rfl, List.forall_mem_cons.mpr ⟨ab_iload_n_ok dX7_press_100 rfl, List.forall_mem_cons.mpr ⟨ab_iconst_ok dX7_press_101 (by decide), List.forall_mem_cons.mpr ⟨ab_iconst_ok dX7_press_102 (by decide), List.forall_mem_cons.mpr ⟨ab_callV_ok' (G' := ab_g157) (C := RX7) (T := TX7) (N := 19) dX7_press_103 ab_m157 rfl rfl (by decide) (by decide) (ab_l4 ab_w632 ab_w633 ab_w634 ab_w8) ab_w635 rfl ⟨by decide, by decide, by decide +kernel⟩, List.forall_mem_cons.mpr ⟨ab_aload_n_ok dX7_press_106 rfl, List.forall_mem_cons.mpr ⟨ab_iload_n_ok dX7_press_107 rfl, List.forall_mem_cons.mpr ⟨ab_callV_ok' (G' := ab_g100) (C := RX7) (T := TX7) (N := 19) dX7_press_108 ab_m100 rfl rfl (by decide) (by decide) (ab_l4 ab_w399 ab_w400 ab_w401 ab_w8) ab_w402 rfl ⟨by decide, by decide, by decide +kernel⟩, List.forall_mem_cons.mpr ⟨ab_iret_ok dX7_press_111 rfl, fun _ h => absurd h List.not_mem_nil⟩⟩⟩⟩⟩⟩⟩⟩⟩⟩⟩⟩⟩⟩⟩⟩⟩⟩⟩⟩⟩⟩⟩⟩⟩⟩⟩⟩⟩⟩⟩⟩⟩⟩
theorem ab_k69 (K : ab_Kt) : ∀ pc, ab_OK K ab_mt ab_g69 pc (ab_c69 pc) := ab_lk2_ok _ (List.forall_mem_cons.mpr ⟨ab_k69_0 K, List.forall_mem_cons.mpr ⟨ab_k69_1 K, fun _ h => absurd h List.not_mem_nil⟩⟩)
theorem dL_glue_0 : decode cL_glue 0 = .ok (.aload_n 3, 1) := by decide +kernel
theorem dL_glue_1 : decode cL_glue 1 = .ok (.iconst 0, 1) := by decide +kernel
theorem dL_glue_2 : decode cL_glue 2 = .ok (.aload_n 0, 1) := by decide +kernel
theorem dL_glue_3 : decode cL_glue 3 = .ok (.iload_n 1, 1) := by decide +kernel
theorem dL_glue_4 : decode cL_glue 4 = .ok (.iload_n 2, 1) := by decide +kernel
theorem dL_glue_5 : decode cL_glue 5 = .ok (.invokevirtual 36, 3) := by decide +kernel
theorem dL_glue_8 : decode cL_glue 8 = .ok (.i2l, 1) := by decide +kernel
theorem dL_glue_9 : decode cL_glue 9 = .ok (.lastore, 1) := by decide +kernel
theorem dL_glue_10 : decode cL_glue 10 = .ok (.goto 7, 3) := by decide +kernel
theorem dL_glue_13 : decode cL_glue 13 = .ok (.astore 4, 2) := by decide +kernel
theorem dL_glue_15 : decode cL_glue 15 = .ok (.iconst 1, 1) := by decide +kernel
theorem dL_glue_16 : decode cL_glue 16 = .ok (.ireturn, 1) := by decide +kernel
theorem dL_glue_17 : decode cL_glue 17 = .ok (.iconst 0, 1) := by decide +kernel
theorem dL_glue_18 : decode cL_glue 18 = .ok (.ireturn, 1) := by decide +kernel
theorem ab_k70_0 (K : ab_Kt) : ∀ q ∈ ab_l70_0, ab_OK K ab_mt ab_g70 q.1 q.2 := by
  unfold ab_l70_0
  exact List.forall_mem_cons.mpr ⟨ab_aload_n_ok dL_glue_0 rfl, List.forall_mem_cons.mpr ⟨ab_iconst_ok dL_glue_1 (by decide), List.forall_mem_cons.mpr ⟨ab_aload_n_ok dL_glue_2 rfl, List.forall_mem_cons.mpr ⟨ab_iload_n_ok dL_glue_3 rfl, List.forall_mem_cons.mpr ⟨ab_iload_n_ok dL_glue_4 rfl, List.forall_mem_cons.mpr ⟨ab_callV_ok' (G' := ab_g161) (C := RX6) (T := TX6) (N := 9) dL_glue_5 ab_m161 rfl rfl (by decide) (by decide) (ab_l4 ab_w648 ab_w649 ab_w650 ab_w2) ab_w651 rfl ⟨by decide, by decide, by decide +kernel⟩, List.forall_mem_cons.mpr ⟨ab_i2l_ok dL_glue_8, List.forall_mem_cons.mpr ⟨ab_last_ok dL_glue_9, List.forall_mem_cons.mpr ⟨ab_goto_ok dL_glue_10 (by decide), List.forall_mem_cons.mpr ⟨ab_astore_ok dL_glue_13, List.forall_mem_cons.mpr ⟨ab_iconst_ok dL_glue_15 (by decide), List.forall_mem_cons.mpr ⟨ab_iret_ok dL_glue_16 rfl, List.forall_mem_cons.mpr ⟨ab_iconst_ok dL_glue_17 (by decide), List.forall_mem_cons.mpr ⟨ab_iret_ok dL_glue_18 rfl, fun _ h => absurd h List.not_mem_nil⟩⟩⟩⟩⟩⟩⟩⟩⟩⟩⟩⟩⟩⟩
theorem ab_k70 (K : ab_Kt) : ∀ pc, ab_OK K ab_mt ab_g70 pc (ab_c70 pc) := ab_lk2_ok _ (List.forall_mem_cons.mpr ⟨ab_k70_0 K, fun _ h => absurd h List.not_mem_nil⟩)
theorem dX7_glue_0 : decode cX7_glue 0 = .ok (.aload_n 0, 1) := by decide +kernel
theorem dX7_glue_1 : decode cX7_glue 1 = .ok (.iload_n 1, 1) := by decide +kernel
theorem dX7_glue_2 : decode cX7_glue 2 = .ok (.invokevirtual 94, 3) := by decide +kernel
theorem dX7_glue_5 : decode cX7_glue 5 = .ok (.ifCond .ne 10, 3) := by decide +kernel
theorem dX7_glue_8 : decode cX7_glue 8 = .ok (.aload_n 0, 1) := by decide +kernel
theorem dX7_glue_9 : decode cX7_glue 9 = .ok (.iconst 3, 1) := by decide +kernel
theorem dX7_glue_10 : decode cX7_glue 10 = .ok (.iload_n 1, 1) := by decide +kernel
theorem dX7_glue_11 : decode cX7_glue 11 = .ok (.invokevirtual 98, 3) := by decide +kernel
theorem dX7_glue_14 : decode cX7_glue 14 = .ok (.ireturn, 1) := by decide +kernel
theorem dX7_glue_15 : decode cX7_glue 15 = .ok (.iload_n 2, 1) := by decide +kernel
theorem dX7_glue_16 : decode cX7_glue 16 = .ok (.iconst 0, 1) := by decide +kernel
theorem dX7_glue_17 : decode cX7_glue 17 = .ok (.iconst 2, 1) := by decide +kernel
theorem dX7_glue_18 : decode cX7_glue 18 = .ok (.invokestatic 59, 3) := by decide +kernel
theorem dX7_glue_21 : decode cX7_glue 21 = .ok (.ifCond .ne 10, 3) := by decide +kernel
theorem dX7_glue_24 : decode cX7_glue 24 = .ok (.aload_n 0, 1) := by decide +kernel
theorem dX7_glue_25 : decode cX7_glue 25 = .ok (.iconst 3, 1) := by decide +kernel
theorem dX7_glue_26 : decode cX7_glue 26 = .ok (.iload_n 2, 1) := by decide +kernel
theorem dX7_glue_27 : decode cX7_glue 27 = .ok (.invokevirtual 98, 3) := by decide +kernel
theorem dX7_glue_30 : decode cX7_glue 30 = .ok (.ireturn, 1) := by decide +kernel
theorem dX7_glue_31 : decode cX7_glue 31 = .ok (.aload_n 0, 1) := by decide +kernel
theorem dX7_glue_32 : decode cX7_glue 32 = .ok (.iload_n 1, 1) := by decide +kernel
theorem dX7_glue_33 : decode cX7_glue 33 = .ok (.iconst 0, 1) := by decide +kernel
theorem dX7_glue_34 : decode cX7_glue 34 = .ok (.invokevirtual 101, 3) := by decide +kernel
theorem dX7_glue_37 : decode cX7_glue 37 = .ok (.ifCond .eq 5, 3) := by decide +kernel
theorem dX7_glue_40 : decode cX7_glue 40 = .ok (.iconst 0, 1) := by decide +kernel
theorem dX7_glue_41 : decode cX7_glue 41 = .ok (.ireturn, 1) := by decide +kernel
theorem dX7_glue_42 : decode cX7_glue 42 = .ok (.aload_n 0, 1) := by decide +kernel
theorem dX7_glue_43 : decode cX7_glue 43 = .ok (.iload_n 1, 1) := by decide +kernel
theorem dX7_glue_44 : decode cX7_glue 44 = .ok (.iconst 3, 1) := by decide +kernel
theorem dX7_glue_45 : decode cX7_glue 45 = .ok (.invokevirtual 63, 3) := by decide +kernel
theorem dX7_glue_48 : decode cX7_glue 48 = .ok (.ifCond .ne 11, 3) := by decide +kernel
theorem dX7_glue_51 : decode cX7_glue 51 = .ok (.aload_n 0, 1) := by decide +kernel
theorem dX7_glue_52 : decode cX7_glue 52 = .ok (.bipush 9, 2) := by decide +kernel
theorem dX7_glue_54 : decode cX7_glue 54 = .ok (.iconst 0, 1) := by decide +kernel
theorem dX7_glue_55 : decode cX7_glue 55 = .ok (.invokevirtual 98, 3) := by decide +kernel
theorem dX7_glue_58 : decode cX7_glue 58 = .ok (.ireturn, 1) := by decide +kernel
theorem dX7_glue_59 : decode cX7_glue 59 = .ok (.aload_n 0, 1) := by decide +kernel
theorem dX7_glue_60 : decode cX7_glue 60 = .ok (.iload_n 1, 1) := by decide +kernel
theorem dX7_glue_61 : decode cX7_glue 61 = .ok (.iconst 4, 1) := by decide +kernel
theorem dX7_glue_62 : decode cX7_glue 62 = .ok (.invokevirtual 63, 3) := by decide +kernel
theorem ab_k71_0 (K : ab_Kt) : ∀ q ∈ ab_l71_0, ab_OK K ab_mt ab_g71 q.1 q.2 := by
  unfold ab_l71_0
  exact List.forall_mem_cons.mpr ⟨ab_aload_n_ok dX7_glue_0 rfl, List.forall_mem_cons.mpr ⟨ab_iload_n_ok dX7_glue_1 rfl, List.forall_mem_cons.mpr ⟨ab_callV_ok' (G' := ab_g103) (C := RX7) (T := TX7) (N := 19) dX7_glue_2 ab_m103 rfl rfl (by decide) (by decide) (ab_l4 ab_w411 ab_w412 ab_w413 ab_w8) ab_w414 rfl ⟨by decide, by decide, by decide +kernel⟩, List.forall_mem_cons.mpr ⟨ab_if_ne_ok dX7_glue_5 (by decide), List.forall_mem_cons.mpr ⟨ab_aload_n_ok dX7_glue_8 rfl, List.forall_mem_cons.mpr ⟨ab_iconst_ok dX7_glue_9 (by decide), List.forall_mem_cons.mpr ⟨ab_iload_n_ok dX7_glue_10 rfl, List.forall_mem_cons.mpr ⟨ab_callV_ok' (G' := ab_g152) (C := RX7) (T := TX7) (N := 19) dX7_glue_11 ab_m152 rfl rfl (by decide) (by decide) (ab_l4 ab_w612 ab_w613 ab_w614 ab_w8) ab_w615 rfl ⟨by decide, by decide, by decide +kernel⟩, List.forall_mem_cons.mpr ⟨ab_iret_ok dX7_glue_14 rfl, List.forall_mem_cons.mpr ⟨ab_iload_n_ok dX7_glue_15 rfl, List.forall_mem_cons.mpr ⟨ab_iconst_ok dX7_glue_16 (by decide), List.forall_mem_cons.mpr ⟨ab_iconst_ok dX7_glue_17 (by decide), List.forall_mem_cons.mpr ⟨ab_callS_ok' (G' := ab_g97) dX7_glue_18 ab_m97 (by decide) (by decide) (ab_l3 ab_w387 ab_w388 ab_w8) ab_w389 rfl ⟨by decide, by decide, by decide +kernel⟩, List.forall_mem_cons.mpr ⟨ab_if_ne_ok dX7_glue_21 (by decide), List.forall_mem_cons.mpr ⟨ab_aload_n_ok dX7_glue_24 rfl, List.forall_mem_cons.mpr ⟨ab_iconst_ok dX7_glue_25 (by decide), List.forall_mem_cons.mpr ⟨ab_iload_n_ok dX7_glue_26 rfl, List.forall_mem_cons.mpr ⟨ab_callV_ok' (G' := ab_g152) (C := RX7) (T := TX7) (N := 19) dX7_glue_27 ab_m152 rfl rfl (by decide) (by decide) (ab_l4 ab_w612 ab_w613 ab_w614 ab_w8) ab_w615 rfl ⟨by decide, by decide, by decide +kernel⟩, List.forall_mem_cons.mpr ⟨ab_iret_ok dX7_glue_30 rfl, List.forall_mem_cons.mpr ⟨ab_aload_n_ok dX7_glue_31 rfl, List.forall_mem_cons.mpr ⟨ab_iload_n_ok dX7_glue_32 rfl, List.forall_mem_cons.mpr ⟨ab_iconst_ok dX7_glue_33 (by decide), List.forall_mem_cons.mpr ⟨ab_callV_ok' (G' := ab_g155) (C := RX7) (T := TX7) (N := 19) dX7_glue_34 ab_m155 rfl rfl (by decide) (by decide) (ab_l4 ab_w624 ab_w625 ab_w626 ab_w8) ab_w627 rfl ⟨by decide, by decide, by decide +kernel⟩, List.forall_mem_cons.mpr ⟨ab_if_eq_ok dX7_glue_37 (by decide), List.forall_mem_cons.mpr ⟨ab_iconst_ok dX7_glue_40 (by decide), List.forall_mem_cons.mpr ⟨ab_iret_ok dX7_glue_41 rfl, List.forall_mem_cons.mpr ⟨ab_aload_n_ok dX7_glue_42 rfl, List.forall_mem_cons.mpr ⟨ab_iload_n_ok dX7_glue_43 rfl, List.forall_mem_cons.mpr ⟨ab_iconst_ok dX7_glue_44 (by decide), List.forall_mem_cons.mpr ⟨ab_callV_ok' (G' := ab_g110) (C := RX7) (T := TX7) (N := 19) dX7_glue_45 ab_m110 rfl rfl (by decide) (by decide) (ab_l4 ab_w440 ab_w441 ab_w442 ab_w8) ab_w443 rfl ⟨by decide, by decide, by decide +kernel⟩, List.forall_mem_cons.mpr ⟨ab_if_ne_ok dX7_glue_48 (by decide), List.forall_mem_cons.mpr ⟨ab_aload_n_ok dX7_glue_51 rfl, List.forall_mem_cons.mpr ⟨ab_bipush_ok dX7_glue_52 (by decide), List.forall_mem_cons.mpr ⟨ab_iconst_ok dX7_glue_54 (by decide), List.forall_mem_cons.mpr ⟨ab_callV_ok' (G' := ab_g152) (C := RX7) (T := TX7) (N := 19) dX7_glue_55 ab_m152 rfl rfl (by decide) (by decide) (ab_l4 ab_w612 ab_w613 ab_w614 ab_w8) ab_w615 rfl ⟨by decide, by decide, by decide +kernel⟩, List.forall_mem_cons.mpr ⟨ab_iret_ok dX7_glue_58 rfl, List.forall_mem_cons.mpr ⟨ab_aload_n_ok dX7_glue_59 rfl, List.forall_mem_cons.mpr ⟨ab_iload_n_ok dX7_glue_60 rfl, List.forall_mem_cons.mpr ⟨ab_iconst_ok dX7_glue_61 (by decide), List.forall_mem_cons.mpr ⟨ab_callV_ok' (G' := ab_g110) (C := RX7) (T := TX7) (N := 19) dX7_glue_62 ab_m110 rfl rfl (by decide) (by decide) (ab_l4 ab_w440 ab_w441 ab_w442 ab_w8) ab_w443 rfl ⟨by decide, by decide, by decide +kernel⟩, fun _ h => absurd h List.not_mem_nil⟩⟩⟩⟩⟩⟩⟩⟩⟩⟩⟩⟩⟩⟩⟩⟩⟩⟩⟩⟩⟩⟩⟩⟩⟩⟩⟩⟩⟩⟩⟩⟩⟩⟩⟩⟩⟩⟩⟩⟩
theorem dX7_glue_65 : decode cX7_glue 65 = .ok (.aload_n 0, 1) := by decide +kernel
theorem dX7_glue_66 : decode cX7_glue 66 = .ok (.iload_n 1, 1) := by decide +kernel
theorem dX7_glue_67 : decode cX7_glue 67 = .ok (.iconst 3, 1) := by decide +kernel
theorem dX7_glue_68 : decode cX7_glue 68 = .ok (.invokevirtual 63, 3) := by decide +kernel
theorem dX7_glue_71 : decode cX7_glue 71 = .ok (.if_icmp .ge 16, 3) := by decide +kernel
theorem dX7_glue_74 : decode cX7_glue 74 = .ok (.aload_n 0, 1) := by decide +kernel
theorem dX7_glue_75 : decode cX7_glue 75 = .ok (.bipush 8, 2) := by decide +kernel
theorem dX7_glue_77 : decode cX7_glue 77 = .ok (.aload_n 0, 1) := by decide +kernel
theorem dX7_glue_78 : decode cX7_glue 78 = .ok (.iload_n 1, 1) := by decide +kernel
theorem dX7_glue_79 : decode cX7_glue 79 = .ok (.iconst 4, 1) := by decide +kernel
theorem dX7_glue_80 : decode cX7_glue 80 = .ok (.invokevirtual 63, 3) := by decide +kernel
theorem dX7_glue_83 : decode cX7_glue 83 = .ok (.invokevirtual 98, 3) := by decide +kernel
theorem dX7_glue_86 : decode cX7_glue 86 = .ok (.ireturn, 1) := by decide +kernel
theorem dX7_glue_87 : decode cX7_glue 87 = .ok (.aload_n 0, 1) := by decide +kernel
theorem dX7_glue_88 : decode cX7_glue 88 = .ok (.aload_n 0, 1) := by decide +kernel
theorem dX7_glue_89 : decode cX7_glue 89 = .ok (.getfield 7, 3) := by decide +kernel
theorem dX7_glue_92 : decode cX7_glue 92 = .ok (.invokevirtual 104, 3) := by decide +kernel
theorem dX7_glue_95 : decode cX7_glue 95 = .ok (.aload_n 0, 1) := by decide +kernel
theorem dX7_glue_96 : decode cX7_glue 96 = .ok (.iload_n 1, 1) := by decide +kernel
theorem dX7_glue_97 : decode cX7_glue 97 = .ok (.iconst 2, 1) := by decide +kernel
theorem dX7_glue_98 : decode cX7_glue 98 = .ok (.iconst 1, 1) := by decide +kernel
theorem dX7_glue_99 : decode cX7_glue 99 = .ok (.invokevirtual 108, 3) := by decide +kernel
theorem dX7_glue_102 : decode cX7_glue 102 = .ok (.aload_n 0, 1) := by decide +kernel
theorem dX7_glue_103 : decode cX7_glue 103 = .ok (.iload_n 1, 1) := by decide +kernel
theorem dX7_glue_104 : decode cX7_glue 104 = .ok (.iconst 5, 1) := by decide +kernel
theorem dX7_glue_105 : decode cX7_glue 105 = .ok (.iload_n 2, 1) := by decide +kernel
theorem dX7_glue_106 : decode cX7_glue 106 = .ok (.invokevirtual 108, 3) := by decide +kernel
theorem dX7_glue_109 : decode cX7_glue 109 = .ok (.aload_n 0, 1) := by decide +kernel
theorem dX7_glue_110 : decode cX7_glue 110 = .ok (.iload_n 1, 1) := by decide +kernel
theorem dX7_glue_111 : decode cX7_glue 111 = .ok (.bipush 6, 2) := by decide +kernel
theorem dX7_glue_113 : decode cX7_glue 113 = .ok (.aload_n 0, 1) := by decide +kernel
theorem dX7_glue_114 : decode cX7_glue 114 = .ok (.getfield 7, 3) := by decide +kernel
theorem dX7_glue_117 : decode cX7_glue 117 = .ok (.iconst 0, 1) := by decide +kernel
theorem dX7_glue_118 : decode cX7_glue 118 = .ok (.iaload, 1) := by decide +kernel
theorem dX7_glue_119 : decode cX7_glue 119 = .ok (.iload_n 2, 1) := by decide +kernel
theorem dX7_glue_120 : decode cX7_glue 120 = .ok (.invokestatic 134, 3) := by decide +kernel
theorem dX7_glue_123 : decode cX7_glue 123 = .ok (.iadd, 1) := by decide +kernel
theorem dX7_glue_124 : decode cX7_glue 124 = .ok (.invokevirtual 108, 3) := by decide +kernel
theorem dX7_glue_127 : decode cX7_glue 127 = .ok (.iload_n 2, 1) := by decide +kernel
theorem dX7_glue_128 : decode cX7_glue 128 = .ok (.invokestatic 134, 3) := by decide +kernel
theorem ab_k71_1 (K : ab_Kt) : ∀ q ∈ ab_l71_1, ab_OK K ab_mt ab_g71 q.1 q.2 := by
  unfold ab_l71_1
  exact List.forall_mem_cons.mpr ⟨ab_aload_n_ok dX7_glue_65 rfl, List.forall_mem_cons.mpr ⟨ab_iload_n_ok dX7_glue_66 rfl, List.forall_mem_cons.mpr ⟨ab_iconst_ok dX7_glue_67 (by decide), List.forall_mem_cons.mpr ⟨ab_callV_ok' (G' := ab_g110) (C := RX7) (T := TX7) (N := 19) dX7_glue_68 ab_m110 rfl rfl (by decide) (by decide) (ab_l4 ab_w440 ab_w441 ab_w442 ab_w8) ab_w443 rfl ⟨by decide, by decide, by decide +kernel⟩, List.forall_mem_cons.mpr ⟨ab_icmp_ge_ok dX7_glue_71 (by decide), List.forall_mem_cons.mpr ⟨ab_aload_n_ok dX7_glue_74 rfl, List.forall_mem_cons.mpr ⟨ab_bipush_ok dX7_glue_75 (by decide), List.forall_mem_cons.mpr ⟨ab_aload_n_ok dX7_glue_77 rfl, List.forall_mem_cons.mpr ⟨ab_iload_n_ok dX7_glue_78 rfl, List.forall_mem_cons.mpr ⟨ab_iconst_ok dX7_glue_79 (by decide), List.forall_mem_cons.mpr ⟨ab_callV_ok' (G' := ab_g110) (C := RX7) (T := TX7) (N := 19) dX7_glue_80 ab_m110 rfl rfl (by decide) (by decide) (ab_l4 ab_w440 ab_w441 ab_w442 ab_w8) ab_w443 rfl ⟨by decide, by decide, by decide +kernel⟩, List.forall_mem_cons.mpr ⟨ab_callV_ok' (G' := ab_g152) (C := RX7) (T := TX7) (N := 19) dX7_glue_83 ab_m152 rfl rfl (by decide) (by decide) (ab_l4 ab_w612 ab_w613 ab_w614 ab_w8) ab_w615 rfl ⟨by decide, by decide, by decide +kernel⟩, List.forall_mem_cons.mpr ⟨ab_iret_ok dX7_glue_86 rfl, List.forall_mem_cons.mpr ⟨ab_aload_n_ok dX7_glue_87 rfl, List.forall_mem_cons.mpr ⟨ab_aload_n_ok dX7_glue_88 rfl, List.forall_mem_cons.mpr ⟨ab_getf_ok (C := RX7) (T := TX7) (N := 19) (ci := 11) (k := 0) dX7_glue_89 rfl ab_ic11 (by decide) ab_w350, List.forall_mem_cons.mpr ⟨ab_callV_ok' (G' := ab_g117) (C := RX7) (T := TX7) (N := 19) dX7_glue_92 ab_m117 rfl rfl (by decide) (by decide) (ab_l4 ab_w473 ab_w474 ab_w475 ab_w8) ab_w476 rfl ⟨by decide, by decide, by decide +kernel⟩, List.forall_mem_cons.mpr ⟨ab_aload_n_ok dX7_glue_95 rfl, List.forall_mem_cons.mpr ⟨ab_iload_n_ok dX7_glue_96 rfl, List.forall_mem_cons.mpr ⟨ab_iconst_ok dX7_glue_97 (by decide), List.forall_mem_cons.mpr ⟨ab_iconst_ok dX7_glue_98 (by decide), List.forall_mem_cons.mpr ⟨ab_callV_ok' (G' := ab_g157) (C := RX7) (T := TX7) (N := 19) dX7_glue_99 ab_m157 rfl rfl (by decide) (by decide) (ab_l4 ab_w632 ab_w633 ab_w634 ab_w8) ab_w635 rfl ⟨by decide, by decide, by decide +kernel⟩, List.forall_mem_cons.mpr ⟨ab_aload_n_ok dX7_glue_102 rfl, List.forall_mem_cons.mpr ⟨ab_iload_n_ok dX7_glue_103 rfl, List.forall_mem_cons.mpr ⟨ab_iconst_ok dX7_glue_104 (by decide), List.forall_mem_cons.mpr ⟨ab_iload_n_ok dX7_glue_105 rfl, List.forall_mem_cons.mpr ⟨ab_callV_ok' (G' := ab_g157) (C := RX7) (T := TX7) (N := 19) dX7_glue_106 ab_m157 rfl rfl (by decide) (by decide) (ab_l4 ab_w632 ab_w633 ab_w634 ab_w8) ab_w635 rfl ⟨by decide, by decide, by decide +kernel⟩, List.forall_mem_cons.mpr ⟨ab_aload_n_ok dX7_glue_109 rfl, List.forall_mem_cons.mpr ⟨ab_iload_n_ok dX7_glue_110 rfl, List.forall_mem_cons.mpr ⟨ab_bipush_ok dX7_glue_111 (by decide), List.forall_mem_cons.mpr ⟨ab_aload_n_ok dX7_glue_113 rfl, List.forall_mem_cons.mpr ⟨ab_getf_ok (C := RX7) (T := TX7) (N := 19) (ci := 11) (k := 0) dX7_glue_114 rfl ab_ic11 (by decide) ab_w350, List.forall_mem_cons.mpr ⟨ab_iconst_ok dX7_glue_117 (by decide), List.forall_mem_cons.mpr ⟨ab_ald0_ok dX7_glue_118, List.forall_mem_cons.mpr ⟨ab_iload_n_ok dX7_glue_119 rfl, List.forall_mem_cons.mpr ⟨ab_callS_ok' (G' := ab_g162) dX7_glue_120 ab_m162 (by decide) (by decide) (ab_l3 ab_w652 ab_w653 ab_w8) ab_w654 rfl ⟨by decide, by decide, by decide +kernel⟩, List.forall_mem_cons.mpr ⟨ab_iadd_ok dX7_glue_123, List.forall_mem_cons.mpr ⟨ab_callV_ok' (G' := ab_g157) (C := RX7) (T := TX7) (N := 19) dX7_glue_124 ab_m157 rfl rfl (by decide) (by decide) (ab_l4 ab_w632 ab_w633 ab_w634 ab_w8) ab_w635 rfl ⟨by decide, by decide, by decide +kernel⟩, List.forall_mem_cons.mpr ⟨ab_iload_n_ok dX7_glue_127 rfl, List.forall_mem_cons.mpr ⟨ab_callS_ok' (G' := ab_g162) dX7_glue_128 ab_m162 (by decide) (by decide) (ab_l3 ab_w652 ab_w653 ab_w8) ab_w654 rfl ⟨by decide, by decide, by decide +kernel⟩, fun _ h => absurd h List.not_mem_nil⟩⟩⟩⟩⟩⟩⟩⟩⟩⟩⟩⟩⟩⟩⟩⟩⟩⟩⟩⟩⟩⟩⟩⟩⟩⟩⟩⟩⟩⟩⟩⟩⟩⟩⟩⟩⟩⟩⟩⟩
theorem dX7_glue_131 : decode cX7_glue 131 = .ok (.ireturn, 1) := by decide +kernel
theorem ab_k71_2 (K : ab_Kt) : ∀ q ∈ ab_l71_2, ab_OK K ab_mt ab_g71 q.1 q.2 := by
  unfold ab_l71_2
  exact List.forall_mem_cons.mpr ⟨ab_iret_ok dX7_glue_131 rfl, fun _ h => absurd h List.not_mem_nil⟩
theorem ab_k71 (K : ab_Kt) : ∀ pc, ab_OK K ab_mt ab_g71 pc (ab_c71 pc) := ab_lk2_ok _ (List.forall_mem_cons.mpr ⟨ab_k71_0 K, List.forall_mem_cons.mpr ⟨ab_k71_1 K, List.forall_mem_cons.mpr ⟨ab_k71_2 K, fun _ h => absurd h List.not_mem_nil⟩⟩⟩)
theorem dL_unpick_0 : decode cL_unpick 0 = .ok (.aload_n 2, 1) := by decide +kernel
theorem dL_unpick_1 : decode cL_unpick 1 = .ok (.iconst 0, 1) := by decide +kernel
theorem dL_unpick_2 : decode cL_unpick 2 = .ok (.aload_n 0, 1) := by decide +kernel
theorem dL_unpick_3 : decode cL_unpick 3 = .ok (.iload_n 1, 1) := by decide +kernel
theorem dL_unpick_4 : decode cL_unpick 4 = .ok (.invokevirtual 33, 3) := by decide +kernel
theorem dL_unpick_7 : decode cL_unpick 7 = .ok (.i2l, 1) := by decide +kernel
theorem dL_unpick_8 : decode cL_unpick 8 = .ok (.lastore, 1) := by decide +kernel
theorem dL_unpick_9 : decode cL_unpick 9 = .ok (.goto 6, 3) := by decide +kernel
theorem dL_unpick_12 : decode cL_unpick 12 = .ok (.astore_n 3, 1) := by decide +kernel
theorem dL_unpick_13 : decode cL_unpick 13 = .ok (.iconst 1, 1) := by decide +kernel
theorem dL_unpick_14 : decode cL_unpick 14 = .ok (.ireturn, 1) := by decide +kernel
theorem dL_unpick_15 : decode cL_unpick 15 = .ok (.iconst 0, 1) := by decide +kernel
theorem dL_unpick_16 : decode cL_unpick 16 = .ok (.ireturn, 1) := by decide +kernel
theorem ab_k72_0 (K : ab_Kt) : ∀ q ∈ ab_l72_0, ab_OK K ab_mt ab_g72 q.1 q.2 := by
  unfold ab_l72_0
  exact List.forall_mem_cons.mpr ⟨ab_aload_n_ok dL_unpick_0 rfl, List.forall_mem_cons.mpr ⟨ab_iconst_ok dL_unpick_1 (by decide), List.forall_mem_cons.mpr ⟨ab_aload_n_ok dL_unpick_2 rfl, List.forall_mem_cons.mpr ⟨ab_iload_n_ok dL_unpick_3 rfl, List.forall_mem_cons.mpr ⟨ab_callV_ok' (G' := ab_g163) (C := RX6) (T := TX6) (N := 9) dL_unpick_4 ab_m163 rfl rfl (by decide) (by decide) (ab_l4 ab_w655 ab_w656 ab_w657 ab_w2) ab_w658 rfl ⟨by decide, by decide, by decide +kernel⟩, List.forall_mem_cons.mpr ⟨ab_i2l_ok dL_unpick_7, List.forall_mem_cons.mpr ⟨ab_last_ok dL_unpick_8, List.forall_mem_cons.mpr ⟨ab_goto_ok dL_unpick_9 (by decide), List.forall_mem_cons.mpr ⟨ab_astore_n_ok dL_unpick_12 rfl, List.forall_mem_cons.mpr ⟨ab_iconst_ok dL_unpick_13 (by decide), List.forall_mem_cons.mpr ⟨ab_iret_ok dL_unpick_14 rfl, List.forall_mem_cons.mpr ⟨ab_iconst_ok dL_unpick_15 (by decide), List.forall_mem_cons.mpr ⟨ab_iret_ok dL_unpick_16 rfl, fun _ h => absurd h List.not_mem_nil⟩⟩⟩⟩⟩⟩⟩⟩⟩⟩⟩⟩⟩
theorem ab_k72 (K : ab_Kt) : ∀ pc, ab_OK K ab_mt ab_g72 pc (ab_c72 pc) := ab_lk2_ok _ (List.forall_mem_cons.mpr ⟨ab_k72_0 K, fun _ h => absurd h List.not_mem_nil⟩)
theorem dX7_unpick_0 : decode cX7_unpick 0 = .ok (.aload_n 0, 1) := by decide +kernel
theorem dX7_unpick_1 : decode cX7_unpick 1 = .ok (.iload_n 1, 1) := by decide +kernel
theorem dX7_unpick_2 : decode cX7_unpick 2 = .ok (.iconst 0, 1) := by decide +kernel
theorem dX7_unpick_3 : decode cX7_unpick 3 = .ok (.invokevirtual 101, 3) := by decide +kernel
theorem dX7_unpick_6 : decode cX7_unpick 6 = .ok (.ifCond .eq 5, 3) := by decide +kernel
theorem dX7_unpick_9 : decode cX7_unpick 9 = .ok (.iconst 0, 1) := by decide +kernel
theorem dX7_unpick_10 : decode cX7_unpick 10 = .ok (.ireturn, 1) := by decide +kernel
theorem dX7_unpick_11 : decode cX7_unpick 11 = .ok (.aload_n 0, 1) := by decide +kernel
theorem dX7_unpick_12 : decode cX7_unpick 12 = .ok (.iload_n 1, 1) := by decide +kernel
theorem dX7_unpick_13 : decode cX7_unpick 13 = .ok (.iconst 4, 1) := by decide +kernel
theorem dX7_unpick_14 : decode cX7_unpick 14 = .ok (.invokevirtual 63, 3) := by decide +kernel
theorem dX7_unpick_17 : decode cX7_unpick 17 = .ok (.ifCond .ne 16, 3) := by decide +kernel
theorem dX7_unpick_20 : decode cX7_unpick 20 = .ok (.aload_n 0, 1) := by decide +kernel
theorem dX7_unpick_21 : decode cX7_unpick 21 = .ok (.bipush 6, 2) := by decide +kernel
theorem dX7_unpick_23 : decode cX7_unpick 23 = .ok (.aload_n 0, 1) := by decide +kernel
theorem dX7_unpick_24 : decode cX7_unpick 24 = .ok (.iload_n 1, 1) := by decide +kernel
theorem dX7_unpick_25 : decode cX7_unpick 25 = .ok (.iconst 3, 1) := by decide +kernel
theorem dX7_unpick_26 : decode cX7_unpick 26 = .ok (.invokevirtual 63, 3) := by decide +kernel
theorem dX7_unpick_29 : decode cX7_unpick 29 = .ok (.invokevirtual 98, 3) := by decide +kernel
theorem dX7_unpick_32 : decode cX7_unpick 32 = .ok (.ireturn, 1) := by decide +kernel
theorem dX7_unpick_33 : decode cX7_unpick 33 = .ok (.aload_n 0, 1) := by decide +kernel
theorem dX7_unpick_34 : decode cX7_unpick 34 = .ok (.aload_n 0, 1) := by decide +kernel
theorem dX7_unpick_35 : decode cX7_unpick 35 = .ok (.getfield 7, 3) := by decide +kernel
theorem dX7_unpick_38 : decode cX7_unpick 38 = .ok (.invokevirtual 104, 3) := by decide +kernel
theorem dX7_unpick_41 : decode cX7_unpick 41 = .ok (.aload_n 0, 1) := by decide +kernel
theorem dX7_unpick_42 : decode cX7_unpick 42 = .ok (.iload_n 1, 1) := by decide +kernel
theorem dX7_unpick_43 : decode cX7_unpick 43 = .ok (.iconst 4, 1) := by decide +kernel
theorem dX7_unpick_44 : decode cX7_unpick 44 = .ok (.aload_n 0, 1) := by decide +kernel
theorem dX7_unpick_45 : decode cX7_unpick 45 = .ok (.iload_n 1, 1) := by decide +kernel
theorem dX7_unpick_46 : decode cX7_unpick 46 = .ok (.iconst 4, 1) := by decide +kernel
theorem dX7_unpick_47 : decode cX7_unpick 47 = .ok (.invokevirtual 63, 3) := by decide +kernel
theorem dX7_unpick_50 : decode cX7_unpick 50 = .ok (.iconst 1, 1) := by decide +kernel
theorem dX7_unpick_51 : decode cX7_unpick 51 = .ok (.isub, 1) := by decide +kernel
theorem dX7_unpick_52 : decode cX7_unpick 52 = .ok (.invokevirtual 108, 3) := by decide +kernel
theorem dX7_unpick_55 : decode cX7_unpick 55 = .ok (.aload_n 0, 1) := by decide +kernel
theorem dX7_unpick_56 : decode cX7_unpick 56 = .ok (.getfield 7, 3) := by decide +kernel
theorem dX7_unpick_59 : decode cX7_unpick 59 = .ok (.iconst 5, 1) := by decide +kernel
theorem dX7_unpick_60 : decode cX7_unpick 60 = .ok (.dup2, 1) := by decide +kernel
theorem dX7_unpick_61 : decode cX7_unpick 61 = .ok (.iaload, 1) := by decide +kernel
theorem dX7_unpick_62 : decode cX7_unpick 62 = .ok (.iconst 1, 1) := by decide +kernel
theorem ab_k73_0 (K : ab_Kt) : ∀ q ∈ ab_l73_0, ab_OK K ab_mt ab_g73 q.1 q.2 := by
  unfold ab_l73_0
  exact List.forall_mem_cons.mpr ⟨ab_aload_n_ok dX7_unpick_0 rfl, List.forall_mem_cons.mpr ⟨ab_iload_n_ok dX7_unpick_1 rfl, List.forall_mem_cons.mpr ⟨ab_iconst_ok dX7_unpick_2 (by decide), List.forall_mem_cons.mpr ⟨ab_callV_ok' (G' := ab_g155) (C := RX7) (T := TX7) (N := 19) dX7_unpick_3 ab_m155 rfl rfl (by decide) (by decide) (ab_l4 ab_w624 ab_w625 ab_w626 ab_w8) ab_w627 rfl ⟨by decide, by decide, by decide +kernel⟩, List.forall_mem_cons.mpr ⟨ab_if_eq_ok dX7_unpick_6 (by decide), List.forall_mem_cons.mpr ⟨ab_iconst_ok dX7_unpick_9 (by decide), List.forall_mem_cons.mpr ⟨ab_iret_ok dX7_unpick_10 rfl, List.forall_mem_cons.mpr ⟨ab_aload_n_ok dX7_unpick_11 rfl, List.forall_mem_cons.mpr ⟨ab_iload_n_ok dX7_unpick_12 rfl, List.forall_mem_cons.mpr ⟨ab_iconst_ok dX7_unpick_13 (by decide), List.forall_mem_cons.mpr ⟨ab_callV_ok' (G' := ab_g110) (C := RX7) (T := TX7) (N := 19) dX7_unpick_14 ab_m110 rfl rfl (by decide) (by decide) (ab_l4 ab_w440 ab_w441 ab_w442 ab_w8) ab_w443 rfl ⟨by decide, by decide, by decide +kernel⟩, List.forall_mem_cons.mpr ⟨ab_if_ne_ok dX7_unpick_17 (by decide), List.forall_mem_cons.mpr ⟨ab_aload_n_ok dX7_unpick_20 rfl, List.forall_mem_cons.mpr ⟨ab_bipush_ok dX7_unpick_21 (by decide), List.forall_mem_cons.mpr ⟨ab_aload_n_ok dX7_unpick_23 rfl, List.forall_mem_cons.mpr ⟨ab_iload_n_ok dX7_unpick_24 rfl, List.forall_mem_cons.mpr ⟨ab_iconst_ok dX7_unpick_25 (by decide), List.forall_mem_cons.mpr ⟨ab_callV_ok' (G' := ab_g110) (C := RX7) (T := TX7) (N := 19) dX7_unpick_26 ab_m110 rfl rfl (by decide) (by decide) (ab_l4 ab_w440 ab_w441 ab_w442 ab_w8) ab_w443 rfl ⟨by decide, by decide, by decide +kernel⟩, List.forall_mem_cons.mpr ⟨ab_callV_ok' (G' := ab_g152) (C := RX7) (T := TX7) (N := 19) dX7_unpick_29 ab_m152 rfl rfl (by decide) (by decide) (ab_l4 ab_w612 ab_w613 ab_w614 ab_w8) ab_w615 rfl ⟨by decide, by decide, by decide +kernel⟩, List.forall_mem_cons.mpr ⟨ab_iret_ok dX7_unpick_32 rfl, List.forall_mem_cons.mpr ⟨ab_aload_n_ok dX7_unpick_33 rfl, List.forall_mem_cons.mpr ⟨ab_aload_n_ok dX7_unpick_34 rfl, List.forall_mem_cons.mpr ⟨ab_getf_ok (C := RX7) (T := TX7) (N := 19) (ci := 11) (k := 0) dX7_unpick_35 rfl ab_ic11 (by decide) ab_w350, List.forall_mem_cons.mpr ⟨ab_callV_ok' (G' := ab_g117) (C := RX7) (T := TX7) (N := 19) dX7_unpick_38 ab_m117 rfl rfl (by decide) (by decide) (ab_l4 ab_w473 ab_w474 ab_w475 ab_w8) ab_w476 rfl ⟨by decide, by decide, by decide +kernel⟩, List.forall_mem_cons.mpr ⟨ab_aload_n_ok dX7_unpick_41 rfl, List.forall_mem_cons.mpr ⟨ab_iload_n_ok dX7_unpick_42 rfl, List.forall_mem_cons.mpr ⟨ab_iconst_ok dX7_unpick_43 (by decide), List.forall_mem_cons.mpr ⟨ab_aload_n_ok dX7_unpick_44 rfl, List.forall_mem_cons.mpr ⟨ab_iload_n_ok dX7_unpick_45 rfl, List.forall_mem_cons.mpr ⟨ab_iconst_ok dX7_unpick_46 (by decide), List.forall_mem_cons.mpr ⟨ab_callV_ok' (G' := ab_g110) (C := RX7) (T := TX7) (N := 19) dX7_unpick_47 ab_m110 rfl rfl (by decide) (by decide) (ab_l4 ab_w440 ab_w441 ab_w442 ab_w8) ab_w443 rfl ⟨by decide, by decide, by decide +kernel⟩, List.forall_mem_cons.mpr ⟨ab_iconst_ok dX7_unpick_50 (by decide), List.forall_mem_cons.mpr ⟨ab_isub_ok dX7_unpick_51, List.forall_mem_cons.mpr ⟨ab_callV_ok' (G' := ab_g157) (C := RX7) (T := TX7) (N := 19) dX7_unpick_52 ab_m157 rfl rfl (by decide) (by decide) (ab_l4 ab_w632 ab_w633 ab_w634 ab_w8) ab_w635 rfl ⟨by decide, by decide, by decide +kernel⟩, List.forall_mem_cons.mpr ⟨ab_aload_n_ok dX7_unpick_55 rfl, List.forall_mem_cons.mpr ⟨ab_getf_ok (C := RX7) (T := TX7) (N := 19) (ci := 11) (k := 0) dX7_unpick_56 rfl ab_ic11 (by decide) ab_w350, List.forall_mem_cons.mpr ⟨ab_iconst_ok dX7_unpick_59 (by decide), List.forall_mem_cons.mpr ⟨ab_dup2_ok dX7_unpick_60, List.forall_mem_cons.mpr ⟨ab_ald0_ok dX7_unpick_61, List.forall_mem_cons.mpr ⟨ab_iconst_ok dX7_unpick_62 (by decide), fun _ h => absurd h List.not_mem_nil⟩⟩⟩⟩⟩⟩⟩⟩⟩⟩⟩⟩⟩⟩⟩⟩⟩⟩⟩⟩⟩⟩⟩⟩⟩⟩⟩⟩⟩⟩⟩⟩⟩⟩⟩⟩⟩⟩⟩⟩
theorem dX7_unpick_63 : decode cX7_unpick 63 = .ok (.iadd, 1) := by decide +kernel
theorem dX7_unpick_64 : decode cX7_unpick 64 = .ok (.iastore, 1) := by decide +kernel
theorem dX7_unpick_65 : decode cX7_unpick 65 = .ok (.aload_n 0, 1) := by decide +kernel
theorem dX7_unpick_66 : decode cX7_unpick 66 = .ok (.iload_n 1, 1) := by decide +kernel
theorem dX7_unpick_67 : decode cX7_unpick 67 = .ok (.iconst 4, 1) := by decide +kernel
theorem dX7_unpick_68 : decode cX7_unpick 68 = .ok (.invokevirtual 63, 3) := by decide +kernel
theorem dX7_unpick_71 : decode cX7_unpick 71 = .ok (.ireturn, 1) := by decide +kernel
theorem ab_k73_1 (K : ab_Kt) : ∀ q ∈ ab_l73_1, ab_OK K ab_mt ab_g73 q.1 q.2 := by
  unfold ab_l73_1
  exact List.forall_mem_cons.mpr ⟨ab_iadd_ok dX7_unpick_63, List.forall_mem_cons.mpr ⟨ab_ast0_ok dX7_unpick_64, List.forall_mem_cons.mpr ⟨ab_aload_n_ok dX7_unpick_65 rfl, List.forall_mem_cons.mpr ⟨ab_iload_n_ok dX7_unpick_66 rfl, List.forall_mem_cons.mpr ⟨ab_iconst_ok dX7_unpick_67 (by decide), List.forall_mem_cons.mpr ⟨ab_callV_ok' (G' := ab_g110) (C := RX7) (T := TX7) (N := 19) dX7_unpick_68 ab_m110 rfl rfl (by decide) (by decide) (ab_l4 ab_w440 ab_w441 ab_w442 ab_w8) ab_w443 rfl ⟨by decide, by decide, by decide +kernel⟩, List.forall_mem_cons.mpr ⟨ab_iret_ok dX7_unpick_71 rfl, fun _ h => absurd h List.not_mem_nil⟩⟩⟩⟩⟩⟩⟩
theorem ab_k73 (K : ab_Kt) : ∀ pc, ab_OK K ab_mt ab_g73 pc (ab_c73 pc) := ab_lk2_ok _ (List.forall_mem_cons.mpr ⟨ab_k73_0 K, List.forall_mem_cons.mpr ⟨ab_k73_1 K, fun _ h => absurd h List.not_mem_nil⟩⟩)
theorem dL_sew_0 : decode cL_sew 0 = .ok (.aload_n 2, 1) := by decide +kernel
theorem dL_sew_1 : decode cL_sew 1 = .ok (.iconst 0, 1) := by decide +kernel
theorem dL_sew_2 : decode cL_sew 2 = .ok (.aload_n 0, 1) := by decide +kernel
theorem dL_sew_3 : decode cL_sew 3 = .ok (.iload_n 1, 1) := by decide +kernel
theorem dL_sew_4 : decode cL_sew 4 = .ok (.invokevirtual 30, 3) := by decide +kernel
theorem dL_sew_7 : decode cL_sew 7 = .ok (.i2l, 1) := by decide +kernel
theorem dL_sew_8 : decode cL_sew 8 = .ok (.lastore, 1) := by decide +kernel
theorem dL_sew_9 : decode cL_sew 9 = .ok (.goto 6, 3) := by decide +kernel
theorem dL_sew_12 : decode cL_sew 12 = .ok (.astore_n 3, 1) := by decide +kernel
theorem dL_sew_13 : decode cL_sew 13 = .ok (.iconst 1, 1) := by decide +kernel
theorem dL_sew_14 : decode cL_sew 14 = .ok (.ireturn, 1) := by decide +kernel
theorem dL_sew_15 : decode cL_sew 15 = .ok (.iconst 0, 1) := by decide +kernel
theorem dL_sew_16 : decode cL_sew 16 = .ok (.ireturn, 1) := by decide +kernel
theorem ab_k74_0 (K : ab_Kt) : ∀ q ∈ ab_l74_0, ab_OK K ab_mt ab_g74 q.1 q.2 := by
  unfold ab_l74_0
  exact List.forall_mem_cons.mpr ⟨ab_aload_n_ok dL_sew_0 rfl, List.forall_mem_cons.mpr ⟨ab_iconst_ok dL_sew_1 (by decide), List.forall_mem_cons.mpr ⟨ab_aload_n_ok dL_sew_2 rfl, List.forall_mem_cons.mpr ⟨ab_iload_n_ok dL_sew_3 rfl, List.forall_mem_cons.mpr ⟨ab_callV_ok' (G' := ab_g164) (C := RX6) (T := TX6) (N := 9) dL_sew_4 ab_m164 rfl rfl (by decide) (by decide) (ab_l4 ab_w659 ab_w660 ab_w661 ab_w2) ab_w662 rfl ⟨by decide, by decide, by decide +kernel⟩, List.forall_mem_cons.mpr ⟨ab_i2l_ok dL_sew_7, List.forall_mem_cons.mpr ⟨ab_last_ok dL_sew_8, List.forall_mem_cons.mpr ⟨ab_goto_ok dL_sew_9 (by decide), List.forall_mem_cons.mpr ⟨ab_astore_n_ok dL_sew_12 rfl, List.forall_mem_cons.mpr ⟨ab_iconst_ok dL_sew_13 (by decide), List.forall_mem_cons.mpr ⟨ab_iret_ok dL_sew_14 rfl, List.forall_mem_cons.mpr ⟨ab_iconst_ok dL_sew_15 (by decide), List.forall_mem_cons.mpr ⟨ab_iret_ok dL_sew_16 rfl, fun _ h => absurd h List.not_mem_nil⟩⟩⟩⟩⟩⟩⟩⟩⟩⟩⟩⟩⟩
theorem ab_k74 (K : ab_Kt) : ∀ pc, ab_OK K ab_mt ab_g74 pc (ab_c74 pc) := ab_lk2_ok _ (List.forall_mem_cons.mpr ⟨ab_k74_0 K, fun _ h => absurd h List.not_mem_nil⟩)
theorem dX7_sew_0 : decode cX7_sew 0 = .ok (.aload_n 0, 1) := by decide +kernel
theorem dX7_sew_1 : decode cX7_sew 1 = .ok (.iload_n 1, 1) := by decide +kernel
theorem dX7_sew_2 : decode cX7_sew 2 = .ok (.iconst 0, 1) := by decide +kernel
theorem dX7_sew_3 : decode cX7_sew 3 = .ok (.invokevirtual 101, 3) := by decide +kernel
theorem dX7_sew_6 : decode cX7_sew 6 = .ok (.ifCond .eq 5, 3) := by decide +kernel
theorem dX7_sew_9 : decode cX7_sew 9 = .ok (.iconst 0, 1) := by decide +kernel
theorem dX7_sew_10 : decode cX7_sew 10 = .ok (.ireturn, 1) := by decide +kernel
theorem dX7_sew_11 : decode cX7_sew 11 = .ok (.aload_n 0, 1) := by decide +kernel
theorem dX7_sew_12 : decode cX7_sew 12 = .ok (.iload_n 1, 1) := by decide +kernel
theorem dX7_sew_13 : decode cX7_sew 13 = .ok (.iconst 4, 1) := by decide +kernel
theorem dX7_sew_14 : decode cX7_sew 14 = .ok (.invokevirtual 63, 3) := by decide +kernel
theorem dX7_sew_17 : decode cX7_sew 17 = .ok (.istore_n 2, 1) := by decide +kernel
theorem dX7_sew_18 : decode cX7_sew 18 = .ok (.iload_n 2, 1) := by decide +kernel
theorem dX7_sew_19 : decode cX7_sew 19 = .ok (.aload_n 0, 1) := by decide +kernel
theorem dX7_sew_20 : decode cX7_sew 20 = .ok (.iload_n 1, 1) := by decide +kernel
theorem dX7_sew_21 : decode cX7_sew 21 = .ok (.iconst 3, 1) := by decide +kernel
theorem dX7_sew_22 : decode cX7_sew 22 = .ok (.invokevirtual 63, 3) := by decide +kernel
theorem dX7_sew_25 : decode cX7_sew 25 = .ok (.if_icmp .ne 16, 3) := by decide +kernel
theorem dX7_sew_28 : decode cX7_sew 28 = .ok (.aload_n 0, 1) := by decide +kernel
theorem dX7_sew_29 : decode cX7_sew 29 = .ok (.bipush 6, 2) := by decide +kernel
theorem dX7_sew_31 : decode cX7_sew 31 = .ok (.aload_n 0, 1) := by decide +kernel
theorem dX7_sew_32 : decode cX7_sew 32 = .ok (.iload_n 1, 1) := by decide +kernel
theorem dX7_sew_33 : decode cX7_sew 33 = .ok (.iconst 3, 1) := by decide +kernel
theorem dX7_sew_34 : decode cX7_sew 34 = .ok (.invokevirtual 63, 3) := by decide +kernel
theorem dX7_sew_37 : decode cX7_sew 37 = .ok (.invokevirtual 98, 3) := by decide +kernel
theorem dX7_sew_40 : decode cX7_sew 40 = .ok (.ireturn, 1) := by decide +kernel
theorem dX7_sew_41 : decode cX7_sew 41 = .ok (.aload_n 0, 1) := by decide +kernel
theorem dX7_sew_42 : decode cX7_sew 42 = .ok (.iload_n 1, 1) := by decide +kernel
theorem dX7_sew_43 : decode cX7_sew 43 = .ok (.iload_n 2, 1) := by decide +kernel
theorem dX7_sew_44 : decode cX7_sew 44 = .ok (.invokevirtual 128, 3) := by decide +kernel
theorem dX7_sew_47 : decode cX7_sew 47 = .ok (.istore_n 3, 1) := by decide +kernel
theorem dX7_sew_48 : decode cX7_sew 48 = .ok (.iload_n 3, 1) := by decide +kernel
theorem dX7_sew_49 : decode cX7_sew 49 = .ok (.aload_n 0, 1) := by decide +kernel
theorem dX7_sew_50 : decode cX7_sew 50 = .ok (.getfield 7, 3) := by decide +kernel
theorem dX7_sew_53 : decode cX7_sew 53 = .ok (.iconst 2, 1) := by decide +kernel
theorem dX7_sew_54 : decode cX7_sew 54 = .ok (.iaload, 1) := by decide +kernel
theorem dX7_sew_55 : decode cX7_sew 55 = .ok (.if_icmp .le 18, 3) := by decide +kernel
theorem dX7_sew_58 : decode cX7_sew 58 = .ok (.aload_n 0, 1) := by decide +kernel
theorem dX7_sew_59 : decode cX7_sew 59 = .ok (.bipush 7, 2) := by decide +kernel
theorem dX7_sew_61 : decode cX7_sew 61 = .ok (.iload_n 3, 1) := by decide +kernel
theorem ab_k75_0 (K : ab_Kt) : ∀ q ∈ ab_l75_0, ab_OK K ab_mt ab_g75 q.1 q.2 := by
  unfold ab_l75_0
  exact List.forall_mem_cons.mpr ⟨ab_aload_n_ok dX7_sew_0 rfl, List.forall_mem_cons.mpr ⟨ab_iload_n_ok dX7_sew_1 rfl, List.forall_mem_cons.mpr ⟨ab_iconst_ok dX7_sew_2 (by decide), List.forall_mem_cons.mpr ⟨ab_callV_ok' (G' := ab_g155) (C := RX7) (T := TX7) (N := 19) dX7_sew_3 ab_m155 rfl rfl (by decide) (by decide) (ab_l4 ab_w624 ab_w625 ab_w626 ab_w8) ab_w627 rfl ⟨by decide, by decide, by decide +kernel⟩, List.forall_mem_cons.mpr ⟨ab_if_eq_ok dX7_sew_6 (by decide), List.forall_mem_cons.mpr ⟨ab_iconst_ok dX7_sew_9 (by decide), List.forall_mem_cons.mpr ⟨ab_iret_ok dX7_sew_10 rfl, List.forall_mem_cons.mpr ⟨ab_aload_n_ok dX7_sew_11 rfl, List.forall_mem_cons.mpr ⟨ab_iload_n_ok dX7_sew_12 rfl, List.forall_mem_cons.mpr ⟨ab_iconst_ok dX7_sew_13 (by decide), List.forall_mem_cons.mpr ⟨ab_callV_ok' (G' := ab_g110) (C := RX7) (T := TX7) (N := 19) dX7_sew_14 ab_m110 rfl rfl (by decide) (by decide) (ab_l4 ab_w440 ab_w441 ab_w442 ab_w8) ab_w443 rfl ⟨by decide, by decide, by decide +kernel⟩, List.forall_mem_cons.mpr ⟨ab_istore_n_ok dX7_sew_17 rfl, List.forall_mem_cons.mpr ⟨ab_iload_n_ok dX7_sew_18 rfl, List.forall_mem_cons.mpr ⟨ab_aload_n_ok dX7_sew_19 rfl, List.forall_mem_cons.mpr ⟨ab_iload_n_ok dX7_sew_20 rfl, List.forall_mem_cons.mpr ⟨ab_iconst_ok dX7_sew_21 (by decide), List.forall_mem_cons.mpr ⟨ab_callV_ok' (G' := ab_g110) (C := RX7) (T := TX7) (N := 19) dX7_sew_22 ab_m110 rfl rfl (by decide) (by decide) (ab_l4 ab_w440 ab_w441 ab_w442 ab_w8) ab_w443 rfl ⟨by decide, by decide, by decide +kernel⟩, List.forall_mem_cons.mpr ⟨ab_icmp_ne_ok dX7_sew_25 (by decide), List.forall_mem_cons.mpr ⟨ab_aload_n_ok dX7_sew_28 rfl, List.forall_mem_cons.mpr ⟨ab_bipush_ok dX7_sew_29 (by decide), List.forall_mem_cons.mpr ⟨ab_aload_n_ok dX7_sew_31 rfl, List.forall_mem_cons.mpr ⟨ab_iload_n_ok dX7_sew_32 rfl, List.forall_mem_cons.mpr ⟨ab_iconst_ok dX7_sew_33 (by decide), List.forall_mem_cons.mpr ⟨ab_callV_ok' (G' := ab_g110) (C := RX7) (T := TX7) (N := 19) dX7_sew_34 ab_m110 rfl rfl (by decide) (by decide) (ab_l4 ab_w440 ab_w441 ab_w442 ab_w8) ab_w443 rfl ⟨by decide, by decide, by decide +kernel⟩, List.forall_mem_cons.mpr ⟨ab_callV_ok' (G' := ab_g152) (C := RX7) (T := TX7) (N := 19) dX7_sew_37 ab_m152 rfl rfl (by decide) (by decide) (ab_l4 ab_w612 ab_w613 ab_w614 ab_w8) ab_w615 rfl ⟨by decide, by decide, by decide +kernel⟩, List.forall_mem_cons.mpr ⟨ab_iret_ok dX7_sew_40 rfl, List.forall_mem_cons.mpr ⟨ab_aload_n_ok dX7_sew_41 rfl, List.forall_mem_cons.mpr ⟨ab_iload_n_ok dX7_sew_42 rfl, List.forall_mem_cons.mpr ⟨ab_iload_n_ok dX7_sew_43 rfl, List.forall_mem_cons.mpr ⟨ab_callV_ok' (G' := ab_g132) (C := RX7) (T := TX7) (N := 19) dX7_sew_44 ab_m132 rfl rfl (by decide) (by decide) (ab_l4 ab_w532 ab_w533 ab_w534 ab_w8) ab_w535 rfl ⟨by decide, by decide, by decide +kernel⟩, List.forall_mem_cons.mpr ⟨ab_istore_n_ok dX7_sew_47 rfl, List.forall_mem_cons.mpr ⟨ab_iload_n_ok dX7_sew_48 rfl, List.forall_mem_cons.mpr ⟨ab_aload_n_ok dX7_sew_49 rfl, List.forall_mem_cons.mpr ⟨ab_getf_ok (C := RX7) (T := TX7) (N := 19) (ci := 11) (k := 0) dX7_sew_50 rfl ab_ic11 (by decide) ab_w350, List.forall_mem_cons.mpr ⟨ab_iconst_ok dX7_sew_53 (by decide), List.forall_mem_cons.mpr ⟨ab_ald0_ok dX7_sew_54, List.forall_mem_cons.mpr ⟨ab_icmp_le_ok dX7_sew_55 (by decide), List.forall_mem_cons.mpr ⟨ab_aload_n_ok dX7_sew_58 rfl, List.forall_mem_cons.mpr ⟨ab_bipush_ok dX7_sew_59 (by decide), List.forall_mem_cons.mpr ⟨ab_iload_n_ok dX7_sew_61 rfl, fun _ h => absurd h List.not_mem_nil⟩⟩⟩⟩⟩⟩⟩⟩⟩⟩⟩⟩⟩⟩⟩⟩⟩⟩⟩⟩⟩⟩⟩⟩⟩⟩⟩⟩⟩⟩⟩⟩⟩⟩⟩⟩⟩⟩⟩⟩
theorem dX7_sew_62 : decode cX7_sew 62 = .ok (.aload_n 0, 1) := by decide +kernel
theorem dX7_sew_63 : decode cX7_sew 63 = .ok (.getfield 7, 3) := by decide +kernel
theorem dX7_sew_66 : decode cX7_sew 66 = .ok (.iconst 2, 1) := by decide +kernel
theorem dX7_sew_67 : decode cX7_sew 67 = .ok (.iaload, 1) := by decide +kernel
theorem dX7_sew_68 : decode cX7_sew 68 = .ok (.isub, 1) := by decide +kernel
theorem dX7_sew_69 : decode cX7_sew 69 = .ok (.invokevirtual 98, 3) := by decide +kernel
theorem dX7_sew_72 : decode cX7_sew 72 = .ok (.ireturn, 1) := by decide +kernel
theorem dX7_sew_73 : decode cX7_sew 73 = .ok (.aload_n 0, 1) := by decide +kernel
theorem dX7_sew_74 : decode cX7_sew 74 = .ok (.aload_n 0, 1) := by decide +kernel
theorem dX7_sew_75 : decode cX7_sew 75 = .ok (.getfield 7, 3) := by decide +kernel
theorem dX7_sew_78 : decode cX7_sew 78 = .ok (.invokevirtual 104, 3) := by decide +kernel
theorem dX7_sew_81 : decode cX7_sew 81 = .ok (.aload_n 0, 1) := by decide +kernel
theorem dX7_sew_82 : decode cX7_sew 82 = .ok (.getfield 7, 3) := by decide +kernel
theorem dX7_sew_85 : decode cX7_sew 85 = .ok (.iconst 2, 1) := by decide +kernel
theorem dX7_sew_86 : decode cX7_sew 86 = .ok (.dup2, 1) := by decide +kernel
theorem dX7_sew_87 : decode cX7_sew 87 = .ok (.iaload, 1) := by decide +kernel
theorem dX7_sew_88 : decode cX7_sew 88 = .ok (.iload_n 3, 1) := by decide +kernel
theorem dX7_sew_89 : decode cX7_sew 89 = .ok (.isub, 1) := by decide +kernel
theorem dX7_sew_90 : decode cX7_sew 90 = .ok (.iastore, 1) := by decide +kernel
theorem dX7_sew_91 : decode cX7_sew 91 = .ok (.aload_n 0, 1) := by decide +kernel
theorem dX7_sew_92 : decode cX7_sew 92 = .ok (.getfield 7, 3) := by decide +kernel
theorem dX7_sew_95 : decode cX7_sew 95 = .ok (.iconst 4, 1) := by decide +kernel
theorem dX7_sew_96 : decode cX7_sew 96 = .ok (.dup2, 1) := by decide +kernel
theorem dX7_sew_97 : decode cX7_sew 97 = .ok (.iaload, 1) := by decide +kernel
theorem dX7_sew_98 : decode cX7_sew 98 = .ok (.iload_n 3, 1) := by decide +kernel
theorem dX7_sew_99 : decode cX7_sew 99 = .ok (.iadd, 1) := by decide +kernel
theorem dX7_sew_100 : decode cX7_sew 100 = .ok (.iastore, 1) := by decide +kernel
theorem dX7_sew_101 : decode cX7_sew 101 = .ok (.aload_n 0, 1) := by decide +kernel
theorem dX7_sew_102 : decode cX7_sew 102 = .ok (.iload_n 1, 1) := by decide +kernel
theorem dX7_sew_103 : decode cX7_sew 103 = .ok (.iconst 4, 1) := by decide +kernel
theorem dX7_sew_104 : decode cX7_sew 104 = .ok (.iload_n 2, 1) := by decide +kernel
theorem dX7_sew_105 : decode cX7_sew 105 = .ok (.iconst 1, 1) := by decide +kernel
theorem dX7_sew_106 : decode cX7_sew 106 = .ok (.iadd, 1) := by decide +kernel
theorem dX7_sew_107 : decode cX7_sew 107 = .ok (.invokevirtual 108, 3) := by decide +kernel
theorem dX7_sew_110 : decode cX7_sew 110 = .ok (.aload_n 0, 1) := by decide +kernel
theorem dX7_sew_111 : decode cX7_sew 111 = .ok (.getfield 7, 3) := by decide +kernel
theorem dX7_sew_114 : decode cX7_sew 114 = .ok (.iconst 2, 1) := by decide +kernel
theorem dX7_sew_115 : decode cX7_sew 115 = .ok (.iaload, 1) := by decide +kernel
theorem dX7_sew_116 : decode cX7_sew 116 = .ok (.ireturn, 1) := by decide +kernel
theorem ab_k75_1 (K : ab_Kt) : ∀ q ∈ ab_l75_1, ab_OK K ab_mt ab_g75 q.1 q.2 := by
  unfold ab_l75_1
  exact List.forall_mem_cons.mpr ⟨ab_aload_n_ok dX7_sew_62 rfl, List.forall_mem_cons.mpr ⟨ab_getf_ok (C := RX7) (T := TX7) (N := 19) (ci := 11) (k := 0) dX7_sew_63 rfl ab_ic11 (by decide) ab_w350, List.forall_mem_cons.mpr ⟨ab_iconst_ok dX7_sew_66 (by decide), List.forall_mem_cons.mpr ⟨ab_ald0_ok dX7_sew_67, List.forall_mem_cons.mpr ⟨ab_isub_ok dX7_sew_68, List.forall_mem_cons.mpr ⟨ab_callV_ok' (G' := ab_g152) (C := RX7) (T := TX7) (N := 19) dX7_sew_69 ab_m152 rfl rfl (by decide) (by decide) (ab_l4 ab_w612 ab_w613 ab_w614 ab_w8) ab_w615 rfl ⟨by decide, by decide, by decide +kernel⟩, List.forall_mem_cons.mpr ⟨ab_iret_ok dX7_sew_72 rfl, List.forall_mem_cons.mpr ⟨ab_aload_n_ok dX7_sew_73 rfl, List.forall_mem_cons.mpr ⟨ab_aload_n_ok dX7_sew_74 rfl, List.forall_mem_cons.mpr ⟨ab_getf_ok (C := RX7) (T := TX7) (N := 19) (ci := 11) (k := 0) dX7_sew_75 rfl ab_ic11 (by decide) ab_w350, List.forall_mem_cons.mpr ⟨ab_callV_ok' (G' := ab_g117) (C := RX7) (T := TX7) (N := 19) dX7_sew_78 ab_m117 rfl rfl (by decide) (by decide) (ab_l4 ab_w473 ab_w474 ab_w475 ab_w8) ab_w476 rfl ⟨by decide, by decide, by decide +kernel⟩, List.forall_mem_cons.mpr ⟨ab_aload_n_ok dX7_sew_81 rfl, List.forall_mem_cons.mpr ⟨ab_getf_ok (C := RX7) (T := TX7) (N := 19) (ci := 11) (k := 0) dX7_sew_82 rfl ab_ic11 (by decide) ab_w350, List.forall_mem_cons.mpr ⟨ab_iconst_ok dX7_sew_85 (by decide), List.forall_mem_cons.mpr ⟨ab_dup2_ok dX7_sew_86, List.forall_mem_cons.mpr ⟨ab_ald0_ok dX7_sew_87, List.forall_mem_cons.mpr ⟨ab_iload_n_ok dX7_sew_88 rfl, List.forall_mem_cons.mpr ⟨ab_isub_ok dX7_sew_89, List.forall_mem_cons.mpr ⟨ab_ast0_ok dX7_sew_90, List.forall_mem_cons.mpr ⟨ab_aload_n_ok dX7_sew_91 rfl, List.forall_mem_cons.mpr ⟨ab_getf_ok (C := RX7) (T := TX7) (N := 19) (ci := 11) (k := 0) dX7_sew_92 rfl ab_ic11 (by decide) ab_w350, List.forall_mem_cons.mpr ⟨ab_iconst_ok dX7_sew_95 (by decide), List.forall_mem_cons.mpr ⟨ab_dup2_ok dX7_sew_96, List.forall_mem_cons.mpr ⟨ab_ald0_ok dX7_sew_97, List.forall_mem_cons.mpr ⟨ab_iload_n_ok dX7_sew_98 rfl, List.forall_mem_cons.mpr ⟨ab_iadd_ok dX7_sew_99, List.forall_mem_cons.mpr ⟨ab_ast0_ok dX7_sew_100, List.forall_mem_cons.mpr ⟨ab_aload_n_ok dX7_sew_101 rfl, List.forall_mem_cons.mpr ⟨ab_iload_n_ok dX7_sew_102 rfl, List.forall_mem_cons.mpr ⟨ab_iconst_ok dX7_sew_103 (by decide), List.forall_mem_cons.mpr ⟨ab_iload_n_ok dX7_sew_104 rfl, List.forall_mem_cons.mpr ⟨ab_iconst_ok dX7_sew_105 (by decide), List.forall_mem_cons.mpr ⟨ab_iadd_ok dX7_sew_106, List.forall_mem_cons.mpr ⟨ab_callV_ok' (G' := ab_g157) (C := RX7) (T := TX7) (N := 19) dX7_sew_107 ab_m157 rfl rfl (by decide) (by decide) (ab_l4 ab_w632 ab_w633 ab_w634 ab_w8) ab_w635 rfl ⟨by decide, by decide, by decide +kernel⟩, List.forall_mem_cons.mpr ⟨ab_aload_n_ok dX7_sew_110 rfl, List.forall_mem_cons.mpr ⟨ab_getf_ok (C := RX7) (T := TX7) (N := 19) (ci := 11) (k := 0) dX7_sew_111 rfl ab_ic11 (by decide) ab_w350, List.forall_mem_cons.mpr ⟨ab_iconst_ok dX7_sew_114 (by decide), List.forall_mem_cons.mpr ⟨ab_ald0_ok dX7_sew_115, List.forall_mem_cons.mpr ⟨ab_iret_ok dX7_sew_116 rfl, fun _ h => absurd h List.not_mem_nil⟩⟩⟩⟩⟩⟩⟩⟩⟩⟩⟩⟩⟩⟩⟩⟩⟩⟩⟩⟩⟩⟩⟩⟩⟩⟩⟩⟩⟩⟩⟩⟩⟩⟩⟩⟩⟩⟩⟩
theorem ab_k75 (K : ab_Kt) : ∀ pc, ab_OK K ab_mt ab_g75 pc (ab_c75 pc) := ab_lk2_ok _ (List.forall_mem_cons.mpr ⟨ab_k75_0 K, List.forall_mem_cons.mpr ⟨ab_k75_1 K, fun _ h => absurd h List.not_mem_nil⟩⟩)
theorem dL_spool_0 : decode cL_spool 0 = .ok (.aload_n 2, 1) := by decide +kernel
theorem dL_spool_1 : decode cL_spool 1 = .ok (.iconst 0, 1) := by decide +kernel
theorem dL_spool_2 : decode cL_spool 2 = .ok (.aload_n 0, 1) := by decide +kernel
theorem dL_spool_3 : decode cL_spool 3 = .ok (.iload_n 1, 1) := by decide +kernel
theorem dL_spool_4 : decode cL_spool 4 = .ok (.invokevirtual 26, 3) := by decide +kernel
theorem dL_spool_7 : decode cL_spool 7 = .ok (.i2l, 1) := by decide +kernel
theorem dL_spool_8 : decode cL_spool 8 = .ok (.lastore, 1) := by decide +kernel
theorem dL_spool_9 : decode cL_spool 9 = .ok (.goto 6, 3) := by decide +kernel
theorem dL_spool_12 : decode cL_spool 12 = .ok (.astore_n 3, 1) := by decide +kernel
theorem dL_spool_13 : decode cL_spool 13 = .ok (.iconst 1, 1) := by decide +kernel
theorem dL_spool_14 : decode cL_spool 14 = .ok (.ireturn, 1) := by decide +kernel
theorem dL_spool_15 : decode cL_spool 15 = .ok (.iconst 0, 1) := by decide +kernel
theorem dL_spool_16 : decode cL_spool 16 = .ok (.ireturn, 1) := by decide +kernel
theorem ab_k76_0 (K : ab_Kt) : ∀ q ∈ ab_l76_0, ab_OK K ab_mt ab_g76 q.1 q.2 := by
  unfold ab_l76_0
  exact List.forall_mem_cons.mpr ⟨ab_aload_n_ok dL_spool_0 rfl, List.forall_mem_cons.mpr ⟨ab_iconst_ok dL_spool_1 (by decide), List.forall_mem_cons.mpr ⟨ab_aload_n_ok dL_spool_2 rfl, List.forall_mem_cons.mpr ⟨ab_iload_n_ok dL_spool_3 rfl, List.forall_mem_cons.mpr ⟨ab_callV_ok' (G' := ab_g165) (C := RX6) (T := TX6) (N := 9) dL_spool_4 ab_m165 rfl rfl (by decide) (by decide) (ab_l4 ab_w663 ab_w664 ab_w665 ab_w2) ab_w666 rfl ⟨by decide, by decide, by decide +kernel⟩, List.forall_mem_cons.mpr ⟨ab_i2l_ok dL_spool_7, List.forall_mem_cons.mpr ⟨ab_last_ok dL_spool_8, List.forall_mem_cons.mpr ⟨ab_goto_ok dL_spool_9 (by decide), List.forall_mem_cons.mpr ⟨ab_astore_n_ok dL_spool_12 rfl, List.forall_mem_cons.mpr ⟨ab_iconst_ok dL_spool_13 (by decide), List.forall_mem_cons.mpr ⟨ab_iret_ok dL_spool_14 rfl, List.forall_mem_cons.mpr ⟨ab_iconst_ok dL_spool_15 (by decide), List.forall_mem_cons.mpr ⟨ab_iret_ok dL_spool_16 rfl, fun _ h => absurd h List.not_mem_nil⟩⟩⟩⟩⟩⟩⟩⟩⟩⟩⟩⟩⟩
theorem ab_k76 (K : ab_Kt) : ∀ pc, ab_OK K ab_mt ab_g76 pc (ab_c76 pc) := ab_lk2_ok _ (List.forall_mem_cons.mpr ⟨ab_k76_0 K, fun _ h => absurd h List.not_mem_nil⟩)
theorem dX7_spool_0 : decode cX7_spool 0 = .ok (.iload_n 1, 1) := by decide +kernel
theorem dX7_spool_1 : decode cX7_spool 1 = .ok (.iconst 1, 1) := by decide +kernel
theorem dX7_spool_2 : decode cX7_spool 2 = .ok (.sipush 200, 3) := by decide +kernel
theorem dX7_spool_5 : decode cX7_spool 5 = .ok (.invokestatic 59, 3) := by decide +kernel
theorem dX7_spool_8 : decode cX7_spool 8 = .ok (.ifCond .ne 10, 3) := by decide +kernel
theorem dX7_spool_11 : decode cX7_spool 11 = .ok (.aload_n 0, 1) := by decide +kernel
theorem dX7_spool_12 : decode cX7_spool 12 = .ok (.iconst 1, 1) := by decide +kernel
theorem dX7_spool_13 : decode cX7_spool 13 = .ok (.iconst 0, 1) := by decide +kernel
theorem dX7_spool_14 : decode cX7_spool 14 = .ok (.invokevirtual 98, 3) := by decide +kernel
theorem dX7_spool_17 : decode cX7_spool 17 = .ok (.ireturn, 1) := by decide +kernel
theorem dX7_spool_18 : decode cX7_spool 18 = .ok (.aload_n 0, 1) := by decide +kernel
theorem dX7_spool_19 : decode cX7_spool 19 = .ok (.aload_n 0, 1) := by decide +kernel
theorem dX7_spool_20 : decode cX7_spool 20 = .ok (.getfield 7, 3) := by decide +kernel
theorem dX7_spool_23 : decode cX7_spool 23 = .ok (.invokevirtual 104, 3) := by decide +kernel
theorem dX7_spool_26 : decode cX7_spool 26 = .ok (.aload_n 0, 1) := by decide +kernel
theorem dX7_spool_27 : decode cX7_spool 27 = .ok (.getfield 7, 3) := by decide +kernel
theorem dX7_spool_30 : decode cX7_spool 30 = .ok (.iconst 2, 1) := by decide +kernel
theorem dX7_spool_31 : decode cX7_spool 31 = .ok (.aload_n 0, 1) := by decide +kernel
theorem dX7_spool_32 : decode cX7_spool 32 = .ok (.getfield 7, 3) := by decide +kernel
theorem dX7_spool_35 : decode cX7_spool 35 = .ok (.iconst 2, 1) := by decide +kernel
theorem dX7_spool_36 : decode cX7_spool 36 = .ok (.iaload, 1) := by decide +kernel
theorem dX7_spool_37 : decode cX7_spool 37 = .ok (.iload_n 1, 1) := by decide +kernel
theorem dX7_spool_38 : decode cX7_spool 38 = .ok (.iadd, 1) := by decide +kernel
theorem dX7_spool_39 : decode cX7_spool 39 = .ok (.sipush 999, 3) := by decide +kernel
theorem dX7_spool_42 : decode cX7_spool 42 = .ok (.if_icmp .le 9, 3) := by decide +kernel
theorem dX7_spool_45 : decode cX7_spool 45 = .ok (.sipush 999, 3) := by decide +kernel
theorem dX7_spool_48 : decode cX7_spool 48 = .ok (.goto 11, 3) := by decide +kernel
theorem dX7_spool_51 : decode cX7_spool 51 = .ok (.aload_n 0, 1) := by decide +kernel
theorem dX7_spool_52 : decode cX7_spool 52 = .ok (.getfield 7, 3) := by decide +kernel
theorem dX7_spool_55 : decode cX7_spool 55 = .ok (.iconst 2, 1) := by decide +kernel
theorem dX7_spool_56 : decode cX7_spool 56 = .ok (.iaload, 1) := by decide +kernel
theorem dX7_spool_57 : decode cX7_spool 57 = .ok (.iload_n 1, 1) := by decide +kernel
theorem dX7_spool_58 : decode cX7_spool 58 = .ok (.iadd, 1) := by decide +kernel
theorem dX7_spool_59 : decode cX7_spool 59 = .ok (.iastore, 1) := by decide +kernel
theorem dX7_spool_60 : decode cX7_spool 60 = .ok (.aload_n 0, 1) := by decide +kernel
theorem dX7_spool_61 : decode cX7_spool 61 = .ok (.getfield 7, 3) := by decide +kernel
theorem dX7_spool_64 : decode cX7_spool 64 = .ok (.iconst 2, 1) := by decide +kernel
theorem dX7_spool_65 : decode cX7_spool 65 = .ok (.iaload, 1) := by decide +kernel
theorem dX7_spool_66 : decode cX7_spool 66 = .ok (.ireturn, 1) := by decide +kernel
theorem ab_k77_0 (K : ab_Kt) : ∀ q ∈ ab_l77_0, ab_OK K ab_mt ab_g77 q.1 q.2 := by
  unfold ab_l77_0
  exact List.forall_mem_cons.mpr ⟨ab_iload_n_ok dX7_spool_0 rfl, List.forall_mem_cons.mpr ⟨ab_iconst_ok dX7_spool_1 (by decide), List.forall_mem_cons.mpr ⟨ab_sipush_ok dX7_spool_2 (by decide), List.forall_mem_cons.mpr ⟨ab_callS_ok' (G' := ab_g97) dX7_spool_5 ab_m97 (by decide) (by decide) (ab_l3 ab_w387 ab_w388 ab_w8) ab_w389 rfl ⟨by decide, by decide, by decide +kernel⟩, List.forall_mem_cons.mpr ⟨ab_if_ne_ok dX7_spool_8 (by decide), List.forall_mem_cons.mpr ⟨ab_aload_n_ok dX7_spool_11 rfl, List.forall_mem_cons.mpr ⟨ab_iconst_ok dX7_spool_12 (by decide), List.forall_mem_cons.mpr ⟨ab_iconst_ok dX7_spool_13 (by decide), List.forall_mem_cons.mpr ⟨ab_callV_ok' (G' := ab_g152) (C := RX7) (T := TX7) (N := 19) dX7_spool_14 ab_m152 rfl rfl (by decide) (by decide) (ab_l4 ab_w612 ab_w613 ab_w614 ab_w8) ab_w615 rfl ⟨by decide, by decide, by decide +kernel⟩, List.forall_mem_cons.mpr ⟨ab_iret_ok dX7_spool_17 rfl, List.forall_mem_cons.mpr ⟨ab_aload_n_ok dX7_spool_18 rfl, List.forall_mem_cons.mpr ⟨ab_aload_n_ok dX7_spool_19 rfl, List.forall_mem_cons.mpr ⟨ab_getf_ok (C := RX7) (T := TX7) (N := 19) (ci := 11) (k := 0) dX7_spool_20 rfl ab_ic11 (by decide) ab_w350, List.forall_mem_cons.mpr ⟨ab_callV_ok' (G' := ab_g117) (C := RX7) (T := TX7) (N := 19) dX7_spool_23 ab_m117 rfl rfl (by decide) (by decide) (ab_l4 ab_w473 ab_w474 ab_w475 ab_w8) ab_w476 rfl ⟨by decide, by decide, by decide +kernel⟩, List.forall_mem_cons.mpr ⟨ab_aload_n_ok dX7_spool_26 rfl, List.forall_mem_cons.mpr ⟨ab_getf_ok (C := RX7) (T := TX7) (N := 19) (ci := 11) (k := 0) dX7_spool_27 rfl ab_ic11 (by decide) ab_w350, List.forall_mem_cons.mpr ⟨ab_iconst_ok dX7_spool_30 (by decide), List.forall_mem_cons.mpr ⟨ab_aload_n_ok dX7_spool_31 rfl, List.forall_mem_cons.mpr ⟨ab_getf_ok (C := RX7) (T := TX7) (N := 19) (ci := 11) (k := 0) dX7_spool_32 rfl ab_ic11 (by decide) ab_w350, List.forall_mem_cons.mpr ⟨ab_iconst_ok dX7_spool_35 (by decide), List.forall_mem_cons.mpr ⟨ab_ald0_ok dX7_spool_36, List.forall_mem_cons.mpr ⟨ab_iload_n_ok dX7_spool_37 rfl, List.forall_mem_cons.mpr ⟨ab_iadd_ok dX7_spool_38, List.forall_mem_cons.mpr ⟨ab_sipush_ok dX7_spool_39 (by decide), List.forall_mem_cons.mpr ⟨ab_icmp_le_ok dX7_spool_42 (by decide), List.forall_mem_cons.mpr ⟨ab_sipush_ok dX7_spool_45 (by decide), List.forall_mem_cons.mpr ⟨ab_goto_ok dX7_spool_48 (by decide), List.forall_mem_cons.mpr ⟨ab_aload_n_ok dX7_spool_51 rfl, List.forall_mem_cons.mpr ⟨ab_getf_ok (C := RX7) (T := TX7) (N := 19) (ci := 11) (k := 0) dX7_spool_52 rfl ab_ic11 (by decide) ab_w350, List.forall_mem_cons.mpr ⟨ab_iconst_ok dX7_spool_55 (by decide), List.forall_mem_cons.mpr ⟨ab_ald0_ok dX7_spool_56, List.forall_mem_cons.mpr ⟨ab_iload_n_ok dX7_spool_57 rfl, List.forall_mem_cons.mpr ⟨ab_iadd_ok dX7_spool_58, List.forall_mem_cons.mpr ⟨ab_ast0_ok dX7_spool_59, List.forall_mem_cons.mpr ⟨ab_aload_n_ok dX7_spool_60 rfl, List.forall_mem_cons.mpr ⟨ab_getf_ok (C := RX7) (T := TX7) (N := 19) (ci := 11) (k := 0) dX7_spool_61 rfl ab_ic11 (by decide) ab_w350, List.forall_mem_cons.mpr ⟨ab_iconst_ok dX7_spool_64 (by decide), List.forall_mem_cons.mpr ⟨ab_ald0_ok dX7_spool_65, List.forall_mem_cons.mpr ⟨ab_iret_ok dX7_spool_66 rfl, fun _ h => absurd h List.not_mem_nil⟩⟩⟩⟩⟩⟩⟩⟩⟩⟩⟩⟩⟩⟩⟩⟩⟩⟩⟩⟩⟩⟩⟩⟩⟩⟩⟩⟩⟩⟩⟩⟩⟩⟩⟩⟩⟩⟩⟩
theorem ab_k77 (K : ab_Kt) : ∀ pc, ab_OK K ab_mt ab_g77 pc (ab_c77 pc) := ab_lk2_ok _ (List.forall_mem_cons.mpr ⟨ab_k77_0 K, fun _ h => absurd h List.not_mem_nil⟩)
theorem dL_drop_0 : decode cL_drop 0 = .ok (.aload_n 3, 1) := by decide +kernel
theorem dL_drop_1 : decode cL_drop 1 = .ok (.iconst 0, 1) := by decide +kernel
theorem dL_drop_2 : decode cL_drop 2 = .ok (.aload_n 0, 1) := by decide +kernel
theorem dL_drop_3 : decode cL_drop 3 = .ok (.iload_n 1, 1) := by decide +kernel
theorem dL_drop_4 : decode cL_drop 4 = .ok (.iload_n 2, 1) := by decide +kernel
theorem dL_drop_5 : decode cL_drop 5 = .ok (.invokevirtual 23, 3) := by decide +kernel
theorem dL_drop_8 : decode cL_drop 8 = .ok (.i2l, 1) := by decide +kernel
theorem dL_drop_9 : decode cL_drop 9 = .ok (.lastore, 1) := by decide +kernel
theorem dL_drop_10 : decode cL_drop 10 = .ok (.goto 7, 3) := by decide +kernel
theorem dL_drop_13 : decode cL_drop 13 = .ok (.astore 4, 2) := by decide +kernel
theorem dL_drop_15 : decode cL_drop 15 = .ok (.iconst 1, 1) := by decide +kernel
theorem dL_drop_16 : decode cL_drop 16 = .ok (.ireturn, 1) := by decide +kernel
theorem dL_drop_17 : decode cL_drop 17 = .ok (.iconst 0, 1) := by decide +kernel
theorem dL_drop_18 : decode cL_drop 18 = .ok (.ireturn, 1) := by decide +kernel
theorem ab_k78_0 (K : ab_Kt) : ∀ q ∈ ab_l78_0, ab_OK K ab_mt ab_g78 q.1 q.2 := by
  unfold ab_l78_0
  exact List.forall_mem_cons.mpr ⟨ab_aload_n_ok dL_drop_0 rfl, List.forall_mem_cons.mpr ⟨ab_iconst_ok dL_drop_1 (by decide), List.forall_mem_cons.mpr ⟨ab_aload_n_ok dL_drop_2 rfl, List.forall_mem_cons.mpr ⟨ab_iload_n_ok dL_drop_3 rfl, List.forall_mem_cons.mpr ⟨ab_iload_n_ok dL_drop_4 rfl, List.forall_mem_cons.mpr ⟨ab_callV_ok' (G' := ab_g166) (C := RX6) (T := TX6) (N := 9) dL_drop_5 ab_m166 rfl rfl (by decide) (by decide) (ab_l4 ab_w667 ab_w668 ab_w669 ab_w2) ab_w670 rfl ⟨by decide, by decide, by decide +kernel⟩, List.forall_mem_cons.mpr ⟨ab_i2l_ok dL_drop_8, List.forall_mem_cons.mpr ⟨ab_last_ok dL_drop_9, List.forall_mem_cons.mpr ⟨ab_goto_ok dL_drop_10 (by decide), List.forall_mem_cons.mpr ⟨ab_astore_ok dL_drop_13, List.forall_mem_cons.mpr ⟨ab_iconst_ok dL_drop_15 (by decide), List.forall_mem_cons.mpr ⟨ab_iret_ok dL_drop_16 rfl, List.forall_mem_cons.mpr ⟨ab_iconst_ok dL_drop_17 (by decide), List.forall_mem_cons.mpr ⟨ab_iret_ok dL_drop_18 rfl, fun _ h => absurd h List.not_mem_nil⟩⟩⟩⟩⟩⟩⟩⟩⟩⟩⟩⟩⟩⟩
theorem ab_k78 (K : ab_Kt) : ∀ pc, ab_OK K ab_mt ab_g78 pc (ab_c78 pc) := ab_lk2_ok _ (List.forall_mem_cons.mpr ⟨ab_k78_0 K, fun _ h => absurd h List.not_mem_nil⟩)
theorem dX7_drop_0 : decode cX7_drop 0 = .ok (.aload_n 0, 1) := by decide +kernel
theorem dX7_drop_1 : decode cX7_drop 1 = .ok (.iload_n 1, 1) := by decide +kernel
theorem dX7_drop_2 : decode cX7_drop 2 = .ok (.invokevirtual 112, 3) := by decide +kernel
theorem dX7_drop_5 : decode cX7_drop 5 = .ok (.ifCond .eq 5, 3) := by decide +kernel
theorem dX7_drop_8 : decode cX7_drop 8 = .ok (.iconst 0, 1) := by decide +kernel
theorem dX7_drop_9 : decode cX7_drop 9 = .ok (.ireturn, 1) := by decide +kernel
theorem dX7_drop_10 : decode cX7_drop 10 = .ok (.aload_n 0, 1) := by decide +kernel
theorem dX7_drop_11 : decode cX7_drop 11 = .ok (.iload_n 1, 1) := by decide +kernel
theorem dX7_drop_12 : decode cX7_drop 12 = .ok (.iload_n 2, 1) := by decide +kernel
theorem dX7_drop_13 : decode cX7_drop 13 = .ok (.invokevirtual 119, 3) := by decide +kernel
theorem dX7_drop_16 : decode cX7_drop 16 = .ok (.ifCond .ne 10, 3) := by decide +kernel
theorem dX7_drop_19 : decode cX7_drop 19 = .ok (.aload_n 0, 1) := by decide +kernel
theorem dX7_drop_20 : decode cX7_drop 20 = .ok (.iconst 3, 1) := by decide +kernel
theorem dX7_drop_21 : decode cX7_drop 21 = .ok (.iload_n 2, 1) := by decide +kernel
theorem dX7_drop_22 : decode cX7_drop 22 = .ok (.invokevirtual 98, 3) := by decide +kernel
theorem dX7_drop_25 : decode cX7_drop 25 = .ok (.ireturn, 1) := by decide +kernel
theorem dX7_drop_26 : decode cX7_drop 26 = .ok (.aload_n 0, 1) := by decide +kernel
theorem dX7_drop_27 : decode cX7_drop 27 = .ok (.aload_n 0, 1) := by decide +kernel
theorem dX7_drop_28 : decode cX7_drop 28 = .ok (.getfield 7, 3) := by decide +kernel
theorem dX7_drop_31 : decode cX7_drop 31 = .ok (.invokevirtual 104, 3) := by decide +kernel
theorem dX7_drop_34 : decode cX7_drop 34 = .ok (.aload_n 0, 1) := by decide +kernel
theorem dX7_drop_35 : decode cX7_drop 35 = .ok (.iload_n 1, 1) := by decide +kernel
theorem dX7_drop_36 : decode cX7_drop 36 = .ok (.iconst 3, 1) := by decide +kernel
theorem dX7_drop_37 : decode cX7_drop 37 = .ok (.invokevirtual 63, 3) := by decide +kernel
theorem dX7_drop_40 : decode cX7_drop 40 = .ok (.iconst 1, 1) := by decide +kernel
theorem dX7_drop_41 : decode cX7_drop 41 = .ok (.isub, 1) := by decide +kernel
theorem dX7_drop_42 : decode cX7_drop 42 = .ok (.istore_n 3, 1) := by decide +kernel
theorem dX7_drop_43 : decode cX7_drop 43 = .ok (.iload_n 2, 1) := by decide +kernel
theorem dX7_drop_44 : decode cX7_drop 44 = .ok (.istore 4, 2) := by decide +kernel
theorem dX7_drop_46 : decode cX7_drop 46 = .ok (.iload 4, 2) := by decide +kernel
theorem dX7_drop_48 : decode cX7_drop 48 = .ok (.iload_n 3, 1) := by decide +kernel
theorem dX7_drop_49 : decode cX7_drop 49 = .ok (.if_icmp .ge 20, 3) := by decide +kernel
theorem dX7_drop_52 : decode cX7_drop 52 = .ok (.aload_n 0, 1) := by decide +kernel
theorem dX7_drop_53 : decode cX7_drop 53 = .ok (.iload_n 1, 1) := by decide +kernel
theorem dX7_drop_54 : decode cX7_drop 54 = .ok (.iload 4, 2) := by decide +kernel
theorem dX7_drop_56 : decode cX7_drop 56 = .ok (.iload 4, 2) := by decide +kernel
theorem dX7_drop_58 : decode cX7_drop 58 = .ok (.iconst 1, 1) := by decide +kernel
theorem dX7_drop_59 : decode cX7_drop 59 = .ok (.iadd, 1) := by decide +kernel
theorem dX7_drop_60 : decode cX7_drop 60 = .ok (.invokevirtual 122, 3) := by decide +kernel
theorem dX7_drop_63 : decode cX7_drop 63 = .ok (.iinc 4 1, 3) := by decide +kernel
theorem ab_k79_0 (K : ab_Kt) : ∀ q ∈ ab_l79_0, ab_OK K ab_mt ab_g79 q.1 q.2 := by
  unfold ab_l79_0
  exact List.forall_mem_cons.mpr ⟨ab_aload_n_ok dX7_drop_0 rfl, List.forall_mem_cons.mpr ⟨ab_iload_n_ok dX7_drop_1 rfl, List.forall_mem_cons.mpr ⟨ab_callV_ok' (G' := ab_g167) (C := RX7) (T := TX7) (N := 19) dX7_drop_2 ab_m167 rfl rfl (by decide) (by decide) (ab_l4 ab_w671 ab_w672 ab_w673 ab_w8) ab_w674 rfl ⟨by decide, by decide, by decide +kernel⟩, List.forall_mem_cons.mpr ⟨ab_if_eq_ok dX7_drop_5 (by decide), List.forall_mem_cons.mpr ⟨ab_iconst_ok dX7_drop_8 (by decide), List.forall_mem_cons.mpr ⟨ab_iret_ok dX7_drop_9 rfl, List.forall_mem_cons.mpr ⟨ab_aload_n_ok dX7_drop_10 rfl, List.forall_mem_cons.mpr ⟨ab_iload_n_ok dX7_drop_11 rfl, List.forall_mem_cons.mpr ⟨ab_iload_n_ok dX7_drop_12 rfl, List.forall_mem_cons.mpr ⟨ab_callV_ok' (G' := ab_g134) (C := RX7) (T := TX7) (N := 19) dX7_drop_13 ab_m134 rfl rfl (by decide) (by decide) (ab_l4 ab_w540 ab_w541 ab_w542 ab_w8) ab_w543 rfl ⟨by decide, by decide, by decide +kernel⟩, List.forall_mem_cons.mpr ⟨ab_if_ne_ok dX7_drop_16 (by decide), List.forall_mem_cons.mpr ⟨ab_aload_n_ok dX7_drop_19 rfl, List.forall_mem_cons.mpr ⟨ab_iconst_ok dX7_drop_20 (by decide), List.forall_mem_cons.mpr ⟨ab_iload_n_ok dX7_drop_21 rfl, List.forall_mem_cons.mpr ⟨ab_callV_ok' (G' := ab_g152) (C := RX7) (T := TX7) (N := 19) dX7_drop_22 ab_m152 rfl rfl (by decide) (by decide) (ab_l4 ab_w612 ab_w613 ab_w614 ab_w8) ab_w615 rfl ⟨by decide, by decide, by decide +kernel⟩, List.forall_mem_cons.mpr ⟨ab_iret_ok dX7_drop_25 rfl, List.forall_mem_cons.mpr ⟨ab_aload_n_ok dX7_drop_26 rfl, List.forall_mem_cons.mpr ⟨ab_aload_n_ok dX7_drop_27 rfl, List.forall_mem_cons.mpr ⟨ab_getf_ok (C := RX7) (T := TX7) (N := 19) (ci := 11) (k := 0) dX7_drop_28 rfl ab_ic11 (by decide) ab_w350, List.forall_mem_cons.mpr ⟨ab_callV_ok' (G' := ab_g117) (C := RX7) (T := TX7) (N := 19) dX7_drop_31 ab_m117 rfl rfl (by decide) (by decide) (ab_l4 ab_w473 ab_w474 ab_w475 ab_w8) ab_w476 rfl ⟨by decide, by decide, by decide +kernel⟩, List.forall_mem_cons.mpr ⟨ab_aload_n_ok dX7_drop_34 rfl, List.forall_mem_cons.mpr ⟨ab_iload_n_ok dX7_drop_35 rfl, List.forall_mem_cons.mpr ⟨ab_iconst_ok dX7_drop_36 (by decide), List.forall_mem_cons.mpr ⟨ab_callV_ok' (G' := ab_g110) (C := RX7) (T := TX7) (N := 19) dX7_drop_37 ab_m110 rfl rfl (by decide) (by decide) (ab_l4 ab_w440 ab_w441 ab_w442 ab_w8) ab_w443 rfl ⟨by decide, by decide, by decide +kernel⟩, List.forall_mem_cons.mpr ⟨ab_iconst_ok dX7_drop_40 (by decide), List.forall_mem_cons.mpr ⟨ab_isub_ok dX7_drop_41, List.forall_mem_cons.mpr ⟨ab_istore_n_ok dX7_drop_42 rfl, List.forall_mem_cons.mpr ⟨ab_iload_n_ok dX7_drop_43 rfl, List.forall_mem_cons.mpr ⟨ab_istore_ok dX7_drop_44, List.forall_mem_cons.mpr ⟨ab_iload_ok dX7_drop_46, List.forall_mem_cons.mpr ⟨ab_iload_n_ok dX7_drop_48 rfl, List.forall_mem_cons.mpr ⟨ab_icmp_ge_ok dX7_drop_49 (by decide), List.forall_mem_cons.mpr ⟨ab_aload_n_ok dX7_drop_52 rfl, List.forall_mem_cons.mpr ⟨ab_iload_n_ok dX7_drop_53 rfl, List.forall_mem_cons.mpr ⟨ab_iload_ok dX7_drop_54, List.forall_mem_cons.mpr ⟨ab_iload_ok dX7_drop_56, List.forall_mem_cons.mpr ⟨ab_iconst_ok dX7_drop_58 (by decide), List.forall_mem_cons.mpr ⟨ab_iadd_ok dX7_drop_59, List.forall_mem_cons.mpr ⟨ab_callV_ok' (G' := ab_g168) (C := RX7) (T := TX7) (N := 19) dX7_drop_60 ab_m168 rfl rfl (by decide) (by decide) (ab_l4 ab_w675 ab_w676 ab_w677 ab_w8) ab_w678 rfl ⟨by decide, by decide, by decide +kernel⟩, List.forall_mem_cons.mpr ⟨ab_iinc_ok dX7_drop_63 (by decide), fun _ h => absurd h List.not_mem_nil⟩⟩⟩⟩⟩⟩⟩⟩⟩⟩⟩⟩⟩⟩⟩⟩⟩⟩⟩⟩⟩⟩⟩⟩⟩⟩⟩⟩⟩⟩⟩⟩⟩⟩⟩⟩⟩⟩⟩⟩
theorem dX7_drop_66 : decode cX7_drop 66 = .ok (.goto (-20), 3) := by decide +kernel
theorem dX7_drop_69 : decode cX7_drop 69 = .ok (.aload_n 0, 1) := by decide +kernel
theorem dX7_drop_70 : decode cX7_drop 70 = .ok (.iload_n 1, 1) := by decide +kernel
theorem dX7_drop_71 : decode cX7_drop 71 = .ok (.iload_n 3, 1) := by decide +kernel
theorem dX7_drop_72 : decode cX7_drop 72 = .ok (.iconst 0, 1) := by decide +kernel
theorem dX7_drop_73 : decode cX7_drop 73 = .ok (.iconst 0, 1) := by decide +kernel
theorem dX7_drop_74 : decode cX7_drop 74 = .ok (.iconst 0, 1) := by decide +kernel
theorem dX7_drop_75 : decode cX7_drop 75 = .ok (.invokevirtual 115, 3) := by decide +kernel
theorem dX7_drop_78 : decode cX7_drop 78 = .ok (.aload_n 0, 1) := by decide +kernel
theorem dX7_drop_79 : decode cX7_drop 79 = .ok (.iload_n 1, 1) := by decide +kernel
theorem dX7_drop_80 : decode cX7_drop 80 = .ok (.iconst 3, 1) := by decide +kernel
theorem dX7_drop_81 : decode cX7_drop 81 = .ok (.iload_n 3, 1) := by decide +kernel
theorem dX7_drop_82 : decode cX7_drop 82 = .ok (.invokevirtual 108, 3) := by decide +kernel
theorem dX7_drop_85 : decode cX7_drop 85 = .ok (.iload_n 3, 1) := by decide +kernel
theorem dX7_drop_86 : decode cX7_drop 86 = .ok (.ireturn, 1) := by decide +kernel
theorem ab_k79_1 (K : ab_Kt) : ∀ q ∈ ab_l79_1, ab_OK K ab_mt ab_g79 q.1 q.2 := by
  unfold ab_l79_1
  exact List.forall_mem_cons.mpr ⟨ab_goto_ok dX7_drop_66 (by decide), List.forall_mem_cons.mpr ⟨ab_aload_n_ok dX7_drop_69 rfl, List.forall_mem_cons.mpr ⟨ab_iload_n_ok dX7_drop_70 rfl, List.forall_mem_cons.mpr ⟨ab_iload_n_ok dX7_drop_71 rfl, List.forall_mem_cons.mpr ⟨ab_iconst_ok dX7_drop_72 (by decide), List.forall_mem_cons.mpr ⟨ab_iconst_ok dX7_drop_73 (by decide), List.forall_mem_cons.mpr ⟨ab_iconst_ok dX7_drop_74 (by decide), List.forall_mem_cons.mpr ⟨ab_callV_ok' (G' := ab_g169) (C := RX7) (T := TX7) (N := 19) dX7_drop_75 ab_m169 rfl rfl (by decide) (by decide) (ab_l4 ab_w679 ab_w680 ab_w681 ab_w8) ab_w682 rfl ⟨by decide, by decide, by decide +kernel⟩, List.forall_mem_cons.mpr ⟨ab_aload_n_ok dX7_drop_78 rfl, List.forall_mem_cons.mpr ⟨ab_iload_n_ok dX7_drop_79 rfl, List.forall_mem_cons.mpr ⟨ab_iconst_ok dX7_drop_80 (by decide), List.forall_mem_cons.mpr ⟨ab_iload_n_ok dX7_drop_81 rfl, List.forall_mem_cons.mpr ⟨ab_callV_ok' (G' := ab_g157) (C := RX7) (T := TX7) (N := 19) dX7_drop_82 ab_m157 rfl rfl (by decide) (by decide) (ab_l4 ab_w632 ab_w633 ab_w634 ab_w8) ab_w635 rfl ⟨by decide, by decide, by decide +kernel⟩, List.forall_mem_cons.mpr ⟨ab_iload_n_ok dX7_drop_85 rfl, List.forall_mem_cons.mpr ⟨ab_iret_ok dX7_drop_86 rfl, fun _ h => absurd h List.not_mem_nil⟩⟩⟩⟩⟩⟩⟩⟩⟩⟩⟩⟩⟩⟩⟩
theorem ab_k79 (K : ab_Kt) : ∀ pc, ab_OK K ab_mt ab_g79 pc (ab_c79 pc) := ab_lk2_ok _ (List.forall_mem_cons.mpr ⟨ab_k79_0 K, List.forall_mem_cons.mpr ⟨ab_k79_1 K, fun _ h => absurd h List.not_mem_nil⟩⟩)
theorem dL_move_0 : decode cL_move 0 = .ok (.aload 4, 2) := by decide +kernel
theorem dL_move_2 : decode cL_move 2 = .ok (.iconst 0, 1) := by decide +kernel
theorem dL_move_3 : decode cL_move 3 = .ok (.aload_n 0, 1) := by decide +kernel
theorem dL_move_4 : decode cL_move 4 = .ok (.iload_n 1, 1) := by decide +kernel
theorem dL_move_5 : decode cL_move 5 = .ok (.iload_n 2, 1) := by decide +kernel
theorem dL_move_6 : decode cL_move 6 = .ok (.iload_n 3, 1) := by decide +kernel
theorem dL_move_7 : decode cL_move 7 = .ok (.invokevirtual 19, 3) := by decide +kernel
theorem dL_move_10 : decode cL_move 10 = .ok (.i2l, 1) := by decide +kernel
theorem dL_move_11 : decode cL_move 11 = .ok (.lastore, 1) := by decide +kernel
theorem dL_move_12 : decode cL_move 12 = .ok (.goto 7, 3) := by decide +kernel
theorem dL_move_15 : decode cL_move 15 = .ok (.astore 5, 2) := by decide +kernel
theorem dL_move_17 : decode cL_move 17 = .ok (.iconst 1, 1) := by decide +kernel
theorem dL_move_18 : decode cL_move 18 = .ok (.ireturn, 1) := by decide +kernel
theorem dL_move_19 : decode cL_move 19 = .ok (.iconst 0, 1) := by decide +kernel
theorem dL_move_20 : decode cL_move 20 = .ok (.ireturn, 1) := by decide +kernel
theorem ab_k80_0 (K : ab_Kt) : ∀ q ∈ ab_l80_0, ab_OK K ab_mt ab_g80 q.1 q.2 := by
  unfold ab_l80_0
  exact List.forall_mem_cons.mpr ⟨ab_aload_ok dL_move_0, List.forall_mem_cons.mpr ⟨ab_iconst_ok dL_move_2 (by decide), List.forall_mem_cons.mpr ⟨ab_aload_n_ok dL_move_3 rfl, List.forall_mem_cons.mpr ⟨ab_iload_n_ok dL_move_4 rfl, List.forall_mem_cons.mpr ⟨ab_iload_n_ok dL_move_5 rfl, List.forall_mem_cons.mpr ⟨ab_iload_n_ok dL_move_6 rfl, List.forall_mem_cons.mpr ⟨ab_callV_ok' (G' := ab_g170) (C := RX6) (T := TX6) (N := 9) dL_move_7 ab_m170 rfl rfl (by decide) (by decide) (ab_l4 ab_w683 ab_w684 ab_w685 ab_w2) ab_w686 rfl ⟨by decide, by decide, by decide +kernel⟩, List.forall_mem_cons.mpr ⟨ab_i2l_ok dL_move_10, List.forall_mem_cons.mpr ⟨ab_last_ok dL_move_11, List.forall_mem_cons.mpr ⟨ab_goto_ok dL_move_12 (by decide), List.forall_mem_cons.mpr ⟨ab_astore_ok dL_move_15, List.forall_mem_cons.mpr ⟨ab_iconst_ok dL_move_17 (by decide), List.forall_mem_cons.mpr ⟨ab_iret_ok dL_move_18 rfl, List.forall_mem_cons.mpr ⟨ab_iconst_ok dL_move_19 (by decide), List.forall_mem_cons.mpr ⟨ab_iret_ok dL_move_20 rfl, fun _ h => absurd h List.not_mem_nil⟩⟩⟩⟩⟩⟩⟩⟩⟩⟩⟩⟩⟩⟩⟩
theorem ab_k80 (K : ab_Kt) : ∀ pc, ab_OK K ab_mt ab_g80 pc (ab_c80 pc) := ab_lk2_ok _ (List.forall_mem_cons.mpr ⟨ab_k80_0 K, fun _ h => absurd h List.not_mem_nil⟩)
theorem dX7_move_0 : decode cX7_move 0 = .ok (.aload_n 0, 1) := by decide +kernel
theorem dX7_move_1 : decode cX7_move 1 = .ok (.iload_n 1, 1) := by decide +kernel
theorem dX7_move_2 : decode cX7_move 2 = .ok (.invokevirtual 112, 3) := by decide +kernel
theorem dX7_move_5 : decode cX7_move 5 = .ok (.ifCond .eq 5, 3) := by decide +kernel
theorem dX7_move_8 : decode cX7_move 8 = .ok (.iconst 0, 1) := by decide +kernel
theorem dX7_move_9 : decode cX7_move 9 = .ok (.ireturn, 1) := by decide +kernel
theorem dX7_move_10 : decode cX7_move 10 = .ok (.aload_n 0, 1) := by decide +kernel
theorem dX7_move_11 : decode cX7_move 11 = .ok (.iload_n 1, 1) := by decide +kernel
theorem dX7_move_12 : decode cX7_move 12 = .ok (.iload_n 2, 1) := by decide +kernel
theorem dX7_move_13 : decode cX7_move 13 = .ok (.invokevirtual 119, 3) := by decide +kernel
theorem dX7_move_16 : decode cX7_move 16 = .ok (.ifCond .ne 10, 3) := by decide +kernel
theorem dX7_move_19 : decode cX7_move 19 = .ok (.aload_n 0, 1) := by decide +kernel
theorem dX7_move_20 : decode cX7_move 20 = .ok (.iconst 3, 1) := by decide +kernel
theorem dX7_move_21 : decode cX7_move 21 = .ok (.iload_n 2, 1) := by decide +kernel
theorem dX7_move_22 : decode cX7_move 22 = .ok (.invokevirtual 98, 3) := by decide +kernel
theorem dX7_move_25 : decode cX7_move 25 = .ok (.ireturn, 1) := by decide +kernel
theorem dX7_move_26 : decode cX7_move 26 = .ok (.aload_n 0, 1) := by decide +kernel
theorem dX7_move_27 : decode cX7_move 27 = .ok (.iload_n 1, 1) := by decide +kernel
theorem dX7_move_28 : decode cX7_move 28 = .ok (.iload_n 3, 1) := by decide +kernel
theorem dX7_move_29 : decode cX7_move 29 = .ok (.invokevirtual 119, 3) := by decide +kernel
theorem dX7_move_32 : decode cX7_move 32 = .ok (.ifCond .ne 10, 3) := by decide +kernel
theorem dX7_move_35 : decode cX7_move 35 = .ok (.aload_n 0, 1) := by decide +kernel
theorem dX7_move_36 : decode cX7_move 36 = .ok (.iconst 3, 1) := by decide +kernel
theorem dX7_move_37 : decode cX7_move 37 = .ok (.iload_n 3, 1) := by decide +kernel
theorem dX7_move_38 : decode cX7_move 38 = .ok (.invokevirtual 98, 3) := by decide +kernel
theorem dX7_move_41 : decode cX7_move 41 = .ok (.ireturn, 1) := by decide +kernel
theorem dX7_move_42 : decode cX7_move 42 = .ok (.aload_n 0, 1) := by decide +kernel
theorem dX7_move_43 : decode cX7_move 43 = .ok (.aload_n 0, 1) := by decide +kernel
theorem dX7_move_44 : decode cX7_move 44 = .ok (.getfield 7, 3) := by decide +kernel
theorem dX7_move_47 : decode cX7_move 47 = .ok (.invokevirtual 104, 3) := by decide +kernel
theorem dX7_move_50 : decode cX7_move 50 = .ok (.iload_n 2, 1) := by decide +kernel
theorem dX7_move_51 : decode cX7_move 51 = .ok (.istore 4, 2) := by decide +kernel
theorem dX7_move_53 : decode cX7_move 53 = .ok (.iload 4, 2) := by decide +kernel
theorem dX7_move_55 : decode cX7_move 55 = .ok (.iload_n 3, 1) := by decide +kernel
theorem dX7_move_56 : decode cX7_move 56 = .ok (.if_icmp .ge 20, 3) := by decide +kernel
theorem dX7_move_59 : decode cX7_move 59 = .ok (.aload_n 0, 1) := by decide +kernel
theorem dX7_move_60 : decode cX7_move 60 = .ok (.iload_n 1, 1) := by decide +kernel
theorem dX7_move_61 : decode cX7_move 61 = .ok (.iload 4, 2) := by decide +kernel
theorem dX7_move_63 : decode cX7_move 63 = .ok (.iload 4, 2) := by decide +kernel
theorem dX7_move_65 : decode cX7_move 65 = .ok (.iconst 1, 1) := by decide +kernel
theorem ab_k81_0 (K : ab_Kt) : ∀ q ∈ ab_l81_0, ab_OK K ab_mt ab_g81 q.1 q.2 := by
  unfold ab_l81_0
  exact List.forall_mem_cons.mpr ⟨ab_aload_n_ok dX7_move_0 rfl, List.forall_mem_cons.mpr ⟨ab_iload_n_ok dX7_move_1 rfl, List.forall_mem_cons.mpr ⟨ab_callV_ok' (G' := ab_g167) (C := RX7) (T := TX7) (N := 19) dX7_move_2 ab_m167 rfl rfl (by decide) (by decide) (ab_l4 ab_w671 ab_w672 ab_w673 ab_w8) ab_w674 rfl ⟨by decide, by decide, by decide +kernel⟩, List.forall_mem_cons.mpr ⟨ab_if_eq_ok dX7_move_5 (by decide), List.forall_mem_cons.mpr ⟨ab_iconst_ok dX7_move_8 (by decide), List.forall_mem_cons.mpr ⟨ab_iret_ok dX7_move_9 rfl, List.forall_mem_cons.mpr ⟨ab_aload_n_ok dX7_move_10 rfl, List.forall_mem_cons.mpr ⟨ab_iload_n_ok dX7_move_11 rfl, List.forall_mem_cons.mpr ⟨ab_iload_n_ok dX7_move_12 rfl, List.forall_mem_cons.mpr ⟨ab_callV_ok' (G' := ab_g134) (C := RX7) (T := TX7) (N := 19) dX7_move_13 ab_m134 rfl rfl (by decide) (by decide) (ab_l4 ab_w540 ab_w541 ab_w542 ab_w8) ab_w543 rfl ⟨by decide, by decide, by decide +kernel⟩, List.forall_mem_cons.mpr ⟨ab_if_ne_ok dX7_move_16 (by decide), List.forall_mem_cons.mpr ⟨ab_aload_n_ok dX7_move_19 rfl, List.forall_mem_cons.mpr ⟨ab_iconst_ok dX7_move_20 (by decide), List.forall_mem_cons.mpr ⟨ab_iload_n_ok dX7_move_21 rfl, List.forall_mem_cons.mpr ⟨ab_callV_ok' (G' := ab_g152) (C := RX7) (T := TX7) (N := 19) dX7_move_22 ab_m152 rfl rfl (by decide) (by decide) (ab_l4 ab_w612 ab_w613 ab_w614 ab_w8) ab_w615 rfl ⟨by decide, by decide, by decide +kernel⟩, List.forall_mem_cons.mpr ⟨ab_iret_ok dX7_move_25 rfl, List.forall_mem_cons.mpr ⟨ab_aload_n_ok dX7_move_26 rfl, List.forall_mem_cons.mpr ⟨ab_iload_n_ok dX7_move_27 rfl, List.forall_mem_cons.mpr ⟨ab_iload_n_ok dX7_move_28 rfl, List.forall_mem_cons.mpr ⟨ab_callV_ok' (G' := ab_g134) (C := RX7) (T := TX7) (N := 19) dX7_move_29 ab_m134 rfl rfl (by decide) (by decide) (ab_l4 ab_w540 ab_w541 ab_w542 ab_w8) ab_w543 rfl ⟨by decide, by decide, by decide +kernel⟩, List.forall_mem_cons.mpr ⟨ab_if_ne_ok dX7_move_32 (by decide), List.forall_mem_cons.mpr ⟨ab_aload_n_ok dX7_move_35 rfl, List.forall_mem_cons.mpr ⟨ab_iconst_ok dX7_move_36 (by decide), List.forall_mem_cons.mpr ⟨ab_iload_n_ok dX7_move_37 rfl, List.forall_mem_cons.mpr ⟨ab_callV_ok' (G' := ab_g152) (C := RX7) (T := TX7) (N := 19) dX7_move_38 ab_m152 rfl rfl (by decide) (by decide) (ab_l4 ab_w612 ab_w613 ab_w614 ab_w8) ab_w615 rfl ⟨by decide, by decide, by decide +kernel⟩, List.forall_mem_cons.mpr ⟨ab_iret_ok dX7_move_41 rfl, List.forall_mem_cons.mpr ⟨ab_aload_n_ok dX7_move_42 rfl, List.forall_mem_cons.mpr ⟨ab_aload_n_ok dX7_move_43 rfl, List.forall_mem_cons.mpr ⟨ab_getf_ok (C := RX7) (T := TX7) (N := 19) (ci := 11) (k := 0) dX7_move_44 rfl ab_ic11 (by decide) ab_w350, List.forall_mem_cons.mpr ⟨ab_callV_ok' (G' := ab_g117) (C := RX7) (T := TX7) (N := 19) dX7_move_47 ab_m117 rfl rfl (by decide) (by decide) (ab_l4 ab_w473 ab_w474 ab_w475 ab_w8) ab_w476 rfl ⟨by decide, by decide, by decide +kernel⟩, List.forall_mem_cons.mpr ⟨ab_iload_n_ok dX7_move_50 rfl, List.forall_mem_cons.mpr ⟨ab_istore_ok dX7_move_51, List.forall_mem_cons.mpr ⟨ab_iload_ok dX7_move_53, List.forall_mem_cons.mpr ⟨ab_iload_n_ok dX7_move_55 rfl, List.forall_mem_cons.mpr ⟨ab_icmp_ge_ok dX7_move_56 (by decide), List.forall_mem_cons.mpr ⟨ab_aload_n_ok dX7_move_59 rfl, List.forall_mem_cons.mpr ⟨ab_iload_n_ok dX7_move_60 rfl, List.forall_mem_cons.mpr ⟨ab_iload_ok dX7_move_61, List.forall_mem_cons.mpr ⟨ab_iload_ok dX7_move_63, List.forall_mem_cons.mpr ⟨ab_iconst_ok dX7_move_65 (by decide), fun _ h => absurd h List.not_mem_nil⟩⟩⟩⟩⟩⟩⟩⟩⟩⟩⟩⟩⟩⟩⟩⟩⟩⟩⟩⟩⟩⟩⟩⟩⟩⟩⟩⟩⟩⟩⟩⟩⟩⟩⟩⟩⟩⟩⟩⟩
theorem dX7_move_66 : decode cX7_move 66 = .ok (.iadd, 1) := by decide +kernel
theorem dX7_move_67 : decode cX7_move 67 = .ok (.invokevirtual 122, 3) := by decide +kernel
theorem dX7_move_70 : decode cX7_move 70 = .ok (.iinc 4 1, 3) := by decide +kernel
theorem dX7_move_73 : decode cX7_move 73 = .ok (.goto (-20), 3) := by decide +kernel
theorem dX7_move_76 : decode cX7_move 76 = .ok (.iload_n 2, 1) := by decide +kernel
theorem dX7_move_77 : decode cX7_move 77 = .ok (.istore 4, 2) := by decide +kernel
theorem dX7_move_79 : decode cX7_move 79 = .ok (.iload 4, 2) := by decide +kernel
theorem dX7_move_81 : decode cX7_move 81 = .ok (.iload_n 3, 1) := by decide +kernel
theorem dX7_move_82 : decode cX7_move 82 = .ok (.if_icmp .le 20, 3) := by decide +kernel
theorem dX7_move_85 : decode cX7_move 85 = .ok (.aload_n 0, 1) := by decide +kernel
theorem dX7_move_86 : decode cX7_move 86 = .ok (.iload_n 1, 1) := by decide +kernel
theorem dX7_move_87 : decode cX7_move 87 = .ok (.iload 4, 2) := by decide +kernel
theorem dX7_move_89 : decode cX7_move 89 = .ok (.iload 4, 2) := by decide +kernel
theorem dX7_move_91 : decode cX7_move 91 = .ok (.iconst 1, 1) := by decide +kernel
theorem dX7_move_92 : decode cX7_move 92 = .ok (.isub, 1) := by decide +kernel
theorem dX7_move_93 : decode cX7_move 93 = .ok (.invokevirtual 122, 3) := by decide +kernel
theorem dX7_move_96 : decode cX7_move 96 = .ok (.iinc 4 (-1), 3) := by decide +kernel
theorem dX7_move_99 : decode cX7_move 99 = .ok (.goto (-20), 3) := by decide +kernel
theorem dX7_move_102 : decode cX7_move 102 = .ok (.aload_n 0, 1) := by decide +kernel
theorem dX7_move_103 : decode cX7_move 103 = .ok (.iload_n 1, 1) := by decide +kernel
theorem dX7_move_104 : decode cX7_move 104 = .ok (.invokevirtual 125, 3) := by decide +kernel
theorem dX7_move_107 : decode cX7_move 107 = .ok (.ireturn, 1) := by decide +kernel
theorem ab_k81_1 (K : ab_Kt) : ∀ q ∈ ab_l81_1, ab_OK K ab_mt ab_g81 q.1 q.2 := by
  unfold ab_l81_1
  exact List.forall_mem_cons.mpr ⟨ab_iadd_ok dX7_move_66, List.forall_mem_cons.mpr ⟨ab_callV_ok' (G' := ab_g168) (C := RX7) (T := TX7) (N := 19) dX7_move_67 ab_m168 rfl rfl (by decide) (by decide) (ab_l4 ab_w675 ab_w676 ab_w677 ab_w8) ab_w678 rfl ⟨by decide, by decide, by decide +kernel⟩, List.forall_mem_cons.mpr ⟨ab_iinc_ok dX7_move_70 (by decide), List.forall_mem_cons.mpr ⟨ab_goto_ok dX7_move_73 (by decide), List.forall_mem_cons.mpr ⟨ab_iload_n_ok dX7_move_76 rfl, List.forall_mem_cons.mpr ⟨ab_istore_ok dX7_move_77, List.forall_mem_cons.mpr ⟨ab_iload_ok dX7_move_79, List.forall_mem_cons.mpr ⟨ab_iload_n_ok dX7_move_81 rfl, List.forall_mem_cons.mpr ⟨ab_icmp_le_ok dX7_move_82 (by decide), List.forall_mem_cons.mpr ⟨ab_aload_n_ok dX7_move_85 rfl, List.forall_mem_cons.mpr ⟨ab_iload_n_ok dX7_move_86 rfl, List.forall_mem_cons.mpr ⟨ab_iload_ok dX7_move_87, List.forall_mem_cons.mpr ⟨ab_iload_ok dX7_move_89, List.forall_mem_cons.mpr ⟨ab_iconst_ok dX7_move_91 (by decide), List.forall_mem_cons.mpr ⟨ab_isub_ok dX7_move_92, List.forall_mem_cons.mpr ⟨ab_callV_ok' (G' := ab_g168) (C := RX7) (T := TX7) (N := 19) dX7_move_93 ab_m168 rfl rfl (by decide) (by decide) (ab_l4 ab_w675 ab_w676 ab_w677 ab_w8) ab_w678 rfl ⟨by decide, by decide, by decide +kernel⟩, List.forall_mem_cons.mpr ⟨ab_iinc_ok dX7_move_96 (by decide), List.forall_mem_cons.mpr ⟨ab_goto_ok dX7_move_99 (by decide), List.forall_mem_cons.mpr ⟨ab_aload_n_ok dX7_move_102 rfl, List.forall_mem_cons.mpr ⟨ab_iload_n_ok dX7_move_103 rfl, List.forall_mem_cons.mpr ⟨ab_callV_ok' (G' := ab_g105) (C := RX7) (T := TX7) (N := 19) dX7_move_104 ab_m105 rfl rfl (by decide) (by decide) (ab_l4 ab_w419 ab_w420 ab_w421 ab_w8) ab_w422 rfl ⟨by decide, by decide, by decide +kernel⟩, List.forall_mem_cons.mpr ⟨ab_iret_ok dX7_move_107 rfl, fun _ h => absurd h List.not_mem_nil⟩⟩⟩⟩⟩⟩⟩⟩⟩⟩⟩⟩⟩⟩⟩⟩⟩⟩⟩⟩⟩⟩
theorem ab_k81 (K : ab_Kt) : ∀ pc, ab_OK K ab_mt ab_g81 pc (ab_c81 pc) := ab_lk2_ok _ (List.forall_mem_cons.mpr ⟨ab_k81_0 K, List.forall_mem_cons.mpr ⟨ab_k81_1 K, fun _ h => absurd h List.not_mem_nil⟩⟩)
theorem dL_gather_0 : decode cL_gather 0 = .ok (.aload 5, 2) := by decide +kernel
theorem dL_gather_2 : decode cL_gather 2 = .ok (.iconst 0, 1) := by decide +kernel
theorem dL_gather_3 : decode cL_gather 3 = .ok (.aload_n 0, 1) := by decide +kernel
theorem dL_gather_4 : decode cL_gather 4 = .ok (.iload_n 1, 1) := by decide +kernel
theorem dL_gather_5 : decode cL_gather 5 = .ok (.iload_n 2, 1) := by decide +kernel
theorem dL_gather_6 : decode cL_gather 6 = .ok (.iload_n 3, 1) := by decide +kernel
theorem dL_gather_7 : decode cL_gather 7 = .ok (.iload 4, 2) := by decide +kernel
theorem dL_gather_9 : decode cL_gather 9 = .ok (.invokevirtual 15, 3) := by decide +kernel
theorem dL_gather_12 : decode cL_gather 12 = .ok (.i2l, 1) := by decide +kernel
theorem dL_gather_13 : decode cL_gather 13 = .ok (.lastore, 1) := by decide +kernel
theorem dL_gather_14 : decode cL_gather 14 = .ok (.goto 7, 3) := by decide +kernel
theorem dL_gather_17 : decode cL_gather 17 = .ok (.astore 6, 2) := by decide +kernel
theorem dL_gather_19 : decode cL_gather 19 = .ok (.iconst 1, 1) := by decide +kernel
theorem dL_gather_20 : decode cL_gather 20 = .ok (.ireturn, 1) := by decide +kernel
theorem dL_gather_21 : decode cL_gather 21 = .ok (.iconst 0, 1) := by decide +kernel
theorem dL_gather_22 : decode cL_gather 22 = .ok (.ireturn, 1) := by decide +kernel
theorem ab_k82_0 (K : ab_Kt) : ∀ q ∈ ab_l82_0, ab_OK K ab_mt ab_g82 q.1 q.2 := by
  unfold ab_l82_0
  exact List.forall_mem_cons.mpr ⟨ab_aload_ok dL_gather_0, List.forall_mem_cons.mpr ⟨ab_iconst_ok dL_gather_2 (by decide), List.forall_mem_cons.mpr ⟨ab_aload_n_ok dL_gather_3 rfl, List.forall_mem_cons.mpr ⟨ab_iload_n_ok dL_gather_4 rfl, List.forall_mem_cons.mpr ⟨ab_iload_n_ok dL_gather_5 rfl, List.forall_mem_cons.mpr ⟨ab_iload_n_ok dL_gather_6 rfl, List.forall_mem_cons.mpr ⟨ab_iload_ok dL_gather_7, List.forall_mem_cons.mpr ⟨ab_callV_ok' (G' := ab_g171) (C := RX6) (T := TX6) (N := 9) dL_gather_9 ab_m171 rfl rfl (by decide) (by decide) (ab_l4 ab_w687 ab_w688 ab_w689 ab_w2) ab_w690 rfl ⟨by decide, by decide, by decide +kernel⟩, List.forall_mem_cons.mpr ⟨ab_i2l_ok dL_gather_12, List.forall_mem_cons.mpr ⟨ab_last_ok dL_gather_13, List.forall_mem_cons.mpr ⟨ab_goto_ok dL_gather_14 (by decide), List.forall_mem_cons.mpr ⟨ab_astore_ok dL_gather_17, List.forall_mem_cons.mpr ⟨ab_iconst_ok dL_gather_19 (by decide), List.forall_mem_cons.mpr ⟨ab_iret_ok dL_gather_20 rfl, List.forall_mem_cons.mpr ⟨ab_iconst_ok dL_gather_21 (by decide), List.forall_mem_cons.mpr ⟨ab_iret_ok dL_gather_22 rfl, fun _ h => absurd h List.not_mem_nil⟩⟩⟩⟩⟩⟩⟩⟩⟩⟩⟩⟩⟩⟩⟩⟩
theorem ab_k82 (K : ab_Kt) : ∀ pc, ab_OK K ab_mt ab_g82 pc (ab_c82 pc) := ab_lk2_ok _ (List.forall_mem_cons.mpr ⟨ab_k82_0 K, fun _ h => absurd h List.not_mem_nil⟩)
theorem dX7_gather_0 : decode cX7_gather 0 = .ok (.aload_n 0, 1) := by decide +kernel
theorem dX7_gather_1 : decode cX7_gather 1 = .ok (.iload_n 1, 1) := by decide +kernel
theorem dX7_gather_2 : decode cX7_gather 2 = .ok (.invokevirtual 112, 3) := by decide +kernel
theorem dX7_gather_5 : decode cX7_gather 5 = .ok (.ifCond .eq 5, 3) := by decide +kernel
theorem dX7_gather_8 : decode cX7_gather 8 = .ok (.iconst 0, 1) := by decide +kernel
theorem dX7_gather_9 : decode cX7_gather 9 = .ok (.ireturn, 1) := by decide +kernel
theorem dX7_gather_10 : decode cX7_gather 10 = .ok (.iload_n 2, 1) := by decide +kernel
theorem dX7_gather_11 : decode cX7_gather 11 = .ok (.iconst 1, 1) := by decide +kernel
theorem dX7_gather_12 : decode cX7_gather 12 = .ok (.bipush 99, 2) := by decide +kernel
theorem dX7_gather_14 : decode cX7_gather 14 = .ok (.invokestatic 59, 3) := by decide +kernel
theorem dX7_gather_17 : decode cX7_gather 17 = .ok (.ifCond .eq 12, 3) := by decide +kernel
theorem dX7_gather_20 : decode cX7_gather 20 = .ok (.iload_n 3, 1) := by decide +kernel
theorem dX7_gather_21 : decode cX7_gather 21 = .ok (.iconst 1, 1) := by decide +kernel
theorem dX7_gather_22 : decode cX7_gather 22 = .ok (.iconst 3, 1) := by decide +kernel
theorem dX7_gather_23 : decode cX7_gather 23 = .ok (.invokestatic 59, 3) := by decide +kernel
theorem dX7_gather_26 : decode cX7_gather 26 = .ok (.ifCond .ne 10, 3) := by decide +kernel
theorem dX7_gather_29 : decode cX7_gather 29 = .ok (.aload_n 0, 1) := by decide +kernel
theorem dX7_gather_30 : decode cX7_gather 30 = .ok (.iconst 1, 1) := by decide +kernel
theorem dX7_gather_31 : decode cX7_gather 31 = .ok (.iconst 0, 1) := by decide +kernel
theorem dX7_gather_32 : decode cX7_gather 32 = .ok (.invokevirtual 98, 3) := by decide +kernel
theorem dX7_gather_35 : decode cX7_gather 35 = .ok (.ireturn, 1) := by decide +kernel
theorem dX7_gather_36 : decode cX7_gather 36 = .ok (.aload_n 0, 1) := by decide +kernel
theorem dX7_gather_37 : decode cX7_gather 37 = .ok (.iload_n 1, 1) := by decide +kernel
theorem dX7_gather_38 : decode cX7_gather 38 = .ok (.iconst 3, 1) := by decide +kernel
theorem dX7_gather_39 : decode cX7_gather 39 = .ok (.invokevirtual 63, 3) := by decide +kernel
theorem dX7_gather_42 : decode cX7_gather 42 = .ok (.bipush 12, 2) := by decide +kernel
theorem dX7_gather_44 : decode cX7_gather 44 = .ok (.if_icmp .ne 11, 3) := by decide +kernel
theorem dX7_gather_47 : decode cX7_gather 47 = .ok (.aload_n 0, 1) := by decide +kernel
theorem dX7_gather_48 : decode cX7_gather 48 = .ok (.iconst 2, 1) := by decide +kernel
theorem dX7_gather_49 : decode cX7_gather 49 = .ok (.bipush 12, 2) := by decide +kernel
theorem dX7_gather_51 : decode cX7_gather 51 = .ok (.invokevirtual 98, 3) := by decide +kernel
theorem dX7_gather_54 : decode cX7_gather 54 = .ok (.ireturn, 1) := by decide +kernel
theorem dX7_gather_55 : decode cX7_gather 55 = .ok (.aload_n 0, 1) := by decide +kernel
theorem dX7_gather_56 : decode cX7_gather 56 = .ok (.aload_n 0, 1) := by decide +kernel
theorem dX7_gather_57 : decode cX7_gather 57 = .ok (.getfield 7, 3) := by decide +kernel
theorem dX7_gather_60 : decode cX7_gather 60 = .ok (.invokevirtual 104, 3) := by decide +kernel
theorem dX7_gather_63 : decode cX7_gather 63 = .ok (.aload_n 0, 1) := by decide +kernel
theorem dX7_gather_64 : decode cX7_gather 64 = .ok (.iload_n 1, 1) := by decide +kernel
theorem dX7_gather_65 : decode cX7_gather 65 = .ok (.iconst 3, 1) := by decide +kernel
theorem dX7_gather_66 : decode cX7_gather 66 = .ok (.invokevirtual 63, 3) := by decide +kernel
theorem ab_k83_0 (K : ab_Kt) : ∀ q ∈ ab_l83_0, ab_OK K ab_mt ab_g83 q.1 q.2 := by
  unfold ab_l83_0
  exact List.forall_mem_cons.mpr ⟨ab_aload_n_ok dX7_gather_0 rfl, List.forall_mem_cons.mpr ⟨ab_iload_n_ok dX7_gather_1 rfl, List.forall_mem_cons.mpr ⟨ab_callV_ok' (G' := ab_g167) (C := RX7) (T := TX7) (N := 19) dX7_gather_2 ab_m167 rfl rfl (by decide) (by decide) (ab_l4 ab_w671 ab_w672 ab_w673 ab_w8) ab_w674 rfl ⟨by decide, by decide, by decide +kernel⟩, List.forall_mem_cons.mpr ⟨ab_if_eq_ok dX7_gather_5 (by decide), List.forall_mem_cons.mpr ⟨ab_iconst_ok dX7_gather_8 (by decide), List.forall_mem_cons.mpr ⟨ab_iret_ok dX7_gather_9 rfl, List.forall_mem_cons.mpr ⟨ab_iload_n_ok dX7_gather_10 rfl, List.forall_mem_cons.mpr ⟨ab_iconst_ok dX7_gather_11 (by decide), List.forall_mem_cons.mpr ⟨ab_bipush_ok dX7_gather_12 (by decide), List.forall_mem_cons.mpr ⟨ab_callS_ok' (G' := ab_g97) dX7_gather_14 ab_m97 (by decide) (by decide) (ab_l3 ab_w387 ab_w388 ab_w8) ab_w389 rfl ⟨by decide, by decide, by decide +kernel⟩, List.forall_mem_cons.mpr ⟨ab_if_eq_ok dX7_gather_17 (by decide), List.forall_mem_cons.mpr ⟨ab_iload_n_ok dX7_gather_20 rfl, List.forall_mem_cons.mpr ⟨ab_iconst_ok dX7_gather_21 (by decide), List.forall_mem_cons.mpr ⟨ab_iconst_ok dX7_gather_22 (by decide), List.forall_mem_cons.mpr ⟨ab_callS_ok' (G' := ab_g97) dX7_gather_23 ab_m97 (by decide) (by decide) (ab_l3 ab_w387 ab_w388 ab_w8) ab_w389 rfl ⟨by decide, by decide, by decide +kernel⟩, List.forall_mem_cons.mpr ⟨ab_if_ne_ok dX7_gather_26 (by decide), List.forall_mem_cons.mpr ⟨ab_aload_n_ok dX7_gather_29 rfl, List.forall_mem_cons.mpr ⟨ab_iconst_ok dX7_gather_30 (by decide), List.forall_mem_cons.mpr ⟨ab_iconst_ok dX7_gather_31 (by decide), List.forall_mem_cons.mpr ⟨ab_callV_ok' (G' := ab_g152) (C := RX7) (T := TX7) (N := 19) dX7_gather_32 ab_m152 rfl rfl (by decide) (by decide) (ab_l4 ab_w612 ab_w613 ab_w614 ab_w8) ab_w615 rfl ⟨by decide, by decide, by decide +kernel⟩, List.forall_mem_cons.mpr ⟨ab_iret_ok dX7_gather_35 rfl, List.forall_mem_cons.mpr ⟨ab_aload_n_ok dX7_gather_36 rfl, List.forall_mem_cons.mpr ⟨ab_iload_n_ok dX7_gather_37 rfl, List.forall_mem_cons.mpr ⟨ab_iconst_ok dX7_gather_38 (by decide), List.forall_mem_cons.mpr ⟨ab_callV_ok' (G' := ab_g110) (C := RX7) (T := TX7) (N := 19) dX7_gather_39 ab_m110 rfl rfl (by decide) (by decide) (ab_l4 ab_w440 ab_w441 ab_w442 ab_w8) ab_w443 rfl ⟨by decide, by decide, by decide +kernel⟩, List.forall_mem_cons.mpr ⟨ab_bipush_ok dX7_gather_42 (by decide), List.forall_mem_cons.mpr ⟨ab_icmp_ne_ok dX7_gather_44 (by decide), List.forall_mem_cons.mpr ⟨ab_aload_n_ok dX7_gather_47 rfl, List.forall_mem_cons.mpr ⟨ab_iconst_ok dX7_gather_48 (by decide), List.forall_mem_cons.mpr ⟨ab_bipush_ok dX7_gather_49 (by decide), List.forall_mem_cons.mpr ⟨ab_callV_ok' (G' := ab_g152) (C := RX7) (T := TX7) (N := 19) dX7_gather_51 ab_m152 rfl rfl (by decide) (by decide) (ab_l4 ab_w612 ab_w613 ab_w614 ab_w8) ab_w615 rfl ⟨by decide, by decide, by decide +kernel⟩, List.forall_mem_cons.mpr ⟨ab_iret_ok dX7_gather_54 rfl, List.forall_mem_cons.mpr ⟨ab_aload_n_ok dX7_gather_55 rfl, List.forall_mem_cons.mpr ⟨ab_aload_n_ok dX7_gather_56 rfl, List.forall_mem_cons.mpr ⟨ab_getf_ok (C := RX7) (T := TX7) (N := 19) (ci := 11) (k := 0) dX7_gather_57 rfl ab_ic11 (by decide) ab_w350, List.forall_mem_cons.mpr ⟨ab_callV_ok' (G' := ab_g117) (C := RX7) (T := TX7) (N := 19) dX7_gather_60 ab_m117 rfl rfl (by decide) (by decide) (ab_l4 ab_w473 ab_w474 ab_w475 ab_w8) ab_w476 rfl ⟨by decide, by decide, by decide +kernel⟩, List.forall_mem_cons.mpr ⟨ab_aload_n_ok dX7_gather_63 rfl, List.forall_mem_cons.mpr ⟨ab_iload_n_ok dX7_gather_64 rfl, List.forall_mem_cons.mpr ⟨ab_iconst_ok dX7_gather_65 (by decide), List.forall_mem_cons.mpr ⟨ab_callV_ok' (G' := ab_g110) (C := RX7) (T := TX7) (N := 19) dX7_gather_66 ab_m110 rfl rfl (by decide) (by decide) (ab_l4 ab_w440 ab_w441 ab_w442 ab_w8) ab_w443 rfl ⟨by decide, by decide, by decide +kernel⟩, fun _ h => absurd h List.not_mem_nil⟩⟩⟩⟩⟩⟩⟩⟩⟩⟩⟩⟩⟩⟩⟩⟩⟩⟩⟩⟩⟩⟩⟩⟩⟩⟩⟩⟩⟩⟩⟩⟩⟩⟩⟩⟩⟩⟩⟩⟩
theorem dX7_gather_69 : decode cX7_gather 69 = .ok (.istore 5, 2) := by decide +kernel
theorem dX7_gather_71 : decode cX7_gather 71 = .ok (.aload_n 0, 1) := by decide +kernel
theorem dX7_gather_72 : decode cX7_gather 72 = .ok (.iload_n 1, 1) := by decide +kernel
theorem dX7_gather_73 : decode cX7_gather 73 = .ok (.iconst 3, 1) := by decide +kernel
theorem dX7_gather_74 : decode cX7_gather 74 = .ok (.iload 5, 2) := by decide +kernel
theorem dX7_gather_76 : decode cX7_gather 76 = .ok (.iconst 1, 1) := by decide +kernel
theorem dX7_gather_77 : decode cX7_gather 77 = .ok (.iadd, 1) := by decide +kernel
theorem dX7_gather_78 : decode cX7_gather 78 = .ok (.invokevirtual 108, 3) := by decide +kernel
theorem dX7_gather_81 : decode cX7_gather 81 = .ok (.aload_n 0, 1) := by decide +kernel
theorem dX7_gather_82 : decode cX7_gather 82 = .ok (.iload_n 1, 1) := by decide +kernel
theorem dX7_gather_83 : decode cX7_gather 83 = .ok (.iload 5, 2) := by decide +kernel
theorem dX7_gather_85 : decode cX7_gather 85 = .ok (.iload_n 2, 1) := by decide +kernel
theorem dX7_gather_86 : decode cX7_gather 86 = .ok (.iload_n 3, 1) := by decide +kernel
theorem dX7_gather_87 : decode cX7_gather 87 = .ok (.iload 4, 2) := by decide +kernel
theorem dX7_gather_89 : decode cX7_gather 89 = .ok (.ifCond .eq 7, 3) := by decide +kernel
theorem dX7_gather_92 : decode cX7_gather 92 = .ok (.iconst 1, 1) := by decide +kernel
theorem dX7_gather_93 : decode cX7_gather 93 = .ok (.goto 4, 3) := by decide +kernel
theorem dX7_gather_96 : decode cX7_gather 96 = .ok (.iconst 0, 1) := by decide +kernel
theorem dX7_gather_97 : decode cX7_gather 97 = .ok (.invokevirtual 115, 3) := by decide +kernel
theorem dX7_gather_100 : decode cX7_gather 100 = .ok (.iload 5, 2) := by decide +kernel
theorem dX7_gather_102 : decode cX7_gather 102 = .ok (.ireturn, 1) := by decide +kernel
theorem ab_k83_1 (K : ab_Kt) : ∀ q ∈ ab_l83_1, ab_OK K ab_mt ab_g83 q.1 q.2 := by
  unfold ab_l83_1
  exact List.forall_mem_cons.mpr ⟨ab_istore_ok dX7_gather_69, List.forall_mem_cons.mpr ⟨ab_aload_n_ok dX7_gather_71 rfl, List.forall_mem_cons.mpr ⟨ab_iload_n_ok dX7_gather_72 rfl, List.forall_mem_cons.mpr ⟨ab_iconst_ok dX7_gather_73 (by decide), List.forall_mem_cons.mpr ⟨ab_iload_ok dX7_gather_74, List.forall_mem_cons.mpr ⟨ab_iconst_ok dX7_gather_76 (by decide), List.forall_mem_cons.mpr ⟨ab_iadd_ok dX7_gather_77, List.forall_mem_cons.mpr ⟨ab_callV_ok' (G' := ab_g157) (C := RX7) (T := TX7) (N := 19) dX7_gather_78 ab_m157 rfl rfl (by decide) (by decide) (ab_l4 ab_w632 ab_w633 ab_w634 ab_w8) ab_w635 rfl ⟨by decide, by decide, by decide +kernel⟩, List.forall_mem_cons.mpr ⟨ab_aload_n_ok dX7_gather_81 rfl, List.forall_mem_cons.mpr ⟨ab_iload_n_ok dX7_gather_82 rfl, List.forall_mem_cons.mpr ⟨ab_iload_ok dX7_gather_83, List.forall_mem_cons.mpr ⟨ab_iload_n_ok dX7_gather_85 rfl, List.forall_mem_cons.mpr ⟨ab_iload_n_ok dX7_gather_86 rfl, List.forall_mem_cons.mpr ⟨ab_iload_ok dX7_gather_87, List.forall_mem_cons.mpr ⟨ab_if_eq_ok dX7_gather_89 (by decide), List.forall_mem_cons.mpr ⟨ab_iconst_ok dX7_gather_92 (by decide), List.forall_mem_cons.mpr ⟨ab_goto_ok dX7_gather_93 (by decide), List.forall_mem_cons.mpr ⟨ab_iconst_ok dX7_gather_96 (by decide), List.forall_mem_cons.mpr ⟨ab_callV_ok' (G' := ab_g169) (C := RX7) (T := TX7) (N := 19) dX7_gather_97 ab_m169 rfl rfl (by decide) (by decide) (ab_l4 ab_w679 ab_w680 ab_w681 ab_w8) ab_w682 rfl ⟨by decide, by decide, by decide +kernel⟩, List.forall_mem_cons.mpr ⟨ab_iload_ok dX7_gather_100, List.forall_mem_cons.mpr ⟨ab_iret_ok dX7_gather_102 rfl, fun _ h => absurd h List.not_mem_nil⟩⟩⟩⟩⟩⟩⟩⟩⟩⟩⟩⟩⟩⟩⟩⟩⟩⟩⟩⟩⟩
theorem ab_k83 (K : ab_Kt) : ∀ pc, ab_OK K ab_mt ab_g83 pc (ab_c83 pc) := ab_lk2_ok _ (List.forall_mem_cons.mpr ⟨ab_k83_0 K, List.forall_mem_cons.mpr ⟨ab_k83_1 K, fun _ h => absurd h List.not_mem_nil⟩⟩)
