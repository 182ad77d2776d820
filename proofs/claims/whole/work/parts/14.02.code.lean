/-! ===== the code tables hold: L_book .. ===== -/
theorem dL_book_0 : decode cL_book 0 = .ok (.aload_n 3, 1) := by decide +kernel
theorem dL_book_1 : decode cL_book 1 = .ok (.iconst 0, 1) := by decide +kernel
theorem dL_book_2 : decode cL_book 2 = .ok (.aload_n 0, 1) := by decide +kernel
theorem dL_book_3 : decode cL_book 3 = .ok (.iload_n 1, 1) := by decide +kernel
theorem dL_book_4 : decode cL_book 4 = .ok (.iload_n 2, 1) := by decide +kernel
theorem dL_book_5 : decode cL_book 5 = .ok (.invokevirtual 7, 3) := by decide +kernel
theorem dL_book_8 : decode cL_book 8 = .ok (.i2l, 1) := by decide +kernel
theorem dL_book_9 : decode cL_book 9 = .ok (.lastore, 1) := by decide +kernel
theorem dL_book_10 : decode cL_book 10 = .ok (.goto 7, 3) := by decide +kernel
theorem dL_book_13 : decode cL_book 13 = .ok (.astore 4, 2) := by decide +kernel
theorem dL_book_15 : decode cL_book 15 = .ok (.iconst 1, 1) := by decide +kernel
theorem dL_book_16 : decode cL_book 16 = .ok (.ireturn, 1) := by decide +kernel
theorem dL_book_17 : decode cL_book 17 = .ok (.iconst 0, 1) := by decide +kernel
theorem dL_book_18 : decode cL_book 18 = .ok (.ireturn, 1) := by decide +kernel
theorem ab_k84_0 (K : ab_Kt) : ∀ q ∈ ab_l84_0, ab_OK K ab_mt ab_g84 q.1 q.2 := by
  unfold ab_l84_0
  exact List.forall_mem_cons.mpr ⟨ab_aload_n_ok dL_book_0 rfl, List.forall_mem_cons.mpr ⟨ab_iconst_ok dL_book_1 (by decide), List.forall_mem_cons.mpr ⟨ab_aload_n_ok dL_book_2 rfl, List.forall_mem_cons.mpr ⟨ab_iload_n_ok dL_book_3 rfl, List.forall_mem_cons.mpr ⟨ab_iload_n_ok dL_book_4 rfl, List.forall_mem_cons.mpr ⟨ab_callV_ok' (G' := ab_g172) (C := RX6) (T := TX6) (N := 9) dL_book_5 ab_m172 rfl rfl (by decide) (by decide) (ab_l4 ab_w691 ab_w692 ab_w693 ab_w2) ab_w694 rfl ⟨by decide, by decide, by decide +kernel⟩, List.forall_mem_cons.mpr ⟨ab_i2l_ok dL_book_8, List.forall_mem_cons.mpr ⟨ab_last_ok dL_book_9, List.forall_mem_cons.mpr ⟨ab_goto_ok dL_book_10 (by decide), List.forall_mem_cons.mpr ⟨ab_astore_ok dL_book_13, List.forall_mem_cons.mpr ⟨ab_iconst_ok dL_book_15 (by decide), List.forall_mem_cons.mpr ⟨ab_iret_ok dL_book_16 rfl, List.forall_mem_cons.mpr ⟨ab_iconst_ok dL_book_17 (by decide), List.forall_mem_cons.mpr ⟨ab_iret_ok dL_book_18 rfl, fun _ h => absurd h List.not_mem_nil⟩⟩⟩⟩⟩⟩⟩⟩⟩⟩⟩⟩⟩⟩
theorem ab_k84 (K : ab_Kt) : ∀ pc, ab_OK K ab_mt ab_g84 pc (ab_c84 pc) := ab_lk2_ok _ (List.forall_mem_cons.mpr ⟨ab_k84_0 K, fun _ h => absurd h List.not_mem_nil⟩)
theorem dX7_book_0 : decode cX7_book 0 = .ok (.iload_n 1, 1) := by decide +kernel
theorem dX7_book_1 : decode cX7_book 1 = .ok (.iconst 4, 1) := by decide +kernel
theorem dX7_book_2 : decode cX7_book 2 = .ok (.bipush 96, 2) := by decide +kernel
theorem dX7_book_4 : decode cX7_book 4 = .ok (.invokestatic 59, 3) := by decide +kernel
theorem dX7_book_7 : decode cX7_book 7 = .ok (.ifCond .eq 12, 3) := by decide +kernel
theorem dX7_book_10 : decode cX7_book 10 = .ok (.iload_n 2, 1) := by decide +kernel
theorem dX7_book_11 : decode cX7_book 11 = .ok (.iconst 2, 1) := by decide +kernel
theorem dX7_book_12 : decode cX7_book 12 = .ok (.iconst 5, 1) := by decide +kernel
theorem dX7_book_13 : decode cX7_book 13 = .ok (.invokestatic 59, 3) := by decide +kernel
theorem dX7_book_16 : decode cX7_book 16 = .ok (.ifCond .ne 10, 3) := by decide +kernel
theorem dX7_book_19 : decode cX7_book 19 = .ok (.aload_n 0, 1) := by decide +kernel
theorem dX7_book_20 : decode cX7_book 20 = .ok (.iconst 1, 1) := by decide +kernel
theorem dX7_book_21 : decode cX7_book 21 = .ok (.iconst 0, 1) := by decide +kernel
theorem dX7_book_22 : decode cX7_book 22 = .ok (.invokevirtual 98, 3) := by decide +kernel
theorem dX7_book_25 : decode cX7_book 25 = .ok (.ireturn, 1) := by decide +kernel
theorem dX7_book_26 : decode cX7_book 26 = .ok (.aload_n 0, 1) := by decide +kernel
theorem dX7_book_27 : decode cX7_book 27 = .ok (.getfield 7, 3) := by decide +kernel
theorem dX7_book_30 : decode cX7_book 30 = .ok (.iconst 3, 1) := by decide +kernel
theorem dX7_book_31 : decode cX7_book 31 = .ok (.iaload, 1) := by decide +kernel
theorem dX7_book_32 : decode cX7_book 32 = .ok (.bipush 6, 2) := by decide +kernel
theorem dX7_book_34 : decode cX7_book 34 = .ok (.if_icmp .ne 11, 3) := by decide +kernel
theorem dX7_book_37 : decode cX7_book 37 = .ok (.aload_n 0, 1) := by decide +kernel
theorem dX7_book_38 : decode cX7_book 38 = .ok (.iconst 2, 1) := by decide +kernel
theorem dX7_book_39 : decode cX7_book 39 = .ok (.bipush 6, 2) := by decide +kernel
theorem dX7_book_41 : decode cX7_book 41 = .ok (.invokevirtual 98, 3) := by decide +kernel
theorem dX7_book_44 : decode cX7_book 44 = .ok (.ireturn, 1) := by decide +kernel
theorem dX7_book_45 : decode cX7_book 45 = .ok (.aload_n 0, 1) := by decide +kernel
theorem dX7_book_46 : decode cX7_book 46 = .ok (.aload_n 0, 1) := by decide +kernel
theorem dX7_book_47 : decode cX7_book 47 = .ok (.getfield 7, 3) := by decide +kernel
theorem dX7_book_50 : decode cX7_book 50 = .ok (.invokevirtual 104, 3) := by decide +kernel
theorem dX7_book_53 : decode cX7_book 53 = .ok (.aload_n 0, 1) := by decide +kernel
theorem dX7_book_54 : decode cX7_book 54 = .ok (.getfield 7, 3) := by decide +kernel
theorem dX7_book_57 : decode cX7_book 57 = .ok (.iconst 3, 1) := by decide +kernel
theorem dX7_book_58 : decode cX7_book 58 = .ok (.iaload, 1) := by decide +kernel
theorem dX7_book_59 : decode cX7_book 59 = .ok (.istore_n 3, 1) := by decide +kernel
theorem dX7_book_60 : decode cX7_book 60 = .ok (.aload_n 0, 1) := by decide +kernel
theorem dX7_book_61 : decode cX7_book 61 = .ok (.getfield 7, 3) := by decide +kernel
theorem dX7_book_64 : decode cX7_book 64 = .ok (.iconst 3, 1) := by decide +kernel
theorem dX7_book_65 : decode cX7_book 65 = .ok (.dup2, 1) := by decide +kernel
theorem dX7_book_66 : decode cX7_book 66 = .ok (.iaload, 1) := by decide +kernel
theorem ab_k85_0 (K : ab_Kt) : ∀ q ∈ ab_l85_0, ab_OK K ab_mt ab_g85 q.1 q.2 := by
  unfold ab_l85_0
  exact List.forall_mem_cons.mpr ⟨ab_iload_n_ok dX7_book_0 rfl, List.forall_mem_cons.mpr ⟨ab_iconst_ok dX7_book_1 (by decide), List.forall_mem_cons.mpr ⟨ab_bipush_ok dX7_book_2 (by decide), List.forall_mem_cons.mpr ⟨ab_callS_ok' (G' := ab_g97) dX7_book_4 ab_m97 (by decide) (by decide) (ab_l3 ab_w387 ab_w388 ab_w8) ab_w389 rfl ⟨by decide, by decide, by decide +kernel⟩, List.forall_mem_cons.mpr ⟨ab_if_eq_ok dX7_book_7 (by decide), List.forall_mem_cons.mpr ⟨ab_iload_n_ok dX7_book_10 rfl, List.forall_mem_cons.mpr ⟨ab_iconst_ok dX7_book_11 (by decide), List.forall_mem_cons.mpr ⟨ab_iconst_ok dX7_book_12 (by decide), List.forall_mem_cons.mpr ⟨ab_callS_ok' (G' := ab_g97) dX7_book_13 ab_m97 (by decide) (by decide) (ab_l3 ab_w387 ab_w388 ab_w8) ab_w389 rfl ⟨by decide, by decide, by decide +kernel⟩, List.forall_mem_cons.mpr ⟨ab_if_ne_ok dX7_book_16 (by decide), List.forall_mem_cons.mpr ⟨ab_aload_n_ok dX7_book_19 rfl, List.forall_mem_cons.mpr ⟨ab_iconst_ok dX7_book_20 (by decide), List.forall_mem_cons.mpr ⟨ab_iconst_ok dX7_book_21 (by decide), List.forall_mem_cons.mpr ⟨ab_callV_ok' (G' := ab_g152) (C := RX7) (T := TX7) (N := 19) dX7_book_22 ab_m152 rfl rfl (by decide) (by decide) (ab_l4 ab_w612 ab_w613 ab_w614 ab_w8) ab_w615 rfl ⟨by decide, by decide, by decide +kernel⟩, List.forall_mem_cons.mpr ⟨ab_iret_ok dX7_book_25 rfl, List.forall_mem_cons.mpr ⟨ab_aload_n_ok dX7_book_26 rfl, List.forall_mem_cons.mpr ⟨ab_getf_ok (C := RX7) (T := TX7) (N := 19) (ci := 11) (k := 0) dX7_book_27 rfl ab_ic11 (by decide) ab_w350, List.forall_mem_cons.mpr ⟨ab_iconst_ok dX7_book_30 (by decide), List.forall_mem_cons.mpr ⟨ab_ald0_ok dX7_book_31, List.forall_mem_cons.mpr ⟨ab_bipush_ok dX7_book_32 (by decide), List.forall_mem_cons.mpr ⟨ab_icmp_ne_ok dX7_book_34 (by decide), List.forall_mem_cons.mpr ⟨ab_aload_n_ok dX7_book_37 rfl, List.forall_mem_cons.mpr ⟨ab_iconst_ok dX7_book_38 (by decide), List.forall_mem_cons.mpr ⟨ab_bipush_ok dX7_book_39 (by decide), List.forall_mem_cons.mpr ⟨ab_callV_ok' (G' := ab_g152) (C := RX7) (T := TX7) (N := 19) dX7_book_41 ab_m152 rfl rfl (by decide) (by decide) (ab_l4 ab_w612 ab_w613 ab_w614 ab_w8) ab_w615 rfl ⟨by decide, by decide, by decide +kernel⟩, List.forall_mem_cons.mpr ⟨ab_iret_ok dX7_book_44 rfl, List.forall_mem_cons.mpr ⟨ab_aload_n_ok dX7_book_45 rfl, List.forall_mem_cons.mpr ⟨ab_aload_n_ok dX7_book_46 rfl, List.forall_mem_cons.mpr ⟨ab_getf_ok (C := RX7) (T := TX7) (N := 19) (ci := 11) (k := 0) dX7_book_47 rfl ab_ic11 (by decide) ab_w350, List.forall_mem_cons.mpr ⟨ab_callV_ok' (G' := ab_g117) (C := RX7) (T := TX7) (N := 19) dX7_book_50 ab_m117 rfl rfl (by decide) (by decide) (ab_l4 ab_w473 ab_w474 ab_w475 ab_w8) ab_w476 rfl ⟨by decide, by decide, by decide +kernel⟩, List.forall_mem_cons.mpr ⟨ab_aload_n_ok dX7_book_53 rfl, List.forall_mem_cons.mpr ⟨ab_getf_ok (C := RX7) (T := TX7) (N := 19) (ci := 11) (k := 0) dX7_book_54 rfl ab_ic11 (by decide) ab_w350, List.forall_mem_cons.mpr ⟨ab_iconst_ok dX7_book_57 (by decide), List.forall_mem_cons.mpr ⟨ab_ald0_ok dX7_book_58, List.forall_mem_cons.mpr ⟨ab_istore_n_ok dX7_book_59 rfl, List.forall_mem_cons.mpr ⟨ab_aload_n_ok dX7_book_60 rfl, List.forall_mem_cons.mpr ⟨ab_getf_ok (C := RX7) (T := TX7) (N := 19) (ci := 11) (k := 0) dX7_book_61 rfl ab_ic11 (by decide) ab_w350, List.forall_mem_cons.mpr ⟨ab_iconst_ok dX7_book_64 (by decide), List.forall_mem_cons.mpr ⟨ab_dup2_ok dX7_book_65, List.forall_mem_cons.mpr ⟨ab_ald0_ok dX7_book_66, fun _ h => absurd h List.not_mem_nil⟩⟩⟩⟩⟩⟩⟩⟩⟩⟩⟩⟩⟩⟩⟩⟩⟩⟩⟩⟩⟩⟩⟩⟩⟩⟩⟩⟩⟩⟩⟩⟩⟩⟩⟩⟩⟩⟩⟩⟩
theorem dX7_book_67 : decode cX7_book 67 = .ok (.iconst 1, 1) := by decide +kernel
theorem dX7_book_68 : decode cX7_book 68 = .ok (.iadd, 1) := by decide +kernel
theorem dX7_book_69 : decode cX7_book 69 = .ok (.iastore, 1) := by decide +kernel
theorem dX7_book_70 : decode cX7_book 70 = .ok (.iconst 0, 1) := by decide +kernel
theorem dX7_book_71 : decode cX7_book 71 = .ok (.istore 4, 2) := by decide +kernel
theorem dX7_book_73 : decode cX7_book 73 = .ok (.iload 4, 2) := by decide +kernel
theorem dX7_book_75 : decode cX7_book 75 = .ok (.bipush 51, 2) := by decide +kernel
theorem dX7_book_77 : decode cX7_book 77 = .ok (.if_icmp .ge 17, 3) := by decide +kernel
theorem dX7_book_80 : decode cX7_book 80 = .ok (.aload_n 0, 1) := by decide +kernel
theorem dX7_book_81 : decode cX7_book 81 = .ok (.iload_n 3, 1) := by decide +kernel
theorem dX7_book_82 : decode cX7_book 82 = .ok (.iload 4, 2) := by decide +kernel
theorem dX7_book_84 : decode cX7_book 84 = .ok (.iconst 0, 1) := by decide +kernel
theorem dX7_book_85 : decode cX7_book 85 = .ok (.invokevirtual 108, 3) := by decide +kernel
theorem dX7_book_88 : decode cX7_book 88 = .ok (.iinc 4 1, 3) := by decide +kernel
theorem dX7_book_91 : decode cX7_book 91 = .ok (.goto (-18), 3) := by decide +kernel
theorem dX7_book_94 : decode cX7_book 94 = .ok (.aload_n 0, 1) := by decide +kernel
theorem dX7_book_95 : decode cX7_book 95 = .ok (.iload_n 3, 1) := by decide +kernel
theorem dX7_book_96 : decode cX7_book 96 = .ok (.iconst 0, 1) := by decide +kernel
theorem dX7_book_97 : decode cX7_book 97 = .ok (.iload_n 1, 1) := by decide +kernel
theorem dX7_book_98 : decode cX7_book 98 = .ok (.invokevirtual 108, 3) := by decide +kernel
theorem dX7_book_101 : decode cX7_book 101 = .ok (.aload_n 0, 1) := by decide +kernel
theorem dX7_book_102 : decode cX7_book 102 = .ok (.iload_n 3, 1) := by decide +kernel
theorem dX7_book_103 : decode cX7_book 103 = .ok (.iconst 1, 1) := by decide +kernel
theorem dX7_book_104 : decode cX7_book 104 = .ok (.iload_n 2, 1) := by decide +kernel
theorem dX7_book_105 : decode cX7_book 105 = .ok (.invokevirtual 108, 3) := by decide +kernel
theorem dX7_book_108 : decode cX7_book 108 = .ok (.aload_n 0, 1) := by decide +kernel
theorem dX7_book_109 : decode cX7_book 109 = .ok (.iload_n 3, 1) := by decide +kernel
theorem dX7_book_110 : decode cX7_book 110 = .ok (.iconst 5, 1) := by decide +kernel
theorem dX7_book_111 : decode cX7_book 111 = .ok (.iconst (-1), 1) := by decide +kernel
theorem dX7_book_112 : decode cX7_book 112 = .ok (.invokevirtual 108, 3) := by decide +kernel
theorem dX7_book_115 : decode cX7_book 115 = .ok (.iload_n 3, 1) := by decide +kernel
theorem dX7_book_116 : decode cX7_book 116 = .ok (.ireturn, 1) := by decide +kernel
theorem ab_k85_1 (K : ab_Kt) : ∀ q ∈ ab_l85_1, ab_OK K ab_mt ab_g85 q.1 q.2 := by
  unfold ab_l85_1
  exact List.forall_mem_cons.mpr ⟨ab_iconst_ok dX7_book_67 (by decide), List.forall_mem_cons.mpr ⟨ab_iadd_ok dX7_book_68, List.forall_mem_cons.mpr ⟨ab_ast0_ok dX7_book_69, List.forall_mem_cons.mpr ⟨ab_iconst_ok dX7_book_70 (by decide), List.forall_mem_cons.mpr ⟨ab_istore_ok dX7_book_71, List.forall_mem_cons.mpr ⟨ab_iload_ok dX7_book_73, List.forall_mem_cons.mpr ⟨ab_bipush_ok dX7_book_75 (by decide), List.forall_mem_cons.mpr ⟨ab_icmp_ge_ok dX7_book_77 (by decide), List.forall_mem_cons.mpr ⟨ab_aload_n_ok dX7_book_80 rfl, List.forall_mem_cons.mpr ⟨ab_iload_n_ok dX7_book_81 rfl, List.forall_mem_cons.mpr ⟨ab_iload_ok dX7_book_82, List.forall_mem_cons.mpr ⟨ab_iconst_ok dX7_book_84 (by decide), List.forall_mem_cons.mpr ⟨ab_callV_ok' (G' := ab_g157) (C := RX7) (T := TX7) (N := 19) dX7_book_85 ab_m157 rfl rfl (by decide) (by decide) (ab_l4 ab_w632 ab_w633 ab_w634 ab_w8) ab_w635 rfl ⟨by decide, by decide, by decide +kernel⟩, List.forall_mem_cons.mpr ⟨ab_iinc_ok dX7_book_88 (by decide), List.forall_mem_cons.mpr ⟨ab_goto_ok dX7_book_91 (by decide), List.forall_mem_cons.mpr ⟨ab_aload_n_ok dX7_book_94 rfl, List.forall_mem_cons.mpr ⟨ab_iload_n_ok dX7_book_95 rfl, List.forall_mem_cons.mpr ⟨ab_iconst_ok dX7_book_96 (by decide), List.forall_mem_cons.mpr ⟨ab_iload_n_ok dX7_book_97 rfl, List.forall_mem_cons.mpr ⟨ab_callV_ok' (G' := ab_g157) (C := RX7) (T := TX7) (N := 19) dX7_book_98 ab_m157 rfl rfl (by decide) (by decide) (ab_l4 ab_w632 ab_w633 ab_w634 ab_w8) ab_w635 rfl ⟨by decide, by decide, by decide +kernel⟩, List.forall_mem_cons.mpr ⟨ab_aload_n_ok dX7_book_101 rfl, List.forall_mem_cons.mpr ⟨ab_iload_n_ok dX7_book_102 rfl, List.forall_mem_cons.mpr ⟨ab_iconst_ok dX7_book_103 (by decide), List.forall_mem_cons.mpr ⟨ab_iload_n_ok dX7_book_104 rfl, List.forall_mem_cons.mpr ⟨ab_callV_ok' (G' := ab_g157) (C := RX7) (T := TX7) (N := 19) dX7_book_105 ab_m157 rfl rfl (by decide) (by decide) (ab_l4 ab_w632 ab_w633 ab_w634 ab_w8) ab_w635 rfl ⟨by decide, by decide, by decide +kernel⟩, List.forall_mem_cons.mpr ⟨ab_aload_n_ok dX7_book_108 rfl, List.forall_mem_cons.mpr ⟨ab_iload_n_ok dX7_book_109 rfl, List.forall_mem_cons.mpr ⟨ab_iconst_ok dX7_book_110 (by decide), List.forall_mem_cons.mpr ⟨ab_iconst_ok dX7_book_111 (by decide), List.forall_mem_cons.mpr ⟨ab_callV_ok' (G' := ab_g157) (C := RX7) (T := TX7) (N := 19) dX7_book_112 ab_m157 rfl rfl (by decide) (by decide) (ab_l4 ab_w632 ab_w633 ab_w634 ab_w8) ab_w635 rfl ⟨by decide, by decide, by decide +kernel⟩, List.forall_mem_cons.mpr ⟨ab_iload_n_ok dX7_book_115 rfl, List.forall_mem_cons.mpr ⟨ab_iret_ok dX7_book_116 rfl, fun _ h => absurd h List.not_mem_nil⟩⟩⟩⟩⟩⟩⟩⟩⟩⟩⟩⟩⟩⟩⟩⟩⟩⟩⟩⟩⟩⟩⟩⟩⟩⟩⟩⟩⟩⟩⟩⟩
theorem ab_k85 (K : ab_Kt) : ∀ pc, ab_OK K ab_mt ab_g85 pc (ab_c85 pc) := ab_lk2_ok _ (List.forall_mem_cons.mpr ⟨ab_k85_0 K, List.forall_mem_cons.mpr ⟨ab_k85_1 K, fun _ h => absurd h List.not_mem_nil⟩⟩)
theorem dX0_init_0 : decode cX0_init 0 = .ok (.aload_n 0, 1) := by decide +kernel
theorem dX0_init_1 : decode cX0_init 1 = .ok (.invokespecial 3, 3) := by decide +kernel
theorem dX0_init_4 : decode cX0_init 4 = .ok (.aload_n 0, 1) := by decide +kernel
theorem dX0_init_5 : decode cX0_init 5 = .ok (.new 9, 3) := by decide +kernel
theorem dX0_init_8 : decode cX0_init 8 = .ok (.dup, 1) := by decide +kernel
theorem dX0_init_9 : decode cX0_init 9 = .ok (.invokespecial 11, 3) := by decide +kernel
theorem dX0_init_12 : decode cX0_init 12 = .ok (.putfield 12, 3) := by decide +kernel
theorem dX0_init_15 : decode cX0_init 15 = .ok (.return_, 1) := by decide +kernel
theorem ab_k86_0 (K : ab_Kt) : ∀ q ∈ ab_l86_0, ab_OK K ab_mt ab_g86 q.1 q.2 := by
  unfold ab_l86_0
  exact List.forall_mem_cons.mpr ⟨ab_aload_n_ok dX0_init_0 rfl, List.forall_mem_cons.mpr ⟨ab_oini_ok dX0_init_1 (ab_l3 ab_w695 ab_w309 ab_w310), List.forall_mem_cons.mpr ⟨ab_aload_n_ok dX0_init_4 rfl, List.forall_mem_cons.mpr ⟨ab_newo_ok (C := RX5) (T := TX5) (N := 10) (ci := 9) (ty0 := tyX5) dX0_init_5 rfl ab_ic9 tyX5_ok (ab_l3 ab_w696 ab_w327 ab_w328) (by decide +kernel) rfl rfl, List.forall_mem_cons.mpr ⟨ab_dup_ok dX0_init_8, List.forall_mem_cons.mpr ⟨ab_callI_ok' (G' := ab_g88) dX0_init_9 ab_m88 rfl (by decide) (by decide) ab_w329 (ab_l3 ab_w697 ab_w331 ab_w328) rfl ⟨rfl, by decide, by decide, by decide +kernel⟩, List.forall_mem_cons.mpr ⟨ab_putf_ok (C := RX0) (T := TX0) (N := 5) (ci := 4) (k := 0) (ty0 := tyX0) dX0_init_12 rfl ab_ic4 tyX0_ok nmX0 (by decide) ab_w698 rfl (Or.inr ⟨rfl, rfl, rfl⟩), List.forall_mem_cons.mpr ⟨ab_vret_ok dX0_init_15 rfl, fun _ h => absurd h List.not_mem_nil⟩⟩⟩⟩⟩⟩⟩⟩
theorem ab_k86 (K : ab_Kt) : ∀ pc, ab_OK K ab_mt ab_g86 pc (ab_c86 pc) := ab_lk2_ok _ (List.forall_mem_cons.mpr ⟨ab_k86_0 K, fun _ h => absurd h List.not_mem_nil⟩)
theorem dX3_init_0 : decode cX3_init 0 = .ok (.aload_n 0, 1) := by decide +kernel
theorem dX3_init_1 : decode cX3_init 1 = .ok (.invokespecial 3, 3) := by decide +kernel
theorem dX3_init_4 : decode cX3_init 4 = .ok (.aload_n 0, 1) := by decide +kernel
theorem dX3_init_5 : decode cX3_init 5 = .ok (.bipush 9, 2) := by decide +kernel
theorem dX3_init_7 : decode cX3_init 7 = .ok (.anewarray 11, 3) := by decide +kernel
theorem dX3_init_10 : decode cX3_init 10 = .ok (.putfield 13, 3) := by decide +kernel
theorem dX3_init_13 : decode cX3_init 13 = .ok (.iconst 0, 1) := by decide +kernel
theorem dX3_init_14 : decode cX3_init 14 = .ok (.istore_n 1, 1) := by decide +kernel
theorem dX3_init_15 : decode cX3_init 15 = .ok (.iload_n 1, 1) := by decide +kernel
theorem dX3_init_16 : decode cX3_init 16 = .ok (.bipush 9, 2) := by decide +kernel
theorem dX3_init_18 : decode cX3_init 18 = .ok (.if_icmp .ge 22, 3) := by decide +kernel
theorem dX3_init_21 : decode cX3_init 21 = .ok (.aload_n 0, 1) := by decide +kernel
theorem dX3_init_22 : decode cX3_init 22 = .ok (.getfield 13, 3) := by decide +kernel
theorem dX3_init_25 : decode cX3_init 25 = .ok (.iload_n 1, 1) := by decide +kernel
theorem dX3_init_26 : decode cX3_init 26 = .ok (.new 11, 3) := by decide +kernel
theorem dX3_init_29 : decode cX3_init 29 = .ok (.dup, 1) := by decide +kernel
theorem dX3_init_30 : decode cX3_init 30 = .ok (.invokespecial 17, 3) := by decide +kernel
theorem dX3_init_33 : decode cX3_init 33 = .ok (.aastore, 1) := by decide +kernel
theorem dX3_init_34 : decode cX3_init 34 = .ok (.iinc 1 1, 3) := by decide +kernel
theorem dX3_init_37 : decode cX3_init 37 = .ok (.goto (-22), 3) := by decide +kernel
theorem dX3_init_40 : decode cX3_init 40 = .ok (.return_, 1) := by decide +kernel
theorem ab_k87_0 (K : ab_Kt) : ∀ q ∈ ab_l87_0, ab_OK K ab_mt ab_g87 q.1 q.2 := by
  unfold ab_l87_0
  exact List.forall_mem_cons.mpr ⟨ab_aload_n_ok dX3_init_0 rfl, List.forall_mem_cons.mpr ⟨ab_oini_ok dX3_init_1 (ab_l3 ab_w699 ab_w309 ab_w310), List.forall_mem_cons.mpr ⟨ab_aload_n_ok dX3_init_4 rfl, List.forall_mem_cons.mpr ⟨ab_bipush_ok dX3_init_5 (by decide), List.forall_mem_cons.mpr ⟨ab_newr_ok (C := RX5) dX3_init_7 rfl ab_w700 (by simp), List.forall_mem_cons.mpr ⟨ab_putf_ok (C := RX3) (T := TX3) (N := 3) (ci := 7) (k := 0) (ty0 := tyX3) dX3_init_10 rfl ab_ic7 tyX3_ok nmX3 (by decide) ab_w701 rfl (Or.inr ⟨rfl, rfl, rfl⟩), List.forall_mem_cons.mpr ⟨ab_iconst_ok dX3_init_13 (by decide), List.forall_mem_cons.mpr ⟨ab_istore_n_ok dX3_init_14 rfl, List.forall_mem_cons.mpr ⟨ab_iload_n_ok dX3_init_15 rfl, List.forall_mem_cons.mpr ⟨ab_bipush_ok dX3_init_16 (by decide), List.forall_mem_cons.mpr ⟨ab_icmp_ge_ok dX3_init_18 (by decide), List.forall_mem_cons.mpr ⟨ab_aload_n_ok dX3_init_21 rfl, List.forall_mem_cons.mpr ⟨ab_getf_ok (C := RX3) (T := TX3) (N := 3) (ci := 7) (k := 0) dX3_init_22 rfl ab_ic7 (by decide) ab_w701, List.forall_mem_cons.mpr ⟨ab_iload_n_ok dX3_init_25 rfl, List.forall_mem_cons.mpr ⟨ab_newo_ok (C := RX5) (T := TX5) (N := 10) (ci := 9) (ty0 := tyX5) dX3_init_26 rfl ab_ic9 tyX5_ok (ab_l3 ab_w700 ab_w327 ab_w328) (by decide +kernel) rfl rfl, List.forall_mem_cons.mpr ⟨ab_dup_ok dX3_init_29, List.forall_mem_cons.mpr ⟨ab_callI_ok' (G' := ab_g88) dX3_init_30 ab_m88 rfl (by decide) (by decide) ab_w329 (ab_l3 ab_w702 ab_w331 ab_w328) rfl ⟨rfl, by decide, by decide, by decide +kernel⟩, List.forall_mem_cons.mpr ⟨ab_aast_ok (r0 := (RX5, TX5, 10)) dX3_init_33 rfl rfl, List.forall_mem_cons.mpr ⟨ab_iinc_ok dX3_init_34 (by decide), List.forall_mem_cons.mpr ⟨ab_goto_ok dX3_init_37 (by decide), List.forall_mem_cons.mpr ⟨ab_vret_ok dX3_init_40 rfl, fun _ h => absurd h List.not_mem_nil⟩⟩⟩⟩⟩⟩⟩⟩⟩⟩⟩⟩⟩⟩⟩⟩⟩⟩⟩⟩⟩
theorem ab_k87 (K : ab_Kt) : ∀ pc, ab_OK K ab_mt ab_g87 pc (ab_c87 pc) := ab_lk2_ok _ (List.forall_mem_cons.mpr ⟨ab_k87_0 K, fun _ h => absurd h List.not_mem_nil⟩)
theorem dX5_init_0 : decode cX5_init 0 = .ok (.aload_n 0, 1) := by decide +kernel
theorem dX5_init_1 : decode cX5_init 1 = .ok (.invokespecial 3, 3) := by decide +kernel
theorem dX5_init_4 : decode cX5_init 4 = .ok (.aload_n 0, 1) := by decide +kernel
theorem dX5_init_5 : decode cX5_init 5 = .ok (.bipush 6, 2) := by decide +kernel
theorem dX5_init_7 : decode cX5_init 7 = .ok (.anewarray 9, 3) := by decide +kernel
theorem dX5_init_10 : decode cX5_init 10 = .ok (.putfield 11, 3) := by decide +kernel
theorem dX5_init_13 : decode cX5_init 13 = .ok (.aload_n 0, 1) := by decide +kernel
theorem dX5_init_14 : decode cX5_init 14 = .ok (.iconst 2, 1) := by decide +kernel
theorem dX5_init_15 : decode cX5_init 15 = .ok (.anewarray 17, 3) := by decide +kernel
theorem dX5_init_18 : decode cX5_init 18 = .ok (.putfield 19, 3) := by decide +kernel
theorem dX5_init_21 : decode cX5_init 21 = .ok (.aload_n 0, 1) := by decide +kernel
theorem dX5_init_22 : decode cX5_init 22 = .ok (.bipush 20, 2) := by decide +kernel
theorem dX5_init_24 : decode cX5_init 24 = .ok (.putfield 23, 3) := by decide +kernel
theorem dX5_init_27 : decode cX5_init 27 = .ok (.aload_n 0, 1) := by decide +kernel
theorem dX5_init_28 : decode cX5_init 28 = .ok (.bipush 100, 2) := by decide +kernel
theorem dX5_init_30 : decode cX5_init 30 = .ok (.putfield 27, 3) := by decide +kernel
theorem dX5_init_33 : decode cX5_init 33 = .ok (.iconst 0, 1) := by decide +kernel
theorem dX5_init_34 : decode cX5_init 34 = .ok (.istore_n 1, 1) := by decide +kernel
theorem dX5_init_35 : decode cX5_init 35 = .ok (.iload_n 1, 1) := by decide +kernel
theorem dX5_init_36 : decode cX5_init 36 = .ok (.bipush 6, 2) := by decide +kernel
theorem dX5_init_38 : decode cX5_init 38 = .ok (.if_icmp .ge 22, 3) := by decide +kernel
theorem dX5_init_41 : decode cX5_init 41 = .ok (.aload_n 0, 1) := by decide +kernel
theorem dX5_init_42 : decode cX5_init 42 = .ok (.getfield 11, 3) := by decide +kernel
theorem dX5_init_45 : decode cX5_init 45 = .ok (.iload_n 1, 1) := by decide +kernel
theorem dX5_init_46 : decode cX5_init 46 = .ok (.new 9, 3) := by decide +kernel
theorem dX5_init_49 : decode cX5_init 49 = .ok (.dup, 1) := by decide +kernel
theorem dX5_init_50 : decode cX5_init 50 = .ok (.invokespecial 30, 3) := by decide +kernel
theorem dX5_init_53 : decode cX5_init 53 = .ok (.aastore, 1) := by decide +kernel
theorem dX5_init_54 : decode cX5_init 54 = .ok (.iinc 1 1, 3) := by decide +kernel
theorem dX5_init_57 : decode cX5_init 57 = .ok (.goto (-22), 3) := by decide +kernel
theorem dX5_init_60 : decode cX5_init 60 = .ok (.iconst 0, 1) := by decide +kernel
theorem dX5_init_61 : decode cX5_init 61 = .ok (.istore_n 1, 1) := by decide +kernel
theorem dX5_init_62 : decode cX5_init 62 = .ok (.iload_n 1, 1) := by decide +kernel
theorem dX5_init_63 : decode cX5_init 63 = .ok (.iconst 2, 1) := by decide +kernel
theorem dX5_init_64 : decode cX5_init 64 = .ok (.if_icmp .ge 22, 3) := by decide +kernel
theorem dX5_init_67 : decode cX5_init 67 = .ok (.aload_n 0, 1) := by decide +kernel
theorem dX5_init_68 : decode cX5_init 68 = .ok (.getfield 19, 3) := by decide +kernel
theorem dX5_init_71 : decode cX5_init 71 = .ok (.iload_n 1, 1) := by decide +kernel
theorem dX5_init_72 : decode cX5_init 72 = .ok (.new 17, 3) := by decide +kernel
theorem dX5_init_75 : decode cX5_init 75 = .ok (.dup, 1) := by decide +kernel
theorem ab_k88_0 (K : ab_Kt) : ∀ q ∈ ab_l88_0, ab_OK K ab_mt ab_g88 q.1 q.2 := by
  unfold ab_l88_0
  exact List.forall_mem_cons.mpr ⟨ab_aload_n_ok dX5_init_0 rfl, List.forall_mem_cons.mpr ⟨ab_oini_ok dX5_init_1 (ab_l3 ab_w703 ab_w309 ab_w310), List.forall_mem_cons.mpr ⟨ab_aload_n_ok dX5_init_4 rfl, List.forall_mem_cons.mpr ⟨ab_bipush_ok dX5_init_5 (by decide), List.forall_mem_cons.mpr ⟨ab_newr_ok (C := RX1) dX5_init_7 rfl ab_w704 (by simp), List.forall_mem_cons.mpr ⟨ab_putf_ok (C := RX5) (T := TX5) (N := 10) (ci := 9) (k := 0) (ty0 := tyX5) dX5_init_10 rfl ab_ic9 tyX5_ok nmX5 (by decide) ab_w705 rfl (Or.inr ⟨rfl, rfl, rfl⟩), List.forall_mem_cons.mpr ⟨ab_aload_n_ok dX5_init_13 rfl, List.forall_mem_cons.mpr ⟨ab_iconst_ok dX5_init_14 (by decide), List.forall_mem_cons.mpr ⟨ab_newr_ok (C := RX4) dX5_init_15 rfl ab_w706 (by simp), List.forall_mem_cons.mpr ⟨ab_putf_ok (C := RX5) (T := TX5) (N := 10) (ci := 9) (k := 1) (ty0 := tyX5) dX5_init_18 rfl ab_ic9 tyX5_ok nmX5 (by decide) ab_w707 rfl (Or.inr ⟨rfl, rfl, rfl⟩), List.forall_mem_cons.mpr ⟨ab_aload_n_ok dX5_init_21 rfl, List.forall_mem_cons.mpr ⟨ab_bipush_ok dX5_init_22 (by decide), List.forall_mem_cons.mpr ⟨ab_putf_ok (C := RX5) (T := TX5) (N := 10) (ci := 9) (k := 4) (ty0 := tyX5) dX5_init_24 rfl ab_ic9 tyX5_ok nmX5 (by decide) ab_w708 rfl (Or.inl rfl), List.forall_mem_cons.mpr ⟨ab_aload_n_ok dX5_init_27 rfl, List.forall_mem_cons.mpr ⟨ab_bipush_ok dX5_init_28 (by decide), List.forall_mem_cons.mpr ⟨ab_putf_ok (C := RX5) (T := TX5) (N := 10) (ci := 9) (k := 5) (ty0 := tyX5) dX5_init_30 rfl ab_ic9 tyX5_ok nmX5 (by decide) ab_w709 rfl (Or.inl rfl), List.forall_mem_cons.mpr ⟨ab_iconst_ok dX5_init_33 (by decide), List.forall_mem_cons.mpr ⟨ab_istore_n_ok dX5_init_34 rfl, List.forall_mem_cons.mpr ⟨ab_iload_n_ok dX5_init_35 rfl, List.forall_mem_cons.mpr ⟨ab_bipush_ok dX5_init_36 (by decide), List.forall_mem_cons.mpr ⟨ab_icmp_ge_ok dX5_init_38 (by decide), List.forall_mem_cons.mpr ⟨ab_aload_n_ok dX5_init_41 rfl, List.forall_mem_cons.mpr ⟨ab_getf_ok (C := RX5) (T := TX5) (N := 10) (ci := 9) (k := 0) dX5_init_42 rfl ab_ic9 (by decide) ab_w705, List.forall_mem_cons.mpr ⟨ab_iload_n_ok dX5_init_45 rfl, List.forall_mem_cons.mpr ⟨ab_newo_ok (C := RX1) (T := TX1) (N := 13) (ci := 5) (ty0 := tyX1) dX5_init_46 rfl ab_ic5 tyX1_ok (ab_l3 ab_w704 ab_w710 ab_w711) (by decide +kernel) rfl rfl, List.forall_mem_cons.mpr ⟨ab_dup_ok dX5_init_49, List.forall_mem_cons.mpr ⟨ab_callIN_ok' (G' := ab_g173) (host := "BookBindery") dX5_init_50 ab_m173 rfl (by decide) (by decide) ab_w712 (ab_l2 ab_w713 ab_w711) (by simp [ab_nw]; decide) rfl ⟨rfl, by decide, by decide, by decide +kernel⟩, List.forall_mem_cons.mpr ⟨ab_aast_ok (r0 := (RX1, TX1, 13)) dX5_init_53 rfl rfl, List.forall_mem_cons.mpr ⟨ab_iinc_ok dX5_init_54 (by decide), List.forall_mem_cons.mpr ⟨ab_goto_ok dX5_init_57 (by decide), List.forall_mem_cons.mpr ⟨ab_iconst_ok dX5_init_60 (by decide), List.forall_mem_cons.mpr ⟨ab_istore_n_ok dX5_init_61 rfl, List.forall_mem_cons.mpr ⟨ab_iload_n_ok dX5_init_62 rfl, List.forall_mem_cons.mpr ⟨ab_iconst_ok dX5_init_63 (by decide), List.forall_mem_cons.mpr ⟨ab_icmp_ge_ok dX5_init_64 (by decide), List.forall_mem_cons.mpr ⟨ab_aload_n_ok dX5_init_67 rfl, List.forall_mem_cons.mpr ⟨ab_getf_ok (C := RX5) (T := TX5) (N := 10) (ci := 9) (k := 1) dX5_init_68 rfl ab_ic9 (by decide) ab_w707, List.forall_mem_cons.mpr ⟨ab_iload_n_ok dX5_init_71 rfl, List.forall_mem_cons.mpr ⟨ab_newo_ok (C := RX4) (T := TX4) (N := 2) (ci := 8) (ty0 := tyX4) dX5_init_72 rfl ab_ic8 tyX4_ok (ab_l3 ab_w706 ab_w714 ab_w715) (by decide +kernel) rfl rfl, List.forall_mem_cons.mpr ⟨ab_dup_ok dX5_init_75, fun _ h => absurd h List.not_mem_nil⟩⟩⟩⟩⟩⟩⟩⟩⟩⟩⟩⟩⟩⟩⟩⟩⟩⟩⟩⟩⟩⟩⟩⟩⟩⟩⟩⟩⟩⟩⟩⟩⟩⟩⟩⟩⟩⟩⟩⟩
theorem dX5_init_76 : decode cX5_init 76 = .ok (.invokespecial 31, 3) := by decide +kernel
theorem dX5_init_79 : decode cX5_init 79 = .ok (.aastore, 1) := by decide +kernel
theorem dX5_init_80 : decode cX5_init 80 = .ok (.iinc 1 1, 3) := by decide +kernel
theorem dX5_init_83 : decode cX5_init 83 = .ok (.goto (-21), 3) := by decide +kernel
theorem dX5_init_86 : decode cX5_init 86 = .ok (.return_, 1) := by decide +kernel
theorem ab_k88_1 (K : ab_Kt) : ∀ q ∈ ab_l88_1, ab_OK K ab_mt ab_g88 q.1 q.2 := by
  unfold ab_l88_1
  exact List.forall_mem_cons.mpr ⟨ab_callIN_ok' (G' := ab_g174) (host := "BookBindery") dX5_init_76 ab_m174 rfl (by decide) (by decide) ab_w716 (ab_l2 ab_w717 ab_w715) (by simp [ab_nw]; decide) rfl ⟨rfl, by decide, by decide, by decide +kernel⟩, List.forall_mem_cons.mpr ⟨ab_aast_ok (r0 := (RX4, TX4, 2)) dX5_init_79 rfl rfl, List.forall_mem_cons.mpr ⟨ab_iinc_ok dX5_init_80 (by decide), List.forall_mem_cons.mpr ⟨ab_goto_ok dX5_init_83 (by decide), List.forall_mem_cons.mpr ⟨ab_vret_ok dX5_init_86 rfl, fun _ h => absurd h List.not_mem_nil⟩⟩⟩⟩⟩
theorem ab_k88 (K : ab_Kt) : ∀ pc, ab_OK K ab_mt ab_g88 pc (ab_c88 pc) := ab_lk2_ok _ (List.forall_mem_cons.mpr ⟨ab_k88_0 K, List.forall_mem_cons.mpr ⟨ab_k88_1 K, fun _ h => absurd h List.not_mem_nil⟩⟩)
theorem dX2_init_0 : decode cX2_init 0 = .ok (.aload_n 0, 1) := by decide +kernel
theorem dX2_init_1 : decode cX2_init 1 = .ok (.invokespecial 3, 3) := by decide +kernel
theorem dX2_init_4 : decode cX2_init 4 = .ok (.aload_n 0, 1) := by decide +kernel
theorem dX2_init_5 : decode cX2_init 5 = .ok (.bipush 60, 2) := by decide +kernel
theorem dX2_init_7 : decode cX2_init 7 = .ok (.newarray .char, 2) := by decide +kernel
theorem dX2_init_9 : decode cX2_init 9 = .ok (.putfield 9, 3) := by decide +kernel
theorem dX2_init_12 : decode cX2_init 12 = .ok (.aload_n 0, 1) := by decide +kernel
theorem dX2_init_13 : decode cX2_init 13 = .ok (.iconst 3, 1) := by decide +kernel
theorem dX2_init_14 : decode cX2_init 14 = .ok (.newarray .int, 2) := by decide +kernel
theorem dX2_init_16 : decode cX2_init 16 = .ok (.putfield 15, 3) := by decide +kernel
theorem dX2_init_19 : decode cX2_init 19 = .ok (.return_, 1) := by decide +kernel
theorem ab_k89_0 (K : ab_Kt) : ∀ q ∈ ab_l89_0, ab_OK K ab_mt ab_g89 q.1 q.2 := by
  unfold ab_l89_0
  exact List.forall_mem_cons.mpr ⟨ab_aload_n_ok dX2_init_0 rfl, List.forall_mem_cons.mpr ⟨ab_oini_ok dX2_init_1 (ab_l3 ab_w718 ab_w309 ab_w310), List.forall_mem_cons.mpr ⟨ab_aload_n_ok dX2_init_4 rfl, List.forall_mem_cons.mpr ⟨ab_bipush_ok dX2_init_5 (by decide), List.forall_mem_cons.mpr ⟨ab_newa3_ok dX2_init_7 ab_w356, List.forall_mem_cons.mpr ⟨ab_putf_ok (C := RX2) (T := TX2) (N := 8) (ci := 6) (k := 0) (ty0 := tyX2) dX2_init_9 rfl ab_ic6 tyX2_ok nmX2 (by decide) ab_w719 rfl (Or.inr ⟨rfl, rfl, rfl⟩), List.forall_mem_cons.mpr ⟨ab_aload_n_ok dX2_init_12 rfl, List.forall_mem_cons.mpr ⟨ab_iconst_ok dX2_init_13 (by decide), List.forall_mem_cons.mpr ⟨ab_newa0_ok dX2_init_14 ab_w347, List.forall_mem_cons.mpr ⟨ab_putf_ok (C := RX2) (T := TX2) (N := 8) (ci := 6) (k := 5) (ty0 := tyX2) dX2_init_16 rfl ab_ic6 tyX2_ok nmX2 (by decide) ab_w720 rfl (Or.inr ⟨rfl, rfl, rfl⟩), List.forall_mem_cons.mpr ⟨ab_vret_ok dX2_init_19 rfl, fun _ h => absurd h List.not_mem_nil⟩⟩⟩⟩⟩⟩⟩⟩⟩⟩⟩
theorem ab_k89 (K : ab_Kt) : ∀ pc, ab_OK K ab_mt ab_g89 pc (ab_c89 pc) := ab_lk2_ok _ (List.forall_mem_cons.mpr ⟨ab_k89_0 K, fun _ h => absurd h List.not_mem_nil⟩)
theorem dJ4_init_da8c8_0 : decode cJ4_init_da8c8 0 = .ok (.aload_n 0, 1) := by decide +kernel
theorem dJ4_init_da8c8_1 : decode cJ4_init_da8c8 1 = .ok (.bipush 16, 2) := by decide +kernel
theorem dJ4_init_da8c8_3 : decode cJ4_init_da8c8 3 = .ok (.invokespecial 1, 3) := by decide +kernel
theorem dJ4_init_da8c8_6 : decode cJ4_init_da8c8 6 = .ok (.return_, 1) := by decide +kernel
theorem ab_k90_0 (K : ab_Kt) : ∀ q ∈ ab_l90_0, ab_OK K ab_mt ab_g90 q.1 q.2 := by
  unfold ab_l90_0
  exact List.forall_mem_cons.mpr ⟨ab_aload_n_ok dJ4_init_da8c8_0 rfl, List.forall_mem_cons.mpr ⟨ab_bipush_ok dJ4_init_da8c8_1 (by decide), List.forall_mem_cons.mpr ⟨ab_callI_ok' (G' := ab_g175) dJ4_init_da8c8_3 ab_m175 rfl (by decide) (by decide) ab_w721 (ab_l3 ab_w722 ab_w723 ab_w724) rfl ⟨rfl, by decide, by decide, by decide +kernel⟩, List.forall_mem_cons.mpr ⟨ab_vret_ok dJ4_init_da8c8_6 rfl, fun _ h => absurd h List.not_mem_nil⟩⟩⟩⟩
theorem ab_k90 (K : ab_Kt) : ∀ pc, ab_OK K ab_mt ab_g90 pc (ab_c90 pc) := ab_lk2_ok _ (List.forall_mem_cons.mpr ⟨ab_k90_0 K, fun _ h => absurd h List.not_mem_nil⟩)
theorem dX6_restore_0 : decode cX6_restore 0 = .ok (.aload_n 0, 1) := by decide +kernel
theorem dX6_restore_1 : decode cX6_restore 1 = .ok (.getfield 329, 3) := by decide +kernel
theorem dX6_restore_4 : decode cX6_restore 4 = .ok (.ifCond .ne 11, 3) := by decide +kernel
theorem dX6_restore_7 : decode cX6_restore 7 = .ok (.new 241, 3) := by decide +kernel
theorem dX6_restore_10 : decode cX6_restore 10 = .ok (.dup, 1) := by decide +kernel
theorem dX6_restore_11 : decode cX6_restore 11 = .ok (.invokespecial 243, 3) := by decide +kernel
theorem dX6_restore_14 : decode cX6_restore 14 = .ok (.athrow, 1) := by decide +kernel
theorem dX6_restore_15 : decode cX6_restore 15 = .ok (.aload_n 0, 1) := by decide +kernel
theorem dX6_restore_16 : decode cX6_restore 16 = .ok (.getfield 20, 3) := by decide +kernel
theorem dX6_restore_19 : decode cX6_restore 19 = .ok (.aload_n 0, 1) := by decide +kernel
theorem dX6_restore_20 : decode cX6_restore 20 = .ok (.getfield 31, 3) := by decide +kernel
theorem dX6_restore_23 : decode cX6_restore 23 = .ok (.invokevirtual 326, 3) := by decide +kernel
theorem dX6_restore_26 : decode cX6_restore 26 = .ok (.aload_n 0, 1) := by decide +kernel
theorem dX6_restore_27 : decode cX6_restore 27 = .ok (.getfield 24, 3) := by decide +kernel
theorem dX6_restore_30 : decode cX6_restore 30 = .ok (.invokevirtual 333, 3) := by decide +kernel
theorem dX6_restore_33 : decode cX6_restore 33 = .ok (.aload_n 0, 1) := by decide +kernel
theorem dX6_restore_34 : decode cX6_restore 34 = .ok (.getfield 20, 3) := by decide +kernel
theorem dX6_restore_37 : decode cX6_restore 37 = .ok (.getfield 229, 3) := by decide +kernel
theorem dX6_restore_40 : decode cX6_restore 40 = .ok (.ireturn, 1) := by decide +kernel
theorem ab_k91_0 (K : ab_Kt) : ∀ q ∈ ab_l91_0, ab_OK K ab_mt ab_g91 q.1 q.2 := by
  unfold ab_l91_0
  exact List.forall_mem_cons.mpr ⟨ab_aload_n_ok dX6_restore_0 rfl, List.forall_mem_cons.mpr ⟨ab_getf_ok (C := RX6) (T := TX6) (N := 9) (ci := 10) (k := 4) dX6_restore_1 rfl ab_ic10 (by decide) ab_w377, List.forall_mem_cons.mpr ⟨ab_if_ne_ok dX6_restore_4 (by decide), List.forall_mem_cons.mpr ⟨ab_thr_ok (ik := 241) (ic := 243) (by decide +kernel) (ab_l2 ab_w725 ab_w726) ab_th_0 (by decide +kernel) dX6_restore_7 dX6_restore_10 dX6_restore_11 dX6_restore_14 rfl, List.forall_mem_cons.mpr ⟨ab_aload_n_ok dX6_restore_15 rfl, List.forall_mem_cons.mpr ⟨ab_getf_ok (C := RX6) (T := TX6) (N := 9) (ci := 10) (k := 1) dX6_restore_16 rfl ab_ic10 (by decide) ab_w318, List.forall_mem_cons.mpr ⟨ab_aload_n_ok dX6_restore_19 rfl, List.forall_mem_cons.mpr ⟨ab_getf_ok (C := RX6) (T := TX6) (N := 9) (ci := 10) (k := 3) dX6_restore_20 rfl ab_ic10 (by decide) ab_w332, List.forall_mem_cons.mpr ⟨ab_callV_ok' (G' := ab_g94) (C := RX5) (T := TX5) (N := 10) dX6_restore_23 ab_m94 rfl rfl (by decide) (by decide) (ab_l4 ab_w373 ab_w374 ab_w375 ab_w328) ab_w376 rfl ⟨by decide, by decide, by decide +kernel⟩, List.forall_mem_cons.mpr ⟨ab_aload_n_ok dX6_restore_26 rfl, List.forall_mem_cons.mpr ⟨ab_getf_ok (C := RX6) (T := TX6) (N := 9) (ci := 10) (k := 2) dX6_restore_27 rfl ab_ic10 (by decide) ab_w325, List.forall_mem_cons.mpr ⟨ab_callV_ok' (G' := ab_g176) (C := RX3) (T := TX3) (N := 3) dX6_restore_30 ab_m176 rfl rfl (by decide) (by decide) (ab_l4 ab_w727 ab_w728 ab_w729 ab_w321) ab_w730 rfl ⟨by decide, by decide, by decide +kernel⟩, List.forall_mem_cons.mpr ⟨ab_aload_n_ok dX6_restore_33 rfl, List.forall_mem_cons.mpr ⟨ab_getf_ok (C := RX6) (T := TX6) (N := 9) (ci := 10) (k := 1) dX6_restore_34 rfl ab_ic10 (by decide) ab_w318, List.forall_mem_cons.mpr ⟨ab_getf_ok (C := RX5) (T := TX5) (N := 10) (ci := 9) (k := 2) dX6_restore_37 rfl ab_ic9 (by decide) ab_w378, List.forall_mem_cons.mpr ⟨ab_iret_ok dX6_restore_40 rfl, fun _ h => absurd h List.not_mem_nil⟩⟩⟩⟩⟩⟩⟩⟩⟩⟩⟩⟩⟩⟩⟩⟩
theorem ab_k91 (K : ab_Kt) : ∀ pc, ab_OK K ab_mt ab_g91 pc (ab_c91 pc) := ab_lk2_ok _ (List.forall_mem_cons.mpr ⟨ab_k91_0 K, fun _ h => absurd h List.not_mem_nil⟩)
theorem dX7_fails_0 : decode cX7_fails 0 = .ok (.aload_n 0, 1) := by decide +kernel
theorem dX7_fails_1 : decode cX7_fails 1 = .ok (.iload_n 1, 1) := by decide +kernel
theorem dX7_fails_2 : decode cX7_fails 2 = .ok (.putfield 36, 3) := by decide +kernel
theorem dX7_fails_5 : decode cX7_fails 5 = .ok (.iload_n 1, 1) := by decide +kernel
theorem dX7_fails_6 : decode cX7_fails 6 = .ok (.ifCond .le 7, 3) := by decide +kernel
theorem dX7_fails_9 : decode cX7_fails 9 = .ok (.iconst 1, 1) := by decide +kernel
theorem dX7_fails_10 : decode cX7_fails 10 = .ok (.goto 4, 3) := by decide +kernel
theorem dX7_fails_13 : decode cX7_fails 13 = .ok (.iconst 0, 1) := by decide +kernel
theorem dX7_fails_14 : decode cX7_fails 14 = .ok (.ireturn, 1) := by decide +kernel
theorem ab_k92_0 (K : ab_Kt) : ∀ q ∈ ab_l92_0, ab_OK K ab_mt ab_g92 q.1 q.2 := by
  unfold ab_l92_0
  exact List.forall_mem_cons.mpr ⟨ab_aload_n_ok dX7_fails_0 rfl, List.forall_mem_cons.mpr ⟨ab_iload_n_ok dX7_fails_1 rfl, List.forall_mem_cons.mpr ⟨ab_putf_ok (C := RX7) (T := TX7) (N := 19) (ci := 11) (k := 7) (ty0 := tyX7) dX7_fails_2 rfl ab_ic11 tyX7_ok nmX7 (by decide) ab_w372 rfl (Or.inl rfl), List.forall_mem_cons.mpr ⟨ab_iload_n_ok dX7_fails_5 rfl, List.forall_mem_cons.mpr ⟨ab_if_le_ok dX7_fails_6 (by decide), List.forall_mem_cons.mpr ⟨ab_iconst_ok dX7_fails_9 (by decide), List.forall_mem_cons.mpr ⟨ab_goto_ok dX7_fails_10 (by decide), List.forall_mem_cons.mpr ⟨ab_iconst_ok dX7_fails_13 (by decide), List.forall_mem_cons.mpr ⟨ab_zret_ok dX7_fails_14 rfl, fun _ h => absurd h List.not_mem_nil⟩⟩⟩⟩⟩⟩⟩⟩⟩
theorem ab_k92 (K : ab_Kt) : ∀ pc, ab_OK K ab_mt ab_g92 pc (ab_c92 pc) := ab_lk2_ok _ (List.forall_mem_cons.mpr ⟨ab_k92_0 K, fun _ h => absurd h List.not_mem_nil⟩)
theorem dX7_copies_0 : decode cX7_copies 0 = .ok (.iconst 0, 1) := by decide +kernel
theorem dX7_copies_1 : decode cX7_copies 1 = .ok (.istore 4, 2) := by decide +kernel
theorem dX7_copies_3 : decode cX7_copies 3 = .ok (.iload 4, 2) := by decide +kernel
theorem dX7_copies_5 : decode cX7_copies 5 = .ok (.sipush 322, 3) := by decide +kernel
theorem dX7_copies_8 : decode cX7_copies 8 = .ok (.if_icmp .ge 21, 3) := by decide +kernel
theorem dX7_copies_11 : decode cX7_copies 11 = .ok (.aload_n 2, 1) := by decide +kernel
theorem dX7_copies_12 : decode cX7_copies 12 = .ok (.iload_n 3, 1) := by decide +kernel
theorem dX7_copies_13 : decode cX7_copies 13 = .ok (.iload 4, 2) := by decide +kernel
theorem dX7_copies_15 : decode cX7_copies 15 = .ok (.iadd, 1) := by decide +kernel
theorem dX7_copies_16 : decode cX7_copies 16 = .ok (.aload_n 0, 1) := by decide +kernel
theorem dX7_copies_17 : decode cX7_copies 17 = .ok (.iload_n 1, 1) := by decide +kernel
theorem dX7_copies_18 : decode cX7_copies 18 = .ok (.iload 4, 2) := by decide +kernel
theorem dX7_copies_20 : decode cX7_copies 20 = .ok (.iadd, 1) := by decide +kernel
theorem dX7_copies_21 : decode cX7_copies 21 = .ok (.iaload, 1) := by decide +kernel
theorem dX7_copies_22 : decode cX7_copies 22 = .ok (.iastore, 1) := by decide +kernel
theorem dX7_copies_23 : decode cX7_copies 23 = .ok (.iinc 4 1, 3) := by decide +kernel
theorem dX7_copies_26 : decode cX7_copies 26 = .ok (.goto (-23), 3) := by decide +kernel
theorem dX7_copies_29 : decode cX7_copies 29 = .ok (.return_, 1) := by decide +kernel
theorem ab_k93_0 (K : ab_Kt) : ∀ q ∈ ab_l93_0, ab_OK K ab_mt ab_g93 q.1 q.2 := by
  unfold ab_l93_0
  exact List.forall_mem_cons.mpr ⟨ab_iconst_ok dX7_copies_0 (by decide), List.forall_mem_cons.mpr ⟨ab_istore_ok dX7_copies_1, List.forall_mem_cons.mpr ⟨ab_iload_ok dX7_copies_3, List.forall_mem_cons.mpr ⟨ab_sipush_ok dX7_copies_5 (by decide), List.forall_mem_cons.mpr ⟨ab_icmp_ge_ok dX7_copies_8 (by decide), List.forall_mem_cons.mpr ⟨ab_aload_n_ok dX7_copies_11 rfl, List.forall_mem_cons.mpr ⟨ab_iload_n_ok dX7_copies_12 rfl, List.forall_mem_cons.mpr ⟨ab_iload_ok dX7_copies_13, List.forall_mem_cons.mpr ⟨ab_iadd_ok dX7_copies_15, List.forall_mem_cons.mpr ⟨ab_aload_n_ok dX7_copies_16 rfl, List.forall_mem_cons.mpr ⟨ab_iload_n_ok dX7_copies_17 rfl, List.forall_mem_cons.mpr ⟨ab_iload_ok dX7_copies_18, List.forall_mem_cons.mpr ⟨ab_iadd_ok dX7_copies_20, List.forall_mem_cons.mpr ⟨ab_ald0_ok dX7_copies_21, List.forall_mem_cons.mpr ⟨ab_ast0_ok dX7_copies_22, List.forall_mem_cons.mpr ⟨ab_iinc_ok dX7_copies_23 (by decide), List.forall_mem_cons.mpr ⟨ab_goto_ok dX7_copies_26 (by decide), List.forall_mem_cons.mpr ⟨ab_vret_ok dX7_copies_29 rfl, fun _ h => absurd h List.not_mem_nil⟩⟩⟩⟩⟩⟩⟩⟩⟩⟩⟩⟩⟩⟩⟩⟩⟩⟩
theorem ab_k93 (K : ab_Kt) : ∀ pc, ab_OK K ab_mt ab_g93 pc (ab_c93 pc) := ab_lk2_ok _ (List.forall_mem_cons.mpr ⟨ab_k93_0 K, fun _ h => absurd h List.not_mem_nil⟩)
theorem dX5_copyFrom_0 : decode cX5_copyFrom 0 = .ok (.iconst 0, 1) := by decide +kernel
theorem dX5_copyFrom_1 : decode cX5_copyFrom 1 = .ok (.istore_n 2, 1) := by decide +kernel
theorem dX5_copyFrom_2 : decode cX5_copyFrom 2 = .ok (.iload_n 2, 1) := by decide +kernel
theorem dX5_copyFrom_3 : decode cX5_copyFrom 3 = .ok (.bipush 6, 2) := by decide +kernel
theorem dX5_copyFrom_5 : decode cX5_copyFrom 5 = .ok (.if_icmp .ge 24, 3) := by decide +kernel
theorem dX5_copyFrom_8 : decode cX5_copyFrom 8 = .ok (.aload_n 0, 1) := by decide +kernel
theorem dX5_copyFrom_9 : decode cX5_copyFrom 9 = .ok (.getfield 11, 3) := by decide +kernel
theorem dX5_copyFrom_12 : decode cX5_copyFrom 12 = .ok (.iload_n 2, 1) := by decide +kernel
theorem dX5_copyFrom_13 : decode cX5_copyFrom 13 = .ok (.aaload, 1) := by decide +kernel
theorem dX5_copyFrom_14 : decode cX5_copyFrom 14 = .ok (.aload_n 1, 1) := by decide +kernel
theorem dX5_copyFrom_15 : decode cX5_copyFrom 15 = .ok (.getfield 11, 3) := by decide +kernel
theorem dX5_copyFrom_18 : decode cX5_copyFrom 18 = .ok (.iload_n 2, 1) := by decide +kernel
theorem dX5_copyFrom_19 : decode cX5_copyFrom 19 = .ok (.aaload, 1) := by decide +kernel
theorem dX5_copyFrom_20 : decode cX5_copyFrom 20 = .ok (.invokevirtual 32, 3) := by decide +kernel
theorem dX5_copyFrom_23 : decode cX5_copyFrom 23 = .ok (.iinc 2 1, 3) := by decide +kernel
theorem dX5_copyFrom_26 : decode cX5_copyFrom 26 = .ok (.goto (-24), 3) := by decide +kernel
theorem dX5_copyFrom_29 : decode cX5_copyFrom 29 = .ok (.iconst 0, 1) := by decide +kernel
theorem dX5_copyFrom_30 : decode cX5_copyFrom 30 = .ok (.istore_n 2, 1) := by decide +kernel
theorem dX5_copyFrom_31 : decode cX5_copyFrom 31 = .ok (.iload_n 2, 1) := by decide +kernel
theorem dX5_copyFrom_32 : decode cX5_copyFrom 32 = .ok (.iconst 2, 1) := by decide +kernel
theorem dX5_copyFrom_33 : decode cX5_copyFrom 33 = .ok (.if_icmp .ge 24, 3) := by decide +kernel
theorem dX5_copyFrom_36 : decode cX5_copyFrom 36 = .ok (.aload_n 0, 1) := by decide +kernel
theorem dX5_copyFrom_37 : decode cX5_copyFrom 37 = .ok (.getfield 19, 3) := by decide +kernel
theorem dX5_copyFrom_40 : decode cX5_copyFrom 40 = .ok (.iload_n 2, 1) := by decide +kernel
theorem dX5_copyFrom_41 : decode cX5_copyFrom 41 = .ok (.aaload, 1) := by decide +kernel
theorem dX5_copyFrom_42 : decode cX5_copyFrom 42 = .ok (.aload_n 1, 1) := by decide +kernel
theorem dX5_copyFrom_43 : decode cX5_copyFrom 43 = .ok (.getfield 19, 3) := by decide +kernel
theorem dX5_copyFrom_46 : decode cX5_copyFrom 46 = .ok (.iload_n 2, 1) := by decide +kernel
theorem dX5_copyFrom_47 : decode cX5_copyFrom 47 = .ok (.aaload, 1) := by decide +kernel
theorem dX5_copyFrom_48 : decode cX5_copyFrom 48 = .ok (.invokevirtual 36, 3) := by decide +kernel
theorem dX5_copyFrom_51 : decode cX5_copyFrom 51 = .ok (.iinc 2 1, 3) := by decide +kernel
theorem dX5_copyFrom_54 : decode cX5_copyFrom 54 = .ok (.goto (-23), 3) := by decide +kernel
theorem dX5_copyFrom_57 : decode cX5_copyFrom 57 = .ok (.aload_n 0, 1) := by decide +kernel
theorem dX5_copyFrom_58 : decode cX5_copyFrom 58 = .ok (.aload_n 1, 1) := by decide +kernel
theorem dX5_copyFrom_59 : decode cX5_copyFrom 59 = .ok (.getfield 39, 3) := by decide +kernel
theorem dX5_copyFrom_62 : decode cX5_copyFrom 62 = .ok (.putfield 39, 3) := by decide +kernel
theorem dX5_copyFrom_65 : decode cX5_copyFrom 65 = .ok (.aload_n 0, 1) := by decide +kernel
theorem dX5_copyFrom_66 : decode cX5_copyFrom 66 = .ok (.aload_n 1, 1) := by decide +kernel
theorem dX5_copyFrom_67 : decode cX5_copyFrom 67 = .ok (.getfield 42, 3) := by decide +kernel
theorem dX5_copyFrom_70 : decode cX5_copyFrom 70 = .ok (.putfield 42, 3) := by decide +kernel
theorem ab_k94_0 (K : ab_Kt) : ∀ q ∈ ab_l94_0, ab_OK K ab_mt ab_g94 q.1 q.2 := by
  unfold ab_l94_0
  exact List.forall_mem_cons.mpr ⟨ab_iconst_ok dX5_copyFrom_0 (by decide), List.forall_mem_cons.mpr ⟨ab_istore_n_ok dX5_copyFrom_1 rfl, List.forall_mem_cons.mpr ⟨ab_iload_n_ok dX5_copyFrom_2 rfl, List.forall_mem_cons.mpr ⟨ab_bipush_ok dX5_copyFrom_3 (by decide), List.forall_mem_cons.mpr ⟨ab_icmp_ge_ok dX5_copyFrom_5 (by decide), List.forall_mem_cons.mpr ⟨ab_aload_n_ok dX5_copyFrom_8 rfl, List.forall_mem_cons.mpr ⟨ab_getf_ok (C := RX5) (T := TX5) (N := 10) (ci := 9) (k := 0) dX5_copyFrom_9 rfl ab_ic9 (by decide) ab_w705, List.forall_mem_cons.mpr ⟨ab_iload_n_ok dX5_copyFrom_12 rfl, List.forall_mem_cons.mpr ⟨ab_aald_ok dX5_copyFrom_13 rfl, List.forall_mem_cons.mpr ⟨ab_aload_n_ok dX5_copyFrom_14 rfl, List.forall_mem_cons.mpr ⟨ab_getf_ok (C := RX5) (T := TX5) (N := 10) (ci := 9) (k := 0) dX5_copyFrom_15 rfl ab_ic9 (by decide) ab_w705, List.forall_mem_cons.mpr ⟨ab_iload_n_ok dX5_copyFrom_18 rfl, List.forall_mem_cons.mpr ⟨ab_aald_ok dX5_copyFrom_19 rfl, List.forall_mem_cons.mpr ⟨ab_callV_ok' (G' := ab_g177) (C := RX1) (T := TX1) (N := 13) dX5_copyFrom_20 ab_m177 rfl rfl (by decide) (by decide) (ab_l4 ab_w731 ab_w732 ab_w733 ab_w711) ab_w734 rfl ⟨by decide, by decide, by decide +kernel⟩, List.forall_mem_cons.mpr ⟨ab_iinc_ok dX5_copyFrom_23 (by decide), List.forall_mem_cons.mpr ⟨ab_goto_ok dX5_copyFrom_26 (by decide), List.forall_mem_cons.mpr ⟨ab_iconst_ok dX5_copyFrom_29 (by decide), List.forall_mem_cons.mpr ⟨ab_istore_n_ok dX5_copyFrom_30 rfl, List.forall_mem_cons.mpr ⟨ab_iload_n_ok dX5_copyFrom_31 rfl, List.forall_mem_cons.mpr ⟨ab_iconst_ok dX5_copyFrom_32 (by decide), List.forall_mem_cons.mpr ⟨ab_icmp_ge_ok dX5_copyFrom_33 (by decide), List.forall_mem_cons.mpr ⟨ab_aload_n_ok dX5_copyFrom_36 rfl, List.forall_mem_cons.mpr ⟨ab_getf_ok (C := RX5) (T := TX5) (N := 10) (ci := 9) (k := 1) dX5_copyFrom_37 rfl ab_ic9 (by decide) ab_w707, List.forall_mem_cons.mpr ⟨ab_iload_n_ok dX5_copyFrom_40 rfl, List.forall_mem_cons.mpr ⟨ab_aald_ok dX5_copyFrom_41 rfl, List.forall_mem_cons.mpr ⟨ab_aload_n_ok dX5_copyFrom_42 rfl, List.forall_mem_cons.mpr ⟨ab_getf_ok (C := RX5) (T := TX5) (N := 10) (ci := 9) (k := 1) dX5_copyFrom_43 rfl ab_ic9 (by decide) ab_w707, List.forall_mem_cons.mpr ⟨ab_iload_n_ok dX5_copyFrom_46 rfl, List.forall_mem_cons.mpr ⟨ab_aald_ok dX5_copyFrom_47 rfl, List.forall_mem_cons.mpr ⟨ab_callV_ok' (G' := ab_g178) (C := RX4) (T := TX4) (N := 2) dX5_copyFrom_48 ab_m178 rfl rfl (by decide) (by decide) (ab_l4 ab_w735 ab_w736 ab_w737 ab_w715) ab_w738 rfl ⟨by decide, by decide, by decide +kernel⟩, List.forall_mem_cons.mpr ⟨ab_iinc_ok dX5_copyFrom_51 (by decide), List.forall_mem_cons.mpr ⟨ab_goto_ok dX5_copyFrom_54 (by decide), List.forall_mem_cons.mpr ⟨ab_aload_n_ok dX5_copyFrom_57 rfl, List.forall_mem_cons.mpr ⟨ab_aload_n_ok dX5_copyFrom_58 rfl, List.forall_mem_cons.mpr ⟨ab_getf_ok (C := RX5) (T := TX5) (N := 10) (ci := 9) (k := 2) dX5_copyFrom_59 rfl ab_ic9 (by decide) ab_w739, List.forall_mem_cons.mpr ⟨ab_putf_ok (C := RX5) (T := TX5) (N := 10) (ci := 9) (k := 2) (ty0 := tyX5) dX5_copyFrom_62 rfl ab_ic9 tyX5_ok nmX5 (by decide) ab_w739 rfl (Or.inl rfl), List.forall_mem_cons.mpr ⟨ab_aload_n_ok dX5_copyFrom_65 rfl, List.forall_mem_cons.mpr ⟨ab_aload_n_ok dX5_copyFrom_66 rfl, List.forall_mem_cons.mpr ⟨ab_getf_ok (C := RX5) (T := TX5) (N := 10) (ci := 9) (k := 3) dX5_copyFrom_67 rfl ab_ic9 (by decide) ab_w740, List.forall_mem_cons.mpr ⟨ab_putf_ok (C := RX5) (T := TX5) (N := 10) (ci := 9) (k := 3) (ty0 := tyX5) dX5_copyFrom_70 rfl ab_ic9 tyX5_ok nmX5 (by decide) ab_w740 rfl (Or.inl rfl), fun _ h => absurd h List.not_mem_nil⟩⟩⟩⟩⟩⟩⟩⟩⟩⟩⟩⟩⟩⟩⟩⟩⟩⟩⟩⟩⟩⟩⟩⟩⟩⟩⟩⟩⟩⟩⟩⟩⟩⟩⟩⟩⟩⟩⟩⟩
theorem dX5_copyFrom_73 : decode cX5_copyFrom 73 = .ok (.aload_n 0, 1) := by decide +kernel
theorem dX5_copyFrom_74 : decode cX5_copyFrom 74 = .ok (.aload_n 1, 1) := by decide +kernel
theorem dX5_copyFrom_75 : decode cX5_copyFrom 75 = .ok (.getfield 23, 3) := by decide +kernel
theorem dX5_copyFrom_78 : decode cX5_copyFrom 78 = .ok (.putfield 23, 3) := by decide +kernel
theorem dX5_copyFrom_81 : decode cX5_copyFrom 81 = .ok (.aload_n 0, 1) := by decide +kernel
theorem dX5_copyFrom_82 : decode cX5_copyFrom 82 = .ok (.aload_n 1, 1) := by decide +kernel
theorem dX5_copyFrom_83 : decode cX5_copyFrom 83 = .ok (.getfield 27, 3) := by decide +kernel
theorem dX5_copyFrom_86 : decode cX5_copyFrom 86 = .ok (.putfield 27, 3) := by decide +kernel
theorem dX5_copyFrom_89 : decode cX5_copyFrom 89 = .ok (.aload_n 0, 1) := by decide +kernel
theorem dX5_copyFrom_90 : decode cX5_copyFrom 90 = .ok (.aload_n 1, 1) := by decide +kernel
theorem dX5_copyFrom_91 : decode cX5_copyFrom 91 = .ok (.getfield 45, 3) := by decide +kernel
theorem dX5_copyFrom_94 : decode cX5_copyFrom 94 = .ok (.putfield 45, 3) := by decide +kernel
theorem dX5_copyFrom_97 : decode cX5_copyFrom 97 = .ok (.aload_n 0, 1) := by decide +kernel
theorem dX5_copyFrom_98 : decode cX5_copyFrom 98 = .ok (.aload_n 1, 1) := by decide +kernel
theorem dX5_copyFrom_99 : decode cX5_copyFrom 99 = .ok (.getfield 48, 3) := by decide +kernel
theorem dX5_copyFrom_102 : decode cX5_copyFrom 102 = .ok (.putfield 48, 3) := by decide +kernel
theorem dX5_copyFrom_105 : decode cX5_copyFrom 105 = .ok (.aload_n 0, 1) := by decide +kernel
theorem dX5_copyFrom_106 : decode cX5_copyFrom 106 = .ok (.aload_n 1, 1) := by decide +kernel
theorem dX5_copyFrom_107 : decode cX5_copyFrom 107 = .ok (.getfield 51, 3) := by decide +kernel
theorem dX5_copyFrom_110 : decode cX5_copyFrom 110 = .ok (.putfield 51, 3) := by decide +kernel
theorem dX5_copyFrom_113 : decode cX5_copyFrom 113 = .ok (.aload_n 0, 1) := by decide +kernel
theorem dX5_copyFrom_114 : decode cX5_copyFrom 114 = .ok (.aload_n 1, 1) := by decide +kernel
theorem dX5_copyFrom_115 : decode cX5_copyFrom 115 = .ok (.getfield 54, 3) := by decide +kernel
theorem dX5_copyFrom_118 : decode cX5_copyFrom 118 = .ok (.putfield 54, 3) := by decide +kernel
theorem dX5_copyFrom_121 : decode cX5_copyFrom 121 = .ok (.return_, 1) := by decide +kernel
theorem ab_k94_1 (K : ab_Kt) : ∀ q ∈ ab_l94_1, ab_OK K ab_mt ab_g94 q.1 q.2 := by
  unfold ab_l94_1
  exact List.forall_mem_cons.mpr ⟨ab_aload_n_ok dX5_copyFrom_73 rfl, List.forall_mem_cons.mpr ⟨ab_aload_n_ok dX5_copyFrom_74 rfl, List.forall_mem_cons.mpr ⟨ab_getf_ok (C := RX5) (T := TX5) (N := 10) (ci := 9) (k := 4) dX5_copyFrom_75 rfl ab_ic9 (by decide) ab_w708, List.forall_mem_cons.mpr ⟨ab_putf_ok (C := RX5) (T := TX5) (N := 10) (ci := 9) (k := 4) (ty0 := tyX5) dX5_copyFrom_78 rfl ab_ic9 tyX5_ok nmX5 (by decide) ab_w708 rfl (Or.inl rfl), List.forall_mem_cons.mpr ⟨ab_aload_n_ok dX5_copyFrom_81 rfl, List.forall_mem_cons.mpr ⟨ab_aload_n_ok dX5_copyFrom_82 rfl, List.forall_mem_cons.mpr ⟨ab_getf_ok (C := RX5) (T := TX5) (N := 10) (ci := 9) (k := 5) dX5_copyFrom_83 rfl ab_ic9 (by decide) ab_w709, List.forall_mem_cons.mpr ⟨ab_putf_ok (C := RX5) (T := TX5) (N := 10) (ci := 9) (k := 5) (ty0 := tyX5) dX5_copyFrom_86 rfl ab_ic9 tyX5_ok nmX5 (by decide) ab_w709 rfl (Or.inl rfl), List.forall_mem_cons.mpr ⟨ab_aload_n_ok dX5_copyFrom_89 rfl, List.forall_mem_cons.mpr ⟨ab_aload_n_ok dX5_copyFrom_90 rfl, List.forall_mem_cons.mpr ⟨ab_getf_ok (C := RX5) (T := TX5) (N := 10) (ci := 9) (k := 6) dX5_copyFrom_91 rfl ab_ic9 (by decide) ab_w741, List.forall_mem_cons.mpr ⟨ab_putf_ok (C := RX5) (T := TX5) (N := 10) (ci := 9) (k := 6) (ty0 := tyX5) dX5_copyFrom_94 rfl ab_ic9 tyX5_ok nmX5 (by decide) ab_w741 rfl (Or.inl rfl), List.forall_mem_cons.mpr ⟨ab_aload_n_ok dX5_copyFrom_97 rfl, List.forall_mem_cons.mpr ⟨ab_aload_n_ok dX5_copyFrom_98 rfl, List.forall_mem_cons.mpr ⟨ab_getf_ok (C := RX5) (T := TX5) (N := 10) (ci := 9) (k := 7) dX5_copyFrom_99 rfl ab_ic9 (by decide) ab_w742, List.forall_mem_cons.mpr ⟨ab_putf_ok (C := RX5) (T := TX5) (N := 10) (ci := 9) (k := 7) (ty0 := tyX5) dX5_copyFrom_102 rfl ab_ic9 tyX5_ok nmX5 (by decide) ab_w742 rfl (Or.inl rfl), List.forall_mem_cons.mpr ⟨ab_aload_n_ok dX5_copyFrom_105 rfl, List.forall_mem_cons.mpr ⟨ab_aload_n_ok dX5_copyFrom_106 rfl, List.forall_mem_cons.mpr ⟨ab_getf_ok (C := RX5) (T := TX5) (N := 10) (ci := 9) (k := 8) dX5_copyFrom_107 rfl ab_ic9 (by decide) ab_w743, List.forall_mem_cons.mpr ⟨ab_putf_ok (C := RX5) (T := TX5) (N := 10) (ci := 9) (k := 8) (ty0 := tyX5) dX5_copyFrom_110 rfl ab_ic9 tyX5_ok nmX5 (by decide) ab_w743 rfl (Or.inl rfl), List.forall_mem_cons.mpr ⟨ab_aload_n_ok dX5_copyFrom_113 rfl, List.forall_mem_cons.mpr ⟨ab_aload_n_ok dX5_copyFrom_114 rfl, List.forall_mem_cons.mpr ⟨ab_getf_ok (C := RX5) (T := TX5) (N := 10) (ci := 9) (k := 9) dX5_copyFrom_115 rfl ab_ic9 (by decide) ab_w744, List.forall_mem_cons.mpr ⟨ab_putf_ok (C := RX5) (T := TX5) (N := 10) (ci := 9) (k := 9) (ty0 := tyX5) dX5_copyFrom_118 rfl ab_ic9 tyX5_ok nmX5 (by decide) ab_w744 rfl (Or.inl rfl), List.forall_mem_cons.mpr ⟨ab_vret_ok dX5_copyFrom_121 rfl, fun _ h => absurd h List.not_mem_nil⟩⟩⟩⟩⟩⟩⟩⟩⟩⟩⟩⟩⟩⟩⟩⟩⟩⟩⟩⟩⟩⟩⟩⟩⟩
theorem ab_k94 (K : ab_Kt) : ∀ pc, ab_OK K ab_mt ab_g94 pc (ab_c94 pc) := ab_lk2_ok _ (List.forall_mem_cons.mpr ⟨ab_k94_0 K, List.forall_mem_cons.mpr ⟨ab_k94_1 K, fun _ h => absurd h List.not_mem_nil⟩⟩)
theorem dX6_undo_0 : decode cX6_undo 0 = .ok (.aload_n 0, 1) := by decide +kernel
theorem dX6_undo_1 : decode cX6_undo 1 = .ok (.getfield 24, 3) := by decide +kernel
theorem dX6_undo_4 : decode cX6_undo 4 = .ok (.getfield 320, 3) := by decide +kernel
theorem dX6_undo_7 : decode cX6_undo 7 = .ok (.ifCond .ne 11, 3) := by decide +kernel
theorem dX6_undo_10 : decode cX6_undo 10 = .ok (.new 241, 3) := by decide +kernel
theorem dX6_undo_13 : decode cX6_undo 13 = .ok (.dup, 1) := by decide +kernel
theorem dX6_undo_14 : decode cX6_undo 14 = .ok (.invokespecial 243, 3) := by decide +kernel
theorem dX6_undo_17 : decode cX6_undo 17 = .ok (.athrow, 1) := by decide +kernel
theorem dX6_undo_18 : decode cX6_undo 18 = .ok (.aload_n 0, 1) := by decide +kernel
theorem dX6_undo_19 : decode cX6_undo 19 = .ok (.getfield 24, 3) := by decide +kernel
theorem dX6_undo_22 : decode cX6_undo 22 = .ok (.aload_n 0, 1) := by decide +kernel
theorem dX6_undo_23 : decode cX6_undo 23 = .ok (.getfield 20, 3) := by decide +kernel
theorem dX6_undo_26 : decode cX6_undo 26 = .ok (.invokevirtual 323, 3) := by decide +kernel
theorem dX6_undo_29 : decode cX6_undo 29 = .ok (.aload_n 0, 1) := by decide +kernel
theorem dX6_undo_30 : decode cX6_undo 30 = .ok (.getfield 24, 3) := by decide +kernel
theorem dX6_undo_33 : decode cX6_undo 33 = .ok (.getfield 320, 3) := by decide +kernel
theorem dX6_undo_36 : decode cX6_undo 36 = .ok (.ireturn, 1) := by decide +kernel
theorem ab_k95_0 (K : ab_Kt) : ∀ q ∈ ab_l95_0, ab_OK K ab_mt ab_g95 q.1 q.2 := by
  unfold ab_l95_0
  exact List.forall_mem_cons.mpr ⟨ab_aload_n_ok dX6_undo_0 rfl, List.forall_mem_cons.mpr ⟨ab_getf_ok (C := RX6) (T := TX6) (N := 9) (ci := 10) (k := 2) dX6_undo_1 rfl ab_ic10 (by decide) ab_w325, List.forall_mem_cons.mpr ⟨ab_getf_ok (C := RX3) (T := TX3) (N := 3) (ci := 7) (k := 2) dX6_undo_4 rfl ab_ic7 (by decide) ab_w745, List.forall_mem_cons.mpr ⟨ab_if_ne_ok dX6_undo_7 (by decide), List.forall_mem_cons.mpr ⟨ab_thr_ok (ik := 241) (ic := 243) (by decide +kernel) (ab_l2 ab_w725 ab_w726) ab_th_0 (by decide +kernel) dX6_undo_10 dX6_undo_13 dX6_undo_14 dX6_undo_17 rfl, List.forall_mem_cons.mpr ⟨ab_aload_n_ok dX6_undo_18 rfl, List.forall_mem_cons.mpr ⟨ab_getf_ok (C := RX6) (T := TX6) (N := 9) (ci := 10) (k := 2) dX6_undo_19 rfl ab_ic10 (by decide) ab_w325, List.forall_mem_cons.mpr ⟨ab_aload_n_ok dX6_undo_22 rfl, List.forall_mem_cons.mpr ⟨ab_getf_ok (C := RX6) (T := TX6) (N := 9) (ci := 10) (k := 1) dX6_undo_23 rfl ab_ic10 (by decide) ab_w318, List.forall_mem_cons.mpr ⟨ab_callV_ok' (G' := ab_g179) (C := RX3) (T := TX3) (N := 3) dX6_undo_26 ab_m179 rfl rfl (by decide) (by decide) (ab_l4 ab_w746 ab_w747 ab_w748 ab_w321) ab_w749 rfl ⟨by decide, by decide, by decide +kernel⟩, List.forall_mem_cons.mpr ⟨ab_aload_n_ok dX6_undo_29 rfl, List.forall_mem_cons.mpr ⟨ab_getf_ok (C := RX6) (T := TX6) (N := 9) (ci := 10) (k := 2) dX6_undo_30 rfl ab_ic10 (by decide) ab_w325, List.forall_mem_cons.mpr ⟨ab_getf_ok (C := RX3) (T := TX3) (N := 3) (ci := 7) (k := 2) dX6_undo_33 rfl ab_ic7 (by decide) ab_w745, List.forall_mem_cons.mpr ⟨ab_iret_ok dX6_undo_36 rfl, fun _ h => absurd h List.not_mem_nil⟩⟩⟩⟩⟩⟩⟩⟩⟩⟩⟩⟩⟩⟩
theorem ab_k95 (K : ab_Kt) : ∀ pc, ab_OK K ab_mt ab_g95 pc (ab_c95 pc) := ab_lk2_ok _ (List.forall_mem_cons.mpr ⟨ab_k95_0 K, fun _ h => absurd h List.not_mem_nil⟩)
theorem dX6_account_0 : decode cX6_account 0 = .ok (.iload_n 1, 1) := by decide +kernel
theorem dX6_account_1 : decode cX6_account 1 = .ok (.tableswitch 173 0 12 #[67, 75, 83, 91, 99, 108, 117, 125, 133, 141, 149, 157, 165], 67) := by decide +kernel
theorem dX6_account_68 : decode cX6_account 68 = .ok (.aload_n 0, 1) := by decide +kernel
theorem dX6_account_69 : decode cX6_account 69 = .ok (.getfield 20, 3) := by decide +kernel
theorem dX6_account_72 : decode cX6_account 72 = .ok (.getfield 296, 3) := by decide +kernel
theorem dX6_account_75 : decode cX6_account 75 = .ok (.ireturn, 1) := by decide +kernel
theorem dX6_account_76 : decode cX6_account 76 = .ok (.aload_n 0, 1) := by decide +kernel
theorem dX6_account_77 : decode cX6_account 77 = .ok (.getfield 20, 3) := by decide +kernel
theorem dX6_account_80 : decode cX6_account 80 = .ok (.getfield 299, 3) := by decide +kernel
theorem dX6_account_83 : decode cX6_account 83 = .ok (.ireturn, 1) := by decide +kernel
theorem dX6_account_84 : decode cX6_account 84 = .ok (.aload_n 0, 1) := by decide +kernel
theorem dX6_account_85 : decode cX6_account 85 = .ok (.getfield 20, 3) := by decide +kernel
theorem dX6_account_88 : decode cX6_account 88 = .ok (.getfield 302, 3) := by decide +kernel
theorem dX6_account_91 : decode cX6_account 91 = .ok (.ireturn, 1) := by decide +kernel
theorem dX6_account_92 : decode cX6_account 92 = .ok (.aload_n 0, 1) := by decide +kernel
theorem dX6_account_93 : decode cX6_account 93 = .ok (.getfield 20, 3) := by decide +kernel
theorem dX6_account_96 : decode cX6_account 96 = .ok (.getfield 229, 3) := by decide +kernel
theorem dX6_account_99 : decode cX6_account 99 = .ok (.ireturn, 1) := by decide +kernel
theorem dX6_account_100 : decode cX6_account 100 = .ok (.aload_n 0, 1) := by decide +kernel
theorem dX6_account_101 : decode cX6_account 101 = .ok (.getfield 20, 3) := by decide +kernel
theorem dX6_account_104 : decode cX6_account 104 = .ok (.iconst 2, 1) := by decide +kernel
theorem dX6_account_105 : decode cX6_account 105 = .ok (.invokevirtual 305, 3) := by decide +kernel
theorem dX6_account_108 : decode cX6_account 108 = .ok (.ireturn, 1) := by decide +kernel
theorem dX6_account_109 : decode cX6_account 109 = .ok (.aload_n 0, 1) := by decide +kernel
theorem dX6_account_110 : decode cX6_account 110 = .ok (.getfield 20, 3) := by decide +kernel
theorem dX6_account_113 : decode cX6_account 113 = .ok (.iconst 4, 1) := by decide +kernel
theorem dX6_account_114 : decode cX6_account 114 = .ok (.invokevirtual 305, 3) := by decide +kernel
theorem dX6_account_117 : decode cX6_account 117 = .ok (.ireturn, 1) := by decide +kernel
theorem dX6_account_118 : decode cX6_account 118 = .ok (.aload_n 0, 1) := by decide +kernel
theorem dX6_account_119 : decode cX6_account 119 = .ok (.getfield 20, 3) := by decide +kernel
theorem dX6_account_122 : decode cX6_account 122 = .ok (.invokevirtual 293, 3) := by decide +kernel
theorem dX6_account_125 : decode cX6_account 125 = .ok (.ireturn, 1) := by decide +kernel
theorem dX6_account_126 : decode cX6_account 126 = .ok (.aload_n 0, 1) := by decide +kernel
theorem dX6_account_127 : decode cX6_account 127 = .ok (.getfield 20, 3) := by decide +kernel
theorem dX6_account_130 : decode cX6_account 130 = .ok (.getfield 308, 3) := by decide +kernel
theorem dX6_account_133 : decode cX6_account 133 = .ok (.ireturn, 1) := by decide +kernel
theorem dX6_account_134 : decode cX6_account 134 = .ok (.aload_n 0, 1) := by decide +kernel
theorem dX6_account_135 : decode cX6_account 135 = .ok (.getfield 20, 3) := by decide +kernel
theorem dX6_account_138 : decode cX6_account 138 = .ok (.getfield 311, 3) := by decide +kernel
theorem dX6_account_141 : decode cX6_account 141 = .ok (.ireturn, 1) := by decide +kernel
theorem ab_k96_0 (K : ab_Kt) : ∀ q ∈ ab_l96_0, ab_OK K ab_mt ab_g96 q.1 q.2 := by
  unfold ab_l96_0
  exact List.forall_mem_cons.mpr ⟨ab_iload_n_ok dX6_account_0 rfl, List.forall_mem_cons.mpr ⟨ab_tsw_ok dX6_account_1 (by decide) (by decide) (by decide), List.forall_mem_cons.mpr ⟨ab_aload_n_ok dX6_account_68 rfl, List.forall_mem_cons.mpr ⟨ab_getf_ok (C := RX6) (T := TX6) (N := 9) (ci := 10) (k := 1) dX6_account_69 rfl ab_ic10 (by decide) ab_w318, List.forall_mem_cons.mpr ⟨ab_getf_ok (C := RX5) (T := TX5) (N := 10) (ci := 9) (k := 3) dX6_account_72 rfl ab_ic9 (by decide) ab_w767, List.forall_mem_cons.mpr ⟨ab_iret_ok dX6_account_75 rfl, List.forall_mem_cons.mpr ⟨ab_aload_n_ok dX6_account_76 rfl, List.forall_mem_cons.mpr ⟨ab_getf_ok (C := RX6) (T := TX6) (N := 9) (ci := 10) (k := 1) dX6_account_77 rfl ab_ic10 (by decide) ab_w318, List.forall_mem_cons.mpr ⟨ab_getf_ok (C := RX5) (T := TX5) (N := 10) (ci := 9) (k := 4) dX6_account_80 rfl ab_ic9 (by decide) ab_w766, List.forall_mem_cons.mpr ⟨ab_iret_ok dX6_account_83 rfl, List.forall_mem_cons.mpr ⟨ab_aload_n_ok dX6_account_84 rfl, List.forall_mem_cons.mpr ⟨ab_getf_ok (C := RX6) (T := TX6) (N := 9) (ci := 10) (k := 1) dX6_account_85 rfl ab_ic10 (by decide) ab_w318, List.forall_mem_cons.mpr ⟨ab_getf_ok (C := RX5) (T := TX5) (N := 10) (ci := 9) (k := 5) dX6_account_88 rfl ab_ic9 (by decide) ab_w765, List.forall_mem_cons.mpr ⟨ab_iret_ok dX6_account_91 rfl, List.forall_mem_cons.mpr ⟨ab_aload_n_ok dX6_account_92 rfl, List.forall_mem_cons.mpr ⟨ab_getf_ok (C := RX6) (T := TX6) (N := 9) (ci := 10) (k := 1) dX6_account_93 rfl ab_ic10 (by decide) ab_w318, List.forall_mem_cons.mpr ⟨ab_getf_ok (C := RX5) (T := TX5) (N := 10) (ci := 9) (k := 2) dX6_account_96 rfl ab_ic9 (by decide) ab_w378, List.forall_mem_cons.mpr ⟨ab_iret_ok dX6_account_99 rfl, List.forall_mem_cons.mpr ⟨ab_aload_n_ok dX6_account_100 rfl, List.forall_mem_cons.mpr ⟨ab_getf_ok (C := RX6) (T := TX6) (N := 9) (ci := 10) (k := 1) dX6_account_101 rfl ab_ic10 (by decide) ab_w318, List.forall_mem_cons.mpr ⟨ab_iconst_ok dX6_account_104 (by decide), List.forall_mem_cons.mpr ⟨ab_callV_ok' (G' := ab_g181) (C := RX5) (T := TX5) (N := 10) dX6_account_105 ab_m181 rfl rfl (by decide) (by decide) (ab_l4 ab_w761 ab_w762 ab_w763 ab_w328) ab_w764 rfl ⟨by decide, by decide, by decide +kernel⟩, List.forall_mem_cons.mpr ⟨ab_iret_ok dX6_account_108 rfl, List.forall_mem_cons.mpr ⟨ab_aload_n_ok dX6_account_109 rfl, List.forall_mem_cons.mpr ⟨ab_getf_ok (C := RX6) (T := TX6) (N := 9) (ci := 10) (k := 1) dX6_account_110 rfl ab_ic10 (by decide) ab_w318, List.forall_mem_cons.mpr ⟨ab_iconst_ok dX6_account_113 (by decide), List.forall_mem_cons.mpr ⟨ab_callV_ok' (G' := ab_g181) (C := RX5) (T := TX5) (N := 10) dX6_account_114 ab_m181 rfl rfl (by decide) (by decide) (ab_l4 ab_w761 ab_w762 ab_w763 ab_w328) ab_w764 rfl ⟨by decide, by decide, by decide +kernel⟩, List.forall_mem_cons.mpr ⟨ab_iret_ok dX6_account_117 rfl, List.forall_mem_cons.mpr ⟨ab_aload_n_ok dX6_account_118 rfl, List.forall_mem_cons.mpr ⟨ab_getf_ok (C := RX6) (T := TX6) (N := 9) (ci := 10) (k := 1) dX6_account_119 rfl ab_ic10 (by decide) ab_w318, List.forall_mem_cons.mpr ⟨ab_callV_ok' (G' := ab_g180) (C := RX5) (T := TX5) (N := 10) dX6_account_122 ab_m180 rfl rfl (by decide) (by decide) (ab_l4 ab_w757 ab_w758 ab_w759 ab_w328) ab_w760 rfl ⟨by decide, by decide, by decide +kernel⟩, List.forall_mem_cons.mpr ⟨ab_iret_ok dX6_account_125 rfl, List.forall_mem_cons.mpr ⟨ab_aload_n_ok dX6_account_126 rfl, List.forall_mem_cons.mpr ⟨ab_getf_ok (C := RX6) (T := TX6) (N := 9) (ci := 10) (k := 1) dX6_account_127 rfl ab_ic10 (by decide) ab_w318, List.forall_mem_cons.mpr ⟨ab_getf_ok (C := RX5) (T := TX5) (N := 10) (ci := 9) (k := 6) dX6_account_130 rfl ab_ic9 (by decide) ab_w756, List.forall_mem_cons.mpr ⟨ab_iret_ok dX6_account_133 rfl, List.forall_mem_cons.mpr ⟨ab_aload_n_ok dX6_account_134 rfl, List.forall_mem_cons.mpr ⟨ab_getf_ok (C := RX6) (T := TX6) (N := 9) (ci := 10) (k := 1) dX6_account_135 rfl ab_ic10 (by decide) ab_w318, List.forall_mem_cons.mpr ⟨ab_getf_ok (C := RX5) (T := TX5) (N := 10) (ci := 9) (k := 7) dX6_account_138 rfl ab_ic9 (by decide) ab_w755, List.forall_mem_cons.mpr ⟨ab_iret_ok dX6_account_141 rfl, fun _ h => absurd h List.not_mem_nil⟩⟩⟩⟩⟩⟩⟩⟩⟩⟩⟩⟩⟩⟩⟩⟩⟩⟩⟩⟩⟩⟩⟩⟩⟩⟩⟩⟩⟩⟩⟩⟩⟩⟩⟩⟩⟩⟩⟩⟩
theorem dX6_account_142 : decode cX6_account 142 = .ok (.aload_n 0, 1) := by decide +kernel
theorem dX6_account_143 : decode cX6_account 143 = .ok (.getfield 20, 3) := by decide +kernel
theorem dX6_account_146 : decode cX6_account 146 = .ok (.getfield 314, 3) := by decide +kernel
theorem dX6_account_149 : decode cX6_account 149 = .ok (.ireturn, 1) := by decide +kernel
theorem dX6_account_150 : decode cX6_account 150 = .ok (.aload_n 0, 1) := by decide +kernel
theorem dX6_account_151 : decode cX6_account 151 = .ok (.getfield 20, 3) := by decide +kernel
theorem dX6_account_154 : decode cX6_account 154 = .ok (.getfield 317, 3) := by decide +kernel
theorem dX6_account_157 : decode cX6_account 157 = .ok (.ireturn, 1) := by decide +kernel
theorem dX6_account_158 : decode cX6_account 158 = .ok (.aload_n 0, 1) := by decide +kernel
theorem dX6_account_159 : decode cX6_account 159 = .ok (.getfield 24, 3) := by decide +kernel
theorem dX6_account_162 : decode cX6_account 162 = .ok (.getfield 320, 3) := by decide +kernel
theorem dX6_account_165 : decode cX6_account 165 = .ok (.ireturn, 1) := by decide +kernel
theorem dX6_account_166 : decode cX6_account 166 = .ok (.aload_n 0, 1) := by decide +kernel
theorem dX6_account_167 : decode cX6_account 167 = .ok (.getfield 37, 3) := by decide +kernel
theorem dX6_account_170 : decode cX6_account 170 = .ok (.getfield 238, 3) := by decide +kernel
theorem dX6_account_173 : decode cX6_account 173 = .ok (.ireturn, 1) := by decide +kernel
theorem dX6_account_174 : decode cX6_account 174 = .ok (.new 140, 3) := by decide +kernel
theorem dX6_account_177 : decode cX6_account 177 = .ok (.dup, 1) := by decide +kernel
theorem dX6_account_178 : decode cX6_account 178 = .ok (.invokespecial 142, 3) := by decide +kernel
theorem dX6_account_181 : decode cX6_account 181 = .ok (.athrow, 1) := by decide +kernel
theorem ab_k96_1 (K : ab_Kt) : ∀ q ∈ ab_l96_1, ab_OK K ab_mt ab_g96 q.1 q.2 := by
  unfold ab_l96_1
  exact List.forall_mem_cons.mpr ⟨ab_aload_n_ok dX6_account_142 rfl, List.forall_mem_cons.mpr ⟨ab_getf_ok (C := RX6) (T := TX6) (N := 9) (ci := 10) (k := 1) dX6_account_143 rfl ab_ic10 (by decide) ab_w318, List.forall_mem_cons.mpr ⟨ab_getf_ok (C := RX5) (T := TX5) (N := 10) (ci := 9) (k := 8) dX6_account_146 rfl ab_ic9 (by decide) ab_w754, List.forall_mem_cons.mpr ⟨ab_iret_ok dX6_account_149 rfl, List.forall_mem_cons.mpr ⟨ab_aload_n_ok dX6_account_150 rfl, List.forall_mem_cons.mpr ⟨ab_getf_ok (C := RX6) (T := TX6) (N := 9) (ci := 10) (k := 1) dX6_account_151 rfl ab_ic10 (by decide) ab_w318, List.forall_mem_cons.mpr ⟨ab_getf_ok (C := RX5) (T := TX5) (N := 10) (ci := 9) (k := 9) dX6_account_154 rfl ab_ic9 (by decide) ab_w753, List.forall_mem_cons.mpr ⟨ab_iret_ok dX6_account_157 rfl, List.forall_mem_cons.mpr ⟨ab_aload_n_ok dX6_account_158 rfl, List.forall_mem_cons.mpr ⟨ab_getf_ok (C := RX6) (T := TX6) (N := 9) (ci := 10) (k := 2) dX6_account_159 rfl ab_ic10 (by decide) ab_w325, List.forall_mem_cons.mpr ⟨ab_getf_ok (C := RX3) (T := TX3) (N := 3) (ci := 7) (k := 2) dX6_account_162 rfl ab_ic7 (by decide) ab_w745, List.forall_mem_cons.mpr ⟨ab_iret_ok dX6_account_165 rfl, List.forall_mem_cons.mpr ⟨ab_aload_n_ok dX6_account_166 rfl, List.forall_mem_cons.mpr ⟨ab_getf_ok (C := RX6) (T := TX6) (N := 9) (ci := 10) (k := 5) dX6_account_167 rfl ab_ic10 (by decide) ab_w338, List.forall_mem_cons.mpr ⟨ab_getf_ok (C := RX2) (T := TX2) (N := 8) (ci := 6) (k := 1) dX6_account_170 rfl ab_ic6 (by decide) ab_w752, List.forall_mem_cons.mpr ⟨ab_iret_ok dX6_account_173 rfl, List.forall_mem_cons.mpr ⟨ab_thr_ok (ik := 140) (ic := 142) (by decide +kernel) (ab_l2 ab_w750 ab_w751) ab_th_1 (by decide +kernel) dX6_account_174 dX6_account_177 dX6_account_178 dX6_account_181 rfl, fun _ h => absurd h List.not_mem_nil⟩⟩⟩⟩⟩⟩⟩⟩⟩⟩⟩⟩⟩⟩⟩⟩⟩
theorem ab_k96 (K : ab_Kt) : ∀ pc, ab_OK K ab_mt ab_g96 pc (ab_c96 pc) := ab_lk2_ok _ (List.forall_mem_cons.mpr ⟨ab_k96_0 K, List.forall_mem_cons.mpr ⟨ab_k96_1 K, fun _ h => absurd h List.not_mem_nil⟩⟩)
theorem dX7_in_0 : decode cX7_in 0 = .ok (.iload_n 0, 1) := by decide +kernel
theorem dX7_in_1 : decode cX7_in 1 = .ok (.iload_n 1, 1) := by decide +kernel
theorem dX7_in_2 : decode cX7_in 2 = .ok (.if_icmp .lt 12, 3) := by decide +kernel
theorem dX7_in_5 : decode cX7_in 5 = .ok (.iload_n 0, 1) := by decide +kernel
theorem dX7_in_6 : decode cX7_in 6 = .ok (.iload_n 2, 1) := by decide +kernel
theorem dX7_in_7 : decode cX7_in 7 = .ok (.if_icmp .gt 7, 3) := by decide +kernel
theorem dX7_in_10 : decode cX7_in 10 = .ok (.iconst 1, 1) := by decide +kernel
theorem dX7_in_11 : decode cX7_in 11 = .ok (.goto 4, 3) := by decide +kernel
theorem dX7_in_14 : decode cX7_in 14 = .ok (.iconst 0, 1) := by decide +kernel
theorem dX7_in_15 : decode cX7_in 15 = .ok (.ireturn, 1) := by decide +kernel
theorem ab_k97_0 (K : ab_Kt) : ∀ q ∈ ab_l97_0, ab_OK K ab_mt ab_g97 q.1 q.2 := by
  unfold ab_l97_0
  exact List.forall_mem_cons.mpr ⟨ab_iload_n_ok dX7_in_0 rfl, List.forall_mem_cons.mpr ⟨ab_iload_n_ok dX7_in_1 rfl, List.forall_mem_cons.mpr ⟨ab_icmp_lt_ok dX7_in_2 (by decide), List.forall_mem_cons.mpr ⟨ab_iload_n_ok dX7_in_5 rfl, List.forall_mem_cons.mpr ⟨ab_iload_n_ok dX7_in_6 rfl, List.forall_mem_cons.mpr ⟨ab_icmp_gt_ok dX7_in_7 (by decide), List.forall_mem_cons.mpr ⟨ab_iconst_ok dX7_in_10 (by decide), List.forall_mem_cons.mpr ⟨ab_goto_ok dX7_in_11 (by decide), List.forall_mem_cons.mpr ⟨ab_iconst_ok dX7_in_14 (by decide), List.forall_mem_cons.mpr ⟨ab_zret_ok dX7_in_15 rfl, fun _ h => absurd h List.not_mem_nil⟩⟩⟩⟩⟩⟩⟩⟩⟩⟩
theorem ab_k97 (K : ab_Kt) : ∀ pc, ab_OK K ab_mt ab_g97 pc (ab_c97 pc) := ab_lk2_ok _ (List.forall_mem_cons.mpr ⟨ab_k97_0 K, fun _ h => absurd h List.not_mem_nil⟩)
theorem dX7_sumOf_0 : decode cX7_sumOf 0 = .ok (.iconst 0, 1) := by decide +kernel
theorem dX7_sumOf_1 : decode cX7_sumOf 1 = .ok (.istore_n 2, 1) := by decide +kernel
theorem dX7_sumOf_2 : decode cX7_sumOf 2 = .ok (.iconst 0, 1) := by decide +kernel
theorem dX7_sumOf_3 : decode cX7_sumOf 3 = .ok (.istore_n 3, 1) := by decide +kernel
theorem dX7_sumOf_4 : decode cX7_sumOf 4 = .ok (.iload_n 3, 1) := by decide +kernel
theorem dX7_sumOf_5 : decode cX7_sumOf 5 = .ok (.aload_n 0, 1) := by decide +kernel
theorem dX7_sumOf_6 : decode cX7_sumOf 6 = .ok (.getfield 7, 3) := by decide +kernel
theorem dX7_sumOf_9 : decode cX7_sumOf 9 = .ok (.iconst 3, 1) := by decide +kernel
theorem dX7_sumOf_10 : decode cX7_sumOf 10 = .ok (.iaload, 1) := by decide +kernel
theorem dX7_sumOf_11 : decode cX7_sumOf 11 = .ok (.if_icmp .ge 18, 3) := by decide +kernel
theorem dX7_sumOf_14 : decode cX7_sumOf 14 = .ok (.iload_n 2, 1) := by decide +kernel
theorem dX7_sumOf_15 : decode cX7_sumOf 15 = .ok (.aload_n 0, 1) := by decide +kernel
theorem dX7_sumOf_16 : decode cX7_sumOf 16 = .ok (.iload_n 3, 1) := by decide +kernel
theorem dX7_sumOf_17 : decode cX7_sumOf 17 = .ok (.iload_n 1, 1) := by decide +kernel
theorem dX7_sumOf_18 : decode cX7_sumOf 18 = .ok (.invokevirtual 63, 3) := by decide +kernel
theorem dX7_sumOf_21 : decode cX7_sumOf 21 = .ok (.iadd, 1) := by decide +kernel
theorem dX7_sumOf_22 : decode cX7_sumOf 22 = .ok (.istore_n 2, 1) := by decide +kernel
theorem dX7_sumOf_23 : decode cX7_sumOf 23 = .ok (.iinc 3 1, 3) := by decide +kernel
theorem dX7_sumOf_26 : decode cX7_sumOf 26 = .ok (.goto (-22), 3) := by decide +kernel
theorem dX7_sumOf_29 : decode cX7_sumOf 29 = .ok (.iload_n 2, 1) := by decide +kernel
theorem dX7_sumOf_30 : decode cX7_sumOf 30 = .ok (.ireturn, 1) := by decide +kernel
theorem ab_k98_0 (K : ab_Kt) : ∀ q ∈ ab_l98_0, ab_OK K ab_mt ab_g98 q.1 q.2 := by
  unfold ab_l98_0
  exact List.forall_mem_cons.mpr ⟨ab_iconst_ok dX7_sumOf_0 (by decide), List.forall_mem_cons.mpr ⟨ab_istore_n_ok dX7_sumOf_1 rfl, List.forall_mem_cons.mpr ⟨ab_iconst_ok dX7_sumOf_2 (by decide), List.forall_mem_cons.mpr ⟨ab_istore_n_ok dX7_sumOf_3 rfl, List.forall_mem_cons.mpr ⟨ab_iload_n_ok dX7_sumOf_4 rfl, List.forall_mem_cons.mpr ⟨ab_aload_n_ok dX7_sumOf_5 rfl, List.forall_mem_cons.mpr ⟨ab_getf_ok (C := RX7) (T := TX7) (N := 19) (ci := 11) (k := 0) dX7_sumOf_6 rfl ab_ic11 (by decide) ab_w350, List.forall_mem_cons.mpr ⟨ab_iconst_ok dX7_sumOf_9 (by decide), List.forall_mem_cons.mpr ⟨ab_ald0_ok dX7_sumOf_10, List.forall_mem_cons.mpr ⟨ab_icmp_ge_ok dX7_sumOf_11 (by decide), List.forall_mem_cons.mpr ⟨ab_iload_n_ok dX7_sumOf_14 rfl, List.forall_mem_cons.mpr ⟨ab_aload_n_ok dX7_sumOf_15 rfl, List.forall_mem_cons.mpr ⟨ab_iload_n_ok dX7_sumOf_16 rfl, List.forall_mem_cons.mpr ⟨ab_iload_n_ok dX7_sumOf_17 rfl, List.forall_mem_cons.mpr ⟨ab_callV_ok' (G' := ab_g110) (C := RX7) (T := TX7) (N := 19) dX7_sumOf_18 ab_m110 rfl rfl (by decide) (by decide) (ab_l4 ab_w440 ab_w441 ab_w442 ab_w8) ab_w443 rfl ⟨by decide, by decide, by decide +kernel⟩, List.forall_mem_cons.mpr ⟨ab_iadd_ok dX7_sumOf_21, List.forall_mem_cons.mpr ⟨ab_istore_n_ok dX7_sumOf_22 rfl, List.forall_mem_cons.mpr ⟨ab_iinc_ok dX7_sumOf_23 (by decide), List.forall_mem_cons.mpr ⟨ab_goto_ok dX7_sumOf_26 (by decide), List.forall_mem_cons.mpr ⟨ab_iload_n_ok dX7_sumOf_29 rfl, List.forall_mem_cons.mpr ⟨ab_iret_ok dX7_sumOf_30 rfl, fun _ h => absurd h List.not_mem_nil⟩⟩⟩⟩⟩⟩⟩⟩⟩⟩⟩⟩⟩⟩⟩⟩⟩⟩⟩⟩⟩
theorem ab_k98 (K : ab_Kt) : ∀ pc, ab_OK K ab_mt ab_g98 pc (ab_c98 pc) := ab_lk2_ok _ (List.forall_mem_cons.mpr ⟨ab_k98_0 K, fun _ h => absurd h List.not_mem_nil⟩)
theorem dX7_delivered_0 : decode cX7_delivered 0 = .ok (.iconst 0, 1) := by decide +kernel
theorem dX7_delivered_1 : decode cX7_delivered 1 = .ok (.istore_n 1, 1) := by decide +kernel
theorem dX7_delivered_2 : decode cX7_delivered 2 = .ok (.iconst 0, 1) := by decide +kernel
theorem dX7_delivered_3 : decode cX7_delivered 3 = .ok (.istore_n 2, 1) := by decide +kernel
theorem dX7_delivered_4 : decode cX7_delivered 4 = .ok (.iload_n 2, 1) := by decide +kernel
theorem dX7_delivered_5 : decode cX7_delivered 5 = .ok (.aload_n 0, 1) := by decide +kernel
theorem dX7_delivered_6 : decode cX7_delivered 6 = .ok (.getfield 7, 3) := by decide +kernel
theorem dX7_delivered_9 : decode cX7_delivered 9 = .ok (.iconst 3, 1) := by decide +kernel
theorem dX7_delivered_10 : decode cX7_delivered 10 = .ok (.iaload, 1) := by decide +kernel
theorem dX7_delivered_11 : decode cX7_delivered 11 = .ok (.if_icmp .ge 27, 3) := by decide +kernel
theorem dX7_delivered_14 : decode cX7_delivered 14 = .ok (.iload_n 1, 1) := by decide +kernel
theorem dX7_delivered_15 : decode cX7_delivered 15 = .ok (.aload_n 0, 1) := by decide +kernel
theorem dX7_delivered_16 : decode cX7_delivered 16 = .ok (.iload_n 2, 1) := by decide +kernel
theorem dX7_delivered_17 : decode cX7_delivered 17 = .ok (.iconst 2, 1) := by decide +kernel
theorem dX7_delivered_18 : decode cX7_delivered 18 = .ok (.invokevirtual 63, 3) := by decide +kernel
theorem dX7_delivered_21 : decode cX7_delivered 21 = .ok (.iconst 4, 1) := by decide +kernel
theorem dX7_delivered_22 : decode cX7_delivered 22 = .ok (.if_icmp .ne 7, 3) := by decide +kernel
theorem dX7_delivered_25 : decode cX7_delivered 25 = .ok (.iconst 1, 1) := by decide +kernel
theorem dX7_delivered_26 : decode cX7_delivered 26 = .ok (.goto 4, 3) := by decide +kernel
theorem dX7_delivered_29 : decode cX7_delivered 29 = .ok (.iconst 0, 1) := by decide +kernel
theorem dX7_delivered_30 : decode cX7_delivered 30 = .ok (.iadd, 1) := by decide +kernel
theorem dX7_delivered_31 : decode cX7_delivered 31 = .ok (.istore_n 1, 1) := by decide +kernel
theorem dX7_delivered_32 : decode cX7_delivered 32 = .ok (.iinc 2 1, 3) := by decide +kernel
theorem dX7_delivered_35 : decode cX7_delivered 35 = .ok (.goto (-31), 3) := by decide +kernel
theorem dX7_delivered_38 : decode cX7_delivered 38 = .ok (.iload_n 1, 1) := by decide +kernel
theorem dX7_delivered_39 : decode cX7_delivered 39 = .ok (.ireturn, 1) := by decide +kernel
theorem ab_k99_0 (K : ab_Kt) : ∀ q ∈ ab_l99_0, ab_OK K ab_mt ab_g99 q.1 q.2 := by
  unfold ab_l99_0
  exact List.forall_mem_cons.mpr ⟨ab_iconst_ok dX7_delivered_0 (by decide), List.forall_mem_cons.mpr ⟨ab_istore_n_ok dX7_delivered_1 rfl, List.forall_mem_cons.mpr ⟨ab_iconst_ok dX7_delivered_2 (by decide), List.forall_mem_cons.mpr ⟨ab_istore_n_ok dX7_delivered_3 rfl, List.forall_mem_cons.mpr ⟨ab_iload_n_ok dX7_delivered_4 rfl, List.forall_mem_cons.mpr ⟨ab_aload_n_ok dX7_delivered_5 rfl, List.forall_mem_cons.mpr ⟨ab_getf_ok (C := RX7) (T := TX7) (N := 19) (ci := 11) (k := 0) dX7_delivered_6 rfl ab_ic11 (by decide) ab_w350, List.forall_mem_cons.mpr ⟨ab_iconst_ok dX7_delivered_9 (by decide), List.forall_mem_cons.mpr ⟨ab_ald0_ok dX7_delivered_10, List.forall_mem_cons.mpr ⟨ab_icmp_ge_ok dX7_delivered_11 (by decide), List.forall_mem_cons.mpr ⟨ab_iload_n_ok dX7_delivered_14 rfl, List.forall_mem_cons.mpr ⟨ab_aload_n_ok dX7_delivered_15 rfl, List.forall_mem_cons.mpr ⟨ab_iload_n_ok dX7_delivered_16 rfl, List.forall_mem_cons.mpr ⟨ab_iconst_ok dX7_delivered_17 (by decide), List.forall_mem_cons.mpr ⟨ab_callV_ok' (G' := ab_g110) (C := RX7) (T := TX7) (N := 19) dX7_delivered_18 ab_m110 rfl rfl (by decide) (by decide) (ab_l4 ab_w440 ab_w441 ab_w442 ab_w8) ab_w443 rfl ⟨by decide, by decide, by decide +kernel⟩, List.forall_mem_cons.mpr ⟨ab_iconst_ok dX7_delivered_21 (by decide), List.forall_mem_cons.mpr ⟨ab_icmp_ne_ok dX7_delivered_22 (by decide), List.forall_mem_cons.mpr ⟨ab_iconst_ok dX7_delivered_25 (by decide), List.forall_mem_cons.mpr ⟨ab_goto_ok dX7_delivered_26 (by decide), List.forall_mem_cons.mpr ⟨ab_iconst_ok dX7_delivered_29 (by decide), List.forall_mem_cons.mpr ⟨ab_iadd_ok dX7_delivered_30, List.forall_mem_cons.mpr ⟨ab_istore_n_ok dX7_delivered_31 rfl, List.forall_mem_cons.mpr ⟨ab_iinc_ok dX7_delivered_32 (by decide), List.forall_mem_cons.mpr ⟨ab_goto_ok dX7_delivered_35 (by decide), List.forall_mem_cons.mpr ⟨ab_iload_n_ok dX7_delivered_38 rfl, List.forall_mem_cons.mpr ⟨ab_iret_ok dX7_delivered_39 rfl, fun _ h => absurd h List.not_mem_nil⟩⟩⟩⟩⟩⟩⟩⟩⟩⟩⟩⟩⟩⟩⟩⟩⟩⟩⟩⟩⟩⟩⟩⟩⟩⟩
theorem ab_k99 (K : ab_Kt) : ∀ pc, ab_OK K ab_mt ab_g99 pc (ab_c99 pc) := ab_lk2_ok _ (List.forall_mem_cons.mpr ⟨ab_k99_0 K, fun _ h => absurd h List.not_mem_nil⟩)
theorem dX7_stacked_0 : decode cX7_stacked 0 = .ok (.aload_n 0, 1) := by decide +kernel
theorem dX7_stacked_1 : decode cX7_stacked 1 = .ok (.getfield 7, 3) := by decide +kernel
theorem dX7_stacked_4 : decode cX7_stacked 4 = .ok (.bipush 8, 2) := by decide +kernel
theorem dX7_stacked_6 : decode cX7_stacked 6 = .ok (.iconst 4, 1) := by decide +kernel
theorem dX7_stacked_7 : decode cX7_stacked 7 = .ok (.iload_n 1, 1) := by decide +kernel
theorem dX7_stacked_8 : decode cX7_stacked 8 = .ok (.imul, 1) := by decide +kernel
theorem dX7_stacked_9 : decode cX7_stacked 9 = .ok (.iadd, 1) := by decide +kernel
theorem dX7_stacked_10 : decode cX7_stacked 10 = .ok (.iaload, 1) := by decide +kernel
theorem dX7_stacked_11 : decode cX7_stacked 11 = .ok (.ireturn, 1) := by decide +kernel
theorem ab_k100_0 (K : ab_Kt) : ∀ q ∈ ab_l100_0, ab_OK K ab_mt ab_g100 q.1 q.2 := by
  unfold ab_l100_0
  exact List.forall_mem_cons.mpr ⟨ab_aload_n_ok dX7_stacked_0 rfl, List.forall_mem_cons.mpr ⟨ab_getf_ok (C := RX7) (T := TX7) (N := 19) (ci := 11) (k := 0) dX7_stacked_1 rfl ab_ic11 (by decide) ab_w350, List.forall_mem_cons.mpr ⟨ab_bipush_ok dX7_stacked_4 (by decide), List.forall_mem_cons.mpr ⟨ab_iconst_ok dX7_stacked_6 (by decide), List.forall_mem_cons.mpr ⟨ab_iload_n_ok dX7_stacked_7 rfl, List.forall_mem_cons.mpr ⟨ab_imul_ok dX7_stacked_8, List.forall_mem_cons.mpr ⟨ab_iadd_ok dX7_stacked_9, List.forall_mem_cons.mpr ⟨ab_ald0_ok dX7_stacked_10, List.forall_mem_cons.mpr ⟨ab_iret_ok dX7_stacked_11 rfl, fun _ h => absurd h List.not_mem_nil⟩⟩⟩⟩⟩⟩⟩⟩⟩
theorem ab_k100 (K : ab_Kt) : ∀ pc, ab_OK K ab_mt ab_g100 pc (ab_c100 pc) := ab_lk2_ok _ (List.forall_mem_cons.mpr ⟨ab_k100_0 K, fun _ h => absurd h List.not_mem_nil⟩)
theorem dX6_meanSignatures_0 : decode cX6_meanSignatures 0 = .ok (.aload_n 0, 1) := by decide +kernel
theorem dX6_meanSignatures_1 : decode cX6_meanSignatures 1 = .ok (.getfield 20, 3) := by decide +kernel
theorem dX6_meanSignatures_4 : decode cX6_meanSignatures 4 = .ok (.getfield 229, 3) := by decide +kernel
theorem dX6_meanSignatures_7 : decode cX6_meanSignatures 7 = .ok (.ifCond .ne 11, 3) := by decide +kernel
theorem dX6_meanSignatures_10 : decode cX6_meanSignatures 10 = .ok (.new 290, 3) := by decide +kernel
theorem dX6_meanSignatures_13 : decode cX6_meanSignatures 13 = .ok (.dup, 1) := by decide +kernel
theorem dX6_meanSignatures_14 : decode cX6_meanSignatures 14 = .ok (.invokespecial 292, 3) := by decide +kernel
theorem dX6_meanSignatures_17 : decode cX6_meanSignatures 17 = .ok (.athrow, 1) := by decide +kernel
theorem dX6_meanSignatures_18 : decode cX6_meanSignatures 18 = .ok (.aload_n 0, 1) := by decide +kernel
theorem dX6_meanSignatures_19 : decode cX6_meanSignatures 19 = .ok (.getfield 20, 3) := by decide +kernel
theorem dX6_meanSignatures_22 : decode cX6_meanSignatures 22 = .ok (.invokevirtual 293, 3) := by decide +kernel
theorem dX6_meanSignatures_25 : decode cX6_meanSignatures 25 = .ok (.i2d, 1) := by decide +kernel
theorem dX6_meanSignatures_26 : decode cX6_meanSignatures 26 = .ok (.aload_n 0, 1) := by decide +kernel
theorem dX6_meanSignatures_27 : decode cX6_meanSignatures 27 = .ok (.getfield 20, 3) := by decide +kernel
theorem dX6_meanSignatures_30 : decode cX6_meanSignatures 30 = .ok (.getfield 229, 3) := by decide +kernel
theorem dX6_meanSignatures_33 : decode cX6_meanSignatures 33 = .ok (.i2d, 1) := by decide +kernel
theorem dX6_meanSignatures_34 : decode cX6_meanSignatures 34 = .ok (.ddiv, 1) := by decide +kernel
theorem dX6_meanSignatures_35 : decode cX6_meanSignatures 35 = .ok (.dreturn, 1) := by decide +kernel
theorem ab_k101_0 (K : ab_Kt) : ∀ q ∈ ab_l101_0, ab_OK K ab_mt ab_g101 q.1 q.2 := by
  unfold ab_l101_0
  exact List.forall_mem_cons.mpr ⟨ab_aload_n_ok dX6_meanSignatures_0 rfl, List.forall_mem_cons.mpr ⟨ab_getf_ok (C := RX6) (T := TX6) (N := 9) (ci := 10) (k := 1) dX6_meanSignatures_1 rfl ab_ic10 (by decide) ab_w318, List.forall_mem_cons.mpr ⟨ab_getf_ok (C := RX5) (T := TX5) (N := 10) (ci := 9) (k := 2) dX6_meanSignatures_4 rfl ab_ic9 (by decide) ab_w378, List.forall_mem_cons.mpr ⟨ab_if_ne_ok dX6_meanSignatures_7 (by decide), List.forall_mem_cons.mpr ⟨ab_thr_ok (ik := 290) (ic := 292) (by decide +kernel) (ab_l2 ab_w768 ab_w769) ab_th_2 (by decide +kernel) dX6_meanSignatures_10 dX6_meanSignatures_13 dX6_meanSignatures_14 dX6_meanSignatures_17 rfl, List.forall_mem_cons.mpr ⟨ab_aload_n_ok dX6_meanSignatures_18 rfl, List.forall_mem_cons.mpr ⟨ab_getf_ok (C := RX6) (T := TX6) (N := 9) (ci := 10) (k := 1) dX6_meanSignatures_19 rfl ab_ic10 (by decide) ab_w318, List.forall_mem_cons.mpr ⟨ab_callV_ok' (G' := ab_g180) (C := RX5) (T := TX5) (N := 10) dX6_meanSignatures_22 ab_m180 rfl rfl (by decide) (by decide) (ab_l4 ab_w757 ab_w758 ab_w759 ab_w328) ab_w760 rfl ⟨by decide, by decide, by decide +kernel⟩, List.forall_mem_cons.mpr ⟨ab_i2d_ok dX6_meanSignatures_25, List.forall_mem_cons.mpr ⟨ab_aload_n_ok dX6_meanSignatures_26 rfl, List.forall_mem_cons.mpr ⟨ab_getf_ok (C := RX6) (T := TX6) (N := 9) (ci := 10) (k := 1) dX6_meanSignatures_27 rfl ab_ic10 (by decide) ab_w318, List.forall_mem_cons.mpr ⟨ab_getf_ok (C := RX5) (T := TX5) (N := 10) (ci := 9) (k := 2) dX6_meanSignatures_30 rfl ab_ic9 (by decide) ab_w378, List.forall_mem_cons.mpr ⟨ab_i2d_ok dX6_meanSignatures_33, List.forall_mem_cons.mpr ⟨ab_ddiv_ok dX6_meanSignatures_34, List.forall_mem_cons.mpr ⟨ab_dret_ok dX6_meanSignatures_35 rfl, fun _ h => absurd h List.not_mem_nil⟩⟩⟩⟩⟩⟩⟩⟩⟩⟩⟩⟩⟩⟩⟩
theorem ab_k101 (K : ab_Kt) : ∀ pc, ab_OK K ab_mt ab_g101 pc (ab_c101 pc) := ab_lk2_ok _ (List.forall_mem_cons.mpr ⟨ab_k101_0 K, fun _ h => absurd h List.not_mem_nil⟩)
theorem dX6_rightShare_0 : decode cX6_rightShare 0 = .ok (.aload_n 0, 1) := by decide +kernel
theorem dX6_rightShare_1 : decode cX6_rightShare 1 = .ok (.iload_n 1, 1) := by decide +kernel
theorem dX6_rightShare_2 : decode cX6_rightShare 2 = .ok (.invokevirtual 106, 3) := by decide +kernel
theorem dX6_rightShare_5 : decode cX6_rightShare 5 = .ok (.astore_n 2, 1) := by decide +kernel
theorem dX6_rightShare_6 : decode cX6_rightShare 6 = .ok (.aload_n 2, 1) := by decide +kernel
theorem dX6_rightShare_7 : decode cX6_rightShare 7 = .ok (.invokevirtual 127, 3) := by decide +kernel
theorem dX6_rightShare_10 : decode cX6_rightShare 10 = .ok (.istore_n 3, 1) := by decide +kernel
theorem dX6_rightShare_11 : decode cX6_rightShare 11 = .ok (.iload_n 3, 1) := by decide +kernel
theorem dX6_rightShare_12 : decode cX6_rightShare 12 = .ok (.ifCond .ne 11, 3) := by decide +kernel
theorem dX6_rightShare_15 : decode cX6_rightShare 15 = .ok (.new 290, 3) := by decide +kernel
theorem dX6_rightShare_18 : decode cX6_rightShare 18 = .ok (.dup, 1) := by decide +kernel
theorem dX6_rightShare_19 : decode cX6_rightShare 19 = .ok (.invokespecial 292, 3) := by decide +kernel
theorem dX6_rightShare_22 : decode cX6_rightShare 22 = .ok (.athrow, 1) := by decide +kernel
theorem dX6_rightShare_23 : decode cX6_rightShare 23 = .ok (.iload_n 3, 1) := by decide +kernel
theorem dX6_rightShare_24 : decode cX6_rightShare 24 = .ok (.aload_n 2, 1) := by decide +kernel
theorem dX6_rightShare_25 : decode cX6_rightShare 25 = .ok (.invokevirtual 169, 3) := by decide +kernel
theorem dX6_rightShare_28 : decode cX6_rightShare 28 = .ok (.isub, 1) := by decide +kernel
theorem dX6_rightShare_29 : decode cX6_rightShare 29 = .ok (.i2f, 1) := by decide +kernel
theorem dX6_rightShare_30 : decode cX6_rightShare 30 = .ok (.iload_n 3, 1) := by decide +kernel
theorem dX6_rightShare_31 : decode cX6_rightShare 31 = .ok (.i2f, 1) := by decide +kernel
theorem dX6_rightShare_32 : decode cX6_rightShare 32 = .ok (.fdiv, 1) := by decide +kernel
theorem dX6_rightShare_33 : decode cX6_rightShare 33 = .ok (.freturn, 1) := by decide +kernel
theorem ab_k102_0 (K : ab_Kt) : ∀ q ∈ ab_l102_0, ab_OK K ab_mt ab_g102 q.1 q.2 := by
  unfold ab_l102_0
  exact List.forall_mem_cons.mpr ⟨ab_aload_n_ok dX6_rightShare_0 rfl, List.forall_mem_cons.mpr ⟨ab_iload_n_ok dX6_rightShare_1 rfl, List.forall_mem_cons.mpr ⟨ab_callV_ok' (G' := ab_g182) (C := RX6) (T := TX6) (N := 9) dX6_rightShare_2 ab_m182 rfl rfl (by decide) (by decide) (ab_l4 ab_w770 ab_w771 ab_w772 ab_w2) ab_w773 rfl ⟨by decide, by decide, by decide +kernel⟩, List.forall_mem_cons.mpr ⟨ab_astore_n_ok dX6_rightShare_5 rfl, List.forall_mem_cons.mpr ⟨ab_aload_n_ok dX6_rightShare_6 rfl, List.forall_mem_cons.mpr ⟨ab_callV_ok' (G' := ab_g183) (C := RX1) (T := TX1) (N := 13) dX6_rightShare_7 ab_m183 rfl rfl (by decide) (by decide) (ab_l4 ab_w774 ab_w775 ab_w776 ab_w711) ab_w777 rfl ⟨by decide, by decide, by decide +kernel⟩, List.forall_mem_cons.mpr ⟨ab_istore_n_ok dX6_rightShare_10 rfl, List.forall_mem_cons.mpr ⟨ab_iload_n_ok dX6_rightShare_11 rfl, List.forall_mem_cons.mpr ⟨ab_if_ne_ok dX6_rightShare_12 (by decide), List.forall_mem_cons.mpr ⟨ab_thr_ok (ik := 290) (ic := 292) (by decide +kernel) (ab_l2 ab_w768 ab_w769) ab_th_2 (by decide +kernel) dX6_rightShare_15 dX6_rightShare_18 dX6_rightShare_19 dX6_rightShare_22 rfl, List.forall_mem_cons.mpr ⟨ab_iload_n_ok dX6_rightShare_23 rfl, List.forall_mem_cons.mpr ⟨ab_aload_n_ok dX6_rightShare_24 rfl, List.forall_mem_cons.mpr ⟨ab_callV_ok' (G' := ab_g184) (C := RX1) (T := TX1) (N := 13) dX6_rightShare_25 ab_m184 rfl rfl (by decide) (by decide) (ab_l4 ab_w778 ab_w779 ab_w780 ab_w711) ab_w781 rfl ⟨by decide, by decide, by decide +kernel⟩, List.forall_mem_cons.mpr ⟨ab_isub_ok dX6_rightShare_28, List.forall_mem_cons.mpr ⟨ab_i2f_ok dX6_rightShare_29, List.forall_mem_cons.mpr ⟨ab_iload_n_ok dX6_rightShare_30 rfl, List.forall_mem_cons.mpr ⟨ab_i2f_ok dX6_rightShare_31, List.forall_mem_cons.mpr ⟨ab_fdiv_ok dX6_rightShare_32, List.forall_mem_cons.mpr ⟨ab_fret_ok dX6_rightShare_33 rfl, fun _ h => absurd h List.not_mem_nil⟩⟩⟩⟩⟩⟩⟩⟩⟩⟩⟩⟩⟩⟩⟩⟩⟩⟩⟩
theorem ab_k102 (K : ab_Kt) : ∀ pc, ab_OK K ab_mt ab_g102 pc (ab_c102 pc) := ab_lk2_ok _ (List.forall_mem_cons.mpr ⟨ab_k102_0 K, fun _ h => absurd h List.not_mem_nil⟩)
theorem dX7_isBook_0 : decode cX7_isBook 0 = .ok (.iload_n 1, 1) := by decide +kernel
theorem dX7_isBook_1 : decode cX7_isBook 1 = .ok (.iconst 0, 1) := by decide +kernel
theorem dX7_isBook_2 : decode cX7_isBook 2 = .ok (.aload_n 0, 1) := by decide +kernel
theorem dX7_isBook_3 : decode cX7_isBook 3 = .ok (.getfield 7, 3) := by decide +kernel
theorem dX7_isBook_6 : decode cX7_isBook 6 = .ok (.iconst 3, 1) := by decide +kernel
theorem dX7_isBook_7 : decode cX7_isBook 7 = .ok (.iaload, 1) := by decide +kernel
theorem dX7_isBook_8 : decode cX7_isBook 8 = .ok (.iconst 1, 1) := by decide +kernel
theorem dX7_isBook_9 : decode cX7_isBook 9 = .ok (.isub, 1) := by decide +kernel
theorem dX7_isBook_10 : decode cX7_isBook 10 = .ok (.invokestatic 59, 3) := by decide +kernel
theorem dX7_isBook_13 : decode cX7_isBook 13 = .ok (.ireturn, 1) := by decide +kernel
theorem ab_k103_0 (K : ab_Kt) : ∀ q ∈ ab_l103_0, ab_OK K ab_mt ab_g103 q.1 q.2 := by
  unfold ab_l103_0
  exact List.forall_mem_cons.mpr ⟨ab_iload_n_ok dX7_isBook_0 rfl, List.forall_mem_cons.mpr ⟨ab_iconst_ok dX7_isBook_1 (by decide), List.forall_mem_cons.mpr ⟨ab_aload_n_ok dX7_isBook_2 rfl, List.forall_mem_cons.mpr ⟨ab_getf_ok (C := RX7) (T := TX7) (N := 19) (ci := 11) (k := 0) dX7_isBook_3 rfl ab_ic11 (by decide) ab_w350, List.forall_mem_cons.mpr ⟨ab_iconst_ok dX7_isBook_6 (by decide), List.forall_mem_cons.mpr ⟨ab_ald0_ok dX7_isBook_7, List.forall_mem_cons.mpr ⟨ab_iconst_ok dX7_isBook_8 (by decide), List.forall_mem_cons.mpr ⟨ab_isub_ok dX7_isBook_9, List.forall_mem_cons.mpr ⟨ab_callS_ok' (G' := ab_g97) dX7_isBook_10 ab_m97 (by decide) (by decide) (ab_l3 ab_w387 ab_w388 ab_w8) ab_w389 rfl ⟨by decide, by decide, by decide +kernel⟩, List.forall_mem_cons.mpr ⟨ab_zret_ok dX7_isBook_13 rfl, fun _ h => absurd h List.not_mem_nil⟩⟩⟩⟩⟩⟩⟩⟩⟩⟩
theorem ab_k103 (K : ab_Kt) : ∀ pc, ab_OK K ab_mt ab_g103 pc (ab_c103 pc) := ab_lk2_ok _ (List.forall_mem_cons.mpr ⟨ab_k103_0 K, fun _ h => absurd h List.not_mem_nil⟩)
theorem dX7_positions_0 : decode cX7_positions 0 = .ok (.aload_n 0, 1) := by decide +kernel
theorem dX7_positions_1 : decode cX7_positions 1 = .ok (.iload_n 1, 1) := by decide +kernel
theorem dX7_positions_2 : decode cX7_positions 2 = .ok (.aload_n 0, 1) := by decide +kernel
theorem dX7_positions_3 : decode cX7_positions 3 = .ok (.iload_n 1, 1) := by decide +kernel
theorem dX7_positions_4 : decode cX7_positions 4 = .ok (.iconst 3, 1) := by decide +kernel
theorem dX7_positions_5 : decode cX7_positions 5 = .ok (.invokevirtual 63, 3) := by decide +kernel
theorem dX7_positions_8 : decode cX7_positions 8 = .ok (.invokevirtual 74, 3) := by decide +kernel
theorem dX7_positions_11 : decode cX7_positions 11 = .ok (.ireturn, 1) := by decide +kernel
theorem ab_k104_0 (K : ab_Kt) : ∀ q ∈ ab_l104_0, ab_OK K ab_mt ab_g104 q.1 q.2 := by
  unfold ab_l104_0
  exact List.forall_mem_cons.mpr ⟨ab_aload_n_ok dX7_positions_0 rfl, List.forall_mem_cons.mpr ⟨ab_iload_n_ok dX7_positions_1 rfl, List.forall_mem_cons.mpr ⟨ab_aload_n_ok dX7_positions_2 rfl, List.forall_mem_cons.mpr ⟨ab_iload_n_ok dX7_positions_3 rfl, List.forall_mem_cons.mpr ⟨ab_iconst_ok dX7_positions_4 (by decide), List.forall_mem_cons.mpr ⟨ab_callV_ok' (G' := ab_g110) (C := RX7) (T := TX7) (N := 19) dX7_positions_5 ab_m110 rfl rfl (by decide) (by decide) (ab_l4 ab_w440 ab_w441 ab_w442 ab_w8) ab_w443 rfl ⟨by decide, by decide, by decide +kernel⟩, List.forall_mem_cons.mpr ⟨ab_callV_ok' (G' := ab_g148) (C := RX7) (T := TX7) (N := 19) dX7_positions_8 ab_m148 rfl rfl (by decide) (by decide) (ab_l4 ab_w596 ab_w597 ab_w598 ab_w8) ab_w599 rfl ⟨by decide, by decide, by decide +kernel⟩, List.forall_mem_cons.mpr ⟨ab_iret_ok dX7_positions_11 rfl, fun _ h => absurd h List.not_mem_nil⟩⟩⟩⟩⟩⟩⟩⟩
theorem ab_k104 (K : ab_Kt) : ∀ pc, ab_OK K ab_mt ab_g104 pc (ab_c104 pc) := ab_lk2_ok _ (List.forall_mem_cons.mpr ⟨ab_k104_0 K, fun _ h => absurd h List.not_mem_nil⟩)
theorem dX7_wrongOf_0 : decode cX7_wrongOf 0 = .ok (.iconst 0, 1) := by decide +kernel
theorem dX7_wrongOf_1 : decode cX7_wrongOf 1 = .ok (.istore_n 2, 1) := by decide +kernel
theorem dX7_wrongOf_2 : decode cX7_wrongOf 2 = .ok (.aload_n 0, 1) := by decide +kernel
theorem dX7_wrongOf_3 : decode cX7_wrongOf 3 = .ok (.iload_n 1, 1) := by decide +kernel
theorem dX7_wrongOf_4 : decode cX7_wrongOf 4 = .ok (.invokevirtual 80, 3) := by decide +kernel
theorem dX7_wrongOf_7 : decode cX7_wrongOf 7 = .ok (.istore_n 3, 1) := by decide +kernel
theorem dX7_wrongOf_8 : decode cX7_wrongOf 8 = .ok (.iconst 0, 1) := by decide +kernel
theorem dX7_wrongOf_9 : decode cX7_wrongOf 9 = .ok (.istore 4, 2) := by decide +kernel
theorem dX7_wrongOf_11 : decode cX7_wrongOf 11 = .ok (.iload 4, 2) := by decide +kernel
theorem dX7_wrongOf_13 : decode cX7_wrongOf 13 = .ok (.iload_n 3, 1) := by decide +kernel
theorem dX7_wrongOf_14 : decode cX7_wrongOf 14 = .ok (.if_icmp .ge 27, 3) := by decide +kernel
theorem dX7_wrongOf_17 : decode cX7_wrongOf 17 = .ok (.iload_n 2, 1) := by decide +kernel
theorem dX7_wrongOf_18 : decode cX7_wrongOf 18 = .ok (.aload_n 0, 1) := by decide +kernel
theorem dX7_wrongOf_19 : decode cX7_wrongOf 19 = .ok (.iload_n 1, 1) := by decide +kernel
theorem dX7_wrongOf_20 : decode cX7_wrongOf 20 = .ok (.iload 4, 2) := by decide +kernel
theorem dX7_wrongOf_22 : decode cX7_wrongOf 22 = .ok (.invokevirtual 84, 3) := by decide +kernel
theorem dX7_wrongOf_25 : decode cX7_wrongOf 25 = .ok (.ifCond .eq 7, 3) := by decide +kernel
theorem dX7_wrongOf_28 : decode cX7_wrongOf 28 = .ok (.iconst 0, 1) := by decide +kernel
theorem dX7_wrongOf_29 : decode cX7_wrongOf 29 = .ok (.goto 4, 3) := by decide +kernel
theorem dX7_wrongOf_32 : decode cX7_wrongOf 32 = .ok (.iconst 1, 1) := by decide +kernel
theorem dX7_wrongOf_33 : decode cX7_wrongOf 33 = .ok (.iadd, 1) := by decide +kernel
theorem dX7_wrongOf_34 : decode cX7_wrongOf 34 = .ok (.istore_n 2, 1) := by decide +kernel
theorem dX7_wrongOf_35 : decode cX7_wrongOf 35 = .ok (.iinc 4 1, 3) := by decide +kernel
theorem dX7_wrongOf_38 : decode cX7_wrongOf 38 = .ok (.goto (-27), 3) := by decide +kernel
theorem dX7_wrongOf_41 : decode cX7_wrongOf 41 = .ok (.iload_n 2, 1) := by decide +kernel
theorem dX7_wrongOf_42 : decode cX7_wrongOf 42 = .ok (.ireturn, 1) := by decide +kernel
theorem ab_k105_0 (K : ab_Kt) : ∀ q ∈ ab_l105_0, ab_OK K ab_mt ab_g105 q.1 q.2 := by
  unfold ab_l105_0
  exact List.forall_mem_cons.mpr ⟨ab_iconst_ok dX7_wrongOf_0 (by decide), List.forall_mem_cons.mpr ⟨ab_istore_n_ok dX7_wrongOf_1 rfl, List.forall_mem_cons.mpr ⟨ab_aload_n_ok dX7_wrongOf_2 rfl, List.forall_mem_cons.mpr ⟨ab_iload_n_ok dX7_wrongOf_3 rfl, List.forall_mem_cons.mpr ⟨ab_callV_ok' (G' := ab_g104) (C := RX7) (T := TX7) (N := 19) dX7_wrongOf_4 ab_m104 rfl rfl (by decide) (by decide) (ab_l4 ab_w415 ab_w416 ab_w417 ab_w8) ab_w418 rfl ⟨by decide, by decide, by decide +kernel⟩, List.forall_mem_cons.mpr ⟨ab_istore_n_ok dX7_wrongOf_7 rfl, List.forall_mem_cons.mpr ⟨ab_iconst_ok dX7_wrongOf_8 (by decide), List.forall_mem_cons.mpr ⟨ab_istore_ok dX7_wrongOf_9, List.forall_mem_cons.mpr ⟨ab_iload_ok dX7_wrongOf_11, List.forall_mem_cons.mpr ⟨ab_iload_n_ok dX7_wrongOf_13 rfl, List.forall_mem_cons.mpr ⟨ab_icmp_ge_ok dX7_wrongOf_14 (by decide), List.forall_mem_cons.mpr ⟨ab_iload_n_ok dX7_wrongOf_17 rfl, List.forall_mem_cons.mpr ⟨ab_aload_n_ok dX7_wrongOf_18 rfl, List.forall_mem_cons.mpr ⟨ab_iload_n_ok dX7_wrongOf_19 rfl, List.forall_mem_cons.mpr ⟨ab_iload_ok dX7_wrongOf_20, List.forall_mem_cons.mpr ⟨ab_callV_ok' (G' := ab_g141) (C := RX7) (T := TX7) (N := 19) dX7_wrongOf_22 ab_m141 rfl rfl (by decide) (by decide) (ab_l4 ab_w568 ab_w569 ab_w570 ab_w8) ab_w571 rfl ⟨by decide, by decide, by decide +kernel⟩, List.forall_mem_cons.mpr ⟨ab_if_eq_ok dX7_wrongOf_25 (by decide), List.forall_mem_cons.mpr ⟨ab_iconst_ok dX7_wrongOf_28 (by decide), List.forall_mem_cons.mpr ⟨ab_goto_ok dX7_wrongOf_29 (by decide), List.forall_mem_cons.mpr ⟨ab_iconst_ok dX7_wrongOf_32 (by decide), List.forall_mem_cons.mpr ⟨ab_iadd_ok dX7_wrongOf_33, List.forall_mem_cons.mpr ⟨ab_istore_n_ok dX7_wrongOf_34 rfl, List.forall_mem_cons.mpr ⟨ab_iinc_ok dX7_wrongOf_35 (by decide), List.forall_mem_cons.mpr ⟨ab_goto_ok dX7_wrongOf_38 (by decide), List.forall_mem_cons.mpr ⟨ab_iload_n_ok dX7_wrongOf_41 rfl, List.forall_mem_cons.mpr ⟨ab_iret_ok dX7_wrongOf_42 rfl, fun _ h => absurd h List.not_mem_nil⟩⟩⟩⟩⟩⟩⟩⟩⟩⟩⟩⟩⟩⟩⟩⟩⟩⟩⟩⟩⟩⟩⟩⟩⟩⟩
theorem ab_k105 (K : ab_Kt) : ∀ pc, ab_OK K ab_mt ab_g105 pc (ab_c105 pc) := ab_lk2_ok _ (List.forall_mem_cons.mpr ⟨ab_k105_0 K, fun _ h => absurd h List.not_mem_nil⟩)
theorem dX6_character_0 : decode cX6_character 0 = .ok (.iload_n 1, 1) := by decide +kernel
theorem dX6_character_1 : decode cX6_character 1 = .ok (.ifCond .lt 14, 3) := by decide +kernel
theorem dX6_character_4 : decode cX6_character 4 = .ok (.iload_n 1, 1) := by decide +kernel
theorem dX6_character_5 : decode cX6_character 5 = .ok (.aload_n 0, 1) := by decide +kernel
theorem dX6_character_6 : decode cX6_character 6 = .ok (.getfield 48, 3) := by decide +kernel
theorem dX6_character_9 : decode cX6_character 9 = .ok (.invokevirtual 281, 3) := by decide +kernel
theorem dX6_character_12 : decode cX6_character 12 = .ok (.if_icmp .lt 11, 3) := by decide +kernel
theorem dX6_character_15 : decode cX6_character 15 = .ok (.new 283, 3) := by decide +kernel
theorem dX6_character_18 : decode cX6_character 18 = .ok (.dup, 1) := by decide +kernel
theorem dX6_character_19 : decode cX6_character 19 = .ok (.invokespecial 285, 3) := by decide +kernel
theorem dX6_character_22 : decode cX6_character 22 = .ok (.athrow, 1) := by decide +kernel
theorem dX6_character_23 : decode cX6_character 23 = .ok (.aload_n 0, 1) := by decide +kernel
theorem dX6_character_24 : decode cX6_character 24 = .ok (.getfield 48, 3) := by decide +kernel
theorem dX6_character_27 : decode cX6_character 27 = .ok (.iload_n 1, 1) := by decide +kernel
theorem dX6_character_28 : decode cX6_character 28 = .ok (.invokevirtual 286, 3) := by decide +kernel
theorem dX6_character_31 : decode cX6_character 31 = .ok (.ireturn, 1) := by decide +kernel
theorem ab_k106_0 (K : ab_Kt) : ∀ q ∈ ab_l106_0, ab_OK K ab_mt ab_g106 q.1 q.2 := by
  unfold ab_l106_0
  exact List.forall_mem_cons.mpr ⟨ab_iload_n_ok dX6_character_0 rfl, List.forall_mem_cons.mpr ⟨ab_if_lt_ok dX6_character_1 (by decide), List.forall_mem_cons.mpr ⟨ab_iload_n_ok dX6_character_4 rfl, List.forall_mem_cons.mpr ⟨ab_aload_n_ok dX6_character_5 rfl, List.forall_mem_cons.mpr ⟨ab_getf_ok (C := RX6) (T := TX6) (N := 9) (ci := 10) (k := 7) dX6_character_6 rfl ab_ic10 (by decide) ab_w346, List.forall_mem_cons.mpr ⟨ab_callV_ok' (G' := ab_g185) (C := RJ4) (T := TJ4) (N := 4) dX6_character_9 ab_m185 rfl rfl (by decide) (by decide) (ab_l4 ab_w782 ab_w783 ab_w784 ab_w342) ab_w785 rfl ⟨by decide, by decide, by decide +kernel⟩, List.forall_mem_cons.mpr ⟨ab_icmp_lt_ok dX6_character_12 (by decide), List.forall_mem_cons.mpr ⟨ab_thr_ok (ik := 283) (ic := 285) (by decide +kernel) (ab_l2 ab_w786 ab_w787) ab_th_3 (by decide +kernel) dX6_character_15 dX6_character_18 dX6_character_19 dX6_character_22 rfl, List.forall_mem_cons.mpr ⟨ab_aload_n_ok dX6_character_23 rfl, List.forall_mem_cons.mpr ⟨ab_getf_ok (C := RX6) (T := TX6) (N := 9) (ci := 10) (k := 7) dX6_character_24 rfl ab_ic10 (by decide) ab_w346, List.forall_mem_cons.mpr ⟨ab_iload_n_ok dX6_character_27 rfl, List.forall_mem_cons.mpr ⟨ab_callV_ok' (G' := ab_g186) (C := RJ4) (T := TJ4) (N := 4) dX6_character_28 ab_m186 rfl rfl (by decide) (by decide) (ab_l4 ab_w788 ab_w789 ab_w790 ab_w342) ab_w791 rfl ⟨by decide, by decide, by decide +kernel⟩, List.forall_mem_cons.mpr ⟨ab_cret_ok dX6_character_31 rfl, fun _ h => absurd h List.not_mem_nil⟩⟩⟩⟩⟩⟩⟩⟩⟩⟩⟩⟩⟩
theorem ab_k106 (K : ab_Kt) : ∀ pc, ab_OK K ab_mt ab_g106 pc (ab_c106 pc) := ab_lk2_ok _ (List.forall_mem_cons.mpr ⟨ab_k106_0 K, fun _ h => absurd h List.not_mem_nil⟩)
theorem dX6_line_0 : decode cX6_line 0 = .ok (.aload_n 0, 1) := by decide +kernel
theorem dX6_line_1 : decode cX6_line 1 = .ok (.iload_n 1, 1) := by decide +kernel
theorem dX6_line_2 : decode cX6_line 2 = .ok (.invokevirtual 106, 3) := by decide +kernel
theorem dX6_line_5 : decode cX6_line 5 = .ok (.astore_n 2, 1) := by decide +kernel
theorem dX6_line_6 : decode cX6_line 6 = .ok (.aload_n 0, 1) := by decide +kernel
theorem dX6_line_7 : decode cX6_line 7 = .ok (.getfield 48, 3) := by decide +kernel
theorem dX6_line_10 : decode cX6_line 10 = .ok (.iconst 0, 1) := by decide +kernel
theorem dX6_line_11 : decode cX6_line 11 = .ok (.invokevirtual 270, 3) := by decide +kernel
theorem dX6_line_14 : decode cX6_line 14 = .ok (.aload_n 0, 1) := by decide +kernel
theorem dX6_line_15 : decode cX6_line 15 = .ok (.getfield 48, 3) := by decide +kernel
theorem dX6_line_18 : decode cX6_line 18 = .ok (.iload_n 1, 1) := by decide +kernel
theorem dX6_line_19 : decode cX6_line 19 = .ok (.invokevirtual 274, 3) := by decide +kernel
theorem dX6_line_22 : decode cX6_line 22 = .ok (.bipush 58, 2) := by decide +kernel
theorem dX6_line_24 : decode cX6_line 24 = .ok (.invokevirtual 278, 3) := by decide +kernel
theorem dX6_line_27 : decode cX6_line 27 = .ok (.pop, 1) := by decide +kernel
theorem dX6_line_28 : decode cX6_line 28 = .ok (.iconst 0, 1) := by decide +kernel
theorem dX6_line_29 : decode cX6_line 29 = .ok (.istore_n 3, 1) := by decide +kernel
theorem dX6_line_30 : decode cX6_line 30 = .ok (.iload_n 3, 1) := by decide +kernel
theorem dX6_line_31 : decode cX6_line 31 = .ok (.aload_n 2, 1) := by decide +kernel
theorem dX6_line_32 : decode cX6_line 32 = .ok (.getfield 121, 3) := by decide +kernel
theorem dX6_line_35 : decode cX6_line 35 = .ok (.if_icmp .ge 79, 3) := by decide +kernel
theorem dX6_line_38 : decode cX6_line 38 = .ok (.aload_n 0, 1) := by decide +kernel
theorem dX6_line_39 : decode cX6_line 39 = .ok (.getfield 48, 3) := by decide +kernel
theorem dX6_line_42 : decode cX6_line 42 = .ok (.bipush 32, 2) := by decide +kernel
theorem dX6_line_44 : decode cX6_line 44 = .ok (.invokevirtual 278, 3) := by decide +kernel
theorem dX6_line_47 : decode cX6_line 47 = .ok (.aload_n 2, 1) := by decide +kernel
theorem dX6_line_48 : decode cX6_line 48 = .ok (.getfield 147, 3) := by decide +kernel
theorem dX6_line_51 : decode cX6_line 51 = .ok (.iload_n 3, 1) := by decide +kernel
theorem dX6_line_52 : decode cX6_line 52 = .ok (.iaload, 1) := by decide +kernel
theorem dX6_line_53 : decode cX6_line 53 = .ok (.invokevirtual 274, 3) := by decide +kernel
theorem dX6_line_56 : decode cX6_line 56 = .ok (.bipush 45, 2) := by decide +kernel
theorem dX6_line_58 : decode cX6_line 58 = .ok (.invokevirtual 278, 3) := by decide +kernel
theorem dX6_line_61 : decode cX6_line 61 = .ok (.aload_n 2, 1) := by decide +kernel
theorem dX6_line_62 : decode cX6_line 62 = .ok (.getfield 150, 3) := by decide +kernel
theorem dX6_line_65 : decode cX6_line 65 = .ok (.iload_n 3, 1) := by decide +kernel
theorem dX6_line_66 : decode cX6_line 66 = .ok (.iaload, 1) := by decide +kernel
theorem dX6_line_67 : decode cX6_line 67 = .ok (.invokevirtual 274, 3) := by decide +kernel
theorem dX6_line_70 : decode cX6_line 70 = .ok (.pop, 1) := by decide +kernel
theorem dX6_line_71 : decode cX6_line 71 = .ok (.aload_n 2, 1) := by decide +kernel
theorem dX6_line_72 : decode cX6_line 72 = .ok (.getfield 156, 3) := by decide +kernel
theorem ab_k107_0 (K : ab_Kt) : ∀ q ∈ ab_l107_0, ab_OK K ab_mt ab_g107 q.1 q.2 := by
  unfold ab_l107_0
  exact List.forall_mem_cons.mpr ⟨ab_aload_n_ok dX6_line_0 rfl, List.forall_mem_cons.mpr ⟨ab_iload_n_ok dX6_line_1 rfl, List.forall_mem_cons.mpr ⟨ab_callV_ok' (G' := ab_g182) (C := RX6) (T := TX6) (N := 9) dX6_line_2 ab_m182 rfl rfl (by decide) (by decide) (ab_l4 ab_w770 ab_w771 ab_w772 ab_w2) ab_w773 rfl ⟨by decide, by decide, by decide +kernel⟩, List.forall_mem_cons.mpr ⟨ab_astore_n_ok dX6_line_5 rfl, List.forall_mem_cons.mpr ⟨ab_aload_n_ok dX6_line_6 rfl, List.forall_mem_cons.mpr ⟨ab_getf_ok (C := RX6) (T := TX6) (N := 9) (ci := 10) (k := 7) dX6_line_7 rfl ab_ic10 (by decide) ab_w346, List.forall_mem_cons.mpr ⟨ab_iconst_ok dX6_line_10 (by decide), List.forall_mem_cons.mpr ⟨ab_callV_ok' (G' := ab_g187) (C := RJ4) (T := TJ4) (N := 4) dX6_line_11 ab_m187 rfl rfl (by decide) (by decide) (ab_l4 ab_w792 ab_w793 ab_w794 ab_w342) ab_w795 rfl ⟨by decide, by decide, by decide +kernel⟩, List.forall_mem_cons.mpr ⟨ab_aload_n_ok dX6_line_14 rfl, List.forall_mem_cons.mpr ⟨ab_getf_ok (C := RX6) (T := TX6) (N := 9) (ci := 10) (k := 7) dX6_line_15 rfl ab_ic10 (by decide) ab_w346, List.forall_mem_cons.mpr ⟨ab_iload_n_ok dX6_line_18 rfl, List.forall_mem_cons.mpr ⟨ab_callV_ok' (G' := ab_g188) (C := RJ4) (T := TJ4) (N := 4) dX6_line_19 ab_m188 rfl rfl (by decide) (by decide) (ab_l4 ab_w796 ab_w797 ab_w798 ab_w342) ab_w799 rfl ⟨by decide, by decide, by decide +kernel⟩, List.forall_mem_cons.mpr ⟨ab_bipush_ok dX6_line_22 (by decide), List.forall_mem_cons.mpr ⟨ab_callV_ok' (G' := ab_g189) (C := RJ4) (T := TJ4) (N := 4) dX6_line_24 ab_m189 rfl rfl (by decide) (by decide) (ab_l4 ab_w800 ab_w801 ab_w802 ab_w342) ab_w803 rfl ⟨by decide, by decide, by decide +kernel⟩, List.forall_mem_cons.mpr ⟨ab_pop_ok dX6_line_27, List.forall_mem_cons.mpr ⟨ab_iconst_ok dX6_line_28 (by decide), List.forall_mem_cons.mpr ⟨ab_istore_n_ok dX6_line_29 rfl, List.forall_mem_cons.mpr ⟨ab_iload_n_ok dX6_line_30 rfl, List.forall_mem_cons.mpr ⟨ab_aload_n_ok dX6_line_31 rfl, List.forall_mem_cons.mpr ⟨ab_getf_ok (C := RX1) (T := TX1) (N := 13) (ci := 5) (k := 3) dX6_line_32 rfl ab_ic5 (by decide) ab_w804, List.forall_mem_cons.mpr ⟨ab_icmp_ge_ok dX6_line_35 (by decide), List.forall_mem_cons.mpr ⟨ab_aload_n_ok dX6_line_38 rfl, List.forall_mem_cons.mpr ⟨ab_getf_ok (C := RX6) (T := TX6) (N := 9) (ci := 10) (k := 7) dX6_line_39 rfl ab_ic10 (by decide) ab_w346, List.forall_mem_cons.mpr ⟨ab_bipush_ok dX6_line_42 (by decide), List.forall_mem_cons.mpr ⟨ab_callV_ok' (G' := ab_g189) (C := RJ4) (T := TJ4) (N := 4) dX6_line_44 ab_m189 rfl rfl (by decide) (by decide) (ab_l4 ab_w800 ab_w801 ab_w802 ab_w342) ab_w803 rfl ⟨by decide, by decide, by decide +kernel⟩, List.forall_mem_cons.mpr ⟨ab_aload_n_ok dX6_line_47 rfl, List.forall_mem_cons.mpr ⟨ab_getf_ok (C := RX1) (T := TX1) (N := 13) (ci := 5) (k := 8) dX6_line_48 rfl ab_ic5 (by decide) ab_w805, List.forall_mem_cons.mpr ⟨ab_iload_n_ok dX6_line_51 rfl, List.forall_mem_cons.mpr ⟨ab_ald0_ok dX6_line_52, List.forall_mem_cons.mpr ⟨ab_callV_ok' (G' := ab_g188) (C := RJ4) (T := TJ4) (N := 4) dX6_line_53 ab_m188 rfl rfl (by decide) (by decide) (ab_l4 ab_w796 ab_w797 ab_w798 ab_w342) ab_w799 rfl ⟨by decide, by decide, by decide +kernel⟩, List.forall_mem_cons.mpr ⟨ab_bipush_ok dX6_line_56 (by decide), List.forall_mem_cons.mpr ⟨ab_callV_ok' (G' := ab_g189) (C := RJ4) (T := TJ4) (N := 4) dX6_line_58 ab_m189 rfl rfl (by decide) (by decide) (ab_l4 ab_w800 ab_w801 ab_w802 ab_w342) ab_w803 rfl ⟨by decide, by decide, by decide +kernel⟩, List.forall_mem_cons.mpr ⟨ab_aload_n_ok dX6_line_61 rfl, List.forall_mem_cons.mpr ⟨ab_getf_ok (C := RX1) (T := TX1) (N := 13) (ci := 5) (k := 9) dX6_line_62 rfl ab_ic5 (by decide) ab_w806, List.forall_mem_cons.mpr ⟨ab_iload_n_ok dX6_line_65 rfl, List.forall_mem_cons.mpr ⟨ab_ald0_ok dX6_line_66, List.forall_mem_cons.mpr ⟨ab_callV_ok' (G' := ab_g188) (C := RJ4) (T := TJ4) (N := 4) dX6_line_67 ab_m188 rfl rfl (by decide) (by decide) (ab_l4 ab_w796 ab_w797 ab_w798 ab_w342) ab_w799 rfl ⟨by decide, by decide, by decide +kernel⟩, List.forall_mem_cons.mpr ⟨ab_pop_ok dX6_line_70, List.forall_mem_cons.mpr ⟨ab_aload_n_ok dX6_line_71 rfl, List.forall_mem_cons.mpr ⟨ab_getf_ok (C := RX1) (T := TX1) (N := 13) (ci := 5) (k := 11) dX6_line_72 rfl ab_ic5 (by decide) ab_w807, fun _ h => absurd h List.not_mem_nil⟩⟩⟩⟩⟩⟩⟩⟩⟩⟩⟩⟩⟩⟩⟩⟩⟩⟩⟩⟩⟩⟩⟩⟩⟩⟩⟩⟩⟩⟩⟩⟩⟩⟩⟩⟩⟩⟩⟩⟩
theorem dX6_line_75 : decode cX6_line 75 = .ok (.iload_n 3, 1) := by decide +kernel
theorem dX6_line_76 : decode cX6_line 76 = .ok (.baload, 1) := by decide +kernel
theorem dX6_line_77 : decode cX6_line 77 = .ok (.ifCond .eq 13, 3) := by decide +kernel
theorem dX6_line_80 : decode cX6_line 80 = .ok (.aload_n 0, 1) := by decide +kernel
theorem dX6_line_81 : decode cX6_line 81 = .ok (.getfield 48, 3) := by decide +kernel
theorem dX6_line_84 : decode cX6_line 84 = .ok (.bipush 33, 2) := by decide +kernel
theorem dX6_line_86 : decode cX6_line 86 = .ok (.invokevirtual 278, 3) := by decide +kernel
theorem dX6_line_89 : decode cX6_line 89 = .ok (.pop, 1) := by decide +kernel
theorem dX6_line_90 : decode cX6_line 90 = .ok (.iload_n 3, 1) := by decide +kernel
theorem dX6_line_91 : decode cX6_line 91 = .ok (.aload_n 2, 1) := by decide +kernel
theorem dX6_line_92 : decode cX6_line 92 = .ok (.getfield 124, 3) := by decide +kernel
theorem dX6_line_95 : decode cX6_line 95 = .ok (.if_icmp .ge 13, 3) := by decide +kernel
theorem dX6_line_98 : decode cX6_line 98 = .ok (.aload_n 0, 1) := by decide +kernel
theorem dX6_line_99 : decode cX6_line 99 = .ok (.getfield 48, 3) := by decide +kernel
theorem dX6_line_102 : decode cX6_line 102 = .ok (.bipush 115, 2) := by decide +kernel
theorem dX6_line_104 : decode cX6_line 104 = .ok (.invokevirtual 278, 3) := by decide +kernel
theorem dX6_line_107 : decode cX6_line 107 = .ok (.pop, 1) := by decide +kernel
theorem dX6_line_108 : decode cX6_line 108 = .ok (.iinc 3 1, 3) := by decide +kernel
theorem dX6_line_111 : decode cX6_line 111 = .ok (.goto (-81), 3) := by decide +kernel
theorem dX6_line_114 : decode cX6_line 114 = .ok (.aload_n 0, 1) := by decide +kernel
theorem dX6_line_115 : decode cX6_line 115 = .ok (.getfield 48, 3) := by decide +kernel
theorem dX6_line_118 : decode cX6_line 118 = .ok (.invokevirtual 281, 3) := by decide +kernel
theorem dX6_line_121 : decode cX6_line 121 = .ok (.ireturn, 1) := by decide +kernel
theorem ab_k107_1 (K : ab_Kt) : ∀ q ∈ ab_l107_1, ab_OK K ab_mt ab_g107 q.1 q.2 := by
  unfold ab_l107_1
  exact List.forall_mem_cons.mpr ⟨ab_iload_n_ok dX6_line_75 rfl, List.forall_mem_cons.mpr ⟨ab_ald1_ok dX6_line_76, List.forall_mem_cons.mpr ⟨ab_if_eq_ok dX6_line_77 (by decide), List.forall_mem_cons.mpr ⟨ab_aload_n_ok dX6_line_80 rfl, List.forall_mem_cons.mpr ⟨ab_getf_ok (C := RX6) (T := TX6) (N := 9) (ci := 10) (k := 7) dX6_line_81 rfl ab_ic10 (by decide) ab_w346, List.forall_mem_cons.mpr ⟨ab_bipush_ok dX6_line_84 (by decide), List.forall_mem_cons.mpr ⟨ab_callV_ok' (G' := ab_g189) (C := RJ4) (T := TJ4) (N := 4) dX6_line_86 ab_m189 rfl rfl (by decide) (by decide) (ab_l4 ab_w800 ab_w801 ab_w802 ab_w342) ab_w803 rfl ⟨by decide, by decide, by decide +kernel⟩, List.forall_mem_cons.mpr ⟨ab_pop_ok dX6_line_89, List.forall_mem_cons.mpr ⟨ab_iload_n_ok dX6_line_90 rfl, List.forall_mem_cons.mpr ⟨ab_aload_n_ok dX6_line_91 rfl, List.forall_mem_cons.mpr ⟨ab_getf_ok (C := RX1) (T := TX1) (N := 13) (ci := 5) (k := 4) dX6_line_92 rfl ab_ic5 (by decide) ab_w808, List.forall_mem_cons.mpr ⟨ab_icmp_ge_ok dX6_line_95 (by decide), List.forall_mem_cons.mpr ⟨ab_aload_n_ok dX6_line_98 rfl, List.forall_mem_cons.mpr ⟨ab_getf_ok (C := RX6) (T := TX6) (N := 9) (ci := 10) (k := 7) dX6_line_99 rfl ab_ic10 (by decide) ab_w346, List.forall_mem_cons.mpr ⟨ab_bipush_ok dX6_line_102 (by decide), List.forall_mem_cons.mpr ⟨ab_callV_ok' (G' := ab_g189) (C := RJ4) (T := TJ4) (N := 4) dX6_line_104 ab_m189 rfl rfl (by decide) (by decide) (ab_l4 ab_w800 ab_w801 ab_w802 ab_w342) ab_w803 rfl ⟨by decide, by decide, by decide +kernel⟩, List.forall_mem_cons.mpr ⟨ab_pop_ok dX6_line_107, List.forall_mem_cons.mpr ⟨ab_iinc_ok dX6_line_108 (by decide), List.forall_mem_cons.mpr ⟨ab_goto_ok dX6_line_111 (by decide), List.forall_mem_cons.mpr ⟨ab_aload_n_ok dX6_line_114 rfl, List.forall_mem_cons.mpr ⟨ab_getf_ok (C := RX6) (T := TX6) (N := 9) (ci := 10) (k := 7) dX6_line_115 rfl ab_ic10 (by decide) ab_w346, List.forall_mem_cons.mpr ⟨ab_callV_ok' (G' := ab_g185) (C := RJ4) (T := TJ4) (N := 4) dX6_line_118 ab_m185 rfl rfl (by decide) (by decide) (ab_l4 ab_w782 ab_w783 ab_w784 ab_w342) ab_w785 rfl ⟨by decide, by decide, by decide +kernel⟩, List.forall_mem_cons.mpr ⟨ab_iret_ok dX6_line_121 rfl, fun _ h => absurd h List.not_mem_nil⟩⟩⟩⟩⟩⟩⟩⟩⟩⟩⟩⟩⟩⟩⟩⟩⟩⟩⟩⟩⟩⟩⟩
theorem ab_k107 (K : ab_Kt) : ∀ pc, ab_OK K ab_mt ab_g107 pc (ab_c107 pc) := ab_lk2_ok _ (List.forall_mem_cons.mpr ⟨ab_k107_0 K, List.forall_mem_cons.mpr ⟨ab_k107_1 K, fun _ h => absurd h List.not_mem_nil⟩⟩)
theorem dX7_writesNumber_0 : decode cX7_writesNumber 0 = .ok (.iload_n 1, 1) := by decide +kernel
theorem dX7_writesNumber_1 : decode cX7_writesNumber 1 = .ok (.bipush 99, 2) := by decide +kernel
theorem dX7_writesNumber_3 : decode cX7_writesNumber 3 = .ok (.if_icmp .le 14, 3) := by decide +kernel
theorem dX7_writesNumber_6 : decode cX7_writesNumber 6 = .ok (.aload_n 0, 1) := by decide +kernel
theorem dX7_writesNumber_7 : decode cX7_writesNumber 7 = .ok (.bipush 48, 2) := by decide +kernel
theorem dX7_writesNumber_9 : decode cX7_writesNumber 9 = .ok (.iload_n 1, 1) := by decide +kernel
theorem dX7_writesNumber_10 : decode cX7_writesNumber 10 = .ok (.bipush 100, 2) := by decide +kernel
theorem dX7_writesNumber_12 : decode cX7_writesNumber 12 = .ok (.idiv, 1) := by decide +kernel
theorem dX7_writesNumber_13 : decode cX7_writesNumber 13 = .ok (.iadd, 1) := by decide +kernel
theorem dX7_writesNumber_14 : decode cX7_writesNumber 14 = .ok (.invokevirtual 236, 3) := by decide +kernel
theorem dX7_writesNumber_17 : decode cX7_writesNumber 17 = .ok (.iload_n 1, 1) := by decide +kernel
theorem dX7_writesNumber_18 : decode cX7_writesNumber 18 = .ok (.bipush 9, 2) := by decide +kernel
theorem dX7_writesNumber_20 : decode cX7_writesNumber 20 = .ok (.if_icmp .le 17, 3) := by decide +kernel
theorem dX7_writesNumber_23 : decode cX7_writesNumber 23 = .ok (.aload_n 0, 1) := by decide +kernel
theorem dX7_writesNumber_24 : decode cX7_writesNumber 24 = .ok (.bipush 48, 2) := by decide +kernel
theorem dX7_writesNumber_26 : decode cX7_writesNumber 26 = .ok (.iload_n 1, 1) := by decide +kernel
theorem dX7_writesNumber_27 : decode cX7_writesNumber 27 = .ok (.bipush 10, 2) := by decide +kernel
theorem dX7_writesNumber_29 : decode cX7_writesNumber 29 = .ok (.idiv, 1) := by decide +kernel
theorem dX7_writesNumber_30 : decode cX7_writesNumber 30 = .ok (.bipush 10, 2) := by decide +kernel
theorem dX7_writesNumber_32 : decode cX7_writesNumber 32 = .ok (.irem, 1) := by decide +kernel
theorem dX7_writesNumber_33 : decode cX7_writesNumber 33 = .ok (.iadd, 1) := by decide +kernel
theorem dX7_writesNumber_34 : decode cX7_writesNumber 34 = .ok (.invokevirtual 236, 3) := by decide +kernel
theorem dX7_writesNumber_37 : decode cX7_writesNumber 37 = .ok (.aload_n 0, 1) := by decide +kernel
theorem dX7_writesNumber_38 : decode cX7_writesNumber 38 = .ok (.bipush 48, 2) := by decide +kernel
theorem dX7_writesNumber_40 : decode cX7_writesNumber 40 = .ok (.iload_n 1, 1) := by decide +kernel
theorem dX7_writesNumber_41 : decode cX7_writesNumber 41 = .ok (.bipush 10, 2) := by decide +kernel
theorem dX7_writesNumber_43 : decode cX7_writesNumber 43 = .ok (.irem, 1) := by decide +kernel
theorem dX7_writesNumber_44 : decode cX7_writesNumber 44 = .ok (.iadd, 1) := by decide +kernel
theorem dX7_writesNumber_45 : decode cX7_writesNumber 45 = .ok (.invokevirtual 236, 3) := by decide +kernel
theorem dX7_writesNumber_48 : decode cX7_writesNumber 48 = .ok (.return_, 1) := by decide +kernel
theorem ab_k108_0 (K : ab_Kt) : ∀ q ∈ ab_l108_0, ab_OK K ab_mt ab_g108 q.1 q.2 := by
  unfold ab_l108_0
  exact List.forall_mem_cons.mpr ⟨ab_iload_n_ok dX7_writesNumber_0 rfl, List.forall_mem_cons.mpr ⟨ab_bipush_ok dX7_writesNumber_1 (by decide), List.forall_mem_cons.mpr ⟨ab_icmp_le_ok dX7_writesNumber_3 (by decide), List.forall_mem_cons.mpr ⟨ab_aload_n_ok dX7_writesNumber_6 rfl, List.forall_mem_cons.mpr ⟨ab_bipush_ok dX7_writesNumber_7 (by decide), List.forall_mem_cons.mpr ⟨ab_iload_n_ok dX7_writesNumber_9 rfl, List.forall_mem_cons.mpr ⟨ab_bipush_ok dX7_writesNumber_10 (by decide), List.forall_mem_cons.mpr ⟨ab_idiv_ok dX7_writesNumber_12, List.forall_mem_cons.mpr ⟨ab_iadd_ok dX7_writesNumber_13, List.forall_mem_cons.mpr ⟨ab_callV_ok' (G' := ab_g109) (C := RX7) (T := TX7) (N := 19) dX7_writesNumber_14 ab_m109 rfl rfl (by decide) (by decide) (ab_l4 ab_w436 ab_w437 ab_w438 ab_w8) ab_w439 rfl ⟨by decide, by decide, by decide +kernel⟩, List.forall_mem_cons.mpr ⟨ab_iload_n_ok dX7_writesNumber_17 rfl, List.forall_mem_cons.mpr ⟨ab_bipush_ok dX7_writesNumber_18 (by decide), List.forall_mem_cons.mpr ⟨ab_icmp_le_ok dX7_writesNumber_20 (by decide), List.forall_mem_cons.mpr ⟨ab_aload_n_ok dX7_writesNumber_23 rfl, List.forall_mem_cons.mpr ⟨ab_bipush_ok dX7_writesNumber_24 (by decide), List.forall_mem_cons.mpr ⟨ab_iload_n_ok dX7_writesNumber_26 rfl, List.forall_mem_cons.mpr ⟨ab_bipush_ok dX7_writesNumber_27 (by decide), List.forall_mem_cons.mpr ⟨ab_idiv_ok dX7_writesNumber_29, List.forall_mem_cons.mpr ⟨ab_bipush_ok dX7_writesNumber_30 (by decide), List.forall_mem_cons.mpr ⟨ab_irem_ok dX7_writesNumber_32, List.forall_mem_cons.mpr ⟨ab_iadd_ok dX7_writesNumber_33, List.forall_mem_cons.mpr ⟨ab_callV_ok' (G' := ab_g109) (C := RX7) (T := TX7) (N := 19) dX7_writesNumber_34 ab_m109 rfl rfl (by decide) (by decide) (ab_l4 ab_w436 ab_w437 ab_w438 ab_w8) ab_w439 rfl ⟨by decide, by decide, by decide +kernel⟩, List.forall_mem_cons.mpr ⟨ab_aload_n_ok dX7_writesNumber_37 rfl, List.forall_mem_cons.mpr ⟨ab_bipush_ok dX7_writesNumber_38 (by decide), List.forall_mem_cons.mpr ⟨ab_iload_n_ok dX7_writesNumber_40 rfl, List.forall_mem_cons.mpr ⟨ab_bipush_ok dX7_writesNumber_41 (by decide), List.forall_mem_cons.mpr ⟨ab_irem_ok dX7_writesNumber_43, List.forall_mem_cons.mpr ⟨ab_iadd_ok dX7_writesNumber_44, List.forall_mem_cons.mpr ⟨ab_callV_ok' (G' := ab_g109) (C := RX7) (T := TX7) (N := 19) dX7_writesNumber_45 ab_m109 rfl rfl (by decide) (by decide) (ab_l4 ab_w436 ab_w437 ab_w438 ab_w8) ab_w439 rfl ⟨by decide, by decide, by decide +kernel⟩, List.forall_mem_cons.mpr ⟨ab_vret_ok dX7_writesNumber_48 rfl, fun _ h => absurd h List.not_mem_nil⟩⟩⟩⟩⟩⟩⟩⟩⟩⟩⟩⟩⟩⟩⟩⟩⟩⟩⟩⟩⟩⟩⟩⟩⟩⟩⟩⟩⟩⟩
theorem ab_k108 (K : ab_Kt) : ∀ pc, ab_OK K ab_mt ab_g108 pc (ab_c108 pc) := ab_lk2_ok _ (List.forall_mem_cons.mpr ⟨ab_k108_0 K, fun _ h => absurd h List.not_mem_nil⟩)
theorem dX7_writes_0 : decode cX7_writes 0 = .ok (.aload_n 0, 1) := by decide +kernel
theorem dX7_writes_1 : decode cX7_writes 1 = .ok (.getfield 29, 3) := by decide +kernel
theorem dX7_writes_4 : decode cX7_writes 4 = .ok (.aload_n 0, 1) := by decide +kernel
theorem dX7_writes_5 : decode cX7_writes 5 = .ok (.getfield 233, 3) := by decide +kernel
theorem dX7_writes_8 : decode cX7_writes 8 = .ok (.iload_n 1, 1) := by decide +kernel
theorem dX7_writes_9 : decode cX7_writes 9 = .ok (.i2c, 1) := by decide +kernel
theorem dX7_writes_10 : decode cX7_writes 10 = .ok (.castore, 1) := by decide +kernel
theorem dX7_writes_11 : decode cX7_writes 11 = .ok (.aload_n 0, 1) := by decide +kernel
theorem dX7_writes_12 : decode cX7_writes 12 = .ok (.dup, 1) := by decide +kernel
theorem dX7_writes_13 : decode cX7_writes 13 = .ok (.getfield 233, 3) := by decide +kernel
theorem dX7_writes_16 : decode cX7_writes 16 = .ok (.iconst 1, 1) := by decide +kernel
theorem dX7_writes_17 : decode cX7_writes 17 = .ok (.iadd, 1) := by decide +kernel
theorem dX7_writes_18 : decode cX7_writes 18 = .ok (.putfield 233, 3) := by decide +kernel
theorem dX7_writes_21 : decode cX7_writes 21 = .ok (.return_, 1) := by decide +kernel
theorem ab_k109_0 (K : ab_Kt) : ∀ q ∈ ab_l109_0, ab_OK K ab_mt ab_g109 q.1 q.2 := by
  unfold ab_l109_0
  exact List.forall_mem_cons.mpr ⟨ab_aload_n_ok dX7_writes_0 rfl, List.forall_mem_cons.mpr ⟨ab_getf_ok (C := RX7) (T := TX7) (N := 19) (ci := 11) (k := 14) dX7_writes_1 rfl ab_ic11 (by decide) ab_w357, List.forall_mem_cons.mpr ⟨ab_aload_n_ok dX7_writes_4 rfl, List.forall_mem_cons.mpr ⟨ab_getf_ok (C := RX7) (T := TX7) (N := 19) (ci := 11) (k := 15) dX7_writes_5 rfl ab_ic11 (by decide) ab_w427, List.forall_mem_cons.mpr ⟨ab_iload_n_ok dX7_writes_8 rfl, List.forall_mem_cons.mpr ⟨ab_i2c_ok dX7_writes_9, List.forall_mem_cons.mpr ⟨ab_ast3_ok dX7_writes_10, List.forall_mem_cons.mpr ⟨ab_aload_n_ok dX7_writes_11 rfl, List.forall_mem_cons.mpr ⟨ab_dup_ok dX7_writes_12, List.forall_mem_cons.mpr ⟨ab_getf_ok (C := RX7) (T := TX7) (N := 19) (ci := 11) (k := 15) dX7_writes_13 rfl ab_ic11 (by decide) ab_w427, List.forall_mem_cons.mpr ⟨ab_iconst_ok dX7_writes_16 (by decide), List.forall_mem_cons.mpr ⟨ab_iadd_ok dX7_writes_17, List.forall_mem_cons.mpr ⟨ab_putf_ok (C := RX7) (T := TX7) (N := 19) (ci := 11) (k := 15) (ty0 := tyX7) dX7_writes_18 rfl ab_ic11 tyX7_ok nmX7 (by decide) ab_w427 rfl (Or.inl rfl), List.forall_mem_cons.mpr ⟨ab_vret_ok dX7_writes_21 rfl, fun _ h => absurd h List.not_mem_nil⟩⟩⟩⟩⟩⟩⟩⟩⟩⟩⟩⟩⟩⟩
theorem ab_k109 (K : ab_Kt) : ∀ pc, ab_OK K ab_mt ab_g109 pc (ab_c109 pc) := ab_lk2_ok _ (List.forall_mem_cons.mpr ⟨ab_k109_0 K, fun _ h => absurd h List.not_mem_nil⟩)
theorem dX7_of_0 : decode cX7_of 0 = .ok (.aload_n 0, 1) := by decide +kernel
theorem dX7_of_1 : decode cX7_of 1 = .ok (.getfield 7, 3) := by decide +kernel
theorem dX7_of_4 : decode cX7_of 4 = .ok (.bipush 16, 2) := by decide +kernel
theorem dX7_of_6 : decode cX7_of 6 = .ok (.bipush 51, 2) := by decide +kernel
theorem dX7_of_8 : decode cX7_of 8 = .ok (.iload_n 1, 1) := by decide +kernel
theorem dX7_of_9 : decode cX7_of 9 = .ok (.imul, 1) := by decide +kernel
theorem dX7_of_10 : decode cX7_of 10 = .ok (.iadd, 1) := by decide +kernel
theorem dX7_of_11 : decode cX7_of 11 = .ok (.iload_n 2, 1) := by decide +kernel
theorem dX7_of_12 : decode cX7_of 12 = .ok (.iadd, 1) := by decide +kernel
theorem dX7_of_13 : decode cX7_of 13 = .ok (.iaload, 1) := by decide +kernel
theorem dX7_of_14 : decode cX7_of 14 = .ok (.ireturn, 1) := by decide +kernel
theorem ab_k110_0 (K : ab_Kt) : ∀ q ∈ ab_l110_0, ab_OK K ab_mt ab_g110 q.1 q.2 := by
  unfold ab_l110_0
  exact List.forall_mem_cons.mpr ⟨ab_aload_n_ok dX7_of_0 rfl, List.forall_mem_cons.mpr ⟨ab_getf_ok (C := RX7) (T := TX7) (N := 19) (ci := 11) (k := 0) dX7_of_1 rfl ab_ic11 (by decide) ab_w350, List.forall_mem_cons.mpr ⟨ab_bipush_ok dX7_of_4 (by decide), List.forall_mem_cons.mpr ⟨ab_bipush_ok dX7_of_6 (by decide), List.forall_mem_cons.mpr ⟨ab_iload_n_ok dX7_of_8 rfl, List.forall_mem_cons.mpr ⟨ab_imul_ok dX7_of_9, List.forall_mem_cons.mpr ⟨ab_iadd_ok dX7_of_10, List.forall_mem_cons.mpr ⟨ab_iload_n_ok dX7_of_11 rfl, List.forall_mem_cons.mpr ⟨ab_iadd_ok dX7_of_12, List.forall_mem_cons.mpr ⟨ab_ald0_ok dX7_of_13, List.forall_mem_cons.mpr ⟨ab_iret_ok dX7_of_14 rfl, fun _ h => absurd h List.not_mem_nil⟩⟩⟩⟩⟩⟩⟩⟩⟩⟩⟩
theorem ab_k110 (K : ab_Kt) : ∀ pc, ab_OK K ab_mt ab_g110 pc (ab_c110 pc) := ab_lk2_ok _ (List.forall_mem_cons.mpr ⟨ab_k110_0 K, fun _ h => absurd h List.not_mem_nil⟩)
theorem dX7_sign_0 : decode cX7_sign 0 = .ok (.aload_n 0, 1) := by decide +kernel
theorem dX7_sign_1 : decode cX7_sign 1 = .ok (.iload_n 1, 1) := by decide +kernel
theorem dX7_sign_2 : decode cX7_sign 2 = .ok (.bipush 7, 2) := by decide +kernel
theorem dX7_sign_4 : decode cX7_sign 4 = .ok (.iconst 3, 1) := by decide +kernel
theorem dX7_sign_5 : decode cX7_sign 5 = .ok (.iload_n 2, 1) := by decide +kernel
theorem dX7_sign_6 : decode cX7_sign 6 = .ok (.imul, 1) := by decide +kernel
theorem dX7_sign_7 : decode cX7_sign 7 = .ok (.iadd, 1) := by decide +kernel
theorem dX7_sign_8 : decode cX7_sign 8 = .ok (.iload_n 3, 1) := by decide +kernel
theorem dX7_sign_9 : decode cX7_sign 9 = .ok (.iadd, 1) := by decide +kernel
theorem dX7_sign_10 : decode cX7_sign 10 = .ok (.invokevirtual 63, 3) := by decide +kernel
theorem dX7_sign_13 : decode cX7_sign 13 = .ok (.ireturn, 1) := by decide +kernel
theorem ab_k111_0 (K : ab_Kt) : ∀ q ∈ ab_l111_0, ab_OK K ab_mt ab_g111 q.1 q.2 := by
  unfold ab_l111_0
  exact List.forall_mem_cons.mpr ⟨ab_aload_n_ok dX7_sign_0 rfl, List.forall_mem_cons.mpr ⟨ab_iload_n_ok dX7_sign_1 rfl, List.forall_mem_cons.mpr ⟨ab_bipush_ok dX7_sign_2 (by decide), List.forall_mem_cons.mpr ⟨ab_iconst_ok dX7_sign_4 (by decide), List.forall_mem_cons.mpr ⟨ab_iload_n_ok dX7_sign_5 rfl, List.forall_mem_cons.mpr ⟨ab_imul_ok dX7_sign_6, List.forall_mem_cons.mpr ⟨ab_iadd_ok dX7_sign_7, List.forall_mem_cons.mpr ⟨ab_iload_n_ok dX7_sign_8 rfl, List.forall_mem_cons.mpr ⟨ab_iadd_ok dX7_sign_9, List.forall_mem_cons.mpr ⟨ab_callV_ok' (G' := ab_g110) (C := RX7) (T := TX7) (N := 19) dX7_sign_10 ab_m110 rfl rfl (by decide) (by decide) (ab_l4 ab_w440 ab_w441 ab_w442 ab_w8) ab_w443 rfl ⟨by decide, by decide, by decide +kernel⟩, List.forall_mem_cons.mpr ⟨ab_iret_ok dX7_sign_13 rfl, fun _ h => absurd h List.not_mem_nil⟩⟩⟩⟩⟩⟩⟩⟩⟩⟩⟩
theorem ab_k111 (K : ab_Kt) : ∀ pc, ab_OK K ab_mt ab_g111 pc (ab_c111 pc) := ab_lk2_ok _ (List.forall_mem_cons.mpr ⟨ab_k111_0 K, fun _ h => absurd h List.not_mem_nil⟩)
theorem dX7_pagesIn_0 : decode cX7_pagesIn 0 = .ok (.iconst 2, 1) := by decide +kernel
theorem dX7_pagesIn_1 : decode cX7_pagesIn 1 = .ok (.aload_n 0, 1) := by decide +kernel
theorem dX7_pagesIn_2 : decode cX7_pagesIn 2 = .ok (.iload_n 1, 1) := by decide +kernel
theorem dX7_pagesIn_3 : decode cX7_pagesIn 3 = .ok (.iload_n 2, 1) := by decide +kernel
theorem dX7_pagesIn_4 : decode cX7_pagesIn 4 = .ok (.iconst 1, 1) := by decide +kernel
theorem dX7_pagesIn_5 : decode cX7_pagesIn 5 = .ok (.invokevirtual 67, 3) := by decide +kernel
theorem dX7_pagesIn_8 : decode cX7_pagesIn 8 = .ok (.ishl, 1) := by decide +kernel
theorem dX7_pagesIn_9 : decode cX7_pagesIn 9 = .ok (.ireturn, 1) := by decide +kernel
theorem ab_k112_0 (K : ab_Kt) : ∀ q ∈ ab_l112_0, ab_OK K ab_mt ab_g112 q.1 q.2 := by
  unfold ab_l112_0
  exact List.forall_mem_cons.mpr ⟨ab_iconst_ok dX7_pagesIn_0 (by decide), List.forall_mem_cons.mpr ⟨ab_aload_n_ok dX7_pagesIn_1 rfl, List.forall_mem_cons.mpr ⟨ab_iload_n_ok dX7_pagesIn_2 rfl, List.forall_mem_cons.mpr ⟨ab_iload_n_ok dX7_pagesIn_3 rfl, List.forall_mem_cons.mpr ⟨ab_iconst_ok dX7_pagesIn_4 (by decide), List.forall_mem_cons.mpr ⟨ab_callV_ok' (G' := ab_g111) (C := RX7) (T := TX7) (N := 19) dX7_pagesIn_5 ab_m111 rfl rfl (by decide) (by decide) (ab_l4 ab_w444 ab_w445 ab_w446 ab_w8) ab_w447 rfl ⟨by decide, by decide, by decide +kernel⟩, List.forall_mem_cons.mpr ⟨ab_ishl_ok dX7_pagesIn_8, List.forall_mem_cons.mpr ⟨ab_iret_ok dX7_pagesIn_9 rfl, fun _ h => absurd h List.not_mem_nil⟩⟩⟩⟩⟩⟩⟩⟩
theorem ab_k112 (K : ab_Kt) : ∀ pc, ab_OK K ab_mt ab_g112 pc (ab_c112 pc) := ab_lk2_ok _ (List.forall_mem_cons.mpr ⟨ab_k112_0 K, fun _ h => absurd h List.not_mem_nil⟩)
theorem dX6_reason_0 : decode cX6_reason 0 = .ok (.iload_n 1, 1) := by decide +kernel
theorem dX6_reason_1 : decode cX6_reason 1 = .ok (.ifCond .lt 8, 3) := by decide +kernel
theorem dX6_reason_4 : decode cX6_reason 4 = .ok (.iload_n 1, 1) := by decide +kernel
theorem dX6_reason_5 : decode cX6_reason 5 = .ok (.iconst 2, 1) := by decide +kernel
theorem dX6_reason_6 : decode cX6_reason 6 = .ok (.if_icmp .le 11, 3) := by decide +kernel
theorem dX6_reason_9 : decode cX6_reason 9 = .ok (.new 140, 3) := by decide +kernel
theorem dX6_reason_12 : decode cX6_reason 12 = .ok (.dup, 1) := by decide +kernel
theorem dX6_reason_13 : decode cX6_reason 13 = .ok (.invokespecial 142, 3) := by decide +kernel
theorem dX6_reason_16 : decode cX6_reason 16 = .ok (.athrow, 1) := by decide +kernel
theorem dX6_reason_17 : decode cX6_reason 17 = .ok (.aload_n 0, 1) := by decide +kernel
theorem dX6_reason_18 : decode cX6_reason 18 = .ok (.getfield 10, 3) := by decide +kernel
theorem dX6_reason_21 : decode cX6_reason 21 = .ok (.getfield 261, 3) := by decide +kernel
theorem dX6_reason_24 : decode cX6_reason 24 = .ok (.ifCond .ne 11, 3) := by decide +kernel
theorem dX6_reason_27 : decode cX6_reason 27 = .ok (.new 179, 3) := by decide +kernel
theorem dX6_reason_30 : decode cX6_reason 30 = .ok (.dup, 1) := by decide +kernel
theorem dX6_reason_31 : decode cX6_reason 31 = .ok (.invokespecial 181, 3) := by decide +kernel
theorem dX6_reason_34 : decode cX6_reason 34 = .ok (.athrow, 1) := by decide +kernel
theorem dX6_reason_35 : decode cX6_reason 35 = .ok (.iload_n 1, 1) := by decide +kernel
theorem dX6_reason_36 : decode cX6_reason 36 = .ok (.ifCond .ne 11, 3) := by decide +kernel
theorem dX6_reason_39 : decode cX6_reason 39 = .ok (.aload_n 0, 1) := by decide +kernel
theorem dX6_reason_40 : decode cX6_reason 40 = .ok (.getfield 10, 3) := by decide +kernel
theorem dX6_reason_43 : decode cX6_reason 43 = .ok (.getfield 261, 3) := by decide +kernel
theorem dX6_reason_46 : decode cX6_reason 46 = .ok (.ireturn, 1) := by decide +kernel
theorem dX6_reason_47 : decode cX6_reason 47 = .ok (.iload_n 1, 1) := by decide +kernel
theorem dX6_reason_48 : decode cX6_reason 48 = .ok (.iconst 1, 1) := by decide +kernel
theorem dX6_reason_49 : decode cX6_reason 49 = .ok (.if_icmp .ne 13, 3) := by decide +kernel
theorem dX6_reason_52 : decode cX6_reason 52 = .ok (.aload_n 0, 1) := by decide +kernel
theorem dX6_reason_53 : decode cX6_reason 53 = .ok (.getfield 10, 3) := by decide +kernel
theorem dX6_reason_56 : decode cX6_reason 56 = .ok (.getfield 264, 3) := by decide +kernel
theorem dX6_reason_59 : decode cX6_reason 59 = .ok (.goto 10, 3) := by decide +kernel
theorem dX6_reason_62 : decode cX6_reason 62 = .ok (.aload_n 0, 1) := by decide +kernel
theorem dX6_reason_63 : decode cX6_reason 63 = .ok (.getfield 10, 3) := by decide +kernel
theorem dX6_reason_66 : decode cX6_reason 66 = .ok (.getfield 267, 3) := by decide +kernel
theorem dX6_reason_69 : decode cX6_reason 69 = .ok (.ireturn, 1) := by decide +kernel
theorem ab_k113_0 (K : ab_Kt) : ∀ q ∈ ab_l113_0, ab_OK K ab_mt ab_g113 q.1 q.2 := by
  unfold ab_l113_0
  exact List.forall_mem_cons.mpr ⟨ab_iload_n_ok dX6_reason_0 rfl, List.forall_mem_cons.mpr ⟨ab_if_lt_ok dX6_reason_1 (by decide), List.forall_mem_cons.mpr ⟨ab_iload_n_ok dX6_reason_4 rfl, List.forall_mem_cons.mpr ⟨ab_iconst_ok dX6_reason_5 (by decide), List.forall_mem_cons.mpr ⟨ab_icmp_le_ok dX6_reason_6 (by decide), List.forall_mem_cons.mpr ⟨ab_thr_ok (ik := 140) (ic := 142) (by decide +kernel) (ab_l2 ab_w750 ab_w751) ab_th_1 (by decide +kernel) dX6_reason_9 dX6_reason_12 dX6_reason_13 dX6_reason_16 rfl, List.forall_mem_cons.mpr ⟨ab_aload_n_ok dX6_reason_17 rfl, List.forall_mem_cons.mpr ⟨ab_getf_ok (C := RX6) (T := TX6) (N := 9) (ci := 10) (k := 0) dX6_reason_18 rfl ab_ic10 (by decide) ab_w316, List.forall_mem_cons.mpr ⟨ab_getf_ok (C := RX0) (T := TX0) (N := 5) (ci := 4) (k := 1) dX6_reason_21 rfl ab_ic4 (by decide) ab_w809, List.forall_mem_cons.mpr ⟨ab_if_ne_ok dX6_reason_24 (by decide), List.forall_mem_cons.mpr ⟨ab_thr_ok (ik := 179) (ic := 181) (by decide +kernel) (ab_l2 ab_w810 ab_w811) ab_th_4 (by decide +kernel) dX6_reason_27 dX6_reason_30 dX6_reason_31 dX6_reason_34 rfl, List.forall_mem_cons.mpr ⟨ab_iload_n_ok dX6_reason_35 rfl, List.forall_mem_cons.mpr ⟨ab_if_ne_ok dX6_reason_36 (by decide), List.forall_mem_cons.mpr ⟨ab_aload_n_ok dX6_reason_39 rfl, List.forall_mem_cons.mpr ⟨ab_getf_ok (C := RX6) (T := TX6) (N := 9) (ci := 10) (k := 0) dX6_reason_40 rfl ab_ic10 (by decide) ab_w316, List.forall_mem_cons.mpr ⟨ab_getf_ok (C := RX0) (T := TX0) (N := 5) (ci := 4) (k := 1) dX6_reason_43 rfl ab_ic4 (by decide) ab_w809, List.forall_mem_cons.mpr ⟨ab_iret_ok dX6_reason_46 rfl, List.forall_mem_cons.mpr ⟨ab_iload_n_ok dX6_reason_47 rfl, List.forall_mem_cons.mpr ⟨ab_iconst_ok dX6_reason_48 (by decide), List.forall_mem_cons.mpr ⟨ab_icmp_ne_ok dX6_reason_49 (by decide), List.forall_mem_cons.mpr ⟨ab_aload_n_ok dX6_reason_52 rfl, List.forall_mem_cons.mpr ⟨ab_getf_ok (C := RX6) (T := TX6) (N := 9) (ci := 10) (k := 0) dX6_reason_53 rfl ab_ic10 (by decide) ab_w316, List.forall_mem_cons.mpr ⟨ab_getf_ok (C := RX0) (T := TX0) (N := 5) (ci := 4) (k := 2) dX6_reason_56 rfl ab_ic4 (by decide) ab_w812, List.forall_mem_cons.mpr ⟨ab_goto_ok dX6_reason_59 (by decide), List.forall_mem_cons.mpr ⟨ab_aload_n_ok dX6_reason_62 rfl, List.forall_mem_cons.mpr ⟨ab_getf_ok (C := RX6) (T := TX6) (N := 9) (ci := 10) (k := 0) dX6_reason_63 rfl ab_ic10 (by decide) ab_w316, List.forall_mem_cons.mpr ⟨ab_getf_ok (C := RX0) (T := TX0) (N := 5) (ci := 4) (k := 3) dX6_reason_66 rfl ab_ic4 (by decide) ab_w813, List.forall_mem_cons.mpr ⟨ab_iret_ok dX6_reason_69 rfl, fun _ h => absurd h List.not_mem_nil⟩⟩⟩⟩⟩⟩⟩⟩⟩⟩⟩⟩⟩⟩⟩⟩⟩⟩⟩⟩⟩⟩⟩⟩⟩⟩⟩⟩
theorem ab_k113 (K : ab_Kt) : ∀ pc, ab_OK K ab_mt ab_g113 pc (ab_c113 pc) := ab_lk2_ok _ (List.forall_mem_cons.mpr ⟨ab_k113_0 K, fun _ h => absurd h List.not_mem_nil⟩)
theorem dX6_commands_0 : decode cX6_commands 0 = .ok (.aload_n 0, 1) := by decide +kernel
theorem dX6_commands_1 : decode cX6_commands 1 = .ok (.aload_n 0, 1) := by decide +kernel
theorem dX6_commands_2 : decode cX6_commands 2 = .ok (.getfield 37, 3) := by decide +kernel
theorem dX6_commands_5 : decode cX6_commands 5 = .ok (.invokevirtual 248, 3) := by decide +kernel
theorem dX6_commands_8 : decode cX6_commands 8 = .ok (.putfield 41, 3) := by decide +kernel
theorem dX6_commands_11 : decode cX6_commands 11 = .ok (.aload_n 0, 1) := by decide +kernel
theorem dX6_commands_12 : decode cX6_commands 12 = .ok (.getfield 41, 3) := by decide +kernel
theorem dX6_commands_15 : decode cX6_commands 15 = .ok (.iconst (-1), 1) := by decide +kernel
theorem dX6_commands_16 : decode cX6_commands 16 = .ok (.if_icmp .eq 18, 3) := by decide +kernel
theorem dX6_commands_19 : decode cX6_commands 19 = .ok (.aload_n 0, 1) := by decide +kernel
theorem dX6_commands_20 : decode cX6_commands 20 = .ok (.getfield 37, 3) := by decide +kernel
theorem dX6_commands_23 : decode cX6_commands 23 = .ok (.invokevirtual 251, 3) := by decide +kernel
theorem dX6_commands_26 : decode cX6_commands 26 = .ok (.new 140, 3) := by decide +kernel
theorem dX6_commands_29 : decode cX6_commands 29 = .ok (.dup, 1) := by decide +kernel
theorem dX6_commands_30 : decode cX6_commands 30 = .ok (.invokespecial 142, 3) := by decide +kernel
theorem dX6_commands_33 : decode cX6_commands 33 = .ok (.athrow, 1) := by decide +kernel
theorem dX6_commands_34 : decode cX6_commands 34 = .ok (.aload_n 0, 1) := by decide +kernel
theorem dX6_commands_35 : decode cX6_commands 35 = .ok (.getfield 24, 3) := by decide +kernel
theorem dX6_commands_38 : decode cX6_commands 38 = .ok (.aload_n 0, 1) := by decide +kernel
theorem dX6_commands_39 : decode cX6_commands 39 = .ok (.getfield 20, 3) := by decide +kernel
theorem dX6_commands_42 : decode cX6_commands 42 = .ok (.invokevirtual 56, 3) := by decide +kernel
theorem dX6_commands_45 : decode cX6_commands 45 = .ok (.aload_n 0, 1) := by decide +kernel
theorem dX6_commands_46 : decode cX6_commands 46 = .ok (.getfield 10, 3) := by decide +kernel
theorem dX6_commands_49 : decode cX6_commands 49 = .ok (.aload_n 0, 1) := by decide +kernel
theorem dX6_commands_50 : decode cX6_commands 50 = .ok (.getfield 37, 3) := by decide +kernel
theorem dX6_commands_53 : decode cX6_commands 53 = .ok (.invokevirtual 254, 3) := by decide +kernel
theorem dX6_commands_56 : decode cX6_commands 56 = .ok (.istore_n 1, 1) := by decide +kernel
theorem dX6_commands_57 : decode cX6_commands 57 = .ok (.aload_n 0, 1) := by decide +kernel
theorem dX6_commands_58 : decode cX6_commands 58 = .ok (.getfield 37, 3) := by decide +kernel
theorem dX6_commands_61 : decode cX6_commands 61 = .ok (.invokevirtual 251, 3) := by decide +kernel
theorem dX6_commands_64 : decode cX6_commands 64 = .ok (.iload_n 1, 1) := by decide +kernel
theorem dX6_commands_65 : decode cX6_commands 65 = .ok (.iconst (-1), 1) := by decide +kernel
theorem dX6_commands_66 : decode cX6_commands 66 = .ok (.if_icmp .ne 14, 3) := by decide +kernel
theorem dX6_commands_69 : decode cX6_commands 69 = .ok (.aload_n 0, 1) := by decide +kernel
theorem dX6_commands_70 : decode cX6_commands 70 = .ok (.getfield 24, 3) := by decide +kernel
theorem dX6_commands_73 : decode cX6_commands 73 = .ok (.aload_n 0, 1) := by decide +kernel
theorem dX6_commands_74 : decode cX6_commands 74 = .ok (.getfield 20, 3) := by decide +kernel
theorem dX6_commands_77 : decode cX6_commands 77 = .ok (.invokevirtual 258, 3) := by decide +kernel
theorem dX6_commands_80 : decode cX6_commands 80 = .ok (.aload_n 0, 1) := by decide +kernel
theorem dX6_commands_81 : decode cX6_commands 81 = .ok (.iload_n 1, 1) := by decide +kernel
theorem dX6_commands_82 : decode cX6_commands 82 = .ok (.invokevirtual 64, 3) := by decide +kernel
theorem dX6_commands_85 : decode cX6_commands 85 = .ok (.ireturn, 1) := by decide +kernel
theorem ab_k114_0 (K : ab_Kt) : ∀ q ∈ ab_l114_0, ab_OK K ab_mt ab_g114 q.1 q.2 := by
  unfold ab_l114_0
  exact List.forall_mem_cons.mpr ⟨ab_aload_n_ok dX6_commands_0 rfl, List.forall_mem_cons.mpr ⟨ab_aload_n_ok dX6_commands_1 rfl, List.forall_mem_cons.mpr ⟨ab_getf_ok (C := RX6) (T := TX6) (N := 9) (ci := 10) (k := 5) dX6_commands_2 rfl ab_ic10 (by decide) ab_w338, List.forall_mem_cons.mpr ⟨ab_callV_ok' (G' := ab_g190) (C := RX2) (T := TX2) (N := 8) dX6_commands_5 ab_m190 rfl rfl (by decide) (by decide) (ab_l4 ab_w814 ab_w815 ab_w816 ab_w335) ab_w817 rfl ⟨by decide, by decide, by decide +kernel⟩, List.forall_mem_cons.mpr ⟨ab_putf_ok (C := RX6) (T := TX6) (N := 9) (ci := 10) (k := 6) (ty0 := tyX6) dX6_commands_8 rfl ab_ic10 tyX6_ok nmX6 (by decide) ab_w339 rfl (Or.inl rfl), List.forall_mem_cons.mpr ⟨ab_aload_n_ok dX6_commands_11 rfl, List.forall_mem_cons.mpr ⟨ab_getf_ok (C := RX6) (T := TX6) (N := 9) (ci := 10) (k := 6) dX6_commands_12 rfl ab_ic10 (by decide) ab_w339, List.forall_mem_cons.mpr ⟨ab_iconst_ok dX6_commands_15 (by decide), List.forall_mem_cons.mpr ⟨ab_icmp_eq_ok dX6_commands_16 (by decide), List.forall_mem_cons.mpr ⟨ab_aload_n_ok dX6_commands_19 rfl, List.forall_mem_cons.mpr ⟨ab_getf_ok (C := RX6) (T := TX6) (N := 9) (ci := 10) (k := 5) dX6_commands_20 rfl ab_ic10 (by decide) ab_w338, List.forall_mem_cons.mpr ⟨ab_callV_ok' (G' := ab_g191) (C := RX2) (T := TX2) (N := 8) dX6_commands_23 ab_m191 rfl rfl (by decide) (by decide) (ab_l4 ab_w818 ab_w819 ab_w820 ab_w335) ab_w821 rfl ⟨by decide, by decide, by decide +kernel⟩, List.forall_mem_cons.mpr ⟨ab_thr_ok (ik := 140) (ic := 142) (by decide +kernel) (ab_l2 ab_w750 ab_w751) ab_th_1 (by decide +kernel) dX6_commands_26 dX6_commands_29 dX6_commands_30 dX6_commands_33 rfl, List.forall_mem_cons.mpr ⟨ab_aload_n_ok dX6_commands_34 rfl, List.forall_mem_cons.mpr ⟨ab_getf_ok (C := RX6) (T := TX6) (N := 9) (ci := 10) (k := 2) dX6_commands_35 rfl ab_ic10 (by decide) ab_w325, List.forall_mem_cons.mpr ⟨ab_aload_n_ok dX6_commands_38 rfl, List.forall_mem_cons.mpr ⟨ab_getf_ok (C := RX6) (T := TX6) (N := 9) (ci := 10) (k := 1) dX6_commands_39 rfl ab_ic10 (by decide) ab_w318, List.forall_mem_cons.mpr ⟨ab_callV_ok' (G' := ab_g192) (C := RX3) (T := TX3) (N := 3) dX6_commands_42 ab_m192 rfl rfl (by decide) (by decide) (ab_l4 ab_w822 ab_w823 ab_w824 ab_w321) ab_w825 rfl ⟨by decide, by decide, by decide +kernel⟩, List.forall_mem_cons.mpr ⟨ab_aload_n_ok dX6_commands_45 rfl, List.forall_mem_cons.mpr ⟨ab_getf_ok (C := RX6) (T := TX6) (N := 9) (ci := 10) (k := 0) dX6_commands_46 rfl ab_ic10 (by decide) ab_w316, List.forall_mem_cons.mpr ⟨ab_aload_n_ok dX6_commands_49 rfl, List.forall_mem_cons.mpr ⟨ab_getf_ok (C := RX6) (T := TX6) (N := 9) (ci := 10) (k := 5) dX6_commands_50 rfl ab_ic10 (by decide) ab_w338, List.forall_mem_cons.mpr ⟨ab_callV_ok' (G' := ab_g193) (C := RX0) (T := TX0) (N := 5) dX6_commands_53 ab_m193 rfl rfl (by decide) (by decide) (ab_l4 ab_w826 ab_w827 ab_w828 ab_w313) ab_w829 rfl ⟨by decide, by decide, by decide +kernel⟩, List.forall_mem_cons.mpr ⟨ab_istore_n_ok dX6_commands_56 rfl, List.forall_mem_cons.mpr ⟨ab_aload_n_ok dX6_commands_57 rfl, List.forall_mem_cons.mpr ⟨ab_getf_ok (C := RX6) (T := TX6) (N := 9) (ci := 10) (k := 5) dX6_commands_58 rfl ab_ic10 (by decide) ab_w338, List.forall_mem_cons.mpr ⟨ab_callV_ok' (G' := ab_g191) (C := RX2) (T := TX2) (N := 8) dX6_commands_61 ab_m191 rfl rfl (by decide) (by decide) (ab_l4 ab_w818 ab_w819 ab_w820 ab_w335) ab_w821 rfl ⟨by decide, by decide, by decide +kernel⟩, List.forall_mem_cons.mpr ⟨ab_iload_n_ok dX6_commands_64 rfl, List.forall_mem_cons.mpr ⟨ab_iconst_ok dX6_commands_65 (by decide), List.forall_mem_cons.mpr ⟨ab_icmp_ne_ok dX6_commands_66 (by decide), List.forall_mem_cons.mpr ⟨ab_aload_n_ok dX6_commands_69 rfl, List.forall_mem_cons.mpr ⟨ab_getf_ok (C := RX6) (T := TX6) (N := 9) (ci := 10) (k := 2) dX6_commands_70 rfl ab_ic10 (by decide) ab_w325, List.forall_mem_cons.mpr ⟨ab_aload_n_ok dX6_commands_73 rfl, List.forall_mem_cons.mpr ⟨ab_getf_ok (C := RX6) (T := TX6) (N := 9) (ci := 10) (k := 1) dX6_commands_74 rfl ab_ic10 (by decide) ab_w318, List.forall_mem_cons.mpr ⟨ab_callV_ok' (G' := ab_g194) (C := RX3) (T := TX3) (N := 3) dX6_commands_77 ab_m194 rfl rfl (by decide) (by decide) (ab_l4 ab_w830 ab_w831 ab_w832 ab_w321) ab_w833 rfl ⟨by decide, by decide, by decide +kernel⟩, List.forall_mem_cons.mpr ⟨ab_aload_n_ok dX6_commands_80 rfl, List.forall_mem_cons.mpr ⟨ab_iload_n_ok dX6_commands_81 rfl, List.forall_mem_cons.mpr ⟨ab_callV_ok' (G' := ab_g195) (C := RX6) (T := TX6) (N := 9) dX6_commands_82 ab_m195 rfl rfl (by decide) (by decide) (ab_l4 ab_w834 ab_w835 ab_w836 ab_w2) ab_w837 rfl ⟨by decide, by decide, by decide +kernel⟩, List.forall_mem_cons.mpr ⟨ab_iret_ok dX6_commands_85 rfl, fun _ h => absurd h List.not_mem_nil⟩⟩⟩⟩⟩⟩⟩⟩⟩⟩⟩⟩⟩⟩⟩⟩⟩⟩⟩⟩⟩⟩⟩⟩⟩⟩⟩⟩⟩⟩⟩⟩⟩⟩⟩⟩⟩⟩⟩
theorem ab_k114 (K : ab_Kt) : ∀ pc, ab_OK K ab_mt ab_g114 pc (ab_c114 pc) := ab_lk2_ok _ (List.forall_mem_cons.mpr ⟨ab_k114_0 K, fun _ h => absurd h List.not_mem_nil⟩)
theorem dX7_isText_0 : decode cX7_isText 0 = .ok (.aload_n 0, 1) := by decide +kernel
theorem dX7_isText_1 : decode cX7_isText 1 = .ok (.iconst 0, 1) := by decide +kernel
theorem dX7_isText_2 : decode cX7_isText 2 = .ok (.putfield 177, 3) := by decide +kernel
theorem dX7_isText_5 : decode cX7_isText 5 = .ok (.aload_n 0, 1) := by decide +kernel
theorem dX7_isText_6 : decode cX7_isText 6 = .ok (.iconst 0, 1) := by decide +kernel
theorem dX7_isText_7 : decode cX7_isText 7 = .ok (.putfield 189, 3) := by decide +kernel
theorem dX7_isText_10 : decode cX7_isText 10 = .ok (.aload_n 0, 1) := by decide +kernel
theorem dX7_isText_11 : decode cX7_isText 11 = .ok (.invokevirtual 195, 3) := by decide +kernel
theorem dX7_isText_14 : decode cX7_isText 14 = .ok (.ifCond .ne 5, 3) := by decide +kernel
theorem dX7_isText_17 : decode cX7_isText 17 = .ok (.iconst 0, 1) := by decide +kernel
theorem dX7_isText_18 : decode cX7_isText 18 = .ok (.ireturn, 1) := by decide +kernel
theorem dX7_isText_19 : decode cX7_isText 19 = .ok (.aload_n 0, 1) := by decide +kernel
theorem dX7_isText_20 : decode cX7_isText 20 = .ok (.dup, 1) := by decide +kernel
theorem dX7_isText_21 : decode cX7_isText 21 = .ok (.getfield 189, 3) := by decide +kernel
theorem dX7_isText_24 : decode cX7_isText 24 = .ok (.iconst 1, 1) := by decide +kernel
theorem dX7_isText_25 : decode cX7_isText 25 = .ok (.iadd, 1) := by decide +kernel
theorem dX7_isText_26 : decode cX7_isText 26 = .ok (.putfield 189, 3) := by decide +kernel
theorem dX7_isText_29 : decode cX7_isText 29 = .ok (.aload_n 0, 1) := by decide +kernel
theorem dX7_isText_30 : decode cX7_isText 30 = .ok (.bipush 59, 2) := by decide +kernel
theorem dX7_isText_32 : decode cX7_isText 32 = .ok (.invokevirtual 186, 3) := by decide +kernel
theorem dX7_isText_35 : decode cX7_isText 35 = .ok (.ifCond .ne (-25), 3) := by decide +kernel
theorem dX7_isText_38 : decode cX7_isText 38 = .ok (.aload_n 0, 1) := by decide +kernel
theorem dX7_isText_39 : decode cX7_isText 39 = .ok (.getfield 177, 3) := by decide +kernel
theorem dX7_isText_42 : decode cX7_isText 42 = .ok (.aload_n 0, 1) := by decide +kernel
theorem dX7_isText_43 : decode cX7_isText 43 = .ok (.getfield 174, 3) := by decide +kernel
theorem dX7_isText_46 : decode cX7_isText 46 = .ok (.if_icmp .ne 7, 3) := by decide +kernel
theorem dX7_isText_49 : decode cX7_isText 49 = .ok (.iconst 1, 1) := by decide +kernel
theorem dX7_isText_50 : decode cX7_isText 50 = .ok (.goto 4, 3) := by decide +kernel
theorem dX7_isText_53 : decode cX7_isText 53 = .ok (.iconst 0, 1) := by decide +kernel
theorem dX7_isText_54 : decode cX7_isText 54 = .ok (.ireturn, 1) := by decide +kernel
theorem ab_k115_0 (K : ab_Kt) : ∀ q ∈ ab_l115_0, ab_OK K ab_mt ab_g115 q.1 q.2 := by
  unfold ab_l115_0
  exact List.forall_mem_cons.mpr ⟨ab_aload_n_ok dX7_isText_0 rfl, List.forall_mem_cons.mpr ⟨ab_iconst_ok dX7_isText_1 (by decide), List.forall_mem_cons.mpr ⟨ab_putf_ok (C := RX7) (T := TX7) (N := 19) (ci := 11) (k := 16) (ty0 := tyX7) dX7_isText_2 rfl ab_ic11 tyX7_ok nmX7 (by decide) ab_w477 rfl (Or.inl rfl), List.forall_mem_cons.mpr ⟨ab_aload_n_ok dX7_isText_5 rfl, List.forall_mem_cons.mpr ⟨ab_iconst_ok dX7_isText_6 (by decide), List.forall_mem_cons.mpr ⟨ab_putf_ok (C := RX7) (T := TX7) (N := 19) (ci := 11) (k := 18) (ty0 := tyX7) dX7_isText_7 rfl ab_ic11 tyX7_ok nmX7 (by decide) ab_w468 rfl (Or.inl rfl), List.forall_mem_cons.mpr ⟨ab_aload_n_ok dX7_isText_10 rfl, List.forall_mem_cons.mpr ⟨ab_callV_ok' (G' := ab_g196) (C := RX7) (T := TX7) (N := 19) dX7_isText_11 ab_m196 rfl rfl (by decide) (by decide) (ab_l4 ab_w838 ab_w839 ab_w840 ab_w8) ab_w841 rfl ⟨by decide, by decide, by decide +kernel⟩, List.forall_mem_cons.mpr ⟨ab_if_ne_ok dX7_isText_14 (by decide), List.forall_mem_cons.mpr ⟨ab_iconst_ok dX7_isText_17 (by decide), List.forall_mem_cons.mpr ⟨ab_zret_ok dX7_isText_18 rfl, List.forall_mem_cons.mpr ⟨ab_aload_n_ok dX7_isText_19 rfl, List.forall_mem_cons.mpr ⟨ab_dup_ok dX7_isText_20, List.forall_mem_cons.mpr ⟨ab_getf_ok (C := RX7) (T := TX7) (N := 19) (ci := 11) (k := 18) dX7_isText_21 rfl ab_ic11 (by decide) ab_w468, List.forall_mem_cons.mpr ⟨ab_iconst_ok dX7_isText_24 (by decide), List.forall_mem_cons.mpr ⟨ab_iadd_ok dX7_isText_25, List.forall_mem_cons.mpr ⟨ab_putf_ok (C := RX7) (T := TX7) (N := 19) (ci := 11) (k := 18) (ty0 := tyX7) dX7_isText_26 rfl ab_ic11 tyX7_ok nmX7 (by decide) ab_w468 rfl (Or.inl rfl), List.forall_mem_cons.mpr ⟨ab_aload_n_ok dX7_isText_29 rfl, List.forall_mem_cons.mpr ⟨ab_bipush_ok dX7_isText_30 (by decide), List.forall_mem_cons.mpr ⟨ab_callV_ok' (G' := ab_g197) (C := RX7) (T := TX7) (N := 19) dX7_isText_32 ab_m197 rfl rfl (by decide) (by decide) (ab_l4 ab_w842 ab_w843 ab_w844 ab_w8) ab_w845 rfl ⟨by decide, by decide, by decide +kernel⟩, List.forall_mem_cons.mpr ⟨ab_if_ne_ok dX7_isText_35 (by decide), List.forall_mem_cons.mpr ⟨ab_aload_n_ok dX7_isText_38 rfl, List.forall_mem_cons.mpr ⟨ab_getf_ok (C := RX7) (T := TX7) (N := 19) (ci := 11) (k := 16) dX7_isText_39 rfl ab_ic11 (by decide) ab_w477, List.forall_mem_cons.mpr ⟨ab_aload_n_ok dX7_isText_42 rfl, List.forall_mem_cons.mpr ⟨ab_getf_ok (C := RX7) (T := TX7) (N := 19) (ci := 11) (k := 12) dX7_isText_43 rfl ab_ic11 (by decide) ab_w390, List.forall_mem_cons.mpr ⟨ab_icmp_ne_ok dX7_isText_46 (by decide), List.forall_mem_cons.mpr ⟨ab_iconst_ok dX7_isText_49 (by decide), List.forall_mem_cons.mpr ⟨ab_goto_ok dX7_isText_50 (by decide), List.forall_mem_cons.mpr ⟨ab_iconst_ok dX7_isText_53 (by decide), List.forall_mem_cons.mpr ⟨ab_zret_ok dX7_isText_54 rfl, fun _ h => absurd h List.not_mem_nil⟩⟩⟩⟩⟩⟩⟩⟩⟩⟩⟩⟩⟩⟩⟩⟩⟩⟩⟩⟩⟩⟩⟩⟩⟩⟩⟩⟩⟩⟩
theorem ab_k115 (K : ab_Kt) : ∀ pc, ab_OK K ab_mt ab_g115 pc (ab_c115 pc) := ab_lk2_ok _ (List.forall_mem_cons.mpr ⟨ab_k115_0 K, fun _ h => absurd h List.not_mem_nil⟩)
theorem dX7_carries_0 : decode cX7_carries 0 = .ok (.aload_n 0, 1) := by decide +kernel
theorem dX7_carries_1 : decode cX7_carries 1 = .ok (.getfield 33, 3) := by decide +kernel
theorem dX7_carries_4 : decode cX7_carries 4 = .ok (.iload_n 1, 1) := by decide +kernel
theorem dX7_carries_5 : decode cX7_carries 5 = .ok (.iaload, 1) := by decide +kernel
theorem dX7_carries_6 : decode cX7_carries 6 = .ok (.tableswitch 247 100 117 #[234, 213, 247, 86, 247, 247, 247, 247, 158, 247, 247, 247, 179, 247, 247, 132, 200, 145], 86) := by decide +kernel
theorem dX7_carries_92 : decode cX7_carries 92 = .ok (.aload_n 0, 1) := by decide +kernel
theorem dX7_carries_93 : decode cX7_carries 93 = .ok (.aload_n 0, 1) := by decide +kernel
theorem dX7_carries_94 : decode cX7_carries 94 = .ok (.getfield 33, 3) := by decide +kernel
theorem dX7_carries_97 : decode cX7_carries 97 = .ok (.iload_n 1, 1) := by decide +kernel
theorem dX7_carries_98 : decode cX7_carries 98 = .ok (.iconst 1, 1) := by decide +kernel
theorem dX7_carries_99 : decode cX7_carries 99 = .ok (.iadd, 1) := by decide +kernel
theorem dX7_carries_100 : decode cX7_carries 100 = .ok (.iaload, 1) := by decide +kernel
theorem dX7_carries_101 : decode cX7_carries 101 = .ok (.aload_n 0, 1) := by decide +kernel
theorem dX7_carries_102 : decode cX7_carries 102 = .ok (.getfield 33, 3) := by decide +kernel
theorem dX7_carries_105 : decode cX7_carries 105 = .ok (.iload_n 1, 1) := by decide +kernel
theorem dX7_carries_106 : decode cX7_carries 106 = .ok (.iconst 2, 1) := by decide +kernel
theorem dX7_carries_107 : decode cX7_carries 107 = .ok (.iadd, 1) := by decide +kernel
theorem dX7_carries_108 : decode cX7_carries 108 = .ok (.iaload, 1) := by decide +kernel
theorem dX7_carries_109 : decode cX7_carries 109 = .ok (.aload_n 0, 1) := by decide +kernel
theorem dX7_carries_110 : decode cX7_carries 110 = .ok (.getfield 33, 3) := by decide +kernel
theorem dX7_carries_113 : decode cX7_carries 113 = .ok (.iload_n 1, 1) := by decide +kernel
theorem dX7_carries_114 : decode cX7_carries 114 = .ok (.iconst 3, 1) := by decide +kernel
theorem dX7_carries_115 : decode cX7_carries 115 = .ok (.iadd, 1) := by decide +kernel
theorem dX7_carries_116 : decode cX7_carries 116 = .ok (.iaload, 1) := by decide +kernel
theorem dX7_carries_117 : decode cX7_carries 117 = .ok (.aload_n 0, 1) := by decide +kernel
theorem dX7_carries_118 : decode cX7_carries 118 = .ok (.getfield 33, 3) := by decide +kernel
theorem dX7_carries_121 : decode cX7_carries 121 = .ok (.iload_n 1, 1) := by decide +kernel
theorem dX7_carries_122 : decode cX7_carries 122 = .ok (.iconst 4, 1) := by decide +kernel
theorem dX7_carries_123 : decode cX7_carries 123 = .ok (.iadd, 1) := by decide +kernel
theorem dX7_carries_124 : decode cX7_carries 124 = .ok (.iaload, 1) := by decide +kernel
theorem dX7_carries_125 : decode cX7_carries 125 = .ok (.iconst 1, 1) := by decide +kernel
theorem dX7_carries_126 : decode cX7_carries 126 = .ok (.if_icmp .ne 7, 3) := by decide +kernel
theorem dX7_carries_129 : decode cX7_carries 129 = .ok (.iconst 1, 1) := by decide +kernel
theorem dX7_carries_130 : decode cX7_carries 130 = .ok (.goto 4, 3) := by decide +kernel
theorem dX7_carries_133 : decode cX7_carries 133 = .ok (.iconst 0, 1) := by decide +kernel
theorem dX7_carries_134 : decode cX7_carries 134 = .ok (.invokevirtual 199, 3) := by decide +kernel
theorem dX7_carries_137 : decode cX7_carries 137 = .ok (.ireturn, 1) := by decide +kernel
theorem dX7_carries_138 : decode cX7_carries 138 = .ok (.aload_n 0, 1) := by decide +kernel
theorem dX7_carries_139 : decode cX7_carries 139 = .ok (.aload_n 0, 1) := by decide +kernel
theorem dX7_carries_140 : decode cX7_carries 140 = .ok (.getfield 33, 3) := by decide +kernel
theorem ab_k116_0 (K : ab_Kt) : ∀ q ∈ ab_l116_0, ab_OK K ab_mt ab_g116 q.1 q.2 := by
  unfold ab_l116_0
  exact List.forall_mem_cons.mpr ⟨ab_aload_n_ok dX7_carries_0 rfl, List.forall_mem_cons.mpr ⟨ab_getf_ok (C := RX7) (T := TX7) (N := 19) (ci := 11) (k := 17) dX7_carries_1 rfl ab_ic11 (by decide) ab_w358, List.forall_mem_cons.mpr ⟨ab_iload_n_ok dX7_carries_4 rfl, List.forall_mem_cons.mpr ⟨ab_ald0_ok dX7_carries_5, List.forall_mem_cons.mpr ⟨ab_tsw_ok dX7_carries_6 (by decide) (by decide) (by decide), List.forall_mem_cons.mpr ⟨ab_aload_n_ok dX7_carries_92 rfl, List.forall_mem_cons.mpr ⟨ab_aload_n_ok dX7_carries_93 rfl, List.forall_mem_cons.mpr ⟨ab_getf_ok (C := RX7) (T := TX7) (N := 19) (ci := 11) (k := 17) dX7_carries_94 rfl ab_ic11 (by decide) ab_w358, List.forall_mem_cons.mpr ⟨ab_iload_n_ok dX7_carries_97 rfl, List.forall_mem_cons.mpr ⟨ab_iconst_ok dX7_carries_98 (by decide), List.forall_mem_cons.mpr ⟨ab_iadd_ok dX7_carries_99, List.forall_mem_cons.mpr ⟨ab_ald0_ok dX7_carries_100, List.forall_mem_cons.mpr ⟨ab_aload_n_ok dX7_carries_101 rfl, List.forall_mem_cons.mpr ⟨ab_getf_ok (C := RX7) (T := TX7) (N := 19) (ci := 11) (k := 17) dX7_carries_102 rfl ab_ic11 (by decide) ab_w358, List.forall_mem_cons.mpr ⟨ab_iload_n_ok dX7_carries_105 rfl, List.forall_mem_cons.mpr ⟨ab_iconst_ok dX7_carries_106 (by decide), List.forall_mem_cons.mpr ⟨ab_iadd_ok dX7_carries_107, List.forall_mem_cons.mpr ⟨ab_ald0_ok dX7_carries_108, List.forall_mem_cons.mpr ⟨ab_aload_n_ok dX7_carries_109 rfl, List.forall_mem_cons.mpr ⟨ab_getf_ok (C := RX7) (T := TX7) (N := 19) (ci := 11) (k := 17) dX7_carries_110 rfl ab_ic11 (by decide) ab_w358, List.forall_mem_cons.mpr ⟨ab_iload_n_ok dX7_carries_113 rfl, List.forall_mem_cons.mpr ⟨ab_iconst_ok dX7_carries_114 (by decide), List.forall_mem_cons.mpr ⟨ab_iadd_ok dX7_carries_115, List.forall_mem_cons.mpr ⟨ab_ald0_ok dX7_carries_116, List.forall_mem_cons.mpr ⟨ab_aload_n_ok dX7_carries_117 rfl, List.forall_mem_cons.mpr ⟨ab_getf_ok (C := RX7) (T := TX7) (N := 19) (ci := 11) (k := 17) dX7_carries_118 rfl ab_ic11 (by decide) ab_w358, List.forall_mem_cons.mpr ⟨ab_iload_n_ok dX7_carries_121 rfl, List.forall_mem_cons.mpr ⟨ab_iconst_ok dX7_carries_122 (by decide), List.forall_mem_cons.mpr ⟨ab_iadd_ok dX7_carries_123, List.forall_mem_cons.mpr ⟨ab_ald0_ok dX7_carries_124, List.forall_mem_cons.mpr ⟨ab_iconst_ok dX7_carries_125 (by decide), List.forall_mem_cons.mpr ⟨ab_icmp_ne_ok dX7_carries_126 (by decide), List.forall_mem_cons.mpr ⟨ab_iconst_ok dX7_carries_129 (by decide), List.forall_mem_cons.mpr ⟨ab_goto_ok dX7_carries_130 (by decide), List.forall_mem_cons.mpr ⟨ab_iconst_ok dX7_carries_133 (by decide), List.forall_mem_cons.mpr ⟨ab_callV_ok' (G' := ab_g83) (C := RX7) (T := TX7) (N := 19) dX7_carries_134 ab_m83 rfl rfl (by decide) (by decide) (ab_l4 ab_w852 ab_w298 ab_w299 ab_w8) ab_w300 rfl ⟨by decide, by decide, by decide +kernel⟩, List.forall_mem_cons.mpr ⟨ab_iret_ok dX7_carries_137 rfl, List.forall_mem_cons.mpr ⟨ab_aload_n_ok dX7_carries_138 rfl, List.forall_mem_cons.mpr ⟨ab_aload_n_ok dX7_carries_139 rfl, List.forall_mem_cons.mpr ⟨ab_getf_ok (C := RX7) (T := TX7) (N := 19) (ci := 11) (k := 17) dX7_carries_140 rfl ab_ic11 (by decide) ab_w358, fun _ h => absurd h List.not_mem_nil⟩⟩⟩⟩⟩⟩⟩⟩⟩⟩⟩⟩⟩⟩⟩⟩⟩⟩⟩⟩⟩⟩⟩⟩⟩⟩⟩⟩⟩⟩⟩⟩⟩⟩⟩⟩⟩⟩⟩⟩
theorem dX7_carries_143 : decode cX7_carries 143 = .ok (.iload_n 1, 1) := by decide +kernel
theorem dX7_carries_144 : decode cX7_carries 144 = .ok (.iconst 1, 1) := by decide +kernel
theorem dX7_carries_145 : decode cX7_carries 145 = .ok (.iadd, 1) := by decide +kernel
theorem dX7_carries_146 : decode cX7_carries 146 = .ok (.iaload, 1) := by decide +kernel
theorem dX7_carries_147 : decode cX7_carries 147 = .ok (.invokevirtual 203, 3) := by decide +kernel
theorem dX7_carries_150 : decode cX7_carries 150 = .ok (.ireturn, 1) := by decide +kernel
theorem dX7_carries_151 : decode cX7_carries 151 = .ok (.aload_n 0, 1) := by decide +kernel
theorem dX7_carries_152 : decode cX7_carries 152 = .ok (.aload_n 0, 1) := by decide +kernel
theorem dX7_carries_153 : decode cX7_carries 153 = .ok (.getfield 33, 3) := by decide +kernel
theorem dX7_carries_156 : decode cX7_carries 156 = .ok (.iload_n 1, 1) := by decide +kernel
theorem dX7_carries_157 : decode cX7_carries 157 = .ok (.iconst 1, 1) := by decide +kernel
theorem dX7_carries_158 : decode cX7_carries 158 = .ok (.iadd, 1) := by decide +kernel
theorem dX7_carries_159 : decode cX7_carries 159 = .ok (.iaload, 1) := by decide +kernel
theorem dX7_carries_160 : decode cX7_carries 160 = .ok (.invokevirtual 206, 3) := by decide +kernel
theorem dX7_carries_163 : decode cX7_carries 163 = .ok (.ireturn, 1) := by decide +kernel
theorem dX7_carries_164 : decode cX7_carries 164 = .ok (.aload_n 0, 1) := by decide +kernel
theorem dX7_carries_165 : decode cX7_carries 165 = .ok (.aload_n 0, 1) := by decide +kernel
theorem dX7_carries_166 : decode cX7_carries 166 = .ok (.getfield 33, 3) := by decide +kernel
theorem dX7_carries_169 : decode cX7_carries 169 = .ok (.iload_n 1, 1) := by decide +kernel
theorem dX7_carries_170 : decode cX7_carries 170 = .ok (.iconst 1, 1) := by decide +kernel
theorem dX7_carries_171 : decode cX7_carries 171 = .ok (.iadd, 1) := by decide +kernel
theorem dX7_carries_172 : decode cX7_carries 172 = .ok (.iaload, 1) := by decide +kernel
theorem dX7_carries_173 : decode cX7_carries 173 = .ok (.aload_n 0, 1) := by decide +kernel
theorem dX7_carries_174 : decode cX7_carries 174 = .ok (.getfield 33, 3) := by decide +kernel
theorem dX7_carries_177 : decode cX7_carries 177 = .ok (.iload_n 1, 1) := by decide +kernel
theorem dX7_carries_178 : decode cX7_carries 178 = .ok (.iconst 2, 1) := by decide +kernel
theorem dX7_carries_179 : decode cX7_carries 179 = .ok (.iadd, 1) := by decide +kernel
theorem dX7_carries_180 : decode cX7_carries 180 = .ok (.iaload, 1) := by decide +kernel
theorem dX7_carries_181 : decode cX7_carries 181 = .ok (.invokevirtual 209, 3) := by decide +kernel
theorem dX7_carries_184 : decode cX7_carries 184 = .ok (.ireturn, 1) := by decide +kernel
theorem dX7_carries_185 : decode cX7_carries 185 = .ok (.aload_n 0, 1) := by decide +kernel
theorem dX7_carries_186 : decode cX7_carries 186 = .ok (.aload_n 0, 1) := by decide +kernel
theorem dX7_carries_187 : decode cX7_carries 187 = .ok (.getfield 33, 3) := by decide +kernel
theorem dX7_carries_190 : decode cX7_carries 190 = .ok (.iload_n 1, 1) := by decide +kernel
theorem dX7_carries_191 : decode cX7_carries 191 = .ok (.iconst 1, 1) := by decide +kernel
theorem dX7_carries_192 : decode cX7_carries 192 = .ok (.iadd, 1) := by decide +kernel
theorem dX7_carries_193 : decode cX7_carries 193 = .ok (.iaload, 1) := by decide +kernel
theorem dX7_carries_194 : decode cX7_carries 194 = .ok (.aload_n 0, 1) := by decide +kernel
theorem dX7_carries_195 : decode cX7_carries 195 = .ok (.getfield 33, 3) := by decide +kernel
theorem dX7_carries_198 : decode cX7_carries 198 = .ok (.iload_n 1, 1) := by decide +kernel
theorem ab_k116_1 (K : ab_Kt) : ∀ q ∈ ab_l116_1, ab_OK K ab_mt ab_g116 q.1 q.2 := by
  unfold ab_l116_1
  exact List.forall_mem_cons.mpr ⟨ab_iload_n_ok dX7_carries_143 rfl, List.forall_mem_cons.mpr ⟨ab_iconst_ok dX7_carries_144 (by decide), List.forall_mem_cons.mpr ⟨ab_iadd_ok dX7_carries_145, List.forall_mem_cons.mpr ⟨ab_ald0_ok dX7_carries_146, List.forall_mem_cons.mpr ⟨ab_callV_ok' (G' := ab_g75) (C := RX7) (T := TX7) (N := 19) dX7_carries_147 ab_m75 rfl rfl (by decide) (by decide) (ab_l4 ab_w849 ab_w270 ab_w271 ab_w8) ab_w272 rfl ⟨by decide, by decide, by decide +kernel⟩, List.forall_mem_cons.mpr ⟨ab_iret_ok dX7_carries_150 rfl, List.forall_mem_cons.mpr ⟨ab_aload_n_ok dX7_carries_151 rfl, List.forall_mem_cons.mpr ⟨ab_aload_n_ok dX7_carries_152 rfl, List.forall_mem_cons.mpr ⟨ab_getf_ok (C := RX7) (T := TX7) (N := 19) (ci := 11) (k := 17) dX7_carries_153 rfl ab_ic11 (by decide) ab_w358, List.forall_mem_cons.mpr ⟨ab_iload_n_ok dX7_carries_156 rfl, List.forall_mem_cons.mpr ⟨ab_iconst_ok dX7_carries_157 (by decide), List.forall_mem_cons.mpr ⟨ab_iadd_ok dX7_carries_158, List.forall_mem_cons.mpr ⟨ab_ald0_ok dX7_carries_159, List.forall_mem_cons.mpr ⟨ab_callV_ok' (G' := ab_g73) (C := RX7) (T := TX7) (N := 19) dX7_carries_160 ab_m73 rfl rfl (by decide) (by decide) (ab_l4 ab_w847 ab_w263 ab_w264 ab_w8) ab_w265 rfl ⟨by decide, by decide, by decide +kernel⟩, List.forall_mem_cons.mpr ⟨ab_iret_ok dX7_carries_163 rfl, List.forall_mem_cons.mpr ⟨ab_aload_n_ok dX7_carries_164 rfl, List.forall_mem_cons.mpr ⟨ab_aload_n_ok dX7_carries_165 rfl, List.forall_mem_cons.mpr ⟨ab_getf_ok (C := RX7) (T := TX7) (N := 19) (ci := 11) (k := 17) dX7_carries_166 rfl ab_ic11 (by decide) ab_w358, List.forall_mem_cons.mpr ⟨ab_iload_n_ok dX7_carries_169 rfl, List.forall_mem_cons.mpr ⟨ab_iconst_ok dX7_carries_170 (by decide), List.forall_mem_cons.mpr ⟨ab_iadd_ok dX7_carries_171, List.forall_mem_cons.mpr ⟨ab_ald0_ok dX7_carries_172, List.forall_mem_cons.mpr ⟨ab_aload_n_ok dX7_carries_173 rfl, List.forall_mem_cons.mpr ⟨ab_getf_ok (C := RX7) (T := TX7) (N := 19) (ci := 11) (k := 17) dX7_carries_174 rfl ab_ic11 (by decide) ab_w358, List.forall_mem_cons.mpr ⟨ab_iload_n_ok dX7_carries_177 rfl, List.forall_mem_cons.mpr ⟨ab_iconst_ok dX7_carries_178 (by decide), List.forall_mem_cons.mpr ⟨ab_iadd_ok dX7_carries_179, List.forall_mem_cons.mpr ⟨ab_ald0_ok dX7_carries_180, List.forall_mem_cons.mpr ⟨ab_callV_ok' (G' := ab_g71) (C := RX7) (T := TX7) (N := 19) dX7_carries_181 ab_m71 rfl rfl (by decide) (by decide) (ab_l4 ab_w851 ab_w256 ab_w257 ab_w8) ab_w258 rfl ⟨by decide, by decide, by decide +kernel⟩, List.forall_mem_cons.mpr ⟨ab_iret_ok dX7_carries_184 rfl, List.forall_mem_cons.mpr ⟨ab_aload_n_ok dX7_carries_185 rfl, List.forall_mem_cons.mpr ⟨ab_aload_n_ok dX7_carries_186 rfl, List.forall_mem_cons.mpr ⟨ab_getf_ok (C := RX7) (T := TX7) (N := 19) (ci := 11) (k := 17) dX7_carries_187 rfl ab_ic11 (by decide) ab_w358, List.forall_mem_cons.mpr ⟨ab_iload_n_ok dX7_carries_190 rfl, List.forall_mem_cons.mpr ⟨ab_iconst_ok dX7_carries_191 (by decide), List.forall_mem_cons.mpr ⟨ab_iadd_ok dX7_carries_192, List.forall_mem_cons.mpr ⟨ab_ald0_ok dX7_carries_193, List.forall_mem_cons.mpr ⟨ab_aload_n_ok dX7_carries_194 rfl, List.forall_mem_cons.mpr ⟨ab_getf_ok (C := RX7) (T := TX7) (N := 19) (ci := 11) (k := 17) dX7_carries_195 rfl ab_ic11 (by decide) ab_w358, List.forall_mem_cons.mpr ⟨ab_iload_n_ok dX7_carries_198 rfl, fun _ h => absurd h List.not_mem_nil⟩⟩⟩⟩⟩⟩⟩⟩⟩⟩⟩⟩⟩⟩⟩⟩⟩⟩⟩⟩⟩⟩⟩⟩⟩⟩⟩⟩⟩⟩⟩⟩⟩⟩⟩⟩⟩⟩⟩⟩
theorem dX7_carries_199 : decode cX7_carries 199 = .ok (.iconst 2, 1) := by decide +kernel
theorem dX7_carries_200 : decode cX7_carries 200 = .ok (.iadd, 1) := by decide +kernel
theorem dX7_carries_201 : decode cX7_carries 201 = .ok (.iaload, 1) := by decide +kernel
theorem dX7_carries_202 : decode cX7_carries 202 = .ok (.invokevirtual 212, 3) := by decide +kernel
theorem dX7_carries_205 : decode cX7_carries 205 = .ok (.ireturn, 1) := by decide +kernel
theorem dX7_carries_206 : decode cX7_carries 206 = .ok (.aload_n 0, 1) := by decide +kernel
theorem dX7_carries_207 : decode cX7_carries 207 = .ok (.aload_n 0, 1) := by decide +kernel
theorem dX7_carries_208 : decode cX7_carries 208 = .ok (.getfield 33, 3) := by decide +kernel
theorem dX7_carries_211 : decode cX7_carries 211 = .ok (.iload_n 1, 1) := by decide +kernel
theorem dX7_carries_212 : decode cX7_carries 212 = .ok (.iconst 1, 1) := by decide +kernel
theorem dX7_carries_213 : decode cX7_carries 213 = .ok (.iadd, 1) := by decide +kernel
theorem dX7_carries_214 : decode cX7_carries 214 = .ok (.iaload, 1) := by decide +kernel
theorem dX7_carries_215 : decode cX7_carries 215 = .ok (.invokevirtual 215, 3) := by decide +kernel
theorem dX7_carries_218 : decode cX7_carries 218 = .ok (.ireturn, 1) := by decide +kernel
theorem dX7_carries_219 : decode cX7_carries 219 = .ok (.aload_n 0, 1) := by decide +kernel
theorem dX7_carries_220 : decode cX7_carries 220 = .ok (.aload_n 0, 1) := by decide +kernel
theorem dX7_carries_221 : decode cX7_carries 221 = .ok (.getfield 33, 3) := by decide +kernel
theorem dX7_carries_224 : decode cX7_carries 224 = .ok (.iload_n 1, 1) := by decide +kernel
theorem dX7_carries_225 : decode cX7_carries 225 = .ok (.iconst 1, 1) := by decide +kernel
theorem dX7_carries_226 : decode cX7_carries 226 = .ok (.iadd, 1) := by decide +kernel
theorem dX7_carries_227 : decode cX7_carries 227 = .ok (.iaload, 1) := by decide +kernel
theorem dX7_carries_228 : decode cX7_carries 228 = .ok (.aload_n 0, 1) := by decide +kernel
theorem dX7_carries_229 : decode cX7_carries 229 = .ok (.getfield 33, 3) := by decide +kernel
theorem dX7_carries_232 : decode cX7_carries 232 = .ok (.iload_n 1, 1) := by decide +kernel
theorem dX7_carries_233 : decode cX7_carries 233 = .ok (.iconst 2, 1) := by decide +kernel
theorem dX7_carries_234 : decode cX7_carries 234 = .ok (.iadd, 1) := by decide +kernel
theorem dX7_carries_235 : decode cX7_carries 235 = .ok (.iaload, 1) := by decide +kernel
theorem dX7_carries_236 : decode cX7_carries 236 = .ok (.invokevirtual 218, 3) := by decide +kernel
theorem dX7_carries_239 : decode cX7_carries 239 = .ok (.ireturn, 1) := by decide +kernel
theorem dX7_carries_240 : decode cX7_carries 240 = .ok (.aload_n 0, 1) := by decide +kernel
theorem dX7_carries_241 : decode cX7_carries 241 = .ok (.aload_n 0, 1) := by decide +kernel
theorem dX7_carries_242 : decode cX7_carries 242 = .ok (.getfield 33, 3) := by decide +kernel
theorem dX7_carries_245 : decode cX7_carries 245 = .ok (.iload_n 1, 1) := by decide +kernel
theorem dX7_carries_246 : decode cX7_carries 246 = .ok (.iconst 1, 1) := by decide +kernel
theorem dX7_carries_247 : decode cX7_carries 247 = .ok (.iadd, 1) := by decide +kernel
theorem dX7_carries_248 : decode cX7_carries 248 = .ok (.iaload, 1) := by decide +kernel
theorem dX7_carries_249 : decode cX7_carries 249 = .ok (.invokevirtual 221, 3) := by decide +kernel
theorem dX7_carries_252 : decode cX7_carries 252 = .ok (.ireturn, 1) := by decide +kernel
theorem dX7_carries_253 : decode cX7_carries 253 = .ok (.aload_n 0, 1) := by decide +kernel
theorem dX7_carries_254 : decode cX7_carries 254 = .ok (.aload_n 0, 1) := by decide +kernel
theorem ab_k116_2 (K : ab_Kt) : ∀ q ∈ ab_l116_2, ab_OK K ab_mt ab_g116 q.1 q.2 := by
  unfold ab_l116_2
  exact List.forall_mem_cons.mpr ⟨ab_iconst_ok dX7_carries_199 (by decide), List.forall_mem_cons.mpr ⟨ab_iadd_ok dX7_carries_200, List.forall_mem_cons.mpr ⟨ab_ald0_ok dX7_carries_201, List.forall_mem_cons.mpr ⟨ab_callV_ok' (G' := ab_g69) (C := RX7) (T := TX7) (N := 19) dX7_carries_202 ab_m69 rfl rfl (by decide) (by decide) (ab_l4 ab_w850 ab_w249 ab_w250 ab_w8) ab_w251 rfl ⟨by decide, by decide, by decide +kernel⟩, List.forall_mem_cons.mpr ⟨ab_iret_ok dX7_carries_205 rfl, List.forall_mem_cons.mpr ⟨ab_aload_n_ok dX7_carries_206 rfl, List.forall_mem_cons.mpr ⟨ab_aload_n_ok dX7_carries_207 rfl, List.forall_mem_cons.mpr ⟨ab_getf_ok (C := RX7) (T := TX7) (N := 19) (ci := 11) (k := 17) dX7_carries_208 rfl ab_ic11 (by decide) ab_w358, List.forall_mem_cons.mpr ⟨ab_iload_n_ok dX7_carries_211 rfl, List.forall_mem_cons.mpr ⟨ab_iconst_ok dX7_carries_212 (by decide), List.forall_mem_cons.mpr ⟨ab_iadd_ok dX7_carries_213, List.forall_mem_cons.mpr ⟨ab_ald0_ok dX7_carries_214, List.forall_mem_cons.mpr ⟨ab_callV_ok' (G' := ab_g67) (C := RX7) (T := TX7) (N := 19) dX7_carries_215 ab_m67 rfl rfl (by decide) (by decide) (ab_l4 ab_w848 ab_w242 ab_w243 ab_w8) ab_w244 rfl ⟨by decide, by decide, by decide +kernel⟩, List.forall_mem_cons.mpr ⟨ab_iret_ok dX7_carries_218 rfl, List.forall_mem_cons.mpr ⟨ab_aload_n_ok dX7_carries_219 rfl, List.forall_mem_cons.mpr ⟨ab_aload_n_ok dX7_carries_220 rfl, List.forall_mem_cons.mpr ⟨ab_getf_ok (C := RX7) (T := TX7) (N := 19) (ci := 11) (k := 17) dX7_carries_221 rfl ab_ic11 (by decide) ab_w358, List.forall_mem_cons.mpr ⟨ab_iload_n_ok dX7_carries_224 rfl, List.forall_mem_cons.mpr ⟨ab_iconst_ok dX7_carries_225 (by decide), List.forall_mem_cons.mpr ⟨ab_iadd_ok dX7_carries_226, List.forall_mem_cons.mpr ⟨ab_ald0_ok dX7_carries_227, List.forall_mem_cons.mpr ⟨ab_aload_n_ok dX7_carries_228 rfl, List.forall_mem_cons.mpr ⟨ab_getf_ok (C := RX7) (T := TX7) (N := 19) (ci := 11) (k := 17) dX7_carries_229 rfl ab_ic11 (by decide) ab_w358, List.forall_mem_cons.mpr ⟨ab_iload_n_ok dX7_carries_232 rfl, List.forall_mem_cons.mpr ⟨ab_iconst_ok dX7_carries_233 (by decide), List.forall_mem_cons.mpr ⟨ab_iadd_ok dX7_carries_234, List.forall_mem_cons.mpr ⟨ab_ald0_ok dX7_carries_235, List.forall_mem_cons.mpr ⟨ab_callV_ok' (G' := ab_g65) (C := RX7) (T := TX7) (N := 19) dX7_carries_236 ab_m65 rfl rfl (by decide) (by decide) (ab_l4 ab_w853 ab_w235 ab_w236 ab_w8) ab_w237 rfl ⟨by decide, by decide, by decide +kernel⟩, List.forall_mem_cons.mpr ⟨ab_iret_ok dX7_carries_239 rfl, List.forall_mem_cons.mpr ⟨ab_aload_n_ok dX7_carries_240 rfl, List.forall_mem_cons.mpr ⟨ab_aload_n_ok dX7_carries_241 rfl, List.forall_mem_cons.mpr ⟨ab_getf_ok (C := RX7) (T := TX7) (N := 19) (ci := 11) (k := 17) dX7_carries_242 rfl ab_ic11 (by decide) ab_w358, List.forall_mem_cons.mpr ⟨ab_iload_n_ok dX7_carries_245 rfl, List.forall_mem_cons.mpr ⟨ab_iconst_ok dX7_carries_246 (by decide), List.forall_mem_cons.mpr ⟨ab_iadd_ok dX7_carries_247, List.forall_mem_cons.mpr ⟨ab_ald0_ok dX7_carries_248, List.forall_mem_cons.mpr ⟨ab_callV_ok' (G' := ab_g63) (C := RX7) (T := TX7) (N := 19) dX7_carries_249 ab_m63 rfl rfl (by decide) (by decide) (ab_l4 ab_w854 ab_w228 ab_w229 ab_w8) ab_w230 rfl ⟨by decide, by decide, by decide +kernel⟩, List.forall_mem_cons.mpr ⟨ab_iret_ok dX7_carries_252 rfl, List.forall_mem_cons.mpr ⟨ab_aload_n_ok dX7_carries_253 rfl, List.forall_mem_cons.mpr ⟨ab_aload_n_ok dX7_carries_254 rfl, fun _ h => absurd h List.not_mem_nil⟩⟩⟩⟩⟩⟩⟩⟩⟩⟩⟩⟩⟩⟩⟩⟩⟩⟩⟩⟩⟩⟩⟩⟩⟩⟩⟩⟩⟩⟩⟩⟩⟩⟩⟩⟩⟩⟩⟩⟩
theorem dX7_carries_255 : decode cX7_carries 255 = .ok (.getfield 33, 3) := by decide +kernel
theorem dX7_carries_258 : decode cX7_carries 258 = .ok (.iload_n 1, 1) := by decide +kernel
theorem dX7_carries_259 : decode cX7_carries 259 = .ok (.iconst 1, 1) := by decide +kernel
theorem dX7_carries_260 : decode cX7_carries 260 = .ok (.iadd, 1) := by decide +kernel
theorem dX7_carries_261 : decode cX7_carries 261 = .ok (.iaload, 1) := by decide +kernel
theorem dX7_carries_262 : decode cX7_carries 262 = .ok (.invokevirtual 224, 3) := by decide +kernel
theorem dX7_carries_265 : decode cX7_carries 265 = .ok (.ireturn, 1) := by decide +kernel
theorem ab_k116_3 (K : ab_Kt) : ∀ q ∈ ab_l116_3, ab_OK K ab_mt ab_g116 q.1 q.2 := by
  unfold ab_l116_3
  exact List.forall_mem_cons.mpr ⟨ab_getf_ok (C := RX7) (T := TX7) (N := 19) (ci := 11) (k := 17) dX7_carries_255 rfl ab_ic11 (by decide) ab_w358, List.forall_mem_cons.mpr ⟨ab_iload_n_ok dX7_carries_258 rfl, List.forall_mem_cons.mpr ⟨ab_iconst_ok dX7_carries_259 (by decide), List.forall_mem_cons.mpr ⟨ab_iadd_ok dX7_carries_260, List.forall_mem_cons.mpr ⟨ab_ald0_ok dX7_carries_261, List.forall_mem_cons.mpr ⟨ab_callV_ok' (G' := ab_g61) (C := RX7) (T := TX7) (N := 19) dX7_carries_262 ab_m61 rfl rfl (by decide) (by decide) (ab_l4 ab_w846 ab_w221 ab_w222 ab_w8) ab_w223 rfl ⟨by decide, by decide, by decide +kernel⟩, List.forall_mem_cons.mpr ⟨ab_iret_ok dX7_carries_265 rfl, fun _ h => absurd h List.not_mem_nil⟩⟩⟩⟩⟩⟩⟩
theorem ab_k116 (K : ab_Kt) : ∀ pc, ab_OK K ab_mt ab_g116 pc (ab_c116 pc) := ab_lk2_ok _ (List.forall_mem_cons.mpr ⟨ab_k116_0 K, List.forall_mem_cons.mpr ⟨ab_k116_1 K, List.forall_mem_cons.mpr ⟨ab_k116_2 K, List.forall_mem_cons.mpr ⟨ab_k116_3 K, fun _ h => absurd h List.not_mem_nil⟩⟩⟩⟩)
theorem dX7_keeps_0 : decode cX7_keeps 0 = .ok (.aload_n 0, 1) := by decide +kernel
theorem dX7_keeps_1 : decode cX7_keeps 1 = .ok (.iconst 0, 1) := by decide +kernel
theorem dX7_keeps_2 : decode cX7_keeps 2 = .ok (.putfield 36, 3) := by decide +kernel
theorem dX7_keeps_5 : decode cX7_keeps 5 = .ok (.aload_n 0, 1) := by decide +kernel
theorem dX7_keeps_6 : decode cX7_keeps 6 = .ok (.getfield 48, 3) := by decide +kernel
theorem dX7_keeps_9 : decode cX7_keeps 9 = .ok (.ifCond .eq 4, 3) := by decide +kernel
theorem dX7_keeps_12 : decode cX7_keeps 12 = .ok (.return_, 1) := by decide +kernel
theorem dX7_keeps_13 : decode cX7_keeps 13 = .ok (.aload_n 0, 1) := by decide +kernel
theorem dX7_keeps_14 : decode cX7_keeps 14 = .ok (.getfield 52, 3) := by decide +kernel
theorem dX7_keeps_17 : decode cX7_keeps 17 = .ok (.bipush 8, 2) := by decide +kernel
theorem dX7_keeps_19 : decode cX7_keeps 19 = .ok (.if_icmp .ne 44, 3) := by decide +kernel
theorem dX7_keeps_22 : decode cX7_keeps 22 = .ok (.iconst 0, 1) := by decide +kernel
theorem dX7_keeps_23 : decode cX7_keeps 23 = .ok (.istore_n 2, 1) := by decide +kernel
theorem dX7_keeps_24 : decode cX7_keeps 24 = .ok (.iload_n 2, 1) := by decide +kernel
theorem dX7_keeps_25 : decode cX7_keeps 25 = .ok (.sipush 2254, 3) := by decide +kernel
theorem dX7_keeps_28 : decode cX7_keeps 28 = .ok (.if_icmp .ge 25, 3) := by decide +kernel
theorem dX7_keeps_31 : decode cX7_keeps 31 = .ok (.aload_n 0, 1) := by decide +kernel
theorem dX7_keeps_32 : decode cX7_keeps 32 = .ok (.getfield 13, 3) := by decide +kernel
theorem dX7_keeps_35 : decode cX7_keeps 35 = .ok (.iload_n 2, 1) := by decide +kernel
theorem dX7_keeps_36 : decode cX7_keeps 36 = .ok (.aload_n 0, 1) := by decide +kernel
theorem dX7_keeps_37 : decode cX7_keeps 37 = .ok (.getfield 13, 3) := by decide +kernel
theorem dX7_keeps_40 : decode cX7_keeps 40 = .ok (.iload_n 2, 1) := by decide +kernel
theorem dX7_keeps_41 : decode cX7_keeps 41 = .ok (.sipush 322, 3) := by decide +kernel
theorem dX7_keeps_44 : decode cX7_keeps 44 = .ok (.iadd, 1) := by decide +kernel
theorem dX7_keeps_45 : decode cX7_keeps 45 = .ok (.iaload, 1) := by decide +kernel
theorem dX7_keeps_46 : decode cX7_keeps 46 = .ok (.iastore, 1) := by decide +kernel
theorem dX7_keeps_47 : decode cX7_keeps 47 = .ok (.iinc 2 1, 3) := by decide +kernel
theorem dX7_keeps_50 : decode cX7_keeps 50 = .ok (.goto (-26), 3) := by decide +kernel
theorem dX7_keeps_53 : decode cX7_keeps 53 = .ok (.aload_n 0, 1) := by decide +kernel
theorem dX7_keeps_54 : decode cX7_keeps 54 = .ok (.dup, 1) := by decide +kernel
theorem dX7_keeps_55 : decode cX7_keeps 55 = .ok (.getfield 52, 3) := by decide +kernel
theorem dX7_keeps_58 : decode cX7_keeps 58 = .ok (.iconst 1, 1) := by decide +kernel
theorem dX7_keeps_59 : decode cX7_keeps 59 = .ok (.isub, 1) := by decide +kernel
theorem dX7_keeps_60 : decode cX7_keeps 60 = .ok (.putfield 52, 3) := by decide +kernel
theorem dX7_keeps_63 : decode cX7_keeps 63 = .ok (.aload_n 1, 1) := by decide +kernel
theorem dX7_keeps_64 : decode cX7_keeps 64 = .ok (.iconst 0, 1) := by decide +kernel
theorem dX7_keeps_65 : decode cX7_keeps 65 = .ok (.aload_n 0, 1) := by decide +kernel
theorem dX7_keeps_66 : decode cX7_keeps 66 = .ok (.getfield 13, 3) := by decide +kernel
theorem dX7_keeps_69 : decode cX7_keeps 69 = .ok (.sipush 322, 3) := by decide +kernel
theorem dX7_keeps_72 : decode cX7_keeps 72 = .ok (.aload_n 0, 1) := by decide +kernel
theorem ab_k117_0 (K : ab_Kt) : ∀ q ∈ ab_l117_0, ab_OK K ab_mt ab_g117 q.1 q.2 := by
  unfold ab_l117_0
  exact List.forall_mem_cons.mpr ⟨ab_aload_n_ok dX7_keeps_0 rfl, List.forall_mem_cons.mpr ⟨ab_iconst_ok dX7_keeps_1 (by decide), List.forall_mem_cons.mpr ⟨ab_putf_ok (C := RX7) (T := TX7) (N := 19) (ci := 11) (k := 7) (ty0 := tyX7) dX7_keeps_2 rfl ab_ic11 tyX7_ok nmX7 (by decide) ab_w372 rfl (Or.inl rfl), List.forall_mem_cons.mpr ⟨ab_aload_n_ok dX7_keeps_5 rfl, List.forall_mem_cons.mpr ⟨ab_getf_ok (C := RX7) (T := TX7) (N := 19) (ci := 11) (k := 6) dX7_keeps_6 rfl ab_ic11 (by decide) ab_w467, List.forall_mem_cons.mpr ⟨ab_if_eq_ok dX7_keeps_9 (by decide), List.forall_mem_cons.mpr ⟨ab_vret_ok dX7_keeps_12 rfl, List.forall_mem_cons.mpr ⟨ab_aload_n_ok dX7_keeps_13 rfl, List.forall_mem_cons.mpr ⟨ab_getf_ok (C := RX7) (T := TX7) (N := 19) (ci := 11) (k := 5) dX7_keeps_14 rfl ab_ic11 (by decide) ab_w371, List.forall_mem_cons.mpr ⟨ab_bipush_ok dX7_keeps_17 (by decide), List.forall_mem_cons.mpr ⟨ab_icmp_ne_ok dX7_keeps_19 (by decide), List.forall_mem_cons.mpr ⟨ab_iconst_ok dX7_keeps_22 (by decide), List.forall_mem_cons.mpr ⟨ab_istore_n_ok dX7_keeps_23 rfl, List.forall_mem_cons.mpr ⟨ab_iload_n_ok dX7_keeps_24 rfl, List.forall_mem_cons.mpr ⟨ab_sipush_ok dX7_keeps_25 (by decide), List.forall_mem_cons.mpr ⟨ab_icmp_ge_ok dX7_keeps_28 (by decide), List.forall_mem_cons.mpr ⟨ab_aload_n_ok dX7_keeps_31 rfl, List.forall_mem_cons.mpr ⟨ab_getf_ok (C := RX7) (T := TX7) (N := 19) (ci := 11) (k := 1) dX7_keeps_32 rfl ab_ic11 (by decide) ab_w351, List.forall_mem_cons.mpr ⟨ab_iload_n_ok dX7_keeps_35 rfl, List.forall_mem_cons.mpr ⟨ab_aload_n_ok dX7_keeps_36 rfl, List.forall_mem_cons.mpr ⟨ab_getf_ok (C := RX7) (T := TX7) (N := 19) (ci := 11) (k := 1) dX7_keeps_37 rfl ab_ic11 (by decide) ab_w351, List.forall_mem_cons.mpr ⟨ab_iload_n_ok dX7_keeps_40 rfl, List.forall_mem_cons.mpr ⟨ab_sipush_ok dX7_keeps_41 (by decide), List.forall_mem_cons.mpr ⟨ab_iadd_ok dX7_keeps_44, List.forall_mem_cons.mpr ⟨ab_ald0_ok dX7_keeps_45, List.forall_mem_cons.mpr ⟨ab_ast0_ok dX7_keeps_46, List.forall_mem_cons.mpr ⟨ab_iinc_ok dX7_keeps_47 (by decide), List.forall_mem_cons.mpr ⟨ab_goto_ok dX7_keeps_50 (by decide), List.forall_mem_cons.mpr ⟨ab_aload_n_ok dX7_keeps_53 rfl, List.forall_mem_cons.mpr ⟨ab_dup_ok dX7_keeps_54, List.forall_mem_cons.mpr ⟨ab_getf_ok (C := RX7) (T := TX7) (N := 19) (ci := 11) (k := 5) dX7_keeps_55 rfl ab_ic11 (by decide) ab_w371, List.forall_mem_cons.mpr ⟨ab_iconst_ok dX7_keeps_58 (by decide), List.forall_mem_cons.mpr ⟨ab_isub_ok dX7_keeps_59, List.forall_mem_cons.mpr ⟨ab_putf_ok (C := RX7) (T := TX7) (N := 19) (ci := 11) (k := 5) (ty0 := tyX7) dX7_keeps_60 rfl ab_ic11 tyX7_ok nmX7 (by decide) ab_w371 rfl (Or.inl rfl), List.forall_mem_cons.mpr ⟨ab_aload_n_ok dX7_keeps_63 rfl, List.forall_mem_cons.mpr ⟨ab_iconst_ok dX7_keeps_64 (by decide), List.forall_mem_cons.mpr ⟨ab_aload_n_ok dX7_keeps_65 rfl, List.forall_mem_cons.mpr ⟨ab_getf_ok (C := RX7) (T := TX7) (N := 19) (ci := 11) (k := 1) dX7_keeps_66 rfl ab_ic11 (by decide) ab_w351, List.forall_mem_cons.mpr ⟨ab_sipush_ok dX7_keeps_69 (by decide), List.forall_mem_cons.mpr ⟨ab_aload_n_ok dX7_keeps_72 rfl, fun _ h => absurd h List.not_mem_nil⟩⟩⟩⟩⟩⟩⟩⟩⟩⟩⟩⟩⟩⟩⟩⟩⟩⟩⟩⟩⟩⟩⟩⟩⟩⟩⟩⟩⟩⟩⟩⟩⟩⟩⟩⟩⟩⟩⟩⟩
theorem dX7_keeps_73 : decode cX7_keeps 73 = .ok (.getfield 52, 3) := by decide +kernel
theorem dX7_keeps_76 : decode cX7_keeps 76 = .ok (.imul, 1) := by decide +kernel
theorem dX7_keeps_77 : decode cX7_keeps 77 = .ok (.invokestatic 55, 3) := by decide +kernel
theorem dX7_keeps_80 : decode cX7_keeps 80 = .ok (.aload_n 0, 1) := by decide +kernel
theorem dX7_keeps_81 : decode cX7_keeps 81 = .ok (.dup, 1) := by decide +kernel
theorem dX7_keeps_82 : decode cX7_keeps 82 = .ok (.getfield 52, 3) := by decide +kernel
theorem dX7_keeps_85 : decode cX7_keeps 85 = .ok (.iconst 1, 1) := by decide +kernel
theorem dX7_keeps_86 : decode cX7_keeps 86 = .ok (.iadd, 1) := by decide +kernel
theorem dX7_keeps_87 : decode cX7_keeps 87 = .ok (.putfield 52, 3) := by decide +kernel
theorem dX7_keeps_90 : decode cX7_keeps 90 = .ok (.return_, 1) := by decide +kernel
theorem ab_k117_1 (K : ab_Kt) : ∀ q ∈ ab_l117_1, ab_OK K ab_mt ab_g117 q.1 q.2 := by
  unfold ab_l117_1
  exact List.forall_mem_cons.mpr ⟨ab_getf_ok (C := RX7) (T := TX7) (N := 19) (ci := 11) (k := 5) dX7_keeps_73 rfl ab_ic11 (by decide) ab_w371, List.forall_mem_cons.mpr ⟨ab_imul_ok dX7_keeps_76, List.forall_mem_cons.mpr ⟨ab_callS_ok' (G' := ab_g93) dX7_keeps_77 ab_m93 (by decide) (by decide) (ab_l3 ab_w368 ab_w369 ab_w8) ab_w370 rfl ⟨by decide, by decide, by decide +kernel⟩, List.forall_mem_cons.mpr ⟨ab_aload_n_ok dX7_keeps_80 rfl, List.forall_mem_cons.mpr ⟨ab_dup_ok dX7_keeps_81, List.forall_mem_cons.mpr ⟨ab_getf_ok (C := RX7) (T := TX7) (N := 19) (ci := 11) (k := 5) dX7_keeps_82 rfl ab_ic11 (by decide) ab_w371, List.forall_mem_cons.mpr ⟨ab_iconst_ok dX7_keeps_85 (by decide), List.forall_mem_cons.mpr ⟨ab_iadd_ok dX7_keeps_86, List.forall_mem_cons.mpr ⟨ab_putf_ok (C := RX7) (T := TX7) (N := 19) (ci := 11) (k := 5) (ty0 := tyX7) dX7_keeps_87 rfl ab_ic11 tyX7_ok nmX7 (by decide) ab_w371 rfl (Or.inl rfl), List.forall_mem_cons.mpr ⟨ab_vret_ok dX7_keeps_90 rfl, fun _ h => absurd h List.not_mem_nil⟩⟩⟩⟩⟩⟩⟩⟩⟩⟩
theorem ab_k117 (K : ab_Kt) : ∀ pc, ab_OK K ab_mt ab_g117 pc (ab_c117 pc) := ab_lk2_ok _ (List.forall_mem_cons.mpr ⟨ab_k117_0 K, List.forall_mem_cons.mpr ⟨ab_k117_1 K, fun _ h => absurd h List.not_mem_nil⟩⟩)
theorem dX6_append_0 : decode cX6_append 0 = .ok (.aload_n 0, 1) := by decide +kernel
theorem dX6_append_1 : decode cX6_append 1 = .ok (.getfield 37, 3) := by decide +kernel
theorem dX6_append_4 : decode cX6_append 4 = .ok (.getfield 238, 3) := by decide +kernel
theorem dX6_append_7 : decode cX6_append 7 = .ok (.bipush 60, 2) := by decide +kernel
theorem dX6_append_9 : decode cX6_append 9 = .ok (.if_icmp .lt 11, 3) := by decide +kernel
theorem dX6_append_12 : decode cX6_append 12 = .ok (.new 241, 3) := by decide +kernel
theorem dX6_append_15 : decode cX6_append 15 = .ok (.dup, 1) := by decide +kernel
theorem dX6_append_16 : decode cX6_append 16 = .ok (.invokespecial 243, 3) := by decide +kernel
theorem dX6_append_19 : decode cX6_append 19 = .ok (.athrow, 1) := by decide +kernel
theorem dX6_append_20 : decode cX6_append 20 = .ok (.aload_n 0, 1) := by decide +kernel
theorem dX6_append_21 : decode cX6_append 21 = .ok (.getfield 37, 3) := by decide +kernel
theorem dX6_append_24 : decode cX6_append 24 = .ok (.iload_n 1, 1) := by decide +kernel
theorem dX6_append_25 : decode cX6_append 25 = .ok (.invokevirtual 244, 3) := by decide +kernel
theorem dX6_append_28 : decode cX6_append 28 = .ok (.ireturn, 1) := by decide +kernel
theorem ab_k118_0 (K : ab_Kt) : ∀ q ∈ ab_l118_0, ab_OK K ab_mt ab_g118 q.1 q.2 := by
  unfold ab_l118_0
  exact List.forall_mem_cons.mpr ⟨ab_aload_n_ok dX6_append_0 rfl, List.forall_mem_cons.mpr ⟨ab_getf_ok (C := RX6) (T := TX6) (N := 9) (ci := 10) (k := 5) dX6_append_1 rfl ab_ic10 (by decide) ab_w338, List.forall_mem_cons.mpr ⟨ab_getf_ok (C := RX2) (T := TX2) (N := 8) (ci := 6) (k := 1) dX6_append_4 rfl ab_ic6 (by decide) ab_w752, List.forall_mem_cons.mpr ⟨ab_bipush_ok dX6_append_7 (by decide), List.forall_mem_cons.mpr ⟨ab_icmp_lt_ok dX6_append_9 (by decide), List.forall_mem_cons.mpr ⟨ab_thr_ok (ik := 241) (ic := 243) (by decide +kernel) (ab_l2 ab_w725 ab_w726) ab_th_0 (by decide +kernel) dX6_append_12 dX6_append_15 dX6_append_16 dX6_append_19 rfl, List.forall_mem_cons.mpr ⟨ab_aload_n_ok dX6_append_20 rfl, List.forall_mem_cons.mpr ⟨ab_getf_ok (C := RX6) (T := TX6) (N := 9) (ci := 10) (k := 5) dX6_append_21 rfl ab_ic10 (by decide) ab_w338, List.forall_mem_cons.mpr ⟨ab_iload_n_ok dX6_append_24 rfl, List.forall_mem_cons.mpr ⟨ab_callV_ok' (G' := ab_g198) (C := RX2) (T := TX2) (N := 8) dX6_append_25 ab_m198 rfl rfl (by decide) (by decide) (ab_l4 ab_w855 ab_w856 ab_w857 ab_w335) ab_w858 rfl ⟨by decide, by decide, by decide +kernel⟩, List.forall_mem_cons.mpr ⟨ab_iret_ok dX6_append_28 rfl, fun _ h => absurd h List.not_mem_nil⟩⟩⟩⟩⟩⟩⟩⟩⟩⟩⟩
theorem ab_k118 (K : ab_Kt) : ∀ pc, ab_OK K ab_mt ab_g118 pc (ab_c118 pc) := ab_lk2_ok _ (List.forall_mem_cons.mpr ⟨ab_k118_0 K, fun _ h => absurd h List.not_mem_nil⟩)
theorem dX6_ranked_0 : decode cX6_ranked 0 = .ok (.iconst 0, 1) := by decide +kernel
theorem dX6_ranked_1 : decode cX6_ranked 1 = .ok (.istore_n 2, 1) := by decide +kernel
theorem dX6_ranked_2 : decode cX6_ranked 2 = .ok (.iload_n 2, 1) := by decide +kernel
theorem dX6_ranked_3 : decode cX6_ranked 3 = .ok (.aload_n 0, 1) := by decide +kernel
theorem dX6_ranked_4 : decode cX6_ranked 4 = .ok (.getfield 20, 3) := by decide +kernel
theorem dX6_ranked_7 : decode cX6_ranked 7 = .ok (.getfield 229, 3) := by decide +kernel
theorem dX6_ranked_10 : decode cX6_ranked 10 = .ok (.if_icmp .ge 27, 3) := by decide +kernel
theorem dX6_ranked_13 : decode cX6_ranked 13 = .ok (.aload_n 0, 1) := by decide +kernel
theorem dX6_ranked_14 : decode cX6_ranked 14 = .ok (.getfield 52, 3) := by decide +kernel
theorem dX6_ranked_17 : decode cX6_ranked 17 = .ok (.iload_n 2, 1) := by decide +kernel
theorem dX6_ranked_18 : decode cX6_ranked 18 = .ok (.aload_n 0, 1) := by decide +kernel
theorem dX6_ranked_19 : decode cX6_ranked 19 = .ok (.getfield 20, 3) := by decide +kernel
theorem dX6_ranked_22 : decode cX6_ranked 22 = .ok (.getfield 216, 3) := by decide +kernel
theorem dX6_ranked_25 : decode cX6_ranked 25 = .ok (.iload_n 2, 1) := by decide +kernel
theorem dX6_ranked_26 : decode cX6_ranked 26 = .ok (.aaload, 1) := by decide +kernel
theorem dX6_ranked_27 : decode cX6_ranked 27 = .ok (.invokevirtual 232, 3) := by decide +kernel
theorem dX6_ranked_30 : decode cX6_ranked 30 = .ok (.iastore, 1) := by decide +kernel
theorem dX6_ranked_31 : decode cX6_ranked 31 = .ok (.iinc 2 1, 3) := by decide +kernel
theorem dX6_ranked_34 : decode cX6_ranked 34 = .ok (.goto (-32), 3) := by decide +kernel
theorem dX6_ranked_37 : decode cX6_ranked 37 = .ok (.iconst 0, 1) := by decide +kernel
theorem dX6_ranked_38 : decode cX6_ranked 38 = .ok (.istore_n 2, 1) := by decide +kernel
theorem dX6_ranked_39 : decode cX6_ranked 39 = .ok (.iload_n 2, 1) := by decide +kernel
theorem dX6_ranked_40 : decode cX6_ranked 40 = .ok (.aload_n 0, 1) := by decide +kernel
theorem dX6_ranked_41 : decode cX6_ranked 41 = .ok (.getfield 20, 3) := by decide +kernel
theorem dX6_ranked_44 : decode cX6_ranked 44 = .ok (.getfield 229, 3) := by decide +kernel
theorem dX6_ranked_47 : decode cX6_ranked 47 = .ok (.if_icmp .ge 20, 3) := by decide +kernel
theorem dX6_ranked_50 : decode cX6_ranked 50 = .ok (.aload_n 0, 1) := by decide +kernel
theorem dX6_ranked_51 : decode cX6_ranked 51 = .ok (.iload_n 2, 1) := by decide +kernel
theorem dX6_ranked_52 : decode cX6_ranked 52 = .ok (.invokevirtual 235, 3) := by decide +kernel
theorem dX6_ranked_55 : decode cX6_ranked 55 = .ok (.iload_n 1, 1) := by decide +kernel
theorem dX6_ranked_56 : decode cX6_ranked 56 = .ok (.if_icmp .ne 5, 3) := by decide +kernel
theorem dX6_ranked_59 : decode cX6_ranked 59 = .ok (.iload_n 2, 1) := by decide +kernel
theorem dX6_ranked_60 : decode cX6_ranked 60 = .ok (.ireturn, 1) := by decide +kernel
theorem dX6_ranked_61 : decode cX6_ranked 61 = .ok (.iinc 2 1, 3) := by decide +kernel
theorem dX6_ranked_64 : decode cX6_ranked 64 = .ok (.goto (-25), 3) := by decide +kernel
theorem dX6_ranked_67 : decode cX6_ranked 67 = .ok (.new 179, 3) := by decide +kernel
theorem dX6_ranked_70 : decode cX6_ranked 70 = .ok (.dup, 1) := by decide +kernel
theorem dX6_ranked_71 : decode cX6_ranked 71 = .ok (.invokespecial 181, 3) := by decide +kernel
theorem dX6_ranked_74 : decode cX6_ranked 74 = .ok (.athrow, 1) := by decide +kernel
theorem ab_k119_0 (K : ab_Kt) : ∀ q ∈ ab_l119_0, ab_OK K ab_mt ab_g119 q.1 q.2 := by
  unfold ab_l119_0
  exact List.forall_mem_cons.mpr ⟨ab_iconst_ok dX6_ranked_0 (by decide), List.forall_mem_cons.mpr ⟨ab_istore_n_ok dX6_ranked_1 rfl, List.forall_mem_cons.mpr ⟨ab_iload_n_ok dX6_ranked_2 rfl, List.forall_mem_cons.mpr ⟨ab_aload_n_ok dX6_ranked_3 rfl, List.forall_mem_cons.mpr ⟨ab_getf_ok (C := RX6) (T := TX6) (N := 9) (ci := 10) (k := 1) dX6_ranked_4 rfl ab_ic10 (by decide) ab_w318, List.forall_mem_cons.mpr ⟨ab_getf_ok (C := RX5) (T := TX5) (N := 10) (ci := 9) (k := 2) dX6_ranked_7 rfl ab_ic9 (by decide) ab_w378, List.forall_mem_cons.mpr ⟨ab_icmp_ge_ok dX6_ranked_10 (by decide), List.forall_mem_cons.mpr ⟨ab_aload_n_ok dX6_ranked_13 rfl, List.forall_mem_cons.mpr ⟨ab_getf_ok (C := RX6) (T := TX6) (N := 9) (ci := 10) (k := 8) dX6_ranked_14 rfl ab_ic10 (by decide) ab_w348, List.forall_mem_cons.mpr ⟨ab_iload_n_ok dX6_ranked_17 rfl, List.forall_mem_cons.mpr ⟨ab_aload_n_ok dX6_ranked_18 rfl, List.forall_mem_cons.mpr ⟨ab_getf_ok (C := RX6) (T := TX6) (N := 9) (ci := 10) (k := 1) dX6_ranked_19 rfl ab_ic10 (by decide) ab_w318, List.forall_mem_cons.mpr ⟨ab_getf_ok (C := RX5) (T := TX5) (N := 10) (ci := 9) (k := 0) dX6_ranked_22 rfl ab_ic9 (by decide) ab_w859, List.forall_mem_cons.mpr ⟨ab_iload_n_ok dX6_ranked_25 rfl, List.forall_mem_cons.mpr ⟨ab_aald_ok dX6_ranked_26 rfl, List.forall_mem_cons.mpr ⟨ab_callV_ok' (G' := ab_g199) (C := RX1) (T := TX1) (N := 13) dX6_ranked_27 ab_m199 rfl rfl (by decide) (by decide) (ab_l4 ab_w860 ab_w861 ab_w862 ab_w711) ab_w863 rfl ⟨by decide, by decide, by decide +kernel⟩, List.forall_mem_cons.mpr ⟨ab_ast0_ok dX6_ranked_30, List.forall_mem_cons.mpr ⟨ab_iinc_ok dX6_ranked_31 (by decide), List.forall_mem_cons.mpr ⟨ab_goto_ok dX6_ranked_34 (by decide), List.forall_mem_cons.mpr ⟨ab_iconst_ok dX6_ranked_37 (by decide), List.forall_mem_cons.mpr ⟨ab_istore_n_ok dX6_ranked_38 rfl, List.forall_mem_cons.mpr ⟨ab_iload_n_ok dX6_ranked_39 rfl, List.forall_mem_cons.mpr ⟨ab_aload_n_ok dX6_ranked_40 rfl, List.forall_mem_cons.mpr ⟨ab_getf_ok (C := RX6) (T := TX6) (N := 9) (ci := 10) (k := 1) dX6_ranked_41 rfl ab_ic10 (by decide) ab_w318, List.forall_mem_cons.mpr ⟨ab_getf_ok (C := RX5) (T := TX5) (N := 10) (ci := 9) (k := 2) dX6_ranked_44 rfl ab_ic9 (by decide) ab_w378, List.forall_mem_cons.mpr ⟨ab_icmp_ge_ok dX6_ranked_47 (by decide), List.forall_mem_cons.mpr ⟨ab_aload_n_ok dX6_ranked_50 rfl, List.forall_mem_cons.mpr ⟨ab_iload_n_ok dX6_ranked_51 rfl, List.forall_mem_cons.mpr ⟨ab_callV_ok' (G' := ab_g200) (C := RX6) (T := TX6) (N := 9) dX6_ranked_52 ab_m200 rfl rfl (by decide) (by decide) (ab_l4 ab_w864 ab_w865 ab_w866 ab_w2) ab_w867 rfl ⟨by decide, by decide, by decide +kernel⟩, List.forall_mem_cons.mpr ⟨ab_iload_n_ok dX6_ranked_55 rfl, List.forall_mem_cons.mpr ⟨ab_icmp_ne_ok dX6_ranked_56 (by decide), List.forall_mem_cons.mpr ⟨ab_iload_n_ok dX6_ranked_59 rfl, List.forall_mem_cons.mpr ⟨ab_iret_ok dX6_ranked_60 rfl, List.forall_mem_cons.mpr ⟨ab_iinc_ok dX6_ranked_61 (by decide), List.forall_mem_cons.mpr ⟨ab_goto_ok dX6_ranked_64 (by decide), List.forall_mem_cons.mpr ⟨ab_thr_ok (ik := 179) (ic := 181) (by decide +kernel) (ab_l2 ab_w810 ab_w811) ab_th_4 (by decide +kernel) dX6_ranked_67 dX6_ranked_70 dX6_ranked_71 dX6_ranked_74 rfl, fun _ h => absurd h List.not_mem_nil⟩⟩⟩⟩⟩⟩⟩⟩⟩⟩⟩⟩⟩⟩⟩⟩⟩⟩⟩⟩⟩⟩⟩⟩⟩⟩⟩⟩⟩⟩⟩⟩⟩⟩⟩⟩
theorem ab_k119 (K : ab_Kt) : ∀ pc, ab_OK K ab_mt ab_g119 pc (ab_c119 pc) := ab_lk2_ok _ (List.forall_mem_cons.mpr ⟨ab_k119_0 K, fun _ h => absurd h List.not_mem_nil⟩)
theorem dX7_isAhead_0 : decode cX7_isAhead 0 = .ok (.aload_n 0, 1) := by decide +kernel
theorem dX7_isAhead_1 : decode cX7_isAhead 1 = .ok (.iload_n 1, 1) := by decide +kernel
theorem dX7_isAhead_2 : decode cX7_isAhead 2 = .ok (.invokevirtual 125, 3) := by decide +kernel
theorem dX7_isAhead_5 : decode cX7_isAhead 5 = .ok (.aload_n 0, 1) := by decide +kernel
theorem dX7_isAhead_6 : decode cX7_isAhead 6 = .ok (.iload_n 2, 1) := by decide +kernel
theorem dX7_isAhead_7 : decode cX7_isAhead 7 = .ok (.invokevirtual 125, 3) := by decide +kernel
theorem dX7_isAhead_10 : decode cX7_isAhead 10 = .ok (.if_icmp .eq 22, 3) := by decide +kernel
theorem dX7_isAhead_13 : decode cX7_isAhead 13 = .ok (.aload_n 0, 1) := by decide +kernel
theorem dX7_isAhead_14 : decode cX7_isAhead 14 = .ok (.iload_n 1, 1) := by decide +kernel
theorem dX7_isAhead_15 : decode cX7_isAhead 15 = .ok (.invokevirtual 125, 3) := by decide +kernel
theorem dX7_isAhead_18 : decode cX7_isAhead 18 = .ok (.aload_n 0, 1) := by decide +kernel
theorem dX7_isAhead_19 : decode cX7_isAhead 19 = .ok (.iload_n 2, 1) := by decide +kernel
theorem dX7_isAhead_20 : decode cX7_isAhead 20 = .ok (.invokevirtual 125, 3) := by decide +kernel
theorem dX7_isAhead_23 : decode cX7_isAhead 23 = .ok (.if_icmp .le 7, 3) := by decide +kernel
theorem dX7_isAhead_26 : decode cX7_isAhead 26 = .ok (.iconst 1, 1) := by decide +kernel
theorem dX7_isAhead_27 : decode cX7_isAhead 27 = .ok (.goto 4, 3) := by decide +kernel
theorem dX7_isAhead_30 : decode cX7_isAhead 30 = .ok (.iconst 0, 1) := by decide +kernel
theorem dX7_isAhead_31 : decode cX7_isAhead 31 = .ok (.ireturn, 1) := by decide +kernel
theorem dX7_isAhead_32 : decode cX7_isAhead 32 = .ok (.aload_n 0, 1) := by decide +kernel
theorem dX7_isAhead_33 : decode cX7_isAhead 33 = .ok (.iload_n 1, 1) := by decide +kernel
theorem dX7_isAhead_34 : decode cX7_isAhead 34 = .ok (.invokevirtual 155, 3) := by decide +kernel
theorem dX7_isAhead_37 : decode cX7_isAhead 37 = .ok (.aload_n 0, 1) := by decide +kernel
theorem dX7_isAhead_38 : decode cX7_isAhead 38 = .ok (.iload_n 2, 1) := by decide +kernel
theorem dX7_isAhead_39 : decode cX7_isAhead 39 = .ok (.invokevirtual 155, 3) := by decide +kernel
theorem dX7_isAhead_42 : decode cX7_isAhead 42 = .ok (.if_icmp .eq 24, 3) := by decide +kernel
theorem dX7_isAhead_45 : decode cX7_isAhead 45 = .ok (.aload_n 0, 1) := by decide +kernel
theorem dX7_isAhead_46 : decode cX7_isAhead 46 = .ok (.iload_n 1, 1) := by decide +kernel
theorem dX7_isAhead_47 : decode cX7_isAhead 47 = .ok (.invokevirtual 155, 3) := by decide +kernel
theorem dX7_isAhead_50 : decode cX7_isAhead 50 = .ok (.aload_n 0, 1) := by decide +kernel
theorem dX7_isAhead_51 : decode cX7_isAhead 51 = .ok (.iload_n 2, 1) := by decide +kernel
theorem dX7_isAhead_52 : decode cX7_isAhead 52 = .ok (.invokevirtual 155, 3) := by decide +kernel
theorem dX7_isAhead_55 : decode cX7_isAhead 55 = .ok (.if_icmp .le 7, 3) := by decide +kernel
theorem dX7_isAhead_58 : decode cX7_isAhead 58 = .ok (.iconst 1, 1) := by decide +kernel
theorem dX7_isAhead_59 : decode cX7_isAhead 59 = .ok (.goto 17, 3) := by decide +kernel
theorem dX7_isAhead_62 : decode cX7_isAhead 62 = .ok (.iconst 0, 1) := by decide +kernel
theorem dX7_isAhead_63 : decode cX7_isAhead 63 = .ok (.goto 13, 3) := by decide +kernel
theorem dX7_isAhead_66 : decode cX7_isAhead 66 = .ok (.iload_n 1, 1) := by decide +kernel
theorem dX7_isAhead_67 : decode cX7_isAhead 67 = .ok (.iload_n 2, 1) := by decide +kernel
theorem dX7_isAhead_68 : decode cX7_isAhead 68 = .ok (.if_icmp .ge 7, 3) := by decide +kernel
theorem dX7_isAhead_71 : decode cX7_isAhead 71 = .ok (.iconst 1, 1) := by decide +kernel
theorem ab_k120_0 (K : ab_Kt) : ∀ q ∈ ab_l120_0, ab_OK K ab_mt ab_g120 q.1 q.2 := by
  unfold ab_l120_0
  exact List.forall_mem_cons.mpr ⟨ab_aload_n_ok dX7_isAhead_0 rfl, List.forall_mem_cons.mpr ⟨ab_iload_n_ok dX7_isAhead_1 rfl, List.forall_mem_cons.mpr ⟨ab_callV_ok' (G' := ab_g105) (C := RX7) (T := TX7) (N := 19) dX7_isAhead_2 ab_m105 rfl rfl (by decide) (by decide) (ab_l4 ab_w419 ab_w420 ab_w421 ab_w8) ab_w422 rfl ⟨by decide, by decide, by decide +kernel⟩, List.forall_mem_cons.mpr ⟨ab_aload_n_ok dX7_isAhead_5 rfl, List.forall_mem_cons.mpr ⟨ab_iload_n_ok dX7_isAhead_6 rfl, List.forall_mem_cons.mpr ⟨ab_callV_ok' (G' := ab_g105) (C := RX7) (T := TX7) (N := 19) dX7_isAhead_7 ab_m105 rfl rfl (by decide) (by decide) (ab_l4 ab_w419 ab_w420 ab_w421 ab_w8) ab_w422 rfl ⟨by decide, by decide, by decide +kernel⟩, List.forall_mem_cons.mpr ⟨ab_icmp_eq_ok dX7_isAhead_10 (by decide), List.forall_mem_cons.mpr ⟨ab_aload_n_ok dX7_isAhead_13 rfl, List.forall_mem_cons.mpr ⟨ab_iload_n_ok dX7_isAhead_14 rfl, List.forall_mem_cons.mpr ⟨ab_callV_ok' (G' := ab_g105) (C := RX7) (T := TX7) (N := 19) dX7_isAhead_15 ab_m105 rfl rfl (by decide) (by decide) (ab_l4 ab_w419 ab_w420 ab_w421 ab_w8) ab_w422 rfl ⟨by decide, by decide, by decide +kernel⟩, List.forall_mem_cons.mpr ⟨ab_aload_n_ok dX7_isAhead_18 rfl, List.forall_mem_cons.mpr ⟨ab_iload_n_ok dX7_isAhead_19 rfl, List.forall_mem_cons.mpr ⟨ab_callV_ok' (G' := ab_g105) (C := RX7) (T := TX7) (N := 19) dX7_isAhead_20 ab_m105 rfl rfl (by decide) (by decide) (ab_l4 ab_w419 ab_w420 ab_w421 ab_w8) ab_w422 rfl ⟨by decide, by decide, by decide +kernel⟩, List.forall_mem_cons.mpr ⟨ab_icmp_le_ok dX7_isAhead_23 (by decide), List.forall_mem_cons.mpr ⟨ab_iconst_ok dX7_isAhead_26 (by decide), List.forall_mem_cons.mpr ⟨ab_goto_ok dX7_isAhead_27 (by decide), List.forall_mem_cons.mpr ⟨ab_iconst_ok dX7_isAhead_30 (by decide), List.forall_mem_cons.mpr ⟨ab_zret_ok dX7_isAhead_31 rfl, List.forall_mem_cons.mpr ⟨ab_aload_n_ok dX7_isAhead_32 rfl, List.forall_mem_cons.mpr ⟨ab_iload_n_ok dX7_isAhead_33 rfl, List.forall_mem_cons.mpr ⟨ab_callV_ok' (G' := ab_g139) (C := RX7) (T := TX7) (N := 19) dX7_isAhead_34 ab_m139 rfl rfl (by decide) (by decide) (ab_l4 ab_w560 ab_w561 ab_w562 ab_w8) ab_w563 rfl ⟨by decide, by decide, by decide +kernel⟩, List.forall_mem_cons.mpr ⟨ab_aload_n_ok dX7_isAhead_37 rfl, List.forall_mem_cons.mpr ⟨ab_iload_n_ok dX7_isAhead_38 rfl, List.forall_mem_cons.mpr ⟨ab_callV_ok' (G' := ab_g139) (C := RX7) (T := TX7) (N := 19) dX7_isAhead_39 ab_m139 rfl rfl (by decide) (by decide) (ab_l4 ab_w560 ab_w561 ab_w562 ab_w8) ab_w563 rfl ⟨by decide, by decide, by decide +kernel⟩, List.forall_mem_cons.mpr ⟨ab_icmp_eq_ok dX7_isAhead_42 (by decide), List.forall_mem_cons.mpr ⟨ab_aload_n_ok dX7_isAhead_45 rfl, List.forall_mem_cons.mpr ⟨ab_iload_n_ok dX7_isAhead_46 rfl, List.forall_mem_cons.mpr ⟨ab_callV_ok' (G' := ab_g139) (C := RX7) (T := TX7) (N := 19) dX7_isAhead_47 ab_m139 rfl rfl (by decide) (by decide) (ab_l4 ab_w560 ab_w561 ab_w562 ab_w8) ab_w563 rfl ⟨by decide, by decide, by decide +kernel⟩, List.forall_mem_cons.mpr ⟨ab_aload_n_ok dX7_isAhead_50 rfl, List.forall_mem_cons.mpr ⟨ab_iload_n_ok dX7_isAhead_51 rfl, List.forall_mem_cons.mpr ⟨ab_callV_ok' (G' := ab_g139) (C := RX7) (T := TX7) (N := 19) dX7_isAhead_52 ab_m139 rfl rfl (by decide) (by decide) (ab_l4 ab_w560 ab_w561 ab_w562 ab_w8) ab_w563 rfl ⟨by decide, by decide, by decide +kernel⟩, List.forall_mem_cons.mpr ⟨ab_icmp_le_ok dX7_isAhead_55 (by decide), List.forall_mem_cons.mpr ⟨ab_iconst_ok dX7_isAhead_58 (by decide), List.forall_mem_cons.mpr ⟨ab_goto_ok dX7_isAhead_59 (by decide), List.forall_mem_cons.mpr ⟨ab_iconst_ok dX7_isAhead_62 (by decide), List.forall_mem_cons.mpr ⟨ab_goto_ok dX7_isAhead_63 (by decide), List.forall_mem_cons.mpr ⟨ab_iload_n_ok dX7_isAhead_66 rfl, List.forall_mem_cons.mpr ⟨ab_iload_n_ok dX7_isAhead_67 rfl, List.forall_mem_cons.mpr ⟨ab_icmp_ge_ok dX7_isAhead_68 (by decide), List.forall_mem_cons.mpr ⟨ab_iconst_ok dX7_isAhead_71 (by decide), fun _ h => absurd h List.not_mem_nil⟩⟩⟩⟩⟩⟩⟩⟩⟩⟩⟩⟩⟩⟩⟩⟩⟩⟩⟩⟩⟩⟩⟩⟩⟩⟩⟩⟩⟩⟩⟩⟩⟩⟩⟩⟩⟩⟩⟩⟩
theorem dX7_isAhead_72 : decode cX7_isAhead 72 = .ok (.goto 4, 3) := by decide +kernel
theorem dX7_isAhead_75 : decode cX7_isAhead 75 = .ok (.iconst 0, 1) := by decide +kernel
theorem dX7_isAhead_76 : decode cX7_isAhead 76 = .ok (.ireturn, 1) := by decide +kernel
theorem ab_k120_1 (K : ab_Kt) : ∀ q ∈ ab_l120_1, ab_OK K ab_mt ab_g120 q.1 q.2 := by
  unfold ab_l120_1
  exact List.forall_mem_cons.mpr ⟨ab_goto_ok dX7_isAhead_72 (by decide), List.forall_mem_cons.mpr ⟨ab_iconst_ok dX7_isAhead_75 (by decide), List.forall_mem_cons.mpr ⟨ab_zret_ok dX7_isAhead_76 rfl, fun _ h => absurd h List.not_mem_nil⟩⟩⟩
theorem ab_k120 (K : ab_Kt) : ∀ pc, ab_OK K ab_mt ab_g120 pc (ab_c120 pc) := ab_lk2_ok _ (List.forall_mem_cons.mpr ⟨ab_k120_0 K, List.forall_mem_cons.mpr ⟨ab_k120_1 K, fun _ h => absurd h List.not_mem_nil⟩⟩)
theorem dX6_readyAgain_0 : decode cX6_readyAgain 0 = .ok (.aload_n 0, 1) := by decide +kernel
theorem dX6_readyAgain_1 : decode cX6_readyAgain 1 = .ok (.iload_n 1, 1) := by decide +kernel
theorem dX6_readyAgain_2 : decode cX6_readyAgain 2 = .ok (.invokevirtual 213, 3) := by decide +kernel
theorem dX6_readyAgain_5 : decode cX6_readyAgain 5 = .ok (.astore_n 2, 1) := by decide +kernel
theorem dX6_readyAgain_6 : decode cX6_readyAgain 6 = .ok (.iconst 0, 1) := by decide +kernel
theorem dX6_readyAgain_7 : decode cX6_readyAgain 7 = .ok (.istore_n 3, 1) := by decide +kernel
theorem dX6_readyAgain_8 : decode cX6_readyAgain 8 = .ok (.iload_n 3, 1) := by decide +kernel
theorem dX6_readyAgain_9 : decode cX6_readyAgain 9 = .ok (.bipush 30, 2) := by decide +kernel
theorem dX6_readyAgain_11 : decode cX6_readyAgain 11 = .ok (.if_icmp .ge 18, 3) := by decide +kernel
theorem dX6_readyAgain_14 : decode cX6_readyAgain 14 = .ok (.aload_n 0, 1) := by decide +kernel
theorem dX6_readyAgain_15 : decode cX6_readyAgain 15 = .ok (.aload_n 2, 1) := by decide +kernel
theorem dX6_readyAgain_16 : decode cX6_readyAgain 16 = .ok (.iload_n 3, 1) := by decide +kernel
theorem dX6_readyAgain_17 : decode cX6_readyAgain 17 = .ok (.invokevirtual 225, 3) := by decide +kernel
theorem dX6_readyAgain_20 : decode cX6_readyAgain 20 = .ok (.ifCond .ne 9, 3) := by decide +kernel
theorem dX6_readyAgain_23 : decode cX6_readyAgain 23 = .ok (.iinc 3 1, 3) := by decide +kernel
theorem dX6_readyAgain_26 : decode cX6_readyAgain 26 = .ok (.goto (-18), 3) := by decide +kernel
theorem dX6_readyAgain_29 : decode cX6_readyAgain 29 = .ok (.iload_n 3, 1) := by decide +kernel
theorem dX6_readyAgain_30 : decode cX6_readyAgain 30 = .ok (.ireturn, 1) := by decide +kernel
theorem ab_k121_0 (K : ab_Kt) : ∀ q ∈ ab_l121_0, ab_OK K ab_mt ab_g121 q.1 q.2 := by
  unfold ab_l121_0
  exact List.forall_mem_cons.mpr ⟨ab_aload_n_ok dX6_readyAgain_0 rfl, List.forall_mem_cons.mpr ⟨ab_iload_n_ok dX6_readyAgain_1 rfl, List.forall_mem_cons.mpr ⟨ab_callV_ok' (G' := ab_g201) (C := RX6) (T := TX6) (N := 9) dX6_readyAgain_2 ab_m201 rfl rfl (by decide) (by decide) (ab_l4 ab_w868 ab_w869 ab_w870 ab_w2) ab_w871 rfl ⟨by decide, by decide, by decide +kernel⟩, List.forall_mem_cons.mpr ⟨ab_astore_n_ok dX6_readyAgain_5 rfl, List.forall_mem_cons.mpr ⟨ab_iconst_ok dX6_readyAgain_6 (by decide), List.forall_mem_cons.mpr ⟨ab_istore_n_ok dX6_readyAgain_7 rfl, List.forall_mem_cons.mpr ⟨ab_iload_n_ok dX6_readyAgain_8 rfl, List.forall_mem_cons.mpr ⟨ab_bipush_ok dX6_readyAgain_9 (by decide), List.forall_mem_cons.mpr ⟨ab_icmp_ge_ok dX6_readyAgain_11 (by decide), List.forall_mem_cons.mpr ⟨ab_aload_n_ok dX6_readyAgain_14 rfl, List.forall_mem_cons.mpr ⟨ab_aload_n_ok dX6_readyAgain_15 rfl, List.forall_mem_cons.mpr ⟨ab_iload_n_ok dX6_readyAgain_16 rfl, List.forall_mem_cons.mpr ⟨ab_callV_ok' (G' := ab_g202) (C := RX6) (T := TX6) (N := 9) dX6_readyAgain_17 ab_m202 rfl rfl (by decide) (by decide) (ab_l4 ab_w872 ab_w873 ab_w874 ab_w2) ab_w875 rfl ⟨by decide, by decide, by decide +kernel⟩, List.forall_mem_cons.mpr ⟨ab_if_ne_ok dX6_readyAgain_20 (by decide), List.forall_mem_cons.mpr ⟨ab_iinc_ok dX6_readyAgain_23 (by decide), List.forall_mem_cons.mpr ⟨ab_goto_ok dX6_readyAgain_26 (by decide), List.forall_mem_cons.mpr ⟨ab_iload_n_ok dX6_readyAgain_29 rfl, List.forall_mem_cons.mpr ⟨ab_iret_ok dX6_readyAgain_30 rfl, fun _ h => absurd h List.not_mem_nil⟩⟩⟩⟩⟩⟩⟩⟩⟩⟩⟩⟩⟩⟩⟩⟩⟩⟩
theorem ab_k121 (K : ab_Kt) : ∀ pc, ab_OK K ab_mt ab_g121 pc (ab_c121 pc) := ab_lk2_ok _ (List.forall_mem_cons.mpr ⟨ab_k121_0 K, fun _ h => absurd h List.not_mem_nil⟩)
theorem dX7_isPress_0 : decode cX7_isPress 0 = .ok (.iload_n 0, 1) := by decide +kernel
theorem dX7_isPress_1 : decode cX7_isPress 1 = .ok (.iconst 0, 1) := by decide +kernel
theorem dX7_isPress_2 : decode cX7_isPress 2 = .ok (.iconst 1, 1) := by decide +kernel
theorem dX7_isPress_3 : decode cX7_isPress 3 = .ok (.invokestatic 59, 3) := by decide +kernel
theorem dX7_isPress_6 : decode cX7_isPress 6 = .ok (.ireturn, 1) := by decide +kernel
theorem ab_k122_0 (K : ab_Kt) : ∀ q ∈ ab_l122_0, ab_OK K ab_mt ab_g122 q.1 q.2 := by
  unfold ab_l122_0
  exact List.forall_mem_cons.mpr ⟨ab_iload_n_ok dX7_isPress_0 rfl, List.forall_mem_cons.mpr ⟨ab_iconst_ok dX7_isPress_1 (by decide), List.forall_mem_cons.mpr ⟨ab_iconst_ok dX7_isPress_2 (by decide), List.forall_mem_cons.mpr ⟨ab_callS_ok' (G' := ab_g97) dX7_isPress_3 ab_m97 (by decide) (by decide) (ab_l3 ab_w387 ab_w388 ab_w8) ab_w389 rfl ⟨by decide, by decide, by decide +kernel⟩, List.forall_mem_cons.mpr ⟨ab_zret_ok dX7_isPress_6 rfl, fun _ h => absurd h List.not_mem_nil⟩⟩⟩⟩⟩
theorem ab_k122 (K : ab_Kt) : ∀ pc, ab_OK K ab_mt ab_g122 pc (ab_c122 pc) := ab_lk2_ok _ (List.forall_mem_cons.mpr ⟨ab_k122_0 K, fun _ h => absurd h List.not_mem_nil⟩)
theorem dX7_inStack_0 : decode cX7_inStack 0 = .ok (.aload_n 0, 1) := by decide +kernel
theorem dX7_inStack_1 : decode cX7_inStack 1 = .ok (.getfield 7, 3) := by decide +kernel
theorem dX7_inStack_4 : decode cX7_inStack 4 = .ok (.bipush 8, 2) := by decide +kernel
theorem dX7_inStack_6 : decode cX7_inStack 6 = .ok (.iconst 4, 1) := by decide +kernel
theorem dX7_inStack_7 : decode cX7_inStack 7 = .ok (.iload_n 1, 1) := by decide +kernel
theorem dX7_inStack_8 : decode cX7_inStack 8 = .ok (.imul, 1) := by decide +kernel
theorem dX7_inStack_9 : decode cX7_inStack 9 = .ok (.iadd, 1) := by decide +kernel
theorem dX7_inStack_10 : decode cX7_inStack 10 = .ok (.iconst 1, 1) := by decide +kernel
theorem dX7_inStack_11 : decode cX7_inStack 11 = .ok (.iadd, 1) := by decide +kernel
theorem dX7_inStack_12 : decode cX7_inStack 12 = .ok (.iload_n 2, 1) := by decide +kernel
theorem dX7_inStack_13 : decode cX7_inStack 13 = .ok (.iadd, 1) := by decide +kernel
theorem dX7_inStack_14 : decode cX7_inStack 14 = .ok (.iaload, 1) := by decide +kernel
theorem dX7_inStack_15 : decode cX7_inStack 15 = .ok (.ireturn, 1) := by decide +kernel
theorem ab_k123_0 (K : ab_Kt) : ∀ q ∈ ab_l123_0, ab_OK K ab_mt ab_g123 q.1 q.2 := by
  unfold ab_l123_0
  exact List.forall_mem_cons.mpr ⟨ab_aload_n_ok dX7_inStack_0 rfl, List.forall_mem_cons.mpr ⟨ab_getf_ok (C := RX7) (T := TX7) (N := 19) (ci := 11) (k := 0) dX7_inStack_1 rfl ab_ic11 (by decide) ab_w350, List.forall_mem_cons.mpr ⟨ab_bipush_ok dX7_inStack_4 (by decide), List.forall_mem_cons.mpr ⟨ab_iconst_ok dX7_inStack_6 (by decide), List.forall_mem_cons.mpr ⟨ab_iload_n_ok dX7_inStack_7 rfl, List.forall_mem_cons.mpr ⟨ab_imul_ok dX7_inStack_8, List.forall_mem_cons.mpr ⟨ab_iadd_ok dX7_inStack_9, List.forall_mem_cons.mpr ⟨ab_iconst_ok dX7_inStack_10 (by decide), List.forall_mem_cons.mpr ⟨ab_iadd_ok dX7_inStack_11, List.forall_mem_cons.mpr ⟨ab_iload_n_ok dX7_inStack_12 rfl, List.forall_mem_cons.mpr ⟨ab_iadd_ok dX7_inStack_13, List.forall_mem_cons.mpr ⟨ab_ald0_ok dX7_inStack_14, List.forall_mem_cons.mpr ⟨ab_iret_ok dX7_inStack_15 rfl, fun _ h => absurd h List.not_mem_nil⟩⟩⟩⟩⟩⟩⟩⟩⟩⟩⟩⟩⟩
theorem ab_k123 (K : ab_Kt) : ∀ pc, ab_OK K ab_mt ab_g123 pc (ab_c123 pc) := ab_lk2_ok _ (List.forall_mem_cons.mpr ⟨ab_k123_0 K, fun _ h => absurd h List.not_mem_nil⟩)
theorem dX6_readyIn_0 : decode cX6_readyIn 0 = .ok (.aload_n 0, 1) := by decide +kernel
theorem dX6_readyIn_1 : decode cX6_readyIn 1 = .ok (.iload_n 1, 1) := by decide +kernel
theorem dX6_readyIn_2 : decode cX6_readyIn 2 = .ok (.invokevirtual 213, 3) := by decide +kernel
theorem dX6_readyIn_5 : decode cX6_readyIn 5 = .ok (.astore_n 2, 1) := by decide +kernel
theorem dX6_readyIn_6 : decode cX6_readyIn 6 = .ok (.iconst 0, 1) := by decide +kernel
theorem dX6_readyIn_7 : decode cX6_readyIn 7 = .ok (.istore_n 3, 1) := by decide +kernel
theorem dX6_readyIn_8 : decode cX6_readyIn 8 = .ok (.iconst 0, 1) := by decide +kernel
theorem dX6_readyIn_9 : decode cX6_readyIn 9 = .ok (.istore 4, 2) := by decide +kernel
theorem dX6_readyIn_11 : decode cX6_readyIn 11 = .ok (.iload 4, 2) := by decide +kernel
theorem dX6_readyIn_13 : decode cX6_readyIn 13 = .ok (.aload_n 2, 1) := by decide +kernel
theorem dX6_readyIn_14 : decode cX6_readyIn 14 = .ok (.getfield 205, 3) := by decide +kernel
theorem dX6_readyIn_17 : decode cX6_readyIn 17 = .ok (.if_icmp .ge 32, 3) := by decide +kernel
theorem dX6_readyIn_20 : decode cX6_readyIn 20 = .ok (.iload_n 3, 1) := by decide +kernel
theorem dX6_readyIn_21 : decode cX6_readyIn 21 = .ok (.aload_n 0, 1) := by decide +kernel
theorem dX6_readyIn_22 : decode cX6_readyIn 22 = .ok (.getfield 20, 3) := by decide +kernel
theorem dX6_readyIn_25 : decode cX6_readyIn 25 = .ok (.getfield 216, 3) := by decide +kernel
theorem dX6_readyIn_28 : decode cX6_readyIn 28 = .ok (.aload_n 2, 1) := by decide +kernel
theorem dX6_readyIn_29 : decode cX6_readyIn 29 = .ok (.getfield 210, 3) := by decide +kernel
theorem dX6_readyIn_32 : decode cX6_readyIn 32 = .ok (.iload 4, 2) := by decide +kernel
theorem dX6_readyIn_34 : decode cX6_readyIn 34 = .ok (.iaload, 1) := by decide +kernel
theorem dX6_readyIn_35 : decode cX6_readyIn 35 = .ok (.aaload, 1) := by decide +kernel
theorem dX6_readyIn_36 : decode cX6_readyIn 36 = .ok (.getfield 137, 3) := by decide +kernel
theorem dX6_readyIn_39 : decode cX6_readyIn 39 = .ok (.invokestatic 220, 3) := by decide +kernel
theorem dX6_readyIn_42 : decode cX6_readyIn 42 = .ok (.istore_n 3, 1) := by decide +kernel
theorem dX6_readyIn_43 : decode cX6_readyIn 43 = .ok (.iinc 4 1, 3) := by decide +kernel
theorem dX6_readyIn_46 : decode cX6_readyIn 46 = .ok (.goto (-35), 3) := by decide +kernel
theorem dX6_readyIn_49 : decode cX6_readyIn 49 = .ok (.iload_n 3, 1) := by decide +kernel
theorem dX6_readyIn_50 : decode cX6_readyIn 50 = .ok (.ireturn, 1) := by decide +kernel
theorem ab_k124_0 (K : ab_Kt) : ∀ q ∈ ab_l124_0, ab_OK K ab_mt ab_g124 q.1 q.2 := by
  unfold ab_l124_0
  exact List.forall_mem_cons.mpr ⟨ab_aload_n_ok dX6_readyIn_0 rfl, List.forall_mem_cons.mpr ⟨ab_iload_n_ok dX6_readyIn_1 rfl, List.forall_mem_cons.mpr ⟨ab_callV_ok' (G' := ab_g201) (C := RX6) (T := TX6) (N := 9) dX6_readyIn_2 ab_m201 rfl rfl (by decide) (by decide) (ab_l4 ab_w868 ab_w869 ab_w870 ab_w2) ab_w871 rfl ⟨by decide, by decide, by decide +kernel⟩, List.forall_mem_cons.mpr ⟨ab_astore_n_ok dX6_readyIn_5 rfl, List.forall_mem_cons.mpr ⟨ab_iconst_ok dX6_readyIn_6 (by decide), List.forall_mem_cons.mpr ⟨ab_istore_n_ok dX6_readyIn_7 rfl, List.forall_mem_cons.mpr ⟨ab_iconst_ok dX6_readyIn_8 (by decide), List.forall_mem_cons.mpr ⟨ab_istore_ok dX6_readyIn_9, List.forall_mem_cons.mpr ⟨ab_iload_ok dX6_readyIn_11, List.forall_mem_cons.mpr ⟨ab_aload_n_ok dX6_readyIn_13 rfl, List.forall_mem_cons.mpr ⟨ab_getf_ok (C := RX4) (T := TX4) (N := 2) (ci := 8) (k := 1) dX6_readyIn_14 rfl ab_ic8 (by decide) ab_w876, List.forall_mem_cons.mpr ⟨ab_icmp_ge_ok dX6_readyIn_17 (by decide), List.forall_mem_cons.mpr ⟨ab_iload_n_ok dX6_readyIn_20 rfl, List.forall_mem_cons.mpr ⟨ab_aload_n_ok dX6_readyIn_21 rfl, List.forall_mem_cons.mpr ⟨ab_getf_ok (C := RX6) (T := TX6) (N := 9) (ci := 10) (k := 1) dX6_readyIn_22 rfl ab_ic10 (by decide) ab_w318, List.forall_mem_cons.mpr ⟨ab_getf_ok (C := RX5) (T := TX5) (N := 10) (ci := 9) (k := 0) dX6_readyIn_25 rfl ab_ic9 (by decide) ab_w859, List.forall_mem_cons.mpr ⟨ab_aload_n_ok dX6_readyIn_28 rfl, List.forall_mem_cons.mpr ⟨ab_getf_ok (C := RX4) (T := TX4) (N := 2) (ci := 8) (k := 0) dX6_readyIn_29 rfl ab_ic8 (by decide) ab_w877, List.forall_mem_cons.mpr ⟨ab_iload_ok dX6_readyIn_32, List.forall_mem_cons.mpr ⟨ab_ald0_ok dX6_readyIn_34, List.forall_mem_cons.mpr ⟨ab_aald_ok dX6_readyIn_35 rfl, List.forall_mem_cons.mpr ⟨ab_getf_ok (C := RX1) (T := TX1) (N := 13) (ci := 5) (k := 7) dX6_readyIn_36 rfl ab_ic5 (by decide) ab_w878, List.forall_mem_cons.mpr ⟨ab_mmax_ok dX6_readyIn_39 (ab_l4 ab_w879 ab_w880 ab_w881 ab_w882), List.forall_mem_cons.mpr ⟨ab_istore_n_ok dX6_readyIn_42 rfl, List.forall_mem_cons.mpr ⟨ab_iinc_ok dX6_readyIn_43 (by decide), List.forall_mem_cons.mpr ⟨ab_goto_ok dX6_readyIn_46 (by decide), List.forall_mem_cons.mpr ⟨ab_iload_n_ok dX6_readyIn_49 rfl, List.forall_mem_cons.mpr ⟨ab_iret_ok dX6_readyIn_50 rfl, fun _ h => absurd h List.not_mem_nil⟩⟩⟩⟩⟩⟩⟩⟩⟩⟩⟩⟩⟩⟩⟩⟩⟩⟩⟩⟩⟩⟩⟩⟩⟩⟩⟩⟩
theorem ab_k124 (K : ab_Kt) : ∀ pc, ab_OK K ab_mt ab_g124 pc (ab_c124 pc) := ab_lk2_ok _ (List.forall_mem_cons.mpr ⟨ab_k124_0 K, fun _ h => absurd h List.not_mem_nil⟩)
theorem dX7_needs_0 : decode cX7_needs 0 = .ok (.aload_n 0, 1) := by decide +kernel
theorem dX7_needs_1 : decode cX7_needs 1 = .ok (.iload_n 1, 1) := by decide +kernel
theorem dX7_needs_2 : decode cX7_needs 2 = .ok (.iconst 5, 1) := by decide +kernel
theorem dX7_needs_3 : decode cX7_needs 3 = .ok (.invokevirtual 63, 3) := by decide +kernel
theorem dX7_needs_6 : decode cX7_needs 6 = .ok (.ifCond .ge 7, 3) := by decide +kernel
theorem dX7_needs_9 : decode cX7_needs 9 = .ok (.iconst 0, 1) := by decide +kernel
theorem dX7_needs_10 : decode cX7_needs 10 = .ok (.goto 21, 3) := by decide +kernel
theorem dX7_needs_13 : decode cX7_needs 13 = .ok (.iconst 0, 1) := by decide +kernel
theorem dX7_needs_14 : decode cX7_needs 14 = .ok (.aload_n 0, 1) := by decide +kernel
theorem dX7_needs_15 : decode cX7_needs 15 = .ok (.iload_n 1, 1) := by decide +kernel
theorem dX7_needs_16 : decode cX7_needs 16 = .ok (.bipush 6, 2) := by decide +kernel
theorem dX7_needs_18 : decode cX7_needs 18 = .ok (.invokevirtual 63, 3) := by decide +kernel
theorem dX7_needs_21 : decode cX7_needs 21 = .ok (.aload_n 0, 1) := by decide +kernel
theorem dX7_needs_22 : decode cX7_needs 22 = .ok (.getfield 7, 3) := by decide +kernel
theorem dX7_needs_25 : decode cX7_needs 25 = .ok (.iconst 0, 1) := by decide +kernel
theorem dX7_needs_26 : decode cX7_needs 26 = .ok (.iaload, 1) := by decide +kernel
theorem dX7_needs_27 : decode cX7_needs 27 = .ok (.isub, 1) := by decide +kernel
theorem dX7_needs_28 : decode cX7_needs 28 = .ok (.invokestatic 131, 3) := by decide +kernel
theorem dX7_needs_31 : decode cX7_needs 31 = .ok (.ireturn, 1) := by decide +kernel
theorem ab_k125_0 (K : ab_Kt) : ∀ q ∈ ab_l125_0, ab_OK K ab_mt ab_g125 q.1 q.2 := by
  unfold ab_l125_0
  exact List.forall_mem_cons.mpr ⟨ab_aload_n_ok dX7_needs_0 rfl, List.forall_mem_cons.mpr ⟨ab_iload_n_ok dX7_needs_1 rfl, List.forall_mem_cons.mpr ⟨ab_iconst_ok dX7_needs_2 (by decide), List.forall_mem_cons.mpr ⟨ab_callV_ok' (G' := ab_g110) (C := RX7) (T := TX7) (N := 19) dX7_needs_3 ab_m110 rfl rfl (by decide) (by decide) (ab_l4 ab_w440 ab_w441 ab_w442 ab_w8) ab_w443 rfl ⟨by decide, by decide, by decide +kernel⟩, List.forall_mem_cons.mpr ⟨ab_if_ge_ok dX7_needs_6 (by decide), List.forall_mem_cons.mpr ⟨ab_iconst_ok dX7_needs_9 (by decide), List.forall_mem_cons.mpr ⟨ab_goto_ok dX7_needs_10 (by decide), List.forall_mem_cons.mpr ⟨ab_iconst_ok dX7_needs_13 (by decide), List.forall_mem_cons.mpr ⟨ab_aload_n_ok dX7_needs_14 rfl, List.forall_mem_cons.mpr ⟨ab_iload_n_ok dX7_needs_15 rfl, List.forall_mem_cons.mpr ⟨ab_bipush_ok dX7_needs_16 (by decide), List.forall_mem_cons.mpr ⟨ab_callV_ok' (G' := ab_g110) (C := RX7) (T := TX7) (N := 19) dX7_needs_18 ab_m110 rfl rfl (by decide) (by decide) (ab_l4 ab_w440 ab_w441 ab_w442 ab_w8) ab_w443 rfl ⟨by decide, by decide, by decide +kernel⟩, List.forall_mem_cons.mpr ⟨ab_aload_n_ok dX7_needs_21 rfl, List.forall_mem_cons.mpr ⟨ab_getf_ok (C := RX7) (T := TX7) (N := 19) (ci := 11) (k := 0) dX7_needs_22 rfl ab_ic11 (by decide) ab_w350, List.forall_mem_cons.mpr ⟨ab_iconst_ok dX7_needs_25 (by decide), List.forall_mem_cons.mpr ⟨ab_ald0_ok dX7_needs_26, List.forall_mem_cons.mpr ⟨ab_isub_ok dX7_needs_27, List.forall_mem_cons.mpr ⟨ab_callS_ok' (G' := ab_g126) dX7_needs_28 ab_m126 (by decide) (by decide) (ab_l3 ab_w509 ab_w510 ab_w8) ab_w511 rfl ⟨by decide, by decide, by decide +kernel⟩, List.forall_mem_cons.mpr ⟨ab_iret_ok dX7_needs_31 rfl, fun _ h => absurd h List.not_mem_nil⟩⟩⟩⟩⟩⟩⟩⟩⟩⟩⟩⟩⟩⟩⟩⟩⟩⟩⟩
theorem ab_k125 (K : ab_Kt) : ∀ pc, ab_OK K ab_mt ab_g125 pc (ab_c125 pc) := ab_lk2_ok _ (List.forall_mem_cons.mpr ⟨ab_k125_0 K, fun _ h => absurd h List.not_mem_nil⟩)
theorem dX7_more_0 : decode cX7_more 0 = .ok (.iload_n 0, 1) := by decide +kernel
theorem dX7_more_1 : decode cX7_more 1 = .ok (.iload_n 1, 1) := by decide +kernel
theorem dX7_more_2 : decode cX7_more 2 = .ok (.if_icmp .le 7, 3) := by decide +kernel
theorem dX7_more_5 : decode cX7_more 5 = .ok (.iload_n 0, 1) := by decide +kernel
theorem dX7_more_6 : decode cX7_more 6 = .ok (.goto 4, 3) := by decide +kernel
theorem dX7_more_9 : decode cX7_more 9 = .ok (.iload_n 1, 1) := by decide +kernel
theorem dX7_more_10 : decode cX7_more 10 = .ok (.ireturn, 1) := by decide +kernel
theorem ab_k126_0 (K : ab_Kt) : ∀ q ∈ ab_l126_0, ab_OK K ab_mt ab_g126 q.1 q.2 := by
  unfold ab_l126_0
  exact List.forall_mem_cons.mpr ⟨ab_iload_n_ok dX7_more_0 rfl, List.forall_mem_cons.mpr ⟨ab_iload_n_ok dX7_more_1 rfl, List.forall_mem_cons.mpr ⟨ab_icmp_le_ok dX7_more_2 (by decide), List.forall_mem_cons.mpr ⟨ab_iload_n_ok dX7_more_5 rfl, List.forall_mem_cons.mpr ⟨ab_goto_ok dX7_more_6 (by decide), List.forall_mem_cons.mpr ⟨ab_iload_n_ok dX7_more_9 rfl, List.forall_mem_cons.mpr ⟨ab_iret_ok dX7_more_10 rfl, fun _ h => absurd h List.not_mem_nil⟩⟩⟩⟩⟩⟩⟩
theorem ab_k126 (K : ab_Kt) : ∀ pc, ab_OK K ab_mt ab_g126 pc (ab_c126 pc) := ab_lk2_ok _ (List.forall_mem_cons.mpr ⟨ab_k126_0 K, fun _ h => absurd h List.not_mem_nil⟩)
theorem dX6_inPress_0 : decode cX6_inPress 0 = .ok (.aload_n 0, 1) := by decide +kernel
theorem dX6_inPress_1 : decode cX6_inPress 1 = .ok (.iload_n 1, 1) := by decide +kernel
theorem dX6_inPress_2 : decode cX6_inPress 2 = .ok (.invokevirtual 201, 3) := by decide +kernel
theorem dX6_inPress_5 : decode cX6_inPress 5 = .ok (.astore_n 3, 1) := by decide +kernel
theorem dX6_inPress_6 : decode cX6_inPress 6 = .ok (.iload_n 2, 1) := by decide +kernel
theorem dX6_inPress_7 : decode cX6_inPress 7 = .ok (.ifCond .lt 11, 3) := by decide +kernel
theorem dX6_inPress_10 : decode cX6_inPress 10 = .ok (.iload_n 2, 1) := by decide +kernel
theorem dX6_inPress_11 : decode cX6_inPress 11 = .ok (.aload_n 3, 1) := by decide +kernel
theorem dX6_inPress_12 : decode cX6_inPress 12 = .ok (.getfield 205, 3) := by decide +kernel
theorem dX6_inPress_15 : decode cX6_inPress 15 = .ok (.if_icmp .lt 11, 3) := by decide +kernel
theorem dX6_inPress_18 : decode cX6_inPress 18 = .ok (.new 179, 3) := by decide +kernel
theorem dX6_inPress_21 : decode cX6_inPress 21 = .ok (.dup, 1) := by decide +kernel
theorem dX6_inPress_22 : decode cX6_inPress 22 = .ok (.invokespecial 181, 3) := by decide +kernel
theorem dX6_inPress_25 : decode cX6_inPress 25 = .ok (.athrow, 1) := by decide +kernel
theorem dX6_inPress_26 : decode cX6_inPress 26 = .ok (.aload_n 3, 1) := by decide +kernel
theorem dX6_inPress_27 : decode cX6_inPress 27 = .ok (.getfield 210, 3) := by decide +kernel
theorem dX6_inPress_30 : decode cX6_inPress 30 = .ok (.iload_n 2, 1) := by decide +kernel
theorem dX6_inPress_31 : decode cX6_inPress 31 = .ok (.iaload, 1) := by decide +kernel
theorem dX6_inPress_32 : decode cX6_inPress 32 = .ok (.ireturn, 1) := by decide +kernel
theorem ab_k127_0 (K : ab_Kt) : ∀ q ∈ ab_l127_0, ab_OK K ab_mt ab_g127 q.1 q.2 := by
  unfold ab_l127_0
  exact List.forall_mem_cons.mpr ⟨ab_aload_n_ok dX6_inPress_0 rfl, List.forall_mem_cons.mpr ⟨ab_iload_n_ok dX6_inPress_1 rfl, List.forall_mem_cons.mpr ⟨ab_callV_ok' (G' := ab_g203) (C := RX6) (T := TX6) (N := 9) dX6_inPress_2 ab_m203 rfl rfl (by decide) (by decide) (ab_l4 ab_w883 ab_w884 ab_w885 ab_w2) ab_w886 rfl ⟨by decide, by decide, by decide +kernel⟩, List.forall_mem_cons.mpr ⟨ab_astore_n_ok dX6_inPress_5 rfl, List.forall_mem_cons.mpr ⟨ab_iload_n_ok dX6_inPress_6 rfl, List.forall_mem_cons.mpr ⟨ab_if_lt_ok dX6_inPress_7 (by decide), List.forall_mem_cons.mpr ⟨ab_iload_n_ok dX6_inPress_10 rfl, List.forall_mem_cons.mpr ⟨ab_aload_n_ok dX6_inPress_11 rfl, List.forall_mem_cons.mpr ⟨ab_getf_ok (C := RX4) (T := TX4) (N := 2) (ci := 8) (k := 1) dX6_inPress_12 rfl ab_ic8 (by decide) ab_w876, List.forall_mem_cons.mpr ⟨ab_icmp_lt_ok dX6_inPress_15 (by decide), List.forall_mem_cons.mpr ⟨ab_thr_ok (ik := 179) (ic := 181) (by decide +kernel) (ab_l2 ab_w810 ab_w811) ab_th_4 (by decide +kernel) dX6_inPress_18 dX6_inPress_21 dX6_inPress_22 dX6_inPress_25 rfl, List.forall_mem_cons.mpr ⟨ab_aload_n_ok dX6_inPress_26 rfl, List.forall_mem_cons.mpr ⟨ab_getf_ok (C := RX4) (T := TX4) (N := 2) (ci := 8) (k := 0) dX6_inPress_27 rfl ab_ic8 (by decide) ab_w877, List.forall_mem_cons.mpr ⟨ab_iload_n_ok dX6_inPress_30 rfl, List.forall_mem_cons.mpr ⟨ab_ald0_ok dX6_inPress_31, List.forall_mem_cons.mpr ⟨ab_iret_ok dX6_inPress_32 rfl, fun _ h => absurd h List.not_mem_nil⟩⟩⟩⟩⟩⟩⟩⟩⟩⟩⟩⟩⟩⟩⟩⟩
theorem ab_k127 (K : ab_Kt) : ∀ pc, ab_OK K ab_mt ab_g127 pc (ab_c127 pc) := ab_lk2_ok _ (List.forall_mem_cons.mpr ⟨ab_k127_0 K, fun _ h => absurd h List.not_mem_nil⟩)
theorem dX6_hasSlip_0 : decode cX6_hasSlip 0 = .ok (.aload_n 0, 1) := by decide +kernel
theorem dX6_hasSlip_1 : decode cX6_hasSlip 1 = .ok (.iload_n 1, 1) := by decide +kernel
theorem dX6_hasSlip_2 : decode cX6_hasSlip 2 = .ok (.iload_n 2, 1) := by decide +kernel
theorem dX6_hasSlip_3 : decode cX6_hasSlip 3 = .ok (.invokevirtual 163, 3) := by decide +kernel
theorem dX6_hasSlip_6 : decode cX6_hasSlip 6 = .ok (.iload_n 2, 1) := by decide +kernel
theorem dX6_hasSlip_7 : decode cX6_hasSlip 7 = .ok (.invokevirtual 197, 3) := by decide +kernel
theorem dX6_hasSlip_10 : decode cX6_hasSlip 10 = .ok (.ireturn, 1) := by decide +kernel
theorem ab_k128_0 (K : ab_Kt) : ∀ q ∈ ab_l128_0, ab_OK K ab_mt ab_g128 q.1 q.2 := by
  unfold ab_l128_0
  exact List.forall_mem_cons.mpr ⟨ab_aload_n_ok dX6_hasSlip_0 rfl, List.forall_mem_cons.mpr ⟨ab_iload_n_ok dX6_hasSlip_1 rfl, List.forall_mem_cons.mpr ⟨ab_iload_n_ok dX6_hasSlip_2 rfl, List.forall_mem_cons.mpr ⟨ab_callV_ok' (G' := ab_g204) (C := RX6) (T := TX6) (N := 9) dX6_hasSlip_3 ab_m204 rfl rfl (by decide) (by decide) (ab_l4 ab_w887 ab_w888 ab_w889 ab_w2) ab_w890 rfl ⟨by decide, by decide, by decide +kernel⟩, List.forall_mem_cons.mpr ⟨ab_iload_n_ok dX6_hasSlip_6 rfl, List.forall_mem_cons.mpr ⟨ab_callV_ok' (G' := ab_g205) (C := RX1) (T := TX1) (N := 13) dX6_hasSlip_7 ab_m205 rfl rfl (by decide) (by decide) (ab_l4 ab_w891 ab_w892 ab_w893 ab_w711) ab_w894 rfl ⟨by decide, by decide, by decide +kernel⟩, List.forall_mem_cons.mpr ⟨ab_zret_ok dX6_hasSlip_10 rfl, fun _ h => absurd h List.not_mem_nil⟩⟩⟩⟩⟩⟩⟩
theorem ab_k128 (K : ab_Kt) : ∀ pc, ab_OK K ab_mt ab_g128 pc (ab_c128 pc) := ab_lk2_ok _ (List.forall_mem_cons.mpr ⟨ab_k128_0 K, fun _ h => absurd h List.not_mem_nil⟩)
theorem dX7_isPosition_0 : decode cX7_isPosition 0 = .ok (.aload_n 0, 1) := by decide +kernel
theorem dX7_isPosition_1 : decode cX7_isPosition 1 = .ok (.iload_n 1, 1) := by decide +kernel
theorem dX7_isPosition_2 : decode cX7_isPosition 2 = .ok (.invokevirtual 94, 3) := by decide +kernel
theorem dX7_isPosition_5 : decode cX7_isPosition 5 = .ok (.ifCond .eq 22, 3) := by decide +kernel
theorem dX7_isPosition_8 : decode cX7_isPosition 8 = .ok (.iload_n 2, 1) := by decide +kernel
theorem dX7_isPosition_9 : decode cX7_isPosition 9 = .ok (.iconst 0, 1) := by decide +kernel
theorem dX7_isPosition_10 : decode cX7_isPosition 10 = .ok (.aload_n 0, 1) := by decide +kernel
theorem dX7_isPosition_11 : decode cX7_isPosition 11 = .ok (.iload_n 1, 1) := by decide +kernel
theorem dX7_isPosition_12 : decode cX7_isPosition 12 = .ok (.invokevirtual 80, 3) := by decide +kernel
theorem dX7_isPosition_15 : decode cX7_isPosition 15 = .ok (.iconst 1, 1) := by decide +kernel
theorem dX7_isPosition_16 : decode cX7_isPosition 16 = .ok (.isub, 1) := by decide +kernel
theorem dX7_isPosition_17 : decode cX7_isPosition 17 = .ok (.invokestatic 59, 3) := by decide +kernel
theorem dX7_isPosition_20 : decode cX7_isPosition 20 = .ok (.ifCond .eq 7, 3) := by decide +kernel
theorem dX7_isPosition_23 : decode cX7_isPosition 23 = .ok (.iconst 1, 1) := by decide +kernel
theorem dX7_isPosition_24 : decode cX7_isPosition 24 = .ok (.goto 4, 3) := by decide +kernel
theorem dX7_isPosition_27 : decode cX7_isPosition 27 = .ok (.iconst 0, 1) := by decide +kernel
theorem dX7_isPosition_28 : decode cX7_isPosition 28 = .ok (.ireturn, 1) := by decide +kernel
theorem ab_k129_0 (K : ab_Kt) : ∀ q ∈ ab_l129_0, ab_OK K ab_mt ab_g129 q.1 q.2 := by
  unfold ab_l129_0
  exact List.forall_mem_cons.mpr ⟨ab_aload_n_ok dX7_isPosition_0 rfl, List.forall_mem_cons.mpr ⟨ab_iload_n_ok dX7_isPosition_1 rfl, List.forall_mem_cons.mpr ⟨ab_callV_ok' (G' := ab_g103) (C := RX7) (T := TX7) (N := 19) dX7_isPosition_2 ab_m103 rfl rfl (by decide) (by decide) (ab_l4 ab_w411 ab_w412 ab_w413 ab_w8) ab_w414 rfl ⟨by decide, by decide, by decide +kernel⟩, List.forall_mem_cons.mpr ⟨ab_if_eq_ok dX7_isPosition_5 (by decide), List.forall_mem_cons.mpr ⟨ab_iload_n_ok dX7_isPosition_8 rfl, List.forall_mem_cons.mpr ⟨ab_iconst_ok dX7_isPosition_9 (by decide), List.forall_mem_cons.mpr ⟨ab_aload_n_ok dX7_isPosition_10 rfl, List.forall_mem_cons.mpr ⟨ab_iload_n_ok dX7_isPosition_11 rfl, List.forall_mem_cons.mpr ⟨ab_callV_ok' (G' := ab_g104) (C := RX7) (T := TX7) (N := 19) dX7_isPosition_12 ab_m104 rfl rfl (by decide) (by decide) (ab_l4 ab_w415 ab_w416 ab_w417 ab_w8) ab_w418 rfl ⟨by decide, by decide, by decide +kernel⟩, List.forall_mem_cons.mpr ⟨ab_iconst_ok dX7_isPosition_15 (by decide), List.forall_mem_cons.mpr ⟨ab_isub_ok dX7_isPosition_16, List.forall_mem_cons.mpr ⟨ab_callS_ok' (G' := ab_g97) dX7_isPosition_17 ab_m97 (by decide) (by decide) (ab_l3 ab_w387 ab_w388 ab_w8) ab_w389 rfl ⟨by decide, by decide, by decide +kernel⟩, List.forall_mem_cons.mpr ⟨ab_if_eq_ok dX7_isPosition_20 (by decide), List.forall_mem_cons.mpr ⟨ab_iconst_ok dX7_isPosition_23 (by decide), List.forall_mem_cons.mpr ⟨ab_goto_ok dX7_isPosition_24 (by decide), List.forall_mem_cons.mpr ⟨ab_iconst_ok dX7_isPosition_27 (by decide), List.forall_mem_cons.mpr ⟨ab_zret_ok dX7_isPosition_28 rfl, fun _ h => absurd h List.not_mem_nil⟩⟩⟩⟩⟩⟩⟩⟩⟩⟩⟩⟩⟩⟩⟩⟩⟩
theorem ab_k129 (K : ab_Kt) : ∀ pc, ab_OK K ab_mt ab_g129 pc (ab_c129 pc) := ab_lk2_ok _ (List.forall_mem_cons.mpr ⟨ab_k129_0 K, fun _ h => absurd h List.not_mem_nil⟩)
theorem dX7_isSlipped_0 : decode cX7_isSlipped 0 = .ok (.aload_n 0, 1) := by decide +kernel
theorem dX7_isSlipped_1 : decode cX7_isSlipped 1 = .ok (.iload_n 1, 1) := by decide +kernel
theorem dX7_isSlipped_2 : decode cX7_isSlipped 2 = .ok (.bipush 43, 2) := by decide +kernel
theorem dX7_isSlipped_4 : decode cX7_isSlipped 4 = .ok (.iload_n 2, 1) := by decide +kernel
theorem dX7_isSlipped_5 : decode cX7_isSlipped 5 = .ok (.bipush 24, 2) := by decide +kernel
theorem dX7_isSlipped_7 : decode cX7_isSlipped 7 = .ok (.idiv, 1) := by decide +kernel
theorem dX7_isSlipped_8 : decode cX7_isSlipped 8 = .ok (.iadd, 1) := by decide +kernel
theorem dX7_isSlipped_9 : decode cX7_isSlipped 9 = .ok (.invokevirtual 63, 3) := by decide +kernel
theorem dX7_isSlipped_12 : decode cX7_isSlipped 12 = .ok (.iload_n 2, 1) := by decide +kernel
theorem dX7_isSlipped_13 : decode cX7_isSlipped 13 = .ok (.bipush 24, 2) := by decide +kernel
theorem dX7_isSlipped_15 : decode cX7_isSlipped 15 = .ok (.irem, 1) := by decide +kernel
theorem dX7_isSlipped_16 : decode cX7_isSlipped 16 = .ok (.ishr, 1) := by decide +kernel
theorem dX7_isSlipped_17 : decode cX7_isSlipped 17 = .ok (.iconst 1, 1) := by decide +kernel
theorem dX7_isSlipped_18 : decode cX7_isSlipped 18 = .ok (.iand, 1) := by decide +kernel
theorem dX7_isSlipped_19 : decode cX7_isSlipped 19 = .ok (.iconst 1, 1) := by decide +kernel
theorem dX7_isSlipped_20 : decode cX7_isSlipped 20 = .ok (.if_icmp .ne 7, 3) := by decide +kernel
theorem dX7_isSlipped_23 : decode cX7_isSlipped 23 = .ok (.iconst 1, 1) := by decide +kernel
theorem dX7_isSlipped_24 : decode cX7_isSlipped 24 = .ok (.goto 4, 3) := by decide +kernel
theorem dX7_isSlipped_27 : decode cX7_isSlipped 27 = .ok (.iconst 0, 1) := by decide +kernel
theorem dX7_isSlipped_28 : decode cX7_isSlipped 28 = .ok (.ireturn, 1) := by decide +kernel
theorem ab_k130_0 (K : ab_Kt) : ∀ q ∈ ab_l130_0, ab_OK K ab_mt ab_g130 q.1 q.2 := by
  unfold ab_l130_0
  exact List.forall_mem_cons.mpr ⟨ab_aload_n_ok dX7_isSlipped_0 rfl, List.forall_mem_cons.mpr ⟨ab_iload_n_ok dX7_isSlipped_1 rfl, List.forall_mem_cons.mpr ⟨ab_bipush_ok dX7_isSlipped_2 (by decide), List.forall_mem_cons.mpr ⟨ab_iload_n_ok dX7_isSlipped_4 rfl, List.forall_mem_cons.mpr ⟨ab_bipush_ok dX7_isSlipped_5 (by decide), List.forall_mem_cons.mpr ⟨ab_idiv_ok dX7_isSlipped_7, List.forall_mem_cons.mpr ⟨ab_iadd_ok dX7_isSlipped_8, List.forall_mem_cons.mpr ⟨ab_callV_ok' (G' := ab_g110) (C := RX7) (T := TX7) (N := 19) dX7_isSlipped_9 ab_m110 rfl rfl (by decide) (by decide) (ab_l4 ab_w440 ab_w441 ab_w442 ab_w8) ab_w443 rfl ⟨by decide, by decide, by decide +kernel⟩, List.forall_mem_cons.mpr ⟨ab_iload_n_ok dX7_isSlipped_12 rfl, List.forall_mem_cons.mpr ⟨ab_bipush_ok dX7_isSlipped_13 (by decide), List.forall_mem_cons.mpr ⟨ab_irem_ok dX7_isSlipped_15, List.forall_mem_cons.mpr ⟨ab_ishr_ok dX7_isSlipped_16, List.forall_mem_cons.mpr ⟨ab_iconst_ok dX7_isSlipped_17 (by decide), List.forall_mem_cons.mpr ⟨ab_iand_ok dX7_isSlipped_18, List.forall_mem_cons.mpr ⟨ab_iconst_ok dX7_isSlipped_19 (by decide), List.forall_mem_cons.mpr ⟨ab_icmp_ne_ok dX7_isSlipped_20 (by decide), List.forall_mem_cons.mpr ⟨ab_iconst_ok dX7_isSlipped_23 (by decide), List.forall_mem_cons.mpr ⟨ab_goto_ok dX7_isSlipped_24 (by decide), List.forall_mem_cons.mpr ⟨ab_iconst_ok dX7_isSlipped_27 (by decide), List.forall_mem_cons.mpr ⟨ab_zret_ok dX7_isSlipped_28 rfl, fun _ h => absurd h List.not_mem_nil⟩⟩⟩⟩⟩⟩⟩⟩⟩⟩⟩⟩⟩⟩⟩⟩⟩⟩⟩⟩
theorem ab_k130 (K : ab_Kt) : ∀ pc, ab_OK K ab_mt ab_g130 pc (ab_c130 pc) := ab_lk2_ok _ (List.forall_mem_cons.mpr ⟨ab_k130_0 K, fun _ h => absurd h List.not_mem_nil⟩)
theorem dX6_threadFor_0 : decode cX6_threadFor 0 = .ok (.aload_n 0, 1) := by decide +kernel
theorem dX6_threadFor_1 : decode cX6_threadFor 1 = .ok (.iload_n 1, 1) := by decide +kernel
theorem dX6_threadFor_2 : decode cX6_threadFor 2 = .ok (.invokevirtual 106, 3) := by decide +kernel
theorem dX6_threadFor_5 : decode cX6_threadFor 5 = .ok (.invokevirtual 194, 3) := by decide +kernel
theorem dX6_threadFor_8 : decode cX6_threadFor 8 = .ok (.ireturn, 1) := by decide +kernel
theorem ab_k131_0 (K : ab_Kt) : ∀ q ∈ ab_l131_0, ab_OK K ab_mt ab_g131 q.1 q.2 := by
  unfold ab_l131_0
  exact List.forall_mem_cons.mpr ⟨ab_aload_n_ok dX6_threadFor_0 rfl, List.forall_mem_cons.mpr ⟨ab_iload_n_ok dX6_threadFor_1 rfl, List.forall_mem_cons.mpr ⟨ab_callV_ok' (G' := ab_g182) (C := RX6) (T := TX6) (N := 9) dX6_threadFor_2 ab_m182 rfl rfl (by decide) (by decide) (ab_l4 ab_w770 ab_w771 ab_w772 ab_w2) ab_w773 rfl ⟨by decide, by decide, by decide +kernel⟩, List.forall_mem_cons.mpr ⟨ab_callV_ok' (G' := ab_g206) (C := RX1) (T := TX1) (N := 13) dX6_threadFor_5 ab_m206 rfl rfl (by decide) (by decide) (ab_l4 ab_w895 ab_w896 ab_w897 ab_w711) ab_w898 rfl ⟨by decide, by decide, by decide +kernel⟩, List.forall_mem_cons.mpr ⟨ab_iret_ok dX6_threadFor_8 rfl, fun _ h => absurd h List.not_mem_nil⟩⟩⟩⟩⟩
theorem ab_k131 (K : ab_Kt) : ∀ pc, ab_OK K ab_mt ab_g131 pc (ab_c131 pc) := ab_lk2_ok _ (List.forall_mem_cons.mpr ⟨ab_k131_0 K, fun _ h => absurd h List.not_mem_nil⟩)
theorem dX7_threadOf_0 : decode cX7_threadOf 0 = .ok (.aload_n 0, 1) := by decide +kernel
theorem dX7_threadOf_1 : decode cX7_threadOf 1 = .ok (.iload_n 1, 1) := by decide +kernel
theorem dX7_threadOf_2 : decode cX7_threadOf 2 = .ok (.iconst 1, 1) := by decide +kernel
theorem dX7_threadOf_3 : decode cX7_threadOf 3 = .ok (.invokevirtual 63, 3) := by decide +kernel
theorem dX7_threadOf_6 : decode cX7_threadOf 6 = .ok (.iconst 2, 1) := by decide +kernel
theorem dX7_threadOf_7 : decode cX7_threadOf 7 = .ok (.aload_n 0, 1) := by decide +kernel
theorem dX7_threadOf_8 : decode cX7_threadOf 8 = .ok (.iload_n 1, 1) := by decide +kernel
theorem dX7_threadOf_9 : decode cX7_threadOf 9 = .ok (.iload_n 2, 1) := by decide +kernel
theorem dX7_threadOf_10 : decode cX7_threadOf 10 = .ok (.iconst 1, 1) := by decide +kernel
theorem dX7_threadOf_11 : decode cX7_threadOf 11 = .ok (.invokevirtual 67, 3) := by decide +kernel
theorem dX7_threadOf_14 : decode cX7_threadOf 14 = .ok (.iadd, 1) := by decide +kernel
theorem dX7_threadOf_15 : decode cX7_threadOf 15 = .ok (.imul, 1) := by decide +kernel
theorem dX7_threadOf_16 : decode cX7_threadOf 16 = .ok (.iload_n 2, 1) := by decide +kernel
theorem dX7_threadOf_17 : decode cX7_threadOf 17 = .ok (.ifCond .ne 7, 3) := by decide +kernel
theorem dX7_threadOf_20 : decode cX7_threadOf 20 = .ok (.iconst 5, 1) := by decide +kernel
theorem dX7_threadOf_21 : decode cX7_threadOf 21 = .ok (.goto 4, 3) := by decide +kernel
theorem dX7_threadOf_24 : decode cX7_threadOf 24 = .ok (.iconst 0, 1) := by decide +kernel
theorem dX7_threadOf_25 : decode cX7_threadOf 25 = .ok (.iadd, 1) := by decide +kernel
theorem dX7_threadOf_26 : decode cX7_threadOf 26 = .ok (.ireturn, 1) := by decide +kernel
theorem ab_k132_0 (K : ab_Kt) : ∀ q ∈ ab_l132_0, ab_OK K ab_mt ab_g132 q.1 q.2 := by
  unfold ab_l132_0
  exact List.forall_mem_cons.mpr ⟨ab_aload_n_ok dX7_threadOf_0 rfl, List.forall_mem_cons.mpr ⟨ab_iload_n_ok dX7_threadOf_1 rfl, List.forall_mem_cons.mpr ⟨ab_iconst_ok dX7_threadOf_2 (by decide), List.forall_mem_cons.mpr ⟨ab_callV_ok' (G' := ab_g110) (C := RX7) (T := TX7) (N := 19) dX7_threadOf_3 ab_m110 rfl rfl (by decide) (by decide) (ab_l4 ab_w440 ab_w441 ab_w442 ab_w8) ab_w443 rfl ⟨by decide, by decide, by decide +kernel⟩, List.forall_mem_cons.mpr ⟨ab_iconst_ok dX7_threadOf_6 (by decide), List.forall_mem_cons.mpr ⟨ab_aload_n_ok dX7_threadOf_7 rfl, List.forall_mem_cons.mpr ⟨ab_iload_n_ok dX7_threadOf_8 rfl, List.forall_mem_cons.mpr ⟨ab_iload_n_ok dX7_threadOf_9 rfl, List.forall_mem_cons.mpr ⟨ab_iconst_ok dX7_threadOf_10 (by decide), List.forall_mem_cons.mpr ⟨ab_callV_ok' (G' := ab_g111) (C := RX7) (T := TX7) (N := 19) dX7_threadOf_11 ab_m111 rfl rfl (by decide) (by decide) (ab_l4 ab_w444 ab_w445 ab_w446 ab_w8) ab_w447 rfl ⟨by decide, by decide, by decide +kernel⟩, List.forall_mem_cons.mpr ⟨ab_iadd_ok dX7_threadOf_14, List.forall_mem_cons.mpr ⟨ab_imul_ok dX7_threadOf_15, List.forall_mem_cons.mpr ⟨ab_iload_n_ok dX7_threadOf_16 rfl, List.forall_mem_cons.mpr ⟨ab_if_ne_ok dX7_threadOf_17 (by decide), List.forall_mem_cons.mpr ⟨ab_iconst_ok dX7_threadOf_20 (by decide), List.forall_mem_cons.mpr ⟨ab_goto_ok dX7_threadOf_21 (by decide), List.forall_mem_cons.mpr ⟨ab_iconst_ok dX7_threadOf_24 (by decide), List.forall_mem_cons.mpr ⟨ab_iadd_ok dX7_threadOf_25, List.forall_mem_cons.mpr ⟨ab_iret_ok dX7_threadOf_26 rfl, fun _ h => absurd h List.not_mem_nil⟩⟩⟩⟩⟩⟩⟩⟩⟩⟩⟩⟩⟩⟩⟩⟩⟩⟩⟩
theorem ab_k132 (K : ab_Kt) : ∀ pc, ab_OK K ab_mt ab_g132 pc (ab_c132 pc) := ab_lk2_ok _ (List.forall_mem_cons.mpr ⟨ab_k132_0 K, fun _ h => absurd h List.not_mem_nil⟩)
theorem dX6_rightPlace_0 : decode cX6_rightPlace 0 = .ok (.aload_n 0, 1) := by decide +kernel
theorem dX6_rightPlace_1 : decode cX6_rightPlace 1 = .ok (.iload_n 1, 1) := by decide +kernel
theorem dX6_rightPlace_2 : decode cX6_rightPlace 2 = .ok (.iload_n 2, 1) := by decide +kernel
theorem dX6_rightPlace_3 : decode cX6_rightPlace 3 = .ok (.invokevirtual 143, 3) := by decide +kernel
theorem dX6_rightPlace_6 : decode cX6_rightPlace 6 = .ok (.iload_n 2, 1) := by decide +kernel
theorem dX6_rightPlace_7 : decode cX6_rightPlace 7 = .ok (.invokevirtual 191, 3) := by decide +kernel
theorem dX6_rightPlace_10 : decode cX6_rightPlace 10 = .ok (.ireturn, 1) := by decide +kernel
theorem ab_k133_0 (K : ab_Kt) : ∀ q ∈ ab_l133_0, ab_OK K ab_mt ab_g133 q.1 q.2 := by
  unfold ab_l133_0
  exact List.forall_mem_cons.mpr ⟨ab_aload_n_ok dX6_rightPlace_0 rfl, List.forall_mem_cons.mpr ⟨ab_iload_n_ok dX6_rightPlace_1 rfl, List.forall_mem_cons.mpr ⟨ab_iload_n_ok dX6_rightPlace_2 rfl, List.forall_mem_cons.mpr ⟨ab_callV_ok' (G' := ab_g207) (C := RX6) (T := TX6) (N := 9) dX6_rightPlace_3 ab_m207 rfl rfl (by decide) (by decide) (ab_l4 ab_w899 ab_w900 ab_w901 ab_w2) ab_w902 rfl ⟨by decide, by decide, by decide +kernel⟩, List.forall_mem_cons.mpr ⟨ab_iload_n_ok dX6_rightPlace_6 rfl, List.forall_mem_cons.mpr ⟨ab_callV_ok' (G' := ab_g208) (C := RX1) (T := TX1) (N := 13) dX6_rightPlace_7 ab_m208 rfl rfl (by decide) (by decide) (ab_l4 ab_w903 ab_w904 ab_w905 ab_w711) ab_w906 rfl ⟨by decide, by decide, by decide +kernel⟩, List.forall_mem_cons.mpr ⟨ab_iret_ok dX6_rightPlace_10 rfl, fun _ h => absurd h List.not_mem_nil⟩⟩⟩⟩⟩⟩⟩
theorem ab_k133 (K : ab_Kt) : ∀ pc, ab_OK K ab_mt ab_g133 pc (ab_c133 pc) := ab_lk2_ok _ (List.forall_mem_cons.mpr ⟨ab_k133_0 K, fun _ h => absurd h List.not_mem_nil⟩)
theorem dX7_isPlace_0 : decode cX7_isPlace 0 = .ok (.iload_n 2, 1) := by decide +kernel
theorem dX7_isPlace_1 : decode cX7_isPlace 1 = .ok (.iconst 0, 1) := by decide +kernel
theorem dX7_isPlace_2 : decode cX7_isPlace 2 = .ok (.aload_n 0, 1) := by decide +kernel
theorem dX7_isPlace_3 : decode cX7_isPlace 3 = .ok (.iload_n 1, 1) := by decide +kernel
theorem dX7_isPlace_4 : decode cX7_isPlace 4 = .ok (.iconst 3, 1) := by decide +kernel
theorem dX7_isPlace_5 : decode cX7_isPlace 5 = .ok (.invokevirtual 63, 3) := by decide +kernel
theorem dX7_isPlace_8 : decode cX7_isPlace 8 = .ok (.iconst 1, 1) := by decide +kernel
theorem dX7_isPlace_9 : decode cX7_isPlace 9 = .ok (.isub, 1) := by decide +kernel
theorem dX7_isPlace_10 : decode cX7_isPlace 10 = .ok (.invokestatic 59, 3) := by decide +kernel
theorem dX7_isPlace_13 : decode cX7_isPlace 13 = .ok (.ireturn, 1) := by decide +kernel
theorem ab_k134_0 (K : ab_Kt) : ∀ q ∈ ab_l134_0, ab_OK K ab_mt ab_g134 q.1 q.2 := by
  unfold ab_l134_0
  exact List.forall_mem_cons.mpr ⟨ab_iload_n_ok dX7_isPlace_0 rfl, List.forall_mem_cons.mpr ⟨ab_iconst_ok dX7_isPlace_1 (by decide), List.forall_mem_cons.mpr ⟨ab_aload_n_ok dX7_isPlace_2 rfl, List.forall_mem_cons.mpr ⟨ab_iload_n_ok dX7_isPlace_3 rfl, List.forall_mem_cons.mpr ⟨ab_iconst_ok dX7_isPlace_4 (by decide), List.forall_mem_cons.mpr ⟨ab_callV_ok' (G' := ab_g110) (C := RX7) (T := TX7) (N := 19) dX7_isPlace_5 ab_m110 rfl rfl (by decide) (by decide) (ab_l4 ab_w440 ab_w441 ab_w442 ab_w8) ab_w443 rfl ⟨by decide, by decide, by decide +kernel⟩, List.forall_mem_cons.mpr ⟨ab_iconst_ok dX7_isPlace_8 (by decide), List.forall_mem_cons.mpr ⟨ab_isub_ok dX7_isPlace_9, List.forall_mem_cons.mpr ⟨ab_callS_ok' (G' := ab_g97) dX7_isPlace_10 ab_m97 (by decide) (by decide) (ab_l3 ab_w387 ab_w388 ab_w8) ab_w389 rfl ⟨by decide, by decide, by decide +kernel⟩, List.forall_mem_cons.mpr ⟨ab_zret_ok dX7_isPlace_13 rfl, fun _ h => absurd h List.not_mem_nil⟩⟩⟩⟩⟩⟩⟩⟩⟩⟩
theorem ab_k134 (K : ab_Kt) : ∀ pc, ab_OK K ab_mt ab_g134 pc (ab_c134 pc) := ab_lk2_ok _ (List.forall_mem_cons.mpr ⟨ab_k134_0 K, fun _ h => absurd h List.not_mem_nil⟩)
