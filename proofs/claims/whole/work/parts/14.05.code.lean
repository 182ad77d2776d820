/-! ===== the code tables hold: J5_append_c97b9 .. ===== -/
theorem dJ5_append_c97b9_0 : decode cJ5_append_c97b9 0 = .ok (.aload_n 0, 1) := by decide +kernel
theorem dJ5_append_c97b9_1 : decode cJ5_append_c97b9 1 = .ok (.getfield 79, 3) := by decide +kernel
theorem dJ5_append_c97b9_4 : decode cJ5_append_c97b9 4 = .ok (.istore_n 2, 1) := by decide +kernel
theorem dJ5_append_c97b9_5 : decode cJ5_append_c97b9 5 = .ok (.iload_n 2, 1) := by decide +kernel
theorem dJ5_append_c97b9_6 : decode cJ5_append_c97b9 6 = .ok (.iload_n 1, 1) := by decide +kernel
theorem dJ5_append_c97b9_7 : decode cJ5_append_c97b9 7 = .ok (.invokestatic 245, 3) := by decide +kernel
theorem dJ5_append_c97b9_10 : decode cJ5_append_c97b9 10 = .ok (.iadd, 1) := by decide +kernel
theorem dJ5_append_c97b9_11 : decode cJ5_append_c97b9 11 = .ok (.istore_n 3, 1) := by decide +kernel
theorem dJ5_append_c97b9_12 : decode cJ5_append_c97b9 12 = .ok (.aload_n 0, 1) := by decide +kernel
theorem dJ5_append_c97b9_13 : decode cJ5_append_c97b9 13 = .ok (.iload_n 3, 1) := by decide +kernel
theorem dJ5_append_c97b9_14 : decode cJ5_append_c97b9 14 = .ok (.invokevirtual 100, 3) := by decide +kernel
theorem dJ5_append_c97b9_17 : decode cJ5_append_c97b9 17 = .ok (.aload_n 0, 1) := by decide +kernel
theorem dJ5_append_c97b9_18 : decode cJ5_append_c97b9 18 = .ok (.invokevirtual 83, 3) := by decide +kernel
theorem dJ5_append_c97b9_21 : decode cJ5_append_c97b9 21 = .ok (.ifCond .eq 16, 3) := by decide +kernel
theorem dJ5_append_c97b9_24 : decode cJ5_append_c97b9 24 = .ok (.iload_n 1, 1) := by decide +kernel
theorem dJ5_append_c97b9_25 : decode cJ5_append_c97b9 25 = .ok (.iload_n 3, 1) := by decide +kernel
theorem dJ5_append_c97b9_26 : decode cJ5_append_c97b9 26 = .ok (.aload_n 0, 1) := by decide +kernel
theorem dJ5_append_c97b9_27 : decode cJ5_append_c97b9 27 = .ok (.getfield 15, 3) := by decide +kernel
theorem dJ5_append_c97b9_30 : decode cJ5_append_c97b9 30 = .ok (.invokestatic 248, 3) := by decide +kernel
theorem dJ5_append_c97b9_33 : decode cJ5_append_c97b9 33 = .ok (.pop, 1) := by decide +kernel
theorem dJ5_append_c97b9_34 : decode cJ5_append_c97b9 34 = .ok (.goto 14, 3) := by decide +kernel
theorem dJ5_append_c97b9_37 : decode cJ5_append_c97b9 37 = .ok (.iload_n 1, 1) := by decide +kernel
theorem dJ5_append_c97b9_38 : decode cJ5_append_c97b9 38 = .ok (.iload_n 2, 1) := by decide +kernel
theorem dJ5_append_c97b9_39 : decode cJ5_append_c97b9 39 = .ok (.iload_n 3, 1) := by decide +kernel
theorem dJ5_append_c97b9_40 : decode cJ5_append_c97b9 40 = .ok (.aload_n 0, 1) := by decide +kernel
theorem dJ5_append_c97b9_41 : decode cJ5_append_c97b9 41 = .ok (.getfield 15, 3) := by decide +kernel
theorem dJ5_append_c97b9_48 : decode cJ5_append_c97b9 48 = .ok (.aload_n 0, 1) := by decide +kernel
theorem dJ5_append_c97b9_49 : decode cJ5_append_c97b9 49 = .ok (.iload_n 3, 1) := by decide +kernel
theorem dJ5_append_c97b9_50 : decode cJ5_append_c97b9 50 = .ok (.putfield 79, 3) := by decide +kernel
theorem dJ5_append_c97b9_53 : decode cJ5_append_c97b9 53 = .ok (.aload_n 0, 1) := by decide +kernel
theorem dJ5_append_c97b9_54 : decode cJ5_append_c97b9 54 = .ok (.areturn, 1) := by decide +kernel
theorem ab_k237_0 (K : ab_Kt) : ∀ q ∈ ab_l237_0, ab_OK K ab_mt ab_g237 q.1 q.2 := by
  unfold ab_l237_0
  exact List.forall_mem_cons.mpr ⟨ab_aload_n_ok dJ5_append_c97b9_0 rfl, List.forall_mem_cons.mpr ⟨ab_getf_ok (C := RJ4) (T := TJ4) (N := 4) (ci := 1) (k := 3) dJ5_append_c97b9_1 rfl ab_ic1 (by decide) ab_w1209, List.forall_mem_cons.mpr ⟨ab_istore_n_ok dJ5_append_c97b9_4 rfl, List.forall_mem_cons.mpr ⟨ab_iload_n_ok dJ5_append_c97b9_5 rfl, List.forall_mem_cons.mpr ⟨ab_iload_n_ok dJ5_append_c97b9_6 rfl, List.forall_mem_cons.mpr ⟨ab_callS_ok' (G' := ab_g267) dJ5_append_c97b9_7 ab_m267 (by decide) (by decide) (ab_l3 ab_w1226 ab_w1227 ab_w1228) ab_w1229 rfl ⟨by decide, by decide, by decide +kernel⟩, List.forall_mem_cons.mpr ⟨ab_iadd_ok dJ5_append_c97b9_10, List.forall_mem_cons.mpr ⟨ab_istore_n_ok dJ5_append_c97b9_11 rfl, List.forall_mem_cons.mpr ⟨ab_aload_n_ok dJ5_append_c97b9_12 rfl, List.forall_mem_cons.mpr ⟨ab_iload_n_ok dJ5_append_c97b9_13 rfl, List.forall_mem_cons.mpr ⟨ab_callU_ok' (G' := ab_g265) (C := RJ4) (T := TJ4) (N := 4) dJ5_append_c97b9_14 ab_m265 rfl rfl (by decide) (by decide) ab_w1215 (ab_l5 ab_w1216 ab_w1217 ab_w1218 ab_w1219 ab_w724) ⟨by decide, by decide, by decide +kernel⟩, List.forall_mem_cons.mpr ⟨ab_aload_n_ok dJ5_append_c97b9_17 rfl, List.forall_mem_cons.mpr ⟨ab_callU_ok' (G' := ab_g266) (C := RJ4) (T := TJ4) (N := 4) dJ5_append_c97b9_18 ab_m266 rfl rfl (by decide) (by decide) ab_w1220 (ab_l5 ab_w1221 ab_w1222 ab_w1223 ab_w1224 ab_w724) ⟨by decide, by decide, by decide +kernel⟩, List.forall_mem_cons.mpr ⟨ab_if_eq_ok dJ5_append_c97b9_21 (by decide), List.forall_mem_cons.mpr ⟨ab_iload_n_ok dJ5_append_c97b9_24 rfl, List.forall_mem_cons.mpr ⟨ab_iload_n_ok dJ5_append_c97b9_25 rfl, List.forall_mem_cons.mpr ⟨ab_aload_n_ok dJ5_append_c97b9_26 rfl, List.forall_mem_cons.mpr ⟨ab_getf_ok (C := RJ4) (T := TJ4) (N := 4) (ci := 1) (k := 0) dJ5_append_c97b9_27 rfl ab_ic1 (by decide) ab_w1006, List.forall_mem_cons.mpr ⟨ab_callS_ok' (G' := ab_g268) dJ5_append_c97b9_30 ab_m268 (by decide) (by decide) (ab_l3 ab_w1230 ab_w1231 ab_w1228) ab_w1232 rfl ⟨by decide, by decide, by decide +kernel⟩, List.forall_mem_cons.mpr ⟨ab_pop_ok dJ5_append_c97b9_33, List.forall_mem_cons.mpr ⟨ab_goto_ok dJ5_append_c97b9_34 (by decide), List.forall_mem_cons.mpr ⟨ab_iload_n_ok dJ5_append_c97b9_37 rfl, List.forall_mem_cons.mpr ⟨ab_iload_n_ok dJ5_append_c97b9_38 rfl, List.forall_mem_cons.mpr ⟨ab_iload_n_ok dJ5_append_c97b9_39 rfl, List.forall_mem_cons.mpr ⟨ab_aload_n_ok dJ5_append_c97b9_40 rfl, List.forall_mem_cons.mpr ⟨ab_getf_ok (C := RJ4) (T := TJ4) (N := 4) (ci := 1) (k := 0) dJ5_append_c97b9_41 rfl ab_ic1 (by decide) ab_w1006, List.forall_mem_cons.mpr ⟨ab_aload_n_ok dJ5_append_c97b9_48 rfl, List.forall_mem_cons.mpr ⟨ab_iload_n_ok dJ5_append_c97b9_49 rfl, List.forall_mem_cons.mpr ⟨ab_putf_ok (C := RJ4) (T := TJ4) (N := 4) (ci := 1) (k := 3) (ty0 := tyJ4) dJ5_append_c97b9_50 rfl ab_ic1 tyJ4_ok nmJ4 (by decide) ab_w1209 rfl (Or.inl rfl), List.forall_mem_cons.mpr ⟨ab_aload_n_ok dJ5_append_c97b9_53 rfl, List.forall_mem_cons.mpr ⟨ab_aret_ok dJ5_append_c97b9_54 (Or.inl ⟨_, rfl⟩) rfl, fun _ h => absurd h List.not_mem_nil⟩⟩⟩⟩⟩⟩⟩⟩⟩⟩⟩⟩⟩⟩⟩⟩⟩⟩⟩⟩⟩⟩⟩⟩⟩⟩⟩⟩⟩⟩⟩
theorem ab_k237 (K : ab_Kt) : ∀ pc, ab_OK K ab_mt ab_g237 pc (ab_c237 pc) := ab_lk2_ok _ (List.forall_mem_cons.mpr ⟨ab_k237_0 K, fun _ h => absurd h List.not_mem_nil⟩)
theorem dJ5_append_3fe6f_0 : decode cJ5_append_3fe6f 0 = .ok (.aload_n 0, 1) := by decide +kernel
theorem dJ5_append_3fe6f_1 : decode cJ5_append_3fe6f 1 = .ok (.aload_n 0, 1) := by decide +kernel
theorem dJ5_append_3fe6f_2 : decode cJ5_append_3fe6f 2 = .ok (.getfield 79, 3) := by decide +kernel
theorem dJ5_append_3fe6f_5 : decode cJ5_append_3fe6f 5 = .ok (.iconst 1, 1) := by decide +kernel
theorem dJ5_append_3fe6f_6 : decode cJ5_append_3fe6f 6 = .ok (.iadd, 1) := by decide +kernel
theorem dJ5_append_3fe6f_7 : decode cJ5_append_3fe6f 7 = .ok (.invokevirtual 100, 3) := by decide +kernel
theorem dJ5_append_3fe6f_10 : decode cJ5_append_3fe6f 10 = .ok (.aload_n 0, 1) := by decide +kernel
theorem dJ5_append_3fe6f_11 : decode cJ5_append_3fe6f 11 = .ok (.invokevirtual 83, 3) := by decide +kernel
theorem dJ5_append_3fe6f_14 : decode cJ5_append_3fe6f 14 = .ok (.ifCond .eq 31, 3) := by decide +kernel
theorem dJ5_append_3fe6f_17 : decode cJ5_append_3fe6f 17 = .ok (.iload_n 1, 1) := by decide +kernel
theorem dJ5_append_3fe6f_18 : decode cJ5_append_3fe6f 18 = .ok (.invokestatic 191, 3) := by decide +kernel
theorem dJ5_append_3fe6f_21 : decode cJ5_append_3fe6f 21 = .ok (.ifCond .eq 24, 3) := by decide +kernel
theorem dJ5_append_3fe6f_24 : decode cJ5_append_3fe6f 24 = .ok (.aload_n 0, 1) := by decide +kernel
theorem dJ5_append_3fe6f_25 : decode cJ5_append_3fe6f 25 = .ok (.getfield 15, 3) := by decide +kernel
theorem dJ5_append_3fe6f_28 : decode cJ5_append_3fe6f 28 = .ok (.aload_n 0, 1) := by decide +kernel
theorem dJ5_append_3fe6f_29 : decode cJ5_append_3fe6f 29 = .ok (.dup, 1) := by decide +kernel
theorem dJ5_append_3fe6f_30 : decode cJ5_append_3fe6f 30 = .ok (.getfield 79, 3) := by decide +kernel
theorem dJ5_append_3fe6f_33 : decode cJ5_append_3fe6f 33 = .ok (.dup_x1, 1) := by decide +kernel
theorem dJ5_append_3fe6f_34 : decode cJ5_append_3fe6f 34 = .ok (.iconst 1, 1) := by decide +kernel
theorem dJ5_append_3fe6f_35 : decode cJ5_append_3fe6f 35 = .ok (.iadd, 1) := by decide +kernel
theorem dJ5_append_3fe6f_36 : decode cJ5_append_3fe6f 36 = .ok (.putfield 79, 3) := by decide +kernel
theorem dJ5_append_3fe6f_39 : decode cJ5_append_3fe6f 39 = .ok (.iload_n 1, 1) := by decide +kernel
theorem dJ5_append_3fe6f_40 : decode cJ5_append_3fe6f 40 = .ok (.i2b, 1) := by decide +kernel
theorem dJ5_append_3fe6f_41 : decode cJ5_append_3fe6f 41 = .ok (.bastore, 1) := by decide +kernel
theorem dJ5_append_3fe6f_42 : decode cJ5_append_3fe6f 42 = .ok (.goto 33, 3) := by decide +kernel
theorem dJ5_append_3fe6f_45 : decode cJ5_append_3fe6f 45 = .ok (.aload_n 0, 1) := by decide +kernel
theorem dJ5_append_3fe6f_46 : decode cJ5_append_3fe6f 46 = .ok (.invokevirtual 83, 3) := by decide +kernel
theorem dJ5_append_3fe6f_49 : decode cJ5_append_3fe6f 49 = .ok (.ifCond .eq 7, 3) := by decide +kernel
theorem dJ5_append_3fe6f_52 : decode cJ5_append_3fe6f 52 = .ok (.aload_n 0, 1) := by decide +kernel
theorem dJ5_append_3fe6f_56 : decode cJ5_append_3fe6f 56 = .ok (.aload_n 0, 1) := by decide +kernel
theorem dJ5_append_3fe6f_57 : decode cJ5_append_3fe6f 57 = .ok (.getfield 15, 3) := by decide +kernel
theorem dJ5_append_3fe6f_60 : decode cJ5_append_3fe6f 60 = .ok (.aload_n 0, 1) := by decide +kernel
theorem dJ5_append_3fe6f_61 : decode cJ5_append_3fe6f 61 = .ok (.dup, 1) := by decide +kernel
theorem dJ5_append_3fe6f_62 : decode cJ5_append_3fe6f 62 = .ok (.getfield 79, 3) := by decide +kernel
theorem dJ5_append_3fe6f_65 : decode cJ5_append_3fe6f 65 = .ok (.dup_x1, 1) := by decide +kernel
theorem dJ5_append_3fe6f_66 : decode cJ5_append_3fe6f 66 = .ok (.iconst 1, 1) := by decide +kernel
theorem dJ5_append_3fe6f_67 : decode cJ5_append_3fe6f 67 = .ok (.iadd, 1) := by decide +kernel
theorem dJ5_append_3fe6f_68 : decode cJ5_append_3fe6f 68 = .ok (.putfield 79, 3) := by decide +kernel
theorem dJ5_append_3fe6f_71 : decode cJ5_append_3fe6f 71 = .ok (.iload_n 1, 1) := by decide +kernel
theorem dJ5_append_3fe6f_75 : decode cJ5_append_3fe6f 75 = .ok (.aload_n 0, 1) := by decide +kernel
theorem ab_k238_0 (K : ab_Kt) : ∀ q ∈ ab_l238_0, ab_OK K ab_mt ab_g238 q.1 q.2 := by
  unfold ab_l238_0
  exact List.forall_mem_cons.mpr ⟨ab_aload_n_ok dJ5_append_3fe6f_0 rfl, List.forall_mem_cons.mpr ⟨ab_aload_n_ok dJ5_append_3fe6f_1 rfl, List.forall_mem_cons.mpr ⟨ab_getf_ok (C := RJ4) (T := TJ4) (N := 4) (ci := 1) (k := 3) dJ5_append_3fe6f_2 rfl ab_ic1 (by decide) ab_w1209, List.forall_mem_cons.mpr ⟨ab_iconst_ok dJ5_append_3fe6f_5 (by decide), List.forall_mem_cons.mpr ⟨ab_iadd_ok dJ5_append_3fe6f_6, List.forall_mem_cons.mpr ⟨ab_callU_ok' (G' := ab_g265) (C := RJ4) (T := TJ4) (N := 4) dJ5_append_3fe6f_7 ab_m265 rfl rfl (by decide) (by decide) ab_w1215 (ab_l5 ab_w1216 ab_w1217 ab_w1218 ab_w1219 ab_w724) ⟨by decide, by decide, by decide +kernel⟩, List.forall_mem_cons.mpr ⟨ab_aload_n_ok dJ5_append_3fe6f_10 rfl, List.forall_mem_cons.mpr ⟨ab_callU_ok' (G' := ab_g266) (C := RJ4) (T := TJ4) (N := 4) dJ5_append_3fe6f_11 ab_m266 rfl rfl (by decide) (by decide) ab_w1220 (ab_l5 ab_w1221 ab_w1222 ab_w1223 ab_w1224 ab_w724) ⟨by decide, by decide, by decide +kernel⟩, List.forall_mem_cons.mpr ⟨ab_if_eq_ok dJ5_append_3fe6f_14 (by decide), List.forall_mem_cons.mpr ⟨ab_iload_n_ok dJ5_append_3fe6f_17 rfl, List.forall_mem_cons.mpr ⟨ab_callS_ok' (G' := ab_g269) dJ5_append_3fe6f_18 ab_m269 (by decide) (by decide) (ab_l3 ab_w1233 ab_w1234 ab_w1235) ab_w1236 rfl ⟨by decide, by decide, by decide +kernel⟩, List.forall_mem_cons.mpr ⟨ab_if_eq_ok dJ5_append_3fe6f_21 (by decide), List.forall_mem_cons.mpr ⟨ab_aload_n_ok dJ5_append_3fe6f_24 rfl, List.forall_mem_cons.mpr ⟨ab_getf_ok (C := RJ4) (T := TJ4) (N := 4) (ci := 1) (k := 0) dJ5_append_3fe6f_25 rfl ab_ic1 (by decide) ab_w1006, List.forall_mem_cons.mpr ⟨ab_aload_n_ok dJ5_append_3fe6f_28 rfl, List.forall_mem_cons.mpr ⟨ab_dup_ok dJ5_append_3fe6f_29, List.forall_mem_cons.mpr ⟨ab_getf_ok (C := RJ4) (T := TJ4) (N := 4) (ci := 1) (k := 3) dJ5_append_3fe6f_30 rfl ab_ic1 (by decide) ab_w1209, List.forall_mem_cons.mpr ⟨ab_dup_x1_ok dJ5_append_3fe6f_33, List.forall_mem_cons.mpr ⟨ab_iconst_ok dJ5_append_3fe6f_34 (by decide), List.forall_mem_cons.mpr ⟨ab_iadd_ok dJ5_append_3fe6f_35, List.forall_mem_cons.mpr ⟨ab_putf_ok (C := RJ4) (T := TJ4) (N := 4) (ci := 1) (k := 3) (ty0 := tyJ4) dJ5_append_3fe6f_36 rfl ab_ic1 tyJ4_ok nmJ4 (by decide) ab_w1209 rfl (Or.inl rfl), List.forall_mem_cons.mpr ⟨ab_iload_n_ok dJ5_append_3fe6f_39 rfl, List.forall_mem_cons.mpr ⟨ab_i2b_ok dJ5_append_3fe6f_40, List.forall_mem_cons.mpr ⟨ab_ast4_ok dJ5_append_3fe6f_41, List.forall_mem_cons.mpr ⟨ab_goto_ok dJ5_append_3fe6f_42 (by decide), List.forall_mem_cons.mpr ⟨ab_aload_n_ok dJ5_append_3fe6f_45 rfl, List.forall_mem_cons.mpr ⟨ab_callU_ok' (G' := ab_g266) (C := RJ4) (T := TJ4) (N := 4) dJ5_append_3fe6f_46 ab_m266 rfl rfl (by decide) (by decide) ab_w1220 (ab_l5 ab_w1221 ab_w1222 ab_w1223 ab_w1224 ab_w724) ⟨by decide, by decide, by decide +kernel⟩, List.forall_mem_cons.mpr ⟨ab_if_eq_ok dJ5_append_3fe6f_49 (by decide), List.forall_mem_cons.mpr ⟨ab_aload_n_ok dJ5_append_3fe6f_52 rfl, List.forall_mem_cons.mpr ⟨ab_aload_n_ok dJ5_append_3fe6f_56 rfl, List.forall_mem_cons.mpr ⟨ab_getf_ok (C := RJ4) (T := TJ4) (N := 4) (ci := 1) (k := 0) dJ5_append_3fe6f_57 rfl ab_ic1 (by decide) ab_w1006, List.forall_mem_cons.mpr ⟨ab_aload_n_ok dJ5_append_3fe6f_60 rfl, List.forall_mem_cons.mpr ⟨ab_dup_ok dJ5_append_3fe6f_61, List.forall_mem_cons.mpr ⟨ab_getf_ok (C := RJ4) (T := TJ4) (N := 4) (ci := 1) (k := 3) dJ5_append_3fe6f_62 rfl ab_ic1 (by decide) ab_w1209, List.forall_mem_cons.mpr ⟨ab_dup_x1_ok dJ5_append_3fe6f_65, List.forall_mem_cons.mpr ⟨ab_iconst_ok dJ5_append_3fe6f_66 (by decide), List.forall_mem_cons.mpr ⟨ab_iadd_ok dJ5_append_3fe6f_67, List.forall_mem_cons.mpr ⟨ab_putf_ok (C := RJ4) (T := TJ4) (N := 4) (ci := 1) (k := 3) (ty0 := tyJ4) dJ5_append_3fe6f_68 rfl ab_ic1 tyJ4_ok nmJ4 (by decide) ab_w1209 rfl (Or.inl rfl), List.forall_mem_cons.mpr ⟨ab_iload_n_ok dJ5_append_3fe6f_71 rfl, List.forall_mem_cons.mpr ⟨ab_aload_n_ok dJ5_append_3fe6f_75 rfl, fun _ h => absurd h List.not_mem_nil⟩⟩⟩⟩⟩⟩⟩⟩⟩⟩⟩⟩⟩⟩⟩⟩⟩⟩⟩⟩⟩⟩⟩⟩⟩⟩⟩⟩⟩⟩⟩⟩⟩⟩⟩⟩⟩⟩⟩⟩
theorem dJ5_append_3fe6f_76 : decode cJ5_append_3fe6f 76 = .ok (.areturn, 1) := by decide +kernel
theorem ab_k238_1 (K : ab_Kt) : ∀ q ∈ ab_l238_1, ab_OK K ab_mt ab_g238 q.1 q.2 := by
  unfold ab_l238_1
  exact List.forall_mem_cons.mpr ⟨ab_aret_ok dJ5_append_3fe6f_76 (Or.inl ⟨_, rfl⟩) rfl, fun _ h => absurd h List.not_mem_nil⟩
theorem ab_k238 (K : ab_Kt) : ∀ pc, ab_OK K ab_mt ab_g238 pc (ab_c238 pc) := ab_lk2_ok _ (List.forall_mem_cons.mpr ⟨ab_k238_0 K, List.forall_mem_cons.mpr ⟨ab_k238_1 K, fun _ h => absurd h List.not_mem_nil⟩⟩)
theorem dX2_rewind_0 : decode cX2_rewind 0 = .ok (.aload_n 0, 1) := by decide +kernel
theorem dX2_rewind_1 : decode cX2_rewind 1 = .ok (.iconst 0, 1) := by decide +kernel
theorem dX2_rewind_2 : decode cX2_rewind 2 = .ok (.putfield 23, 3) := by decide +kernel
theorem dX2_rewind_5 : decode cX2_rewind 5 = .ok (.return_, 1) := by decide +kernel
theorem ab_k239_0 (K : ab_Kt) : ∀ q ∈ ab_l239_0, ab_OK K ab_mt ab_g239 q.1 q.2 := by
  unfold ab_l239_0
  exact List.forall_mem_cons.mpr ⟨ab_aload_n_ok dX2_rewind_0 rfl, List.forall_mem_cons.mpr ⟨ab_iconst_ok dX2_rewind_1 (by decide), List.forall_mem_cons.mpr ⟨ab_putf_ok (C := RX2) (T := TX2) (N := 8) (ci := 6) (k := 3) (ty0 := tyX2) dX2_rewind_2 rfl ab_ic6 tyX2_ok nmX2 (by decide) ab_w1077 rfl (Or.inl rfl), List.forall_mem_cons.mpr ⟨ab_vret_ok dX2_rewind_5 rfl, fun _ h => absurd h List.not_mem_nil⟩⟩⟩⟩
theorem ab_k239 (K : ab_Kt) : ∀ pc, ab_OK K ab_mt ab_g239 pc (ab_c239 pc) := ab_lk2_ok _ (List.forall_mem_cons.mpr ⟨ab_k239_0 K, fun _ h => absurd h List.not_mem_nil⟩)
theorem dX2_readCommand_0 : decode cX2_readCommand 0 = .ok (.aload_n 0, 1) := by decide +kernel
theorem dX2_readCommand_1 : decode cX2_readCommand 1 = .ok (.iconst 0, 1) := by decide +kernel
theorem dX2_readCommand_2 : decode cX2_readCommand 2 = .ok (.putfield 40, 3) := by decide +kernel
theorem dX2_readCommand_5 : decode cX2_readCommand 5 = .ok (.aload_n 0, 1) := by decide +kernel
theorem dX2_readCommand_6 : decode cX2_readCommand 6 = .ok (.aload_n 0, 1) := by decide +kernel
theorem dX2_readCommand_7 : decode cX2_readCommand 7 = .ok (.getfield 23, 3) := by decide +kernel
theorem dX2_readCommand_10 : decode cX2_readCommand 10 = .ok (.aload_n 0, 1) := by decide +kernel
theorem dX2_readCommand_11 : decode cX2_readCommand 11 = .ok (.getfield 19, 3) := by decide +kernel
theorem dX2_readCommand_14 : decode cX2_readCommand 14 = .ok (.if_icmp .ge 15, 3) := by decide +kernel
theorem dX2_readCommand_17 : decode cX2_readCommand 17 = .ok (.aload_n 0, 1) := by decide +kernel
theorem dX2_readCommand_18 : decode cX2_readCommand 18 = .ok (.getfield 9, 3) := by decide +kernel
theorem dX2_readCommand_21 : decode cX2_readCommand 21 = .ok (.aload_n 0, 1) := by decide +kernel
theorem dX2_readCommand_22 : decode cX2_readCommand 22 = .ok (.getfield 23, 3) := by decide +kernel
theorem dX2_readCommand_25 : decode cX2_readCommand 25 = .ok (.caload, 1) := by decide +kernel
theorem dX2_readCommand_26 : decode cX2_readCommand 26 = .ok (.goto 5, 3) := by decide +kernel
theorem dX2_readCommand_29 : decode cX2_readCommand 29 = .ok (.bipush 32, 2) := by decide +kernel
theorem dX2_readCommand_31 : decode cX2_readCommand 31 = .ok (.putfield 43, 3) := by decide +kernel
theorem dX2_readCommand_34 : decode cX2_readCommand 34 = .ok (.aload_n 0, 1) := by decide +kernel
theorem dX2_readCommand_35 : decode cX2_readCommand 35 = .ok (.getfield 43, 3) := by decide +kernel
theorem dX2_readCommand_38 : decode cX2_readCommand 38 = .ok (.invokestatic 47, 3) := by decide +kernel
theorem dX2_readCommand_41 : decode cX2_readCommand 41 = .ok (.astore_n 1, 1) := by decide +kernel
theorem dX2_readCommand_42 : decode cX2_readCommand 42 = .ok (.aload_n 1, 1) := by decide +kernel
theorem dX2_readCommand_43 : decode cX2_readCommand 43 = .ok (.invokevirtual 51, 3) := by decide +kernel
theorem dX2_readCommand_46 : decode cX2_readCommand 46 = .ok (.ifCond .eq 5, 3) := by decide +kernel
theorem dX2_readCommand_49 : decode cX2_readCommand 49 = .ok (.iconst 0, 1) := by decide +kernel
theorem dX2_readCommand_50 : decode cX2_readCommand 50 = .ok (.ireturn, 1) := by decide +kernel
theorem dX2_readCommand_51 : decode cX2_readCommand 51 = .ok (.aload_n 0, 1) := by decide +kernel
theorem dX2_readCommand_52 : decode cX2_readCommand 52 = .ok (.dup, 1) := by decide +kernel
theorem dX2_readCommand_53 : decode cX2_readCommand 53 = .ok (.getfield 23, 3) := by decide +kernel
theorem dX2_readCommand_56 : decode cX2_readCommand 56 = .ok (.iconst 1, 1) := by decide +kernel
theorem dX2_readCommand_57 : decode cX2_readCommand 57 = .ok (.iadd, 1) := by decide +kernel
theorem dX2_readCommand_58 : decode cX2_readCommand 58 = .ok (.putfield 23, 3) := by decide +kernel
theorem dX2_readCommand_61 : decode cX2_readCommand 61 = .ok (.iconst 0, 1) := by decide +kernel
theorem dX2_readCommand_62 : decode cX2_readCommand 62 = .ok (.istore_n 2, 1) := by decide +kernel
theorem dX2_readCommand_63 : decode cX2_readCommand 63 = .ok (.iload_n 2, 1) := by decide +kernel
theorem dX2_readCommand_64 : decode cX2_readCommand 64 = .ok (.aload_n 1, 1) := by decide +kernel
theorem dX2_readCommand_65 : decode cX2_readCommand 65 = .ok (.invokevirtual 56, 3) := by decide +kernel
theorem dX2_readCommand_68 : decode cX2_readCommand 68 = .ok (.if_icmp .ge 23, 3) := by decide +kernel
theorem dX2_readCommand_71 : decode cX2_readCommand 71 = .ok (.aload_n 0, 1) := by decide +kernel
theorem dX2_readCommand_72 : decode cX2_readCommand 72 = .ok (.aload_n 1, 1) := by decide +kernel
theorem ab_k240_0 (K : ab_Kt) : ∀ q ∈ ab_l240_0, ab_OK K ab_mt ab_g240 q.1 q.2 := by
  unfold ab_l240_0
  exact List.forall_mem_cons.mpr ⟨ab_aload_n_ok dX2_readCommand_0 rfl, List.forall_mem_cons.mpr ⟨ab_iconst_ok dX2_readCommand_1 (by decide), List.forall_mem_cons.mpr ⟨ab_putf_ok (C := RX2) (T := TX2) (N := 8) (ci := 6) (k := 6) (ty0 := tyX2) dX2_readCommand_2 rfl ab_ic6 tyX2_ok nmX2 (by decide) ab_w1237 rfl (Or.inl rfl), List.forall_mem_cons.mpr ⟨ab_aload_n_ok dX2_readCommand_5 rfl, List.forall_mem_cons.mpr ⟨ab_aload_n_ok dX2_readCommand_6 rfl, List.forall_mem_cons.mpr ⟨ab_getf_ok (C := RX2) (T := TX2) (N := 8) (ci := 6) (k := 3) dX2_readCommand_7 rfl ab_ic6 (by decide) ab_w1077, List.forall_mem_cons.mpr ⟨ab_aload_n_ok dX2_readCommand_10 rfl, List.forall_mem_cons.mpr ⟨ab_getf_ok (C := RX2) (T := TX2) (N := 8) (ci := 6) (k := 1) dX2_readCommand_11 rfl ab_ic6 (by decide) ab_w1078, List.forall_mem_cons.mpr ⟨ab_icmp_ge_ok dX2_readCommand_14 (by decide), List.forall_mem_cons.mpr ⟨ab_aload_n_ok dX2_readCommand_17 rfl, List.forall_mem_cons.mpr ⟨ab_getf_ok (C := RX2) (T := TX2) (N := 8) (ci := 6) (k := 0) dX2_readCommand_18 rfl ab_ic6 (by decide) ab_w719, List.forall_mem_cons.mpr ⟨ab_aload_n_ok dX2_readCommand_21 rfl, List.forall_mem_cons.mpr ⟨ab_getf_ok (C := RX2) (T := TX2) (N := 8) (ci := 6) (k := 3) dX2_readCommand_22 rfl ab_ic6 (by decide) ab_w1077, List.forall_mem_cons.mpr ⟨ab_ald3_ok dX2_readCommand_25, List.forall_mem_cons.mpr ⟨ab_goto_ok dX2_readCommand_26 (by decide), List.forall_mem_cons.mpr ⟨ab_bipush_ok dX2_readCommand_29 (by decide), List.forall_mem_cons.mpr ⟨ab_putf_ok (C := RX2) (T := TX2) (N := 8) (ci := 6) (k := 4) (ty0 := tyX2) dX2_readCommand_31 rfl ab_ic6 tyX2_ok nmX2 (by decide) ab_w1238 rfl (Or.inl rfl), List.forall_mem_cons.mpr ⟨ab_aload_n_ok dX2_readCommand_34 rfl, List.forall_mem_cons.mpr ⟨ab_getf_ok (C := RX2) (T := TX2) (N := 8) (ci := 6) (k := 4) dX2_readCommand_35 rfl ab_ic6 (by decide) ab_w1238, List.forall_mem_cons.mpr ⟨ab_callS_ok' (G' := ab_g270) dX2_readCommand_38 ab_m270 (by decide) (by decide) (ab_l3 ab_w1239 ab_w1240 ab_w335) ab_w1241 rfl ⟨by decide, by decide, by decide +kernel⟩, List.forall_mem_cons.mpr ⟨ab_astore_n_ok dX2_readCommand_41 rfl, List.forall_mem_cons.mpr ⟨ab_aload_n_ok dX2_readCommand_42 rfl, List.forall_mem_cons.mpr ⟨ab_callT_ok' (G' := ab_g271) dX2_readCommand_43 ab_m271 rfl (by decide) (by decide) (ab_l4 ab_w1242 ab_w1243 ab_w1244 ab_w1213) ab_w1245 rfl ⟨by decide, by decide, by decide +kernel⟩, List.forall_mem_cons.mpr ⟨ab_if_eq_ok dX2_readCommand_46 (by decide), List.forall_mem_cons.mpr ⟨ab_iconst_ok dX2_readCommand_49 (by decide), List.forall_mem_cons.mpr ⟨ab_zret_ok dX2_readCommand_50 rfl, List.forall_mem_cons.mpr ⟨ab_aload_n_ok dX2_readCommand_51 rfl, List.forall_mem_cons.mpr ⟨ab_dup_ok dX2_readCommand_52, List.forall_mem_cons.mpr ⟨ab_getf_ok (C := RX2) (T := TX2) (N := 8) (ci := 6) (k := 3) dX2_readCommand_53 rfl ab_ic6 (by decide) ab_w1077, List.forall_mem_cons.mpr ⟨ab_iconst_ok dX2_readCommand_56 (by decide), List.forall_mem_cons.mpr ⟨ab_iadd_ok dX2_readCommand_57, List.forall_mem_cons.mpr ⟨ab_putf_ok (C := RX2) (T := TX2) (N := 8) (ci := 6) (k := 3) (ty0 := tyX2) dX2_readCommand_58 rfl ab_ic6 tyX2_ok nmX2 (by decide) ab_w1077 rfl (Or.inl rfl), List.forall_mem_cons.mpr ⟨ab_iconst_ok dX2_readCommand_61 (by decide), List.forall_mem_cons.mpr ⟨ab_istore_n_ok dX2_readCommand_62 rfl, List.forall_mem_cons.mpr ⟨ab_iload_n_ok dX2_readCommand_63 rfl, List.forall_mem_cons.mpr ⟨ab_aload_n_ok dX2_readCommand_64 rfl, List.forall_mem_cons.mpr ⟨ab_callT_ok' (G' := ab_g272) dX2_readCommand_65 ab_m272 rfl (by decide) (by decide) (ab_l4 ab_w1246 ab_w1247 ab_w1248 ab_w1213) ab_w1249 rfl ⟨by decide, by decide, by decide +kernel⟩, List.forall_mem_cons.mpr ⟨ab_icmp_ge_ok dX2_readCommand_68 (by decide), List.forall_mem_cons.mpr ⟨ab_aload_n_ok dX2_readCommand_71 rfl, List.forall_mem_cons.mpr ⟨ab_aload_n_ok dX2_readCommand_72 rfl, fun _ h => absurd h List.not_mem_nil⟩⟩⟩⟩⟩⟩⟩⟩⟩⟩⟩⟩⟩⟩⟩⟩⟩⟩⟩⟩⟩⟩⟩⟩⟩⟩⟩⟩⟩⟩⟩⟩⟩⟩⟩⟩⟩⟩⟩⟩
theorem dX2_readCommand_73 : decode cX2_readCommand 73 = .ok (.iload_n 2, 1) := by decide +kernel
theorem dX2_readCommand_74 : decode cX2_readCommand 74 = .ok (.invokevirtual 59, 3) := by decide +kernel
theorem dX2_readCommand_77 : decode cX2_readCommand 77 = .ok (.invokevirtual 63, 3) := by decide +kernel
theorem dX2_readCommand_80 : decode cX2_readCommand 80 = .ok (.ifCond .ne 5, 3) := by decide +kernel
theorem dX2_readCommand_83 : decode cX2_readCommand 83 = .ok (.iconst 0, 1) := by decide +kernel
theorem dX2_readCommand_84 : decode cX2_readCommand 84 = .ok (.ireturn, 1) := by decide +kernel
theorem dX2_readCommand_85 : decode cX2_readCommand 85 = .ok (.iinc 2 1, 3) := by decide +kernel
theorem dX2_readCommand_88 : decode cX2_readCommand 88 = .ok (.goto (-25), 3) := by decide +kernel
theorem dX2_readCommand_91 : decode cX2_readCommand 91 = .ok (.iconst 1, 1) := by decide +kernel
theorem dX2_readCommand_92 : decode cX2_readCommand 92 = .ok (.ireturn, 1) := by decide +kernel
theorem ab_k240_1 (K : ab_Kt) : ∀ q ∈ ab_l240_1, ab_OK K ab_mt ab_g240 q.1 q.2 := by
  unfold ab_l240_1
  exact List.forall_mem_cons.mpr ⟨ab_iload_n_ok dX2_readCommand_73 rfl, List.forall_mem_cons.mpr ⟨ab_callT_ok' (G' := ab_g273) dX2_readCommand_74 ab_m273 rfl (by decide) (by decide) (ab_l4 ab_w1250 ab_w1251 ab_w1252 ab_w1213) ab_w1253 rfl ⟨by decide, by decide, by decide +kernel⟩, List.forall_mem_cons.mpr ⟨ab_callV_ok' (G' := ab_g274) (C := RX2) (T := TX2) (N := 8) dX2_readCommand_77 ab_m274 rfl rfl (by decide) (by decide) (ab_l4 ab_w1254 ab_w1255 ab_w1256 ab_w335) ab_w1257 rfl ⟨by decide, by decide, by decide +kernel⟩, List.forall_mem_cons.mpr ⟨ab_if_ne_ok dX2_readCommand_80 (by decide), List.forall_mem_cons.mpr ⟨ab_iconst_ok dX2_readCommand_83 (by decide), List.forall_mem_cons.mpr ⟨ab_zret_ok dX2_readCommand_84 rfl, List.forall_mem_cons.mpr ⟨ab_iinc_ok dX2_readCommand_85 (by decide), List.forall_mem_cons.mpr ⟨ab_goto_ok dX2_readCommand_88 (by decide), List.forall_mem_cons.mpr ⟨ab_iconst_ok dX2_readCommand_91 (by decide), List.forall_mem_cons.mpr ⟨ab_zret_ok dX2_readCommand_92 rfl, fun _ h => absurd h List.not_mem_nil⟩⟩⟩⟩⟩⟩⟩⟩⟩⟩
theorem ab_k240 (K : ab_Kt) : ∀ pc, ab_OK K ab_mt ab_g240 pc (ab_c240 pc) := ab_lk2_ok _ (List.forall_mem_cons.mpr ⟨ab_k240_0 K, List.forall_mem_cons.mpr ⟨ab_k240_1 K, fun _ h => absurd h List.not_mem_nil⟩⟩)
theorem dX2_take_0 : decode cX2_take 0 = .ok (.aload_n 0, 1) := by decide +kernel
theorem dX2_take_1 : decode cX2_take 1 = .ok (.getfield 23, 3) := by decide +kernel
theorem dX2_take_4 : decode cX2_take 4 = .ok (.aload_n 0, 1) := by decide +kernel
theorem dX2_take_5 : decode cX2_take 5 = .ok (.getfield 19, 3) := by decide +kernel
theorem dX2_take_8 : decode cX2_take 8 = .ok (.if_icmp .ge 16, 3) := by decide +kernel
theorem dX2_take_11 : decode cX2_take 11 = .ok (.aload_n 0, 1) := by decide +kernel
theorem dX2_take_12 : decode cX2_take 12 = .ok (.getfield 9, 3) := by decide +kernel
theorem dX2_take_15 : decode cX2_take 15 = .ok (.aload_n 0, 1) := by decide +kernel
theorem dX2_take_16 : decode cX2_take 16 = .ok (.getfield 23, 3) := by decide +kernel
theorem dX2_take_19 : decode cX2_take 19 = .ok (.caload, 1) := by decide +kernel
theorem dX2_take_20 : decode cX2_take 20 = .ok (.iload_n 1, 1) := by decide +kernel
theorem dX2_take_21 : decode cX2_take 21 = .ok (.if_icmp .eq 5, 3) := by decide +kernel
theorem dX2_take_24 : decode cX2_take 24 = .ok (.iconst 0, 1) := by decide +kernel
theorem dX2_take_25 : decode cX2_take 25 = .ok (.ireturn, 1) := by decide +kernel
theorem dX2_take_26 : decode cX2_take 26 = .ok (.aload_n 0, 1) := by decide +kernel
theorem dX2_take_27 : decode cX2_take 27 = .ok (.dup, 1) := by decide +kernel
theorem dX2_take_28 : decode cX2_take 28 = .ok (.getfield 23, 3) := by decide +kernel
theorem dX2_take_31 : decode cX2_take 31 = .ok (.iconst 1, 1) := by decide +kernel
theorem dX2_take_32 : decode cX2_take 32 = .ok (.iadd, 1) := by decide +kernel
theorem dX2_take_33 : decode cX2_take 33 = .ok (.putfield 23, 3) := by decide +kernel
theorem dX2_take_36 : decode cX2_take 36 = .ok (.iconst 1, 1) := by decide +kernel
theorem dX2_take_37 : decode cX2_take 37 = .ok (.ireturn, 1) := by decide +kernel
theorem ab_k241_0 (K : ab_Kt) : ∀ q ∈ ab_l241_0, ab_OK K ab_mt ab_g241 q.1 q.2 := by
  unfold ab_l241_0
  exact List.forall_mem_cons.mpr ⟨ab_aload_n_ok dX2_take_0 rfl, List.forall_mem_cons.mpr ⟨ab_getf_ok (C := RX2) (T := TX2) (N := 8) (ci := 6) (k := 3) dX2_take_1 rfl ab_ic6 (by decide) ab_w1077, List.forall_mem_cons.mpr ⟨ab_aload_n_ok dX2_take_4 rfl, List.forall_mem_cons.mpr ⟨ab_getf_ok (C := RX2) (T := TX2) (N := 8) (ci := 6) (k := 1) dX2_take_5 rfl ab_ic6 (by decide) ab_w1078, List.forall_mem_cons.mpr ⟨ab_icmp_ge_ok dX2_take_8 (by decide), List.forall_mem_cons.mpr ⟨ab_aload_n_ok dX2_take_11 rfl, List.forall_mem_cons.mpr ⟨ab_getf_ok (C := RX2) (T := TX2) (N := 8) (ci := 6) (k := 0) dX2_take_12 rfl ab_ic6 (by decide) ab_w719, List.forall_mem_cons.mpr ⟨ab_aload_n_ok dX2_take_15 rfl, List.forall_mem_cons.mpr ⟨ab_getf_ok (C := RX2) (T := TX2) (N := 8) (ci := 6) (k := 3) dX2_take_16 rfl ab_ic6 (by decide) ab_w1077, List.forall_mem_cons.mpr ⟨ab_ald3_ok dX2_take_19, List.forall_mem_cons.mpr ⟨ab_iload_n_ok dX2_take_20 rfl, List.forall_mem_cons.mpr ⟨ab_icmp_eq_ok dX2_take_21 (by decide), List.forall_mem_cons.mpr ⟨ab_iconst_ok dX2_take_24 (by decide), List.forall_mem_cons.mpr ⟨ab_zret_ok dX2_take_25 rfl, List.forall_mem_cons.mpr ⟨ab_aload_n_ok dX2_take_26 rfl, List.forall_mem_cons.mpr ⟨ab_dup_ok dX2_take_27, List.forall_mem_cons.mpr ⟨ab_getf_ok (C := RX2) (T := TX2) (N := 8) (ci := 6) (k := 3) dX2_take_28 rfl ab_ic6 (by decide) ab_w1077, List.forall_mem_cons.mpr ⟨ab_iconst_ok dX2_take_31 (by decide), List.forall_mem_cons.mpr ⟨ab_iadd_ok dX2_take_32, List.forall_mem_cons.mpr ⟨ab_putf_ok (C := RX2) (T := TX2) (N := 8) (ci := 6) (k := 3) (ty0 := tyX2) dX2_take_33 rfl ab_ic6 tyX2_ok nmX2 (by decide) ab_w1077 rfl (Or.inl rfl), List.forall_mem_cons.mpr ⟨ab_iconst_ok dX2_take_36 (by decide), List.forall_mem_cons.mpr ⟨ab_zret_ok dX2_take_37 rfl, fun _ h => absurd h List.not_mem_nil⟩⟩⟩⟩⟩⟩⟩⟩⟩⟩⟩⟩⟩⟩⟩⟩⟩⟩⟩⟩⟩⟩
theorem ab_k241 (K : ab_Kt) : ∀ pc, ab_OK K ab_mt ab_g241 pc (ab_c241 pc) := ab_lk2_ok _ (List.forall_mem_cons.mpr ⟨ab_k241_0 K, fun _ h => absurd h List.not_mem_nil⟩)
theorem dX2_readNext_0 : decode cX2_readNext 0 = .ok (.aload_n 0, 1) := by decide +kernel
theorem dX2_readNext_1 : decode cX2_readNext 1 = .ok (.invokevirtual 32, 3) := by decide +kernel
theorem dX2_readNext_4 : decode cX2_readNext 4 = .ok (.pop, 1) := by decide +kernel
theorem dX2_readNext_5 : decode cX2_readNext 5 = .ok (.aload_n 0, 1) := by decide +kernel
theorem dX2_readNext_6 : decode cX2_readNext 6 = .ok (.bipush 59, 2) := by decide +kernel
theorem dX2_readNext_8 : decode cX2_readNext 8 = .ok (.invokevirtual 36, 3) := by decide +kernel
theorem dX2_readNext_11 : decode cX2_readNext 11 = .ok (.pop, 1) := by decide +kernel
theorem dX2_readNext_12 : decode cX2_readNext 12 = .ok (.return_, 1) := by decide +kernel
theorem ab_k242_0 (K : ab_Kt) : ∀ q ∈ ab_l242_0, ab_OK K ab_mt ab_g242 q.1 q.2 := by
  unfold ab_l242_0
  exact List.forall_mem_cons.mpr ⟨ab_aload_n_ok dX2_readNext_0 rfl, List.forall_mem_cons.mpr ⟨ab_callV_ok' (G' := ab_g240) (C := RX2) (T := TX2) (N := 8) dX2_readNext_1 ab_m240 rfl rfl (by decide) (by decide) (ab_l4 ab_w1073 ab_w1074 ab_w1075 ab_w335) ab_w1076 rfl ⟨by decide, by decide, by decide +kernel⟩, List.forall_mem_cons.mpr ⟨ab_pop_ok dX2_readNext_4, List.forall_mem_cons.mpr ⟨ab_aload_n_ok dX2_readNext_5 rfl, List.forall_mem_cons.mpr ⟨ab_bipush_ok dX2_readNext_6 (by decide), List.forall_mem_cons.mpr ⟨ab_callV_ok' (G' := ab_g241) (C := RX2) (T := TX2) (N := 8) dX2_readNext_8 ab_m241 rfl rfl (by decide) (by decide) (ab_l4 ab_w1079 ab_w1080 ab_w1081 ab_w335) ab_w1082 rfl ⟨by decide, by decide, by decide +kernel⟩, List.forall_mem_cons.mpr ⟨ab_pop_ok dX2_readNext_11, List.forall_mem_cons.mpr ⟨ab_vret_ok dX2_readNext_12 rfl, fun _ h => absurd h List.not_mem_nil⟩⟩⟩⟩⟩⟩⟩⟩
theorem ab_k242 (K : ab_Kt) : ∀ pc, ab_OK K ab_mt ab_g242 pc (ab_c242 pc) := ab_lk2_ok _ (List.forall_mem_cons.mpr ⟨ab_k242_0 K, fun _ h => absurd h List.not_mem_nil⟩)
theorem dX0_carryOutOne_0 : decode cX0_carryOutOne 0 = .ok (.aload_n 1, 1) := by decide +kernel
theorem dX0_carryOutOne_1 : decode cX0_carryOutOne 1 = .ok (.getfield 170, 3) := by decide +kernel
theorem dX0_carryOutOne_4 : decode cX0_carryOutOne 4 = .ok (.iconst 0, 1) := by decide +kernel
theorem dX0_carryOutOne_5 : decode cX0_carryOutOne 5 = .ok (.iaload, 1) := by decide +kernel
theorem dX0_carryOutOne_6 : decode cX0_carryOutOne 6 = .ok (.istore_n 2, 1) := by decide +kernel
theorem dX0_carryOutOne_7 : decode cX0_carryOutOne 7 = .ok (.aload_n 1, 1) := by decide +kernel
theorem dX0_carryOutOne_8 : decode cX0_carryOutOne 8 = .ok (.getfield 170, 3) := by decide +kernel
theorem dX0_carryOutOne_11 : decode cX0_carryOutOne 11 = .ok (.iconst 1, 1) := by decide +kernel
theorem dX0_carryOutOne_12 : decode cX0_carryOutOne 12 = .ok (.iaload, 1) := by decide +kernel
theorem dX0_carryOutOne_13 : decode cX0_carryOutOne 13 = .ok (.istore_n 3, 1) := by decide +kernel
theorem dX0_carryOutOne_14 : decode cX0_carryOutOne 14 = .ok (.aload_n 1, 1) := by decide +kernel
theorem dX0_carryOutOne_15 : decode cX0_carryOutOne 15 = .ok (.getfield 173, 3) := by decide +kernel
theorem dX0_carryOutOne_18 : decode cX0_carryOutOne 18 = .ok (.tableswitch 148 100 117 #[142, 135, 148, 86, 148, 148, 148, 148, 115, 148, 148, 148, 122, 148, 148, 103, 129, 109], 86) := by decide +kernel
theorem dX0_carryOutOne_104 : decode cX0_carryOutOne 104 = .ok (.aload_n 0, 1) := by decide +kernel
theorem dX0_carryOutOne_105 : decode cX0_carryOutOne 105 = .ok (.iload_n 2, 1) := by decide +kernel
theorem dX0_carryOutOne_106 : decode cX0_carryOutOne 106 = .ok (.iload_n 3, 1) := by decide +kernel
theorem dX0_carryOutOne_107 : decode cX0_carryOutOne 107 = .ok (.aload_n 1, 1) := by decide +kernel
theorem dX0_carryOutOne_108 : decode cX0_carryOutOne 108 = .ok (.getfield 170, 3) := by decide +kernel
theorem dX0_carryOutOne_111 : decode cX0_carryOutOne 111 = .ok (.iconst 2, 1) := by decide +kernel
theorem dX0_carryOutOne_112 : decode cX0_carryOutOne 112 = .ok (.iaload, 1) := by decide +kernel
theorem dX0_carryOutOne_113 : decode cX0_carryOutOne 113 = .ok (.aload_n 1, 1) := by decide +kernel
theorem dX0_carryOutOne_114 : decode cX0_carryOutOne 114 = .ok (.getfield 177, 3) := by decide +kernel
theorem dX0_carryOutOne_117 : decode cX0_carryOutOne 117 = .ok (.invokevirtual 181, 3) := by decide +kernel
theorem dX0_carryOutOne_120 : decode cX0_carryOutOne 120 = .ok (.ireturn, 1) := by decide +kernel
theorem dX0_carryOutOne_121 : decode cX0_carryOutOne 121 = .ok (.aload_n 0, 1) := by decide +kernel
theorem dX0_carryOutOne_122 : decode cX0_carryOutOne 122 = .ok (.iload_n 2, 1) := by decide +kernel
theorem dX0_carryOutOne_123 : decode cX0_carryOutOne 123 = .ok (.invokevirtual 185, 3) := by decide +kernel
theorem dX0_carryOutOne_126 : decode cX0_carryOutOne 126 = .ok (.ireturn, 1) := by decide +kernel
theorem dX0_carryOutOne_127 : decode cX0_carryOutOne 127 = .ok (.aload_n 0, 1) := by decide +kernel
theorem dX0_carryOutOne_128 : decode cX0_carryOutOne 128 = .ok (.iload_n 2, 1) := by decide +kernel
theorem dX0_carryOutOne_129 : decode cX0_carryOutOne 129 = .ok (.invokevirtual 188, 3) := by decide +kernel
theorem dX0_carryOutOne_132 : decode cX0_carryOutOne 132 = .ok (.ireturn, 1) := by decide +kernel
theorem dX0_carryOutOne_133 : decode cX0_carryOutOne 133 = .ok (.aload_n 0, 1) := by decide +kernel
theorem dX0_carryOutOne_134 : decode cX0_carryOutOne 134 = .ok (.iload_n 2, 1) := by decide +kernel
theorem dX0_carryOutOne_135 : decode cX0_carryOutOne 135 = .ok (.iload_n 3, 1) := by decide +kernel
theorem dX0_carryOutOne_136 : decode cX0_carryOutOne 136 = .ok (.invokevirtual 191, 3) := by decide +kernel
theorem dX0_carryOutOne_139 : decode cX0_carryOutOne 139 = .ok (.ireturn, 1) := by decide +kernel
theorem dX0_carryOutOne_140 : decode cX0_carryOutOne 140 = .ok (.aload_n 0, 1) := by decide +kernel
theorem dX0_carryOutOne_141 : decode cX0_carryOutOne 141 = .ok (.iload_n 2, 1) := by decide +kernel
theorem dX0_carryOutOne_142 : decode cX0_carryOutOne 142 = .ok (.iload_n 3, 1) := by decide +kernel
theorem ab_k243_0 (K : ab_Kt) : ∀ q ∈ ab_l243_0, ab_OK K ab_mt ab_g243 q.1 q.2 := by
  unfold ab_l243_0
  exact List.forall_mem_cons.mpr ⟨ab_aload_n_ok dX0_carryOutOne_0 rfl, List.forall_mem_cons.mpr ⟨ab_getf_ok (C := RX2) (T := TX2) (N := 8) (ci := 6) (k := 5) dX0_carryOutOne_1 rfl ab_ic6 (by decide) ab_w1258, List.forall_mem_cons.mpr ⟨ab_iconst_ok dX0_carryOutOne_4 (by decide), List.forall_mem_cons.mpr ⟨ab_ald0_ok dX0_carryOutOne_5, List.forall_mem_cons.mpr ⟨ab_istore_n_ok dX0_carryOutOne_6 rfl, List.forall_mem_cons.mpr ⟨ab_aload_n_ok dX0_carryOutOne_7 rfl, List.forall_mem_cons.mpr ⟨ab_getf_ok (C := RX2) (T := TX2) (N := 8) (ci := 6) (k := 5) dX0_carryOutOne_8 rfl ab_ic6 (by decide) ab_w1258, List.forall_mem_cons.mpr ⟨ab_iconst_ok dX0_carryOutOne_11 (by decide), List.forall_mem_cons.mpr ⟨ab_ald0_ok dX0_carryOutOne_12, List.forall_mem_cons.mpr ⟨ab_istore_n_ok dX0_carryOutOne_13 rfl, List.forall_mem_cons.mpr ⟨ab_aload_n_ok dX0_carryOutOne_14 rfl, List.forall_mem_cons.mpr ⟨ab_getf_ok (C := RX2) (T := TX2) (N := 8) (ci := 6) (k := 4) dX0_carryOutOne_15 rfl ab_ic6 (by decide) ab_w1259, List.forall_mem_cons.mpr ⟨ab_tsw_ok dX0_carryOutOne_18 (by decide) (by decide) (by decide), List.forall_mem_cons.mpr ⟨ab_aload_n_ok dX0_carryOutOne_104 rfl, List.forall_mem_cons.mpr ⟨ab_iload_n_ok dX0_carryOutOne_105 rfl, List.forall_mem_cons.mpr ⟨ab_iload_n_ok dX0_carryOutOne_106 rfl, List.forall_mem_cons.mpr ⟨ab_aload_n_ok dX0_carryOutOne_107 rfl, List.forall_mem_cons.mpr ⟨ab_getf_ok (C := RX2) (T := TX2) (N := 8) (ci := 6) (k := 5) dX0_carryOutOne_108 rfl ab_ic6 (by decide) ab_w1258, List.forall_mem_cons.mpr ⟨ab_iconst_ok dX0_carryOutOne_111 (by decide), List.forall_mem_cons.mpr ⟨ab_ald0_ok dX0_carryOutOne_112, List.forall_mem_cons.mpr ⟨ab_aload_n_ok dX0_carryOutOne_113 rfl, List.forall_mem_cons.mpr ⟨ab_getf_ok (C := RX2) (T := TX2) (N := 8) (ci := 6) (k := 7) dX0_carryOutOne_114 rfl ab_ic6 (by decide) ab_w1266, List.forall_mem_cons.mpr ⟨ab_callV_ok' (G' := ab_g227) (C := RX0) (T := TX0) (N := 5) dX0_carryOutOne_117 ab_m227 rfl rfl (by decide) (by decide) (ab_l4 ab_w1267 ab_w986 ab_w987 ab_w313) ab_w988 rfl ⟨by decide, by decide, by decide +kernel⟩, List.forall_mem_cons.mpr ⟨ab_iret_ok dX0_carryOutOne_120 rfl, List.forall_mem_cons.mpr ⟨ab_aload_n_ok dX0_carryOutOne_121 rfl, List.forall_mem_cons.mpr ⟨ab_iload_n_ok dX0_carryOutOne_122 rfl, List.forall_mem_cons.mpr ⟨ab_callV_ok' (G' := ab_g223) (C := RX0) (T := TX0) (N := 5) dX0_carryOutOne_123 ab_m223 rfl rfl (by decide) (by decide) (ab_l4 ab_w1263 ab_w970 ab_w971 ab_w313) ab_w972 rfl ⟨by decide, by decide, by decide +kernel⟩, List.forall_mem_cons.mpr ⟨ab_iret_ok dX0_carryOutOne_126 rfl, List.forall_mem_cons.mpr ⟨ab_aload_n_ok dX0_carryOutOne_127 rfl, List.forall_mem_cons.mpr ⟨ab_iload_n_ok dX0_carryOutOne_128 rfl, List.forall_mem_cons.mpr ⟨ab_callV_ok' (G' := ab_g222) (C := RX0) (T := TX0) (N := 5) dX0_carryOutOne_129 ab_m222 rfl rfl (by decide) (by decide) (ab_l4 ab_w1261 ab_w966 ab_w967 ab_w313) ab_w968 rfl ⟨by decide, by decide, by decide +kernel⟩, List.forall_mem_cons.mpr ⟨ab_iret_ok dX0_carryOutOne_132 rfl, List.forall_mem_cons.mpr ⟨ab_aload_n_ok dX0_carryOutOne_133 rfl, List.forall_mem_cons.mpr ⟨ab_iload_n_ok dX0_carryOutOne_134 rfl, List.forall_mem_cons.mpr ⟨ab_iload_n_ok dX0_carryOutOne_135 rfl, List.forall_mem_cons.mpr ⟨ab_callV_ok' (G' := ab_g221) (C := RX0) (T := TX0) (N := 5) dX0_carryOutOne_136 ab_m221 rfl rfl (by decide) (by decide) (ab_l4 ab_w1265 ab_w962 ab_w963 ab_w313) ab_w964 rfl ⟨by decide, by decide, by decide +kernel⟩, List.forall_mem_cons.mpr ⟨ab_iret_ok dX0_carryOutOne_139 rfl, List.forall_mem_cons.mpr ⟨ab_aload_n_ok dX0_carryOutOne_140 rfl, List.forall_mem_cons.mpr ⟨ab_iload_n_ok dX0_carryOutOne_141 rfl, List.forall_mem_cons.mpr ⟨ab_iload_n_ok dX0_carryOutOne_142 rfl, fun _ h => absurd h List.not_mem_nil⟩⟩⟩⟩⟩⟩⟩⟩⟩⟩⟩⟩⟩⟩⟩⟩⟩⟩⟩⟩⟩⟩⟩⟩⟩⟩⟩⟩⟩⟩⟩⟩⟩⟩⟩⟩⟩⟩⟩⟩
theorem dX0_carryOutOne_143 : decode cX0_carryOutOne 143 = .ok (.invokevirtual 194, 3) := by decide +kernel
theorem dX0_carryOutOne_146 : decode cX0_carryOutOne 146 = .ok (.ireturn, 1) := by decide +kernel
theorem dX0_carryOutOne_147 : decode cX0_carryOutOne 147 = .ok (.aload_n 0, 1) := by decide +kernel
theorem dX0_carryOutOne_148 : decode cX0_carryOutOne 148 = .ok (.iload_n 2, 1) := by decide +kernel
theorem dX0_carryOutOne_149 : decode cX0_carryOutOne 149 = .ok (.invokevirtual 197, 3) := by decide +kernel
theorem dX0_carryOutOne_152 : decode cX0_carryOutOne 152 = .ok (.ireturn, 1) := by decide +kernel
theorem dX0_carryOutOne_153 : decode cX0_carryOutOne 153 = .ok (.aload_n 0, 1) := by decide +kernel
theorem dX0_carryOutOne_154 : decode cX0_carryOutOne 154 = .ok (.iload_n 2, 1) := by decide +kernel
theorem dX0_carryOutOne_155 : decode cX0_carryOutOne 155 = .ok (.iload_n 3, 1) := by decide +kernel
theorem dX0_carryOutOne_156 : decode cX0_carryOutOne 156 = .ok (.invokevirtual 200, 3) := by decide +kernel
theorem dX0_carryOutOne_159 : decode cX0_carryOutOne 159 = .ok (.ireturn, 1) := by decide +kernel
theorem dX0_carryOutOne_160 : decode cX0_carryOutOne 160 = .ok (.aload_n 0, 1) := by decide +kernel
theorem dX0_carryOutOne_161 : decode cX0_carryOutOne 161 = .ok (.iload_n 2, 1) := by decide +kernel
theorem dX0_carryOutOne_162 : decode cX0_carryOutOne 162 = .ok (.invokevirtual 203, 3) := by decide +kernel
theorem dX0_carryOutOne_165 : decode cX0_carryOutOne 165 = .ok (.ireturn, 1) := by decide +kernel
theorem dX0_carryOutOne_166 : decode cX0_carryOutOne 166 = .ok (.aload_n 0, 1) := by decide +kernel
theorem dX0_carryOutOne_167 : decode cX0_carryOutOne 167 = .ok (.iload_n 2, 1) := by decide +kernel
theorem dX0_carryOutOne_168 : decode cX0_carryOutOne 168 = .ok (.invokevirtual 206, 3) := by decide +kernel
theorem dX0_carryOutOne_171 : decode cX0_carryOutOne 171 = .ok (.ireturn, 1) := by decide +kernel
theorem ab_k243_1 (K : ab_Kt) : ∀ q ∈ ab_l243_1, ab_OK K ab_mt ab_g243 q.1 q.2 := by
  unfold ab_l243_1
  exact List.forall_mem_cons.mpr ⟨ab_callV_ok' (G' := ab_g220) (C := RX0) (T := TX0) (N := 5) dX0_carryOutOne_143 ab_m220 rfl rfl (by decide) (by decide) (ab_l4 ab_w1264 ab_w958 ab_w959 ab_w313) ab_w960 rfl ⟨by decide, by decide, by decide +kernel⟩, List.forall_mem_cons.mpr ⟨ab_iret_ok dX0_carryOutOne_146 rfl, List.forall_mem_cons.mpr ⟨ab_aload_n_ok dX0_carryOutOne_147 rfl, List.forall_mem_cons.mpr ⟨ab_iload_n_ok dX0_carryOutOne_148 rfl, List.forall_mem_cons.mpr ⟨ab_callV_ok' (G' := ab_g219) (C := RX0) (T := TX0) (N := 5) dX0_carryOutOne_149 ab_m219 rfl rfl (by decide) (by decide) (ab_l4 ab_w1262 ab_w954 ab_w955 ab_w313) ab_w956 rfl ⟨by decide, by decide, by decide +kernel⟩, List.forall_mem_cons.mpr ⟨ab_iret_ok dX0_carryOutOne_152 rfl, List.forall_mem_cons.mpr ⟨ab_aload_n_ok dX0_carryOutOne_153 rfl, List.forall_mem_cons.mpr ⟨ab_iload_n_ok dX0_carryOutOne_154 rfl, List.forall_mem_cons.mpr ⟨ab_iload_n_ok dX0_carryOutOne_155 rfl, List.forall_mem_cons.mpr ⟨ab_callV_ok' (G' := ab_g218) (C := RX0) (T := TX0) (N := 5) dX0_carryOutOne_156 ab_m218 rfl rfl (by decide) (by decide) (ab_l4 ab_w1268 ab_w950 ab_w951 ab_w313) ab_w952 rfl ⟨by decide, by decide, by decide +kernel⟩, List.forall_mem_cons.mpr ⟨ab_iret_ok dX0_carryOutOne_159 rfl, List.forall_mem_cons.mpr ⟨ab_aload_n_ok dX0_carryOutOne_160 rfl, List.forall_mem_cons.mpr ⟨ab_iload_n_ok dX0_carryOutOne_161 rfl, List.forall_mem_cons.mpr ⟨ab_callV_ok' (G' := ab_g217) (C := RX0) (T := TX0) (N := 5) dX0_carryOutOne_162 ab_m217 rfl rfl (by decide) (by decide) (ab_l4 ab_w1269 ab_w946 ab_w947 ab_w313) ab_w948 rfl ⟨by decide, by decide, by decide +kernel⟩, List.forall_mem_cons.mpr ⟨ab_iret_ok dX0_carryOutOne_165 rfl, List.forall_mem_cons.mpr ⟨ab_aload_n_ok dX0_carryOutOne_166 rfl, List.forall_mem_cons.mpr ⟨ab_iload_n_ok dX0_carryOutOne_167 rfl, List.forall_mem_cons.mpr ⟨ab_callV_ok' (G' := ab_g216) (C := RX0) (T := TX0) (N := 5) dX0_carryOutOne_168 ab_m216 rfl rfl (by decide) (by decide) (ab_l4 ab_w1260 ab_w942 ab_w943 ab_w313) ab_w944 rfl ⟨by decide, by decide, by decide +kernel⟩, List.forall_mem_cons.mpr ⟨ab_iret_ok dX0_carryOutOne_171 rfl, fun _ h => absurd h List.not_mem_nil⟩⟩⟩⟩⟩⟩⟩⟩⟩⟩⟩⟩⟩⟩⟩⟩⟩⟩⟩
theorem ab_k243 (K : ab_Kt) : ∀ pc, ab_OK K ab_mt ab_g243 pc (ab_c243 pc) := ab_lk2_ok _ (List.forall_mem_cons.mpr ⟨ab_k243_0 K, List.forall_mem_cons.mpr ⟨ab_k243_1 K, fun _ h => absurd h List.not_mem_nil⟩⟩)
theorem dX3_keepNoted_0 : decode cX3_keepNoted 0 = .ok (.aload_n 0, 1) := by decide +kernel
theorem dX3_keepNoted_1 : decode cX3_keepNoted 1 = .ok (.aload_n 0, 1) := by decide +kernel
theorem dX3_keepNoted_2 : decode cX3_keepNoted 2 = .ok (.getfield 18, 3) := by decide +kernel
theorem dX3_keepNoted_5 : decode cX3_keepNoted 5 = .ok (.iconst 1, 1) := by decide +kernel
theorem dX3_keepNoted_6 : decode cX3_keepNoted 6 = .ok (.iadd, 1) := by decide +kernel
theorem dX3_keepNoted_7 : decode cX3_keepNoted 7 = .ok (.bipush 9, 2) := by decide +kernel
theorem dX3_keepNoted_9 : decode cX3_keepNoted 9 = .ok (.if_icmp .ge 12, 3) := by decide +kernel
theorem dX3_keepNoted_12 : decode cX3_keepNoted 12 = .ok (.aload_n 0, 1) := by decide +kernel
theorem dX3_keepNoted_13 : decode cX3_keepNoted 13 = .ok (.getfield 18, 3) := by decide +kernel
theorem dX3_keepNoted_16 : decode cX3_keepNoted 16 = .ok (.iconst 1, 1) := by decide +kernel
theorem dX3_keepNoted_17 : decode cX3_keepNoted 17 = .ok (.iadd, 1) := by decide +kernel
theorem dX3_keepNoted_18 : decode cX3_keepNoted 18 = .ok (.goto 4, 3) := by decide +kernel
theorem dX3_keepNoted_21 : decode cX3_keepNoted 21 = .ok (.iconst 0, 1) := by decide +kernel
theorem dX3_keepNoted_22 : decode cX3_keepNoted 22 = .ok (.putfield 18, 3) := by decide +kernel
theorem dX3_keepNoted_25 : decode cX3_keepNoted 25 = .ok (.aload_n 0, 1) := by decide +kernel
theorem dX3_keepNoted_26 : decode cX3_keepNoted 26 = .ok (.aload_n 0, 1) := by decide +kernel
theorem dX3_keepNoted_27 : decode cX3_keepNoted 27 = .ok (.getfield 26, 3) := by decide +kernel
theorem dX3_keepNoted_30 : decode cX3_keepNoted 30 = .ok (.iconst 1, 1) := by decide +kernel
theorem dX3_keepNoted_31 : decode cX3_keepNoted 31 = .ok (.iadd, 1) := by decide +kernel
theorem dX3_keepNoted_32 : decode cX3_keepNoted 32 = .ok (.bipush 8, 2) := by decide +kernel
theorem dX3_keepNoted_34 : decode cX3_keepNoted 34 = .ok (.invokestatic 29, 3) := by decide +kernel
theorem dX3_keepNoted_37 : decode cX3_keepNoted 37 = .ok (.putfield 26, 3) := by decide +kernel
theorem dX3_keepNoted_40 : decode cX3_keepNoted 40 = .ok (.return_, 1) := by decide +kernel
theorem ab_k244_0 (K : ab_Kt) : ∀ q ∈ ab_l244_0, ab_OK K ab_mt ab_g244 q.1 q.2 := by
  unfold ab_l244_0
  exact List.forall_mem_cons.mpr ⟨ab_aload_n_ok dX3_keepNoted_0 rfl, List.forall_mem_cons.mpr ⟨ab_aload_n_ok dX3_keepNoted_1 rfl, List.forall_mem_cons.mpr ⟨ab_getf_ok (C := RX3) (T := TX3) (N := 3) (ci := 7) (k := 1) dX3_keepNoted_2 rfl ab_ic7 (by decide) ab_w1026, List.forall_mem_cons.mpr ⟨ab_iconst_ok dX3_keepNoted_5 (by decide), List.forall_mem_cons.mpr ⟨ab_iadd_ok dX3_keepNoted_6, List.forall_mem_cons.mpr ⟨ab_bipush_ok dX3_keepNoted_7 (by decide), List.forall_mem_cons.mpr ⟨ab_icmp_ge_ok dX3_keepNoted_9 (by decide), List.forall_mem_cons.mpr ⟨ab_aload_n_ok dX3_keepNoted_12 rfl, List.forall_mem_cons.mpr ⟨ab_getf_ok (C := RX3) (T := TX3) (N := 3) (ci := 7) (k := 1) dX3_keepNoted_13 rfl ab_ic7 (by decide) ab_w1026, List.forall_mem_cons.mpr ⟨ab_iconst_ok dX3_keepNoted_16 (by decide), List.forall_mem_cons.mpr ⟨ab_iadd_ok dX3_keepNoted_17, List.forall_mem_cons.mpr ⟨ab_goto_ok dX3_keepNoted_18 (by decide), List.forall_mem_cons.mpr ⟨ab_iconst_ok dX3_keepNoted_21 (by decide), List.forall_mem_cons.mpr ⟨ab_putf_ok (C := RX3) (T := TX3) (N := 3) (ci := 7) (k := 1) (ty0 := tyX3) dX3_keepNoted_22 rfl ab_ic7 tyX3_ok nmX3 (by decide) ab_w1026 rfl (Or.inl rfl), List.forall_mem_cons.mpr ⟨ab_aload_n_ok dX3_keepNoted_25 rfl, List.forall_mem_cons.mpr ⟨ab_aload_n_ok dX3_keepNoted_26 rfl, List.forall_mem_cons.mpr ⟨ab_getf_ok (C := RX3) (T := TX3) (N := 3) (ci := 7) (k := 2) dX3_keepNoted_27 rfl ab_ic7 (by decide) ab_w1008, List.forall_mem_cons.mpr ⟨ab_iconst_ok dX3_keepNoted_30 (by decide), List.forall_mem_cons.mpr ⟨ab_iadd_ok dX3_keepNoted_31, List.forall_mem_cons.mpr ⟨ab_bipush_ok dX3_keepNoted_32 (by decide), List.forall_mem_cons.mpr ⟨ab_mmin_ok dX3_keepNoted_34 (ab_l4 ab_w1270 ab_w1192 ab_w881 ab_w1193), List.forall_mem_cons.mpr ⟨ab_putf_ok (C := RX3) (T := TX3) (N := 3) (ci := 7) (k := 2) (ty0 := tyX3) dX3_keepNoted_37 rfl ab_ic7 tyX3_ok nmX3 (by decide) ab_w1008 rfl (Or.inl rfl), List.forall_mem_cons.mpr ⟨ab_vret_ok dX3_keepNoted_40 rfl, fun _ h => absurd h List.not_mem_nil⟩⟩⟩⟩⟩⟩⟩⟩⟩⟩⟩⟩⟩⟩⟩⟩⟩⟩⟩⟩⟩⟩⟩
theorem ab_k244 (K : ab_Kt) : ∀ pc, ab_OK K ab_mt ab_g244 pc (ab_c244 pc) := ab_lk2_ok _ (List.forall_mem_cons.mpr ⟨ab_k244_0 K, fun _ h => absurd h List.not_mem_nil⟩)
theorem dX7_here_0 : decode cX7_here 0 = .ok (.aload_n 0, 1) := by decide +kernel
theorem dX7_here_1 : decode cX7_here 1 = .ok (.getfield 177, 3) := by decide +kernel
theorem dX7_here_4 : decode cX7_here 4 = .ok (.aload_n 0, 1) := by decide +kernel
theorem dX7_here_5 : decode cX7_here 5 = .ok (.getfield 174, 3) := by decide +kernel
theorem dX7_here_8 : decode cX7_here 8 = .ok (.if_icmp .ge 15, 3) := by decide +kernel
theorem dX7_here_11 : decode cX7_here 11 = .ok (.aload_n 0, 1) := by decide +kernel
theorem dX7_here_12 : decode cX7_here 12 = .ok (.getfield 22, 3) := by decide +kernel
theorem dX7_here_15 : decode cX7_here 15 = .ok (.aload_n 0, 1) := by decide +kernel
theorem dX7_here_16 : decode cX7_here 16 = .ok (.getfield 177, 3) := by decide +kernel
theorem dX7_here_19 : decode cX7_here 19 = .ok (.iaload, 1) := by decide +kernel
theorem dX7_here_20 : decode cX7_here 20 = .ok (.goto 4, 3) := by decide +kernel
theorem dX7_here_23 : decode cX7_here 23 = .ok (.iconst (-1), 1) := by decide +kernel
theorem dX7_here_24 : decode cX7_here 24 = .ok (.ireturn, 1) := by decide +kernel
theorem ab_k245_0 (K : ab_Kt) : ∀ q ∈ ab_l245_0, ab_OK K ab_mt ab_g245 q.1 q.2 := by
  unfold ab_l245_0
  exact List.forall_mem_cons.mpr ⟨ab_aload_n_ok dX7_here_0 rfl, List.forall_mem_cons.mpr ⟨ab_getf_ok (C := RX7) (T := TX7) (N := 19) (ci := 11) (k := 16) dX7_here_1 rfl ab_ic11 (by decide) ab_w477, List.forall_mem_cons.mpr ⟨ab_aload_n_ok dX7_here_4 rfl, List.forall_mem_cons.mpr ⟨ab_getf_ok (C := RX7) (T := TX7) (N := 19) (ci := 11) (k := 12) dX7_here_5 rfl ab_ic11 (by decide) ab_w390, List.forall_mem_cons.mpr ⟨ab_icmp_ge_ok dX7_here_8 (by decide), List.forall_mem_cons.mpr ⟨ab_aload_n_ok dX7_here_11 rfl, List.forall_mem_cons.mpr ⟨ab_getf_ok (C := RX7) (T := TX7) (N := 19) (ci := 11) (k := 11) dX7_here_12 rfl ab_ic11 (by decide) ab_w354, List.forall_mem_cons.mpr ⟨ab_aload_n_ok dX7_here_15 rfl, List.forall_mem_cons.mpr ⟨ab_getf_ok (C := RX7) (T := TX7) (N := 19) (ci := 11) (k := 16) dX7_here_16 rfl ab_ic11 (by decide) ab_w477, List.forall_mem_cons.mpr ⟨ab_ald0_ok dX7_here_19, List.forall_mem_cons.mpr ⟨ab_goto_ok dX7_here_20 (by decide), List.forall_mem_cons.mpr ⟨ab_iconst_ok dX7_here_23 (by decide), List.forall_mem_cons.mpr ⟨ab_iret_ok dX7_here_24 rfl, fun _ h => absurd h List.not_mem_nil⟩⟩⟩⟩⟩⟩⟩⟩⟩⟩⟩⟩⟩
theorem ab_k245 (K : ab_Kt) : ∀ pc, ab_OK K ab_mt ab_g245 pc (ab_c245 pc) := ab_lk2_ok _ (List.forall_mem_cons.mpr ⟨ab_k245_0 K, fun _ h => absurd h List.not_mem_nil⟩)
theorem dX7_gatherHere_0 : decode cX7_gatherHere 0 = .ok (.aload_n 0, 1) := by decide +kernel
theorem dX7_gatherHere_1 : decode cX7_gatherHere 1 = .ok (.iload_n 1, 1) := by decide +kernel
theorem dX7_gatherHere_2 : decode cX7_gatherHere 2 = .ok (.iconst 1, 1) := by decide +kernel
theorem dX7_gatherHere_3 : decode cX7_gatherHere 3 = .ok (.iadd, 1) := by decide +kernel
theorem dX7_gatherHere_4 : decode cX7_gatherHere 4 = .ok (.iconst 1, 1) := by decide +kernel
theorem dX7_gatherHere_5 : decode cX7_gatherHere 5 = .ok (.invokevirtual 183, 3) := by decide +kernel
theorem dX7_gatherHere_8 : decode cX7_gatherHere 8 = .ok (.ifCond .eq 43, 3) := by decide +kernel
theorem dX7_gatherHere_11 : decode cX7_gatherHere 11 = .ok (.aload_n 0, 1) := by decide +kernel
theorem dX7_gatherHere_12 : decode cX7_gatherHere 12 = .ok (.bipush 64, 2) := by decide +kernel
theorem dX7_gatherHere_14 : decode cX7_gatherHere 14 = .ok (.invokevirtual 186, 3) := by decide +kernel
theorem dX7_gatherHere_17 : decode cX7_gatherHere 17 = .ok (.ifCond .eq 34, 3) := by decide +kernel
theorem dX7_gatherHere_20 : decode cX7_gatherHere 20 = .ok (.aload_n 0, 1) := by decide +kernel
theorem dX7_gatherHere_21 : decode cX7_gatherHere 21 = .ok (.iload_n 1, 1) := by decide +kernel
theorem dX7_gatherHere_22 : decode cX7_gatherHere 22 = .ok (.iconst 2, 1) := by decide +kernel
theorem dX7_gatherHere_23 : decode cX7_gatherHere 23 = .ok (.iadd, 1) := by decide +kernel
theorem dX7_gatherHere_24 : decode cX7_gatherHere 24 = .ok (.iconst 2, 1) := by decide +kernel
theorem dX7_gatherHere_25 : decode cX7_gatherHere 25 = .ok (.invokevirtual 183, 3) := by decide +kernel
theorem dX7_gatherHere_28 : decode cX7_gatherHere 28 = .ok (.ifCond .eq 23, 3) := by decide +kernel
theorem dX7_gatherHere_31 : decode cX7_gatherHere 31 = .ok (.aload_n 0, 1) := by decide +kernel
theorem dX7_gatherHere_32 : decode cX7_gatherHere 32 = .ok (.bipush 58, 2) := by decide +kernel
theorem dX7_gatherHere_34 : decode cX7_gatherHere 34 = .ok (.invokevirtual 186, 3) := by decide +kernel
theorem dX7_gatherHere_37 : decode cX7_gatherHere 37 = .ok (.ifCond .eq 14, 3) := by decide +kernel
theorem dX7_gatherHere_40 : decode cX7_gatherHere 40 = .ok (.aload_n 0, 1) := by decide +kernel
theorem dX7_gatherHere_41 : decode cX7_gatherHere 41 = .ok (.iload_n 1, 1) := by decide +kernel
theorem dX7_gatherHere_42 : decode cX7_gatherHere 42 = .ok (.iconst 3, 1) := by decide +kernel
theorem dX7_gatherHere_43 : decode cX7_gatherHere 43 = .ok (.iadd, 1) := by decide +kernel
theorem dX7_gatherHere_44 : decode cX7_gatherHere 44 = .ok (.iconst 1, 1) := by decide +kernel
theorem dX7_gatherHere_45 : decode cX7_gatherHere 45 = .ok (.invokevirtual 183, 3) := by decide +kernel
theorem dX7_gatherHere_48 : decode cX7_gatherHere 48 = .ok (.ifCond .ne 5, 3) := by decide +kernel
theorem dX7_gatherHere_51 : decode cX7_gatherHere 51 = .ok (.iconst 0, 1) := by decide +kernel
theorem dX7_gatherHere_52 : decode cX7_gatherHere 52 = .ok (.ireturn, 1) := by decide +kernel
theorem dX7_gatherHere_53 : decode cX7_gatherHere 53 = .ok (.aload_n 0, 1) := by decide +kernel
theorem dX7_gatherHere_54 : decode cX7_gatherHere 54 = .ok (.getfield 33, 3) := by decide +kernel
theorem dX7_gatherHere_57 : decode cX7_gatherHere 57 = .ok (.iload_n 1, 1) := by decide +kernel
theorem dX7_gatherHere_58 : decode cX7_gatherHere 58 = .ok (.iconst 4, 1) := by decide +kernel
theorem dX7_gatherHere_59 : decode cX7_gatherHere 59 = .ok (.iadd, 1) := by decide +kernel
theorem dX7_gatherHere_60 : decode cX7_gatherHere 60 = .ok (.aload_n 0, 1) := by decide +kernel
theorem dX7_gatherHere_61 : decode cX7_gatherHere 61 = .ok (.bipush 33, 2) := by decide +kernel
theorem dX7_gatherHere_63 : decode cX7_gatherHere 63 = .ok (.invokevirtual 186, 3) := by decide +kernel
theorem dX7_gatherHere_66 : decode cX7_gatherHere 66 = .ok (.ifCond .eq 7, 3) := by decide +kernel
theorem ab_k246_0 (K : ab_Kt) : ∀ q ∈ ab_l246_0, ab_OK K ab_mt ab_g246 q.1 q.2 := by
  unfold ab_l246_0
  exact List.forall_mem_cons.mpr ⟨ab_aload_n_ok dX7_gatherHere_0 rfl, List.forall_mem_cons.mpr ⟨ab_iload_n_ok dX7_gatherHere_1 rfl, List.forall_mem_cons.mpr ⟨ab_iconst_ok dX7_gatherHere_2 (by decide), List.forall_mem_cons.mpr ⟨ab_iadd_ok dX7_gatherHere_3, List.forall_mem_cons.mpr ⟨ab_iconst_ok dX7_gatherHere_4 (by decide), List.forall_mem_cons.mpr ⟨ab_callV_ok' (G' := ab_g247) (C := RX7) (T := TX7) (N := 19) dX7_gatherHere_5 ab_m247 rfl rfl (by decide) (by decide) (ab_l4 ab_w1108 ab_w1109 ab_w1110 ab_w8) ab_w1111 rfl ⟨by decide, by decide, by decide +kernel⟩, List.forall_mem_cons.mpr ⟨ab_if_eq_ok dX7_gatherHere_8 (by decide), List.forall_mem_cons.mpr ⟨ab_aload_n_ok dX7_gatherHere_11 rfl, List.forall_mem_cons.mpr ⟨ab_bipush_ok dX7_gatherHere_12 (by decide), List.forall_mem_cons.mpr ⟨ab_callV_ok' (G' := ab_g197) (C := RX7) (T := TX7) (N := 19) dX7_gatherHere_14 ab_m197 rfl rfl (by decide) (by decide) (ab_l4 ab_w842 ab_w843 ab_w844 ab_w8) ab_w845 rfl ⟨by decide, by decide, by decide +kernel⟩, List.forall_mem_cons.mpr ⟨ab_if_eq_ok dX7_gatherHere_17 (by decide), List.forall_mem_cons.mpr ⟨ab_aload_n_ok dX7_gatherHere_20 rfl, List.forall_mem_cons.mpr ⟨ab_iload_n_ok dX7_gatherHere_21 rfl, List.forall_mem_cons.mpr ⟨ab_iconst_ok dX7_gatherHere_22 (by decide), List.forall_mem_cons.mpr ⟨ab_iadd_ok dX7_gatherHere_23, List.forall_mem_cons.mpr ⟨ab_iconst_ok dX7_gatherHere_24 (by decide), List.forall_mem_cons.mpr ⟨ab_callV_ok' (G' := ab_g247) (C := RX7) (T := TX7) (N := 19) dX7_gatherHere_25 ab_m247 rfl rfl (by decide) (by decide) (ab_l4 ab_w1108 ab_w1109 ab_w1110 ab_w8) ab_w1111 rfl ⟨by decide, by decide, by decide +kernel⟩, List.forall_mem_cons.mpr ⟨ab_if_eq_ok dX7_gatherHere_28 (by decide), List.forall_mem_cons.mpr ⟨ab_aload_n_ok dX7_gatherHere_31 rfl, List.forall_mem_cons.mpr ⟨ab_bipush_ok dX7_gatherHere_32 (by decide), List.forall_mem_cons.mpr ⟨ab_callV_ok' (G' := ab_g197) (C := RX7) (T := TX7) (N := 19) dX7_gatherHere_34 ab_m197 rfl rfl (by decide) (by decide) (ab_l4 ab_w842 ab_w843 ab_w844 ab_w8) ab_w845 rfl ⟨by decide, by decide, by decide +kernel⟩, List.forall_mem_cons.mpr ⟨ab_if_eq_ok dX7_gatherHere_37 (by decide), List.forall_mem_cons.mpr ⟨ab_aload_n_ok dX7_gatherHere_40 rfl, List.forall_mem_cons.mpr ⟨ab_iload_n_ok dX7_gatherHere_41 rfl, List.forall_mem_cons.mpr ⟨ab_iconst_ok dX7_gatherHere_42 (by decide), List.forall_mem_cons.mpr ⟨ab_iadd_ok dX7_gatherHere_43, List.forall_mem_cons.mpr ⟨ab_iconst_ok dX7_gatherHere_44 (by decide), List.forall_mem_cons.mpr ⟨ab_callV_ok' (G' := ab_g247) (C := RX7) (T := TX7) (N := 19) dX7_gatherHere_45 ab_m247 rfl rfl (by decide) (by decide) (ab_l4 ab_w1108 ab_w1109 ab_w1110 ab_w8) ab_w1111 rfl ⟨by decide, by decide, by decide +kernel⟩, List.forall_mem_cons.mpr ⟨ab_if_ne_ok dX7_gatherHere_48 (by decide), List.forall_mem_cons.mpr ⟨ab_iconst_ok dX7_gatherHere_51 (by decide), List.forall_mem_cons.mpr ⟨ab_zret_ok dX7_gatherHere_52 rfl, List.forall_mem_cons.mpr ⟨ab_aload_n_ok dX7_gatherHere_53 rfl, List.forall_mem_cons.mpr ⟨ab_getf_ok (C := RX7) (T := TX7) (N := 19) (ci := 11) (k := 17) dX7_gatherHere_54 rfl ab_ic11 (by decide) ab_w358, List.forall_mem_cons.mpr ⟨ab_iload_n_ok dX7_gatherHere_57 rfl, List.forall_mem_cons.mpr ⟨ab_iconst_ok dX7_gatherHere_58 (by decide), List.forall_mem_cons.mpr ⟨ab_iadd_ok dX7_gatherHere_59, List.forall_mem_cons.mpr ⟨ab_aload_n_ok dX7_gatherHere_60 rfl, List.forall_mem_cons.mpr ⟨ab_bipush_ok dX7_gatherHere_61 (by decide), List.forall_mem_cons.mpr ⟨ab_callV_ok' (G' := ab_g197) (C := RX7) (T := TX7) (N := 19) dX7_gatherHere_63 ab_m197 rfl rfl (by decide) (by decide) (ab_l4 ab_w842 ab_w843 ab_w844 ab_w8) ab_w845 rfl ⟨by decide, by decide, by decide +kernel⟩, List.forall_mem_cons.mpr ⟨ab_if_eq_ok dX7_gatherHere_66 (by decide), fun _ h => absurd h List.not_mem_nil⟩⟩⟩⟩⟩⟩⟩⟩⟩⟩⟩⟩⟩⟩⟩⟩⟩⟩⟩⟩⟩⟩⟩⟩⟩⟩⟩⟩⟩⟩⟩⟩⟩⟩⟩⟩⟩⟩⟩⟩
theorem dX7_gatherHere_69 : decode cX7_gatherHere 69 = .ok (.iconst 1, 1) := by decide +kernel
theorem dX7_gatherHere_70 : decode cX7_gatherHere 70 = .ok (.goto 4, 3) := by decide +kernel
theorem dX7_gatherHere_73 : decode cX7_gatherHere 73 = .ok (.iconst 0, 1) := by decide +kernel
theorem dX7_gatherHere_74 : decode cX7_gatherHere 74 = .ok (.iastore, 1) := by decide +kernel
theorem dX7_gatherHere_75 : decode cX7_gatherHere 75 = .ok (.iconst 1, 1) := by decide +kernel
theorem dX7_gatherHere_76 : decode cX7_gatherHere 76 = .ok (.ireturn, 1) := by decide +kernel
theorem ab_k246_1 (K : ab_Kt) : ∀ q ∈ ab_l246_1, ab_OK K ab_mt ab_g246 q.1 q.2 := by
  unfold ab_l246_1
  exact List.forall_mem_cons.mpr ⟨ab_iconst_ok dX7_gatherHere_69 (by decide), List.forall_mem_cons.mpr ⟨ab_goto_ok dX7_gatherHere_70 (by decide), List.forall_mem_cons.mpr ⟨ab_iconst_ok dX7_gatherHere_73 (by decide), List.forall_mem_cons.mpr ⟨ab_ast0_ok dX7_gatherHere_74, List.forall_mem_cons.mpr ⟨ab_iconst_ok dX7_gatherHere_75 (by decide), List.forall_mem_cons.mpr ⟨ab_zret_ok dX7_gatherHere_76 rfl, fun _ h => absurd h List.not_mem_nil⟩⟩⟩⟩⟩⟩
theorem ab_k246 (K : ab_Kt) : ∀ pc, ab_OK K ab_mt ab_g246 pc (ab_c246 pc) := ab_lk2_ok _ (List.forall_mem_cons.mpr ⟨ab_k246_0 K, List.forall_mem_cons.mpr ⟨ab_k246_1 K, fun _ h => absurd h List.not_mem_nil⟩⟩)
theorem dX7_number_0 : decode cX7_number 0 = .ok (.aload_n 0, 1) := by decide +kernel
theorem dX7_number_1 : decode cX7_number 1 = .ok (.invokevirtual 180, 3) := by decide +kernel
theorem dX7_number_4 : decode cX7_number 4 = .ok (.bipush 48, 2) := by decide +kernel
theorem dX7_number_6 : decode cX7_number 6 = .ok (.bipush 57, 2) := by decide +kernel
theorem dX7_number_8 : decode cX7_number 8 = .ok (.invokestatic 59, 3) := by decide +kernel
theorem dX7_number_11 : decode cX7_number 11 = .ok (.ifCond .ne 5, 3) := by decide +kernel
theorem dX7_number_14 : decode cX7_number 14 = .ok (.iconst 0, 1) := by decide +kernel
theorem dX7_number_15 : decode cX7_number 15 = .ok (.ireturn, 1) := by decide +kernel
theorem dX7_number_16 : decode cX7_number 16 = .ok (.aload_n 0, 1) := by decide +kernel
theorem dX7_number_17 : decode cX7_number 17 = .ok (.getfield 33, 3) := by decide +kernel
theorem dX7_number_20 : decode cX7_number 20 = .ok (.iload_n 1, 1) := by decide +kernel
theorem dX7_number_21 : decode cX7_number 21 = .ok (.iconst 0, 1) := by decide +kernel
theorem dX7_number_22 : decode cX7_number 22 = .ok (.iastore, 1) := by decide +kernel
theorem dX7_number_23 : decode cX7_number 23 = .ok (.iconst 0, 1) := by decide +kernel
theorem dX7_number_24 : decode cX7_number 24 = .ok (.istore_n 3, 1) := by decide +kernel
theorem dX7_number_25 : decode cX7_number 25 = .ok (.iload_n 3, 1) := by decide +kernel
theorem dX7_number_26 : decode cX7_number 26 = .ok (.iload_n 2, 1) := by decide +kernel
theorem dX7_number_27 : decode cX7_number 27 = .ok (.if_icmp .ge 56, 3) := by decide +kernel
theorem dX7_number_30 : decode cX7_number 30 = .ok (.aload_n 0, 1) := by decide +kernel
theorem dX7_number_31 : decode cX7_number 31 = .ok (.invokevirtual 180, 3) := by decide +kernel
theorem dX7_number_34 : decode cX7_number 34 = .ok (.bipush 48, 2) := by decide +kernel
theorem dX7_number_36 : decode cX7_number 36 = .ok (.bipush 57, 2) := by decide +kernel
theorem dX7_number_38 : decode cX7_number 38 = .ok (.invokestatic 59, 3) := by decide +kernel
theorem dX7_number_41 : decode cX7_number 41 = .ok (.ifCond .eq 42, 3) := by decide +kernel
theorem dX7_number_44 : decode cX7_number 44 = .ok (.aload_n 0, 1) := by decide +kernel
theorem dX7_number_45 : decode cX7_number 45 = .ok (.getfield 33, 3) := by decide +kernel
theorem dX7_number_48 : decode cX7_number 48 = .ok (.iload_n 1, 1) := by decide +kernel
theorem dX7_number_49 : decode cX7_number 49 = .ok (.bipush 10, 2) := by decide +kernel
theorem dX7_number_51 : decode cX7_number 51 = .ok (.aload_n 0, 1) := by decide +kernel
theorem dX7_number_52 : decode cX7_number 52 = .ok (.getfield 33, 3) := by decide +kernel
theorem dX7_number_55 : decode cX7_number 55 = .ok (.iload_n 1, 1) := by decide +kernel
theorem dX7_number_56 : decode cX7_number 56 = .ok (.iaload, 1) := by decide +kernel
theorem dX7_number_57 : decode cX7_number 57 = .ok (.imul, 1) := by decide +kernel
theorem dX7_number_58 : decode cX7_number 58 = .ok (.aload_n 0, 1) := by decide +kernel
theorem dX7_number_59 : decode cX7_number 59 = .ok (.invokevirtual 180, 3) := by decide +kernel
theorem dX7_number_62 : decode cX7_number 62 = .ok (.iadd, 1) := by decide +kernel
theorem dX7_number_63 : decode cX7_number 63 = .ok (.bipush 48, 2) := by decide +kernel
theorem dX7_number_65 : decode cX7_number 65 = .ok (.isub, 1) := by decide +kernel
theorem dX7_number_66 : decode cX7_number 66 = .ok (.iastore, 1) := by decide +kernel
theorem dX7_number_67 : decode cX7_number 67 = .ok (.aload_n 0, 1) := by decide +kernel
theorem ab_k247_0 (K : ab_Kt) : ∀ q ∈ ab_l247_0, ab_OK K ab_mt ab_g247 q.1 q.2 := by
  unfold ab_l247_0
  exact List.forall_mem_cons.mpr ⟨ab_aload_n_ok dX7_number_0 rfl, List.forall_mem_cons.mpr ⟨ab_callV_ok' (G' := ab_g245) (C := RX7) (T := TX7) (N := 19) dX7_number_1 ab_m245 rfl rfl (by decide) (by decide) (ab_l4 ab_w1100 ab_w1101 ab_w1102 ab_w8) ab_w1103 rfl ⟨by decide, by decide, by decide +kernel⟩, List.forall_mem_cons.mpr ⟨ab_bipush_ok dX7_number_4 (by decide), List.forall_mem_cons.mpr ⟨ab_bipush_ok dX7_number_6 (by decide), List.forall_mem_cons.mpr ⟨ab_callS_ok' (G' := ab_g97) dX7_number_8 ab_m97 (by decide) (by decide) (ab_l3 ab_w387 ab_w388 ab_w8) ab_w389 rfl ⟨by decide, by decide, by decide +kernel⟩, List.forall_mem_cons.mpr ⟨ab_if_ne_ok dX7_number_11 (by decide), List.forall_mem_cons.mpr ⟨ab_iconst_ok dX7_number_14 (by decide), List.forall_mem_cons.mpr ⟨ab_zret_ok dX7_number_15 rfl, List.forall_mem_cons.mpr ⟨ab_aload_n_ok dX7_number_16 rfl, List.forall_mem_cons.mpr ⟨ab_getf_ok (C := RX7) (T := TX7) (N := 19) (ci := 11) (k := 17) dX7_number_17 rfl ab_ic11 (by decide) ab_w358, List.forall_mem_cons.mpr ⟨ab_iload_n_ok dX7_number_20 rfl, List.forall_mem_cons.mpr ⟨ab_iconst_ok dX7_number_21 (by decide), List.forall_mem_cons.mpr ⟨ab_ast0_ok dX7_number_22, List.forall_mem_cons.mpr ⟨ab_iconst_ok dX7_number_23 (by decide), List.forall_mem_cons.mpr ⟨ab_istore_n_ok dX7_number_24 rfl, List.forall_mem_cons.mpr ⟨ab_iload_n_ok dX7_number_25 rfl, List.forall_mem_cons.mpr ⟨ab_iload_n_ok dX7_number_26 rfl, List.forall_mem_cons.mpr ⟨ab_icmp_ge_ok dX7_number_27 (by decide), List.forall_mem_cons.mpr ⟨ab_aload_n_ok dX7_number_30 rfl, List.forall_mem_cons.mpr ⟨ab_callV_ok' (G' := ab_g245) (C := RX7) (T := TX7) (N := 19) dX7_number_31 ab_m245 rfl rfl (by decide) (by decide) (ab_l4 ab_w1100 ab_w1101 ab_w1102 ab_w8) ab_w1103 rfl ⟨by decide, by decide, by decide +kernel⟩, List.forall_mem_cons.mpr ⟨ab_bipush_ok dX7_number_34 (by decide), List.forall_mem_cons.mpr ⟨ab_bipush_ok dX7_number_36 (by decide), List.forall_mem_cons.mpr ⟨ab_callS_ok' (G' := ab_g97) dX7_number_38 ab_m97 (by decide) (by decide) (ab_l3 ab_w387 ab_w388 ab_w8) ab_w389 rfl ⟨by decide, by decide, by decide +kernel⟩, List.forall_mem_cons.mpr ⟨ab_if_eq_ok dX7_number_41 (by decide), List.forall_mem_cons.mpr ⟨ab_aload_n_ok dX7_number_44 rfl, List.forall_mem_cons.mpr ⟨ab_getf_ok (C := RX7) (T := TX7) (N := 19) (ci := 11) (k := 17) dX7_number_45 rfl ab_ic11 (by decide) ab_w358, List.forall_mem_cons.mpr ⟨ab_iload_n_ok dX7_number_48 rfl, List.forall_mem_cons.mpr ⟨ab_bipush_ok dX7_number_49 (by decide), List.forall_mem_cons.mpr ⟨ab_aload_n_ok dX7_number_51 rfl, List.forall_mem_cons.mpr ⟨ab_getf_ok (C := RX7) (T := TX7) (N := 19) (ci := 11) (k := 17) dX7_number_52 rfl ab_ic11 (by decide) ab_w358, List.forall_mem_cons.mpr ⟨ab_iload_n_ok dX7_number_55 rfl, List.forall_mem_cons.mpr ⟨ab_ald0_ok dX7_number_56, List.forall_mem_cons.mpr ⟨ab_imul_ok dX7_number_57, List.forall_mem_cons.mpr ⟨ab_aload_n_ok dX7_number_58 rfl, List.forall_mem_cons.mpr ⟨ab_callV_ok' (G' := ab_g245) (C := RX7) (T := TX7) (N := 19) dX7_number_59 ab_m245 rfl rfl (by decide) (by decide) (ab_l4 ab_w1100 ab_w1101 ab_w1102 ab_w8) ab_w1103 rfl ⟨by decide, by decide, by decide +kernel⟩, List.forall_mem_cons.mpr ⟨ab_iadd_ok dX7_number_62, List.forall_mem_cons.mpr ⟨ab_bipush_ok dX7_number_63 (by decide), List.forall_mem_cons.mpr ⟨ab_isub_ok dX7_number_65, List.forall_mem_cons.mpr ⟨ab_ast0_ok dX7_number_66, List.forall_mem_cons.mpr ⟨ab_aload_n_ok dX7_number_67 rfl, fun _ h => absurd h List.not_mem_nil⟩⟩⟩⟩⟩⟩⟩⟩⟩⟩⟩⟩⟩⟩⟩⟩⟩⟩⟩⟩⟩⟩⟩⟩⟩⟩⟩⟩⟩⟩⟩⟩⟩⟩⟩⟩⟩⟩⟩⟩
theorem dX7_number_68 : decode cX7_number 68 = .ok (.dup, 1) := by decide +kernel
theorem dX7_number_69 : decode cX7_number 69 = .ok (.getfield 177, 3) := by decide +kernel
theorem dX7_number_72 : decode cX7_number 72 = .ok (.iconst 1, 1) := by decide +kernel
theorem dX7_number_73 : decode cX7_number 73 = .ok (.iadd, 1) := by decide +kernel
theorem dX7_number_74 : decode cX7_number 74 = .ok (.putfield 177, 3) := by decide +kernel
theorem dX7_number_77 : decode cX7_number 77 = .ok (.iinc 3 1, 3) := by decide +kernel
theorem dX7_number_80 : decode cX7_number 80 = .ok (.goto (-55), 3) := by decide +kernel
theorem dX7_number_83 : decode cX7_number 83 = .ok (.iconst 1, 1) := by decide +kernel
theorem dX7_number_84 : decode cX7_number 84 = .ok (.ireturn, 1) := by decide +kernel
theorem ab_k247_1 (K : ab_Kt) : ∀ q ∈ ab_l247_1, ab_OK K ab_mt ab_g247 q.1 q.2 := by
  unfold ab_l247_1
  exact List.forall_mem_cons.mpr ⟨ab_dup_ok dX7_number_68, List.forall_mem_cons.mpr ⟨ab_getf_ok (C := RX7) (T := TX7) (N := 19) (ci := 11) (k := 16) dX7_number_69 rfl ab_ic11 (by decide) ab_w477, List.forall_mem_cons.mpr ⟨ab_iconst_ok dX7_number_72 (by decide), List.forall_mem_cons.mpr ⟨ab_iadd_ok dX7_number_73, List.forall_mem_cons.mpr ⟨ab_putf_ok (C := RX7) (T := TX7) (N := 19) (ci := 11) (k := 16) (ty0 := tyX7) dX7_number_74 rfl ab_ic11 tyX7_ok nmX7 (by decide) ab_w477 rfl (Or.inl rfl), List.forall_mem_cons.mpr ⟨ab_iinc_ok dX7_number_77 (by decide), List.forall_mem_cons.mpr ⟨ab_goto_ok dX7_number_80 (by decide), List.forall_mem_cons.mpr ⟨ab_iconst_ok dX7_number_83 (by decide), List.forall_mem_cons.mpr ⟨ab_zret_ok dX7_number_84 rfl, fun _ h => absurd h List.not_mem_nil⟩⟩⟩⟩⟩⟩⟩⟩⟩
theorem ab_k247 (K : ab_Kt) : ∀ pc, ab_OK K ab_mt ab_g247 pc (ab_c247 pc) := ab_lk2_ok _ (List.forall_mem_cons.mpr ⟨ab_k247_0 K, List.forall_mem_cons.mpr ⟨ab_k247_1 K, fun _ h => absurd h List.not_mem_nil⟩⟩)
theorem dX5_hasPress_0 : decode cX5_hasPress 0 = .ok (.iload_n 1, 1) := by decide +kernel
theorem dX5_hasPress_1 : decode cX5_hasPress 1 = .ok (.ifCond .lt 12, 3) := by decide +kernel
theorem dX5_hasPress_4 : decode cX5_hasPress 4 = .ok (.iload_n 1, 1) := by decide +kernel
theorem dX5_hasPress_5 : decode cX5_hasPress 5 = .ok (.iconst 2, 1) := by decide +kernel
theorem dX5_hasPress_6 : decode cX5_hasPress 6 = .ok (.if_icmp .ge 7, 3) := by decide +kernel
theorem dX5_hasPress_9 : decode cX5_hasPress 9 = .ok (.iconst 1, 1) := by decide +kernel
theorem dX5_hasPress_10 : decode cX5_hasPress 10 = .ok (.goto 4, 3) := by decide +kernel
theorem dX5_hasPress_13 : decode cX5_hasPress 13 = .ok (.iconst 0, 1) := by decide +kernel
theorem dX5_hasPress_14 : decode cX5_hasPress 14 = .ok (.ireturn, 1) := by decide +kernel
theorem ab_k248_0 (K : ab_Kt) : ∀ q ∈ ab_l248_0, ab_OK K ab_mt ab_g248 q.1 q.2 := by
  unfold ab_l248_0
  exact List.forall_mem_cons.mpr ⟨ab_iload_n_ok dX5_hasPress_0 rfl, List.forall_mem_cons.mpr ⟨ab_if_lt_ok dX5_hasPress_1 (by decide), List.forall_mem_cons.mpr ⟨ab_iload_n_ok dX5_hasPress_4 rfl, List.forall_mem_cons.mpr ⟨ab_iconst_ok dX5_hasPress_5 (by decide), List.forall_mem_cons.mpr ⟨ab_icmp_ge_ok dX5_hasPress_6 (by decide), List.forall_mem_cons.mpr ⟨ab_iconst_ok dX5_hasPress_9 (by decide), List.forall_mem_cons.mpr ⟨ab_goto_ok dX5_hasPress_10 (by decide), List.forall_mem_cons.mpr ⟨ab_iconst_ok dX5_hasPress_13 (by decide), List.forall_mem_cons.mpr ⟨ab_zret_ok dX5_hasPress_14 rfl, fun _ h => absurd h List.not_mem_nil⟩⟩⟩⟩⟩⟩⟩⟩⟩
theorem ab_k248 (K : ab_Kt) : ∀ pc, ab_OK K ab_mt ab_g248 pc (ab_c248 pc) := ab_lk2_ok _ (List.forall_mem_cons.mpr ⟨ab_k248_0 K, fun _ h => absurd h List.not_mem_nil⟩)
theorem dX1_hasPosition_0 : decode cX1_hasPosition 0 = .ok (.aload_n 0, 1) := by decide +kernel
theorem dX1_hasPosition_1 : decode cX1_hasPosition 1 = .ok (.iload_n 1, 1) := by decide +kernel
theorem dX1_hasPosition_2 : decode cX1_hasPosition 2 = .ok (.invokevirtual 64, 3) := by decide +kernel
theorem dX1_hasPosition_5 : decode cX1_hasPosition 5 = .ok (.iconst (-1), 1) := by decide +kernel
theorem dX1_hasPosition_6 : decode cX1_hasPosition 6 = .ok (.if_icmp .eq 7, 3) := by decide +kernel
theorem dX1_hasPosition_9 : decode cX1_hasPosition 9 = .ok (.iconst 1, 1) := by decide +kernel
theorem dX1_hasPosition_10 : decode cX1_hasPosition 10 = .ok (.goto 4, 3) := by decide +kernel
theorem dX1_hasPosition_13 : decode cX1_hasPosition 13 = .ok (.iconst 0, 1) := by decide +kernel
theorem dX1_hasPosition_14 : decode cX1_hasPosition 14 = .ok (.ireturn, 1) := by decide +kernel
theorem ab_k249_0 (K : ab_Kt) : ∀ q ∈ ab_l249_0, ab_OK K ab_mt ab_g249 q.1 q.2 := by
  unfold ab_l249_0
  exact List.forall_mem_cons.mpr ⟨ab_aload_n_ok dX1_hasPosition_0 rfl, List.forall_mem_cons.mpr ⟨ab_iload_n_ok dX1_hasPosition_1 rfl, List.forall_mem_cons.mpr ⟨ab_callV_ok' (G' := ab_g214) (C := RX1) (T := TX1) (N := 13) dX1_hasPosition_2 ab_m214 rfl rfl (by decide) (by decide) (ab_l4 ab_w1271 ab_w928 ab_w929 ab_w711) ab_w930 rfl ⟨by decide, by decide, by decide +kernel⟩, List.forall_mem_cons.mpr ⟨ab_iconst_ok dX1_hasPosition_5 (by decide), List.forall_mem_cons.mpr ⟨ab_icmp_eq_ok dX1_hasPosition_6 (by decide), List.forall_mem_cons.mpr ⟨ab_iconst_ok dX1_hasPosition_9 (by decide), List.forall_mem_cons.mpr ⟨ab_goto_ok dX1_hasPosition_10 (by decide), List.forall_mem_cons.mpr ⟨ab_iconst_ok dX1_hasPosition_13 (by decide), List.forall_mem_cons.mpr ⟨ab_zret_ok dX1_hasPosition_14 rfl, fun _ h => absurd h List.not_mem_nil⟩⟩⟩⟩⟩⟩⟩⟩⟩
theorem ab_k249 (K : ab_Kt) : ∀ pc, ab_OK K ab_mt ab_g249 pc (ab_c249 pc) := ab_lk2_ok _ (List.forall_mem_cons.mpr ⟨ab_k249_0 K, fun _ h => absurd h List.not_mem_nil⟩)
theorem dX1_threadOf_0 : decode cX1_threadOf 0 = .ok (.aload_n 0, 1) := by decide +kernel
theorem dX1_threadOf_1 : decode cX1_threadOf 1 = .ok (.getfield 36, 3) := by decide +kernel
theorem dX1_threadOf_4 : decode cX1_threadOf 4 = .ok (.iconst 2, 1) := by decide +kernel
theorem dX1_threadOf_5 : decode cX1_threadOf 5 = .ok (.aload_n 0, 1) := by decide +kernel
theorem dX1_threadOf_6 : decode cX1_threadOf 6 = .ok (.getfield 22, 3) := by decide +kernel
theorem dX1_threadOf_9 : decode cX1_threadOf 9 = .ok (.iload_n 1, 1) := by decide +kernel
theorem dX1_threadOf_10 : decode cX1_threadOf 10 = .ok (.iaload, 1) := by decide +kernel
theorem dX1_threadOf_11 : decode cX1_threadOf 11 = .ok (.iadd, 1) := by decide +kernel
theorem dX1_threadOf_12 : decode cX1_threadOf 12 = .ok (.imul, 1) := by decide +kernel
theorem dX1_threadOf_13 : decode cX1_threadOf 13 = .ok (.istore_n 2, 1) := by decide +kernel
theorem dX1_threadOf_14 : decode cX1_threadOf 14 = .ok (.iload_n 1, 1) := by decide +kernel
theorem dX1_threadOf_15 : decode cX1_threadOf 15 = .ok (.ifCond .ne 9, 3) := by decide +kernel
theorem dX1_threadOf_18 : decode cX1_threadOf 18 = .ok (.iload_n 2, 1) := by decide +kernel
theorem dX1_threadOf_19 : decode cX1_threadOf 19 = .ok (.iconst 5, 1) := by decide +kernel
theorem dX1_threadOf_20 : decode cX1_threadOf 20 = .ok (.iadd, 1) := by decide +kernel
theorem dX1_threadOf_21 : decode cX1_threadOf 21 = .ok (.goto 4, 3) := by decide +kernel
theorem dX1_threadOf_24 : decode cX1_threadOf 24 = .ok (.iload_n 2, 1) := by decide +kernel
theorem dX1_threadOf_25 : decode cX1_threadOf 25 = .ok (.ireturn, 1) := by decide +kernel
theorem ab_k250_0 (K : ab_Kt) : ∀ q ∈ ab_l250_0, ab_OK K ab_mt ab_g250 q.1 q.2 := by
  unfold ab_l250_0
  exact List.forall_mem_cons.mpr ⟨ab_aload_n_ok dX1_threadOf_0 rfl, List.forall_mem_cons.mpr ⟨ab_getf_ok (C := RX1) (T := TX1) (N := 13) (ci := 5) (k := 1) dX1_threadOf_1 rfl ab_ic5 (by decide) ab_w1010, List.forall_mem_cons.mpr ⟨ab_iconst_ok dX1_threadOf_4 (by decide), List.forall_mem_cons.mpr ⟨ab_aload_n_ok dX1_threadOf_5 rfl, List.forall_mem_cons.mpr ⟨ab_getf_ok (C := RX1) (T := TX1) (N := 13) (ci := 5) (k := 10) dX1_threadOf_6 rfl ab_ic5 (by decide) ab_w997, List.forall_mem_cons.mpr ⟨ab_iload_n_ok dX1_threadOf_9 rfl, List.forall_mem_cons.mpr ⟨ab_ald0_ok dX1_threadOf_10, List.forall_mem_cons.mpr ⟨ab_iadd_ok dX1_threadOf_11, List.forall_mem_cons.mpr ⟨ab_imul_ok dX1_threadOf_12, List.forall_mem_cons.mpr ⟨ab_istore_n_ok dX1_threadOf_13 rfl, List.forall_mem_cons.mpr ⟨ab_iload_n_ok dX1_threadOf_14 rfl, List.forall_mem_cons.mpr ⟨ab_if_ne_ok dX1_threadOf_15 (by decide), List.forall_mem_cons.mpr ⟨ab_iload_n_ok dX1_threadOf_18 rfl, List.forall_mem_cons.mpr ⟨ab_iconst_ok dX1_threadOf_19 (by decide), List.forall_mem_cons.mpr ⟨ab_iadd_ok dX1_threadOf_20, List.forall_mem_cons.mpr ⟨ab_goto_ok dX1_threadOf_21 (by decide), List.forall_mem_cons.mpr ⟨ab_iload_n_ok dX1_threadOf_24 rfl, List.forall_mem_cons.mpr ⟨ab_iret_ok dX1_threadOf_25 rfl, fun _ h => absurd h List.not_mem_nil⟩⟩⟩⟩⟩⟩⟩⟩⟩⟩⟩⟩⟩⟩⟩⟩⟩⟩
theorem ab_k250 (K : ab_Kt) : ∀ pc, ab_OK K ab_mt ab_g250 pc (ab_c250 pc) := ab_lk2_ok _ (List.forall_mem_cons.mpr ⟨ab_k250_0 K, fun _ h => absurd h List.not_mem_nil⟩)
theorem dX1_hasPlace_0 : decode cX1_hasPlace 0 = .ok (.iload_n 1, 1) := by decide +kernel
theorem dX1_hasPlace_1 : decode cX1_hasPlace 1 = .ok (.ifCond .lt 15, 3) := by decide +kernel
theorem dX1_hasPlace_4 : decode cX1_hasPlace 4 = .ok (.iload_n 1, 1) := by decide +kernel
theorem dX1_hasPlace_5 : decode cX1_hasPlace 5 = .ok (.aload_n 0, 1) := by decide +kernel
theorem dX1_hasPlace_6 : decode cX1_hasPlace 6 = .ok (.getfield 42, 3) := by decide +kernel
theorem dX1_hasPlace_9 : decode cX1_hasPlace 9 = .ok (.if_icmp .ge 7, 3) := by decide +kernel
theorem dX1_hasPlace_12 : decode cX1_hasPlace 12 = .ok (.iconst 1, 1) := by decide +kernel
theorem dX1_hasPlace_13 : decode cX1_hasPlace 13 = .ok (.goto 4, 3) := by decide +kernel
theorem dX1_hasPlace_16 : decode cX1_hasPlace 16 = .ok (.iconst 0, 1) := by decide +kernel
theorem dX1_hasPlace_17 : decode cX1_hasPlace 17 = .ok (.ireturn, 1) := by decide +kernel
theorem ab_k251_0 (K : ab_Kt) : ∀ q ∈ ab_l251_0, ab_OK K ab_mt ab_g251 q.1 q.2 := by
  unfold ab_l251_0
  exact List.forall_mem_cons.mpr ⟨ab_iload_n_ok dX1_hasPlace_0 rfl, List.forall_mem_cons.mpr ⟨ab_if_lt_ok dX1_hasPlace_1 (by decide), List.forall_mem_cons.mpr ⟨ab_iload_n_ok dX1_hasPlace_4 rfl, List.forall_mem_cons.mpr ⟨ab_aload_n_ok dX1_hasPlace_5 rfl, List.forall_mem_cons.mpr ⟨ab_getf_ok (C := RX1) (T := TX1) (N := 13) (ci := 5) (k := 3) dX1_hasPlace_6 rfl ab_ic5 (by decide) ab_w1012, List.forall_mem_cons.mpr ⟨ab_icmp_ge_ok dX1_hasPlace_9 (by decide), List.forall_mem_cons.mpr ⟨ab_iconst_ok dX1_hasPlace_12 (by decide), List.forall_mem_cons.mpr ⟨ab_goto_ok dX1_hasPlace_13 (by decide), List.forall_mem_cons.mpr ⟨ab_iconst_ok dX1_hasPlace_16 (by decide), List.forall_mem_cons.mpr ⟨ab_zret_ok dX1_hasPlace_17 rfl, fun _ h => absurd h List.not_mem_nil⟩⟩⟩⟩⟩⟩⟩⟩⟩⟩
theorem ab_k251 (K : ab_Kt) : ∀ pc, ab_OK K ab_mt ab_g251 pc (ab_c251 pc) := ab_lk2_ok _ (List.forall_mem_cons.mpr ⟨ab_k251_0 K, fun _ h => absurd h List.not_mem_nil⟩)
theorem dX1_countSignaturesWith_0 : decode cX1_countSignaturesWith 0 = .ok (.iconst 0, 1) := by decide +kernel
theorem dX1_countSignaturesWith_1 : decode cX1_countSignaturesWith 1 = .ok (.istore_n 2, 1) := by decide +kernel
theorem dX1_countSignaturesWith_2 : decode cX1_countSignaturesWith 2 = .ok (.iconst 0, 1) := by decide +kernel
theorem dX1_countSignaturesWith_3 : decode cX1_countSignaturesWith 3 = .ok (.istore_n 3, 1) := by decide +kernel
theorem dX1_countSignaturesWith_4 : decode cX1_countSignaturesWith 4 = .ok (.iload_n 3, 1) := by decide +kernel
theorem dX1_countSignaturesWith_5 : decode cX1_countSignaturesWith 5 = .ok (.aload_n 0, 1) := by decide +kernel
theorem dX1_countSignaturesWith_6 : decode cX1_countSignaturesWith 6 = .ok (.getfield 42, 3) := by decide +kernel
theorem dX1_countSignaturesWith_9 : decode cX1_countSignaturesWith 9 = .ok (.if_icmp .ge 32, 3) := by decide +kernel
theorem dX1_countSignaturesWith_12 : decode cX1_countSignaturesWith 12 = .ok (.iload_n 1, 1) := by decide +kernel
theorem dX1_countSignaturesWith_13 : decode cX1_countSignaturesWith 13 = .ok (.aload_n 0, 1) := by decide +kernel
theorem dX1_countSignaturesWith_14 : decode cX1_countSignaturesWith 14 = .ok (.getfield 15, 3) := by decide +kernel
theorem dX1_countSignaturesWith_17 : decode cX1_countSignaturesWith 17 = .ok (.iload_n 3, 1) := by decide +kernel
theorem dX1_countSignaturesWith_18 : decode cX1_countSignaturesWith 18 = .ok (.iaload, 1) := by decide +kernel
theorem dX1_countSignaturesWith_19 : decode cX1_countSignaturesWith 19 = .ok (.if_icmp .lt 16, 3) := by decide +kernel
theorem dX1_countSignaturesWith_22 : decode cX1_countSignaturesWith 22 = .ok (.iload_n 1, 1) := by decide +kernel
theorem dX1_countSignaturesWith_23 : decode cX1_countSignaturesWith 23 = .ok (.aload_n 0, 1) := by decide +kernel
theorem dX1_countSignaturesWith_24 : decode cX1_countSignaturesWith 24 = .ok (.getfield 19, 3) := by decide +kernel
theorem dX1_countSignaturesWith_27 : decode cX1_countSignaturesWith 27 = .ok (.iload_n 3, 1) := by decide +kernel
theorem dX1_countSignaturesWith_28 : decode cX1_countSignaturesWith 28 = .ok (.iaload, 1) := by decide +kernel
theorem dX1_countSignaturesWith_29 : decode cX1_countSignaturesWith 29 = .ok (.if_icmp .gt 6, 3) := by decide +kernel
theorem dX1_countSignaturesWith_32 : decode cX1_countSignaturesWith 32 = .ok (.iinc 2 1, 3) := by decide +kernel
theorem dX1_countSignaturesWith_35 : decode cX1_countSignaturesWith 35 = .ok (.iinc 3 1, 3) := by decide +kernel
theorem dX1_countSignaturesWith_38 : decode cX1_countSignaturesWith 38 = .ok (.goto (-34), 3) := by decide +kernel
theorem dX1_countSignaturesWith_41 : decode cX1_countSignaturesWith 41 = .ok (.iload_n 2, 1) := by decide +kernel
theorem dX1_countSignaturesWith_42 : decode cX1_countSignaturesWith 42 = .ok (.ireturn, 1) := by decide +kernel
theorem ab_k252_0 (K : ab_Kt) : ∀ q ∈ ab_l252_0, ab_OK K ab_mt ab_g252 q.1 q.2 := by
  unfold ab_l252_0
  exact List.forall_mem_cons.mpr ⟨ab_iconst_ok dX1_countSignaturesWith_0 (by decide), List.forall_mem_cons.mpr ⟨ab_istore_n_ok dX1_countSignaturesWith_1 rfl, List.forall_mem_cons.mpr ⟨ab_iconst_ok dX1_countSignaturesWith_2 (by decide), List.forall_mem_cons.mpr ⟨ab_istore_n_ok dX1_countSignaturesWith_3 rfl, List.forall_mem_cons.mpr ⟨ab_iload_n_ok dX1_countSignaturesWith_4 rfl, List.forall_mem_cons.mpr ⟨ab_aload_n_ok dX1_countSignaturesWith_5 rfl, List.forall_mem_cons.mpr ⟨ab_getf_ok (C := RX1) (T := TX1) (N := 13) (ci := 5) (k := 3) dX1_countSignaturesWith_6 rfl ab_ic5 (by decide) ab_w1012, List.forall_mem_cons.mpr ⟨ab_icmp_ge_ok dX1_countSignaturesWith_9 (by decide), List.forall_mem_cons.mpr ⟨ab_iload_n_ok dX1_countSignaturesWith_12 rfl, List.forall_mem_cons.mpr ⟨ab_aload_n_ok dX1_countSignaturesWith_13 rfl, List.forall_mem_cons.mpr ⟨ab_getf_ok (C := RX1) (T := TX1) (N := 13) (ci := 5) (k := 8) dX1_countSignaturesWith_14 rfl ab_ic5 (by decide) ab_w995, List.forall_mem_cons.mpr ⟨ab_iload_n_ok dX1_countSignaturesWith_17 rfl, List.forall_mem_cons.mpr ⟨ab_ald0_ok dX1_countSignaturesWith_18, List.forall_mem_cons.mpr ⟨ab_icmp_lt_ok dX1_countSignaturesWith_19 (by decide), List.forall_mem_cons.mpr ⟨ab_iload_n_ok dX1_countSignaturesWith_22 rfl, List.forall_mem_cons.mpr ⟨ab_aload_n_ok dX1_countSignaturesWith_23 rfl, List.forall_mem_cons.mpr ⟨ab_getf_ok (C := RX1) (T := TX1) (N := 13) (ci := 5) (k := 9) dX1_countSignaturesWith_24 rfl ab_ic5 (by decide) ab_w996, List.forall_mem_cons.mpr ⟨ab_iload_n_ok dX1_countSignaturesWith_27 rfl, List.forall_mem_cons.mpr ⟨ab_ald0_ok dX1_countSignaturesWith_28, List.forall_mem_cons.mpr ⟨ab_icmp_gt_ok dX1_countSignaturesWith_29 (by decide), List.forall_mem_cons.mpr ⟨ab_iinc_ok dX1_countSignaturesWith_32 (by decide), List.forall_mem_cons.mpr ⟨ab_iinc_ok dX1_countSignaturesWith_35 (by decide), List.forall_mem_cons.mpr ⟨ab_goto_ok dX1_countSignaturesWith_38 (by decide), List.forall_mem_cons.mpr ⟨ab_iload_n_ok dX1_countSignaturesWith_41 rfl, List.forall_mem_cons.mpr ⟨ab_iret_ok dX1_countSignaturesWith_42 rfl, fun _ h => absurd h List.not_mem_nil⟩⟩⟩⟩⟩⟩⟩⟩⟩⟩⟩⟩⟩⟩⟩⟩⟩⟩⟩⟩⟩⟩⟩⟩⟩
theorem ab_k252 (K : ab_Kt) : ∀ pc, ab_OK K ab_mt ab_g252 pc (ab_c252 pc) := ab_lk2_ok _ (List.forall_mem_cons.mpr ⟨ab_k252_0 K, fun _ h => absurd h List.not_mem_nil⟩)
theorem dX1_countRightTurned_0 : decode cX1_countRightTurned 0 = .ok (.aload_n 0, 1) := by decide +kernel
theorem dX1_countRightTurned_1 : decode cX1_countRightTurned 1 = .ok (.getfield 19, 3) := by decide +kernel
theorem dX1_countRightTurned_4 : decode cX1_countRightTurned 4 = .ok (.iload_n 1, 1) := by decide +kernel
theorem dX1_countRightTurned_5 : decode cX1_countRightTurned 5 = .ok (.iaload, 1) := by decide +kernel
theorem dX1_countRightTurned_6 : decode cX1_countRightTurned 6 = .ok (.iload_n 2, 1) := by decide +kernel
theorem dX1_countRightTurned_7 : decode cX1_countRightTurned 7 = .ok (.iconst 1, 1) := by decide +kernel
theorem dX1_countRightTurned_8 : decode cX1_countRightTurned 8 = .ok (.iadd, 1) := by decide +kernel
theorem dX1_countRightTurned_9 : decode cX1_countRightTurned 9 = .ok (.isub, 1) := by decide +kernel
theorem dX1_countRightTurned_10 : decode cX1_countRightTurned 10 = .ok (.istore_n 3, 1) := by decide +kernel
theorem dX1_countRightTurned_11 : decode cX1_countRightTurned 11 = .ok (.iload_n 3, 1) := by decide +kernel
theorem dX1_countRightTurned_12 : decode cX1_countRightTurned 12 = .ok (.ifCond .lt 9, 3) := by decide +kernel
theorem dX1_countRightTurned_15 : decode cX1_countRightTurned 15 = .ok (.iload_n 3, 1) := by decide +kernel
theorem dX1_countRightTurned_16 : decode cX1_countRightTurned 16 = .ok (.iconst 2, 1) := by decide +kernel
theorem dX1_countRightTurned_17 : decode cX1_countRightTurned 17 = .ok (.irem, 1) := by decide +kernel
theorem dX1_countRightTurned_18 : decode cX1_countRightTurned 18 = .ok (.ifCond .eq 5, 3) := by decide +kernel
theorem dX1_countRightTurned_21 : decode cX1_countRightTurned 21 = .ok (.iconst 0, 1) := by decide +kernel
theorem dX1_countRightTurned_22 : decode cX1_countRightTurned 22 = .ok (.ireturn, 1) := by decide +kernel
theorem dX1_countRightTurned_23 : decode cX1_countRightTurned 23 = .ok (.iload_n 3, 1) := by decide +kernel
theorem dX1_countRightTurned_24 : decode cX1_countRightTurned 24 = .ok (.iconst 2, 1) := by decide +kernel
theorem dX1_countRightTurned_25 : decode cX1_countRightTurned 25 = .ok (.idiv, 1) := by decide +kernel
theorem dX1_countRightTurned_26 : decode cX1_countRightTurned 26 = .ok (.istore 4, 2) := by decide +kernel
theorem dX1_countRightTurned_28 : decode cX1_countRightTurned 28 = .ok (.iload 4, 2) := by decide +kernel
theorem dX1_countRightTurned_30 : decode cX1_countRightTurned 30 = .ok (.aload_n 0, 1) := by decide +kernel
theorem dX1_countRightTurned_31 : decode cX1_countRightTurned 31 = .ok (.iload_n 1, 1) := by decide +kernel
theorem dX1_countRightTurned_32 : decode cX1_countRightTurned 32 = .ok (.invokevirtual 68, 3) := by decide +kernel
theorem dX1_countRightTurned_35 : decode cX1_countRightTurned 35 = .ok (.if_icmp .ge 23, 3) := by decide +kernel
theorem dX1_countRightTurned_38 : decode cX1_countRightTurned 38 = .ok (.aload_n 0, 1) := by decide +kernel
theorem dX1_countRightTurned_39 : decode cX1_countRightTurned 39 = .ok (.getfield 19, 3) := by decide +kernel
theorem dX1_countRightTurned_42 : decode cX1_countRightTurned 42 = .ok (.iload_n 1, 1) := by decide +kernel
theorem dX1_countRightTurned_43 : decode cX1_countRightTurned 43 = .ok (.iaload, 1) := by decide +kernel
theorem dX1_countRightTurned_44 : decode cX1_countRightTurned 44 = .ok (.iload 4, 2) := by decide +kernel
theorem dX1_countRightTurned_46 : decode cX1_countRightTurned 46 = .ok (.isub, 1) := by decide +kernel
theorem dX1_countRightTurned_47 : decode cX1_countRightTurned 47 = .ok (.aload_n 0, 1) := by decide +kernel
theorem dX1_countRightTurned_48 : decode cX1_countRightTurned 48 = .ok (.getfield 33, 3) := by decide +kernel
theorem dX1_countRightTurned_51 : decode cX1_countRightTurned 51 = .ok (.if_icmp .gt 7, 3) := by decide +kernel
theorem dX1_countRightTurned_54 : decode cX1_countRightTurned 54 = .ok (.iconst 1, 1) := by decide +kernel
theorem dX1_countRightTurned_55 : decode cX1_countRightTurned 55 = .ok (.goto 4, 3) := by decide +kernel
theorem dX1_countRightTurned_58 : decode cX1_countRightTurned 58 = .ok (.iconst 0, 1) := by decide +kernel
theorem dX1_countRightTurned_59 : decode cX1_countRightTurned 59 = .ok (.ireturn, 1) := by decide +kernel
theorem ab_k253_0 (K : ab_Kt) : ∀ q ∈ ab_l253_0, ab_OK K ab_mt ab_g253 q.1 q.2 := by
  unfold ab_l253_0
  exact List.forall_mem_cons.mpr ⟨ab_aload_n_ok dX1_countRightTurned_0 rfl, List.forall_mem_cons.mpr ⟨ab_getf_ok (C := RX1) (T := TX1) (N := 13) (ci := 5) (k := 9) dX1_countRightTurned_1 rfl ab_ic5 (by decide) ab_w996, List.forall_mem_cons.mpr ⟨ab_iload_n_ok dX1_countRightTurned_4 rfl, List.forall_mem_cons.mpr ⟨ab_ald0_ok dX1_countRightTurned_5, List.forall_mem_cons.mpr ⟨ab_iload_n_ok dX1_countRightTurned_6 rfl, List.forall_mem_cons.mpr ⟨ab_iconst_ok dX1_countRightTurned_7 (by decide), List.forall_mem_cons.mpr ⟨ab_iadd_ok dX1_countRightTurned_8, List.forall_mem_cons.mpr ⟨ab_isub_ok dX1_countRightTurned_9, List.forall_mem_cons.mpr ⟨ab_istore_n_ok dX1_countRightTurned_10 rfl, List.forall_mem_cons.mpr ⟨ab_iload_n_ok dX1_countRightTurned_11 rfl, List.forall_mem_cons.mpr ⟨ab_if_lt_ok dX1_countRightTurned_12 (by decide), List.forall_mem_cons.mpr ⟨ab_iload_n_ok dX1_countRightTurned_15 rfl, List.forall_mem_cons.mpr ⟨ab_iconst_ok dX1_countRightTurned_16 (by decide), List.forall_mem_cons.mpr ⟨ab_irem_ok dX1_countRightTurned_17, List.forall_mem_cons.mpr ⟨ab_if_eq_ok dX1_countRightTurned_18 (by decide), List.forall_mem_cons.mpr ⟨ab_iconst_ok dX1_countRightTurned_21 (by decide), List.forall_mem_cons.mpr ⟨ab_iret_ok dX1_countRightTurned_22 rfl, List.forall_mem_cons.mpr ⟨ab_iload_n_ok dX1_countRightTurned_23 rfl, List.forall_mem_cons.mpr ⟨ab_iconst_ok dX1_countRightTurned_24 (by decide), List.forall_mem_cons.mpr ⟨ab_idiv_ok dX1_countRightTurned_25, List.forall_mem_cons.mpr ⟨ab_istore_ok dX1_countRightTurned_26, List.forall_mem_cons.mpr ⟨ab_iload_ok dX1_countRightTurned_28, List.forall_mem_cons.mpr ⟨ab_aload_n_ok dX1_countRightTurned_30 rfl, List.forall_mem_cons.mpr ⟨ab_iload_n_ok dX1_countRightTurned_31 rfl, List.forall_mem_cons.mpr ⟨ab_callV_ok' (G' := ab_g231) (C := RX1) (T := TX1) (N := 13) dX1_countRightTurned_32 ab_m231 rfl rfl (by decide) (by decide) (ab_l4 ab_w1035 ab_w1036 ab_w1037 ab_w711) ab_w1038 rfl ⟨by decide, by decide, by decide +kernel⟩, List.forall_mem_cons.mpr ⟨ab_icmp_ge_ok dX1_countRightTurned_35 (by decide), List.forall_mem_cons.mpr ⟨ab_aload_n_ok dX1_countRightTurned_38 rfl, List.forall_mem_cons.mpr ⟨ab_getf_ok (C := RX1) (T := TX1) (N := 13) (ci := 5) (k := 9) dX1_countRightTurned_39 rfl ab_ic5 (by decide) ab_w996, List.forall_mem_cons.mpr ⟨ab_iload_n_ok dX1_countRightTurned_42 rfl, List.forall_mem_cons.mpr ⟨ab_ald0_ok dX1_countRightTurned_43, List.forall_mem_cons.mpr ⟨ab_iload_ok dX1_countRightTurned_44, List.forall_mem_cons.mpr ⟨ab_isub_ok dX1_countRightTurned_46, List.forall_mem_cons.mpr ⟨ab_aload_n_ok dX1_countRightTurned_47 rfl, List.forall_mem_cons.mpr ⟨ab_getf_ok (C := RX1) (T := TX1) (N := 13) (ci := 5) (k := 0) dX1_countRightTurned_48 rfl ab_ic5 (by decide) ab_w1009, List.forall_mem_cons.mpr ⟨ab_icmp_gt_ok dX1_countRightTurned_51 (by decide), List.forall_mem_cons.mpr ⟨ab_iconst_ok dX1_countRightTurned_54 (by decide), List.forall_mem_cons.mpr ⟨ab_goto_ok dX1_countRightTurned_55 (by decide), List.forall_mem_cons.mpr ⟨ab_iconst_ok dX1_countRightTurned_58 (by decide), List.forall_mem_cons.mpr ⟨ab_iret_ok dX1_countRightTurned_59 rfl, fun _ h => absurd h List.not_mem_nil⟩⟩⟩⟩⟩⟩⟩⟩⟩⟩⟩⟩⟩⟩⟩⟩⟩⟩⟩⟩⟩⟩⟩⟩⟩⟩⟩⟩⟩⟩⟩⟩⟩⟩⟩⟩⟩⟩⟩
theorem ab_k253 (K : ab_Kt) : ∀ pc, ab_OK K ab_mt ab_g253 pc (ab_c253 pc) := ab_lk2_ok _ (List.forall_mem_cons.mpr ⟨ab_k253_0 K, fun _ h => absurd h List.not_mem_nil⟩)
theorem dX1_countRightUnturned_0 : decode cX1_countRightUnturned 0 = .ok (.aload_n 0, 1) := by decide +kernel
theorem dX1_countRightUnturned_1 : decode cX1_countRightUnturned 1 = .ok (.getfield 15, 3) := by decide +kernel
theorem dX1_countRightUnturned_4 : decode cX1_countRightUnturned 4 = .ok (.iload_n 1, 1) := by decide +kernel
theorem dX1_countRightUnturned_5 : decode cX1_countRightUnturned 5 = .ok (.iaload, 1) := by decide +kernel
theorem dX1_countRightUnturned_6 : decode cX1_countRightUnturned 6 = .ok (.iload_n 2, 1) := by decide +kernel
theorem dX1_countRightUnturned_7 : decode cX1_countRightUnturned 7 = .ok (.iconst 1, 1) := by decide +kernel
theorem dX1_countRightUnturned_8 : decode cX1_countRightUnturned 8 = .ok (.iadd, 1) := by decide +kernel
theorem dX1_countRightUnturned_9 : decode cX1_countRightUnturned 9 = .ok (.if_icmp .eq 5, 3) := by decide +kernel
theorem dX1_countRightUnturned_12 : decode cX1_countRightUnturned 12 = .ok (.iconst 0, 1) := by decide +kernel
theorem dX1_countRightUnturned_13 : decode cX1_countRightUnturned 13 = .ok (.ireturn, 1) := by decide +kernel
theorem dX1_countRightUnturned_14 : decode cX1_countRightUnturned 14 = .ok (.iconst 0, 1) := by decide +kernel
theorem dX1_countRightUnturned_15 : decode cX1_countRightUnturned 15 = .ok (.aload_n 0, 1) := by decide +kernel
theorem dX1_countRightUnturned_16 : decode cX1_countRightUnturned 16 = .ok (.iload_n 1, 1) := by decide +kernel
theorem dX1_countRightUnturned_17 : decode cX1_countRightUnturned 17 = .ok (.invokevirtual 68, 3) := by decide +kernel
theorem dX1_countRightUnturned_20 : decode cX1_countRightUnturned 20 = .ok (.aload_n 0, 1) := by decide +kernel
theorem dX1_countRightUnturned_21 : decode cX1_countRightUnturned 21 = .ok (.getfield 33, 3) := by decide +kernel
theorem dX1_countRightUnturned_24 : decode cX1_countRightUnturned 24 = .ok (.iload_n 2, 1) := by decide +kernel
theorem dX1_countRightUnturned_25 : decode cX1_countRightUnturned 25 = .ok (.isub, 1) := by decide +kernel
theorem dX1_countRightUnturned_26 : decode cX1_countRightUnturned 26 = .ok (.invokestatic 88, 3) := by decide +kernel
theorem dX1_countRightUnturned_29 : decode cX1_countRightUnturned 29 = .ok (.invokestatic 93, 3) := by decide +kernel
theorem dX1_countRightUnturned_32 : decode cX1_countRightUnturned 32 = .ok (.ireturn, 1) := by decide +kernel
theorem ab_k254_0 (K : ab_Kt) : ∀ q ∈ ab_l254_0, ab_OK K ab_mt ab_g254 q.1 q.2 := by
  unfold ab_l254_0
  exact List.forall_mem_cons.mpr ⟨ab_aload_n_ok dX1_countRightUnturned_0 rfl, List.forall_mem_cons.mpr ⟨ab_getf_ok (C := RX1) (T := TX1) (N := 13) (ci := 5) (k := 8) dX1_countRightUnturned_1 rfl ab_ic5 (by decide) ab_w995, List.forall_mem_cons.mpr ⟨ab_iload_n_ok dX1_countRightUnturned_4 rfl, List.forall_mem_cons.mpr ⟨ab_ald0_ok dX1_countRightUnturned_5, List.forall_mem_cons.mpr ⟨ab_iload_n_ok dX1_countRightUnturned_6 rfl, List.forall_mem_cons.mpr ⟨ab_iconst_ok dX1_countRightUnturned_7 (by decide), List.forall_mem_cons.mpr ⟨ab_iadd_ok dX1_countRightUnturned_8, List.forall_mem_cons.mpr ⟨ab_icmp_eq_ok dX1_countRightUnturned_9 (by decide), List.forall_mem_cons.mpr ⟨ab_iconst_ok dX1_countRightUnturned_12 (by decide), List.forall_mem_cons.mpr ⟨ab_iret_ok dX1_countRightUnturned_13 rfl, List.forall_mem_cons.mpr ⟨ab_iconst_ok dX1_countRightUnturned_14 (by decide), List.forall_mem_cons.mpr ⟨ab_aload_n_ok dX1_countRightUnturned_15 rfl, List.forall_mem_cons.mpr ⟨ab_iload_n_ok dX1_countRightUnturned_16 rfl, List.forall_mem_cons.mpr ⟨ab_callV_ok' (G' := ab_g231) (C := RX1) (T := TX1) (N := 13) dX1_countRightUnturned_17 ab_m231 rfl rfl (by decide) (by decide) (ab_l4 ab_w1035 ab_w1036 ab_w1037 ab_w711) ab_w1038 rfl ⟨by decide, by decide, by decide +kernel⟩, List.forall_mem_cons.mpr ⟨ab_aload_n_ok dX1_countRightUnturned_20 rfl, List.forall_mem_cons.mpr ⟨ab_getf_ok (C := RX1) (T := TX1) (N := 13) (ci := 5) (k := 0) dX1_countRightUnturned_21 rfl ab_ic5 (by decide) ab_w1009, List.forall_mem_cons.mpr ⟨ab_iload_n_ok dX1_countRightUnturned_24 rfl, List.forall_mem_cons.mpr ⟨ab_isub_ok dX1_countRightUnturned_25, List.forall_mem_cons.mpr ⟨ab_mmin_ok dX1_countRightUnturned_26 (ab_l4 ab_w1272 ab_w1192 ab_w881 ab_w1193), List.forall_mem_cons.mpr ⟨ab_mmax_ok dX1_countRightUnturned_29 (ab_l4 ab_w1273 ab_w880 ab_w881 ab_w882), List.forall_mem_cons.mpr ⟨ab_iret_ok dX1_countRightUnturned_32 rfl, fun _ h => absurd h List.not_mem_nil⟩⟩⟩⟩⟩⟩⟩⟩⟩⟩⟩⟩⟩⟩⟩⟩⟩⟩⟩⟩⟩
theorem ab_k254 (K : ab_Kt) : ∀ pc, ab_OK K ab_mt ab_g254 pc (ab_c254 pc) := ab_lk2_ok _ (List.forall_mem_cons.mpr ⟨ab_k254_0 K, fun _ h => absurd h List.not_mem_nil⟩)
theorem dX0_isWithin_0 : decode cX0_isWithin 0 = .ok (.iload_n 0, 1) := by decide +kernel
theorem dX0_isWithin_1 : decode cX0_isWithin 1 = .ok (.iload_n 1, 1) := by decide +kernel
theorem dX0_isWithin_2 : decode cX0_isWithin 2 = .ok (.if_icmp .lt 12, 3) := by decide +kernel
theorem dX0_isWithin_5 : decode cX0_isWithin 5 = .ok (.iload_n 0, 1) := by decide +kernel
theorem dX0_isWithin_6 : decode cX0_isWithin 6 = .ok (.iload_n 2, 1) := by decide +kernel
theorem dX0_isWithin_7 : decode cX0_isWithin 7 = .ok (.if_icmp .gt 7, 3) := by decide +kernel
theorem dX0_isWithin_10 : decode cX0_isWithin 10 = .ok (.iconst 1, 1) := by decide +kernel
theorem dX0_isWithin_11 : decode cX0_isWithin 11 = .ok (.goto 4, 3) := by decide +kernel
theorem dX0_isWithin_14 : decode cX0_isWithin 14 = .ok (.iconst 0, 1) := by decide +kernel
theorem dX0_isWithin_15 : decode cX0_isWithin 15 = .ok (.ireturn, 1) := by decide +kernel
theorem ab_k255_0 (K : ab_Kt) : ∀ q ∈ ab_l255_0, ab_OK K ab_mt ab_g255 q.1 q.2 := by
  unfold ab_l255_0
  exact List.forall_mem_cons.mpr ⟨ab_iload_n_ok dX0_isWithin_0 rfl, List.forall_mem_cons.mpr ⟨ab_iload_n_ok dX0_isWithin_1 rfl, List.forall_mem_cons.mpr ⟨ab_icmp_lt_ok dX0_isWithin_2 (by decide), List.forall_mem_cons.mpr ⟨ab_iload_n_ok dX0_isWithin_5 rfl, List.forall_mem_cons.mpr ⟨ab_iload_n_ok dX0_isWithin_6 rfl, List.forall_mem_cons.mpr ⟨ab_icmp_gt_ok dX0_isWithin_7 (by decide), List.forall_mem_cons.mpr ⟨ab_iconst_ok dX0_isWithin_10 (by decide), List.forall_mem_cons.mpr ⟨ab_goto_ok dX0_isWithin_11 (by decide), List.forall_mem_cons.mpr ⟨ab_iconst_ok dX0_isWithin_14 (by decide), List.forall_mem_cons.mpr ⟨ab_zret_ok dX0_isWithin_15 rfl, fun _ h => absurd h List.not_mem_nil⟩⟩⟩⟩⟩⟩⟩⟩⟩⟩
theorem ab_k255 (K : ab_Kt) : ∀ pc, ab_OK K ab_mt ab_g255 pc (ab_c255 pc) := ab_lk2_ok _ (List.forall_mem_cons.mpr ⟨ab_k255_0 K, fun _ h => absurd h List.not_mem_nil⟩)
theorem dX0_refuse_0 : decode cX0_refuse 0 = .ok (.aload_n 0, 1) := by decide +kernel
theorem dX0_refuse_1 : decode cX0_refuse 1 = .ok (.iload_n 1, 1) := by decide +kernel
theorem dX0_refuse_2 : decode cX0_refuse 2 = .ok (.putfield 209, 3) := by decide +kernel
theorem dX0_refuse_5 : decode cX0_refuse 5 = .ok (.aload_n 0, 1) := by decide +kernel
theorem dX0_refuse_6 : decode cX0_refuse 6 = .ok (.iload_n 2, 1) := by decide +kernel
theorem dX0_refuse_7 : decode cX0_refuse 7 = .ok (.putfield 212, 3) := by decide +kernel
theorem dX0_refuse_10 : decode cX0_refuse 10 = .ok (.aload_n 0, 1) := by decide +kernel
theorem dX0_refuse_11 : decode cX0_refuse 11 = .ok (.aload_n 0, 1) := by decide +kernel
theorem dX0_refuse_12 : decode cX0_refuse 12 = .ok (.getfield 163, 3) := by decide +kernel
theorem dX0_refuse_15 : decode cX0_refuse 15 = .ok (.putfield 215, 3) := by decide +kernel
theorem dX0_refuse_18 : decode cX0_refuse 18 = .ok (.iconst (-1), 1) := by decide +kernel
theorem dX0_refuse_19 : decode cX0_refuse 19 = .ok (.ireturn, 1) := by decide +kernel
theorem ab_k256_0 (K : ab_Kt) : ∀ q ∈ ab_l256_0, ab_OK K ab_mt ab_g256 q.1 q.2 := by
  unfold ab_l256_0
  exact List.forall_mem_cons.mpr ⟨ab_aload_n_ok dX0_refuse_0 rfl, List.forall_mem_cons.mpr ⟨ab_iload_n_ok dX0_refuse_1 rfl, List.forall_mem_cons.mpr ⟨ab_putf_ok (C := RX0) (T := TX0) (N := 5) (ci := 4) (k := 1) (ty0 := tyX0) dX0_refuse_2 rfl ab_ic4 tyX0_ok nmX0 (by decide) ab_w1274 rfl (Or.inl rfl), List.forall_mem_cons.mpr ⟨ab_aload_n_ok dX0_refuse_5 rfl, List.forall_mem_cons.mpr ⟨ab_iload_n_ok dX0_refuse_6 rfl, List.forall_mem_cons.mpr ⟨ab_putf_ok (C := RX0) (T := TX0) (N := 5) (ci := 4) (k := 2) (ty0 := tyX0) dX0_refuse_7 rfl ab_ic4 tyX0_ok nmX0 (by decide) ab_w1275 rfl (Or.inl rfl), List.forall_mem_cons.mpr ⟨ab_aload_n_ok dX0_refuse_10 rfl, List.forall_mem_cons.mpr ⟨ab_aload_n_ok dX0_refuse_11 rfl, List.forall_mem_cons.mpr ⟨ab_getf_ok (C := RX0) (T := TX0) (N := 5) (ci := 4) (k := 4) dX0_refuse_12 rfl ab_ic4 (by decide) ab_w1089, List.forall_mem_cons.mpr ⟨ab_putf_ok (C := RX0) (T := TX0) (N := 5) (ci := 4) (k := 3) (ty0 := tyX0) dX0_refuse_15 rfl ab_ic4 tyX0_ok nmX0 (by decide) ab_w1276 rfl (Or.inl rfl), List.forall_mem_cons.mpr ⟨ab_iconst_ok dX0_refuse_18 (by decide), List.forall_mem_cons.mpr ⟨ab_iret_ok dX0_refuse_19 rfl, fun _ h => absurd h List.not_mem_nil⟩⟩⟩⟩⟩⟩⟩⟩⟩⟩⟩⟩
theorem ab_k256 (K : ab_Kt) : ∀ pc, ab_OK K ab_mt ab_g256 pc (ab_c256 pc) := ab_lk2_ok _ (List.forall_mem_cons.mpr ⟨ab_k256_0 K, fun _ h => absurd h List.not_mem_nil⟩)
theorem dX5_letMinuteGoBy_0 : decode cX5_letMinuteGoBy 0 = .ok (.iconst 0, 1) := by decide +kernel
theorem dX5_letMinuteGoBy_1 : decode cX5_letMinuteGoBy 1 = .ok (.istore_n 1, 1) := by decide +kernel
theorem dX5_letMinuteGoBy_2 : decode cX5_letMinuteGoBy 2 = .ok (.aload_n 0, 1) := by decide +kernel
theorem dX5_letMinuteGoBy_3 : decode cX5_letMinuteGoBy 3 = .ok (.dup, 1) := by decide +kernel
theorem dX5_letMinuteGoBy_4 : decode cX5_letMinuteGoBy 4 = .ok (.getfield 42, 3) := by decide +kernel
theorem dX5_letMinuteGoBy_7 : decode cX5_letMinuteGoBy 7 = .ok (.iconst 1, 1) := by decide +kernel
theorem dX5_letMinuteGoBy_8 : decode cX5_letMinuteGoBy 8 = .ok (.iadd, 1) := by decide +kernel
theorem dX5_letMinuteGoBy_9 : decode cX5_letMinuteGoBy 9 = .ok (.putfield 42, 3) := by decide +kernel
theorem dX5_letMinuteGoBy_12 : decode cX5_letMinuteGoBy 12 = .ok (.iconst 0, 1) := by decide +kernel
theorem dX5_letMinuteGoBy_13 : decode cX5_letMinuteGoBy 13 = .ok (.istore_n 2, 1) := by decide +kernel
theorem dX5_letMinuteGoBy_14 : decode cX5_letMinuteGoBy 14 = .ok (.iload_n 2, 1) := by decide +kernel
theorem dX5_letMinuteGoBy_15 : decode cX5_letMinuteGoBy 15 = .ok (.aload_n 0, 1) := by decide +kernel
theorem dX5_letMinuteGoBy_16 : decode cX5_letMinuteGoBy 16 = .ok (.getfield 39, 3) := by decide +kernel
theorem dX5_letMinuteGoBy_19 : decode cX5_letMinuteGoBy 19 = .ok (.if_icmp .ge 68, 3) := by decide +kernel
theorem dX5_letMinuteGoBy_22 : decode cX5_letMinuteGoBy 22 = .ok (.aload_n 0, 1) := by decide +kernel
theorem dX5_letMinuteGoBy_23 : decode cX5_letMinuteGoBy 23 = .ok (.getfield 11, 3) := by decide +kernel
theorem dX5_letMinuteGoBy_26 : decode cX5_letMinuteGoBy 26 = .ok (.iload_n 2, 1) := by decide +kernel
theorem dX5_letMinuteGoBy_27 : decode cX5_letMinuteGoBy 27 = .ok (.aaload, 1) := by decide +kernel
theorem dX5_letMinuteGoBy_28 : decode cX5_letMinuteGoBy 28 = .ok (.astore_n 3, 1) := by decide +kernel
theorem dX5_letMinuteGoBy_29 : decode cX5_letMinuteGoBy 29 = .ok (.aload_n 3, 1) := by decide +kernel
theorem dX5_letMinuteGoBy_30 : decode cX5_letMinuteGoBy 30 = .ok (.getfield 63, 3) := by decide +kernel
theorem dX5_letMinuteGoBy_33 : decode cX5_letMinuteGoBy 33 = .ok (.ifCond .le 13, 3) := by decide +kernel
theorem dX5_letMinuteGoBy_36 : decode cX5_letMinuteGoBy 36 = .ok (.aload_n 3, 1) := by decide +kernel
theorem dX5_letMinuteGoBy_37 : decode cX5_letMinuteGoBy 37 = .ok (.dup, 1) := by decide +kernel
theorem dX5_letMinuteGoBy_38 : decode cX5_letMinuteGoBy 38 = .ok (.getfield 63, 3) := by decide +kernel
theorem dX5_letMinuteGoBy_41 : decode cX5_letMinuteGoBy 41 = .ok (.iconst 1, 1) := by decide +kernel
theorem dX5_letMinuteGoBy_42 : decode cX5_letMinuteGoBy 42 = .ok (.isub, 1) := by decide +kernel
theorem dX5_letMinuteGoBy_43 : decode cX5_letMinuteGoBy 43 = .ok (.putfield 63, 3) := by decide +kernel
theorem dX5_letMinuteGoBy_46 : decode cX5_letMinuteGoBy 46 = .ok (.aload_n 3, 1) := by decide +kernel
theorem dX5_letMinuteGoBy_47 : decode cX5_letMinuteGoBy 47 = .ok (.getfield 57, 3) := by decide +kernel
theorem dX5_letMinuteGoBy_50 : decode cX5_letMinuteGoBy 50 = .ok (.iconst 1, 1) := by decide +kernel
theorem dX5_letMinuteGoBy_51 : decode cX5_letMinuteGoBy 51 = .ok (.if_icmp .ne 30, 3) := by decide +kernel
theorem dX5_letMinuteGoBy_54 : decode cX5_letMinuteGoBy 54 = .ok (.aload_n 3, 1) := by decide +kernel
theorem dX5_letMinuteGoBy_55 : decode cX5_letMinuteGoBy 55 = .ok (.getfield 63, 3) := by decide +kernel
theorem dX5_letMinuteGoBy_58 : decode cX5_letMinuteGoBy 58 = .ok (.ifCond .ne 23, 3) := by decide +kernel
theorem dX5_letMinuteGoBy_61 : decode cX5_letMinuteGoBy 61 = .ok (.aload_n 0, 1) := by decide +kernel
theorem dX5_letMinuteGoBy_62 : decode cX5_letMinuteGoBy 62 = .ok (.dup, 1) := by decide +kernel
theorem dX5_letMinuteGoBy_63 : decode cX5_letMinuteGoBy 63 = .ok (.getfield 48, 3) := by decide +kernel
theorem dX5_letMinuteGoBy_66 : decode cX5_letMinuteGoBy 66 = .ok (.aload_n 3, 1) := by decide +kernel
theorem dX5_letMinuteGoBy_67 : decode cX5_letMinuteGoBy 67 = .ok (.getfield 66, 3) := by decide +kernel
theorem ab_k257_0 (K : ab_Kt) : ∀ q ∈ ab_l257_0, ab_OK K ab_mt ab_g257 q.1 q.2 := by
  unfold ab_l257_0
  exact List.forall_mem_cons.mpr ⟨ab_iconst_ok dX5_letMinuteGoBy_0 (by decide), List.forall_mem_cons.mpr ⟨ab_istore_n_ok dX5_letMinuteGoBy_1 rfl, List.forall_mem_cons.mpr ⟨ab_aload_n_ok dX5_letMinuteGoBy_2 rfl, List.forall_mem_cons.mpr ⟨ab_dup_ok dX5_letMinuteGoBy_3, List.forall_mem_cons.mpr ⟨ab_getf_ok (C := RX5) (T := TX5) (N := 10) (ci := 9) (k := 3) dX5_letMinuteGoBy_4 rfl ab_ic9 (by decide) ab_w740, List.forall_mem_cons.mpr ⟨ab_iconst_ok dX5_letMinuteGoBy_7 (by decide), List.forall_mem_cons.mpr ⟨ab_iadd_ok dX5_letMinuteGoBy_8, List.forall_mem_cons.mpr ⟨ab_putf_ok (C := RX5) (T := TX5) (N := 10) (ci := 9) (k := 3) (ty0 := tyX5) dX5_letMinuteGoBy_9 rfl ab_ic9 tyX5_ok nmX5 (by decide) ab_w740 rfl (Or.inl rfl), List.forall_mem_cons.mpr ⟨ab_iconst_ok dX5_letMinuteGoBy_12 (by decide), List.forall_mem_cons.mpr ⟨ab_istore_n_ok dX5_letMinuteGoBy_13 rfl, List.forall_mem_cons.mpr ⟨ab_iload_n_ok dX5_letMinuteGoBy_14 rfl, List.forall_mem_cons.mpr ⟨ab_aload_n_ok dX5_letMinuteGoBy_15 rfl, List.forall_mem_cons.mpr ⟨ab_getf_ok (C := RX5) (T := TX5) (N := 10) (ci := 9) (k := 2) dX5_letMinuteGoBy_16 rfl ab_ic9 (by decide) ab_w739, List.forall_mem_cons.mpr ⟨ab_icmp_ge_ok dX5_letMinuteGoBy_19 (by decide), List.forall_mem_cons.mpr ⟨ab_aload_n_ok dX5_letMinuteGoBy_22 rfl, List.forall_mem_cons.mpr ⟨ab_getf_ok (C := RX5) (T := TX5) (N := 10) (ci := 9) (k := 0) dX5_letMinuteGoBy_23 rfl ab_ic9 (by decide) ab_w705, List.forall_mem_cons.mpr ⟨ab_iload_n_ok dX5_letMinuteGoBy_26 rfl, List.forall_mem_cons.mpr ⟨ab_aald_ok dX5_letMinuteGoBy_27 rfl, List.forall_mem_cons.mpr ⟨ab_astore_n_ok dX5_letMinuteGoBy_28 rfl, List.forall_mem_cons.mpr ⟨ab_aload_n_ok dX5_letMinuteGoBy_29 rfl, List.forall_mem_cons.mpr ⟨ab_getf_ok (C := RX1) (T := TX1) (N := 13) (ci := 5) (k := 7) dX5_letMinuteGoBy_30 rfl ab_ic5 (by decide) ab_w1277, List.forall_mem_cons.mpr ⟨ab_if_le_ok dX5_letMinuteGoBy_33 (by decide), List.forall_mem_cons.mpr ⟨ab_aload_n_ok dX5_letMinuteGoBy_36 rfl, List.forall_mem_cons.mpr ⟨ab_dup_ok dX5_letMinuteGoBy_37, List.forall_mem_cons.mpr ⟨ab_getf_ok (C := RX1) (T := TX1) (N := 13) (ci := 5) (k := 7) dX5_letMinuteGoBy_38 rfl ab_ic5 (by decide) ab_w1277, List.forall_mem_cons.mpr ⟨ab_iconst_ok dX5_letMinuteGoBy_41 (by decide), List.forall_mem_cons.mpr ⟨ab_isub_ok dX5_letMinuteGoBy_42, List.forall_mem_cons.mpr ⟨ab_putf_ok (C := RX1) (T := TX1) (N := 13) (ci := 5) (k := 7) (ty0 := tyX1) dX5_letMinuteGoBy_43 rfl ab_ic5 tyX1_ok nmX1 (by decide) ab_w1277 rfl (Or.inl rfl), List.forall_mem_cons.mpr ⟨ab_aload_n_ok dX5_letMinuteGoBy_46 rfl, List.forall_mem_cons.mpr ⟨ab_getf_ok (C := RX1) (T := TX1) (N := 13) (ci := 5) (k := 2) dX5_letMinuteGoBy_47 rfl ab_ic5 (by decide) ab_w1029, List.forall_mem_cons.mpr ⟨ab_iconst_ok dX5_letMinuteGoBy_50 (by decide), List.forall_mem_cons.mpr ⟨ab_icmp_ne_ok dX5_letMinuteGoBy_51 (by decide), List.forall_mem_cons.mpr ⟨ab_aload_n_ok dX5_letMinuteGoBy_54 rfl, List.forall_mem_cons.mpr ⟨ab_getf_ok (C := RX1) (T := TX1) (N := 13) (ci := 5) (k := 7) dX5_letMinuteGoBy_55 rfl ab_ic5 (by decide) ab_w1277, List.forall_mem_cons.mpr ⟨ab_if_ne_ok dX5_letMinuteGoBy_58 (by decide), List.forall_mem_cons.mpr ⟨ab_aload_n_ok dX5_letMinuteGoBy_61 rfl, List.forall_mem_cons.mpr ⟨ab_dup_ok dX5_letMinuteGoBy_62, List.forall_mem_cons.mpr ⟨ab_getf_ok (C := RX5) (T := TX5) (N := 10) (ci := 9) (k := 7) dX5_letMinuteGoBy_63 rfl ab_ic9 (by decide) ab_w742, List.forall_mem_cons.mpr ⟨ab_aload_n_ok dX5_letMinuteGoBy_66 rfl, List.forall_mem_cons.mpr ⟨ab_getf_ok (C := RX1) (T := TX1) (N := 13) (ci := 5) (k := 4) dX5_letMinuteGoBy_67 rfl ab_ic5 (by decide) ab_w1278, fun _ h => absurd h List.not_mem_nil⟩⟩⟩⟩⟩⟩⟩⟩⟩⟩⟩⟩⟩⟩⟩⟩⟩⟩⟩⟩⟩⟩⟩⟩⟩⟩⟩⟩⟩⟩⟩⟩⟩⟩⟩⟩⟩⟩⟩⟩
theorem dX5_letMinuteGoBy_70 : decode cX5_letMinuteGoBy 70 = .ok (.iadd, 1) := by decide +kernel
theorem dX5_letMinuteGoBy_71 : decode cX5_letMinuteGoBy 71 = .ok (.putfield 48, 3) := by decide +kernel
theorem dX5_letMinuteGoBy_74 : decode cX5_letMinuteGoBy 74 = .ok (.aload_n 3, 1) := by decide +kernel
theorem dX5_letMinuteGoBy_75 : decode cX5_letMinuteGoBy 75 = .ok (.invokevirtual 69, 3) := by decide +kernel
theorem dX5_letMinuteGoBy_78 : decode cX5_letMinuteGoBy 78 = .ok (.iinc 1 1, 3) := by decide +kernel
theorem dX5_letMinuteGoBy_81 : decode cX5_letMinuteGoBy 81 = .ok (.iinc 2 1, 3) := by decide +kernel
theorem dX5_letMinuteGoBy_84 : decode cX5_letMinuteGoBy 84 = .ok (.goto (-70), 3) := by decide +kernel
theorem dX5_letMinuteGoBy_87 : decode cX5_letMinuteGoBy 87 = .ok (.iload_n 1, 1) := by decide +kernel
theorem dX5_letMinuteGoBy_88 : decode cX5_letMinuteGoBy 88 = .ok (.ireturn, 1) := by decide +kernel
theorem ab_k257_1 (K : ab_Kt) : ∀ q ∈ ab_l257_1, ab_OK K ab_mt ab_g257 q.1 q.2 := by
  unfold ab_l257_1
  exact List.forall_mem_cons.mpr ⟨ab_iadd_ok dX5_letMinuteGoBy_70, List.forall_mem_cons.mpr ⟨ab_putf_ok (C := RX5) (T := TX5) (N := 10) (ci := 9) (k := 7) (ty0 := tyX5) dX5_letMinuteGoBy_71 rfl ab_ic9 tyX5_ok nmX5 (by decide) ab_w742 rfl (Or.inl rfl), List.forall_mem_cons.mpr ⟨ab_aload_n_ok dX5_letMinuteGoBy_74 rfl, List.forall_mem_cons.mpr ⟨ab_callV_ok' (G' := ab_g275) (C := RX1) (T := TX1) (N := 13) dX5_letMinuteGoBy_75 ab_m275 rfl rfl (by decide) (by decide) (ab_l4 ab_w1279 ab_w1280 ab_w1281 ab_w711) ab_w1282 rfl ⟨by decide, by decide, by decide +kernel⟩, List.forall_mem_cons.mpr ⟨ab_iinc_ok dX5_letMinuteGoBy_78 (by decide), List.forall_mem_cons.mpr ⟨ab_iinc_ok dX5_letMinuteGoBy_81 (by decide), List.forall_mem_cons.mpr ⟨ab_goto_ok dX5_letMinuteGoBy_84 (by decide), List.forall_mem_cons.mpr ⟨ab_iload_n_ok dX5_letMinuteGoBy_87 rfl, List.forall_mem_cons.mpr ⟨ab_iret_ok dX5_letMinuteGoBy_88 rfl, fun _ h => absurd h List.not_mem_nil⟩⟩⟩⟩⟩⟩⟩⟩⟩
theorem ab_k257 (K : ab_Kt) : ∀ pc, ab_OK K ab_mt ab_g257 pc (ab_c257 pc) := ab_lk2_ok _ (List.forall_mem_cons.mpr ⟨ab_k257_0 K, List.forall_mem_cons.mpr ⟨ab_k257_1 K, fun _ h => absurd h List.not_mem_nil⟩⟩)
theorem dX0_isNotAt_0 : decode cX0_isNotAt 0 = .ok (.aload_n 0, 1) := by decide +kernel
theorem dX0_isNotAt_1 : decode cX0_isNotAt 1 = .ok (.getfield 12, 3) := by decide +kernel
theorem dX0_isNotAt_4 : decode cX0_isNotAt 4 = .ok (.iload_n 1, 1) := by decide +kernel
theorem dX0_isNotAt_5 : decode cX0_isNotAt 5 = .ok (.invokevirtual 86, 3) := by decide +kernel
theorem dX0_isNotAt_8 : decode cX0_isNotAt 8 = .ok (.ifCond .ne 12, 3) := by decide +kernel
theorem dX0_isNotAt_11 : decode cX0_isNotAt 11 = .ok (.aload_n 0, 1) := by decide +kernel
theorem dX0_isNotAt_12 : decode cX0_isNotAt 12 = .ok (.iconst 3, 1) := by decide +kernel
theorem dX0_isNotAt_13 : decode cX0_isNotAt 13 = .ok (.iload_n 1, 1) := by decide +kernel
theorem dX0_isNotAt_14 : decode cX0_isNotAt 14 = .ok (.invokevirtual 22, 3) := by decide +kernel
theorem dX0_isNotAt_17 : decode cX0_isNotAt 17 = .ok (.pop, 1) := by decide +kernel
theorem dX0_isNotAt_18 : decode cX0_isNotAt 18 = .ok (.iconst 1, 1) := by decide +kernel
theorem dX0_isNotAt_19 : decode cX0_isNotAt 19 = .ok (.ireturn, 1) := by decide +kernel
theorem dX0_isNotAt_20 : decode cX0_isNotAt 20 = .ok (.aload_n 0, 1) := by decide +kernel
theorem dX0_isNotAt_21 : decode cX0_isNotAt 21 = .ok (.getfield 12, 3) := by decide +kernel
theorem dX0_isNotAt_24 : decode cX0_isNotAt 24 = .ok (.getfield 30, 3) := by decide +kernel
theorem dX0_isNotAt_27 : decode cX0_isNotAt 27 = .ok (.iload_n 1, 1) := by decide +kernel
theorem dX0_isNotAt_28 : decode cX0_isNotAt 28 = .ok (.aaload, 1) := by decide +kernel
theorem dX0_isNotAt_29 : decode cX0_isNotAt 29 = .ok (.getfield 93, 3) := by decide +kernel
theorem dX0_isNotAt_32 : decode cX0_isNotAt 32 = .ok (.istore_n 3, 1) := by decide +kernel
theorem dX0_isNotAt_33 : decode cX0_isNotAt 33 = .ok (.iload_n 3, 1) := by decide +kernel
theorem dX0_isNotAt_34 : decode cX0_isNotAt 34 = .ok (.iload_n 2, 1) := by decide +kernel
theorem dX0_isNotAt_35 : decode cX0_isNotAt 35 = .ok (.if_icmp .eq 10, 3) := by decide +kernel
theorem dX0_isNotAt_38 : decode cX0_isNotAt 38 = .ok (.aload_n 0, 1) := by decide +kernel
theorem dX0_isNotAt_39 : decode cX0_isNotAt 39 = .ok (.iconst 4, 1) := by decide +kernel
theorem dX0_isNotAt_40 : decode cX0_isNotAt 40 = .ok (.iload_n 3, 1) := by decide +kernel
theorem dX0_isNotAt_41 : decode cX0_isNotAt 41 = .ok (.invokevirtual 22, 3) := by decide +kernel
theorem dX0_isNotAt_44 : decode cX0_isNotAt 44 = .ok (.pop, 1) := by decide +kernel
theorem dX0_isNotAt_45 : decode cX0_isNotAt 45 = .ok (.iload_n 3, 1) := by decide +kernel
theorem dX0_isNotAt_46 : decode cX0_isNotAt 46 = .ok (.iload_n 2, 1) := by decide +kernel
theorem dX0_isNotAt_47 : decode cX0_isNotAt 47 = .ok (.if_icmp .eq 7, 3) := by decide +kernel
theorem dX0_isNotAt_50 : decode cX0_isNotAt 50 = .ok (.iconst 1, 1) := by decide +kernel
theorem dX0_isNotAt_51 : decode cX0_isNotAt 51 = .ok (.goto 4, 3) := by decide +kernel
theorem dX0_isNotAt_54 : decode cX0_isNotAt 54 = .ok (.iconst 0, 1) := by decide +kernel
theorem dX0_isNotAt_55 : decode cX0_isNotAt 55 = .ok (.ireturn, 1) := by decide +kernel
theorem ab_k258_0 (K : ab_Kt) : ∀ q ∈ ab_l258_0, ab_OK K ab_mt ab_g258 q.1 q.2 := by
  unfold ab_l258_0
  exact List.forall_mem_cons.mpr ⟨ab_aload_n_ok dX0_isNotAt_0 rfl, List.forall_mem_cons.mpr ⟨ab_getf_ok (C := RX0) (T := TX0) (N := 5) (ci := 4) (k := 0) dX0_isNotAt_1 rfl ab_ic4 (by decide) ab_w698, List.forall_mem_cons.mpr ⟨ab_iload_n_ok dX0_isNotAt_4 rfl, List.forall_mem_cons.mpr ⟨ab_callV_ok' (G' := ab_g230) (C := RX5) (T := TX5) (N := 10) dX0_isNotAt_5 ab_m230 rfl rfl (by decide) (by decide) (ab_l4 ab_w1183 ab_w1031 ab_w1032 ab_w328) ab_w1033 rfl ⟨by decide, by decide, by decide +kernel⟩, List.forall_mem_cons.mpr ⟨ab_if_ne_ok dX0_isNotAt_8 (by decide), List.forall_mem_cons.mpr ⟨ab_aload_n_ok dX0_isNotAt_11 rfl, List.forall_mem_cons.mpr ⟨ab_iconst_ok dX0_isNotAt_12 (by decide), List.forall_mem_cons.mpr ⟨ab_iload_n_ok dX0_isNotAt_13 rfl, List.forall_mem_cons.mpr ⟨ab_callV_ok' (G' := ab_g256) (C := RX0) (T := TX0) (N := 5) dX0_isNotAt_14 ab_m256 rfl rfl (by decide) (by decide) (ab_l4 ab_w1147 ab_w1148 ab_w1149 ab_w313) ab_w1150 rfl ⟨by decide, by decide, by decide +kernel⟩, List.forall_mem_cons.mpr ⟨ab_pop_ok dX0_isNotAt_17, List.forall_mem_cons.mpr ⟨ab_iconst_ok dX0_isNotAt_18 (by decide), List.forall_mem_cons.mpr ⟨ab_zret_ok dX0_isNotAt_19 rfl, List.forall_mem_cons.mpr ⟨ab_aload_n_ok dX0_isNotAt_20 rfl, List.forall_mem_cons.mpr ⟨ab_getf_ok (C := RX0) (T := TX0) (N := 5) (ci := 4) (k := 0) dX0_isNotAt_21 rfl ab_ic4 (by decide) ab_w698, List.forall_mem_cons.mpr ⟨ab_getf_ok (C := RX5) (T := TX5) (N := 10) (ci := 9) (k := 0) dX0_isNotAt_24 rfl ab_ic9 (by decide) ab_w1159, List.forall_mem_cons.mpr ⟨ab_iload_n_ok dX0_isNotAt_27 rfl, List.forall_mem_cons.mpr ⟨ab_aald_ok dX0_isNotAt_28 rfl, List.forall_mem_cons.mpr ⟨ab_getf_ok (C := RX1) (T := TX1) (N := 13) (ci := 5) (k := 2) dX0_isNotAt_29 rfl ab_ic5 (by decide) ab_w1166, List.forall_mem_cons.mpr ⟨ab_istore_n_ok dX0_isNotAt_32 rfl, List.forall_mem_cons.mpr ⟨ab_iload_n_ok dX0_isNotAt_33 rfl, List.forall_mem_cons.mpr ⟨ab_iload_n_ok dX0_isNotAt_34 rfl, List.forall_mem_cons.mpr ⟨ab_icmp_eq_ok dX0_isNotAt_35 (by decide), List.forall_mem_cons.mpr ⟨ab_aload_n_ok dX0_isNotAt_38 rfl, List.forall_mem_cons.mpr ⟨ab_iconst_ok dX0_isNotAt_39 (by decide), List.forall_mem_cons.mpr ⟨ab_iload_n_ok dX0_isNotAt_40 rfl, List.forall_mem_cons.mpr ⟨ab_callV_ok' (G' := ab_g256) (C := RX0) (T := TX0) (N := 5) dX0_isNotAt_41 ab_m256 rfl rfl (by decide) (by decide) (ab_l4 ab_w1147 ab_w1148 ab_w1149 ab_w313) ab_w1150 rfl ⟨by decide, by decide, by decide +kernel⟩, List.forall_mem_cons.mpr ⟨ab_pop_ok dX0_isNotAt_44, List.forall_mem_cons.mpr ⟨ab_iload_n_ok dX0_isNotAt_45 rfl, List.forall_mem_cons.mpr ⟨ab_iload_n_ok dX0_isNotAt_46 rfl, List.forall_mem_cons.mpr ⟨ab_icmp_eq_ok dX0_isNotAt_47 (by decide), List.forall_mem_cons.mpr ⟨ab_iconst_ok dX0_isNotAt_50 (by decide), List.forall_mem_cons.mpr ⟨ab_goto_ok dX0_isNotAt_51 (by decide), List.forall_mem_cons.mpr ⟨ab_iconst_ok dX0_isNotAt_54 (by decide), List.forall_mem_cons.mpr ⟨ab_zret_ok dX0_isNotAt_55 rfl, fun _ h => absurd h List.not_mem_nil⟩⟩⟩⟩⟩⟩⟩⟩⟩⟩⟩⟩⟩⟩⟩⟩⟩⟩⟩⟩⟩⟩⟩⟩⟩⟩⟩⟩⟩⟩⟩⟩⟩⟩
theorem ab_k258 (K : ab_Kt) : ∀ pc, ab_OK K ab_mt ab_g258 pc (ab_c258 pc) := ab_lk2_ok _ (List.forall_mem_cons.mpr ⟨ab_k258_0 K, fun _ h => absurd h List.not_mem_nil⟩)
theorem dX1_isWrongOn_0 : decode cX1_isWrongOn 0 = .ok (.aload_n 0, 1) := by decide +kernel
theorem dX1_isWrongOn_1 : decode cX1_isWrongOn 1 = .ok (.iload_n 1, 1) := by decide +kernel
theorem dX1_isWrongOn_2 : decode cX1_isWrongOn 2 = .ok (.invokevirtual 64, 3) := by decide +kernel
theorem dX1_isWrongOn_5 : decode cX1_isWrongOn 5 = .ok (.istore_n 2, 1) := by decide +kernel
theorem dX1_isWrongOn_6 : decode cX1_isWrongOn 6 = .ok (.iload_n 2, 1) := by decide +kernel
theorem dX1_isWrongOn_7 : decode cX1_isWrongOn 7 = .ok (.iconst (-1), 1) := by decide +kernel
theorem dX1_isWrongOn_8 : decode cX1_isWrongOn 8 = .ok (.if_icmp .eq 16, 3) := by decide +kernel
theorem dX1_isWrongOn_11 : decode cX1_isWrongOn 11 = .ok (.aload_n 0, 1) := by decide +kernel
theorem dX1_isWrongOn_12 : decode cX1_isWrongOn 12 = .ok (.iload_n 1, 1) := by decide +kernel
theorem dX1_isWrongOn_13 : decode cX1_isWrongOn 13 = .ok (.iload_n 2, 1) := by decide +kernel
theorem dX1_isWrongOn_14 : decode cX1_isWrongOn 14 = .ok (.invokevirtual 78, 3) := by decide +kernel
theorem dX1_isWrongOn_17 : decode cX1_isWrongOn 17 = .ok (.ifCond .ne 7, 3) := by decide +kernel
theorem dX1_isWrongOn_20 : decode cX1_isWrongOn 20 = .ok (.iconst 1, 1) := by decide +kernel
theorem dX1_isWrongOn_21 : decode cX1_isWrongOn 21 = .ok (.goto 4, 3) := by decide +kernel
theorem dX1_isWrongOn_24 : decode cX1_isWrongOn 24 = .ok (.iconst 0, 1) := by decide +kernel
theorem dX1_isWrongOn_25 : decode cX1_isWrongOn 25 = .ok (.ireturn, 1) := by decide +kernel
theorem ab_k259_0 (K : ab_Kt) : ∀ q ∈ ab_l259_0, ab_OK K ab_mt ab_g259 q.1 q.2 := by
  unfold ab_l259_0
  exact List.forall_mem_cons.mpr ⟨ab_aload_n_ok dX1_isWrongOn_0 rfl, List.forall_mem_cons.mpr ⟨ab_iload_n_ok dX1_isWrongOn_1 rfl, List.forall_mem_cons.mpr ⟨ab_callV_ok' (G' := ab_g214) (C := RX1) (T := TX1) (N := 13) dX1_isWrongOn_2 ab_m214 rfl rfl (by decide) (by decide) (ab_l4 ab_w1271 ab_w928 ab_w929 ab_w711) ab_w930 rfl ⟨by decide, by decide, by decide +kernel⟩, List.forall_mem_cons.mpr ⟨ab_istore_n_ok dX1_isWrongOn_5 rfl, List.forall_mem_cons.mpr ⟨ab_iload_n_ok dX1_isWrongOn_6 rfl, List.forall_mem_cons.mpr ⟨ab_iconst_ok dX1_isWrongOn_7 (by decide), List.forall_mem_cons.mpr ⟨ab_icmp_eq_ok dX1_isWrongOn_8 (by decide), List.forall_mem_cons.mpr ⟨ab_aload_n_ok dX1_isWrongOn_11 rfl, List.forall_mem_cons.mpr ⟨ab_iload_n_ok dX1_isWrongOn_12 rfl, List.forall_mem_cons.mpr ⟨ab_iload_n_ok dX1_isWrongOn_13 rfl, List.forall_mem_cons.mpr ⟨ab_callV_ok' (G' := ab_g233) (C := RX1) (T := TX1) (N := 13) dX1_isWrongOn_14 ab_m233 rfl rfl (by decide) (by decide) (ab_l4 ab_w1043 ab_w1044 ab_w1045 ab_w711) ab_w1046 rfl ⟨by decide, by decide, by decide +kernel⟩, List.forall_mem_cons.mpr ⟨ab_if_ne_ok dX1_isWrongOn_17 (by decide), List.forall_mem_cons.mpr ⟨ab_iconst_ok dX1_isWrongOn_20 (by decide), List.forall_mem_cons.mpr ⟨ab_goto_ok dX1_isWrongOn_21 (by decide), List.forall_mem_cons.mpr ⟨ab_iconst_ok dX1_isWrongOn_24 (by decide), List.forall_mem_cons.mpr ⟨ab_zret_ok dX1_isWrongOn_25 rfl, fun _ h => absurd h List.not_mem_nil⟩⟩⟩⟩⟩⟩⟩⟩⟩⟩⟩⟩⟩⟩⟩⟩
theorem ab_k259 (K : ab_Kt) : ∀ pc, ab_OK K ab_mt ab_g259 pc (ab_c259 pc) := ab_lk2_ok _ (List.forall_mem_cons.mpr ⟨ab_k259_0 K, fun _ h => absurd h List.not_mem_nil⟩)
theorem dX1_addSlip_0 : decode cX1_addSlip 0 = .ok (.iload_n 1, 1) := by decide +kernel
theorem dX1_addSlip_1 : decode cX1_addSlip 1 = .ok (.bipush 64, 2) := by decide +kernel
theorem dX1_addSlip_3 : decode cX1_addSlip 3 = .ok (.idiv, 1) := by decide +kernel
theorem dX1_addSlip_4 : decode cX1_addSlip 4 = .ok (.istore_n 2, 1) := by decide +kernel
theorem dX1_addSlip_5 : decode cX1_addSlip 5 = .ok (.iload_n 1, 1) := by decide +kernel
theorem dX1_addSlip_6 : decode cX1_addSlip 6 = .ok (.ifCond .lt 8, 3) := by decide +kernel
theorem dX1_addSlip_9 : decode cX1_addSlip 9 = .ok (.iload_n 2, 1) := by decide +kernel
theorem dX1_addSlip_10 : decode cX1_addSlip 10 = .ok (.iconst 3, 1) := by decide +kernel
theorem dX1_addSlip_11 : decode cX1_addSlip 11 = .ok (.if_icmp .lt 4, 3) := by decide +kernel
theorem dX1_addSlip_14 : decode cX1_addSlip 14 = .ok (.return_, 1) := by decide +kernel
theorem dX1_addSlip_15 : decode cX1_addSlip 15 = .ok (.aload_n 0, 1) := by decide +kernel
theorem dX1_addSlip_16 : decode cX1_addSlip 16 = .ok (.getfield 29, 3) := by decide +kernel
theorem dX1_addSlip_19 : decode cX1_addSlip 19 = .ok (.iload_n 2, 1) := by decide +kernel
theorem dX1_addSlip_20 : decode cX1_addSlip 20 = .ok (.dup2, 1) := by decide +kernel
theorem dX1_addSlip_21 : decode cX1_addSlip 21 = .ok (.laload, 1) := by decide +kernel
theorem dX1_addSlip_22 : decode cX1_addSlip 22 = .ok (.lconst 1, 1) := by decide +kernel
theorem dX1_addSlip_23 : decode cX1_addSlip 23 = .ok (.iload_n 1, 1) := by decide +kernel
theorem dX1_addSlip_24 : decode cX1_addSlip 24 = .ok (.bipush 64, 2) := by decide +kernel
theorem dX1_addSlip_26 : decode cX1_addSlip 26 = .ok (.irem, 1) := by decide +kernel
theorem dX1_addSlip_27 : decode cX1_addSlip 27 = .ok (.lshl, 1) := by decide +kernel
theorem dX1_addSlip_28 : decode cX1_addSlip 28 = .ok (.lor, 1) := by decide +kernel
theorem dX1_addSlip_29 : decode cX1_addSlip 29 = .ok (.lastore, 1) := by decide +kernel
theorem dX1_addSlip_30 : decode cX1_addSlip 30 = .ok (.aload_n 0, 1) := by decide +kernel
theorem dX1_addSlip_31 : decode cX1_addSlip 31 = .ok (.dup, 1) := by decide +kernel
theorem dX1_addSlip_32 : decode cX1_addSlip 32 = .ok (.getfield 48, 3) := by decide +kernel
theorem dX1_addSlip_35 : decode cX1_addSlip 35 = .ok (.iconst 1, 1) := by decide +kernel
theorem dX1_addSlip_36 : decode cX1_addSlip 36 = .ok (.iadd, 1) := by decide +kernel
theorem dX1_addSlip_37 : decode cX1_addSlip 37 = .ok (.putfield 48, 3) := by decide +kernel
theorem dX1_addSlip_40 : decode cX1_addSlip 40 = .ok (.return_, 1) := by decide +kernel
theorem ab_k260_0 (K : ab_Kt) : ∀ q ∈ ab_l260_0, ab_OK K ab_mt ab_g260 q.1 q.2 := by
  unfold ab_l260_0
  exact List.forall_mem_cons.mpr ⟨ab_iload_n_ok dX1_addSlip_0 rfl, List.forall_mem_cons.mpr ⟨ab_bipush_ok dX1_addSlip_1 (by decide), List.forall_mem_cons.mpr ⟨ab_idiv_ok dX1_addSlip_3, List.forall_mem_cons.mpr ⟨ab_istore_n_ok dX1_addSlip_4 rfl, List.forall_mem_cons.mpr ⟨ab_iload_n_ok dX1_addSlip_5 rfl, List.forall_mem_cons.mpr ⟨ab_if_lt_ok dX1_addSlip_6 (by decide), List.forall_mem_cons.mpr ⟨ab_iload_n_ok dX1_addSlip_9 rfl, List.forall_mem_cons.mpr ⟨ab_iconst_ok dX1_addSlip_10 (by decide), List.forall_mem_cons.mpr ⟨ab_icmp_lt_ok dX1_addSlip_11 (by decide), List.forall_mem_cons.mpr ⟨ab_vret_ok dX1_addSlip_14 rfl, List.forall_mem_cons.mpr ⟨ab_aload_n_ok dX1_addSlip_15 rfl, List.forall_mem_cons.mpr ⟨ab_getf_ok (C := RX1) (T := TX1) (N := 13) (ci := 5) (k := 12) dX1_addSlip_16 rfl ab_ic5 (by decide) ab_w1000, List.forall_mem_cons.mpr ⟨ab_iload_n_ok dX1_addSlip_19 rfl, List.forall_mem_cons.mpr ⟨ab_dup2_ok dX1_addSlip_20, List.forall_mem_cons.mpr ⟨ab_lald_ok dX1_addSlip_21, List.forall_mem_cons.mpr ⟨ab_lconst_ok dX1_addSlip_22 (by decide), List.forall_mem_cons.mpr ⟨ab_iload_n_ok dX1_addSlip_23 rfl, List.forall_mem_cons.mpr ⟨ab_bipush_ok dX1_addSlip_24 (by decide), List.forall_mem_cons.mpr ⟨ab_irem_ok dX1_addSlip_26, List.forall_mem_cons.mpr ⟨ab_lshl_ok dX1_addSlip_27, List.forall_mem_cons.mpr ⟨ab_lor_ok dX1_addSlip_28, List.forall_mem_cons.mpr ⟨ab_last_ok dX1_addSlip_29, List.forall_mem_cons.mpr ⟨ab_aload_n_ok dX1_addSlip_30 rfl, List.forall_mem_cons.mpr ⟨ab_dup_ok dX1_addSlip_31, List.forall_mem_cons.mpr ⟨ab_getf_ok (C := RX1) (T := TX1) (N := 13) (ci := 5) (k := 5) dX1_addSlip_32 rfl ab_ic5 (by decide) ab_w1014, List.forall_mem_cons.mpr ⟨ab_iconst_ok dX1_addSlip_35 (by decide), List.forall_mem_cons.mpr ⟨ab_iadd_ok dX1_addSlip_36, List.forall_mem_cons.mpr ⟨ab_putf_ok (C := RX1) (T := TX1) (N := 13) (ci := 5) (k := 5) (ty0 := tyX1) dX1_addSlip_37 rfl ab_ic5 tyX1_ok nmX1 (by decide) ab_w1014 rfl (Or.inl rfl), List.forall_mem_cons.mpr ⟨ab_vret_ok dX1_addSlip_40 rfl, fun _ h => absurd h List.not_mem_nil⟩⟩⟩⟩⟩⟩⟩⟩⟩⟩⟩⟩⟩⟩⟩⟩⟩⟩⟩⟩⟩⟩⟩⟩⟩⟩⟩⟩⟩
theorem ab_k260 (K : ab_Kt) : ∀ pc, ab_OK K ab_mt ab_g260 pc (ab_c260 pc) := ab_lk2_ok _ (List.forall_mem_cons.mpr ⟨ab_k260_0 K, fun _ h => absurd h List.not_mem_nil⟩)
theorem dX0_isNotLoose_0 : decode cX0_isNotLoose 0 = .ok (.aload_n 0, 1) := by decide +kernel
theorem dX0_isNotLoose_1 : decode cX0_isNotLoose 1 = .ok (.iload_n 1, 1) := by decide +kernel
theorem dX0_isNotLoose_2 : decode cX0_isNotLoose 2 = .ok (.iconst 0, 1) := by decide +kernel
theorem dX0_isNotLoose_3 : decode cX0_isNotLoose 3 = .ok (.invokevirtual 69, 3) := by decide +kernel
theorem dX0_isNotLoose_6 : decode cX0_isNotLoose 6 = .ok (.ifCond .eq 5, 3) := by decide +kernel
theorem dX0_isNotLoose_9 : decode cX0_isNotLoose 9 = .ok (.iconst 1, 1) := by decide +kernel
theorem dX0_isNotLoose_10 : decode cX0_isNotLoose 10 = .ok (.ireturn, 1) := by decide +kernel
theorem dX0_isNotLoose_11 : decode cX0_isNotLoose 11 = .ok (.aload_n 0, 1) := by decide +kernel
theorem dX0_isNotLoose_12 : decode cX0_isNotLoose 12 = .ok (.getfield 12, 3) := by decide +kernel
theorem dX0_isNotLoose_15 : decode cX0_isNotLoose 15 = .ok (.getfield 30, 3) := by decide +kernel
theorem dX0_isNotLoose_18 : decode cX0_isNotLoose 18 = .ok (.iload_n 1, 1) := by decide +kernel
theorem dX0_isNotLoose_19 : decode cX0_isNotLoose 19 = .ok (.aaload, 1) := by decide +kernel
theorem dX0_isNotLoose_20 : decode cX0_isNotLoose 20 = .ok (.getfield 73, 3) := by decide +kernel
theorem dX0_isNotLoose_23 : decode cX0_isNotLoose 23 = .ok (.istore_n 2, 1) := by decide +kernel
theorem dX0_isNotLoose_24 : decode cX0_isNotLoose 24 = .ok (.iload_n 2, 1) := by decide +kernel
theorem dX0_isNotLoose_25 : decode cX0_isNotLoose 25 = .ok (.ifCond .le 10, 3) := by decide +kernel
theorem dX0_isNotLoose_28 : decode cX0_isNotLoose 28 = .ok (.aload_n 0, 1) := by decide +kernel
theorem dX0_isNotLoose_29 : decode cX0_isNotLoose 29 = .ok (.iconst 5, 1) := by decide +kernel
theorem dX0_isNotLoose_30 : decode cX0_isNotLoose 30 = .ok (.iload_n 2, 1) := by decide +kernel
theorem dX0_isNotLoose_31 : decode cX0_isNotLoose 31 = .ok (.invokevirtual 22, 3) := by decide +kernel
theorem dX0_isNotLoose_34 : decode cX0_isNotLoose 34 = .ok (.pop, 1) := by decide +kernel
theorem dX0_isNotLoose_35 : decode cX0_isNotLoose 35 = .ok (.iload_n 2, 1) := by decide +kernel
theorem dX0_isNotLoose_36 : decode cX0_isNotLoose 36 = .ok (.ifCond .le 7, 3) := by decide +kernel
theorem dX0_isNotLoose_39 : decode cX0_isNotLoose 39 = .ok (.iconst 1, 1) := by decide +kernel
theorem dX0_isNotLoose_40 : decode cX0_isNotLoose 40 = .ok (.goto 4, 3) := by decide +kernel
theorem dX0_isNotLoose_43 : decode cX0_isNotLoose 43 = .ok (.iconst 0, 1) := by decide +kernel
theorem dX0_isNotLoose_44 : decode cX0_isNotLoose 44 = .ok (.ireturn, 1) := by decide +kernel
theorem ab_k261_0 (K : ab_Kt) : ∀ q ∈ ab_l261_0, ab_OK K ab_mt ab_g261 q.1 q.2 := by
  unfold ab_l261_0
  exact List.forall_mem_cons.mpr ⟨ab_aload_n_ok dX0_isNotLoose_0 rfl, List.forall_mem_cons.mpr ⟨ab_iload_n_ok dX0_isNotLoose_1 rfl, List.forall_mem_cons.mpr ⟨ab_iconst_ok dX0_isNotLoose_2 (by decide), List.forall_mem_cons.mpr ⟨ab_callV_ok' (G' := ab_g258) (C := RX0) (T := TX0) (N := 5) dX0_isNotLoose_3 ab_m258 rfl rfl (by decide) (by decide) (ab_l4 ab_w1155 ab_w1156 ab_w1157 ab_w313) ab_w1158 rfl ⟨by decide, by decide, by decide +kernel⟩, List.forall_mem_cons.mpr ⟨ab_if_eq_ok dX0_isNotLoose_6 (by decide), List.forall_mem_cons.mpr ⟨ab_iconst_ok dX0_isNotLoose_9 (by decide), List.forall_mem_cons.mpr ⟨ab_zret_ok dX0_isNotLoose_10 rfl, List.forall_mem_cons.mpr ⟨ab_aload_n_ok dX0_isNotLoose_11 rfl, List.forall_mem_cons.mpr ⟨ab_getf_ok (C := RX0) (T := TX0) (N := 5) (ci := 4) (k := 0) dX0_isNotLoose_12 rfl ab_ic4 (by decide) ab_w698, List.forall_mem_cons.mpr ⟨ab_getf_ok (C := RX5) (T := TX5) (N := 10) (ci := 9) (k := 0) dX0_isNotLoose_15 rfl ab_ic9 (by decide) ab_w1159, List.forall_mem_cons.mpr ⟨ab_iload_n_ok dX0_isNotLoose_18 rfl, List.forall_mem_cons.mpr ⟨ab_aald_ok dX0_isNotLoose_19 rfl, List.forall_mem_cons.mpr ⟨ab_getf_ok (C := RX1) (T := TX1) (N := 13) (ci := 5) (k := 4) dX0_isNotLoose_20 rfl ab_ic5 (by decide) ab_w1185, List.forall_mem_cons.mpr ⟨ab_istore_n_ok dX0_isNotLoose_23 rfl, List.forall_mem_cons.mpr ⟨ab_iload_n_ok dX0_isNotLoose_24 rfl, List.forall_mem_cons.mpr ⟨ab_if_le_ok dX0_isNotLoose_25 (by decide), List.forall_mem_cons.mpr ⟨ab_aload_n_ok dX0_isNotLoose_28 rfl, List.forall_mem_cons.mpr ⟨ab_iconst_ok dX0_isNotLoose_29 (by decide), List.forall_mem_cons.mpr ⟨ab_iload_n_ok dX0_isNotLoose_30 rfl, List.forall_mem_cons.mpr ⟨ab_callV_ok' (G' := ab_g256) (C := RX0) (T := TX0) (N := 5) dX0_isNotLoose_31 ab_m256 rfl rfl (by decide) (by decide) (ab_l4 ab_w1147 ab_w1148 ab_w1149 ab_w313) ab_w1150 rfl ⟨by decide, by decide, by decide +kernel⟩, List.forall_mem_cons.mpr ⟨ab_pop_ok dX0_isNotLoose_34, List.forall_mem_cons.mpr ⟨ab_iload_n_ok dX0_isNotLoose_35 rfl, List.forall_mem_cons.mpr ⟨ab_if_le_ok dX0_isNotLoose_36 (by decide), List.forall_mem_cons.mpr ⟨ab_iconst_ok dX0_isNotLoose_39 (by decide), List.forall_mem_cons.mpr ⟨ab_goto_ok dX0_isNotLoose_40 (by decide), List.forall_mem_cons.mpr ⟨ab_iconst_ok dX0_isNotLoose_43 (by decide), List.forall_mem_cons.mpr ⟨ab_zret_ok dX0_isNotLoose_44 rfl, fun _ h => absurd h List.not_mem_nil⟩⟩⟩⟩⟩⟩⟩⟩⟩⟩⟩⟩⟩⟩⟩⟩⟩⟩⟩⟩⟩⟩⟩⟩⟩⟩⟩
theorem ab_k261 (K : ab_Kt) : ∀ pc, ab_OK K ab_mt ab_g261 pc (ab_c261 pc) := ab_lk2_ok _ (List.forall_mem_cons.mpr ⟨ab_k261_0 K, fun _ h => absurd h List.not_mem_nil⟩)
theorem dX1_shift_0 : decode cX1_shift 0 = .ok (.aload_n 0, 1) := by decide +kernel
theorem dX1_shift_1 : decode cX1_shift 1 = .ok (.getfield 15, 3) := by decide +kernel
theorem dX1_shift_4 : decode cX1_shift 4 = .ok (.iload_n 1, 1) := by decide +kernel
theorem dX1_shift_5 : decode cX1_shift 5 = .ok (.iaload, 1) := by decide +kernel
theorem dX1_shift_6 : decode cX1_shift 6 = .ok (.istore_n 3, 1) := by decide +kernel
theorem dX1_shift_7 : decode cX1_shift 7 = .ok (.aload_n 0, 1) := by decide +kernel
theorem dX1_shift_8 : decode cX1_shift 8 = .ok (.getfield 22, 3) := by decide +kernel
theorem dX1_shift_11 : decode cX1_shift 11 = .ok (.iload_n 1, 1) := by decide +kernel
theorem dX1_shift_12 : decode cX1_shift 12 = .ok (.iaload, 1) := by decide +kernel
theorem dX1_shift_13 : decode cX1_shift 13 = .ok (.istore 4, 2) := by decide +kernel
theorem dX1_shift_15 : decode cX1_shift 15 = .ok (.aload_n 0, 1) := by decide +kernel
theorem dX1_shift_16 : decode cX1_shift 16 = .ok (.getfield 25, 3) := by decide +kernel
theorem dX1_shift_19 : decode cX1_shift 19 = .ok (.iload_n 1, 1) := by decide +kernel
theorem dX1_shift_20 : decode cX1_shift 20 = .ok (.baload, 1) := by decide +kernel
theorem dX1_shift_21 : decode cX1_shift 21 = .ok (.istore 5, 2) := by decide +kernel
theorem dX1_shift_23 : decode cX1_shift 23 = .ok (.iload_n 1, 1) := by decide +kernel
theorem dX1_shift_24 : decode cX1_shift 24 = .ok (.istore 6, 2) := by decide +kernel
theorem dX1_shift_26 : decode cX1_shift 26 = .ok (.iload 6, 2) := by decide +kernel
theorem dX1_shift_28 : decode cX1_shift 28 = .ok (.iload_n 2, 1) := by decide +kernel
theorem dX1_shift_29 : decode cX1_shift 29 = .ok (.if_icmp .ge 42, 3) := by decide +kernel
theorem dX1_shift_32 : decode cX1_shift 32 = .ok (.aload_n 0, 1) := by decide +kernel
theorem dX1_shift_33 : decode cX1_shift 33 = .ok (.iload 6, 2) := by decide +kernel
theorem dX1_shift_35 : decode cX1_shift 35 = .ok (.aload_n 0, 1) := by decide +kernel
theorem dX1_shift_36 : decode cX1_shift 36 = .ok (.getfield 15, 3) := by decide +kernel
theorem dX1_shift_39 : decode cX1_shift 39 = .ok (.iload 6, 2) := by decide +kernel
theorem dX1_shift_41 : decode cX1_shift 41 = .ok (.iconst 1, 1) := by decide +kernel
theorem dX1_shift_42 : decode cX1_shift 42 = .ok (.iadd, 1) := by decide +kernel
theorem dX1_shift_43 : decode cX1_shift 43 = .ok (.iaload, 1) := by decide +kernel
theorem dX1_shift_44 : decode cX1_shift 44 = .ok (.aload_n 0, 1) := by decide +kernel
theorem dX1_shift_45 : decode cX1_shift 45 = .ok (.getfield 22, 3) := by decide +kernel
theorem dX1_shift_48 : decode cX1_shift 48 = .ok (.iload 6, 2) := by decide +kernel
theorem dX1_shift_50 : decode cX1_shift 50 = .ok (.iconst 1, 1) := by decide +kernel
theorem dX1_shift_51 : decode cX1_shift 51 = .ok (.iadd, 1) := by decide +kernel
theorem dX1_shift_52 : decode cX1_shift 52 = .ok (.iaload, 1) := by decide +kernel
theorem dX1_shift_53 : decode cX1_shift 53 = .ok (.aload_n 0, 1) := by decide +kernel
theorem dX1_shift_54 : decode cX1_shift 54 = .ok (.getfield 25, 3) := by decide +kernel
theorem dX1_shift_57 : decode cX1_shift 57 = .ok (.iload 6, 2) := by decide +kernel
theorem dX1_shift_59 : decode cX1_shift 59 = .ok (.iconst 1, 1) := by decide +kernel
theorem dX1_shift_60 : decode cX1_shift 60 = .ok (.iadd, 1) := by decide +kernel
theorem dX1_shift_61 : decode cX1_shift 61 = .ok (.baload, 1) := by decide +kernel
theorem ab_k262_0 (K : ab_Kt) : ∀ q ∈ ab_l262_0, ab_OK K ab_mt ab_g262 q.1 q.2 := by
  unfold ab_l262_0
  exact List.forall_mem_cons.mpr ⟨ab_aload_n_ok dX1_shift_0 rfl, List.forall_mem_cons.mpr ⟨ab_getf_ok (C := RX1) (T := TX1) (N := 13) (ci := 5) (k := 8) dX1_shift_1 rfl ab_ic5 (by decide) ab_w995, List.forall_mem_cons.mpr ⟨ab_iload_n_ok dX1_shift_4 rfl, List.forall_mem_cons.mpr ⟨ab_ald0_ok dX1_shift_5, List.forall_mem_cons.mpr ⟨ab_istore_n_ok dX1_shift_6 rfl, List.forall_mem_cons.mpr ⟨ab_aload_n_ok dX1_shift_7 rfl, List.forall_mem_cons.mpr ⟨ab_getf_ok (C := RX1) (T := TX1) (N := 13) (ci := 5) (k := 10) dX1_shift_8 rfl ab_ic5 (by decide) ab_w997, List.forall_mem_cons.mpr ⟨ab_iload_n_ok dX1_shift_11 rfl, List.forall_mem_cons.mpr ⟨ab_ald0_ok dX1_shift_12, List.forall_mem_cons.mpr ⟨ab_istore_ok dX1_shift_13, List.forall_mem_cons.mpr ⟨ab_aload_n_ok dX1_shift_15 rfl, List.forall_mem_cons.mpr ⟨ab_getf_ok (C := RX1) (T := TX1) (N := 13) (ci := 5) (k := 11) dX1_shift_16 rfl ab_ic5 (by decide) ab_w999, List.forall_mem_cons.mpr ⟨ab_iload_n_ok dX1_shift_19 rfl, List.forall_mem_cons.mpr ⟨ab_ald1_ok dX1_shift_20, List.forall_mem_cons.mpr ⟨ab_istore_ok dX1_shift_21, List.forall_mem_cons.mpr ⟨ab_iload_n_ok dX1_shift_23 rfl, List.forall_mem_cons.mpr ⟨ab_istore_ok dX1_shift_24, List.forall_mem_cons.mpr ⟨ab_iload_ok dX1_shift_26, List.forall_mem_cons.mpr ⟨ab_iload_n_ok dX1_shift_28 rfl, List.forall_mem_cons.mpr ⟨ab_icmp_ge_ok dX1_shift_29 (by decide), List.forall_mem_cons.mpr ⟨ab_aload_n_ok dX1_shift_32 rfl, List.forall_mem_cons.mpr ⟨ab_iload_ok dX1_shift_33, List.forall_mem_cons.mpr ⟨ab_aload_n_ok dX1_shift_35 rfl, List.forall_mem_cons.mpr ⟨ab_getf_ok (C := RX1) (T := TX1) (N := 13) (ci := 5) (k := 8) dX1_shift_36 rfl ab_ic5 (by decide) ab_w995, List.forall_mem_cons.mpr ⟨ab_iload_ok dX1_shift_39, List.forall_mem_cons.mpr ⟨ab_iconst_ok dX1_shift_41 (by decide), List.forall_mem_cons.mpr ⟨ab_iadd_ok dX1_shift_42, List.forall_mem_cons.mpr ⟨ab_ald0_ok dX1_shift_43, List.forall_mem_cons.mpr ⟨ab_aload_n_ok dX1_shift_44 rfl, List.forall_mem_cons.mpr ⟨ab_getf_ok (C := RX1) (T := TX1) (N := 13) (ci := 5) (k := 10) dX1_shift_45 rfl ab_ic5 (by decide) ab_w997, List.forall_mem_cons.mpr ⟨ab_iload_ok dX1_shift_48, List.forall_mem_cons.mpr ⟨ab_iconst_ok dX1_shift_50 (by decide), List.forall_mem_cons.mpr ⟨ab_iadd_ok dX1_shift_51, List.forall_mem_cons.mpr ⟨ab_ald0_ok dX1_shift_52, List.forall_mem_cons.mpr ⟨ab_aload_n_ok dX1_shift_53 rfl, List.forall_mem_cons.mpr ⟨ab_getf_ok (C := RX1) (T := TX1) (N := 13) (ci := 5) (k := 11) dX1_shift_54 rfl ab_ic5 (by decide) ab_w999, List.forall_mem_cons.mpr ⟨ab_iload_ok dX1_shift_57, List.forall_mem_cons.mpr ⟨ab_iconst_ok dX1_shift_59 (by decide), List.forall_mem_cons.mpr ⟨ab_iadd_ok dX1_shift_60, List.forall_mem_cons.mpr ⟨ab_ald1_ok dX1_shift_61, fun _ h => absurd h List.not_mem_nil⟩⟩⟩⟩⟩⟩⟩⟩⟩⟩⟩⟩⟩⟩⟩⟩⟩⟩⟩⟩⟩⟩⟩⟩⟩⟩⟩⟩⟩⟩⟩⟩⟩⟩⟩⟩⟩⟩⟩⟩
theorem dX1_shift_62 : decode cX1_shift 62 = .ok (.invokevirtual 54, 3) := by decide +kernel
theorem dX1_shift_65 : decode cX1_shift 65 = .ok (.iinc 6 1, 3) := by decide +kernel
theorem dX1_shift_68 : decode cX1_shift 68 = .ok (.goto (-42), 3) := by decide +kernel
theorem dX1_shift_71 : decode cX1_shift 71 = .ok (.iload_n 1, 1) := by decide +kernel
theorem dX1_shift_72 : decode cX1_shift 72 = .ok (.istore 6, 2) := by decide +kernel
theorem dX1_shift_74 : decode cX1_shift 74 = .ok (.iload 6, 2) := by decide +kernel
theorem dX1_shift_76 : decode cX1_shift 76 = .ok (.iload_n 2, 1) := by decide +kernel
theorem dX1_shift_77 : decode cX1_shift 77 = .ok (.if_icmp .le 42, 3) := by decide +kernel
theorem dX1_shift_80 : decode cX1_shift 80 = .ok (.aload_n 0, 1) := by decide +kernel
theorem dX1_shift_81 : decode cX1_shift 81 = .ok (.iload 6, 2) := by decide +kernel
theorem dX1_shift_83 : decode cX1_shift 83 = .ok (.aload_n 0, 1) := by decide +kernel
theorem dX1_shift_84 : decode cX1_shift 84 = .ok (.getfield 15, 3) := by decide +kernel
theorem dX1_shift_87 : decode cX1_shift 87 = .ok (.iload 6, 2) := by decide +kernel
theorem dX1_shift_89 : decode cX1_shift 89 = .ok (.iconst 1, 1) := by decide +kernel
theorem dX1_shift_90 : decode cX1_shift 90 = .ok (.isub, 1) := by decide +kernel
theorem dX1_shift_91 : decode cX1_shift 91 = .ok (.iaload, 1) := by decide +kernel
theorem dX1_shift_92 : decode cX1_shift 92 = .ok (.aload_n 0, 1) := by decide +kernel
theorem dX1_shift_93 : decode cX1_shift 93 = .ok (.getfield 22, 3) := by decide +kernel
theorem dX1_shift_96 : decode cX1_shift 96 = .ok (.iload 6, 2) := by decide +kernel
theorem dX1_shift_98 : decode cX1_shift 98 = .ok (.iconst 1, 1) := by decide +kernel
theorem dX1_shift_99 : decode cX1_shift 99 = .ok (.isub, 1) := by decide +kernel
theorem dX1_shift_100 : decode cX1_shift 100 = .ok (.iaload, 1) := by decide +kernel
theorem dX1_shift_101 : decode cX1_shift 101 = .ok (.aload_n 0, 1) := by decide +kernel
theorem dX1_shift_102 : decode cX1_shift 102 = .ok (.getfield 25, 3) := by decide +kernel
theorem dX1_shift_105 : decode cX1_shift 105 = .ok (.iload 6, 2) := by decide +kernel
theorem dX1_shift_107 : decode cX1_shift 107 = .ok (.iconst 1, 1) := by decide +kernel
theorem dX1_shift_108 : decode cX1_shift 108 = .ok (.isub, 1) := by decide +kernel
theorem dX1_shift_109 : decode cX1_shift 109 = .ok (.baload, 1) := by decide +kernel
theorem dX1_shift_110 : decode cX1_shift 110 = .ok (.invokevirtual 54, 3) := by decide +kernel
theorem dX1_shift_113 : decode cX1_shift 113 = .ok (.iinc 6 (-1), 3) := by decide +kernel
theorem dX1_shift_116 : decode cX1_shift 116 = .ok (.goto (-42), 3) := by decide +kernel
theorem dX1_shift_119 : decode cX1_shift 119 = .ok (.aload_n 0, 1) := by decide +kernel
theorem dX1_shift_120 : decode cX1_shift 120 = .ok (.iload_n 2, 1) := by decide +kernel
theorem dX1_shift_121 : decode cX1_shift 121 = .ok (.iload_n 3, 1) := by decide +kernel
theorem dX1_shift_122 : decode cX1_shift 122 = .ok (.iload 4, 2) := by decide +kernel
theorem dX1_shift_124 : decode cX1_shift 124 = .ok (.iload 5, 2) := by decide +kernel
theorem dX1_shift_126 : decode cX1_shift 126 = .ok (.invokevirtual 54, 3) := by decide +kernel
theorem dX1_shift_129 : decode cX1_shift 129 = .ok (.return_, 1) := by decide +kernel
theorem ab_k262_1 (K : ab_Kt) : ∀ q ∈ ab_l262_1, ab_OK K ab_mt ab_g262 q.1 q.2 := by
  unfold ab_l262_1
  exact List.forall_mem_cons.mpr ⟨ab_callV_ok' (G' := ab_g229) (C := RX1) (T := TX1) (N := 13) dX1_shift_62 ab_m229 rfl rfl (by decide) (by decide) (ab_l4 ab_w1016 ab_w1017 ab_w1018 ab_w711) ab_w1019 rfl ⟨by decide, by decide, by decide +kernel⟩, List.forall_mem_cons.mpr ⟨ab_iinc_ok dX1_shift_65 (by decide), List.forall_mem_cons.mpr ⟨ab_goto_ok dX1_shift_68 (by decide), List.forall_mem_cons.mpr ⟨ab_iload_n_ok dX1_shift_71 rfl, List.forall_mem_cons.mpr ⟨ab_istore_ok dX1_shift_72, List.forall_mem_cons.mpr ⟨ab_iload_ok dX1_shift_74, List.forall_mem_cons.mpr ⟨ab_iload_n_ok dX1_shift_76 rfl, List.forall_mem_cons.mpr ⟨ab_icmp_le_ok dX1_shift_77 (by decide), List.forall_mem_cons.mpr ⟨ab_aload_n_ok dX1_shift_80 rfl, List.forall_mem_cons.mpr ⟨ab_iload_ok dX1_shift_81, List.forall_mem_cons.mpr ⟨ab_aload_n_ok dX1_shift_83 rfl, List.forall_mem_cons.mpr ⟨ab_getf_ok (C := RX1) (T := TX1) (N := 13) (ci := 5) (k := 8) dX1_shift_84 rfl ab_ic5 (by decide) ab_w995, List.forall_mem_cons.mpr ⟨ab_iload_ok dX1_shift_87, List.forall_mem_cons.mpr ⟨ab_iconst_ok dX1_shift_89 (by decide), List.forall_mem_cons.mpr ⟨ab_isub_ok dX1_shift_90, List.forall_mem_cons.mpr ⟨ab_ald0_ok dX1_shift_91, List.forall_mem_cons.mpr ⟨ab_aload_n_ok dX1_shift_92 rfl, List.forall_mem_cons.mpr ⟨ab_getf_ok (C := RX1) (T := TX1) (N := 13) (ci := 5) (k := 10) dX1_shift_93 rfl ab_ic5 (by decide) ab_w997, List.forall_mem_cons.mpr ⟨ab_iload_ok dX1_shift_96, List.forall_mem_cons.mpr ⟨ab_iconst_ok dX1_shift_98 (by decide), List.forall_mem_cons.mpr ⟨ab_isub_ok dX1_shift_99, List.forall_mem_cons.mpr ⟨ab_ald0_ok dX1_shift_100, List.forall_mem_cons.mpr ⟨ab_aload_n_ok dX1_shift_101 rfl, List.forall_mem_cons.mpr ⟨ab_getf_ok (C := RX1) (T := TX1) (N := 13) (ci := 5) (k := 11) dX1_shift_102 rfl ab_ic5 (by decide) ab_w999, List.forall_mem_cons.mpr ⟨ab_iload_ok dX1_shift_105, List.forall_mem_cons.mpr ⟨ab_iconst_ok dX1_shift_107 (by decide), List.forall_mem_cons.mpr ⟨ab_isub_ok dX1_shift_108, List.forall_mem_cons.mpr ⟨ab_ald1_ok dX1_shift_109, List.forall_mem_cons.mpr ⟨ab_callV_ok' (G' := ab_g229) (C := RX1) (T := TX1) (N := 13) dX1_shift_110 ab_m229 rfl rfl (by decide) (by decide) (ab_l4 ab_w1016 ab_w1017 ab_w1018 ab_w711) ab_w1019 rfl ⟨by decide, by decide, by decide +kernel⟩, List.forall_mem_cons.mpr ⟨ab_iinc_ok dX1_shift_113 (by decide), List.forall_mem_cons.mpr ⟨ab_goto_ok dX1_shift_116 (by decide), List.forall_mem_cons.mpr ⟨ab_aload_n_ok dX1_shift_119 rfl, List.forall_mem_cons.mpr ⟨ab_iload_n_ok dX1_shift_120 rfl, List.forall_mem_cons.mpr ⟨ab_iload_n_ok dX1_shift_121 rfl, List.forall_mem_cons.mpr ⟨ab_iload_ok dX1_shift_122, List.forall_mem_cons.mpr ⟨ab_iload_ok dX1_shift_124, List.forall_mem_cons.mpr ⟨ab_callV_ok' (G' := ab_g229) (C := RX1) (T := TX1) (N := 13) dX1_shift_126 ab_m229 rfl rfl (by decide) (by decide) (ab_l4 ab_w1016 ab_w1017 ab_w1018 ab_w711) ab_w1019 rfl ⟨by decide, by decide, by decide +kernel⟩, List.forall_mem_cons.mpr ⟨ab_vret_ok dX1_shift_129 rfl, fun _ h => absurd h List.not_mem_nil⟩⟩⟩⟩⟩⟩⟩⟩⟩⟩⟩⟩⟩⟩⟩⟩⟩⟩⟩⟩⟩⟩⟩⟩⟩⟩⟩⟩⟩⟩⟩⟩⟩⟩⟩⟩⟩⟩
theorem ab_k262 (K : ab_Kt) : ∀ pc, ab_OK K ab_mt ab_g262 pc (ab_c262 pc) := ab_lk2_ok _ (List.forall_mem_cons.mpr ⟨ab_k262_0 K, List.forall_mem_cons.mpr ⟨ab_k262_1 K, fun _ h => absurd h List.not_mem_nil⟩⟩)
theorem dX1_begin_0 : decode cX1_begin 0 = .ok (.aload_n 0, 1) := by decide +kernel
theorem dX1_begin_1 : decode cX1_begin 1 = .ok (.iload_n 1, 1) := by decide +kernel
theorem dX1_begin_2 : decode cX1_begin 2 = .ok (.putfield 33, 3) := by decide +kernel
theorem dX1_begin_5 : decode cX1_begin 5 = .ok (.aload_n 0, 1) := by decide +kernel
theorem dX1_begin_6 : decode cX1_begin 6 = .ok (.iload_n 2, 1) := by decide +kernel
theorem dX1_begin_7 : decode cX1_begin 7 = .ok (.putfield 36, 3) := by decide +kernel
theorem dX1_begin_10 : decode cX1_begin 10 = .ok (.return_, 1) := by decide +kernel
theorem ab_k263_0 (K : ab_Kt) : ∀ q ∈ ab_l263_0, ab_OK K ab_mt ab_g263 q.1 q.2 := by
  unfold ab_l263_0
  exact List.forall_mem_cons.mpr ⟨ab_aload_n_ok dX1_begin_0 rfl, List.forall_mem_cons.mpr ⟨ab_iload_n_ok dX1_begin_1 rfl, List.forall_mem_cons.mpr ⟨ab_putf_ok (C := RX1) (T := TX1) (N := 13) (ci := 5) (k := 0) (ty0 := tyX1) dX1_begin_2 rfl ab_ic5 tyX1_ok nmX1 (by decide) ab_w1009 rfl (Or.inl rfl), List.forall_mem_cons.mpr ⟨ab_aload_n_ok dX1_begin_5 rfl, List.forall_mem_cons.mpr ⟨ab_iload_n_ok dX1_begin_6 rfl, List.forall_mem_cons.mpr ⟨ab_putf_ok (C := RX1) (T := TX1) (N := 13) (ci := 5) (k := 1) (ty0 := tyX1) dX1_begin_7 rfl ab_ic5 tyX1_ok nmX1 (by decide) ab_w1010 rfl (Or.inl rfl), List.forall_mem_cons.mpr ⟨ab_vret_ok dX1_begin_10 rfl, fun _ h => absurd h List.not_mem_nil⟩⟩⟩⟩⟩⟩⟩
theorem ab_k263 (K : ab_Kt) : ∀ pc, ab_OK K ab_mt ab_g263 pc (ab_c263 pc) := ab_lk2_ok _ (List.forall_mem_cons.mpr ⟨ab_k263_0 K, fun _ h => absurd h List.not_mem_nil⟩)
theorem dJ0_checkIndex_df160_0 : decode cJ0_checkIndex_df160 0 = .ok (.iload_n 0, 1) := by decide +kernel
theorem dJ0_checkIndex_df160_1 : decode cJ0_checkIndex_df160 1 = .ok (.iload_n 1, 1) := by decide +kernel
theorem dJ0_checkIndex_df160_2 : decode cJ0_checkIndex_df160 2 = .ok (.getstatic 1053, 3) := by decide +kernel
theorem dJ0_checkIndex_df160_5 : decode cJ0_checkIndex_df160 5 = .ok (.invokestatic 1059, 3) := by decide +kernel
theorem dJ0_checkIndex_df160_8 : decode cJ0_checkIndex_df160 8 = .ok (.pop, 1) := by decide +kernel
theorem dJ0_checkIndex_df160_9 : decode cJ0_checkIndex_df160 9 = .ok (.return_, 1) := by decide +kernel
theorem ab_k264_0 (K : ab_Kt) : ∀ q ∈ ab_l264_0 K, ab_OK K ab_mt ab_g264 q.1 q.2 := by
  unfold ab_l264_0
  exact List.forall_mem_cons.mpr ⟨ab_iload_n_ok dJ0_checkIndex_df160_0 rfl, List.forall_mem_cons.mpr ⟨ab_iload_n_ok dJ0_checkIndex_df160_1 rfl, List.forall_mem_cons.mpr ⟨ab_gfmt_ok dJ0_checkIndex_df160_2 ab_w1283, List.forall_mem_cons.mpr ⟨ab_callS_ok' (G' := ab_g276) dJ0_checkIndex_df160_5 ab_m276 (by decide) (by decide) (ab_l3 ab_w1284 ab_w1285 ab_w1286) ab_w1287 rfl ⟨by decide, by decide, by decide +kernel⟩, List.forall_mem_cons.mpr ⟨ab_pop_ok dJ0_checkIndex_df160_8, List.forall_mem_cons.mpr ⟨ab_vret_ok dJ0_checkIndex_df160_9 rfl, fun _ h => absurd h List.not_mem_nil⟩⟩⟩⟩⟩⟩
theorem ab_k264 (K : ab_Kt) : ∀ pc, ab_OK K ab_mt ab_g264 pc (ab_c264 K pc) := ab_lk2_ok _ (List.forall_mem_cons.mpr ⟨ab_k264_0 K, fun _ h => absurd h List.not_mem_nil⟩)
theorem dJ5_ensureCapacityInternal_d00df_0 : decode cJ5_ensureCapacityInternal_d00df 0 = .ok (.aload_n 0, 1) := by decide +kernel
theorem dJ5_ensureCapacityInternal_d00df_1 : decode cJ5_ensureCapacityInternal_d00df 1 = .ok (.getfield 15, 3) := by decide +kernel
theorem dJ5_ensureCapacityInternal_d00df_4 : decode cJ5_ensureCapacityInternal_d00df 4 = .ok (.arraylength, 1) := by decide +kernel
theorem dJ5_ensureCapacityInternal_d00df_5 : decode cJ5_ensureCapacityInternal_d00df 5 = .ok (.aload_n 0, 1) := by decide +kernel
theorem dJ5_ensureCapacityInternal_d00df_6 : decode cJ5_ensureCapacityInternal_d00df 6 = .ok (.getfield 22, 3) := by decide +kernel
theorem dJ5_ensureCapacityInternal_d00df_9 : decode cJ5_ensureCapacityInternal_d00df 9 = .ok (.ishr, 1) := by decide +kernel
theorem dJ5_ensureCapacityInternal_d00df_10 : decode cJ5_ensureCapacityInternal_d00df 10 = .ok (.istore_n 2, 1) := by decide +kernel
theorem dJ5_ensureCapacityInternal_d00df_11 : decode cJ5_ensureCapacityInternal_d00df 11 = .ok (.iload_n 1, 1) := by decide +kernel
theorem dJ5_ensureCapacityInternal_d00df_12 : decode cJ5_ensureCapacityInternal_d00df 12 = .ok (.iload_n 2, 1) := by decide +kernel
theorem dJ5_ensureCapacityInternal_d00df_13 : decode cJ5_ensureCapacityInternal_d00df 13 = .ok (.isub, 1) := by decide +kernel
theorem dJ5_ensureCapacityInternal_d00df_14 : decode cJ5_ensureCapacityInternal_d00df 14 = .ok (.ifCond .le 24, 3) := by decide +kernel
theorem dJ5_ensureCapacityInternal_d00df_17 : decode cJ5_ensureCapacityInternal_d00df 17 = .ok (.aload_n 0, 1) := by decide +kernel
theorem dJ5_ensureCapacityInternal_d00df_18 : decode cJ5_ensureCapacityInternal_d00df 18 = .ok (.aload_n 0, 1) := by decide +kernel
theorem dJ5_ensureCapacityInternal_d00df_19 : decode cJ5_ensureCapacityInternal_d00df 19 = .ok (.getfield 15, 3) := by decide +kernel
theorem dJ5_ensureCapacityInternal_d00df_22 : decode cJ5_ensureCapacityInternal_d00df 22 = .ok (.aload_n 0, 1) := by decide +kernel
theorem dJ5_ensureCapacityInternal_d00df_23 : decode cJ5_ensureCapacityInternal_d00df 23 = .ok (.iload_n 1, 1) := by decide +kernel
theorem dJ5_ensureCapacityInternal_d00df_24 : decode cJ5_ensureCapacityInternal_d00df 24 = .ok (.invokevirtual 104, 3) := by decide +kernel
theorem dJ5_ensureCapacityInternal_d00df_27 : decode cJ5_ensureCapacityInternal_d00df 27 = .ok (.aload_n 0, 1) := by decide +kernel
theorem dJ5_ensureCapacityInternal_d00df_28 : decode cJ5_ensureCapacityInternal_d00df 28 = .ok (.getfield 22, 3) := by decide +kernel
theorem dJ5_ensureCapacityInternal_d00df_31 : decode cJ5_ensureCapacityInternal_d00df 31 = .ok (.ishl, 1) := by decide +kernel
theorem dJ5_ensureCapacityInternal_d00df_32 : decode cJ5_ensureCapacityInternal_d00df 32 = .ok (.invokestatic 108, 3) := by decide +kernel
theorem dJ5_ensureCapacityInternal_d00df_35 : decode cJ5_ensureCapacityInternal_d00df 35 = .ok (.putfield 15, 3) := by decide +kernel
theorem dJ5_ensureCapacityInternal_d00df_38 : decode cJ5_ensureCapacityInternal_d00df 38 = .ok (.return_, 1) := by decide +kernel
theorem ab_k265_0 (K : ab_Kt) : ∀ q ∈ ab_l265_0, ab_OK K ab_mt ab_g265 q.1 q.2 := by
  unfold ab_l265_0
  exact List.forall_mem_cons.mpr ⟨ab_aload_n_ok dJ5_ensureCapacityInternal_d00df_0 rfl, List.forall_mem_cons.mpr ⟨ab_getf_ok (C := RJ4) (T := TJ4) (N := 4) (ci := 1) (k := 0) dJ5_ensureCapacityInternal_d00df_1 rfl ab_ic1 (by decide) ab_w1006, List.forall_mem_cons.mpr ⟨ab_alen_ok dJ5_ensureCapacityInternal_d00df_4, List.forall_mem_cons.mpr ⟨ab_aload_n_ok dJ5_ensureCapacityInternal_d00df_5 rfl, List.forall_mem_cons.mpr ⟨ab_getf_ok (C := RJ4) (T := TJ4) (N := 4) (ci := 1) (k := 1) dJ5_ensureCapacityInternal_d00df_6 rfl ab_ic1 (by decide) ab_w1007, List.forall_mem_cons.mpr ⟨ab_ishr_ok dJ5_ensureCapacityInternal_d00df_9, List.forall_mem_cons.mpr ⟨ab_istore_n_ok dJ5_ensureCapacityInternal_d00df_10 rfl, List.forall_mem_cons.mpr ⟨ab_iload_n_ok dJ5_ensureCapacityInternal_d00df_11 rfl, List.forall_mem_cons.mpr ⟨ab_iload_n_ok dJ5_ensureCapacityInternal_d00df_12 rfl, List.forall_mem_cons.mpr ⟨ab_isub_ok dJ5_ensureCapacityInternal_d00df_13, List.forall_mem_cons.mpr ⟨ab_if_le_ok dJ5_ensureCapacityInternal_d00df_14 (by decide), List.forall_mem_cons.mpr ⟨ab_aload_n_ok dJ5_ensureCapacityInternal_d00df_17 rfl, List.forall_mem_cons.mpr ⟨ab_aload_n_ok dJ5_ensureCapacityInternal_d00df_18 rfl, List.forall_mem_cons.mpr ⟨ab_getf_ok (C := RJ4) (T := TJ4) (N := 4) (ci := 1) (k := 0) dJ5_ensureCapacityInternal_d00df_19 rfl ab_ic1 (by decide) ab_w1006, List.forall_mem_cons.mpr ⟨ab_aload_n_ok dJ5_ensureCapacityInternal_d00df_22 rfl, List.forall_mem_cons.mpr ⟨ab_iload_n_ok dJ5_ensureCapacityInternal_d00df_23 rfl, List.forall_mem_cons.mpr ⟨ab_callU_ok' (G' := ab_g277) (C := RJ4) (T := TJ4) (N := 4) dJ5_ensureCapacityInternal_d00df_24 ab_m277 rfl rfl (by decide) (by decide) ab_w1288 (ab_l5 ab_w1289 ab_w1290 ab_w1291 ab_w1292 ab_w724) ⟨by decide, by decide, by decide +kernel⟩, List.forall_mem_cons.mpr ⟨ab_aload_n_ok dJ5_ensureCapacityInternal_d00df_27 rfl, List.forall_mem_cons.mpr ⟨ab_getf_ok (C := RJ4) (T := TJ4) (N := 4) (ci := 1) (k := 1) dJ5_ensureCapacityInternal_d00df_28 rfl ab_ic1 (by decide) ab_w1007, List.forall_mem_cons.mpr ⟨ab_ishl_ok dJ5_ensureCapacityInternal_d00df_31, List.forall_mem_cons.mpr ⟨ab_callS_ok' (G' := ab_g278) dJ5_ensureCapacityInternal_d00df_32 ab_m278 (by decide) (by decide) (ab_l3 ab_w1293 ab_w1294 ab_w1295) ab_w1296 rfl ⟨by decide, by decide, by decide +kernel⟩, List.forall_mem_cons.mpr ⟨ab_putf_ok (C := RJ4) (T := TJ4) (N := 4) (ci := 1) (k := 0) (ty0 := tyJ4) dJ5_ensureCapacityInternal_d00df_35 rfl ab_ic1 tyJ4_ok nmJ4 (by decide) ab_w1006 rfl (Or.inl rfl), List.forall_mem_cons.mpr ⟨ab_vret_ok dJ5_ensureCapacityInternal_d00df_38 rfl, fun _ h => absurd h List.not_mem_nil⟩⟩⟩⟩⟩⟩⟩⟩⟩⟩⟩⟩⟩⟩⟩⟩⟩⟩⟩⟩⟩⟩⟩
theorem ab_k265 (K : ab_Kt) : ∀ pc, ab_OK K ab_mt ab_g265 pc (ab_c265 pc) := ab_lk2_ok _ (List.forall_mem_cons.mpr ⟨ab_k265_0 K, fun _ h => absurd h List.not_mem_nil⟩)
theorem dJ5_isLatin1_aae02_0 : decode cJ5_isLatin1_aae02 0 = .ok (.getstatic 18, 3) := by decide +kernel
theorem dJ5_isLatin1_aae02_3 : decode cJ5_isLatin1_aae02 3 = .ok (.ifCond .eq 14, 3) := by decide +kernel
theorem dJ5_isLatin1_aae02_6 : decode cJ5_isLatin1_aae02 6 = .ok (.aload_n 0, 1) := by decide +kernel
theorem dJ5_isLatin1_aae02_7 : decode cJ5_isLatin1_aae02 7 = .ok (.getfield 22, 3) := by decide +kernel
theorem dJ5_isLatin1_aae02_10 : decode cJ5_isLatin1_aae02 10 = .ok (.ifCond .ne 7, 3) := by decide +kernel
theorem dJ5_isLatin1_aae02_13 : decode cJ5_isLatin1_aae02 13 = .ok (.iconst 1, 1) := by decide +kernel
theorem dJ5_isLatin1_aae02_14 : decode cJ5_isLatin1_aae02 14 = .ok (.goto 4, 3) := by decide +kernel
theorem dJ5_isLatin1_aae02_17 : decode cJ5_isLatin1_aae02 17 = .ok (.iconst 0, 1) := by decide +kernel
theorem dJ5_isLatin1_aae02_18 : decode cJ5_isLatin1_aae02 18 = .ok (.ireturn, 1) := by decide +kernel
theorem ab_k266_0 (K : ab_Kt) : ∀ q ∈ ab_l266_0, ab_OK K ab_mt ab_g266 q.1 q.2 := by
  unfold ab_l266_0
  exact List.forall_mem_cons.mpr ⟨ab_gcom_ok dJ5_isLatin1_aae02_0 ab_w1004, List.forall_mem_cons.mpr ⟨ab_if_eq_ok dJ5_isLatin1_aae02_3 (by decide), List.forall_mem_cons.mpr ⟨ab_aload_n_ok dJ5_isLatin1_aae02_6 rfl, List.forall_mem_cons.mpr ⟨ab_getf_ok (C := RJ4) (T := TJ4) (N := 4) (ci := 1) (k := 1) dJ5_isLatin1_aae02_7 rfl ab_ic1 (by decide) ab_w1007, List.forall_mem_cons.mpr ⟨ab_if_ne_ok dJ5_isLatin1_aae02_10 (by decide), List.forall_mem_cons.mpr ⟨ab_iconst_ok dJ5_isLatin1_aae02_13 (by decide), List.forall_mem_cons.mpr ⟨ab_goto_ok dJ5_isLatin1_aae02_14 (by decide), List.forall_mem_cons.mpr ⟨ab_iconst_ok dJ5_isLatin1_aae02_17 (by decide), List.forall_mem_cons.mpr ⟨ab_zret_ok dJ5_isLatin1_aae02_18 rfl, fun _ h => absurd h List.not_mem_nil⟩⟩⟩⟩⟩⟩⟩⟩⟩
theorem ab_k266 (K : ab_Kt) : ∀ pc, ab_OK K ab_mt ab_g266 pc (ab_c266 pc) := ab_lk2_ok _ (List.forall_mem_cons.mpr ⟨ab_k266_0 K, fun _ h => absurd h List.not_mem_nil⟩)
theorem dJ6_stringSize_0f7a4_0 : decode cJ6_stringSize_0f7a4 0 = .ok (.iconst 1, 1) := by decide +kernel
theorem dJ6_stringSize_0f7a4_1 : decode cJ6_stringSize_0f7a4 1 = .ok (.istore_n 1, 1) := by decide +kernel
theorem dJ6_stringSize_0f7a4_2 : decode cJ6_stringSize_0f7a4 2 = .ok (.iload_n 0, 1) := by decide +kernel
theorem dJ6_stringSize_0f7a4_3 : decode cJ6_stringSize_0f7a4 3 = .ok (.ifCond .lt 8, 3) := by decide +kernel
theorem dJ6_stringSize_0f7a4_6 : decode cJ6_stringSize_0f7a4 6 = .ok (.iconst 0, 1) := by decide +kernel
theorem dJ6_stringSize_0f7a4_7 : decode cJ6_stringSize_0f7a4 7 = .ok (.istore_n 1, 1) := by decide +kernel
theorem dJ6_stringSize_0f7a4_8 : decode cJ6_stringSize_0f7a4 8 = .ok (.iload_n 0, 1) := by decide +kernel
theorem dJ6_stringSize_0f7a4_9 : decode cJ6_stringSize_0f7a4 9 = .ok (.ineg, 1) := by decide +kernel
theorem dJ6_stringSize_0f7a4_10 : decode cJ6_stringSize_0f7a4 10 = .ok (.istore_n 0, 1) := by decide +kernel
theorem dJ6_stringSize_0f7a4_11 : decode cJ6_stringSize_0f7a4 11 = .ok (.bipush (-10), 2) := by decide +kernel
theorem dJ6_stringSize_0f7a4_13 : decode cJ6_stringSize_0f7a4 13 = .ok (.istore_n 2, 1) := by decide +kernel
theorem dJ6_stringSize_0f7a4_14 : decode cJ6_stringSize_0f7a4 14 = .ok (.iconst 1, 1) := by decide +kernel
theorem dJ6_stringSize_0f7a4_15 : decode cJ6_stringSize_0f7a4 15 = .ok (.istore_n 3, 1) := by decide +kernel
theorem dJ6_stringSize_0f7a4_16 : decode cJ6_stringSize_0f7a4 16 = .ok (.iload_n 3, 1) := by decide +kernel
theorem dJ6_stringSize_0f7a4_17 : decode cJ6_stringSize_0f7a4 17 = .ok (.bipush 10, 2) := by decide +kernel
theorem dJ6_stringSize_0f7a4_19 : decode cJ6_stringSize_0f7a4 19 = .ok (.if_icmp .ge 23, 3) := by decide +kernel
theorem dJ6_stringSize_0f7a4_22 : decode cJ6_stringSize_0f7a4 22 = .ok (.iload_n 0, 1) := by decide +kernel
theorem dJ6_stringSize_0f7a4_23 : decode cJ6_stringSize_0f7a4 23 = .ok (.iload_n 2, 1) := by decide +kernel
theorem dJ6_stringSize_0f7a4_24 : decode cJ6_stringSize_0f7a4 24 = .ok (.if_icmp .le 7, 3) := by decide +kernel
theorem dJ6_stringSize_0f7a4_27 : decode cJ6_stringSize_0f7a4 27 = .ok (.iload_n 3, 1) := by decide +kernel
theorem dJ6_stringSize_0f7a4_28 : decode cJ6_stringSize_0f7a4 28 = .ok (.iload_n 1, 1) := by decide +kernel
theorem dJ6_stringSize_0f7a4_29 : decode cJ6_stringSize_0f7a4 29 = .ok (.iadd, 1) := by decide +kernel
theorem dJ6_stringSize_0f7a4_30 : decode cJ6_stringSize_0f7a4 30 = .ok (.ireturn, 1) := by decide +kernel
theorem dJ6_stringSize_0f7a4_31 : decode cJ6_stringSize_0f7a4 31 = .ok (.bipush 10, 2) := by decide +kernel
theorem dJ6_stringSize_0f7a4_33 : decode cJ6_stringSize_0f7a4 33 = .ok (.iload_n 2, 1) := by decide +kernel
theorem dJ6_stringSize_0f7a4_34 : decode cJ6_stringSize_0f7a4 34 = .ok (.imul, 1) := by decide +kernel
theorem dJ6_stringSize_0f7a4_35 : decode cJ6_stringSize_0f7a4 35 = .ok (.istore_n 2, 1) := by decide +kernel
theorem dJ6_stringSize_0f7a4_36 : decode cJ6_stringSize_0f7a4 36 = .ok (.iinc 3 1, 3) := by decide +kernel
theorem dJ6_stringSize_0f7a4_39 : decode cJ6_stringSize_0f7a4 39 = .ok (.goto (-23), 3) := by decide +kernel
theorem dJ6_stringSize_0f7a4_42 : decode cJ6_stringSize_0f7a4 42 = .ok (.bipush 10, 2) := by decide +kernel
theorem dJ6_stringSize_0f7a4_44 : decode cJ6_stringSize_0f7a4 44 = .ok (.iload_n 1, 1) := by decide +kernel
theorem dJ6_stringSize_0f7a4_45 : decode cJ6_stringSize_0f7a4 45 = .ok (.iadd, 1) := by decide +kernel
theorem dJ6_stringSize_0f7a4_46 : decode cJ6_stringSize_0f7a4 46 = .ok (.ireturn, 1) := by decide +kernel
theorem ab_k267_0 (K : ab_Kt) : ∀ q ∈ ab_l267_0, ab_OK K ab_mt ab_g267 q.1 q.2 := by
  unfold ab_l267_0
  exact List.forall_mem_cons.mpr ⟨ab_iconst_ok dJ6_stringSize_0f7a4_0 (by decide), List.forall_mem_cons.mpr ⟨ab_istore_n_ok dJ6_stringSize_0f7a4_1 rfl, List.forall_mem_cons.mpr ⟨ab_iload_n_ok dJ6_stringSize_0f7a4_2 rfl, List.forall_mem_cons.mpr ⟨ab_if_lt_ok dJ6_stringSize_0f7a4_3 (by decide), List.forall_mem_cons.mpr ⟨ab_iconst_ok dJ6_stringSize_0f7a4_6 (by decide), List.forall_mem_cons.mpr ⟨ab_istore_n_ok dJ6_stringSize_0f7a4_7 rfl, List.forall_mem_cons.mpr ⟨ab_iload_n_ok dJ6_stringSize_0f7a4_8 rfl, List.forall_mem_cons.mpr ⟨ab_ineg_ok dJ6_stringSize_0f7a4_9, List.forall_mem_cons.mpr ⟨ab_istore_n_ok dJ6_stringSize_0f7a4_10 rfl, List.forall_mem_cons.mpr ⟨ab_bipush_ok dJ6_stringSize_0f7a4_11 (by decide), List.forall_mem_cons.mpr ⟨ab_istore_n_ok dJ6_stringSize_0f7a4_13 rfl, List.forall_mem_cons.mpr ⟨ab_iconst_ok dJ6_stringSize_0f7a4_14 (by decide), List.forall_mem_cons.mpr ⟨ab_istore_n_ok dJ6_stringSize_0f7a4_15 rfl, List.forall_mem_cons.mpr ⟨ab_iload_n_ok dJ6_stringSize_0f7a4_16 rfl, List.forall_mem_cons.mpr ⟨ab_bipush_ok dJ6_stringSize_0f7a4_17 (by decide), List.forall_mem_cons.mpr ⟨ab_icmp_ge_ok dJ6_stringSize_0f7a4_19 (by decide), List.forall_mem_cons.mpr ⟨ab_iload_n_ok dJ6_stringSize_0f7a4_22 rfl, List.forall_mem_cons.mpr ⟨ab_iload_n_ok dJ6_stringSize_0f7a4_23 rfl, List.forall_mem_cons.mpr ⟨ab_icmp_le_ok dJ6_stringSize_0f7a4_24 (by decide), List.forall_mem_cons.mpr ⟨ab_iload_n_ok dJ6_stringSize_0f7a4_27 rfl, List.forall_mem_cons.mpr ⟨ab_iload_n_ok dJ6_stringSize_0f7a4_28 rfl, List.forall_mem_cons.mpr ⟨ab_iadd_ok dJ6_stringSize_0f7a4_29, List.forall_mem_cons.mpr ⟨ab_iret_ok dJ6_stringSize_0f7a4_30 rfl, List.forall_mem_cons.mpr ⟨ab_bipush_ok dJ6_stringSize_0f7a4_31 (by decide), List.forall_mem_cons.mpr ⟨ab_iload_n_ok dJ6_stringSize_0f7a4_33 rfl, List.forall_mem_cons.mpr ⟨ab_imul_ok dJ6_stringSize_0f7a4_34, List.forall_mem_cons.mpr ⟨ab_istore_n_ok dJ6_stringSize_0f7a4_35 rfl, List.forall_mem_cons.mpr ⟨ab_iinc_ok dJ6_stringSize_0f7a4_36 (by decide), List.forall_mem_cons.mpr ⟨ab_goto_ok dJ6_stringSize_0f7a4_39 (by decide), List.forall_mem_cons.mpr ⟨ab_bipush_ok dJ6_stringSize_0f7a4_42 (by decide), List.forall_mem_cons.mpr ⟨ab_iload_n_ok dJ6_stringSize_0f7a4_44 rfl, List.forall_mem_cons.mpr ⟨ab_iadd_ok dJ6_stringSize_0f7a4_45, List.forall_mem_cons.mpr ⟨ab_iret_ok dJ6_stringSize_0f7a4_46 rfl, fun _ h => absurd h List.not_mem_nil⟩⟩⟩⟩⟩⟩⟩⟩⟩⟩⟩⟩⟩⟩⟩⟩⟩⟩⟩⟩⟩⟩⟩⟩⟩⟩⟩⟩⟩⟩⟩⟩⟩
theorem ab_k267 (K : ab_Kt) : ∀ pc, ab_OK K ab_mt ab_g267 pc (ab_c267 pc) := ab_lk2_ok _ (List.forall_mem_cons.mpr ⟨ab_k267_0 K, fun _ h => absurd h List.not_mem_nil⟩)
theorem dJ6_getChars_ba4f3_0 : decode cJ6_getChars_ba4f3 0 = .ok (.iload_n 1, 1) := by decide +kernel
theorem dJ6_getChars_ba4f3_1 : decode cJ6_getChars_ba4f3 1 = .ok (.istore 5, 2) := by decide +kernel
theorem dJ6_getChars_ba4f3_3 : decode cJ6_getChars_ba4f3 3 = .ok (.iload_n 0, 1) := by decide +kernel
theorem dJ6_getChars_ba4f3_4 : decode cJ6_getChars_ba4f3 4 = .ok (.ifCond .ge 7, 3) := by decide +kernel
theorem dJ6_getChars_ba4f3_7 : decode cJ6_getChars_ba4f3 7 = .ok (.iconst 1, 1) := by decide +kernel
theorem dJ6_getChars_ba4f3_8 : decode cJ6_getChars_ba4f3 8 = .ok (.goto 4, 3) := by decide +kernel
theorem dJ6_getChars_ba4f3_11 : decode cJ6_getChars_ba4f3 11 = .ok (.iconst 0, 1) := by decide +kernel
theorem dJ6_getChars_ba4f3_12 : decode cJ6_getChars_ba4f3 12 = .ok (.istore 6, 2) := by decide +kernel
theorem dJ6_getChars_ba4f3_14 : decode cJ6_getChars_ba4f3 14 = .ok (.iload 6, 2) := by decide +kernel
theorem dJ6_getChars_ba4f3_16 : decode cJ6_getChars_ba4f3 16 = .ok (.ifCond .ne 6, 3) := by decide +kernel
theorem dJ6_getChars_ba4f3_19 : decode cJ6_getChars_ba4f3 19 = .ok (.iload_n 0, 1) := by decide +kernel
theorem dJ6_getChars_ba4f3_20 : decode cJ6_getChars_ba4f3 20 = .ok (.ineg, 1) := by decide +kernel
theorem dJ6_getChars_ba4f3_21 : decode cJ6_getChars_ba4f3 21 = .ok (.istore_n 0, 1) := by decide +kernel
theorem dJ6_getChars_ba4f3_22 : decode cJ6_getChars_ba4f3 22 = .ok (.iload_n 0, 1) := by decide +kernel
theorem dJ6_getChars_ba4f3_23 : decode cJ6_getChars_ba4f3 23 = .ok (.bipush (-100), 2) := by decide +kernel
theorem dJ6_getChars_ba4f3_25 : decode cJ6_getChars_ba4f3 25 = .ok (.if_icmp .gt 47, 3) := by decide +kernel
theorem dJ6_getChars_ba4f3_28 : decode cJ6_getChars_ba4f3 28 = .ok (.iload_n 0, 1) := by decide +kernel
theorem dJ6_getChars_ba4f3_29 : decode cJ6_getChars_ba4f3 29 = .ok (.bipush 100, 2) := by decide +kernel
theorem dJ6_getChars_ba4f3_31 : decode cJ6_getChars_ba4f3 31 = .ok (.idiv, 1) := by decide +kernel
theorem dJ6_getChars_ba4f3_32 : decode cJ6_getChars_ba4f3 32 = .ok (.istore_n 3, 1) := by decide +kernel
theorem dJ6_getChars_ba4f3_33 : decode cJ6_getChars_ba4f3 33 = .ok (.iload_n 3, 1) := by decide +kernel
theorem dJ6_getChars_ba4f3_34 : decode cJ6_getChars_ba4f3 34 = .ok (.bipush 100, 2) := by decide +kernel
theorem dJ6_getChars_ba4f3_36 : decode cJ6_getChars_ba4f3 36 = .ok (.imul, 1) := by decide +kernel
theorem dJ6_getChars_ba4f3_37 : decode cJ6_getChars_ba4f3 37 = .ok (.iload_n 0, 1) := by decide +kernel
theorem dJ6_getChars_ba4f3_38 : decode cJ6_getChars_ba4f3 38 = .ok (.isub, 1) := by decide +kernel
theorem dJ6_getChars_ba4f3_39 : decode cJ6_getChars_ba4f3 39 = .ok (.istore 4, 2) := by decide +kernel
theorem dJ6_getChars_ba4f3_41 : decode cJ6_getChars_ba4f3 41 = .ok (.iload_n 3, 1) := by decide +kernel
theorem dJ6_getChars_ba4f3_42 : decode cJ6_getChars_ba4f3 42 = .ok (.istore_n 0, 1) := by decide +kernel
theorem dJ6_getChars_ba4f3_43 : decode cJ6_getChars_ba4f3 43 = .ok (.aload_n 2, 1) := by decide +kernel
theorem dJ6_getChars_ba4f3_44 : decode cJ6_getChars_ba4f3 44 = .ok (.iinc 5 (-1), 3) := by decide +kernel
theorem dJ6_getChars_ba4f3_47 : decode cJ6_getChars_ba4f3 47 = .ok (.iload 5, 2) := by decide +kernel
theorem dJ6_getChars_ba4f3_49 : decode cJ6_getChars_ba4f3 49 = .ok (.getstatic 83, 3) := by decide +kernel
theorem dJ6_getChars_ba4f3_52 : decode cJ6_getChars_ba4f3 52 = .ok (.iload 4, 2) := by decide +kernel
theorem dJ6_getChars_ba4f3_54 : decode cJ6_getChars_ba4f3 54 = .ok (.baload, 1) := by decide +kernel
theorem dJ6_getChars_ba4f3_55 : decode cJ6_getChars_ba4f3 55 = .ok (.bastore, 1) := by decide +kernel
theorem dJ6_getChars_ba4f3_56 : decode cJ6_getChars_ba4f3 56 = .ok (.aload_n 2, 1) := by decide +kernel
theorem dJ6_getChars_ba4f3_57 : decode cJ6_getChars_ba4f3 57 = .ok (.iinc 5 (-1), 3) := by decide +kernel
theorem dJ6_getChars_ba4f3_60 : decode cJ6_getChars_ba4f3 60 = .ok (.iload 5, 2) := by decide +kernel
theorem dJ6_getChars_ba4f3_62 : decode cJ6_getChars_ba4f3 62 = .ok (.getstatic 87, 3) := by decide +kernel
theorem dJ6_getChars_ba4f3_65 : decode cJ6_getChars_ba4f3 65 = .ok (.iload 4, 2) := by decide +kernel
theorem ab_k268_0 (K : ab_Kt) : ∀ q ∈ ab_l268_0, ab_OK K ab_mt ab_g268 q.1 q.2 := by
  unfold ab_l268_0
  exact List.forall_mem_cons.mpr ⟨ab_iload_n_ok dJ6_getChars_ba4f3_0 rfl, List.forall_mem_cons.mpr ⟨ab_istore_ok dJ6_getChars_ba4f3_1, List.forall_mem_cons.mpr ⟨ab_iload_n_ok dJ6_getChars_ba4f3_3 rfl, List.forall_mem_cons.mpr ⟨ab_if_ge_ok dJ6_getChars_ba4f3_4 (by decide), List.forall_mem_cons.mpr ⟨ab_iconst_ok dJ6_getChars_ba4f3_7 (by decide), List.forall_mem_cons.mpr ⟨ab_goto_ok dJ6_getChars_ba4f3_8 (by decide), List.forall_mem_cons.mpr ⟨ab_iconst_ok dJ6_getChars_ba4f3_11 (by decide), List.forall_mem_cons.mpr ⟨ab_istore_ok dJ6_getChars_ba4f3_12, List.forall_mem_cons.mpr ⟨ab_iload_ok dJ6_getChars_ba4f3_14, List.forall_mem_cons.mpr ⟨ab_if_ne_ok dJ6_getChars_ba4f3_16 (by decide), List.forall_mem_cons.mpr ⟨ab_iload_n_ok dJ6_getChars_ba4f3_19 rfl, List.forall_mem_cons.mpr ⟨ab_ineg_ok dJ6_getChars_ba4f3_20, List.forall_mem_cons.mpr ⟨ab_istore_n_ok dJ6_getChars_ba4f3_21 rfl, List.forall_mem_cons.mpr ⟨ab_iload_n_ok dJ6_getChars_ba4f3_22 rfl, List.forall_mem_cons.mpr ⟨ab_bipush_ok dJ6_getChars_ba4f3_23 (by decide), List.forall_mem_cons.mpr ⟨ab_icmp_gt_ok dJ6_getChars_ba4f3_25 (by decide), List.forall_mem_cons.mpr ⟨ab_iload_n_ok dJ6_getChars_ba4f3_28 rfl, List.forall_mem_cons.mpr ⟨ab_bipush_ok dJ6_getChars_ba4f3_29 (by decide), List.forall_mem_cons.mpr ⟨ab_idiv_ok dJ6_getChars_ba4f3_31, List.forall_mem_cons.mpr ⟨ab_istore_n_ok dJ6_getChars_ba4f3_32 rfl, List.forall_mem_cons.mpr ⟨ab_iload_n_ok dJ6_getChars_ba4f3_33 rfl, List.forall_mem_cons.mpr ⟨ab_bipush_ok dJ6_getChars_ba4f3_34 (by decide), List.forall_mem_cons.mpr ⟨ab_imul_ok dJ6_getChars_ba4f3_36, List.forall_mem_cons.mpr ⟨ab_iload_n_ok dJ6_getChars_ba4f3_37 rfl, List.forall_mem_cons.mpr ⟨ab_isub_ok dJ6_getChars_ba4f3_38, List.forall_mem_cons.mpr ⟨ab_istore_ok dJ6_getChars_ba4f3_39, List.forall_mem_cons.mpr ⟨ab_iload_n_ok dJ6_getChars_ba4f3_41 rfl, List.forall_mem_cons.mpr ⟨ab_istore_n_ok dJ6_getChars_ba4f3_42 rfl, List.forall_mem_cons.mpr ⟨ab_aload_n_ok dJ6_getChars_ba4f3_43 rfl, List.forall_mem_cons.mpr ⟨ab_iinc_ok dJ6_getChars_ba4f3_44 (by decide), List.forall_mem_cons.mpr ⟨ab_iload_ok dJ6_getChars_ba4f3_47, List.forall_mem_cons.mpr ⟨ab_gone_ok dJ6_getChars_ba4f3_49 ab_w1297, List.forall_mem_cons.mpr ⟨ab_iload_ok dJ6_getChars_ba4f3_52, List.forall_mem_cons.mpr ⟨ab_tone_ok dJ6_getChars_ba4f3_54, List.forall_mem_cons.mpr ⟨ab_ast4_ok dJ6_getChars_ba4f3_55, List.forall_mem_cons.mpr ⟨ab_aload_n_ok dJ6_getChars_ba4f3_56 rfl, List.forall_mem_cons.mpr ⟨ab_iinc_ok dJ6_getChars_ba4f3_57 (by decide), List.forall_mem_cons.mpr ⟨ab_iload_ok dJ6_getChars_ba4f3_60, List.forall_mem_cons.mpr ⟨ab_gten_ok dJ6_getChars_ba4f3_62 ab_w1298, List.forall_mem_cons.mpr ⟨ab_iload_ok dJ6_getChars_ba4f3_65, fun _ h => absurd h List.not_mem_nil⟩⟩⟩⟩⟩⟩⟩⟩⟩⟩⟩⟩⟩⟩⟩⟩⟩⟩⟩⟩⟩⟩⟩⟩⟩⟩⟩⟩⟩⟩⟩⟩⟩⟩⟩⟩⟩⟩⟩⟩
theorem dJ6_getChars_ba4f3_67 : decode cJ6_getChars_ba4f3 67 = .ok (.baload, 1) := by decide +kernel
theorem dJ6_getChars_ba4f3_68 : decode cJ6_getChars_ba4f3 68 = .ok (.bastore, 1) := by decide +kernel
theorem dJ6_getChars_ba4f3_69 : decode cJ6_getChars_ba4f3 69 = .ok (.goto (-47), 3) := by decide +kernel
theorem dJ6_getChars_ba4f3_72 : decode cJ6_getChars_ba4f3 72 = .ok (.aload_n 2, 1) := by decide +kernel
theorem dJ6_getChars_ba4f3_73 : decode cJ6_getChars_ba4f3 73 = .ok (.iinc 5 (-1), 3) := by decide +kernel
theorem dJ6_getChars_ba4f3_76 : decode cJ6_getChars_ba4f3 76 = .ok (.iload 5, 2) := by decide +kernel
theorem dJ6_getChars_ba4f3_78 : decode cJ6_getChars_ba4f3 78 = .ok (.getstatic 83, 3) := by decide +kernel
theorem dJ6_getChars_ba4f3_81 : decode cJ6_getChars_ba4f3 81 = .ok (.iload_n 0, 1) := by decide +kernel
theorem dJ6_getChars_ba4f3_82 : decode cJ6_getChars_ba4f3 82 = .ok (.ineg, 1) := by decide +kernel
theorem dJ6_getChars_ba4f3_83 : decode cJ6_getChars_ba4f3 83 = .ok (.baload, 1) := by decide +kernel
theorem dJ6_getChars_ba4f3_84 : decode cJ6_getChars_ba4f3 84 = .ok (.bastore, 1) := by decide +kernel
theorem dJ6_getChars_ba4f3_85 : decode cJ6_getChars_ba4f3 85 = .ok (.iload_n 0, 1) := by decide +kernel
theorem dJ6_getChars_ba4f3_86 : decode cJ6_getChars_ba4f3 86 = .ok (.bipush (-9), 2) := by decide +kernel
theorem dJ6_getChars_ba4f3_88 : decode cJ6_getChars_ba4f3 88 = .ok (.if_icmp .ge 16, 3) := by decide +kernel
theorem dJ6_getChars_ba4f3_91 : decode cJ6_getChars_ba4f3 91 = .ok (.aload_n 2, 1) := by decide +kernel
theorem dJ6_getChars_ba4f3_92 : decode cJ6_getChars_ba4f3 92 = .ok (.iinc 5 (-1), 3) := by decide +kernel
theorem dJ6_getChars_ba4f3_95 : decode cJ6_getChars_ba4f3 95 = .ok (.iload 5, 2) := by decide +kernel
theorem dJ6_getChars_ba4f3_97 : decode cJ6_getChars_ba4f3 97 = .ok (.getstatic 87, 3) := by decide +kernel
theorem dJ6_getChars_ba4f3_100 : decode cJ6_getChars_ba4f3 100 = .ok (.iload_n 0, 1) := by decide +kernel
theorem dJ6_getChars_ba4f3_101 : decode cJ6_getChars_ba4f3 101 = .ok (.ineg, 1) := by decide +kernel
theorem dJ6_getChars_ba4f3_102 : decode cJ6_getChars_ba4f3 102 = .ok (.baload, 1) := by decide +kernel
theorem dJ6_getChars_ba4f3_103 : decode cJ6_getChars_ba4f3 103 = .ok (.bastore, 1) := by decide +kernel
theorem dJ6_getChars_ba4f3_104 : decode cJ6_getChars_ba4f3 104 = .ok (.iload 6, 2) := by decide +kernel
theorem dJ6_getChars_ba4f3_106 : decode cJ6_getChars_ba4f3 106 = .ok (.ifCond .eq 12, 3) := by decide +kernel
theorem dJ6_getChars_ba4f3_109 : decode cJ6_getChars_ba4f3 109 = .ok (.aload_n 2, 1) := by decide +kernel
theorem dJ6_getChars_ba4f3_110 : decode cJ6_getChars_ba4f3 110 = .ok (.iinc 5 (-1), 3) := by decide +kernel
theorem dJ6_getChars_ba4f3_113 : decode cJ6_getChars_ba4f3 113 = .ok (.iload 5, 2) := by decide +kernel
theorem dJ6_getChars_ba4f3_115 : decode cJ6_getChars_ba4f3 115 = .ok (.bipush 45, 2) := by decide +kernel
theorem dJ6_getChars_ba4f3_117 : decode cJ6_getChars_ba4f3 117 = .ok (.bastore, 1) := by decide +kernel
theorem dJ6_getChars_ba4f3_118 : decode cJ6_getChars_ba4f3 118 = .ok (.iload 5, 2) := by decide +kernel
theorem dJ6_getChars_ba4f3_120 : decode cJ6_getChars_ba4f3 120 = .ok (.ireturn, 1) := by decide +kernel
theorem ab_k268_1 (K : ab_Kt) : ∀ q ∈ ab_l268_1, ab_OK K ab_mt ab_g268 q.1 q.2 := by
  unfold ab_l268_1
  exact List.forall_mem_cons.mpr ⟨ab_tten_ok dJ6_getChars_ba4f3_67, List.forall_mem_cons.mpr ⟨ab_ast4_ok dJ6_getChars_ba4f3_68, List.forall_mem_cons.mpr ⟨ab_goto_ok dJ6_getChars_ba4f3_69 (by decide), List.forall_mem_cons.mpr ⟨ab_aload_n_ok dJ6_getChars_ba4f3_72 rfl, List.forall_mem_cons.mpr ⟨ab_iinc_ok dJ6_getChars_ba4f3_73 (by decide), List.forall_mem_cons.mpr ⟨ab_iload_ok dJ6_getChars_ba4f3_76, List.forall_mem_cons.mpr ⟨ab_gone_ok dJ6_getChars_ba4f3_78 ab_w1297, List.forall_mem_cons.mpr ⟨ab_iload_n_ok dJ6_getChars_ba4f3_81 rfl, List.forall_mem_cons.mpr ⟨ab_ineg_ok dJ6_getChars_ba4f3_82, List.forall_mem_cons.mpr ⟨ab_tone_ok dJ6_getChars_ba4f3_83, List.forall_mem_cons.mpr ⟨ab_ast4_ok dJ6_getChars_ba4f3_84, List.forall_mem_cons.mpr ⟨ab_iload_n_ok dJ6_getChars_ba4f3_85 rfl, List.forall_mem_cons.mpr ⟨ab_bipush_ok dJ6_getChars_ba4f3_86 (by decide), List.forall_mem_cons.mpr ⟨ab_icmp_ge_ok dJ6_getChars_ba4f3_88 (by decide), List.forall_mem_cons.mpr ⟨ab_aload_n_ok dJ6_getChars_ba4f3_91 rfl, List.forall_mem_cons.mpr ⟨ab_iinc_ok dJ6_getChars_ba4f3_92 (by decide), List.forall_mem_cons.mpr ⟨ab_iload_ok dJ6_getChars_ba4f3_95, List.forall_mem_cons.mpr ⟨ab_gten_ok dJ6_getChars_ba4f3_97 ab_w1298, List.forall_mem_cons.mpr ⟨ab_iload_n_ok dJ6_getChars_ba4f3_100 rfl, List.forall_mem_cons.mpr ⟨ab_ineg_ok dJ6_getChars_ba4f3_101, List.forall_mem_cons.mpr ⟨ab_tten_ok dJ6_getChars_ba4f3_102, List.forall_mem_cons.mpr ⟨ab_ast4_ok dJ6_getChars_ba4f3_103, List.forall_mem_cons.mpr ⟨ab_iload_ok dJ6_getChars_ba4f3_104, List.forall_mem_cons.mpr ⟨ab_if_eq_ok dJ6_getChars_ba4f3_106 (by decide), List.forall_mem_cons.mpr ⟨ab_aload_n_ok dJ6_getChars_ba4f3_109 rfl, List.forall_mem_cons.mpr ⟨ab_iinc_ok dJ6_getChars_ba4f3_110 (by decide), List.forall_mem_cons.mpr ⟨ab_iload_ok dJ6_getChars_ba4f3_113, List.forall_mem_cons.mpr ⟨ab_bipush_ok dJ6_getChars_ba4f3_115 (by decide), List.forall_mem_cons.mpr ⟨ab_ast4_ok dJ6_getChars_ba4f3_117, List.forall_mem_cons.mpr ⟨ab_iload_ok dJ6_getChars_ba4f3_118, List.forall_mem_cons.mpr ⟨ab_iret_ok dJ6_getChars_ba4f3_120 rfl, fun _ h => absurd h List.not_mem_nil⟩⟩⟩⟩⟩⟩⟩⟩⟩⟩⟩⟩⟩⟩⟩⟩⟩⟩⟩⟩⟩⟩⟩⟩⟩⟩⟩⟩⟩⟩⟩
theorem ab_k268 (K : ab_Kt) : ∀ pc, ab_OK K ab_mt ab_g268 pc (ab_c268 pc) := ab_lk2_ok _ (List.forall_mem_cons.mpr ⟨ab_k268_0 K, List.forall_mem_cons.mpr ⟨ab_k268_1 K, fun _ h => absurd h List.not_mem_nil⟩⟩)
theorem dJ1_canEncode_fc78d_0 : decode cJ1_canEncode_fc78d 0 = .ok (.iload_n 0, 1) := by decide +kernel
theorem dJ1_canEncode_fc78d_1 : decode cJ1_canEncode_fc78d 1 = .ok (.sipush 255, 3) := by decide +kernel
theorem dJ1_canEncode_fc78d_4 : decode cJ1_canEncode_fc78d 4 = .ok (.if_icmp .gt 7, 3) := by decide +kernel
theorem dJ1_canEncode_fc78d_7 : decode cJ1_canEncode_fc78d 7 = .ok (.iconst 1, 1) := by decide +kernel
theorem dJ1_canEncode_fc78d_8 : decode cJ1_canEncode_fc78d 8 = .ok (.goto 4, 3) := by decide +kernel
theorem dJ1_canEncode_fc78d_11 : decode cJ1_canEncode_fc78d 11 = .ok (.iconst 0, 1) := by decide +kernel
theorem dJ1_canEncode_fc78d_12 : decode cJ1_canEncode_fc78d 12 = .ok (.ireturn, 1) := by decide +kernel
theorem ab_k269_0 (K : ab_Kt) : ∀ q ∈ ab_l269_0, ab_OK K ab_mt ab_g269 q.1 q.2 := by
  unfold ab_l269_0
  exact List.forall_mem_cons.mpr ⟨ab_iload_n_ok dJ1_canEncode_fc78d_0 rfl, List.forall_mem_cons.mpr ⟨ab_sipush_ok dJ1_canEncode_fc78d_1 (by decide), List.forall_mem_cons.mpr ⟨ab_icmp_gt_ok dJ1_canEncode_fc78d_4 (by decide), List.forall_mem_cons.mpr ⟨ab_iconst_ok dJ1_canEncode_fc78d_7 (by decide), List.forall_mem_cons.mpr ⟨ab_goto_ok dJ1_canEncode_fc78d_8 (by decide), List.forall_mem_cons.mpr ⟨ab_iconst_ok dJ1_canEncode_fc78d_11 (by decide), List.forall_mem_cons.mpr ⟨ab_zret_ok dJ1_canEncode_fc78d_12 rfl, fun _ h => absurd h List.not_mem_nil⟩⟩⟩⟩⟩⟩⟩
theorem ab_k269 (K : ab_Kt) : ∀ pc, ab_OK K ab_mt ab_g269 pc (ab_c269 pc) := ab_lk2_ok _ (List.forall_mem_cons.mpr ⟨ab_k269_0 K, fun _ h => absurd h List.not_mem_nil⟩)
theorem dX2_formOf_0 : decode cX2_formOf 0 = .ok (.iload_n 0, 1) := by decide +kernel
theorem dX2_formOf_1 : decode cX2_formOf 1 = .ok (.tableswitch 122 100 119 #[116, 113, 122, 95, 122, 122, 122, 122, 104, 122, 122, 122, 107, 122, 122, 98, 110, 101, 122, 119], 95) := by decide +kernel
theorem dX2_formOf_96 : decode cX2_formOf 96 = .ok (.ldc 66, 2) := by decide +kernel
theorem dX2_formOf_98 : decode cX2_formOf 98 = .ok (.areturn, 1) := by decide +kernel
theorem dX2_formOf_99 : decode cX2_formOf 99 = .ok (.ldc 68, 2) := by decide +kernel
theorem dX2_formOf_101 : decode cX2_formOf 101 = .ok (.areturn, 1) := by decide +kernel
theorem dX2_formOf_102 : decode cX2_formOf 102 = .ok (.ldc 68, 2) := by decide +kernel
theorem dX2_formOf_104 : decode cX2_formOf 104 = .ok (.areturn, 1) := by decide +kernel
theorem dX2_formOf_105 : decode cX2_formOf 105 = .ok (.ldc 70, 2) := by decide +kernel
theorem dX2_formOf_107 : decode cX2_formOf 107 = .ok (.areturn, 1) := by decide +kernel
theorem dX2_formOf_108 : decode cX2_formOf 108 = .ok (.ldc 70, 2) := by decide +kernel
theorem dX2_formOf_110 : decode cX2_formOf 110 = .ok (.areturn, 1) := by decide +kernel
theorem dX2_formOf_111 : decode cX2_formOf 111 = .ok (.ldc 68, 2) := by decide +kernel
theorem dX2_formOf_113 : decode cX2_formOf 113 = .ok (.areturn, 1) := by decide +kernel
theorem dX2_formOf_114 : decode cX2_formOf 114 = .ok (.ldc 72, 2) := by decide +kernel
theorem dX2_formOf_116 : decode cX2_formOf 116 = .ok (.areturn, 1) := by decide +kernel
theorem dX2_formOf_117 : decode cX2_formOf 117 = .ok (.ldc 68, 2) := by decide +kernel
theorem dX2_formOf_119 : decode cX2_formOf 119 = .ok (.areturn, 1) := by decide +kernel
theorem dX2_formOf_120 : decode cX2_formOf 120 = .ok (.ldc 74, 2) := by decide +kernel
theorem dX2_formOf_122 : decode cX2_formOf 122 = .ok (.areturn, 1) := by decide +kernel
theorem dX2_formOf_123 : decode cX2_formOf 123 = .ok (.ldc 76, 2) := by decide +kernel
theorem dX2_formOf_125 : decode cX2_formOf 125 = .ok (.areturn, 1) := by decide +kernel
theorem ab_k270_0 (K : ab_Kt) : ∀ q ∈ ab_l270_0, ab_OK K ab_mt ab_g270 q.1 q.2 := by
  unfold ab_l270_0
  exact List.forall_mem_cons.mpr ⟨ab_iload_n_ok dX2_formOf_0 rfl, List.forall_mem_cons.mpr ⟨ab_tsw_ok dX2_formOf_1 (by decide) (by decide) (by decide), List.forall_mem_cons.mpr ⟨ab_gstr_ok (i := 0) (by decide) dX2_formOf_96 rfl, List.forall_mem_cons.mpr ⟨ab_aret_ok dX2_formOf_98 (Or.inl ⟨_, rfl⟩) rfl, List.forall_mem_cons.mpr ⟨ab_gstr_ok (i := 1) (by decide) dX2_formOf_99 rfl, List.forall_mem_cons.mpr ⟨ab_aret_ok dX2_formOf_101 (Or.inl ⟨_, rfl⟩) rfl, List.forall_mem_cons.mpr ⟨ab_gstr_ok (i := 1) (by decide) dX2_formOf_102 rfl, List.forall_mem_cons.mpr ⟨ab_aret_ok dX2_formOf_104 (Or.inl ⟨_, rfl⟩) rfl, List.forall_mem_cons.mpr ⟨ab_gstr_ok (i := 2) (by decide) dX2_formOf_105 rfl, List.forall_mem_cons.mpr ⟨ab_aret_ok dX2_formOf_107 (Or.inl ⟨_, rfl⟩) rfl, List.forall_mem_cons.mpr ⟨ab_gstr_ok (i := 2) (by decide) dX2_formOf_108 rfl, List.forall_mem_cons.mpr ⟨ab_aret_ok dX2_formOf_110 (Or.inl ⟨_, rfl⟩) rfl, List.forall_mem_cons.mpr ⟨ab_gstr_ok (i := 1) (by decide) dX2_formOf_111 rfl, List.forall_mem_cons.mpr ⟨ab_aret_ok dX2_formOf_113 (Or.inl ⟨_, rfl⟩) rfl, List.forall_mem_cons.mpr ⟨ab_gstr_ok (i := 3) (by decide) dX2_formOf_114 rfl, List.forall_mem_cons.mpr ⟨ab_aret_ok dX2_formOf_116 (Or.inl ⟨_, rfl⟩) rfl, List.forall_mem_cons.mpr ⟨ab_gstr_ok (i := 1) (by decide) dX2_formOf_117 rfl, List.forall_mem_cons.mpr ⟨ab_aret_ok dX2_formOf_119 (Or.inl ⟨_, rfl⟩) rfl, List.forall_mem_cons.mpr ⟨ab_gstr_ok (i := 4) (by decide) dX2_formOf_120 rfl, List.forall_mem_cons.mpr ⟨ab_aret_ok dX2_formOf_122 (Or.inl ⟨_, rfl⟩) rfl, List.forall_mem_cons.mpr ⟨ab_gstr_ok (i := 5) (by decide) dX2_formOf_123 rfl, List.forall_mem_cons.mpr ⟨ab_aret_ok dX2_formOf_125 (Or.inl ⟨_, rfl⟩) rfl, fun _ h => absurd h List.not_mem_nil⟩⟩⟩⟩⟩⟩⟩⟩⟩⟩⟩⟩⟩⟩⟩⟩⟩⟩⟩⟩⟩⟩
theorem ab_k270 (K : ab_Kt) : ∀ pc, ab_OK K ab_mt ab_g270 pc (ab_c270 pc) := ab_lk2_ok _ (List.forall_mem_cons.mpr ⟨ab_k270_0 K, fun _ h => absurd h List.not_mem_nil⟩)
theorem dJ0_isEmpty_aae02_0 : decode cJ0_isEmpty_aae02 0 = .ok (.aload_n 0, 1) := by decide +kernel
theorem dJ0_isEmpty_aae02_1 : decode cJ0_isEmpty_aae02 1 = .ok (.getfield 9, 3) := by decide +kernel
theorem dJ0_isEmpty_aae02_4 : decode cJ0_isEmpty_aae02 4 = .ok (.arraylength, 1) := by decide +kernel
theorem dJ0_isEmpty_aae02_5 : decode cJ0_isEmpty_aae02 5 = .ok (.ifCond .ne 7, 3) := by decide +kernel
theorem dJ0_isEmpty_aae02_8 : decode cJ0_isEmpty_aae02 8 = .ok (.iconst 1, 1) := by decide +kernel
theorem dJ0_isEmpty_aae02_9 : decode cJ0_isEmpty_aae02 9 = .ok (.goto 4, 3) := by decide +kernel
theorem dJ0_isEmpty_aae02_12 : decode cJ0_isEmpty_aae02 12 = .ok (.iconst 0, 1) := by decide +kernel
theorem dJ0_isEmpty_aae02_13 : decode cJ0_isEmpty_aae02 13 = .ok (.ireturn, 1) := by decide +kernel
theorem ab_k271_0 (K : ab_Kt) : ∀ q ∈ ab_l271_0, ab_OK K ab_mt ab_g271 q.1 q.2 := by
  unfold ab_l271_0
  exact List.forall_mem_cons.mpr ⟨ab_aload_n_ok dJ0_isEmpty_aae02_0 rfl, List.forall_mem_cons.mpr ⟨ab_sval_ok dJ0_isEmpty_aae02_1 ab_w1299, List.forall_mem_cons.mpr ⟨ab_slenb_ok dJ0_isEmpty_aae02_4, List.forall_mem_cons.mpr ⟨ab_if_ne_ok dJ0_isEmpty_aae02_5 (by decide), List.forall_mem_cons.mpr ⟨ab_iconst_ok dJ0_isEmpty_aae02_8 (by decide), List.forall_mem_cons.mpr ⟨ab_goto_ok dJ0_isEmpty_aae02_9 (by decide), List.forall_mem_cons.mpr ⟨ab_iconst_ok dJ0_isEmpty_aae02_12 (by decide), List.forall_mem_cons.mpr ⟨ab_zret_ok dJ0_isEmpty_aae02_13 rfl, fun _ h => absurd h List.not_mem_nil⟩⟩⟩⟩⟩⟩⟩⟩
theorem ab_k271 (K : ab_Kt) : ∀ pc, ab_OK K ab_mt ab_g271 pc (ab_c271 pc) := ab_lk2_ok _ (List.forall_mem_cons.mpr ⟨ab_k271_0 K, fun _ h => absurd h List.not_mem_nil⟩)
theorem dJ0_length_8abf5_0 : decode cJ0_length_8abf5 0 = .ok (.aload_n 0, 1) := by decide +kernel
theorem dJ0_length_8abf5_1 : decode cJ0_length_8abf5 1 = .ok (.getfield 9, 3) := by decide +kernel
theorem dJ0_length_8abf5_4 : decode cJ0_length_8abf5 4 = .ok (.arraylength, 1) := by decide +kernel
theorem dJ0_length_8abf5_5 : decode cJ0_length_8abf5 5 = .ok (.aload_n 0, 1) := by decide +kernel
theorem dJ0_length_8abf5_6 : decode cJ0_length_8abf5 6 = .ok (.invokevirtual 335, 3) := by decide +kernel
theorem dJ0_length_8abf5_9 : decode cJ0_length_8abf5 9 = .ok (.ishr, 1) := by decide +kernel
theorem dJ0_length_8abf5_10 : decode cJ0_length_8abf5 10 = .ok (.ireturn, 1) := by decide +kernel
theorem ab_k272_0 (K : ab_Kt) : ∀ q ∈ ab_l272_0, ab_OK K ab_mt ab_g272 q.1 q.2 := by
  unfold ab_l272_0
  exact List.forall_mem_cons.mpr ⟨ab_aload_n_ok dJ0_length_8abf5_0 rfl, List.forall_mem_cons.mpr ⟨ab_sval_ok dJ0_length_8abf5_1 ab_w1299, List.forall_mem_cons.mpr ⟨ab_slenb_ok dJ0_length_8abf5_4, List.forall_mem_cons.mpr ⟨ab_aload_n_ok dJ0_length_8abf5_5 rfl, List.forall_mem_cons.mpr ⟨ab_callT_ok' (G' := ab_g279) dJ0_length_8abf5_6 ab_m279 rfl (by decide) (by decide) (ab_l4 ab_w1300 ab_w1301 ab_w1302 ab_w1213) ab_w1303 rfl ⟨by decide, by decide, by decide +kernel⟩, List.forall_mem_cons.mpr ⟨ab_ishr_ok dJ0_length_8abf5_9, List.forall_mem_cons.mpr ⟨ab_iret_ok dJ0_length_8abf5_10 rfl, fun _ h => absurd h List.not_mem_nil⟩⟩⟩⟩⟩⟩⟩
theorem ab_k272 (K : ab_Kt) : ∀ pc, ab_OK K ab_mt ab_g272 pc (ab_c272 pc) := ab_lk2_ok _ (List.forall_mem_cons.mpr ⟨ab_k272_0 K, fun _ h => absurd h List.not_mem_nil⟩)
theorem dJ0_charAt_5068e_0 : decode cJ0_charAt_5068e 0 = .ok (.aload_n 0, 1) := by decide +kernel
theorem dJ0_charAt_5068e_1 : decode cJ0_charAt_5068e 1 = .ok (.invokevirtual 492, 3) := by decide +kernel
theorem dJ0_charAt_5068e_4 : decode cJ0_charAt_5068e 4 = .ok (.ifCond .eq 12, 3) := by decide +kernel
theorem dJ0_charAt_5068e_7 : decode cJ0_charAt_5068e 7 = .ok (.aload_n 0, 1) := by decide +kernel
theorem dJ0_charAt_5068e_8 : decode cJ0_charAt_5068e 8 = .ok (.getfield 9, 3) := by decide +kernel
theorem dJ0_charAt_5068e_11 : decode cJ0_charAt_5068e 11 = .ok (.iload_n 1, 1) := by decide +kernel
theorem dJ0_charAt_5068e_12 : decode cJ0_charAt_5068e 12 = .ok (.invokestatic 495, 3) := by decide +kernel
theorem dJ0_charAt_5068e_15 : decode cJ0_charAt_5068e 15 = .ok (.ireturn, 1) := by decide +kernel
theorem dJ0_charAt_5068e_16 : decode cJ0_charAt_5068e 16 = .ok (.aload_n 0, 1) := by decide +kernel
theorem dJ0_charAt_5068e_17 : decode cJ0_charAt_5068e 17 = .ok (.getfield 9, 3) := by decide +kernel
theorem dJ0_charAt_5068e_20 : decode cJ0_charAt_5068e 20 = .ok (.iload_n 1, 1) := by decide +kernel
theorem ab_k273_0 (K : ab_Kt) : ∀ q ∈ ab_l273_0, ab_OK K ab_mt ab_g273 q.1 q.2 := by
  unfold ab_l273_0
  exact List.forall_mem_cons.mpr ⟨ab_aload_n_ok dJ0_charAt_5068e_0 rfl, List.forall_mem_cons.mpr ⟨ab_callT_ok' (G' := ab_g280) dJ0_charAt_5068e_1 ab_m280 rfl (by decide) (by decide) (ab_l4 ab_w1304 ab_w1305 ab_w1306 ab_w1213) ab_w1307 rfl ⟨by decide, by decide, by decide +kernel⟩, List.forall_mem_cons.mpr ⟨ab_if_eq_ok dJ0_charAt_5068e_4 (by decide), List.forall_mem_cons.mpr ⟨ab_aload_n_ok dJ0_charAt_5068e_7 rfl, List.forall_mem_cons.mpr ⟨ab_sval_ok dJ0_charAt_5068e_8 ab_w1299, List.forall_mem_cons.mpr ⟨ab_iload_n_ok dJ0_charAt_5068e_11 rfl, List.forall_mem_cons.mpr ⟨ab_callS_ok' (G' := ab_g281) dJ0_charAt_5068e_12 ab_m281 (by decide) (by decide) (ab_l3 ab_w1308 ab_w1309 ab_w1235) ab_w1310 rfl ⟨by decide, by decide, by decide +kernel⟩, List.forall_mem_cons.mpr ⟨ab_cret_ok dJ0_charAt_5068e_15 rfl, List.forall_mem_cons.mpr ⟨ab_aload_n_ok dJ0_charAt_5068e_16 rfl, List.forall_mem_cons.mpr ⟨ab_sval_ok dJ0_charAt_5068e_17 ab_w1299, List.forall_mem_cons.mpr ⟨ab_iload_n_ok dJ0_charAt_5068e_20 rfl, fun _ h => absurd h List.not_mem_nil⟩⟩⟩⟩⟩⟩⟩⟩⟩⟩⟩
theorem ab_k273 (K : ab_Kt) : ∀ pc, ab_OK K ab_mt ab_g273 pc (ab_c273 pc) := ab_lk2_ok _ (List.forall_mem_cons.mpr ⟨ab_k273_0 K, fun _ h => absurd h List.not_mem_nil⟩)
theorem dX2_readPart_0 : decode cX2_readPart 0 = .ok (.iload_n 1, 1) := by decide +kernel
theorem dX2_readPart_1 : decode cX2_readPart 1 = .ok (.tableswitch 59 33 37 #[47, 59, 35, 59, 41], 35) := by decide +kernel
theorem dX2_readPart_36 : decode cX2_readPart 36 = .ok (.aload_n 0, 1) := by decide +kernel
theorem dX2_readPart_37 : decode cX2_readPart 37 = .ok (.iconst 1, 1) := by decide +kernel
theorem dX2_readPart_38 : decode cX2_readPart 38 = .ok (.invokevirtual 78, 3) := by decide +kernel
theorem dX2_readPart_41 : decode cX2_readPart 41 = .ok (.ireturn, 1) := by decide +kernel
theorem dX2_readPart_42 : decode cX2_readPart 42 = .ok (.aload_n 0, 1) := by decide +kernel
theorem dX2_readPart_43 : decode cX2_readPart 43 = .ok (.iconst 2, 1) := by decide +kernel
theorem dX2_readPart_44 : decode cX2_readPart 44 = .ok (.invokevirtual 78, 3) := by decide +kernel
theorem dX2_readPart_47 : decode cX2_readPart 47 = .ok (.ireturn, 1) := by decide +kernel
theorem dX2_readPart_48 : decode cX2_readPart 48 = .ok (.aload_n 0, 1) := by decide +kernel
theorem dX2_readPart_49 : decode cX2_readPart 49 = .ok (.aload_n 0, 1) := by decide +kernel
theorem dX2_readPart_50 : decode cX2_readPart 50 = .ok (.bipush 33, 2) := by decide +kernel
theorem dX2_readPart_52 : decode cX2_readPart 52 = .ok (.invokevirtual 36, 3) := by decide +kernel
theorem dX2_readPart_55 : decode cX2_readPart 55 = .ok (.putfield 82, 3) := by decide +kernel
theorem dX2_readPart_58 : decode cX2_readPart 58 = .ok (.iconst 1, 1) := by decide +kernel
theorem dX2_readPart_59 : decode cX2_readPart 59 = .ok (.ireturn, 1) := by decide +kernel
theorem dX2_readPart_60 : decode cX2_readPart 60 = .ok (.aload_n 0, 1) := by decide +kernel
theorem dX2_readPart_61 : decode cX2_readPart 61 = .ok (.iload_n 1, 1) := by decide +kernel
theorem dX2_readPart_62 : decode cX2_readPart 62 = .ok (.invokevirtual 36, 3) := by decide +kernel
theorem dX2_readPart_65 : decode cX2_readPart 65 = .ok (.ireturn, 1) := by decide +kernel
theorem ab_k274_0 (K : ab_Kt) : ∀ q ∈ ab_l274_0, ab_OK K ab_mt ab_g274 q.1 q.2 := by
  unfold ab_l274_0
  exact List.forall_mem_cons.mpr ⟨ab_iload_n_ok dX2_readPart_0 rfl, List.forall_mem_cons.mpr ⟨ab_tsw_ok dX2_readPart_1 (by decide) (by decide) (by decide), List.forall_mem_cons.mpr ⟨ab_aload_n_ok dX2_readPart_36 rfl, List.forall_mem_cons.mpr ⟨ab_iconst_ok dX2_readPart_37 (by decide), List.forall_mem_cons.mpr ⟨ab_callV_ok' (G' := ab_g282) (C := RX2) (T := TX2) (N := 8) dX2_readPart_38 ab_m282 rfl rfl (by decide) (by decide) (ab_l4 ab_w1311 ab_w1312 ab_w1313 ab_w335) ab_w1314 rfl ⟨by decide, by decide, by decide +kernel⟩, List.forall_mem_cons.mpr ⟨ab_zret_ok dX2_readPart_41 rfl, List.forall_mem_cons.mpr ⟨ab_aload_n_ok dX2_readPart_42 rfl, List.forall_mem_cons.mpr ⟨ab_iconst_ok dX2_readPart_43 (by decide), List.forall_mem_cons.mpr ⟨ab_callV_ok' (G' := ab_g282) (C := RX2) (T := TX2) (N := 8) dX2_readPart_44 ab_m282 rfl rfl (by decide) (by decide) (ab_l4 ab_w1311 ab_w1312 ab_w1313 ab_w335) ab_w1314 rfl ⟨by decide, by decide, by decide +kernel⟩, List.forall_mem_cons.mpr ⟨ab_zret_ok dX2_readPart_47 rfl, List.forall_mem_cons.mpr ⟨ab_aload_n_ok dX2_readPart_48 rfl, List.forall_mem_cons.mpr ⟨ab_aload_n_ok dX2_readPart_49 rfl, List.forall_mem_cons.mpr ⟨ab_bipush_ok dX2_readPart_50 (by decide), List.forall_mem_cons.mpr ⟨ab_callV_ok' (G' := ab_g241) (C := RX2) (T := TX2) (N := 8) dX2_readPart_52 ab_m241 rfl rfl (by decide) (by decide) (ab_l4 ab_w1079 ab_w1080 ab_w1081 ab_w335) ab_w1082 rfl ⟨by decide, by decide, by decide +kernel⟩, List.forall_mem_cons.mpr ⟨ab_putf_ok (C := RX2) (T := TX2) (N := 8) (ci := 6) (k := 7) (ty0 := tyX2) dX2_readPart_55 rfl ab_ic6 tyX2_ok nmX2 (by decide) ab_w1315 rfl (Or.inl rfl), List.forall_mem_cons.mpr ⟨ab_iconst_ok dX2_readPart_58 (by decide), List.forall_mem_cons.mpr ⟨ab_zret_ok dX2_readPart_59 rfl, List.forall_mem_cons.mpr ⟨ab_aload_n_ok dX2_readPart_60 rfl, List.forall_mem_cons.mpr ⟨ab_iload_n_ok dX2_readPart_61 rfl, List.forall_mem_cons.mpr ⟨ab_callV_ok' (G' := ab_g241) (C := RX2) (T := TX2) (N := 8) dX2_readPart_62 ab_m241 rfl rfl (by decide) (by decide) (ab_l4 ab_w1079 ab_w1080 ab_w1081 ab_w335) ab_w1082 rfl ⟨by decide, by decide, by decide +kernel⟩, List.forall_mem_cons.mpr ⟨ab_zret_ok dX2_readPart_65 rfl, fun _ h => absurd h List.not_mem_nil⟩⟩⟩⟩⟩⟩⟩⟩⟩⟩⟩⟩⟩⟩⟩⟩⟩⟩⟩⟩⟩
theorem ab_k274 (K : ab_Kt) : ∀ pc, ab_OK K ab_mt ab_g274 pc (ab_c274 pc) := ab_lk2_ok _ (List.forall_mem_cons.mpr ⟨ab_k274_0 K, fun _ h => absurd h List.not_mem_nil⟩)
theorem dX1_comeLoose_0 : decode cX1_comeLoose 0 = .ok (.aload_n 0, 1) := by decide +kernel
theorem dX1_comeLoose_1 : decode cX1_comeLoose 1 = .ok (.iconst 0, 1) := by decide +kernel
theorem dX1_comeLoose_2 : decode cX1_comeLoose 2 = .ok (.putfield 39, 3) := by decide +kernel
theorem dX1_comeLoose_5 : decode cX1_comeLoose 5 = .ok (.aload_n 0, 1) := by decide +kernel
theorem dX1_comeLoose_6 : decode cX1_comeLoose 6 = .ok (.iconst 0, 1) := by decide +kernel
theorem dX1_comeLoose_7 : decode cX1_comeLoose 7 = .ok (.putfield 45, 3) := by decide +kernel
theorem dX1_comeLoose_10 : decode cX1_comeLoose 10 = .ok (.aload_n 0, 1) := by decide +kernel
theorem dX1_comeLoose_11 : decode cX1_comeLoose 11 = .ok (.iconst (-1), 1) := by decide +kernel
theorem dX1_comeLoose_12 : decode cX1_comeLoose 12 = .ok (.putfield 9, 3) := by decide +kernel
theorem dX1_comeLoose_15 : decode cX1_comeLoose 15 = .ok (.return_, 1) := by decide +kernel
theorem ab_k275_0 (K : ab_Kt) : ∀ q ∈ ab_l275_0, ab_OK K ab_mt ab_g275 q.1 q.2 := by
  unfold ab_l275_0
  exact List.forall_mem_cons.mpr ⟨ab_aload_n_ok dX1_comeLoose_0 rfl, List.forall_mem_cons.mpr ⟨ab_iconst_ok dX1_comeLoose_1 (by decide), List.forall_mem_cons.mpr ⟨ab_putf_ok (C := RX1) (T := TX1) (N := 13) (ci := 5) (k := 2) (ty0 := tyX1) dX1_comeLoose_2 rfl ab_ic5 tyX1_ok nmX1 (by decide) ab_w1011 rfl (Or.inl rfl), List.forall_mem_cons.mpr ⟨ab_aload_n_ok dX1_comeLoose_5 rfl, List.forall_mem_cons.mpr ⟨ab_iconst_ok dX1_comeLoose_6 (by decide), List.forall_mem_cons.mpr ⟨ab_putf_ok (C := RX1) (T := TX1) (N := 13) (ci := 5) (k := 4) (ty0 := tyX1) dX1_comeLoose_7 rfl ab_ic5 tyX1_ok nmX1 (by decide) ab_w1013 rfl (Or.inl rfl), List.forall_mem_cons.mpr ⟨ab_aload_n_ok dX1_comeLoose_10 rfl, List.forall_mem_cons.mpr ⟨ab_iconst_ok dX1_comeLoose_11 (by decide), List.forall_mem_cons.mpr ⟨ab_putf_ok (C := RX1) (T := TX1) (N := 13) (ci := 5) (k := 6) (ty0 := tyX1) dX1_comeLoose_12 rfl ab_ic5 tyX1_ok nmX1 (by decide) ab_w994 rfl (Or.inl rfl), List.forall_mem_cons.mpr ⟨ab_vret_ok dX1_comeLoose_15 rfl, fun _ h => absurd h List.not_mem_nil⟩⟩⟩⟩⟩⟩⟩⟩⟩⟩
theorem ab_k275 (K : ab_Kt) : ∀ pc, ab_OK K ab_mt ab_g275 pc (ab_c275 pc) := ab_lk2_ok _ (List.forall_mem_cons.mpr ⟨ab_k275_0 K, fun _ h => absurd h List.not_mem_nil⟩)
theorem dJ3_checkIndex_8e157_0 : decode cJ3_checkIndex_8e157 0 = .ok (.iload_n 0, 1) := by decide +kernel
theorem dJ3_checkIndex_8e157_1 : decode cJ3_checkIndex_8e157 1 = .ok (.ifCond .lt 8, 3) := by decide +kernel
theorem dJ3_checkIndex_8e157_4 : decode cJ3_checkIndex_8e157 4 = .ok (.iload_n 0, 1) := by decide +kernel
theorem dJ3_checkIndex_8e157_5 : decode cJ3_checkIndex_8e157 5 = .ok (.iload_n 1, 1) := by decide +kernel
theorem dJ3_checkIndex_8e157_6 : decode cJ3_checkIndex_8e157 6 = .ok (.if_icmp .lt 10, 3) := by decide +kernel
theorem dJ3_checkIndex_8e157_9 : decode cJ3_checkIndex_8e157 9 = .ok (.aload_n 2, 1) := by decide +kernel
theorem dJ3_checkIndex_8e157_10 : decode cJ3_checkIndex_8e157 10 = .ok (.iload_n 0, 1) := by decide +kernel
theorem dJ3_checkIndex_8e157_11 : decode cJ3_checkIndex_8e157 11 = .ok (.iload_n 1, 1) := by decide +kernel
theorem dJ3_checkIndex_8e157_16 : decode cJ3_checkIndex_8e157 16 = .ok (.iload_n 0, 1) := by decide +kernel
theorem dJ3_checkIndex_8e157_17 : decode cJ3_checkIndex_8e157 17 = .ok (.ireturn, 1) := by decide +kernel
theorem ab_k276_0 (K : ab_Kt) : ∀ q ∈ ab_l276_0, ab_OK K ab_mt ab_g276 q.1 q.2 := by
  unfold ab_l276_0
  exact List.forall_mem_cons.mpr ⟨ab_iload_n_ok dJ3_checkIndex_8e157_0 rfl, List.forall_mem_cons.mpr ⟨ab_if_lt_ok dJ3_checkIndex_8e157_1 (by decide), List.forall_mem_cons.mpr ⟨ab_iload_n_ok dJ3_checkIndex_8e157_4 rfl, List.forall_mem_cons.mpr ⟨ab_iload_n_ok dJ3_checkIndex_8e157_5 rfl, List.forall_mem_cons.mpr ⟨ab_icmp_lt_ok dJ3_checkIndex_8e157_6 (by decide), List.forall_mem_cons.mpr ⟨ab_aload_n_ok dJ3_checkIndex_8e157_9 rfl, List.forall_mem_cons.mpr ⟨ab_iload_n_ok dJ3_checkIndex_8e157_10 rfl, List.forall_mem_cons.mpr ⟨ab_iload_n_ok dJ3_checkIndex_8e157_11 rfl, List.forall_mem_cons.mpr ⟨ab_iload_n_ok dJ3_checkIndex_8e157_16 rfl, List.forall_mem_cons.mpr ⟨ab_iret_ok dJ3_checkIndex_8e157_17 rfl, fun _ h => absurd h List.not_mem_nil⟩⟩⟩⟩⟩⟩⟩⟩⟩⟩
theorem ab_k276 (K : ab_Kt) : ∀ pc, ab_OK K ab_mt ab_g276 pc (ab_c276 pc) := ab_lk2_ok _ (List.forall_mem_cons.mpr ⟨ab_k276_0 K, fun _ h => absurd h List.not_mem_nil⟩)
theorem dJ5_newCapacity_0f7a4_0 : decode cJ5_newCapacity_0f7a4 0 = .ok (.aload_n 0, 1) := by decide +kernel
theorem dJ5_newCapacity_0f7a4_1 : decode cJ5_newCapacity_0f7a4 1 = .ok (.getfield 15, 3) := by decide +kernel
theorem dJ5_newCapacity_0f7a4_4 : decode cJ5_newCapacity_0f7a4 4 = .ok (.arraylength, 1) := by decide +kernel
theorem dJ5_newCapacity_0f7a4_5 : decode cJ5_newCapacity_0f7a4 5 = .ok (.istore_n 2, 1) := by decide +kernel
theorem dJ5_newCapacity_0f7a4_6 : decode cJ5_newCapacity_0f7a4 6 = .ok (.iload_n 1, 1) := by decide +kernel
theorem dJ5_newCapacity_0f7a4_7 : decode cJ5_newCapacity_0f7a4 7 = .ok (.aload_n 0, 1) := by decide +kernel
theorem dJ5_newCapacity_0f7a4_8 : decode cJ5_newCapacity_0f7a4 8 = .ok (.getfield 22, 3) := by decide +kernel
theorem dJ5_newCapacity_0f7a4_11 : decode cJ5_newCapacity_0f7a4 11 = .ok (.ishl, 1) := by decide +kernel
theorem dJ5_newCapacity_0f7a4_12 : decode cJ5_newCapacity_0f7a4 12 = .ok (.istore_n 3, 1) := by decide +kernel
theorem dJ5_newCapacity_0f7a4_13 : decode cJ5_newCapacity_0f7a4 13 = .ok (.iload_n 3, 1) := by decide +kernel
theorem dJ5_newCapacity_0f7a4_14 : decode cJ5_newCapacity_0f7a4 14 = .ok (.iload_n 2, 1) := by decide +kernel
theorem dJ5_newCapacity_0f7a4_15 : decode cJ5_newCapacity_0f7a4 15 = .ok (.isub, 1) := by decide +kernel
theorem dJ5_newCapacity_0f7a4_16 : decode cJ5_newCapacity_0f7a4 16 = .ok (.istore 4, 2) := by decide +kernel
theorem dJ5_newCapacity_0f7a4_18 : decode cJ5_newCapacity_0f7a4 18 = .ok (.iload_n 2, 1) := by decide +kernel
theorem dJ5_newCapacity_0f7a4_19 : decode cJ5_newCapacity_0f7a4 19 = .ok (.iload 4, 2) := by decide +kernel
theorem dJ5_newCapacity_0f7a4_21 : decode cJ5_newCapacity_0f7a4 21 = .ok (.iload_n 2, 1) := by decide +kernel
theorem dJ5_newCapacity_0f7a4_22 : decode cJ5_newCapacity_0f7a4 22 = .ok (.iconst 2, 1) := by decide +kernel
theorem dJ5_newCapacity_0f7a4_23 : decode cJ5_newCapacity_0f7a4 23 = .ok (.aload_n 0, 1) := by decide +kernel
theorem dJ5_newCapacity_0f7a4_24 : decode cJ5_newCapacity_0f7a4 24 = .ok (.getfield 22, 3) := by decide +kernel
theorem dJ5_newCapacity_0f7a4_27 : decode cJ5_newCapacity_0f7a4 27 = .ok (.ishl, 1) := by decide +kernel
theorem dJ5_newCapacity_0f7a4_28 : decode cJ5_newCapacity_0f7a4 28 = .ok (.iadd, 1) := by decide +kernel
theorem dJ5_newCapacity_0f7a4_29 : decode cJ5_newCapacity_0f7a4 29 = .ok (.invokestatic 114, 3) := by decide +kernel
theorem dJ5_newCapacity_0f7a4_32 : decode cJ5_newCapacity_0f7a4 32 = .ok (.istore 5, 2) := by decide +kernel
theorem dJ5_newCapacity_0f7a4_34 : decode cJ5_newCapacity_0f7a4 34 = .ok (.iload 5, 2) := by decide +kernel
theorem dJ5_newCapacity_0f7a4_36 : decode cJ5_newCapacity_0f7a4 36 = .ok (.ldc 39, 2) := by decide +kernel
theorem dJ5_newCapacity_0f7a4_38 : decode cJ5_newCapacity_0f7a4 38 = .ok (.if_icmp .ne 13, 3) := by decide +kernel
theorem dJ5_newCapacity_0f7a4_51 : decode cJ5_newCapacity_0f7a4 51 = .ok (.iload 5, 2) := by decide +kernel
theorem dJ5_newCapacity_0f7a4_53 : decode cJ5_newCapacity_0f7a4 53 = .ok (.aload_n 0, 1) := by decide +kernel
theorem dJ5_newCapacity_0f7a4_54 : decode cJ5_newCapacity_0f7a4 54 = .ok (.getfield 22, 3) := by decide +kernel
theorem dJ5_newCapacity_0f7a4_57 : decode cJ5_newCapacity_0f7a4 57 = .ok (.ishr, 1) := by decide +kernel
theorem dJ5_newCapacity_0f7a4_58 : decode cJ5_newCapacity_0f7a4 58 = .ok (.ireturn, 1) := by decide +kernel
theorem ab_k277_0 (K : ab_Kt) : ∀ q ∈ ab_l277_0, ab_OK K ab_mt ab_g277 q.1 q.2 := by
  unfold ab_l277_0
  exact List.forall_mem_cons.mpr ⟨ab_aload_n_ok dJ5_newCapacity_0f7a4_0 rfl, List.forall_mem_cons.mpr ⟨ab_getf_ok (C := RJ4) (T := TJ4) (N := 4) (ci := 1) (k := 0) dJ5_newCapacity_0f7a4_1 rfl ab_ic1 (by decide) ab_w1006, List.forall_mem_cons.mpr ⟨ab_alen_ok dJ5_newCapacity_0f7a4_4, List.forall_mem_cons.mpr ⟨ab_istore_n_ok dJ5_newCapacity_0f7a4_5 rfl, List.forall_mem_cons.mpr ⟨ab_iload_n_ok dJ5_newCapacity_0f7a4_6 rfl, List.forall_mem_cons.mpr ⟨ab_aload_n_ok dJ5_newCapacity_0f7a4_7 rfl, List.forall_mem_cons.mpr ⟨ab_getf_ok (C := RJ4) (T := TJ4) (N := 4) (ci := 1) (k := 1) dJ5_newCapacity_0f7a4_8 rfl ab_ic1 (by decide) ab_w1007, List.forall_mem_cons.mpr ⟨ab_ishl_ok dJ5_newCapacity_0f7a4_11, List.forall_mem_cons.mpr ⟨ab_istore_n_ok dJ5_newCapacity_0f7a4_12 rfl, List.forall_mem_cons.mpr ⟨ab_iload_n_ok dJ5_newCapacity_0f7a4_13 rfl, List.forall_mem_cons.mpr ⟨ab_iload_n_ok dJ5_newCapacity_0f7a4_14 rfl, List.forall_mem_cons.mpr ⟨ab_isub_ok dJ5_newCapacity_0f7a4_15, List.forall_mem_cons.mpr ⟨ab_istore_ok dJ5_newCapacity_0f7a4_16, List.forall_mem_cons.mpr ⟨ab_iload_n_ok dJ5_newCapacity_0f7a4_18 rfl, List.forall_mem_cons.mpr ⟨ab_iload_ok dJ5_newCapacity_0f7a4_19, List.forall_mem_cons.mpr ⟨ab_iload_n_ok dJ5_newCapacity_0f7a4_21 rfl, List.forall_mem_cons.mpr ⟨ab_iconst_ok dJ5_newCapacity_0f7a4_22 (by decide), List.forall_mem_cons.mpr ⟨ab_aload_n_ok dJ5_newCapacity_0f7a4_23 rfl, List.forall_mem_cons.mpr ⟨ab_getf_ok (C := RJ4) (T := TJ4) (N := 4) (ci := 1) (k := 1) dJ5_newCapacity_0f7a4_24 rfl ab_ic1 (by decide) ab_w1007, List.forall_mem_cons.mpr ⟨ab_ishl_ok dJ5_newCapacity_0f7a4_27, List.forall_mem_cons.mpr ⟨ab_iadd_ok dJ5_newCapacity_0f7a4_28, List.forall_mem_cons.mpr ⟨ab_callS_ok' (G' := ab_g283) dJ5_newCapacity_0f7a4_29 ab_m283 (by decide) (by decide) (ab_l3 ab_w1316 ab_w1317 ab_w1318) ab_w1319 rfl ⟨by decide, by decide, by decide +kernel⟩, List.forall_mem_cons.mpr ⟨ab_istore_ok dJ5_newCapacity_0f7a4_32, List.forall_mem_cons.mpr ⟨ab_iload_ok dJ5_newCapacity_0f7a4_34, List.forall_mem_cons.mpr ⟨ab_ldci_ok dJ5_newCapacity_0f7a4_36 ab_w1320, List.forall_mem_cons.mpr ⟨ab_icmp_ne_ok dJ5_newCapacity_0f7a4_38 (by decide), List.forall_mem_cons.mpr ⟨ab_iload_ok dJ5_newCapacity_0f7a4_51, List.forall_mem_cons.mpr ⟨ab_aload_n_ok dJ5_newCapacity_0f7a4_53 rfl, List.forall_mem_cons.mpr ⟨ab_getf_ok (C := RJ4) (T := TJ4) (N := 4) (ci := 1) (k := 1) dJ5_newCapacity_0f7a4_54 rfl ab_ic1 (by decide) ab_w1007, List.forall_mem_cons.mpr ⟨ab_ishr_ok dJ5_newCapacity_0f7a4_57, List.forall_mem_cons.mpr ⟨ab_iret_ok dJ5_newCapacity_0f7a4_58 rfl, fun _ h => absurd h List.not_mem_nil⟩⟩⟩⟩⟩⟩⟩⟩⟩⟩⟩⟩⟩⟩⟩⟩⟩⟩⟩⟩⟩⟩⟩⟩⟩⟩⟩⟩⟩⟩⟩
theorem ab_k277 (K : ab_Kt) : ∀ pc, ab_OK K ab_mt ab_g277 pc (ab_c277 pc) := ab_lk2_ok _ (List.forall_mem_cons.mpr ⟨ab_k277_0 K, fun _ h => absurd h List.not_mem_nil⟩)
theorem dJ7_copyOf_9075b_0 : decode cJ7_copyOf_9075b 0 = .ok (.iload_n 1, 1) := by decide +kernel
theorem dJ7_copyOf_9075b_1 : decode cJ7_copyOf_9075b 1 = .ok (.aload_n 0, 1) := by decide +kernel
theorem dJ7_copyOf_9075b_2 : decode cJ7_copyOf_9075b 2 = .ok (.arraylength, 1) := by decide +kernel
theorem dJ7_copyOf_9075b_3 : decode cJ7_copyOf_9075b 3 = .ok (.if_icmp .ne 11, 3) := by decide +kernel
theorem dJ7_copyOf_9075b_6 : decode cJ7_copyOf_9075b 6 = .ok (.aload_n 0, 1) := by decide +kernel
theorem dJ7_copyOf_9075b_14 : decode cJ7_copyOf_9075b 14 = .ok (.iload_n 1, 1) := by decide +kernel
theorem dJ7_copyOf_9075b_15 : decode cJ7_copyOf_9075b 15 = .ok (.newarray .byte, 2) := by decide +kernel
theorem dJ7_copyOf_9075b_17 : decode cJ7_copyOf_9075b 17 = .ok (.astore_n 2, 1) := by decide +kernel
theorem dJ7_copyOf_9075b_18 : decode cJ7_copyOf_9075b 18 = .ok (.aload_n 0, 1) := by decide +kernel
theorem dJ7_copyOf_9075b_19 : decode cJ7_copyOf_9075b 19 = .ok (.iconst 0, 1) := by decide +kernel
theorem dJ7_copyOf_9075b_20 : decode cJ7_copyOf_9075b 20 = .ok (.aload_n 2, 1) := by decide +kernel
theorem dJ7_copyOf_9075b_21 : decode cJ7_copyOf_9075b 21 = .ok (.iconst 0, 1) := by decide +kernel
theorem dJ7_copyOf_9075b_22 : decode cJ7_copyOf_9075b 22 = .ok (.aload_n 0, 1) := by decide +kernel
theorem dJ7_copyOf_9075b_23 : decode cJ7_copyOf_9075b 23 = .ok (.arraylength, 1) := by decide +kernel
theorem dJ7_copyOf_9075b_24 : decode cJ7_copyOf_9075b 24 = .ok (.iload_n 1, 1) := by decide +kernel
theorem dJ7_copyOf_9075b_25 : decode cJ7_copyOf_9075b 25 = .ok (.invokestatic 304, 3) := by decide +kernel
theorem dJ7_copyOf_9075b_28 : decode cJ7_copyOf_9075b 28 = .ok (.invokestatic 150, 3) := by decide +kernel
theorem dJ7_copyOf_9075b_31 : decode cJ7_copyOf_9075b 31 = .ok (.aload_n 2, 1) := by decide +kernel
theorem dJ7_copyOf_9075b_32 : decode cJ7_copyOf_9075b 32 = .ok (.areturn, 1) := by decide +kernel
theorem ab_k278_0 (K : ab_Kt) : ∀ q ∈ ab_l278_0, ab_OK K ab_mt ab_g278 q.1 q.2 := by
  unfold ab_l278_0
  exact List.forall_mem_cons.mpr ⟨ab_iload_n_ok dJ7_copyOf_9075b_0 rfl, List.forall_mem_cons.mpr ⟨ab_aload_n_ok dJ7_copyOf_9075b_1 rfl, List.forall_mem_cons.mpr ⟨ab_alen_ok dJ7_copyOf_9075b_2, List.forall_mem_cons.mpr ⟨ab_icmp_ne_ok dJ7_copyOf_9075b_3 (by decide), List.forall_mem_cons.mpr ⟨ab_aload_n_ok dJ7_copyOf_9075b_6 rfl, List.forall_mem_cons.mpr ⟨ab_iload_n_ok dJ7_copyOf_9075b_14 rfl, List.forall_mem_cons.mpr ⟨ab_newa4_ok dJ7_copyOf_9075b_15 ab_w1005, List.forall_mem_cons.mpr ⟨ab_astore_n_ok dJ7_copyOf_9075b_17 rfl, List.forall_mem_cons.mpr ⟨ab_aload_n_ok dJ7_copyOf_9075b_18 rfl, List.forall_mem_cons.mpr ⟨ab_iconst_ok dJ7_copyOf_9075b_19 (by decide), List.forall_mem_cons.mpr ⟨ab_aload_n_ok dJ7_copyOf_9075b_20 rfl, List.forall_mem_cons.mpr ⟨ab_iconst_ok dJ7_copyOf_9075b_21 (by decide), List.forall_mem_cons.mpr ⟨ab_aload_n_ok dJ7_copyOf_9075b_22 rfl, List.forall_mem_cons.mpr ⟨ab_alen_ok dJ7_copyOf_9075b_23, List.forall_mem_cons.mpr ⟨ab_iload_n_ok dJ7_copyOf_9075b_24 rfl, List.forall_mem_cons.mpr ⟨ab_mmin_ok dJ7_copyOf_9075b_25 (ab_l4 ab_w1321 ab_w1192 ab_w881 ab_w1193), List.forall_mem_cons.mpr ⟨ab_acopy_ok dJ7_copyOf_9075b_28 rfl rfl (ab_l4 ab_w1322 ab_w1021 ab_w1022 ab_w1023), List.forall_mem_cons.mpr ⟨ab_aload_n_ok dJ7_copyOf_9075b_31 rfl, List.forall_mem_cons.mpr ⟨ab_aret_ok dJ7_copyOf_9075b_32 (Or.inr ⟨_, rfl⟩) rfl, fun _ h => absurd h List.not_mem_nil⟩⟩⟩⟩⟩⟩⟩⟩⟩⟩⟩⟩⟩⟩⟩⟩⟩⟩⟩
theorem ab_k278 (K : ab_Kt) : ∀ pc, ab_OK K ab_mt ab_g278 pc (ab_c278 pc) := ab_lk2_ok _ (List.forall_mem_cons.mpr ⟨ab_k278_0 K, fun _ h => absurd h List.not_mem_nil⟩)
theorem dJ0_coder_7d493_0 : decode cJ0_coder_7d493 0 = .ok (.getstatic 38, 3) := by decide +kernel
theorem dJ0_coder_7d493_3 : decode cJ0_coder_7d493 3 = .ok (.ifCond .eq 10, 3) := by decide +kernel
theorem dJ0_coder_7d493_6 : decode cJ0_coder_7d493 6 = .ok (.aload_n 0, 1) := by decide +kernel
theorem dJ0_coder_7d493_7 : decode cJ0_coder_7d493 7 = .ok (.getfield 15, 3) := by decide +kernel
theorem dJ0_coder_7d493_10 : decode cJ0_coder_7d493 10 = .ok (.goto 4, 3) := by decide +kernel
theorem dJ0_coder_7d493_13 : decode cJ0_coder_7d493 13 = .ok (.iconst 1, 1) := by decide +kernel
theorem dJ0_coder_7d493_14 : decode cJ0_coder_7d493 14 = .ok (.ireturn, 1) := by decide +kernel
theorem ab_k279_0 (K : ab_Kt) : ∀ q ∈ ab_l279_0, ab_OK K ab_mt ab_g279 q.1 q.2 := by
  unfold ab_l279_0
  exact List.forall_mem_cons.mpr ⟨ab_gcom_ok dJ0_coder_7d493_0 ab_w1323, List.forall_mem_cons.mpr ⟨ab_if_eq_ok dJ0_coder_7d493_3 (by decide), List.forall_mem_cons.mpr ⟨ab_aload_n_ok dJ0_coder_7d493_6 rfl, List.forall_mem_cons.mpr ⟨ab_scod_ok dJ0_coder_7d493_7 ab_w1324, List.forall_mem_cons.mpr ⟨ab_goto_ok dJ0_coder_7d493_10 (by decide), List.forall_mem_cons.mpr ⟨ab_iconst_ok dJ0_coder_7d493_13 (by decide), List.forall_mem_cons.mpr ⟨ab_bret_ok dJ0_coder_7d493_14 rfl, fun _ h => absurd h List.not_mem_nil⟩⟩⟩⟩⟩⟩⟩
theorem ab_k279 (K : ab_Kt) : ∀ pc, ab_OK K ab_mt ab_g279 pc (ab_c279 pc) := ab_lk2_ok _ (List.forall_mem_cons.mpr ⟨ab_k279_0 K, fun _ h => absurd h List.not_mem_nil⟩)
theorem dJ0_isLatin1_aae02_0 : decode cJ0_isLatin1_aae02 0 = .ok (.getstatic 38, 3) := by decide +kernel
theorem dJ0_isLatin1_aae02_3 : decode cJ0_isLatin1_aae02 3 = .ok (.ifCond .eq 14, 3) := by decide +kernel
theorem dJ0_isLatin1_aae02_6 : decode cJ0_isLatin1_aae02 6 = .ok (.aload_n 0, 1) := by decide +kernel
theorem dJ0_isLatin1_aae02_7 : decode cJ0_isLatin1_aae02 7 = .ok (.getfield 15, 3) := by decide +kernel
theorem dJ0_isLatin1_aae02_10 : decode cJ0_isLatin1_aae02 10 = .ok (.ifCond .ne 7, 3) := by decide +kernel
theorem dJ0_isLatin1_aae02_13 : decode cJ0_isLatin1_aae02 13 = .ok (.iconst 1, 1) := by decide +kernel
theorem dJ0_isLatin1_aae02_14 : decode cJ0_isLatin1_aae02 14 = .ok (.goto 4, 3) := by decide +kernel
theorem dJ0_isLatin1_aae02_17 : decode cJ0_isLatin1_aae02 17 = .ok (.iconst 0, 1) := by decide +kernel
theorem dJ0_isLatin1_aae02_18 : decode cJ0_isLatin1_aae02 18 = .ok (.ireturn, 1) := by decide +kernel
theorem ab_k280_0 (K : ab_Kt) : ∀ q ∈ ab_l280_0, ab_OK K ab_mt ab_g280 q.1 q.2 := by
  unfold ab_l280_0
  exact List.forall_mem_cons.mpr ⟨ab_gcom_ok dJ0_isLatin1_aae02_0 ab_w1323, List.forall_mem_cons.mpr ⟨ab_if_eq_ok dJ0_isLatin1_aae02_3 (by decide), List.forall_mem_cons.mpr ⟨ab_aload_n_ok dJ0_isLatin1_aae02_6 rfl, List.forall_mem_cons.mpr ⟨ab_scod_ok dJ0_isLatin1_aae02_7 ab_w1324, List.forall_mem_cons.mpr ⟨ab_if_ne_ok dJ0_isLatin1_aae02_10 (by decide), List.forall_mem_cons.mpr ⟨ab_iconst_ok dJ0_isLatin1_aae02_13 (by decide), List.forall_mem_cons.mpr ⟨ab_goto_ok dJ0_isLatin1_aae02_14 (by decide), List.forall_mem_cons.mpr ⟨ab_iconst_ok dJ0_isLatin1_aae02_17 (by decide), List.forall_mem_cons.mpr ⟨ab_zret_ok dJ0_isLatin1_aae02_18 rfl, fun _ h => absurd h List.not_mem_nil⟩⟩⟩⟩⟩⟩⟩⟩⟩
theorem ab_k280 (K : ab_Kt) : ∀ pc, ab_OK K ab_mt ab_g280 pc (ab_c280 pc) := ab_lk2_ok _ (List.forall_mem_cons.mpr ⟨ab_k280_0 K, fun _ h => absurd h List.not_mem_nil⟩)
theorem dJ1_charAt_3b067_0 : decode cJ1_charAt_3b067 0 = .ok (.iload_n 1, 1) := by decide +kernel
theorem dJ1_charAt_3b067_1 : decode cJ1_charAt_3b067 1 = .ok (.aload_n 0, 1) := by decide +kernel
theorem dJ1_charAt_3b067_2 : decode cJ1_charAt_3b067 2 = .ok (.arraylength, 1) := by decide +kernel
theorem dJ1_charAt_3b067_3 : decode cJ1_charAt_3b067 3 = .ok (.invokestatic 9, 3) := by decide +kernel
theorem dJ1_charAt_3b067_6 : decode cJ1_charAt_3b067 6 = .ok (.aload_n 0, 1) := by decide +kernel
theorem dJ1_charAt_3b067_7 : decode cJ1_charAt_3b067 7 = .ok (.iload_n 1, 1) := by decide +kernel
theorem dJ1_charAt_3b067_8 : decode cJ1_charAt_3b067 8 = .ok (.baload, 1) := by decide +kernel
theorem dJ1_charAt_3b067_9 : decode cJ1_charAt_3b067 9 = .ok (.sipush 255, 3) := by decide +kernel
theorem dJ1_charAt_3b067_12 : decode cJ1_charAt_3b067 12 = .ok (.iand, 1) := by decide +kernel
theorem dJ1_charAt_3b067_13 : decode cJ1_charAt_3b067 13 = .ok (.i2c, 1) := by decide +kernel
theorem dJ1_charAt_3b067_14 : decode cJ1_charAt_3b067 14 = .ok (.ireturn, 1) := by decide +kernel
theorem ab_k281_0 (K : ab_Kt) : ∀ q ∈ ab_l281_0, ab_OK K ab_mt ab_g281 q.1 q.2 := by
  unfold ab_l281_0
  exact List.forall_mem_cons.mpr ⟨ab_iload_n_ok dJ1_charAt_3b067_0 rfl, List.forall_mem_cons.mpr ⟨ab_aload_n_ok dJ1_charAt_3b067_1 rfl, List.forall_mem_cons.mpr ⟨ab_slenb_ok dJ1_charAt_3b067_2, List.forall_mem_cons.mpr ⟨ab_callS_ok' (G' := ab_g264) dJ1_charAt_3b067_3 ab_m264 (by decide) (by decide) (ab_l3 ab_w1325 ab_w1212 ab_w1213) ab_w1214 rfl ⟨by decide, by decide, by decide +kernel⟩, List.forall_mem_cons.mpr ⟨ab_aload_n_ok dJ1_charAt_3b067_6 rfl, List.forall_mem_cons.mpr ⟨ab_iload_n_ok dJ1_charAt_3b067_7 rfl, List.forall_mem_cons.mpr ⟨ab_sldb_ok dJ1_charAt_3b067_8, List.forall_mem_cons.mpr ⟨ab_sipush_ok dJ1_charAt_3b067_9 (by decide), List.forall_mem_cons.mpr ⟨ab_iand_ok dJ1_charAt_3b067_12, List.forall_mem_cons.mpr ⟨ab_i2c_ok dJ1_charAt_3b067_13, List.forall_mem_cons.mpr ⟨ab_cret_ok dJ1_charAt_3b067_14 rfl, fun _ h => absurd h List.not_mem_nil⟩⟩⟩⟩⟩⟩⟩⟩⟩⟩⟩
theorem ab_k281 (K : ab_Kt) : ∀ pc, ab_OK K ab_mt ab_g281 pc (ab_c281 pc) := ab_lk2_ok _ (List.forall_mem_cons.mpr ⟨ab_k281_0 K, fun _ h => absurd h List.not_mem_nil⟩)
theorem dX2_readNumber_0 : decode cX2_readNumber 0 = .ok (.iconst 0, 1) := by decide +kernel
theorem dX2_readNumber_1 : decode cX2_readNumber 1 = .ok (.istore_n 2, 1) := by decide +kernel
theorem dX2_readNumber_2 : decode cX2_readNumber 2 = .ok (.iconst 0, 1) := by decide +kernel
theorem dX2_readNumber_3 : decode cX2_readNumber 3 = .ok (.istore_n 3, 1) := by decide +kernel
theorem dX2_readNumber_4 : decode cX2_readNumber 4 = .ok (.iload_n 3, 1) := by decide +kernel
theorem dX2_readNumber_5 : decode cX2_readNumber 5 = .ok (.iload_n 1, 1) := by decide +kernel
theorem dX2_readNumber_6 : decode cX2_readNumber 6 = .ok (.if_icmp .ge 44, 3) := by decide +kernel
theorem dX2_readNumber_9 : decode cX2_readNumber 9 = .ok (.aload_n 0, 1) := by decide +kernel
theorem dX2_readNumber_10 : decode cX2_readNumber 10 = .ok (.invokevirtual 86, 3) := by decide +kernel
theorem dX2_readNumber_13 : decode cX2_readNumber 13 = .ok (.ifCond .eq 37, 3) := by decide +kernel
theorem dX2_readNumber_16 : decode cX2_readNumber 16 = .ok (.iload_n 2, 1) := by decide +kernel
theorem dX2_readNumber_17 : decode cX2_readNumber 17 = .ok (.bipush 10, 2) := by decide +kernel
theorem dX2_readNumber_19 : decode cX2_readNumber 19 = .ok (.imul, 1) := by decide +kernel
theorem dX2_readNumber_20 : decode cX2_readNumber 20 = .ok (.aload_n 0, 1) := by decide +kernel
theorem dX2_readNumber_21 : decode cX2_readNumber 21 = .ok (.getfield 9, 3) := by decide +kernel
theorem dX2_readNumber_24 : decode cX2_readNumber 24 = .ok (.aload_n 0, 1) := by decide +kernel
theorem dX2_readNumber_25 : decode cX2_readNumber 25 = .ok (.getfield 23, 3) := by decide +kernel
theorem dX2_readNumber_28 : decode cX2_readNumber 28 = .ok (.caload, 1) := by decide +kernel
theorem dX2_readNumber_29 : decode cX2_readNumber 29 = .ok (.bipush 48, 2) := by decide +kernel
theorem dX2_readNumber_31 : decode cX2_readNumber 31 = .ok (.isub, 1) := by decide +kernel
theorem dX2_readNumber_32 : decode cX2_readNumber 32 = .ok (.iadd, 1) := by decide +kernel
theorem dX2_readNumber_33 : decode cX2_readNumber 33 = .ok (.istore_n 2, 1) := by decide +kernel
theorem dX2_readNumber_34 : decode cX2_readNumber 34 = .ok (.iinc 3 1, 3) := by decide +kernel
theorem dX2_readNumber_37 : decode cX2_readNumber 37 = .ok (.aload_n 0, 1) := by decide +kernel
theorem dX2_readNumber_38 : decode cX2_readNumber 38 = .ok (.dup, 1) := by decide +kernel
theorem dX2_readNumber_39 : decode cX2_readNumber 39 = .ok (.getfield 23, 3) := by decide +kernel
theorem dX2_readNumber_42 : decode cX2_readNumber 42 = .ok (.iconst 1, 1) := by decide +kernel
theorem dX2_readNumber_43 : decode cX2_readNumber 43 = .ok (.iadd, 1) := by decide +kernel
theorem dX2_readNumber_44 : decode cX2_readNumber 44 = .ok (.putfield 23, 3) := by decide +kernel
theorem dX2_readNumber_47 : decode cX2_readNumber 47 = .ok (.goto (-43), 3) := by decide +kernel
theorem dX2_readNumber_50 : decode cX2_readNumber 50 = .ok (.iload_n 3, 1) := by decide +kernel
theorem dX2_readNumber_51 : decode cX2_readNumber 51 = .ok (.ifCond .eq 11, 3) := by decide +kernel
theorem dX2_readNumber_54 : decode cX2_readNumber 54 = .ok (.aload_n 0, 1) := by decide +kernel
theorem dX2_readNumber_55 : decode cX2_readNumber 55 = .ok (.getfield 40, 3) := by decide +kernel
theorem dX2_readNumber_58 : decode cX2_readNumber 58 = .ok (.iconst 3, 1) := by decide +kernel
theorem dX2_readNumber_59 : decode cX2_readNumber 59 = .ok (.if_icmp .lt 5, 3) := by decide +kernel
theorem dX2_readNumber_62 : decode cX2_readNumber 62 = .ok (.iconst 0, 1) := by decide +kernel
theorem dX2_readNumber_63 : decode cX2_readNumber 63 = .ok (.ireturn, 1) := by decide +kernel
theorem dX2_readNumber_64 : decode cX2_readNumber 64 = .ok (.aload_n 0, 1) := by decide +kernel
theorem dX2_readNumber_65 : decode cX2_readNumber 65 = .ok (.getfield 15, 3) := by decide +kernel
theorem ab_k282_0 (K : ab_Kt) : ∀ q ∈ ab_l282_0, ab_OK K ab_mt ab_g282 q.1 q.2 := by
  unfold ab_l282_0
  exact List.forall_mem_cons.mpr ⟨ab_iconst_ok dX2_readNumber_0 (by decide), List.forall_mem_cons.mpr ⟨ab_istore_n_ok dX2_readNumber_1 rfl, List.forall_mem_cons.mpr ⟨ab_iconst_ok dX2_readNumber_2 (by decide), List.forall_mem_cons.mpr ⟨ab_istore_n_ok dX2_readNumber_3 rfl, List.forall_mem_cons.mpr ⟨ab_iload_n_ok dX2_readNumber_4 rfl, List.forall_mem_cons.mpr ⟨ab_iload_n_ok dX2_readNumber_5 rfl, List.forall_mem_cons.mpr ⟨ab_icmp_ge_ok dX2_readNumber_6 (by decide), List.forall_mem_cons.mpr ⟨ab_aload_n_ok dX2_readNumber_9 rfl, List.forall_mem_cons.mpr ⟨ab_callV_ok' (G' := ab_g284) (C := RX2) (T := TX2) (N := 8) dX2_readNumber_10 ab_m284 rfl rfl (by decide) (by decide) (ab_l4 ab_w1326 ab_w1327 ab_w1328 ab_w335) ab_w1329 rfl ⟨by decide, by decide, by decide +kernel⟩, List.forall_mem_cons.mpr ⟨ab_if_eq_ok dX2_readNumber_13 (by decide), List.forall_mem_cons.mpr ⟨ab_iload_n_ok dX2_readNumber_16 rfl, List.forall_mem_cons.mpr ⟨ab_bipush_ok dX2_readNumber_17 (by decide), List.forall_mem_cons.mpr ⟨ab_imul_ok dX2_readNumber_19, List.forall_mem_cons.mpr ⟨ab_aload_n_ok dX2_readNumber_20 rfl, List.forall_mem_cons.mpr ⟨ab_getf_ok (C := RX2) (T := TX2) (N := 8) (ci := 6) (k := 0) dX2_readNumber_21 rfl ab_ic6 (by decide) ab_w719, List.forall_mem_cons.mpr ⟨ab_aload_n_ok dX2_readNumber_24 rfl, List.forall_mem_cons.mpr ⟨ab_getf_ok (C := RX2) (T := TX2) (N := 8) (ci := 6) (k := 3) dX2_readNumber_25 rfl ab_ic6 (by decide) ab_w1077, List.forall_mem_cons.mpr ⟨ab_ald3_ok dX2_readNumber_28, List.forall_mem_cons.mpr ⟨ab_bipush_ok dX2_readNumber_29 (by decide), List.forall_mem_cons.mpr ⟨ab_isub_ok dX2_readNumber_31, List.forall_mem_cons.mpr ⟨ab_iadd_ok dX2_readNumber_32, List.forall_mem_cons.mpr ⟨ab_istore_n_ok dX2_readNumber_33 rfl, List.forall_mem_cons.mpr ⟨ab_iinc_ok dX2_readNumber_34 (by decide), List.forall_mem_cons.mpr ⟨ab_aload_n_ok dX2_readNumber_37 rfl, List.forall_mem_cons.mpr ⟨ab_dup_ok dX2_readNumber_38, List.forall_mem_cons.mpr ⟨ab_getf_ok (C := RX2) (T := TX2) (N := 8) (ci := 6) (k := 3) dX2_readNumber_39 rfl ab_ic6 (by decide) ab_w1077, List.forall_mem_cons.mpr ⟨ab_iconst_ok dX2_readNumber_42 (by decide), List.forall_mem_cons.mpr ⟨ab_iadd_ok dX2_readNumber_43, List.forall_mem_cons.mpr ⟨ab_putf_ok (C := RX2) (T := TX2) (N := 8) (ci := 6) (k := 3) (ty0 := tyX2) dX2_readNumber_44 rfl ab_ic6 tyX2_ok nmX2 (by decide) ab_w1077 rfl (Or.inl rfl), List.forall_mem_cons.mpr ⟨ab_goto_ok dX2_readNumber_47 (by decide), List.forall_mem_cons.mpr ⟨ab_iload_n_ok dX2_readNumber_50 rfl, List.forall_mem_cons.mpr ⟨ab_if_eq_ok dX2_readNumber_51 (by decide), List.forall_mem_cons.mpr ⟨ab_aload_n_ok dX2_readNumber_54 rfl, List.forall_mem_cons.mpr ⟨ab_getf_ok (C := RX2) (T := TX2) (N := 8) (ci := 6) (k := 6) dX2_readNumber_55 rfl ab_ic6 (by decide) ab_w1237, List.forall_mem_cons.mpr ⟨ab_iconst_ok dX2_readNumber_58 (by decide), List.forall_mem_cons.mpr ⟨ab_icmp_lt_ok dX2_readNumber_59 (by decide), List.forall_mem_cons.mpr ⟨ab_iconst_ok dX2_readNumber_62 (by decide), List.forall_mem_cons.mpr ⟨ab_zret_ok dX2_readNumber_63 rfl, List.forall_mem_cons.mpr ⟨ab_aload_n_ok dX2_readNumber_64 rfl, List.forall_mem_cons.mpr ⟨ab_getf_ok (C := RX2) (T := TX2) (N := 8) (ci := 6) (k := 5) dX2_readNumber_65 rfl ab_ic6 (by decide) ab_w720, fun _ h => absurd h List.not_mem_nil⟩⟩⟩⟩⟩⟩⟩⟩⟩⟩⟩⟩⟩⟩⟩⟩⟩⟩⟩⟩⟩⟩⟩⟩⟩⟩⟩⟩⟩⟩⟩⟩⟩⟩⟩⟩⟩⟩⟩⟩
theorem dX2_readNumber_68 : decode cX2_readNumber 68 = .ok (.aload_n 0, 1) := by decide +kernel
theorem dX2_readNumber_69 : decode cX2_readNumber 69 = .ok (.getfield 40, 3) := by decide +kernel
theorem dX2_readNumber_72 : decode cX2_readNumber 72 = .ok (.iload_n 2, 1) := by decide +kernel
theorem dX2_readNumber_73 : decode cX2_readNumber 73 = .ok (.iastore, 1) := by decide +kernel
theorem dX2_readNumber_74 : decode cX2_readNumber 74 = .ok (.aload_n 0, 1) := by decide +kernel
theorem dX2_readNumber_75 : decode cX2_readNumber 75 = .ok (.dup, 1) := by decide +kernel
theorem dX2_readNumber_76 : decode cX2_readNumber 76 = .ok (.getfield 40, 3) := by decide +kernel
theorem dX2_readNumber_79 : decode cX2_readNumber 79 = .ok (.iconst 1, 1) := by decide +kernel
theorem dX2_readNumber_80 : decode cX2_readNumber 80 = .ok (.iadd, 1) := by decide +kernel
theorem dX2_readNumber_81 : decode cX2_readNumber 81 = .ok (.putfield 40, 3) := by decide +kernel
theorem dX2_readNumber_84 : decode cX2_readNumber 84 = .ok (.iconst 1, 1) := by decide +kernel
theorem dX2_readNumber_85 : decode cX2_readNumber 85 = .ok (.ireturn, 1) := by decide +kernel
theorem ab_k282_1 (K : ab_Kt) : ∀ q ∈ ab_l282_1, ab_OK K ab_mt ab_g282 q.1 q.2 := by
  unfold ab_l282_1
  exact List.forall_mem_cons.mpr ⟨ab_aload_n_ok dX2_readNumber_68 rfl, List.forall_mem_cons.mpr ⟨ab_getf_ok (C := RX2) (T := TX2) (N := 8) (ci := 6) (k := 6) dX2_readNumber_69 rfl ab_ic6 (by decide) ab_w1237, List.forall_mem_cons.mpr ⟨ab_iload_n_ok dX2_readNumber_72 rfl, List.forall_mem_cons.mpr ⟨ab_ast0_ok dX2_readNumber_73, List.forall_mem_cons.mpr ⟨ab_aload_n_ok dX2_readNumber_74 rfl, List.forall_mem_cons.mpr ⟨ab_dup_ok dX2_readNumber_75, List.forall_mem_cons.mpr ⟨ab_getf_ok (C := RX2) (T := TX2) (N := 8) (ci := 6) (k := 6) dX2_readNumber_76 rfl ab_ic6 (by decide) ab_w1237, List.forall_mem_cons.mpr ⟨ab_iconst_ok dX2_readNumber_79 (by decide), List.forall_mem_cons.mpr ⟨ab_iadd_ok dX2_readNumber_80, List.forall_mem_cons.mpr ⟨ab_putf_ok (C := RX2) (T := TX2) (N := 8) (ci := 6) (k := 6) (ty0 := tyX2) dX2_readNumber_81 rfl ab_ic6 tyX2_ok nmX2 (by decide) ab_w1237 rfl (Or.inl rfl), List.forall_mem_cons.mpr ⟨ab_iconst_ok dX2_readNumber_84 (by decide), List.forall_mem_cons.mpr ⟨ab_zret_ok dX2_readNumber_85 rfl, fun _ h => absurd h List.not_mem_nil⟩⟩⟩⟩⟩⟩⟩⟩⟩⟩⟩⟩
theorem ab_k282 (K : ab_Kt) : ∀ pc, ab_OK K ab_mt ab_g282 pc (ab_c282 pc) := ab_lk2_ok _ (List.forall_mem_cons.mpr ⟨ab_k282_0 K, List.forall_mem_cons.mpr ⟨ab_k282_1 K, fun _ h => absurd h List.not_mem_nil⟩⟩)
theorem dJ8_newLength_cabcc_0 : decode cJ8_newLength_cabcc 0 = .ok (.iload_n 0, 1) := by decide +kernel
theorem dJ8_newLength_cabcc_1 : decode cJ8_newLength_cabcc 1 = .ok (.iload_n 1, 1) := by decide +kernel
theorem dJ8_newLength_cabcc_2 : decode cJ8_newLength_cabcc 2 = .ok (.iload_n 2, 1) := by decide +kernel
theorem dJ8_newLength_cabcc_3 : decode cJ8_newLength_cabcc 3 = .ok (.invokestatic 194, 3) := by decide +kernel
theorem dJ8_newLength_cabcc_6 : decode cJ8_newLength_cabcc 6 = .ok (.iadd, 1) := by decide +kernel
theorem dJ8_newLength_cabcc_7 : decode cJ8_newLength_cabcc 7 = .ok (.istore_n 3, 1) := by decide +kernel
theorem dJ8_newLength_cabcc_8 : decode cJ8_newLength_cabcc 8 = .ok (.iconst 0, 1) := by decide +kernel
theorem dJ8_newLength_cabcc_9 : decode cJ8_newLength_cabcc 9 = .ok (.iload_n 3, 1) := by decide +kernel
theorem dJ8_newLength_cabcc_10 : decode cJ8_newLength_cabcc 10 = .ok (.if_icmp .ge 11, 3) := by decide +kernel
theorem dJ8_newLength_cabcc_13 : decode cJ8_newLength_cabcc 13 = .ok (.iload_n 3, 1) := by decide +kernel
theorem dJ8_newLength_cabcc_14 : decode cJ8_newLength_cabcc 14 = .ok (.ldc 200, 2) := by decide +kernel
theorem dJ8_newLength_cabcc_16 : decode cJ8_newLength_cabcc 16 = .ok (.if_icmp .gt 5, 3) := by decide +kernel
theorem dJ8_newLength_cabcc_19 : decode cJ8_newLength_cabcc 19 = .ok (.iload_n 3, 1) := by decide +kernel
theorem dJ8_newLength_cabcc_20 : decode cJ8_newLength_cabcc 20 = .ok (.ireturn, 1) := by decide +kernel
theorem dJ8_newLength_cabcc_21 : decode cJ8_newLength_cabcc 21 = .ok (.iload_n 0, 1) := by decide +kernel
theorem dJ8_newLength_cabcc_22 : decode cJ8_newLength_cabcc 22 = .ok (.iload_n 1, 1) := by decide +kernel
theorem ab_k283_0 (K : ab_Kt) : ∀ q ∈ ab_l283_0, ab_OK K ab_mt ab_g283 q.1 q.2 := by
  unfold ab_l283_0
  exact List.forall_mem_cons.mpr ⟨ab_iload_n_ok dJ8_newLength_cabcc_0 rfl, List.forall_mem_cons.mpr ⟨ab_iload_n_ok dJ8_newLength_cabcc_1 rfl, List.forall_mem_cons.mpr ⟨ab_iload_n_ok dJ8_newLength_cabcc_2 rfl, List.forall_mem_cons.mpr ⟨ab_mmax_ok dJ8_newLength_cabcc_3 (ab_l4 ab_w1330 ab_w880 ab_w881 ab_w882), List.forall_mem_cons.mpr ⟨ab_iadd_ok dJ8_newLength_cabcc_6, List.forall_mem_cons.mpr ⟨ab_istore_n_ok dJ8_newLength_cabcc_7 rfl, List.forall_mem_cons.mpr ⟨ab_iconst_ok dJ8_newLength_cabcc_8 (by decide), List.forall_mem_cons.mpr ⟨ab_iload_n_ok dJ8_newLength_cabcc_9 rfl, List.forall_mem_cons.mpr ⟨ab_icmp_ge_ok dJ8_newLength_cabcc_10 (by decide), List.forall_mem_cons.mpr ⟨ab_iload_n_ok dJ8_newLength_cabcc_13 rfl, List.forall_mem_cons.mpr ⟨ab_ldci_ok dJ8_newLength_cabcc_14 ab_w1331, List.forall_mem_cons.mpr ⟨ab_icmp_gt_ok dJ8_newLength_cabcc_16 (by decide), List.forall_mem_cons.mpr ⟨ab_iload_n_ok dJ8_newLength_cabcc_19 rfl, List.forall_mem_cons.mpr ⟨ab_iret_ok dJ8_newLength_cabcc_20 rfl, List.forall_mem_cons.mpr ⟨ab_iload_n_ok dJ8_newLength_cabcc_21 rfl, List.forall_mem_cons.mpr ⟨ab_iload_n_ok dJ8_newLength_cabcc_22 rfl, fun _ h => absurd h List.not_mem_nil⟩⟩⟩⟩⟩⟩⟩⟩⟩⟩⟩⟩⟩⟩⟩⟩
theorem ab_k283 (K : ab_Kt) : ∀ pc, ab_OK K ab_mt ab_g283 pc (ab_c283 pc) := ab_lk2_ok _ (List.forall_mem_cons.mpr ⟨ab_k283_0 K, fun _ h => absurd h List.not_mem_nil⟩)
theorem dX2_isAtDigit_0 : decode cX2_isAtDigit 0 = .ok (.aload_n 0, 1) := by decide +kernel
theorem dX2_isAtDigit_1 : decode cX2_isAtDigit 1 = .ok (.getfield 23, 3) := by decide +kernel
theorem dX2_isAtDigit_4 : decode cX2_isAtDigit 4 = .ok (.aload_n 0, 1) := by decide +kernel
theorem dX2_isAtDigit_5 : decode cX2_isAtDigit 5 = .ok (.getfield 19, 3) := by decide +kernel
theorem dX2_isAtDigit_8 : decode cX2_isAtDigit 8 = .ok (.if_icmp .ge 35, 3) := by decide +kernel
theorem dX2_isAtDigit_11 : decode cX2_isAtDigit 11 = .ok (.aload_n 0, 1) := by decide +kernel
theorem dX2_isAtDigit_12 : decode cX2_isAtDigit 12 = .ok (.getfield 9, 3) := by decide +kernel
theorem dX2_isAtDigit_15 : decode cX2_isAtDigit 15 = .ok (.aload_n 0, 1) := by decide +kernel
theorem dX2_isAtDigit_16 : decode cX2_isAtDigit 16 = .ok (.getfield 23, 3) := by decide +kernel
theorem dX2_isAtDigit_19 : decode cX2_isAtDigit 19 = .ok (.caload, 1) := by decide +kernel
theorem dX2_isAtDigit_20 : decode cX2_isAtDigit 20 = .ok (.bipush 48, 2) := by decide +kernel
theorem dX2_isAtDigit_22 : decode cX2_isAtDigit 22 = .ok (.if_icmp .lt 21, 3) := by decide +kernel
theorem dX2_isAtDigit_25 : decode cX2_isAtDigit 25 = .ok (.aload_n 0, 1) := by decide +kernel
theorem dX2_isAtDigit_26 : decode cX2_isAtDigit 26 = .ok (.getfield 9, 3) := by decide +kernel
theorem dX2_isAtDigit_29 : decode cX2_isAtDigit 29 = .ok (.aload_n 0, 1) := by decide +kernel
theorem dX2_isAtDigit_30 : decode cX2_isAtDigit 30 = .ok (.getfield 23, 3) := by decide +kernel
theorem dX2_isAtDigit_33 : decode cX2_isAtDigit 33 = .ok (.caload, 1) := by decide +kernel
theorem dX2_isAtDigit_34 : decode cX2_isAtDigit 34 = .ok (.bipush 57, 2) := by decide +kernel
theorem dX2_isAtDigit_36 : decode cX2_isAtDigit 36 = .ok (.if_icmp .gt 7, 3) := by decide +kernel
theorem dX2_isAtDigit_39 : decode cX2_isAtDigit 39 = .ok (.iconst 1, 1) := by decide +kernel
theorem dX2_isAtDigit_40 : decode cX2_isAtDigit 40 = .ok (.goto 4, 3) := by decide +kernel
theorem dX2_isAtDigit_43 : decode cX2_isAtDigit 43 = .ok (.iconst 0, 1) := by decide +kernel
theorem dX2_isAtDigit_44 : decode cX2_isAtDigit 44 = .ok (.ireturn, 1) := by decide +kernel
theorem ab_k284_0 (K : ab_Kt) : ∀ q ∈ ab_l284_0, ab_OK K ab_mt ab_g284 q.1 q.2 := by
  unfold ab_l284_0
  exact List.forall_mem_cons.mpr ⟨ab_aload_n_ok dX2_isAtDigit_0 rfl, List.forall_mem_cons.mpr ⟨ab_getf_ok (C := RX2) (T := TX2) (N := 8) (ci := 6) (k := 3) dX2_isAtDigit_1 rfl ab_ic6 (by decide) ab_w1077, List.forall_mem_cons.mpr ⟨ab_aload_n_ok dX2_isAtDigit_4 rfl, List.forall_mem_cons.mpr ⟨ab_getf_ok (C := RX2) (T := TX2) (N := 8) (ci := 6) (k := 1) dX2_isAtDigit_5 rfl ab_ic6 (by decide) ab_w1078, List.forall_mem_cons.mpr ⟨ab_icmp_ge_ok dX2_isAtDigit_8 (by decide), List.forall_mem_cons.mpr ⟨ab_aload_n_ok dX2_isAtDigit_11 rfl, List.forall_mem_cons.mpr ⟨ab_getf_ok (C := RX2) (T := TX2) (N := 8) (ci := 6) (k := 0) dX2_isAtDigit_12 rfl ab_ic6 (by decide) ab_w719, List.forall_mem_cons.mpr ⟨ab_aload_n_ok dX2_isAtDigit_15 rfl, List.forall_mem_cons.mpr ⟨ab_getf_ok (C := RX2) (T := TX2) (N := 8) (ci := 6) (k := 3) dX2_isAtDigit_16 rfl ab_ic6 (by decide) ab_w1077, List.forall_mem_cons.mpr ⟨ab_ald3_ok dX2_isAtDigit_19, List.forall_mem_cons.mpr ⟨ab_bipush_ok dX2_isAtDigit_20 (by decide), List.forall_mem_cons.mpr ⟨ab_icmp_lt_ok dX2_isAtDigit_22 (by decide), List.forall_mem_cons.mpr ⟨ab_aload_n_ok dX2_isAtDigit_25 rfl, List.forall_mem_cons.mpr ⟨ab_getf_ok (C := RX2) (T := TX2) (N := 8) (ci := 6) (k := 0) dX2_isAtDigit_26 rfl ab_ic6 (by decide) ab_w719, List.forall_mem_cons.mpr ⟨ab_aload_n_ok dX2_isAtDigit_29 rfl, List.forall_mem_cons.mpr ⟨ab_getf_ok (C := RX2) (T := TX2) (N := 8) (ci := 6) (k := 3) dX2_isAtDigit_30 rfl ab_ic6 (by decide) ab_w1077, List.forall_mem_cons.mpr ⟨ab_ald3_ok dX2_isAtDigit_33, List.forall_mem_cons.mpr ⟨ab_bipush_ok dX2_isAtDigit_34 (by decide), List.forall_mem_cons.mpr ⟨ab_icmp_gt_ok dX2_isAtDigit_36 (by decide), List.forall_mem_cons.mpr ⟨ab_iconst_ok dX2_isAtDigit_39 (by decide), List.forall_mem_cons.mpr ⟨ab_goto_ok dX2_isAtDigit_40 (by decide), List.forall_mem_cons.mpr ⟨ab_iconst_ok dX2_isAtDigit_43 (by decide), List.forall_mem_cons.mpr ⟨ab_zret_ok dX2_isAtDigit_44 rfl, fun _ h => absurd h List.not_mem_nil⟩⟩⟩⟩⟩⟩⟩⟩⟩⟩⟩⟩⟩⟩⟩⟩⟩⟩⟩⟩⟩⟩⟩
theorem ab_k284 (K : ab_Kt) : ∀ pc, ab_OK K ab_mt ab_g284 pc (ab_c284 pc) := ab_lk2_ok _ (List.forall_mem_cons.mpr ⟨ab_k284_0 K, fun _ h => absurd h List.not_mem_nil⟩)
