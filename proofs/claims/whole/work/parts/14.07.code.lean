/-! ===== the code tables hold: the law ===== -/
theorem dL_law_1037 : decode cL_law 1037 = .ok (.iadd, 1) := by decide +kernel
theorem dL_law_1038 : decode cL_law 1038 = .ok (.iaload, 1) := by decide +kernel
theorem dL_law_1039 : decode cL_law 1039 = .ok (.aload_n 3, 1) := by decide +kernel
theorem dL_law_1040 : decode cL_law 1040 = .ok (.invokestatic 197, 3) := by decide +kernel
theorem dL_law_1043 : decode cL_law 1043 = .ok (.istore 6, 2) := by decide +kernel
theorem dL_law_1045 : decode cL_law 1045 = .ok (.aload_n 2, 1) := by decide +kernel
theorem dL_law_1046 : decode cL_law 1046 = .ok (.aload_n 0, 1) := by decide +kernel
theorem dL_law_1047 : decode cL_law 1047 = .ok (.iload 5, 2) := by decide +kernel
theorem dL_law_1049 : decode cL_law 1049 = .ok (.iconst 1, 1) := by decide +kernel
theorem dL_law_1050 : decode cL_law 1050 = .ok (.iadd, 1) := by decide +kernel
theorem dL_law_1051 : decode cL_law 1051 = .ok (.iaload, 1) := by decide +kernel
theorem dL_law_1052 : decode cL_law 1052 = .ok (.invokevirtual 199, 3) := by decide +kernel
theorem dL_law_1055 : decode cL_law 1055 = .ok (.istore 7, 2) := by decide +kernel
theorem dL_law_1057 : decode cL_law 1057 = .ok (.aload_n 2, 1) := by decide +kernel
theorem dL_law_1058 : decode cL_law 1058 = .ok (.invokevirtual 158, 3) := by decide +kernel
theorem dL_law_1061 : decode cL_law 1061 = .ok (.iload 6, 2) := by decide +kernel
theorem dL_law_1063 : decode cL_law 1063 = .ok (.if_icmp .eq 5, 3) := by decide +kernel
theorem dL_law_1066 : decode cL_law 1066 = .ok (.iconst 0, 1) := by decide +kernel
theorem dL_law_1067 : decode cL_law 1067 = .ok (.ireturn, 1) := by decide +kernel
theorem dL_law_1068 : decode cL_law 1068 = .ok (.iload 6, 2) := by decide +kernel
theorem dL_law_1070 : decode cL_law 1070 = .ok (.ifCond .ne 15, 3) := by decide +kernel
theorem dL_law_1073 : decode cL_law 1073 = .ok (.aload_n 3, 1) := by decide +kernel
theorem dL_law_1074 : decode cL_law 1074 = .ok (.iconst 0, 1) := by decide +kernel
theorem dL_law_1075 : decode cL_law 1075 = .ok (.laload, 1) := by decide +kernel
theorem dL_law_1076 : decode cL_law 1076 = .ok (.iload 7, 2) := by decide +kernel
theorem dL_law_1078 : decode cL_law 1078 = .ok (.i2l, 1) := by decide +kernel
theorem dL_law_1079 : decode cL_law 1079 = .ok (.lcmp, 1) := by decide +kernel
theorem dL_law_1080 : decode cL_law 1080 = .ok (.ifCond .eq 5, 3) := by decide +kernel
theorem dL_law_1083 : decode cL_law 1083 = .ok (.iconst 0, 1) := by decide +kernel
theorem dL_law_1084 : decode cL_law 1084 = .ok (.ireturn, 1) := by decide +kernel
theorem dL_law_1085 : decode cL_law 1085 = .ok (.goto 1585, 3) := by decide +kernel
theorem dL_law_1088 : decode cL_law 1088 = .ok (.aload_n 1, 1) := by decide +kernel
theorem dL_law_1089 : decode cL_law 1089 = .ok (.aload_n 0, 1) := by decide +kernel
theorem dL_law_1090 : decode cL_law 1090 = .ok (.iload 5, 2) := by decide +kernel
theorem dL_law_1092 : decode cL_law 1092 = .ok (.iconst 1, 1) := by decide +kernel
theorem dL_law_1093 : decode cL_law 1093 = .ok (.iadd, 1) := by decide +kernel
theorem dL_law_1094 : decode cL_law 1094 = .ok (.iaload, 1) := by decide +kernel
theorem dL_law_1095 : decode cL_law 1095 = .ok (.aload_n 0, 1) := by decide +kernel
theorem dL_law_1096 : decode cL_law 1096 = .ok (.iload 5, 2) := by decide +kernel
theorem dL_law_1098 : decode cL_law 1098 = .ok (.iconst 2, 1) := by decide +kernel
theorem ab_k0_14 (K : ab_Kt) : ∀ q ∈ ab_l0_14 K, ab_OK K ab_mt ab_g0 q.1 q.2 := by
  unfold ab_l0_14
  exact List.forall_mem_cons.mpr ⟨ab_iadd_ok dL_law_1037, List.forall_mem_cons.mpr ⟨ab_scr_ok dL_law_1038, List.forall_mem_cons.mpr ⟨ab_aload_n_ok dL_law_1039 rfl, List.forall_mem_cons.mpr ⟨ab_callSX_ok' (G' := ab_g60) dL_law_1040 ab_m60 (by decide) (by decide) (ab_l3 ab_w217 ab_w218 ab_w16) ab_w219 rfl ⟨by decide, by decide, by decide +kernel⟩, List.forall_mem_cons.mpr ⟨ab_istore_ok dL_law_1043, List.forall_mem_cons.mpr ⟨ab_aload_n_ok dL_law_1045 rfl, List.forall_mem_cons.mpr ⟨ab_aload_n_ok dL_law_1046 rfl, List.forall_mem_cons.mpr ⟨ab_iload_ok dL_law_1047, List.forall_mem_cons.mpr ⟨ab_iconst_ok dL_law_1049 (by decide), List.forall_mem_cons.mpr ⟨ab_iadd_ok dL_law_1050, List.forall_mem_cons.mpr ⟨ab_scr_ok dL_law_1051, List.forall_mem_cons.mpr ⟨ab_callV_ok' (G' := ab_g61) (C := RX7) (T := TX7) (N := 19) dL_law_1052 ab_m61 rfl rfl (by decide) (by decide) (ab_l4 ab_w220 ab_w221 ab_w222 ab_w8) ab_w223 rfl ⟨by decide, by decide, by decide +kernel⟩, List.forall_mem_cons.mpr ⟨ab_istore_ok dL_law_1055, List.forall_mem_cons.mpr ⟨ab_aload_n_ok dL_law_1057 rfl, List.forall_mem_cons.mpr ⟨ab_callV_ok' (G' := ab_g5) (C := RX7) (T := TX7) (N := 19) dL_law_1058 ab_m5 rfl rfl (by decide) (by decide) (ab_l4 ab_w22 ab_w23 ab_w24 ab_w8) ab_w25 rfl ⟨by decide, by decide, by decide +kernel⟩, List.forall_mem_cons.mpr ⟨ab_iload_ok dL_law_1061, List.forall_mem_cons.mpr ⟨ab_icmp_eq_ok dL_law_1063 (by decide), List.forall_mem_cons.mpr ⟨ab_iconst_ok dL_law_1066 (by decide), List.forall_mem_cons.mpr ⟨ab_zret_ok dL_law_1067 rfl, List.forall_mem_cons.mpr ⟨ab_iload_ok dL_law_1068, List.forall_mem_cons.mpr ⟨ab_if_ne_ok dL_law_1070 (by decide), List.forall_mem_cons.mpr ⟨ab_aload_n_ok dL_law_1073 rfl, List.forall_mem_cons.mpr ⟨ab_iconst_ok dL_law_1074 (by decide), List.forall_mem_cons.mpr ⟨ab_lald_ok dL_law_1075, List.forall_mem_cons.mpr ⟨ab_iload_ok dL_law_1076, List.forall_mem_cons.mpr ⟨ab_i2l_ok dL_law_1078, List.forall_mem_cons.mpr ⟨ab_lcmp_ok dL_law_1079, List.forall_mem_cons.mpr ⟨ab_if_eq_ok dL_law_1080 (by decide), List.forall_mem_cons.mpr ⟨ab_iconst_ok dL_law_1083 (by decide), List.forall_mem_cons.mpr ⟨ab_zret_ok dL_law_1084 rfl, List.forall_mem_cons.mpr ⟨ab_goto_ok dL_law_1085 (by decide), List.forall_mem_cons.mpr ⟨ab_aload_n_ok dL_law_1088 rfl, List.forall_mem_cons.mpr ⟨ab_aload_n_ok dL_law_1089 rfl, List.forall_mem_cons.mpr ⟨ab_iload_ok dL_law_1090, List.forall_mem_cons.mpr ⟨ab_iconst_ok dL_law_1092 (by decide), List.forall_mem_cons.mpr ⟨ab_iadd_ok dL_law_1093, List.forall_mem_cons.mpr ⟨ab_scr_ok dL_law_1094, List.forall_mem_cons.mpr ⟨ab_aload_n_ok dL_law_1095 rfl, List.forall_mem_cons.mpr ⟨ab_iload_ok dL_law_1096, List.forall_mem_cons.mpr ⟨ab_iconst_ok dL_law_1098 (by decide), fun _ h => absurd h List.not_mem_nil⟩⟩⟩⟩⟩⟩⟩⟩⟩⟩⟩⟩⟩⟩⟩⟩⟩⟩⟩⟩⟩⟩⟩⟩⟩⟩⟩⟩⟩⟩⟩⟩⟩⟩⟩⟩⟩⟩⟩⟩
theorem dL_law_1099 : decode cL_law 1099 = .ok (.iadd, 1) := by decide +kernel
theorem dL_law_1100 : decode cL_law 1100 = .ok (.iaload, 1) := by decide +kernel
theorem dL_law_1101 : decode cL_law 1101 = .ok (.aload_n 3, 1) := by decide +kernel
theorem dL_law_1102 : decode cL_law 1102 = .ok (.invokestatic 200, 3) := by decide +kernel
theorem dL_law_1105 : decode cL_law 1105 = .ok (.istore 6, 2) := by decide +kernel
theorem dL_law_1107 : decode cL_law 1107 = .ok (.aload_n 2, 1) := by decide +kernel
theorem dL_law_1108 : decode cL_law 1108 = .ok (.aload_n 0, 1) := by decide +kernel
theorem dL_law_1109 : decode cL_law 1109 = .ok (.iload 5, 2) := by decide +kernel
theorem dL_law_1111 : decode cL_law 1111 = .ok (.iconst 1, 1) := by decide +kernel
theorem dL_law_1112 : decode cL_law 1112 = .ok (.iadd, 1) := by decide +kernel
theorem dL_law_1113 : decode cL_law 1113 = .ok (.iaload, 1) := by decide +kernel
theorem dL_law_1114 : decode cL_law 1114 = .ok (.aload_n 0, 1) := by decide +kernel
theorem dL_law_1115 : decode cL_law 1115 = .ok (.iload 5, 2) := by decide +kernel
theorem dL_law_1117 : decode cL_law 1117 = .ok (.iconst 2, 1) := by decide +kernel
theorem dL_law_1118 : decode cL_law 1118 = .ok (.iadd, 1) := by decide +kernel
theorem dL_law_1119 : decode cL_law 1119 = .ok (.iaload, 1) := by decide +kernel
theorem dL_law_1120 : decode cL_law 1120 = .ok (.invokevirtual 202, 3) := by decide +kernel
theorem dL_law_1123 : decode cL_law 1123 = .ok (.istore 7, 2) := by decide +kernel
theorem dL_law_1125 : decode cL_law 1125 = .ok (.aload_n 2, 1) := by decide +kernel
theorem dL_law_1126 : decode cL_law 1126 = .ok (.invokevirtual 158, 3) := by decide +kernel
theorem dL_law_1129 : decode cL_law 1129 = .ok (.iload 6, 2) := by decide +kernel
theorem dL_law_1131 : decode cL_law 1131 = .ok (.if_icmp .eq 5, 3) := by decide +kernel
theorem dL_law_1134 : decode cL_law 1134 = .ok (.iconst 0, 1) := by decide +kernel
theorem dL_law_1135 : decode cL_law 1135 = .ok (.ireturn, 1) := by decide +kernel
theorem dL_law_1136 : decode cL_law 1136 = .ok (.iload 6, 2) := by decide +kernel
theorem dL_law_1138 : decode cL_law 1138 = .ok (.ifCond .ne 15, 3) := by decide +kernel
theorem dL_law_1141 : decode cL_law 1141 = .ok (.aload_n 3, 1) := by decide +kernel
theorem dL_law_1142 : decode cL_law 1142 = .ok (.iconst 0, 1) := by decide +kernel
theorem dL_law_1143 : decode cL_law 1143 = .ok (.laload, 1) := by decide +kernel
theorem dL_law_1144 : decode cL_law 1144 = .ok (.iload 7, 2) := by decide +kernel
theorem dL_law_1146 : decode cL_law 1146 = .ok (.i2l, 1) := by decide +kernel
theorem dL_law_1147 : decode cL_law 1147 = .ok (.lcmp, 1) := by decide +kernel
theorem dL_law_1148 : decode cL_law 1148 = .ok (.ifCond .eq 5, 3) := by decide +kernel
theorem dL_law_1151 : decode cL_law 1151 = .ok (.iconst 0, 1) := by decide +kernel
theorem dL_law_1152 : decode cL_law 1152 = .ok (.ireturn, 1) := by decide +kernel
theorem dL_law_1153 : decode cL_law 1153 = .ok (.goto 1517, 3) := by decide +kernel
theorem dL_law_1156 : decode cL_law 1156 = .ok (.aload_n 1, 1) := by decide +kernel
theorem dL_law_1157 : decode cL_law 1157 = .ok (.aload_n 0, 1) := by decide +kernel
theorem dL_law_1158 : decode cL_law 1158 = .ok (.iload 5, 2) := by decide +kernel
theorem dL_law_1160 : decode cL_law 1160 = .ok (.iconst 1, 1) := by decide +kernel
theorem ab_k0_15 (K : ab_Kt) : ∀ q ∈ ab_l0_15 K, ab_OK K ab_mt ab_g0 q.1 q.2 := by
  unfold ab_l0_15
  exact List.forall_mem_cons.mpr ⟨ab_iadd_ok dL_law_1099, List.forall_mem_cons.mpr ⟨ab_scr_ok dL_law_1100, List.forall_mem_cons.mpr ⟨ab_aload_n_ok dL_law_1101 rfl, List.forall_mem_cons.mpr ⟨ab_callSX_ok' (G' := ab_g58) dL_law_1102 ab_m58 (by decide) (by decide) (ab_l3 ab_w210 ab_w211 ab_w16) ab_w212 rfl ⟨by decide, by decide, by decide +kernel⟩, List.forall_mem_cons.mpr ⟨ab_istore_ok dL_law_1105, List.forall_mem_cons.mpr ⟨ab_aload_n_ok dL_law_1107 rfl, List.forall_mem_cons.mpr ⟨ab_aload_n_ok dL_law_1108 rfl, List.forall_mem_cons.mpr ⟨ab_iload_ok dL_law_1109, List.forall_mem_cons.mpr ⟨ab_iconst_ok dL_law_1111 (by decide), List.forall_mem_cons.mpr ⟨ab_iadd_ok dL_law_1112, List.forall_mem_cons.mpr ⟨ab_scr_ok dL_law_1113, List.forall_mem_cons.mpr ⟨ab_aload_n_ok dL_law_1114 rfl, List.forall_mem_cons.mpr ⟨ab_iload_ok dL_law_1115, List.forall_mem_cons.mpr ⟨ab_iconst_ok dL_law_1117 (by decide), List.forall_mem_cons.mpr ⟨ab_iadd_ok dL_law_1118, List.forall_mem_cons.mpr ⟨ab_scr_ok dL_law_1119, List.forall_mem_cons.mpr ⟨ab_callV_ok' (G' := ab_g59) (C := RX7) (T := TX7) (N := 19) dL_law_1120 ab_m59 rfl rfl (by decide) (by decide) (ab_l4 ab_w213 ab_w214 ab_w215 ab_w8) ab_w216 rfl ⟨by decide, by decide, by decide +kernel⟩, List.forall_mem_cons.mpr ⟨ab_istore_ok dL_law_1123, List.forall_mem_cons.mpr ⟨ab_aload_n_ok dL_law_1125 rfl, List.forall_mem_cons.mpr ⟨ab_callV_ok' (G' := ab_g5) (C := RX7) (T := TX7) (N := 19) dL_law_1126 ab_m5 rfl rfl (by decide) (by decide) (ab_l4 ab_w22 ab_w23 ab_w24 ab_w8) ab_w25 rfl ⟨by decide, by decide, by decide +kernel⟩, List.forall_mem_cons.mpr ⟨ab_iload_ok dL_law_1129, List.forall_mem_cons.mpr ⟨ab_icmp_eq_ok dL_law_1131 (by decide), List.forall_mem_cons.mpr ⟨ab_iconst_ok dL_law_1134 (by decide), List.forall_mem_cons.mpr ⟨ab_zret_ok dL_law_1135 rfl, List.forall_mem_cons.mpr ⟨ab_iload_ok dL_law_1136, List.forall_mem_cons.mpr ⟨ab_if_ne_ok dL_law_1138 (by decide), List.forall_mem_cons.mpr ⟨ab_aload_n_ok dL_law_1141 rfl, List.forall_mem_cons.mpr ⟨ab_iconst_ok dL_law_1142 (by decide), List.forall_mem_cons.mpr ⟨ab_lald_ok dL_law_1143, List.forall_mem_cons.mpr ⟨ab_iload_ok dL_law_1144, List.forall_mem_cons.mpr ⟨ab_i2l_ok dL_law_1146, List.forall_mem_cons.mpr ⟨ab_lcmp_ok dL_law_1147, List.forall_mem_cons.mpr ⟨ab_if_eq_ok dL_law_1148 (by decide), List.forall_mem_cons.mpr ⟨ab_iconst_ok dL_law_1151 (by decide), List.forall_mem_cons.mpr ⟨ab_zret_ok dL_law_1152 rfl, List.forall_mem_cons.mpr ⟨ab_goto_ok dL_law_1153 (by decide), List.forall_mem_cons.mpr ⟨ab_aload_n_ok dL_law_1156 rfl, List.forall_mem_cons.mpr ⟨ab_aload_n_ok dL_law_1157 rfl, List.forall_mem_cons.mpr ⟨ab_iload_ok dL_law_1158, List.forall_mem_cons.mpr ⟨ab_iconst_ok dL_law_1160 (by decide), fun _ h => absurd h List.not_mem_nil⟩⟩⟩⟩⟩⟩⟩⟩⟩⟩⟩⟩⟩⟩⟩⟩⟩⟩⟩⟩⟩⟩⟩⟩⟩⟩⟩⟩⟩⟩⟩⟩⟩⟩⟩⟩⟩⟩⟩⟩
theorem dL_law_1161 : decode cL_law 1161 = .ok (.iadd, 1) := by decide +kernel
theorem dL_law_1162 : decode cL_law 1162 = .ok (.iaload, 1) := by decide +kernel
theorem dL_law_1163 : decode cL_law 1163 = .ok (.aload_n 0, 1) := by decide +kernel
theorem dL_law_1164 : decode cL_law 1164 = .ok (.iload 5, 2) := by decide +kernel
theorem dL_law_1166 : decode cL_law 1166 = .ok (.iconst 2, 1) := by decide +kernel
theorem dL_law_1167 : decode cL_law 1167 = .ok (.iadd, 1) := by decide +kernel
theorem dL_law_1168 : decode cL_law 1168 = .ok (.iaload, 1) := by decide +kernel
theorem dL_law_1169 : decode cL_law 1169 = .ok (.aload_n 0, 1) := by decide +kernel
theorem dL_law_1170 : decode cL_law 1170 = .ok (.iload 5, 2) := by decide +kernel
theorem dL_law_1172 : decode cL_law 1172 = .ok (.iconst 3, 1) := by decide +kernel
theorem dL_law_1173 : decode cL_law 1173 = .ok (.iadd, 1) := by decide +kernel
theorem dL_law_1174 : decode cL_law 1174 = .ok (.iaload, 1) := by decide +kernel
theorem dL_law_1175 : decode cL_law 1175 = .ok (.aload_n 3, 1) := by decide +kernel
theorem dL_law_1176 : decode cL_law 1176 = .ok (.invokestatic 203, 3) := by decide +kernel
theorem dL_law_1179 : decode cL_law 1179 = .ok (.istore 6, 2) := by decide +kernel
theorem dL_law_1181 : decode cL_law 1181 = .ok (.aload_n 2, 1) := by decide +kernel
theorem dL_law_1182 : decode cL_law 1182 = .ok (.aload_n 0, 1) := by decide +kernel
theorem dL_law_1183 : decode cL_law 1183 = .ok (.iload 5, 2) := by decide +kernel
theorem dL_law_1185 : decode cL_law 1185 = .ok (.iconst 1, 1) := by decide +kernel
theorem dL_law_1186 : decode cL_law 1186 = .ok (.iadd, 1) := by decide +kernel
theorem dL_law_1187 : decode cL_law 1187 = .ok (.iaload, 1) := by decide +kernel
theorem dL_law_1188 : decode cL_law 1188 = .ok (.aload_n 0, 1) := by decide +kernel
theorem dL_law_1189 : decode cL_law 1189 = .ok (.iload 5, 2) := by decide +kernel
theorem dL_law_1191 : decode cL_law 1191 = .ok (.iconst 2, 1) := by decide +kernel
theorem dL_law_1192 : decode cL_law 1192 = .ok (.iadd, 1) := by decide +kernel
theorem dL_law_1193 : decode cL_law 1193 = .ok (.iaload, 1) := by decide +kernel
theorem dL_law_1194 : decode cL_law 1194 = .ok (.aload_n 0, 1) := by decide +kernel
theorem dL_law_1195 : decode cL_law 1195 = .ok (.iload 5, 2) := by decide +kernel
theorem dL_law_1197 : decode cL_law 1197 = .ok (.iconst 3, 1) := by decide +kernel
theorem dL_law_1198 : decode cL_law 1198 = .ok (.iadd, 1) := by decide +kernel
theorem dL_law_1199 : decode cL_law 1199 = .ok (.iaload, 1) := by decide +kernel
theorem dL_law_1200 : decode cL_law 1200 = .ok (.invokevirtual 205, 3) := by decide +kernel
theorem dL_law_1203 : decode cL_law 1203 = .ok (.istore 7, 2) := by decide +kernel
theorem dL_law_1205 : decode cL_law 1205 = .ok (.aload_n 2, 1) := by decide +kernel
theorem dL_law_1206 : decode cL_law 1206 = .ok (.invokevirtual 158, 3) := by decide +kernel
theorem dL_law_1209 : decode cL_law 1209 = .ok (.iload 6, 2) := by decide +kernel
theorem dL_law_1211 : decode cL_law 1211 = .ok (.if_icmp .eq 5, 3) := by decide +kernel
theorem dL_law_1214 : decode cL_law 1214 = .ok (.iconst 0, 1) := by decide +kernel
theorem dL_law_1215 : decode cL_law 1215 = .ok (.ireturn, 1) := by decide +kernel
theorem dL_law_1216 : decode cL_law 1216 = .ok (.iload 6, 2) := by decide +kernel
theorem ab_k0_16 (K : ab_Kt) : ∀ q ∈ ab_l0_16 K, ab_OK K ab_mt ab_g0 q.1 q.2 := by
  unfold ab_l0_16
  exact List.forall_mem_cons.mpr ⟨ab_iadd_ok dL_law_1161, List.forall_mem_cons.mpr ⟨ab_scr_ok dL_law_1162, List.forall_mem_cons.mpr ⟨ab_aload_n_ok dL_law_1163 rfl, List.forall_mem_cons.mpr ⟨ab_iload_ok dL_law_1164, List.forall_mem_cons.mpr ⟨ab_iconst_ok dL_law_1166 (by decide), List.forall_mem_cons.mpr ⟨ab_iadd_ok dL_law_1167, List.forall_mem_cons.mpr ⟨ab_scr_ok dL_law_1168, List.forall_mem_cons.mpr ⟨ab_aload_n_ok dL_law_1169 rfl, List.forall_mem_cons.mpr ⟨ab_iload_ok dL_law_1170, List.forall_mem_cons.mpr ⟨ab_iconst_ok dL_law_1172 (by decide), List.forall_mem_cons.mpr ⟨ab_iadd_ok dL_law_1173, List.forall_mem_cons.mpr ⟨ab_scr_ok dL_law_1174, List.forall_mem_cons.mpr ⟨ab_aload_n_ok dL_law_1175 rfl, List.forall_mem_cons.mpr ⟨ab_callSX_ok' (G' := ab_g56) dL_law_1176 ab_m56 (by decide) (by decide) (ab_l3 ab_w203 ab_w204 ab_w16) ab_w205 rfl ⟨by decide, by decide, by decide +kernel⟩, List.forall_mem_cons.mpr ⟨ab_istore_ok dL_law_1179, List.forall_mem_cons.mpr ⟨ab_aload_n_ok dL_law_1181 rfl, List.forall_mem_cons.mpr ⟨ab_aload_n_ok dL_law_1182 rfl, List.forall_mem_cons.mpr ⟨ab_iload_ok dL_law_1183, List.forall_mem_cons.mpr ⟨ab_iconst_ok dL_law_1185 (by decide), List.forall_mem_cons.mpr ⟨ab_iadd_ok dL_law_1186, List.forall_mem_cons.mpr ⟨ab_scr_ok dL_law_1187, List.forall_mem_cons.mpr ⟨ab_aload_n_ok dL_law_1188 rfl, List.forall_mem_cons.mpr ⟨ab_iload_ok dL_law_1189, List.forall_mem_cons.mpr ⟨ab_iconst_ok dL_law_1191 (by decide), List.forall_mem_cons.mpr ⟨ab_iadd_ok dL_law_1192, List.forall_mem_cons.mpr ⟨ab_scr_ok dL_law_1193, List.forall_mem_cons.mpr ⟨ab_aload_n_ok dL_law_1194 rfl, List.forall_mem_cons.mpr ⟨ab_iload_ok dL_law_1195, List.forall_mem_cons.mpr ⟨ab_iconst_ok dL_law_1197 (by decide), List.forall_mem_cons.mpr ⟨ab_iadd_ok dL_law_1198, List.forall_mem_cons.mpr ⟨ab_scr_ok dL_law_1199, List.forall_mem_cons.mpr ⟨ab_callV_ok' (G' := ab_g57) (C := RX7) (T := TX7) (N := 19) dL_law_1200 ab_m57 rfl rfl (by decide) (by decide) (ab_l4 ab_w206 ab_w207 ab_w208 ab_w8) ab_w209 rfl ⟨by decide, by decide, by decide +kernel⟩, List.forall_mem_cons.mpr ⟨ab_istore_ok dL_law_1203, List.forall_mem_cons.mpr ⟨ab_aload_n_ok dL_law_1205 rfl, List.forall_mem_cons.mpr ⟨ab_callV_ok' (G' := ab_g5) (C := RX7) (T := TX7) (N := 19) dL_law_1206 ab_m5 rfl rfl (by decide) (by decide) (ab_l4 ab_w22 ab_w23 ab_w24 ab_w8) ab_w25 rfl ⟨by decide, by decide, by decide +kernel⟩, List.forall_mem_cons.mpr ⟨ab_iload_ok dL_law_1209, List.forall_mem_cons.mpr ⟨ab_icmp_eq_ok dL_law_1211 (by decide), List.forall_mem_cons.mpr ⟨ab_iconst_ok dL_law_1214 (by decide), List.forall_mem_cons.mpr ⟨ab_zret_ok dL_law_1215 rfl, List.forall_mem_cons.mpr ⟨ab_iload_ok dL_law_1216, fun _ h => absurd h List.not_mem_nil⟩⟩⟩⟩⟩⟩⟩⟩⟩⟩⟩⟩⟩⟩⟩⟩⟩⟩⟩⟩⟩⟩⟩⟩⟩⟩⟩⟩⟩⟩⟩⟩⟩⟩⟩⟩⟩⟩⟩⟩
theorem dL_law_1218 : decode cL_law 1218 = .ok (.ifCond .ne 15, 3) := by decide +kernel
theorem dL_law_1221 : decode cL_law 1221 = .ok (.aload_n 3, 1) := by decide +kernel
theorem dL_law_1222 : decode cL_law 1222 = .ok (.iconst 0, 1) := by decide +kernel
theorem dL_law_1223 : decode cL_law 1223 = .ok (.laload, 1) := by decide +kernel
theorem dL_law_1224 : decode cL_law 1224 = .ok (.iload 7, 2) := by decide +kernel
theorem dL_law_1226 : decode cL_law 1226 = .ok (.i2l, 1) := by decide +kernel
theorem dL_law_1227 : decode cL_law 1227 = .ok (.lcmp, 1) := by decide +kernel
theorem dL_law_1228 : decode cL_law 1228 = .ok (.ifCond .eq 5, 3) := by decide +kernel
theorem dL_law_1231 : decode cL_law 1231 = .ok (.iconst 0, 1) := by decide +kernel
theorem dL_law_1232 : decode cL_law 1232 = .ok (.ireturn, 1) := by decide +kernel
theorem dL_law_1233 : decode cL_law 1233 = .ok (.goto 1437, 3) := by decide +kernel
theorem dL_law_1236 : decode cL_law 1236 = .ok (.aload_n 1, 1) := by decide +kernel
theorem dL_law_1237 : decode cL_law 1237 = .ok (.aload_n 0, 1) := by decide +kernel
theorem dL_law_1238 : decode cL_law 1238 = .ok (.iload 5, 2) := by decide +kernel
theorem dL_law_1240 : decode cL_law 1240 = .ok (.iconst 1, 1) := by decide +kernel
theorem dL_law_1241 : decode cL_law 1241 = .ok (.iadd, 1) := by decide +kernel
theorem dL_law_1242 : decode cL_law 1242 = .ok (.iaload, 1) := by decide +kernel
theorem dL_law_1243 : decode cL_law 1243 = .ok (.aload_n 0, 1) := by decide +kernel
theorem dL_law_1244 : decode cL_law 1244 = .ok (.iload 5, 2) := by decide +kernel
theorem dL_law_1246 : decode cL_law 1246 = .ok (.iconst 2, 1) := by decide +kernel
theorem dL_law_1247 : decode cL_law 1247 = .ok (.iadd, 1) := by decide +kernel
theorem dL_law_1248 : decode cL_law 1248 = .ok (.iaload, 1) := by decide +kernel
theorem dL_law_1249 : decode cL_law 1249 = .ok (.aload_n 3, 1) := by decide +kernel
theorem dL_law_1250 : decode cL_law 1250 = .ok (.invokestatic 206, 3) := by decide +kernel
theorem dL_law_1253 : decode cL_law 1253 = .ok (.istore 6, 2) := by decide +kernel
theorem dL_law_1255 : decode cL_law 1255 = .ok (.aload_n 2, 1) := by decide +kernel
theorem dL_law_1256 : decode cL_law 1256 = .ok (.aload_n 0, 1) := by decide +kernel
theorem dL_law_1257 : decode cL_law 1257 = .ok (.iload 5, 2) := by decide +kernel
theorem dL_law_1259 : decode cL_law 1259 = .ok (.iconst 1, 1) := by decide +kernel
theorem dL_law_1260 : decode cL_law 1260 = .ok (.iadd, 1) := by decide +kernel
theorem dL_law_1261 : decode cL_law 1261 = .ok (.iaload, 1) := by decide +kernel
theorem dL_law_1262 : decode cL_law 1262 = .ok (.aload_n 0, 1) := by decide +kernel
theorem dL_law_1263 : decode cL_law 1263 = .ok (.iload 5, 2) := by decide +kernel
theorem dL_law_1265 : decode cL_law 1265 = .ok (.iconst 2, 1) := by decide +kernel
theorem dL_law_1266 : decode cL_law 1266 = .ok (.iadd, 1) := by decide +kernel
theorem dL_law_1267 : decode cL_law 1267 = .ok (.iaload, 1) := by decide +kernel
theorem dL_law_1268 : decode cL_law 1268 = .ok (.invokevirtual 208, 3) := by decide +kernel
theorem dL_law_1271 : decode cL_law 1271 = .ok (.istore 7, 2) := by decide +kernel
theorem dL_law_1273 : decode cL_law 1273 = .ok (.aload_n 2, 1) := by decide +kernel
theorem dL_law_1274 : decode cL_law 1274 = .ok (.invokevirtual 158, 3) := by decide +kernel
theorem ab_k0_17 (K : ab_Kt) : ∀ q ∈ ab_l0_17 K, ab_OK K ab_mt ab_g0 q.1 q.2 := by
  unfold ab_l0_17
  exact List.forall_mem_cons.mpr ⟨ab_if_ne_ok dL_law_1218 (by decide), List.forall_mem_cons.mpr ⟨ab_aload_n_ok dL_law_1221 rfl, List.forall_mem_cons.mpr ⟨ab_iconst_ok dL_law_1222 (by decide), List.forall_mem_cons.mpr ⟨ab_lald_ok dL_law_1223, List.forall_mem_cons.mpr ⟨ab_iload_ok dL_law_1224, List.forall_mem_cons.mpr ⟨ab_i2l_ok dL_law_1226, List.forall_mem_cons.mpr ⟨ab_lcmp_ok dL_law_1227, List.forall_mem_cons.mpr ⟨ab_if_eq_ok dL_law_1228 (by decide), List.forall_mem_cons.mpr ⟨ab_iconst_ok dL_law_1231 (by decide), List.forall_mem_cons.mpr ⟨ab_zret_ok dL_law_1232 rfl, List.forall_mem_cons.mpr ⟨ab_goto_ok dL_law_1233 (by decide), List.forall_mem_cons.mpr ⟨ab_aload_n_ok dL_law_1236 rfl, List.forall_mem_cons.mpr ⟨ab_aload_n_ok dL_law_1237 rfl, List.forall_mem_cons.mpr ⟨ab_iload_ok dL_law_1238, List.forall_mem_cons.mpr ⟨ab_iconst_ok dL_law_1240 (by decide), List.forall_mem_cons.mpr ⟨ab_iadd_ok dL_law_1241, List.forall_mem_cons.mpr ⟨ab_scr_ok dL_law_1242, List.forall_mem_cons.mpr ⟨ab_aload_n_ok dL_law_1243 rfl, List.forall_mem_cons.mpr ⟨ab_iload_ok dL_law_1244, List.forall_mem_cons.mpr ⟨ab_iconst_ok dL_law_1246 (by decide), List.forall_mem_cons.mpr ⟨ab_iadd_ok dL_law_1247, List.forall_mem_cons.mpr ⟨ab_scr_ok dL_law_1248, List.forall_mem_cons.mpr ⟨ab_aload_n_ok dL_law_1249 rfl, List.forall_mem_cons.mpr ⟨ab_callSX_ok' (G' := ab_g54) dL_law_1250 ab_m54 (by decide) (by decide) (ab_l3 ab_w196 ab_w197 ab_w16) ab_w198 rfl ⟨by decide, by decide, by decide +kernel⟩, List.forall_mem_cons.mpr ⟨ab_istore_ok dL_law_1253, List.forall_mem_cons.mpr ⟨ab_aload_n_ok dL_law_1255 rfl, List.forall_mem_cons.mpr ⟨ab_aload_n_ok dL_law_1256 rfl, List.forall_mem_cons.mpr ⟨ab_iload_ok dL_law_1257, List.forall_mem_cons.mpr ⟨ab_iconst_ok dL_law_1259 (by decide), List.forall_mem_cons.mpr ⟨ab_iadd_ok dL_law_1260, List.forall_mem_cons.mpr ⟨ab_scr_ok dL_law_1261, List.forall_mem_cons.mpr ⟨ab_aload_n_ok dL_law_1262 rfl, List.forall_mem_cons.mpr ⟨ab_iload_ok dL_law_1263, List.forall_mem_cons.mpr ⟨ab_iconst_ok dL_law_1265 (by decide), List.forall_mem_cons.mpr ⟨ab_iadd_ok dL_law_1266, List.forall_mem_cons.mpr ⟨ab_scr_ok dL_law_1267, List.forall_mem_cons.mpr ⟨ab_callV_ok' (G' := ab_g55) (C := RX7) (T := TX7) (N := 19) dL_law_1268 ab_m55 rfl rfl (by decide) (by decide) (ab_l4 ab_w199 ab_w200 ab_w201 ab_w8) ab_w202 rfl ⟨by decide, by decide, by decide +kernel⟩, List.forall_mem_cons.mpr ⟨ab_istore_ok dL_law_1271, List.forall_mem_cons.mpr ⟨ab_aload_n_ok dL_law_1273 rfl, List.forall_mem_cons.mpr ⟨ab_callV_ok' (G' := ab_g5) (C := RX7) (T := TX7) (N := 19) dL_law_1274 ab_m5 rfl rfl (by decide) (by decide) (ab_l4 ab_w22 ab_w23 ab_w24 ab_w8) ab_w25 rfl ⟨by decide, by decide, by decide +kernel⟩, fun _ h => absurd h List.not_mem_nil⟩⟩⟩⟩⟩⟩⟩⟩⟩⟩⟩⟩⟩⟩⟩⟩⟩⟩⟩⟩⟩⟩⟩⟩⟩⟩⟩⟩⟩⟩⟩⟩⟩⟩⟩⟩⟩⟩⟩⟩
theorem dL_law_1277 : decode cL_law 1277 = .ok (.iload 6, 2) := by decide +kernel
theorem dL_law_1279 : decode cL_law 1279 = .ok (.if_icmp .eq 5, 3) := by decide +kernel
theorem dL_law_1282 : decode cL_law 1282 = .ok (.iconst 0, 1) := by decide +kernel
theorem dL_law_1283 : decode cL_law 1283 = .ok (.ireturn, 1) := by decide +kernel
theorem dL_law_1284 : decode cL_law 1284 = .ok (.iload 6, 2) := by decide +kernel
theorem dL_law_1286 : decode cL_law 1286 = .ok (.ifCond .ne 15, 3) := by decide +kernel
theorem dL_law_1289 : decode cL_law 1289 = .ok (.aload_n 3, 1) := by decide +kernel
theorem dL_law_1290 : decode cL_law 1290 = .ok (.iconst 0, 1) := by decide +kernel
theorem dL_law_1291 : decode cL_law 1291 = .ok (.laload, 1) := by decide +kernel
theorem dL_law_1292 : decode cL_law 1292 = .ok (.iload 7, 2) := by decide +kernel
theorem dL_law_1294 : decode cL_law 1294 = .ok (.i2l, 1) := by decide +kernel
theorem dL_law_1295 : decode cL_law 1295 = .ok (.lcmp, 1) := by decide +kernel
theorem dL_law_1296 : decode cL_law 1296 = .ok (.ifCond .eq 5, 3) := by decide +kernel
theorem dL_law_1299 : decode cL_law 1299 = .ok (.iconst 0, 1) := by decide +kernel
theorem dL_law_1300 : decode cL_law 1300 = .ok (.ireturn, 1) := by decide +kernel
theorem dL_law_1301 : decode cL_law 1301 = .ok (.goto 1369, 3) := by decide +kernel
theorem dL_law_1304 : decode cL_law 1304 = .ok (.aload_n 1, 1) := by decide +kernel
theorem dL_law_1305 : decode cL_law 1305 = .ok (.aload_n 0, 1) := by decide +kernel
theorem dL_law_1306 : decode cL_law 1306 = .ok (.iload 5, 2) := by decide +kernel
theorem dL_law_1308 : decode cL_law 1308 = .ok (.iconst 1, 1) := by decide +kernel
theorem dL_law_1309 : decode cL_law 1309 = .ok (.iadd, 1) := by decide +kernel
theorem dL_law_1310 : decode cL_law 1310 = .ok (.iaload, 1) := by decide +kernel
theorem dL_law_1311 : decode cL_law 1311 = .ok (.aload_n 3, 1) := by decide +kernel
theorem dL_law_1312 : decode cL_law 1312 = .ok (.invokestatic 209, 3) := by decide +kernel
theorem dL_law_1315 : decode cL_law 1315 = .ok (.istore 6, 2) := by decide +kernel
theorem dL_law_1317 : decode cL_law 1317 = .ok (.aload_n 2, 1) := by decide +kernel
theorem dL_law_1318 : decode cL_law 1318 = .ok (.aload_n 0, 1) := by decide +kernel
theorem dL_law_1319 : decode cL_law 1319 = .ok (.iload 5, 2) := by decide +kernel
theorem dL_law_1321 : decode cL_law 1321 = .ok (.iconst 1, 1) := by decide +kernel
theorem dL_law_1322 : decode cL_law 1322 = .ok (.iadd, 1) := by decide +kernel
theorem dL_law_1323 : decode cL_law 1323 = .ok (.iaload, 1) := by decide +kernel
theorem dL_law_1324 : decode cL_law 1324 = .ok (.invokevirtual 211, 3) := by decide +kernel
theorem dL_law_1327 : decode cL_law 1327 = .ok (.istore 7, 2) := by decide +kernel
theorem dL_law_1329 : decode cL_law 1329 = .ok (.aload_n 2, 1) := by decide +kernel
theorem dL_law_1330 : decode cL_law 1330 = .ok (.invokevirtual 158, 3) := by decide +kernel
theorem dL_law_1333 : decode cL_law 1333 = .ok (.iload 6, 2) := by decide +kernel
theorem dL_law_1335 : decode cL_law 1335 = .ok (.if_icmp .eq 5, 3) := by decide +kernel
theorem dL_law_1338 : decode cL_law 1338 = .ok (.iconst 0, 1) := by decide +kernel
theorem dL_law_1339 : decode cL_law 1339 = .ok (.ireturn, 1) := by decide +kernel
theorem dL_law_1340 : decode cL_law 1340 = .ok (.iload 6, 2) := by decide +kernel
theorem ab_k0_18 (K : ab_Kt) : ∀ q ∈ ab_l0_18 K, ab_OK K ab_mt ab_g0 q.1 q.2 := by
  unfold ab_l0_18
  exact List.forall_mem_cons.mpr ⟨ab_iload_ok dL_law_1277, List.forall_mem_cons.mpr ⟨ab_icmp_eq_ok dL_law_1279 (by decide), List.forall_mem_cons.mpr ⟨ab_iconst_ok dL_law_1282 (by decide), List.forall_mem_cons.mpr ⟨ab_zret_ok dL_law_1283 rfl, List.forall_mem_cons.mpr ⟨ab_iload_ok dL_law_1284, List.forall_mem_cons.mpr ⟨ab_if_ne_ok dL_law_1286 (by decide), List.forall_mem_cons.mpr ⟨ab_aload_n_ok dL_law_1289 rfl, List.forall_mem_cons.mpr ⟨ab_iconst_ok dL_law_1290 (by decide), List.forall_mem_cons.mpr ⟨ab_lald_ok dL_law_1291, List.forall_mem_cons.mpr ⟨ab_iload_ok dL_law_1292, List.forall_mem_cons.mpr ⟨ab_i2l_ok dL_law_1294, List.forall_mem_cons.mpr ⟨ab_lcmp_ok dL_law_1295, List.forall_mem_cons.mpr ⟨ab_if_eq_ok dL_law_1296 (by decide), List.forall_mem_cons.mpr ⟨ab_iconst_ok dL_law_1299 (by decide), List.forall_mem_cons.mpr ⟨ab_zret_ok dL_law_1300 rfl, List.forall_mem_cons.mpr ⟨ab_goto_ok dL_law_1301 (by decide), List.forall_mem_cons.mpr ⟨ab_aload_n_ok dL_law_1304 rfl, List.forall_mem_cons.mpr ⟨ab_aload_n_ok dL_law_1305 rfl, List.forall_mem_cons.mpr ⟨ab_iload_ok dL_law_1306, List.forall_mem_cons.mpr ⟨ab_iconst_ok dL_law_1308 (by decide), List.forall_mem_cons.mpr ⟨ab_iadd_ok dL_law_1309, List.forall_mem_cons.mpr ⟨ab_scr_ok dL_law_1310, List.forall_mem_cons.mpr ⟨ab_aload_n_ok dL_law_1311 rfl, List.forall_mem_cons.mpr ⟨ab_callSX_ok' (G' := ab_g52) dL_law_1312 ab_m52 (by decide) (by decide) (ab_l3 ab_w189 ab_w190 ab_w16) ab_w191 rfl ⟨by decide, by decide, by decide +kernel⟩, List.forall_mem_cons.mpr ⟨ab_istore_ok dL_law_1315, List.forall_mem_cons.mpr ⟨ab_aload_n_ok dL_law_1317 rfl, List.forall_mem_cons.mpr ⟨ab_aload_n_ok dL_law_1318 rfl, List.forall_mem_cons.mpr ⟨ab_iload_ok dL_law_1319, List.forall_mem_cons.mpr ⟨ab_iconst_ok dL_law_1321 (by decide), List.forall_mem_cons.mpr ⟨ab_iadd_ok dL_law_1322, List.forall_mem_cons.mpr ⟨ab_scr_ok dL_law_1323, List.forall_mem_cons.mpr ⟨ab_callV_ok' (G' := ab_g53) (C := RX7) (T := TX7) (N := 19) dL_law_1324 ab_m53 rfl rfl (by decide) (by decide) (ab_l4 ab_w192 ab_w193 ab_w194 ab_w8) ab_w195 rfl ⟨by decide, by decide, by decide +kernel⟩, List.forall_mem_cons.mpr ⟨ab_istore_ok dL_law_1327, List.forall_mem_cons.mpr ⟨ab_aload_n_ok dL_law_1329 rfl, List.forall_mem_cons.mpr ⟨ab_callV_ok' (G' := ab_g5) (C := RX7) (T := TX7) (N := 19) dL_law_1330 ab_m5 rfl rfl (by decide) (by decide) (ab_l4 ab_w22 ab_w23 ab_w24 ab_w8) ab_w25 rfl ⟨by decide, by decide, by decide +kernel⟩, List.forall_mem_cons.mpr ⟨ab_iload_ok dL_law_1333, List.forall_mem_cons.mpr ⟨ab_icmp_eq_ok dL_law_1335 (by decide), List.forall_mem_cons.mpr ⟨ab_iconst_ok dL_law_1338 (by decide), List.forall_mem_cons.mpr ⟨ab_zret_ok dL_law_1339 rfl, List.forall_mem_cons.mpr ⟨ab_iload_ok dL_law_1340, fun _ h => absurd h List.not_mem_nil⟩⟩⟩⟩⟩⟩⟩⟩⟩⟩⟩⟩⟩⟩⟩⟩⟩⟩⟩⟩⟩⟩⟩⟩⟩⟩⟩⟩⟩⟩⟩⟩⟩⟩⟩⟩⟩⟩⟩⟩
theorem dL_law_1342 : decode cL_law 1342 = .ok (.ifCond .ne 15, 3) := by decide +kernel
theorem dL_law_1345 : decode cL_law 1345 = .ok (.aload_n 3, 1) := by decide +kernel
theorem dL_law_1346 : decode cL_law 1346 = .ok (.iconst 0, 1) := by decide +kernel
theorem dL_law_1347 : decode cL_law 1347 = .ok (.laload, 1) := by decide +kernel
theorem dL_law_1348 : decode cL_law 1348 = .ok (.iload 7, 2) := by decide +kernel
theorem dL_law_1350 : decode cL_law 1350 = .ok (.i2l, 1) := by decide +kernel
theorem dL_law_1351 : decode cL_law 1351 = .ok (.lcmp, 1) := by decide +kernel
theorem dL_law_1352 : decode cL_law 1352 = .ok (.ifCond .eq 5, 3) := by decide +kernel
theorem dL_law_1355 : decode cL_law 1355 = .ok (.iconst 0, 1) := by decide +kernel
theorem dL_law_1356 : decode cL_law 1356 = .ok (.ireturn, 1) := by decide +kernel
theorem dL_law_1357 : decode cL_law 1357 = .ok (.goto 1313, 3) := by decide +kernel
theorem dL_law_1360 : decode cL_law 1360 = .ok (.aload_n 1, 1) := by decide +kernel
theorem dL_law_1361 : decode cL_law 1361 = .ok (.aload_n 0, 1) := by decide +kernel
theorem dL_law_1362 : decode cL_law 1362 = .ok (.iload 5, 2) := by decide +kernel
theorem dL_law_1364 : decode cL_law 1364 = .ok (.iconst 1, 1) := by decide +kernel
theorem dL_law_1365 : decode cL_law 1365 = .ok (.iadd, 1) := by decide +kernel
theorem dL_law_1366 : decode cL_law 1366 = .ok (.iaload, 1) := by decide +kernel
theorem dL_law_1367 : decode cL_law 1367 = .ok (.aload_n 3, 1) := by decide +kernel
theorem dL_law_1368 : decode cL_law 1368 = .ok (.invokestatic 212, 3) := by decide +kernel
theorem dL_law_1371 : decode cL_law 1371 = .ok (.istore 6, 2) := by decide +kernel
theorem dL_law_1373 : decode cL_law 1373 = .ok (.aload_n 2, 1) := by decide +kernel
theorem dL_law_1374 : decode cL_law 1374 = .ok (.aload_n 0, 1) := by decide +kernel
theorem dL_law_1375 : decode cL_law 1375 = .ok (.iload 5, 2) := by decide +kernel
theorem dL_law_1377 : decode cL_law 1377 = .ok (.iconst 1, 1) := by decide +kernel
theorem dL_law_1378 : decode cL_law 1378 = .ok (.iadd, 1) := by decide +kernel
theorem dL_law_1379 : decode cL_law 1379 = .ok (.iaload, 1) := by decide +kernel
theorem dL_law_1380 : decode cL_law 1380 = .ok (.invokevirtual 214, 3) := by decide +kernel
theorem dL_law_1383 : decode cL_law 1383 = .ok (.istore 7, 2) := by decide +kernel
theorem dL_law_1385 : decode cL_law 1385 = .ok (.aload_n 2, 1) := by decide +kernel
theorem dL_law_1386 : decode cL_law 1386 = .ok (.invokevirtual 158, 3) := by decide +kernel
theorem dL_law_1389 : decode cL_law 1389 = .ok (.iload 6, 2) := by decide +kernel
theorem dL_law_1391 : decode cL_law 1391 = .ok (.if_icmp .eq 5, 3) := by decide +kernel
theorem dL_law_1394 : decode cL_law 1394 = .ok (.iconst 0, 1) := by decide +kernel
theorem dL_law_1395 : decode cL_law 1395 = .ok (.ireturn, 1) := by decide +kernel
theorem dL_law_1396 : decode cL_law 1396 = .ok (.iload 6, 2) := by decide +kernel
theorem dL_law_1398 : decode cL_law 1398 = .ok (.ifCond .ne 15, 3) := by decide +kernel
theorem dL_law_1401 : decode cL_law 1401 = .ok (.aload_n 3, 1) := by decide +kernel
theorem dL_law_1402 : decode cL_law 1402 = .ok (.iconst 0, 1) := by decide +kernel
theorem dL_law_1403 : decode cL_law 1403 = .ok (.laload, 1) := by decide +kernel
theorem dL_law_1404 : decode cL_law 1404 = .ok (.iload 7, 2) := by decide +kernel
theorem ab_k0_19 (K : ab_Kt) : ∀ q ∈ ab_l0_19 K, ab_OK K ab_mt ab_g0 q.1 q.2 := by
  unfold ab_l0_19
  exact List.forall_mem_cons.mpr ⟨ab_if_ne_ok dL_law_1342 (by decide), List.forall_mem_cons.mpr ⟨ab_aload_n_ok dL_law_1345 rfl, List.forall_mem_cons.mpr ⟨ab_iconst_ok dL_law_1346 (by decide), List.forall_mem_cons.mpr ⟨ab_lald_ok dL_law_1347, List.forall_mem_cons.mpr ⟨ab_iload_ok dL_law_1348, List.forall_mem_cons.mpr ⟨ab_i2l_ok dL_law_1350, List.forall_mem_cons.mpr ⟨ab_lcmp_ok dL_law_1351, List.forall_mem_cons.mpr ⟨ab_if_eq_ok dL_law_1352 (by decide), List.forall_mem_cons.mpr ⟨ab_iconst_ok dL_law_1355 (by decide), List.forall_mem_cons.mpr ⟨ab_zret_ok dL_law_1356 rfl, List.forall_mem_cons.mpr ⟨ab_goto_ok dL_law_1357 (by decide), List.forall_mem_cons.mpr ⟨ab_aload_n_ok dL_law_1360 rfl, List.forall_mem_cons.mpr ⟨ab_aload_n_ok dL_law_1361 rfl, List.forall_mem_cons.mpr ⟨ab_iload_ok dL_law_1362, List.forall_mem_cons.mpr ⟨ab_iconst_ok dL_law_1364 (by decide), List.forall_mem_cons.mpr ⟨ab_iadd_ok dL_law_1365, List.forall_mem_cons.mpr ⟨ab_scr_ok dL_law_1366, List.forall_mem_cons.mpr ⟨ab_aload_n_ok dL_law_1367 rfl, List.forall_mem_cons.mpr ⟨ab_callSX_ok' (G' := ab_g50) dL_law_1368 ab_m50 (by decide) (by decide) (ab_l3 ab_w182 ab_w183 ab_w16) ab_w184 rfl ⟨by decide, by decide, by decide +kernel⟩, List.forall_mem_cons.mpr ⟨ab_istore_ok dL_law_1371, List.forall_mem_cons.mpr ⟨ab_aload_n_ok dL_law_1373 rfl, List.forall_mem_cons.mpr ⟨ab_aload_n_ok dL_law_1374 rfl, List.forall_mem_cons.mpr ⟨ab_iload_ok dL_law_1375, List.forall_mem_cons.mpr ⟨ab_iconst_ok dL_law_1377 (by decide), List.forall_mem_cons.mpr ⟨ab_iadd_ok dL_law_1378, List.forall_mem_cons.mpr ⟨ab_scr_ok dL_law_1379, List.forall_mem_cons.mpr ⟨ab_callV_ok' (G' := ab_g51) (C := RX7) (T := TX7) (N := 19) dL_law_1380 ab_m51 rfl rfl (by decide) (by decide) (ab_l4 ab_w185 ab_w186 ab_w187 ab_w8) ab_w188 rfl ⟨by decide, by decide, by decide +kernel⟩, List.forall_mem_cons.mpr ⟨ab_istore_ok dL_law_1383, List.forall_mem_cons.mpr ⟨ab_aload_n_ok dL_law_1385 rfl, List.forall_mem_cons.mpr ⟨ab_callV_ok' (G' := ab_g5) (C := RX7) (T := TX7) (N := 19) dL_law_1386 ab_m5 rfl rfl (by decide) (by decide) (ab_l4 ab_w22 ab_w23 ab_w24 ab_w8) ab_w25 rfl ⟨by decide, by decide, by decide +kernel⟩, List.forall_mem_cons.mpr ⟨ab_iload_ok dL_law_1389, List.forall_mem_cons.mpr ⟨ab_icmp_eq_ok dL_law_1391 (by decide), List.forall_mem_cons.mpr ⟨ab_iconst_ok dL_law_1394 (by decide), List.forall_mem_cons.mpr ⟨ab_zret_ok dL_law_1395 rfl, List.forall_mem_cons.mpr ⟨ab_iload_ok dL_law_1396, List.forall_mem_cons.mpr ⟨ab_if_ne_ok dL_law_1398 (by decide), List.forall_mem_cons.mpr ⟨ab_aload_n_ok dL_law_1401 rfl, List.forall_mem_cons.mpr ⟨ab_iconst_ok dL_law_1402 (by decide), List.forall_mem_cons.mpr ⟨ab_lald_ok dL_law_1403, List.forall_mem_cons.mpr ⟨ab_iload_ok dL_law_1404, fun _ h => absurd h List.not_mem_nil⟩⟩⟩⟩⟩⟩⟩⟩⟩⟩⟩⟩⟩⟩⟩⟩⟩⟩⟩⟩⟩⟩⟩⟩⟩⟩⟩⟩⟩⟩⟩⟩⟩⟩⟩⟩⟩⟩⟩⟩
theorem dL_law_1406 : decode cL_law 1406 = .ok (.i2l, 1) := by decide +kernel
theorem dL_law_1407 : decode cL_law 1407 = .ok (.lcmp, 1) := by decide +kernel
theorem dL_law_1408 : decode cL_law 1408 = .ok (.ifCond .eq 5, 3) := by decide +kernel
theorem dL_law_1411 : decode cL_law 1411 = .ok (.iconst 0, 1) := by decide +kernel
theorem dL_law_1412 : decode cL_law 1412 = .ok (.ireturn, 1) := by decide +kernel
theorem dL_law_1413 : decode cL_law 1413 = .ok (.goto 1257, 3) := by decide +kernel
theorem dL_law_1416 : decode cL_law 1416 = .ok (.aload_n 1, 1) := by decide +kernel
theorem dL_law_1417 : decode cL_law 1417 = .ok (.aload_n 0, 1) := by decide +kernel
theorem dL_law_1418 : decode cL_law 1418 = .ok (.iload 5, 2) := by decide +kernel
theorem dL_law_1420 : decode cL_law 1420 = .ok (.iconst 1, 1) := by decide +kernel
theorem dL_law_1421 : decode cL_law 1421 = .ok (.iadd, 1) := by decide +kernel
theorem dL_law_1422 : decode cL_law 1422 = .ok (.iaload, 1) := by decide +kernel
theorem dL_law_1423 : decode cL_law 1423 = .ok (.aload_n 3, 1) := by decide +kernel
theorem dL_law_1424 : decode cL_law 1424 = .ok (.invokestatic 215, 3) := by decide +kernel
theorem dL_law_1427 : decode cL_law 1427 = .ok (.istore 6, 2) := by decide +kernel
theorem dL_law_1429 : decode cL_law 1429 = .ok (.aload_n 2, 1) := by decide +kernel
theorem dL_law_1430 : decode cL_law 1430 = .ok (.aload_n 0, 1) := by decide +kernel
theorem dL_law_1431 : decode cL_law 1431 = .ok (.iload 5, 2) := by decide +kernel
theorem dL_law_1433 : decode cL_law 1433 = .ok (.iconst 1, 1) := by decide +kernel
theorem dL_law_1434 : decode cL_law 1434 = .ok (.iadd, 1) := by decide +kernel
theorem dL_law_1435 : decode cL_law 1435 = .ok (.iaload, 1) := by decide +kernel
theorem dL_law_1436 : decode cL_law 1436 = .ok (.invokevirtual 217, 3) := by decide +kernel
theorem dL_law_1439 : decode cL_law 1439 = .ok (.istore 7, 2) := by decide +kernel
theorem dL_law_1441 : decode cL_law 1441 = .ok (.aload_n 2, 1) := by decide +kernel
theorem dL_law_1442 : decode cL_law 1442 = .ok (.invokevirtual 158, 3) := by decide +kernel
theorem dL_law_1445 : decode cL_law 1445 = .ok (.iload 6, 2) := by decide +kernel
theorem dL_law_1447 : decode cL_law 1447 = .ok (.if_icmp .eq 5, 3) := by decide +kernel
theorem dL_law_1450 : decode cL_law 1450 = .ok (.iconst 0, 1) := by decide +kernel
theorem dL_law_1451 : decode cL_law 1451 = .ok (.ireturn, 1) := by decide +kernel
theorem dL_law_1452 : decode cL_law 1452 = .ok (.iload 6, 2) := by decide +kernel
theorem dL_law_1454 : decode cL_law 1454 = .ok (.ifCond .ne 15, 3) := by decide +kernel
theorem dL_law_1457 : decode cL_law 1457 = .ok (.aload_n 3, 1) := by decide +kernel
theorem dL_law_1458 : decode cL_law 1458 = .ok (.iconst 0, 1) := by decide +kernel
theorem dL_law_1459 : decode cL_law 1459 = .ok (.laload, 1) := by decide +kernel
theorem dL_law_1460 : decode cL_law 1460 = .ok (.iload 7, 2) := by decide +kernel
theorem dL_law_1462 : decode cL_law 1462 = .ok (.i2l, 1) := by decide +kernel
theorem dL_law_1463 : decode cL_law 1463 = .ok (.lcmp, 1) := by decide +kernel
theorem dL_law_1464 : decode cL_law 1464 = .ok (.ifCond .eq 5, 3) := by decide +kernel
theorem dL_law_1467 : decode cL_law 1467 = .ok (.iconst 0, 1) := by decide +kernel
theorem dL_law_1468 : decode cL_law 1468 = .ok (.ireturn, 1) := by decide +kernel
theorem ab_k0_20 (K : ab_Kt) : ∀ q ∈ ab_l0_20 K, ab_OK K ab_mt ab_g0 q.1 q.2 := by
  unfold ab_l0_20
  exact List.forall_mem_cons.mpr ⟨ab_i2l_ok dL_law_1406, List.forall_mem_cons.mpr ⟨ab_lcmp_ok dL_law_1407, List.forall_mem_cons.mpr ⟨ab_if_eq_ok dL_law_1408 (by decide), List.forall_mem_cons.mpr ⟨ab_iconst_ok dL_law_1411 (by decide), List.forall_mem_cons.mpr ⟨ab_zret_ok dL_law_1412 rfl, List.forall_mem_cons.mpr ⟨ab_goto_ok dL_law_1413 (by decide), List.forall_mem_cons.mpr ⟨ab_aload_n_ok dL_law_1416 rfl, List.forall_mem_cons.mpr ⟨ab_aload_n_ok dL_law_1417 rfl, List.forall_mem_cons.mpr ⟨ab_iload_ok dL_law_1418, List.forall_mem_cons.mpr ⟨ab_iconst_ok dL_law_1420 (by decide), List.forall_mem_cons.mpr ⟨ab_iadd_ok dL_law_1421, List.forall_mem_cons.mpr ⟨ab_scr_ok dL_law_1422, List.forall_mem_cons.mpr ⟨ab_aload_n_ok dL_law_1423 rfl, List.forall_mem_cons.mpr ⟨ab_callSX_ok' (G' := ab_g48) dL_law_1424 ab_m48 (by decide) (by decide) (ab_l3 ab_w175 ab_w176 ab_w16) ab_w177 rfl ⟨by decide, by decide, by decide +kernel⟩, List.forall_mem_cons.mpr ⟨ab_istore_ok dL_law_1427, List.forall_mem_cons.mpr ⟨ab_aload_n_ok dL_law_1429 rfl, List.forall_mem_cons.mpr ⟨ab_aload_n_ok dL_law_1430 rfl, List.forall_mem_cons.mpr ⟨ab_iload_ok dL_law_1431, List.forall_mem_cons.mpr ⟨ab_iconst_ok dL_law_1433 (by decide), List.forall_mem_cons.mpr ⟨ab_iadd_ok dL_law_1434, List.forall_mem_cons.mpr ⟨ab_scr_ok dL_law_1435, List.forall_mem_cons.mpr ⟨ab_callV_ok' (G' := ab_g49) (C := RX7) (T := TX7) (N := 19) dL_law_1436 ab_m49 rfl rfl (by decide) (by decide) (ab_l4 ab_w178 ab_w179 ab_w180 ab_w8) ab_w181 rfl ⟨by decide, by decide, by decide +kernel⟩, List.forall_mem_cons.mpr ⟨ab_istore_ok dL_law_1439, List.forall_mem_cons.mpr ⟨ab_aload_n_ok dL_law_1441 rfl, List.forall_mem_cons.mpr ⟨ab_callV_ok' (G' := ab_g5) (C := RX7) (T := TX7) (N := 19) dL_law_1442 ab_m5 rfl rfl (by decide) (by decide) (ab_l4 ab_w22 ab_w23 ab_w24 ab_w8) ab_w25 rfl ⟨by decide, by decide, by decide +kernel⟩, List.forall_mem_cons.mpr ⟨ab_iload_ok dL_law_1445, List.forall_mem_cons.mpr ⟨ab_icmp_eq_ok dL_law_1447 (by decide), List.forall_mem_cons.mpr ⟨ab_iconst_ok dL_law_1450 (by decide), List.forall_mem_cons.mpr ⟨ab_zret_ok dL_law_1451 rfl, List.forall_mem_cons.mpr ⟨ab_iload_ok dL_law_1452, List.forall_mem_cons.mpr ⟨ab_if_ne_ok dL_law_1454 (by decide), List.forall_mem_cons.mpr ⟨ab_aload_n_ok dL_law_1457 rfl, List.forall_mem_cons.mpr ⟨ab_iconst_ok dL_law_1458 (by decide), List.forall_mem_cons.mpr ⟨ab_lald_ok dL_law_1459, List.forall_mem_cons.mpr ⟨ab_iload_ok dL_law_1460, List.forall_mem_cons.mpr ⟨ab_i2l_ok dL_law_1462, List.forall_mem_cons.mpr ⟨ab_lcmp_ok dL_law_1463, List.forall_mem_cons.mpr ⟨ab_if_eq_ok dL_law_1464 (by decide), List.forall_mem_cons.mpr ⟨ab_iconst_ok dL_law_1467 (by decide), List.forall_mem_cons.mpr ⟨ab_zret_ok dL_law_1468 rfl, fun _ h => absurd h List.not_mem_nil⟩⟩⟩⟩⟩⟩⟩⟩⟩⟩⟩⟩⟩⟩⟩⟩⟩⟩⟩⟩⟩⟩⟩⟩⟩⟩⟩⟩⟩⟩⟩⟩⟩⟩⟩⟩⟩⟩⟩⟩
theorem dL_law_1469 : decode cL_law 1469 = .ok (.goto 1201, 3) := by decide +kernel
theorem dL_law_1472 : decode cL_law 1472 = .ok (.aload_n 1, 1) := by decide +kernel
theorem dL_law_1473 : decode cL_law 1473 = .ok (.aload_n 0, 1) := by decide +kernel
theorem dL_law_1474 : decode cL_law 1474 = .ok (.iload 5, 2) := by decide +kernel
theorem dL_law_1476 : decode cL_law 1476 = .ok (.iconst 1, 1) := by decide +kernel
theorem dL_law_1477 : decode cL_law 1477 = .ok (.iadd, 1) := by decide +kernel
theorem dL_law_1478 : decode cL_law 1478 = .ok (.iaload, 1) := by decide +kernel
theorem dL_law_1479 : decode cL_law 1479 = .ok (.aload_n 3, 1) := by decide +kernel
theorem dL_law_1480 : decode cL_law 1480 = .ok (.invokestatic 218, 3) := by decide +kernel
theorem dL_law_1483 : decode cL_law 1483 = .ok (.istore 6, 2) := by decide +kernel
theorem dL_law_1485 : decode cL_law 1485 = .ok (.aload_n 2, 1) := by decide +kernel
theorem dL_law_1486 : decode cL_law 1486 = .ok (.aload_n 0, 1) := by decide +kernel
theorem dL_law_1487 : decode cL_law 1487 = .ok (.iload 5, 2) := by decide +kernel
theorem dL_law_1489 : decode cL_law 1489 = .ok (.iconst 1, 1) := by decide +kernel
theorem dL_law_1490 : decode cL_law 1490 = .ok (.iadd, 1) := by decide +kernel
theorem dL_law_1491 : decode cL_law 1491 = .ok (.iaload, 1) := by decide +kernel
theorem dL_law_1492 : decode cL_law 1492 = .ok (.invokevirtual 220, 3) := by decide +kernel
theorem dL_law_1495 : decode cL_law 1495 = .ok (.istore 7, 2) := by decide +kernel
theorem dL_law_1497 : decode cL_law 1497 = .ok (.aload_n 2, 1) := by decide +kernel
theorem dL_law_1498 : decode cL_law 1498 = .ok (.invokevirtual 158, 3) := by decide +kernel
theorem dL_law_1501 : decode cL_law 1501 = .ok (.iload 6, 2) := by decide +kernel
theorem dL_law_1503 : decode cL_law 1503 = .ok (.if_icmp .eq 5, 3) := by decide +kernel
theorem dL_law_1506 : decode cL_law 1506 = .ok (.iconst 0, 1) := by decide +kernel
theorem dL_law_1507 : decode cL_law 1507 = .ok (.ireturn, 1) := by decide +kernel
theorem dL_law_1508 : decode cL_law 1508 = .ok (.iload 6, 2) := by decide +kernel
theorem dL_law_1510 : decode cL_law 1510 = .ok (.ifCond .ne 15, 3) := by decide +kernel
theorem dL_law_1513 : decode cL_law 1513 = .ok (.aload_n 3, 1) := by decide +kernel
theorem dL_law_1514 : decode cL_law 1514 = .ok (.iconst 0, 1) := by decide +kernel
theorem dL_law_1515 : decode cL_law 1515 = .ok (.laload, 1) := by decide +kernel
theorem dL_law_1516 : decode cL_law 1516 = .ok (.iload 7, 2) := by decide +kernel
theorem dL_law_1518 : decode cL_law 1518 = .ok (.i2l, 1) := by decide +kernel
theorem dL_law_1519 : decode cL_law 1519 = .ok (.lcmp, 1) := by decide +kernel
theorem dL_law_1520 : decode cL_law 1520 = .ok (.ifCond .eq 5, 3) := by decide +kernel
theorem dL_law_1523 : decode cL_law 1523 = .ok (.iconst 0, 1) := by decide +kernel
theorem dL_law_1524 : decode cL_law 1524 = .ok (.ireturn, 1) := by decide +kernel
theorem dL_law_1525 : decode cL_law 1525 = .ok (.goto 1145, 3) := by decide +kernel
theorem dL_law_1528 : decode cL_law 1528 = .ok (.aload_n 1, 1) := by decide +kernel
theorem dL_law_1529 : decode cL_law 1529 = .ok (.aload_n 0, 1) := by decide +kernel
theorem dL_law_1530 : decode cL_law 1530 = .ok (.iload 5, 2) := by decide +kernel
theorem dL_law_1532 : decode cL_law 1532 = .ok (.iconst 1, 1) := by decide +kernel
theorem ab_k0_21 (K : ab_Kt) : ∀ q ∈ ab_l0_21 K, ab_OK K ab_mt ab_g0 q.1 q.2 := by
  unfold ab_l0_21
  exact List.forall_mem_cons.mpr ⟨ab_goto_ok dL_law_1469 (by decide), List.forall_mem_cons.mpr ⟨ab_aload_n_ok dL_law_1472 rfl, List.forall_mem_cons.mpr ⟨ab_aload_n_ok dL_law_1473 rfl, List.forall_mem_cons.mpr ⟨ab_iload_ok dL_law_1474, List.forall_mem_cons.mpr ⟨ab_iconst_ok dL_law_1476 (by decide), List.forall_mem_cons.mpr ⟨ab_iadd_ok dL_law_1477, List.forall_mem_cons.mpr ⟨ab_scr_ok dL_law_1478, List.forall_mem_cons.mpr ⟨ab_aload_n_ok dL_law_1479 rfl, List.forall_mem_cons.mpr ⟨ab_callSX_ok' (G' := ab_g46) dL_law_1480 ab_m46 (by decide) (by decide) (ab_l3 ab_w168 ab_w169 ab_w16) ab_w170 rfl ⟨by decide, by decide, by decide +kernel⟩, List.forall_mem_cons.mpr ⟨ab_istore_ok dL_law_1483, List.forall_mem_cons.mpr ⟨ab_aload_n_ok dL_law_1485 rfl, List.forall_mem_cons.mpr ⟨ab_aload_n_ok dL_law_1486 rfl, List.forall_mem_cons.mpr ⟨ab_iload_ok dL_law_1487, List.forall_mem_cons.mpr ⟨ab_iconst_ok dL_law_1489 (by decide), List.forall_mem_cons.mpr ⟨ab_iadd_ok dL_law_1490, List.forall_mem_cons.mpr ⟨ab_scr_ok dL_law_1491, List.forall_mem_cons.mpr ⟨ab_callV_ok' (G' := ab_g47) (C := RX7) (T := TX7) (N := 19) dL_law_1492 ab_m47 rfl rfl (by decide) (by decide) (ab_l4 ab_w171 ab_w172 ab_w173 ab_w8) ab_w174 rfl ⟨by decide, by decide, by decide +kernel⟩, List.forall_mem_cons.mpr ⟨ab_istore_ok dL_law_1495, List.forall_mem_cons.mpr ⟨ab_aload_n_ok dL_law_1497 rfl, List.forall_mem_cons.mpr ⟨ab_callV_ok' (G' := ab_g5) (C := RX7) (T := TX7) (N := 19) dL_law_1498 ab_m5 rfl rfl (by decide) (by decide) (ab_l4 ab_w22 ab_w23 ab_w24 ab_w8) ab_w25 rfl ⟨by decide, by decide, by decide +kernel⟩, List.forall_mem_cons.mpr ⟨ab_iload_ok dL_law_1501, List.forall_mem_cons.mpr ⟨ab_icmp_eq_ok dL_law_1503 (by decide), List.forall_mem_cons.mpr ⟨ab_iconst_ok dL_law_1506 (by decide), List.forall_mem_cons.mpr ⟨ab_zret_ok dL_law_1507 rfl, List.forall_mem_cons.mpr ⟨ab_iload_ok dL_law_1508, List.forall_mem_cons.mpr ⟨ab_if_ne_ok dL_law_1510 (by decide), List.forall_mem_cons.mpr ⟨ab_aload_n_ok dL_law_1513 rfl, List.forall_mem_cons.mpr ⟨ab_iconst_ok dL_law_1514 (by decide), List.forall_mem_cons.mpr ⟨ab_lald_ok dL_law_1515, List.forall_mem_cons.mpr ⟨ab_iload_ok dL_law_1516, List.forall_mem_cons.mpr ⟨ab_i2l_ok dL_law_1518, List.forall_mem_cons.mpr ⟨ab_lcmp_ok dL_law_1519, List.forall_mem_cons.mpr ⟨ab_if_eq_ok dL_law_1520 (by decide), List.forall_mem_cons.mpr ⟨ab_iconst_ok dL_law_1523 (by decide), List.forall_mem_cons.mpr ⟨ab_zret_ok dL_law_1524 rfl, List.forall_mem_cons.mpr ⟨ab_goto_ok dL_law_1525 (by decide), List.forall_mem_cons.mpr ⟨ab_aload_n_ok dL_law_1528 rfl, List.forall_mem_cons.mpr ⟨ab_aload_n_ok dL_law_1529 rfl, List.forall_mem_cons.mpr ⟨ab_iload_ok dL_law_1530, List.forall_mem_cons.mpr ⟨ab_iconst_ok dL_law_1532 (by decide), fun _ h => absurd h List.not_mem_nil⟩⟩⟩⟩⟩⟩⟩⟩⟩⟩⟩⟩⟩⟩⟩⟩⟩⟩⟩⟩⟩⟩⟩⟩⟩⟩⟩⟩⟩⟩⟩⟩⟩⟩⟩⟩⟩⟩⟩⟩
theorem dL_law_1533 : decode cL_law 1533 = .ok (.iadd, 1) := by decide +kernel
theorem dL_law_1534 : decode cL_law 1534 = .ok (.iaload, 1) := by decide +kernel
theorem dL_law_1535 : decode cL_law 1535 = .ok (.aload_n 0, 1) := by decide +kernel
theorem dL_law_1536 : decode cL_law 1536 = .ok (.iload 5, 2) := by decide +kernel
theorem dL_law_1538 : decode cL_law 1538 = .ok (.iconst 2, 1) := by decide +kernel
theorem dL_law_1539 : decode cL_law 1539 = .ok (.iadd, 1) := by decide +kernel
theorem dL_law_1540 : decode cL_law 1540 = .ok (.iaload, 1) := by decide +kernel
theorem dL_law_1541 : decode cL_law 1541 = .ok (.aload_n 3, 1) := by decide +kernel
theorem dL_law_1542 : decode cL_law 1542 = .ok (.invokestatic 221, 3) := by decide +kernel
theorem dL_law_1545 : decode cL_law 1545 = .ok (.istore 6, 2) := by decide +kernel
theorem dL_law_1547 : decode cL_law 1547 = .ok (.aload_n 2, 1) := by decide +kernel
theorem dL_law_1548 : decode cL_law 1548 = .ok (.aload_n 0, 1) := by decide +kernel
theorem dL_law_1549 : decode cL_law 1549 = .ok (.iload 5, 2) := by decide +kernel
theorem dL_law_1551 : decode cL_law 1551 = .ok (.iconst 1, 1) := by decide +kernel
theorem dL_law_1552 : decode cL_law 1552 = .ok (.iadd, 1) := by decide +kernel
theorem dL_law_1553 : decode cL_law 1553 = .ok (.iaload, 1) := by decide +kernel
theorem dL_law_1554 : decode cL_law 1554 = .ok (.aload_n 0, 1) := by decide +kernel
theorem dL_law_1555 : decode cL_law 1555 = .ok (.iload 5, 2) := by decide +kernel
theorem dL_law_1557 : decode cL_law 1557 = .ok (.iconst 2, 1) := by decide +kernel
theorem dL_law_1558 : decode cL_law 1558 = .ok (.iadd, 1) := by decide +kernel
theorem dL_law_1559 : decode cL_law 1559 = .ok (.iaload, 1) := by decide +kernel
theorem dL_law_1560 : decode cL_law 1560 = .ok (.invokevirtual 223, 3) := by decide +kernel
theorem dL_law_1563 : decode cL_law 1563 = .ok (.istore 7, 2) := by decide +kernel
theorem dL_law_1565 : decode cL_law 1565 = .ok (.aload_n 2, 1) := by decide +kernel
theorem dL_law_1566 : decode cL_law 1566 = .ok (.invokevirtual 158, 3) := by decide +kernel
theorem dL_law_1569 : decode cL_law 1569 = .ok (.iload 6, 2) := by decide +kernel
theorem dL_law_1571 : decode cL_law 1571 = .ok (.if_icmp .eq 5, 3) := by decide +kernel
theorem dL_law_1574 : decode cL_law 1574 = .ok (.iconst 0, 1) := by decide +kernel
theorem dL_law_1575 : decode cL_law 1575 = .ok (.ireturn, 1) := by decide +kernel
theorem dL_law_1576 : decode cL_law 1576 = .ok (.iload 6, 2) := by decide +kernel
theorem dL_law_1578 : decode cL_law 1578 = .ok (.ifCond .ne 15, 3) := by decide +kernel
theorem dL_law_1581 : decode cL_law 1581 = .ok (.aload_n 3, 1) := by decide +kernel
theorem dL_law_1582 : decode cL_law 1582 = .ok (.iconst 0, 1) := by decide +kernel
theorem dL_law_1583 : decode cL_law 1583 = .ok (.laload, 1) := by decide +kernel
theorem dL_law_1584 : decode cL_law 1584 = .ok (.iload 7, 2) := by decide +kernel
theorem dL_law_1586 : decode cL_law 1586 = .ok (.i2l, 1) := by decide +kernel
theorem dL_law_1587 : decode cL_law 1587 = .ok (.lcmp, 1) := by decide +kernel
theorem dL_law_1588 : decode cL_law 1588 = .ok (.ifCond .eq 5, 3) := by decide +kernel
theorem dL_law_1591 : decode cL_law 1591 = .ok (.iconst 0, 1) := by decide +kernel
theorem dL_law_1592 : decode cL_law 1592 = .ok (.ireturn, 1) := by decide +kernel
theorem ab_k0_22 (K : ab_Kt) : ∀ q ∈ ab_l0_22 K, ab_OK K ab_mt ab_g0 q.1 q.2 := by
  unfold ab_l0_22
  exact List.forall_mem_cons.mpr ⟨ab_iadd_ok dL_law_1533, List.forall_mem_cons.mpr ⟨ab_scr_ok dL_law_1534, List.forall_mem_cons.mpr ⟨ab_aload_n_ok dL_law_1535 rfl, List.forall_mem_cons.mpr ⟨ab_iload_ok dL_law_1536, List.forall_mem_cons.mpr ⟨ab_iconst_ok dL_law_1538 (by decide), List.forall_mem_cons.mpr ⟨ab_iadd_ok dL_law_1539, List.forall_mem_cons.mpr ⟨ab_scr_ok dL_law_1540, List.forall_mem_cons.mpr ⟨ab_aload_n_ok dL_law_1541 rfl, List.forall_mem_cons.mpr ⟨ab_callSX_ok' (G' := ab_g44) dL_law_1542 ab_m44 (by decide) (by decide) (ab_l3 ab_w161 ab_w162 ab_w16) ab_w163 rfl ⟨by decide, by decide, by decide +kernel⟩, List.forall_mem_cons.mpr ⟨ab_istore_ok dL_law_1545, List.forall_mem_cons.mpr ⟨ab_aload_n_ok dL_law_1547 rfl, List.forall_mem_cons.mpr ⟨ab_aload_n_ok dL_law_1548 rfl, List.forall_mem_cons.mpr ⟨ab_iload_ok dL_law_1549, List.forall_mem_cons.mpr ⟨ab_iconst_ok dL_law_1551 (by decide), List.forall_mem_cons.mpr ⟨ab_iadd_ok dL_law_1552, List.forall_mem_cons.mpr ⟨ab_scr_ok dL_law_1553, List.forall_mem_cons.mpr ⟨ab_aload_n_ok dL_law_1554 rfl, List.forall_mem_cons.mpr ⟨ab_iload_ok dL_law_1555, List.forall_mem_cons.mpr ⟨ab_iconst_ok dL_law_1557 (by decide), List.forall_mem_cons.mpr ⟨ab_iadd_ok dL_law_1558, List.forall_mem_cons.mpr ⟨ab_scr_ok dL_law_1559, List.forall_mem_cons.mpr ⟨ab_callV_ok' (G' := ab_g45) (C := RX7) (T := TX7) (N := 19) dL_law_1560 ab_m45 rfl rfl (by decide) (by decide) (ab_l4 ab_w164 ab_w165 ab_w166 ab_w8) ab_w167 rfl ⟨by decide, by decide, by decide +kernel⟩, List.forall_mem_cons.mpr ⟨ab_istore_ok dL_law_1563, List.forall_mem_cons.mpr ⟨ab_aload_n_ok dL_law_1565 rfl, List.forall_mem_cons.mpr ⟨ab_callV_ok' (G' := ab_g5) (C := RX7) (T := TX7) (N := 19) dL_law_1566 ab_m5 rfl rfl (by decide) (by decide) (ab_l4 ab_w22 ab_w23 ab_w24 ab_w8) ab_w25 rfl ⟨by decide, by decide, by decide +kernel⟩, List.forall_mem_cons.mpr ⟨ab_iload_ok dL_law_1569, List.forall_mem_cons.mpr ⟨ab_icmp_eq_ok dL_law_1571 (by decide), List.forall_mem_cons.mpr ⟨ab_iconst_ok dL_law_1574 (by decide), List.forall_mem_cons.mpr ⟨ab_zret_ok dL_law_1575 rfl, List.forall_mem_cons.mpr ⟨ab_iload_ok dL_law_1576, List.forall_mem_cons.mpr ⟨ab_if_ne_ok dL_law_1578 (by decide), List.forall_mem_cons.mpr ⟨ab_aload_n_ok dL_law_1581 rfl, List.forall_mem_cons.mpr ⟨ab_iconst_ok dL_law_1582 (by decide), List.forall_mem_cons.mpr ⟨ab_lald_ok dL_law_1583, List.forall_mem_cons.mpr ⟨ab_iload_ok dL_law_1584, List.forall_mem_cons.mpr ⟨ab_i2l_ok dL_law_1586, List.forall_mem_cons.mpr ⟨ab_lcmp_ok dL_law_1587, List.forall_mem_cons.mpr ⟨ab_if_eq_ok dL_law_1588 (by decide), List.forall_mem_cons.mpr ⟨ab_iconst_ok dL_law_1591 (by decide), List.forall_mem_cons.mpr ⟨ab_zret_ok dL_law_1592 rfl, fun _ h => absurd h List.not_mem_nil⟩⟩⟩⟩⟩⟩⟩⟩⟩⟩⟩⟩⟩⟩⟩⟩⟩⟩⟩⟩⟩⟩⟩⟩⟩⟩⟩⟩⟩⟩⟩⟩⟩⟩⟩⟩⟩⟩⟩⟩
theorem dL_law_1593 : decode cL_law 1593 = .ok (.goto 1077, 3) := by decide +kernel
theorem dL_law_1596 : decode cL_law 1596 = .ok (.aload_n 1, 1) := by decide +kernel
theorem dL_law_1597 : decode cL_law 1597 = .ok (.aload_n 0, 1) := by decide +kernel
theorem dL_law_1598 : decode cL_law 1598 = .ok (.iload 5, 2) := by decide +kernel
theorem dL_law_1600 : decode cL_law 1600 = .ok (.iconst 1, 1) := by decide +kernel
theorem dL_law_1601 : decode cL_law 1601 = .ok (.iadd, 1) := by decide +kernel
theorem dL_law_1602 : decode cL_law 1602 = .ok (.iaload, 1) := by decide +kernel
theorem dL_law_1603 : decode cL_law 1603 = .ok (.aload_n 3, 1) := by decide +kernel
theorem dL_law_1604 : decode cL_law 1604 = .ok (.invokestatic 224, 3) := by decide +kernel
theorem dL_law_1607 : decode cL_law 1607 = .ok (.istore 6, 2) := by decide +kernel
theorem dL_law_1609 : decode cL_law 1609 = .ok (.aload_n 2, 1) := by decide +kernel
theorem dL_law_1610 : decode cL_law 1610 = .ok (.aload_n 0, 1) := by decide +kernel
theorem dL_law_1611 : decode cL_law 1611 = .ok (.iload 5, 2) := by decide +kernel
theorem dL_law_1613 : decode cL_law 1613 = .ok (.iconst 1, 1) := by decide +kernel
theorem dL_law_1614 : decode cL_law 1614 = .ok (.iadd, 1) := by decide +kernel
theorem dL_law_1615 : decode cL_law 1615 = .ok (.iaload, 1) := by decide +kernel
theorem dL_law_1616 : decode cL_law 1616 = .ok (.invokevirtual 226, 3) := by decide +kernel
theorem dL_law_1619 : decode cL_law 1619 = .ok (.istore 7, 2) := by decide +kernel
theorem dL_law_1621 : decode cL_law 1621 = .ok (.aload_n 2, 1) := by decide +kernel
theorem dL_law_1622 : decode cL_law 1622 = .ok (.invokevirtual 158, 3) := by decide +kernel
theorem dL_law_1625 : decode cL_law 1625 = .ok (.iload 6, 2) := by decide +kernel
theorem dL_law_1627 : decode cL_law 1627 = .ok (.if_icmp .eq 5, 3) := by decide +kernel
theorem dL_law_1630 : decode cL_law 1630 = .ok (.iconst 0, 1) := by decide +kernel
theorem dL_law_1631 : decode cL_law 1631 = .ok (.ireturn, 1) := by decide +kernel
theorem dL_law_1632 : decode cL_law 1632 = .ok (.iload 6, 2) := by decide +kernel
theorem dL_law_1634 : decode cL_law 1634 = .ok (.ifCond .ne 15, 3) := by decide +kernel
theorem dL_law_1637 : decode cL_law 1637 = .ok (.aload_n 3, 1) := by decide +kernel
theorem dL_law_1638 : decode cL_law 1638 = .ok (.iconst 0, 1) := by decide +kernel
theorem dL_law_1639 : decode cL_law 1639 = .ok (.laload, 1) := by decide +kernel
theorem dL_law_1640 : decode cL_law 1640 = .ok (.iload 7, 2) := by decide +kernel
theorem dL_law_1642 : decode cL_law 1642 = .ok (.i2l, 1) := by decide +kernel
theorem dL_law_1643 : decode cL_law 1643 = .ok (.lcmp, 1) := by decide +kernel
theorem dL_law_1644 : decode cL_law 1644 = .ok (.ifCond .eq 5, 3) := by decide +kernel
theorem dL_law_1647 : decode cL_law 1647 = .ok (.iconst 0, 1) := by decide +kernel
theorem dL_law_1648 : decode cL_law 1648 = .ok (.ireturn, 1) := by decide +kernel
theorem dL_law_1649 : decode cL_law 1649 = .ok (.goto 1021, 3) := by decide +kernel
theorem dL_law_1652 : decode cL_law 1652 = .ok (.aload_n 1, 1) := by decide +kernel
theorem dL_law_1653 : decode cL_law 1653 = .ok (.aload_n 0, 1) := by decide +kernel
theorem dL_law_1654 : decode cL_law 1654 = .ok (.iload 5, 2) := by decide +kernel
theorem dL_law_1656 : decode cL_law 1656 = .ok (.iconst 1, 1) := by decide +kernel
theorem ab_k0_23 (K : ab_Kt) : ∀ q ∈ ab_l0_23 K, ab_OK K ab_mt ab_g0 q.1 q.2 := by
  unfold ab_l0_23
  exact List.forall_mem_cons.mpr ⟨ab_goto_ok dL_law_1593 (by decide), List.forall_mem_cons.mpr ⟨ab_aload_n_ok dL_law_1596 rfl, List.forall_mem_cons.mpr ⟨ab_aload_n_ok dL_law_1597 rfl, List.forall_mem_cons.mpr ⟨ab_iload_ok dL_law_1598, List.forall_mem_cons.mpr ⟨ab_iconst_ok dL_law_1600 (by decide), List.forall_mem_cons.mpr ⟨ab_iadd_ok dL_law_1601, List.forall_mem_cons.mpr ⟨ab_scr_ok dL_law_1602, List.forall_mem_cons.mpr ⟨ab_aload_n_ok dL_law_1603 rfl, List.forall_mem_cons.mpr ⟨ab_callSX_ok' (G' := ab_g42) dL_law_1604 ab_m42 (by decide) (by decide) (ab_l3 ab_w154 ab_w155 ab_w16) ab_w156 rfl ⟨by decide, by decide, by decide +kernel⟩, List.forall_mem_cons.mpr ⟨ab_istore_ok dL_law_1607, List.forall_mem_cons.mpr ⟨ab_aload_n_ok dL_law_1609 rfl, List.forall_mem_cons.mpr ⟨ab_aload_n_ok dL_law_1610 rfl, List.forall_mem_cons.mpr ⟨ab_iload_ok dL_law_1611, List.forall_mem_cons.mpr ⟨ab_iconst_ok dL_law_1613 (by decide), List.forall_mem_cons.mpr ⟨ab_iadd_ok dL_law_1614, List.forall_mem_cons.mpr ⟨ab_scr_ok dL_law_1615, List.forall_mem_cons.mpr ⟨ab_callV_ok' (G' := ab_g43) (C := RX7) (T := TX7) (N := 19) dL_law_1616 ab_m43 rfl rfl (by decide) (by decide) (ab_l4 ab_w157 ab_w158 ab_w159 ab_w8) ab_w160 rfl ⟨by decide, by decide, by decide +kernel⟩, List.forall_mem_cons.mpr ⟨ab_istore_ok dL_law_1619, List.forall_mem_cons.mpr ⟨ab_aload_n_ok dL_law_1621 rfl, List.forall_mem_cons.mpr ⟨ab_callV_ok' (G' := ab_g5) (C := RX7) (T := TX7) (N := 19) dL_law_1622 ab_m5 rfl rfl (by decide) (by decide) (ab_l4 ab_w22 ab_w23 ab_w24 ab_w8) ab_w25 rfl ⟨by decide, by decide, by decide +kernel⟩, List.forall_mem_cons.mpr ⟨ab_iload_ok dL_law_1625, List.forall_mem_cons.mpr ⟨ab_icmp_eq_ok dL_law_1627 (by decide), List.forall_mem_cons.mpr ⟨ab_iconst_ok dL_law_1630 (by decide), List.forall_mem_cons.mpr ⟨ab_zret_ok dL_law_1631 rfl, List.forall_mem_cons.mpr ⟨ab_iload_ok dL_law_1632, List.forall_mem_cons.mpr ⟨ab_if_ne_ok dL_law_1634 (by decide), List.forall_mem_cons.mpr ⟨ab_aload_n_ok dL_law_1637 rfl, List.forall_mem_cons.mpr ⟨ab_iconst_ok dL_law_1638 (by decide), List.forall_mem_cons.mpr ⟨ab_lald_ok dL_law_1639, List.forall_mem_cons.mpr ⟨ab_iload_ok dL_law_1640, List.forall_mem_cons.mpr ⟨ab_i2l_ok dL_law_1642, List.forall_mem_cons.mpr ⟨ab_lcmp_ok dL_law_1643, List.forall_mem_cons.mpr ⟨ab_if_eq_ok dL_law_1644 (by decide), List.forall_mem_cons.mpr ⟨ab_iconst_ok dL_law_1647 (by decide), List.forall_mem_cons.mpr ⟨ab_zret_ok dL_law_1648 rfl, List.forall_mem_cons.mpr ⟨ab_goto_ok dL_law_1649 (by decide), List.forall_mem_cons.mpr ⟨ab_aload_n_ok dL_law_1652 rfl, List.forall_mem_cons.mpr ⟨ab_aload_n_ok dL_law_1653 rfl, List.forall_mem_cons.mpr ⟨ab_iload_ok dL_law_1654, List.forall_mem_cons.mpr ⟨ab_iconst_ok dL_law_1656 (by decide), fun _ h => absurd h List.not_mem_nil⟩⟩⟩⟩⟩⟩⟩⟩⟩⟩⟩⟩⟩⟩⟩⟩⟩⟩⟩⟩⟩⟩⟩⟩⟩⟩⟩⟩⟩⟩⟩⟩⟩⟩⟩⟩⟩⟩⟩⟩
theorem dL_law_1657 : decode cL_law 1657 = .ok (.iadd, 1) := by decide +kernel
theorem dL_law_1658 : decode cL_law 1658 = .ok (.iaload, 1) := by decide +kernel
theorem dL_law_1659 : decode cL_law 1659 = .ok (.aload_n 0, 1) := by decide +kernel
theorem dL_law_1660 : decode cL_law 1660 = .ok (.iload 5, 2) := by decide +kernel
theorem dL_law_1662 : decode cL_law 1662 = .ok (.iconst 2, 1) := by decide +kernel
theorem dL_law_1663 : decode cL_law 1663 = .ok (.iadd, 1) := by decide +kernel
theorem dL_law_1664 : decode cL_law 1664 = .ok (.iaload, 1) := by decide +kernel
theorem dL_law_1665 : decode cL_law 1665 = .ok (.aload_n 3, 1) := by decide +kernel
theorem dL_law_1666 : decode cL_law 1666 = .ok (.invokestatic 227, 3) := by decide +kernel
theorem dL_law_1669 : decode cL_law 1669 = .ok (.istore 6, 2) := by decide +kernel
theorem dL_law_1671 : decode cL_law 1671 = .ok (.aload_n 2, 1) := by decide +kernel
theorem dL_law_1672 : decode cL_law 1672 = .ok (.aload_n 0, 1) := by decide +kernel
theorem dL_law_1673 : decode cL_law 1673 = .ok (.iload 5, 2) := by decide +kernel
theorem dL_law_1675 : decode cL_law 1675 = .ok (.iconst 1, 1) := by decide +kernel
theorem dL_law_1676 : decode cL_law 1676 = .ok (.iadd, 1) := by decide +kernel
theorem dL_law_1677 : decode cL_law 1677 = .ok (.iaload, 1) := by decide +kernel
theorem dL_law_1678 : decode cL_law 1678 = .ok (.aload_n 0, 1) := by decide +kernel
theorem dL_law_1679 : decode cL_law 1679 = .ok (.iload 5, 2) := by decide +kernel
theorem dL_law_1681 : decode cL_law 1681 = .ok (.iconst 2, 1) := by decide +kernel
theorem dL_law_1682 : decode cL_law 1682 = .ok (.iadd, 1) := by decide +kernel
theorem dL_law_1683 : decode cL_law 1683 = .ok (.iaload, 1) := by decide +kernel
theorem dL_law_1684 : decode cL_law 1684 = .ok (.invokevirtual 229, 3) := by decide +kernel
theorem dL_law_1687 : decode cL_law 1687 = .ok (.istore 7, 2) := by decide +kernel
theorem dL_law_1689 : decode cL_law 1689 = .ok (.aload_n 2, 1) := by decide +kernel
theorem dL_law_1690 : decode cL_law 1690 = .ok (.invokevirtual 158, 3) := by decide +kernel
theorem dL_law_1693 : decode cL_law 1693 = .ok (.iload 6, 2) := by decide +kernel
theorem dL_law_1695 : decode cL_law 1695 = .ok (.if_icmp .eq 5, 3) := by decide +kernel
theorem dL_law_1698 : decode cL_law 1698 = .ok (.iconst 0, 1) := by decide +kernel
theorem dL_law_1699 : decode cL_law 1699 = .ok (.ireturn, 1) := by decide +kernel
theorem dL_law_1700 : decode cL_law 1700 = .ok (.iload 6, 2) := by decide +kernel
theorem dL_law_1702 : decode cL_law 1702 = .ok (.ifCond .ne 15, 3) := by decide +kernel
theorem dL_law_1705 : decode cL_law 1705 = .ok (.aload_n 3, 1) := by decide +kernel
theorem dL_law_1706 : decode cL_law 1706 = .ok (.iconst 0, 1) := by decide +kernel
theorem dL_law_1707 : decode cL_law 1707 = .ok (.laload, 1) := by decide +kernel
theorem dL_law_1708 : decode cL_law 1708 = .ok (.iload 7, 2) := by decide +kernel
theorem dL_law_1710 : decode cL_law 1710 = .ok (.i2l, 1) := by decide +kernel
theorem dL_law_1711 : decode cL_law 1711 = .ok (.lcmp, 1) := by decide +kernel
theorem dL_law_1712 : decode cL_law 1712 = .ok (.ifCond .eq 5, 3) := by decide +kernel
theorem dL_law_1715 : decode cL_law 1715 = .ok (.iconst 0, 1) := by decide +kernel
theorem dL_law_1716 : decode cL_law 1716 = .ok (.ireturn, 1) := by decide +kernel
theorem ab_k0_24 (K : ab_Kt) : ∀ q ∈ ab_l0_24 K, ab_OK K ab_mt ab_g0 q.1 q.2 := by
  unfold ab_l0_24
  exact List.forall_mem_cons.mpr ⟨ab_iadd_ok dL_law_1657, List.forall_mem_cons.mpr ⟨ab_scr_ok dL_law_1658, List.forall_mem_cons.mpr ⟨ab_aload_n_ok dL_law_1659 rfl, List.forall_mem_cons.mpr ⟨ab_iload_ok dL_law_1660, List.forall_mem_cons.mpr ⟨ab_iconst_ok dL_law_1662 (by decide), List.forall_mem_cons.mpr ⟨ab_iadd_ok dL_law_1663, List.forall_mem_cons.mpr ⟨ab_scr_ok dL_law_1664, List.forall_mem_cons.mpr ⟨ab_aload_n_ok dL_law_1665 rfl, List.forall_mem_cons.mpr ⟨ab_callSX_ok' (G' := ab_g40) dL_law_1666 ab_m40 (by decide) (by decide) (ab_l3 ab_w147 ab_w148 ab_w16) ab_w149 rfl ⟨by decide, by decide, by decide +kernel⟩, List.forall_mem_cons.mpr ⟨ab_istore_ok dL_law_1669, List.forall_mem_cons.mpr ⟨ab_aload_n_ok dL_law_1671 rfl, List.forall_mem_cons.mpr ⟨ab_aload_n_ok dL_law_1672 rfl, List.forall_mem_cons.mpr ⟨ab_iload_ok dL_law_1673, List.forall_mem_cons.mpr ⟨ab_iconst_ok dL_law_1675 (by decide), List.forall_mem_cons.mpr ⟨ab_iadd_ok dL_law_1676, List.forall_mem_cons.mpr ⟨ab_scr_ok dL_law_1677, List.forall_mem_cons.mpr ⟨ab_aload_n_ok dL_law_1678 rfl, List.forall_mem_cons.mpr ⟨ab_iload_ok dL_law_1679, List.forall_mem_cons.mpr ⟨ab_iconst_ok dL_law_1681 (by decide), List.forall_mem_cons.mpr ⟨ab_iadd_ok dL_law_1682, List.forall_mem_cons.mpr ⟨ab_scr_ok dL_law_1683, List.forall_mem_cons.mpr ⟨ab_callV_ok' (G' := ab_g41) (C := RX7) (T := TX7) (N := 19) dL_law_1684 ab_m41 rfl rfl (by decide) (by decide) (ab_l4 ab_w150 ab_w151 ab_w152 ab_w8) ab_w153 rfl ⟨by decide, by decide, by decide +kernel⟩, List.forall_mem_cons.mpr ⟨ab_istore_ok dL_law_1687, List.forall_mem_cons.mpr ⟨ab_aload_n_ok dL_law_1689 rfl, List.forall_mem_cons.mpr ⟨ab_callV_ok' (G' := ab_g5) (C := RX7) (T := TX7) (N := 19) dL_law_1690 ab_m5 rfl rfl (by decide) (by decide) (ab_l4 ab_w22 ab_w23 ab_w24 ab_w8) ab_w25 rfl ⟨by decide, by decide, by decide +kernel⟩, List.forall_mem_cons.mpr ⟨ab_iload_ok dL_law_1693, List.forall_mem_cons.mpr ⟨ab_icmp_eq_ok dL_law_1695 (by decide), List.forall_mem_cons.mpr ⟨ab_iconst_ok dL_law_1698 (by decide), List.forall_mem_cons.mpr ⟨ab_zret_ok dL_law_1699 rfl, List.forall_mem_cons.mpr ⟨ab_iload_ok dL_law_1700, List.forall_mem_cons.mpr ⟨ab_if_ne_ok dL_law_1702 (by decide), List.forall_mem_cons.mpr ⟨ab_aload_n_ok dL_law_1705 rfl, List.forall_mem_cons.mpr ⟨ab_iconst_ok dL_law_1706 (by decide), List.forall_mem_cons.mpr ⟨ab_lald_ok dL_law_1707, List.forall_mem_cons.mpr ⟨ab_iload_ok dL_law_1708, List.forall_mem_cons.mpr ⟨ab_i2l_ok dL_law_1710, List.forall_mem_cons.mpr ⟨ab_lcmp_ok dL_law_1711, List.forall_mem_cons.mpr ⟨ab_if_eq_ok dL_law_1712 (by decide), List.forall_mem_cons.mpr ⟨ab_iconst_ok dL_law_1715 (by decide), List.forall_mem_cons.mpr ⟨ab_zret_ok dL_law_1716 rfl, fun _ h => absurd h List.not_mem_nil⟩⟩⟩⟩⟩⟩⟩⟩⟩⟩⟩⟩⟩⟩⟩⟩⟩⟩⟩⟩⟩⟩⟩⟩⟩⟩⟩⟩⟩⟩⟩⟩⟩⟩⟩⟩⟩⟩⟩⟩
theorem dL_law_1717 : decode cL_law 1717 = .ok (.goto 953, 3) := by decide +kernel
theorem dL_law_1720 : decode cL_law 1720 = .ok (.aload_n 1, 1) := by decide +kernel
theorem dL_law_1721 : decode cL_law 1721 = .ok (.aload_n 0, 1) := by decide +kernel
theorem dL_law_1722 : decode cL_law 1722 = .ok (.iload 5, 2) := by decide +kernel
theorem dL_law_1724 : decode cL_law 1724 = .ok (.iconst 1, 1) := by decide +kernel
theorem dL_law_1725 : decode cL_law 1725 = .ok (.iadd, 1) := by decide +kernel
theorem dL_law_1726 : decode cL_law 1726 = .ok (.iaload, 1) := by decide +kernel
theorem dL_law_1727 : decode cL_law 1727 = .ok (.aload_n 3, 1) := by decide +kernel
theorem dL_law_1728 : decode cL_law 1728 = .ok (.invokestatic 230, 3) := by decide +kernel
theorem dL_law_1731 : decode cL_law 1731 = .ok (.istore 6, 2) := by decide +kernel
theorem dL_law_1733 : decode cL_law 1733 = .ok (.aload_n 2, 1) := by decide +kernel
theorem dL_law_1734 : decode cL_law 1734 = .ok (.aload_n 0, 1) := by decide +kernel
theorem dL_law_1735 : decode cL_law 1735 = .ok (.iload 5, 2) := by decide +kernel
theorem dL_law_1737 : decode cL_law 1737 = .ok (.iconst 1, 1) := by decide +kernel
theorem dL_law_1738 : decode cL_law 1738 = .ok (.iadd, 1) := by decide +kernel
theorem dL_law_1739 : decode cL_law 1739 = .ok (.iaload, 1) := by decide +kernel
theorem dL_law_1740 : decode cL_law 1740 = .ok (.invokevirtual 232, 3) := by decide +kernel
theorem dL_law_1743 : decode cL_law 1743 = .ok (.istore 7, 2) := by decide +kernel
theorem dL_law_1745 : decode cL_law 1745 = .ok (.aload_n 2, 1) := by decide +kernel
theorem dL_law_1746 : decode cL_law 1746 = .ok (.invokevirtual 158, 3) := by decide +kernel
theorem dL_law_1749 : decode cL_law 1749 = .ok (.iload 6, 2) := by decide +kernel
theorem dL_law_1751 : decode cL_law 1751 = .ok (.if_icmp .eq 5, 3) := by decide +kernel
theorem dL_law_1754 : decode cL_law 1754 = .ok (.iconst 0, 1) := by decide +kernel
theorem dL_law_1755 : decode cL_law 1755 = .ok (.ireturn, 1) := by decide +kernel
theorem dL_law_1756 : decode cL_law 1756 = .ok (.iload 6, 2) := by decide +kernel
theorem dL_law_1758 : decode cL_law 1758 = .ok (.ifCond .ne 15, 3) := by decide +kernel
theorem dL_law_1761 : decode cL_law 1761 = .ok (.aload_n 3, 1) := by decide +kernel
theorem dL_law_1762 : decode cL_law 1762 = .ok (.iconst 0, 1) := by decide +kernel
theorem dL_law_1763 : decode cL_law 1763 = .ok (.laload, 1) := by decide +kernel
theorem dL_law_1764 : decode cL_law 1764 = .ok (.iload 7, 2) := by decide +kernel
theorem dL_law_1766 : decode cL_law 1766 = .ok (.i2l, 1) := by decide +kernel
theorem dL_law_1767 : decode cL_law 1767 = .ok (.lcmp, 1) := by decide +kernel
theorem dL_law_1768 : decode cL_law 1768 = .ok (.ifCond .eq 5, 3) := by decide +kernel
theorem dL_law_1771 : decode cL_law 1771 = .ok (.iconst 0, 1) := by decide +kernel
theorem dL_law_1772 : decode cL_law 1772 = .ok (.ireturn, 1) := by decide +kernel
theorem dL_law_1773 : decode cL_law 1773 = .ok (.goto 897, 3) := by decide +kernel
theorem dL_law_1776 : decode cL_law 1776 = .ok (.aload_n 1, 1) := by decide +kernel
theorem dL_law_1777 : decode cL_law 1777 = .ok (.aload_n 0, 1) := by decide +kernel
theorem dL_law_1778 : decode cL_law 1778 = .ok (.iload 5, 2) := by decide +kernel
theorem dL_law_1780 : decode cL_law 1780 = .ok (.iconst 1, 1) := by decide +kernel
theorem ab_k0_25 (K : ab_Kt) : ∀ q ∈ ab_l0_25 K, ab_OK K ab_mt ab_g0 q.1 q.2 := by
  unfold ab_l0_25
  exact List.forall_mem_cons.mpr ⟨ab_goto_ok dL_law_1717 (by decide), List.forall_mem_cons.mpr ⟨ab_aload_n_ok dL_law_1720 rfl, List.forall_mem_cons.mpr ⟨ab_aload_n_ok dL_law_1721 rfl, List.forall_mem_cons.mpr ⟨ab_iload_ok dL_law_1722, List.forall_mem_cons.mpr ⟨ab_iconst_ok dL_law_1724 (by decide), List.forall_mem_cons.mpr ⟨ab_iadd_ok dL_law_1725, List.forall_mem_cons.mpr ⟨ab_scr_ok dL_law_1726, List.forall_mem_cons.mpr ⟨ab_aload_n_ok dL_law_1727 rfl, List.forall_mem_cons.mpr ⟨ab_callSX_ok' (G' := ab_g38) dL_law_1728 ab_m38 (by decide) (by decide) (ab_l3 ab_w140 ab_w141 ab_w16) ab_w142 rfl ⟨by decide, by decide, by decide +kernel⟩, List.forall_mem_cons.mpr ⟨ab_istore_ok dL_law_1731, List.forall_mem_cons.mpr ⟨ab_aload_n_ok dL_law_1733 rfl, List.forall_mem_cons.mpr ⟨ab_aload_n_ok dL_law_1734 rfl, List.forall_mem_cons.mpr ⟨ab_iload_ok dL_law_1735, List.forall_mem_cons.mpr ⟨ab_iconst_ok dL_law_1737 (by decide), List.forall_mem_cons.mpr ⟨ab_iadd_ok dL_law_1738, List.forall_mem_cons.mpr ⟨ab_scr_ok dL_law_1739, List.forall_mem_cons.mpr ⟨ab_callV_ok' (G' := ab_g39) (C := RX7) (T := TX7) (N := 19) dL_law_1740 ab_m39 rfl rfl (by decide) (by decide) (ab_l4 ab_w143 ab_w144 ab_w145 ab_w8) ab_w146 rfl ⟨by decide, by decide, by decide +kernel⟩, List.forall_mem_cons.mpr ⟨ab_istore_ok dL_law_1743, List.forall_mem_cons.mpr ⟨ab_aload_n_ok dL_law_1745 rfl, List.forall_mem_cons.mpr ⟨ab_callV_ok' (G' := ab_g5) (C := RX7) (T := TX7) (N := 19) dL_law_1746 ab_m5 rfl rfl (by decide) (by decide) (ab_l4 ab_w22 ab_w23 ab_w24 ab_w8) ab_w25 rfl ⟨by decide, by decide, by decide +kernel⟩, List.forall_mem_cons.mpr ⟨ab_iload_ok dL_law_1749, List.forall_mem_cons.mpr ⟨ab_icmp_eq_ok dL_law_1751 (by decide), List.forall_mem_cons.mpr ⟨ab_iconst_ok dL_law_1754 (by decide), List.forall_mem_cons.mpr ⟨ab_zret_ok dL_law_1755 rfl, List.forall_mem_cons.mpr ⟨ab_iload_ok dL_law_1756, List.forall_mem_cons.mpr ⟨ab_if_ne_ok dL_law_1758 (by decide), List.forall_mem_cons.mpr ⟨ab_aload_n_ok dL_law_1761 rfl, List.forall_mem_cons.mpr ⟨ab_iconst_ok dL_law_1762 (by decide), List.forall_mem_cons.mpr ⟨ab_lald_ok dL_law_1763, List.forall_mem_cons.mpr ⟨ab_iload_ok dL_law_1764, List.forall_mem_cons.mpr ⟨ab_i2l_ok dL_law_1766, List.forall_mem_cons.mpr ⟨ab_lcmp_ok dL_law_1767, List.forall_mem_cons.mpr ⟨ab_if_eq_ok dL_law_1768 (by decide), List.forall_mem_cons.mpr ⟨ab_iconst_ok dL_law_1771 (by decide), List.forall_mem_cons.mpr ⟨ab_zret_ok dL_law_1772 rfl, List.forall_mem_cons.mpr ⟨ab_goto_ok dL_law_1773 (by decide), List.forall_mem_cons.mpr ⟨ab_aload_n_ok dL_law_1776 rfl, List.forall_mem_cons.mpr ⟨ab_aload_n_ok dL_law_1777 rfl, List.forall_mem_cons.mpr ⟨ab_iload_ok dL_law_1778, List.forall_mem_cons.mpr ⟨ab_iconst_ok dL_law_1780 (by decide), fun _ h => absurd h List.not_mem_nil⟩⟩⟩⟩⟩⟩⟩⟩⟩⟩⟩⟩⟩⟩⟩⟩⟩⟩⟩⟩⟩⟩⟩⟩⟩⟩⟩⟩⟩⟩⟩⟩⟩⟩⟩⟩⟩⟩⟩⟩
theorem dL_law_1781 : decode cL_law 1781 = .ok (.iadd, 1) := by decide +kernel
theorem dL_law_1782 : decode cL_law 1782 = .ok (.iaload, 1) := by decide +kernel
theorem dL_law_1783 : decode cL_law 1783 = .ok (.aload_n 0, 1) := by decide +kernel
theorem dL_law_1784 : decode cL_law 1784 = .ok (.iload 5, 2) := by decide +kernel
theorem dL_law_1786 : decode cL_law 1786 = .ok (.iconst 2, 1) := by decide +kernel
theorem dL_law_1787 : decode cL_law 1787 = .ok (.iadd, 1) := by decide +kernel
theorem dL_law_1788 : decode cL_law 1788 = .ok (.iaload, 1) := by decide +kernel
theorem dL_law_1789 : decode cL_law 1789 = .ok (.aload_n 3, 1) := by decide +kernel
theorem dL_law_1790 : decode cL_law 1790 = .ok (.invokestatic 233, 3) := by decide +kernel
theorem dL_law_1793 : decode cL_law 1793 = .ok (.istore 6, 2) := by decide +kernel
theorem dL_law_1795 : decode cL_law 1795 = .ok (.aload_n 2, 1) := by decide +kernel
theorem dL_law_1796 : decode cL_law 1796 = .ok (.aload_n 0, 1) := by decide +kernel
theorem dL_law_1797 : decode cL_law 1797 = .ok (.iload 5, 2) := by decide +kernel
theorem dL_law_1799 : decode cL_law 1799 = .ok (.iconst 1, 1) := by decide +kernel
theorem dL_law_1800 : decode cL_law 1800 = .ok (.iadd, 1) := by decide +kernel
theorem dL_law_1801 : decode cL_law 1801 = .ok (.iaload, 1) := by decide +kernel
theorem dL_law_1802 : decode cL_law 1802 = .ok (.aload_n 0, 1) := by decide +kernel
theorem dL_law_1803 : decode cL_law 1803 = .ok (.iload 5, 2) := by decide +kernel
theorem dL_law_1805 : decode cL_law 1805 = .ok (.iconst 2, 1) := by decide +kernel
theorem dL_law_1806 : decode cL_law 1806 = .ok (.iadd, 1) := by decide +kernel
theorem dL_law_1807 : decode cL_law 1807 = .ok (.iaload, 1) := by decide +kernel
theorem dL_law_1808 : decode cL_law 1808 = .ok (.invokevirtual 235, 3) := by decide +kernel
theorem dL_law_1811 : decode cL_law 1811 = .ok (.istore 7, 2) := by decide +kernel
theorem dL_law_1813 : decode cL_law 1813 = .ok (.aload_n 2, 1) := by decide +kernel
theorem dL_law_1814 : decode cL_law 1814 = .ok (.invokevirtual 158, 3) := by decide +kernel
theorem dL_law_1817 : decode cL_law 1817 = .ok (.iload 6, 2) := by decide +kernel
theorem dL_law_1819 : decode cL_law 1819 = .ok (.if_icmp .eq 5, 3) := by decide +kernel
theorem dL_law_1822 : decode cL_law 1822 = .ok (.iconst 0, 1) := by decide +kernel
theorem dL_law_1823 : decode cL_law 1823 = .ok (.ireturn, 1) := by decide +kernel
theorem dL_law_1824 : decode cL_law 1824 = .ok (.iload 6, 2) := by decide +kernel
theorem dL_law_1826 : decode cL_law 1826 = .ok (.ifCond .ne 22, 3) := by decide +kernel
theorem dL_law_1829 : decode cL_law 1829 = .ok (.aload_n 3, 1) := by decide +kernel
theorem dL_law_1830 : decode cL_law 1830 = .ok (.iconst 0, 1) := by decide +kernel
theorem dL_law_1831 : decode cL_law 1831 = .ok (.laload, 1) := by decide +kernel
theorem dL_law_1832 : decode cL_law 1832 = .ok (.iload 7, 2) := by decide +kernel
theorem dL_law_1834 : decode cL_law 1834 = .ok (.ifCond .eq 7, 3) := by decide +kernel
theorem dL_law_1837 : decode cL_law 1837 = .ok (.lconst 1, 1) := by decide +kernel
theorem dL_law_1838 : decode cL_law 1838 = .ok (.goto 4, 3) := by decide +kernel
theorem dL_law_1841 : decode cL_law 1841 = .ok (.lconst 0, 1) := by decide +kernel
theorem dL_law_1842 : decode cL_law 1842 = .ok (.lcmp, 1) := by decide +kernel
theorem ab_k0_26 (K : ab_Kt) : ∀ q ∈ ab_l0_26 K, ab_OK K ab_mt ab_g0 q.1 q.2 := by
  unfold ab_l0_26
  exact List.forall_mem_cons.mpr ⟨ab_iadd_ok dL_law_1781, List.forall_mem_cons.mpr ⟨ab_scr_ok dL_law_1782, List.forall_mem_cons.mpr ⟨ab_aload_n_ok dL_law_1783 rfl, List.forall_mem_cons.mpr ⟨ab_iload_ok dL_law_1784, List.forall_mem_cons.mpr ⟨ab_iconst_ok dL_law_1786 (by decide), List.forall_mem_cons.mpr ⟨ab_iadd_ok dL_law_1787, List.forall_mem_cons.mpr ⟨ab_scr_ok dL_law_1788, List.forall_mem_cons.mpr ⟨ab_aload_n_ok dL_law_1789 rfl, List.forall_mem_cons.mpr ⟨ab_callSX_ok' (G' := ab_g36) dL_law_1790 ab_m36 (by decide) (by decide) (ab_l3 ab_w133 ab_w134 ab_w16) ab_w135 rfl ⟨by decide, by decide, by decide +kernel⟩, List.forall_mem_cons.mpr ⟨ab_istore_ok dL_law_1793, List.forall_mem_cons.mpr ⟨ab_aload_n_ok dL_law_1795 rfl, List.forall_mem_cons.mpr ⟨ab_aload_n_ok dL_law_1796 rfl, List.forall_mem_cons.mpr ⟨ab_iload_ok dL_law_1797, List.forall_mem_cons.mpr ⟨ab_iconst_ok dL_law_1799 (by decide), List.forall_mem_cons.mpr ⟨ab_iadd_ok dL_law_1800, List.forall_mem_cons.mpr ⟨ab_scr_ok dL_law_1801, List.forall_mem_cons.mpr ⟨ab_aload_n_ok dL_law_1802 rfl, List.forall_mem_cons.mpr ⟨ab_iload_ok dL_law_1803, List.forall_mem_cons.mpr ⟨ab_iconst_ok dL_law_1805 (by decide), List.forall_mem_cons.mpr ⟨ab_iadd_ok dL_law_1806, List.forall_mem_cons.mpr ⟨ab_scr_ok dL_law_1807, List.forall_mem_cons.mpr ⟨ab_callV_ok' (G' := ab_g37) (C := RX7) (T := TX7) (N := 19) dL_law_1808 ab_m37 rfl rfl (by decide) (by decide) (ab_l4 ab_w136 ab_w137 ab_w138 ab_w8) ab_w139 rfl ⟨by decide, by decide, by decide +kernel⟩, List.forall_mem_cons.mpr ⟨ab_istore_ok dL_law_1811, List.forall_mem_cons.mpr ⟨ab_aload_n_ok dL_law_1813 rfl, List.forall_mem_cons.mpr ⟨ab_callV_ok' (G' := ab_g5) (C := RX7) (T := TX7) (N := 19) dL_law_1814 ab_m5 rfl rfl (by decide) (by decide) (ab_l4 ab_w22 ab_w23 ab_w24 ab_w8) ab_w25 rfl ⟨by decide, by decide, by decide +kernel⟩, List.forall_mem_cons.mpr ⟨ab_iload_ok dL_law_1817, List.forall_mem_cons.mpr ⟨ab_icmp_eq_ok dL_law_1819 (by decide), List.forall_mem_cons.mpr ⟨ab_iconst_ok dL_law_1822 (by decide), List.forall_mem_cons.mpr ⟨ab_zret_ok dL_law_1823 rfl, List.forall_mem_cons.mpr ⟨ab_iload_ok dL_law_1824, List.forall_mem_cons.mpr ⟨ab_if_ne_ok dL_law_1826 (by decide), List.forall_mem_cons.mpr ⟨ab_aload_n_ok dL_law_1829 rfl, List.forall_mem_cons.mpr ⟨ab_iconst_ok dL_law_1830 (by decide), List.forall_mem_cons.mpr ⟨ab_lald_ok dL_law_1831, List.forall_mem_cons.mpr ⟨ab_iload_ok dL_law_1832, List.forall_mem_cons.mpr ⟨ab_if_eq_ok dL_law_1834 (by decide), List.forall_mem_cons.mpr ⟨ab_lconst_ok dL_law_1837 (by decide), List.forall_mem_cons.mpr ⟨ab_goto_ok dL_law_1838 (by decide), List.forall_mem_cons.mpr ⟨ab_lconst_ok dL_law_1841 (by decide), List.forall_mem_cons.mpr ⟨ab_lcmp_ok dL_law_1842, fun _ h => absurd h List.not_mem_nil⟩⟩⟩⟩⟩⟩⟩⟩⟩⟩⟩⟩⟩⟩⟩⟩⟩⟩⟩⟩⟩⟩⟩⟩⟩⟩⟩⟩⟩⟩⟩⟩⟩⟩⟩⟩⟩⟩⟩⟩
theorem dL_law_1843 : decode cL_law 1843 = .ok (.ifCond .eq 5, 3) := by decide +kernel
theorem dL_law_1846 : decode cL_law 1846 = .ok (.iconst 0, 1) := by decide +kernel
theorem dL_law_1847 : decode cL_law 1847 = .ok (.ireturn, 1) := by decide +kernel
theorem dL_law_1848 : decode cL_law 1848 = .ok (.goto 822, 3) := by decide +kernel
theorem dL_law_1851 : decode cL_law 1851 = .ok (.aload_n 1, 1) := by decide +kernel
theorem dL_law_1852 : decode cL_law 1852 = .ok (.aload_n 0, 1) := by decide +kernel
theorem dL_law_1853 : decode cL_law 1853 = .ok (.iload 5, 2) := by decide +kernel
theorem dL_law_1855 : decode cL_law 1855 = .ok (.iconst 1, 1) := by decide +kernel
theorem dL_law_1856 : decode cL_law 1856 = .ok (.iadd, 1) := by decide +kernel
theorem dL_law_1857 : decode cL_law 1857 = .ok (.iaload, 1) := by decide +kernel
theorem dL_law_1858 : decode cL_law 1858 = .ok (.aload_n 0, 1) := by decide +kernel
theorem dL_law_1859 : decode cL_law 1859 = .ok (.iload 5, 2) := by decide +kernel
theorem dL_law_1861 : decode cL_law 1861 = .ok (.iconst 2, 1) := by decide +kernel
theorem dL_law_1862 : decode cL_law 1862 = .ok (.iadd, 1) := by decide +kernel
theorem dL_law_1863 : decode cL_law 1863 = .ok (.iaload, 1) := by decide +kernel
theorem dL_law_1864 : decode cL_law 1864 = .ok (.aload_n 3, 1) := by decide +kernel
theorem dL_law_1865 : decode cL_law 1865 = .ok (.invokestatic 236, 3) := by decide +kernel
theorem dL_law_1868 : decode cL_law 1868 = .ok (.istore 6, 2) := by decide +kernel
theorem dL_law_1870 : decode cL_law 1870 = .ok (.aload_n 2, 1) := by decide +kernel
theorem dL_law_1871 : decode cL_law 1871 = .ok (.aload_n 0, 1) := by decide +kernel
theorem dL_law_1872 : decode cL_law 1872 = .ok (.iload 5, 2) := by decide +kernel
theorem dL_law_1874 : decode cL_law 1874 = .ok (.iconst 1, 1) := by decide +kernel
theorem dL_law_1875 : decode cL_law 1875 = .ok (.iadd, 1) := by decide +kernel
theorem dL_law_1876 : decode cL_law 1876 = .ok (.iaload, 1) := by decide +kernel
theorem dL_law_1877 : decode cL_law 1877 = .ok (.aload_n 0, 1) := by decide +kernel
theorem dL_law_1878 : decode cL_law 1878 = .ok (.iload 5, 2) := by decide +kernel
theorem dL_law_1880 : decode cL_law 1880 = .ok (.iconst 2, 1) := by decide +kernel
theorem dL_law_1881 : decode cL_law 1881 = .ok (.iadd, 1) := by decide +kernel
theorem dL_law_1882 : decode cL_law 1882 = .ok (.iaload, 1) := by decide +kernel
theorem dL_law_1883 : decode cL_law 1883 = .ok (.invokevirtual 238, 3) := by decide +kernel
theorem dL_law_1886 : decode cL_law 1886 = .ok (.istore 7, 2) := by decide +kernel
theorem dL_law_1888 : decode cL_law 1888 = .ok (.aload_n 2, 1) := by decide +kernel
theorem dL_law_1889 : decode cL_law 1889 = .ok (.invokevirtual 158, 3) := by decide +kernel
theorem dL_law_1892 : decode cL_law 1892 = .ok (.iload 6, 2) := by decide +kernel
theorem dL_law_1894 : decode cL_law 1894 = .ok (.if_icmp .eq 5, 3) := by decide +kernel
theorem dL_law_1897 : decode cL_law 1897 = .ok (.iconst 0, 1) := by decide +kernel
theorem dL_law_1898 : decode cL_law 1898 = .ok (.ireturn, 1) := by decide +kernel
theorem dL_law_1899 : decode cL_law 1899 = .ok (.iload 6, 2) := by decide +kernel
theorem dL_law_1901 : decode cL_law 1901 = .ok (.ifCond .ne 15, 3) := by decide +kernel
theorem dL_law_1904 : decode cL_law 1904 = .ok (.aload_n 3, 1) := by decide +kernel
theorem ab_k0_27 (K : ab_Kt) : ∀ q ∈ ab_l0_27 K, ab_OK K ab_mt ab_g0 q.1 q.2 := by
  unfold ab_l0_27
  exact List.forall_mem_cons.mpr ⟨ab_if_eq_ok dL_law_1843 (by decide), List.forall_mem_cons.mpr ⟨ab_iconst_ok dL_law_1846 (by decide), List.forall_mem_cons.mpr ⟨ab_zret_ok dL_law_1847 rfl, List.forall_mem_cons.mpr ⟨ab_goto_ok dL_law_1848 (by decide), List.forall_mem_cons.mpr ⟨ab_aload_n_ok dL_law_1851 rfl, List.forall_mem_cons.mpr ⟨ab_aload_n_ok dL_law_1852 rfl, List.forall_mem_cons.mpr ⟨ab_iload_ok dL_law_1853, List.forall_mem_cons.mpr ⟨ab_iconst_ok dL_law_1855 (by decide), List.forall_mem_cons.mpr ⟨ab_iadd_ok dL_law_1856, List.forall_mem_cons.mpr ⟨ab_scr_ok dL_law_1857, List.forall_mem_cons.mpr ⟨ab_aload_n_ok dL_law_1858 rfl, List.forall_mem_cons.mpr ⟨ab_iload_ok dL_law_1859, List.forall_mem_cons.mpr ⟨ab_iconst_ok dL_law_1861 (by decide), List.forall_mem_cons.mpr ⟨ab_iadd_ok dL_law_1862, List.forall_mem_cons.mpr ⟨ab_scr_ok dL_law_1863, List.forall_mem_cons.mpr ⟨ab_aload_n_ok dL_law_1864 rfl, List.forall_mem_cons.mpr ⟨ab_callSX_ok' (G' := ab_g34) dL_law_1865 ab_m34 (by decide) (by decide) (ab_l3 ab_w126 ab_w127 ab_w16) ab_w128 rfl ⟨by decide, by decide, by decide +kernel⟩, List.forall_mem_cons.mpr ⟨ab_istore_ok dL_law_1868, List.forall_mem_cons.mpr ⟨ab_aload_n_ok dL_law_1870 rfl, List.forall_mem_cons.mpr ⟨ab_aload_n_ok dL_law_1871 rfl, List.forall_mem_cons.mpr ⟨ab_iload_ok dL_law_1872, List.forall_mem_cons.mpr ⟨ab_iconst_ok dL_law_1874 (by decide), List.forall_mem_cons.mpr ⟨ab_iadd_ok dL_law_1875, List.forall_mem_cons.mpr ⟨ab_scr_ok dL_law_1876, List.forall_mem_cons.mpr ⟨ab_aload_n_ok dL_law_1877 rfl, List.forall_mem_cons.mpr ⟨ab_iload_ok dL_law_1878, List.forall_mem_cons.mpr ⟨ab_iconst_ok dL_law_1880 (by decide), List.forall_mem_cons.mpr ⟨ab_iadd_ok dL_law_1881, List.forall_mem_cons.mpr ⟨ab_scr_ok dL_law_1882, List.forall_mem_cons.mpr ⟨ab_callV_ok' (G' := ab_g35) (C := RX7) (T := TX7) (N := 19) dL_law_1883 ab_m35 rfl rfl (by decide) (by decide) (ab_l4 ab_w129 ab_w130 ab_w131 ab_w8) ab_w132 rfl ⟨by decide, by decide, by decide +kernel⟩, List.forall_mem_cons.mpr ⟨ab_istore_ok dL_law_1886, List.forall_mem_cons.mpr ⟨ab_aload_n_ok dL_law_1888 rfl, List.forall_mem_cons.mpr ⟨ab_callV_ok' (G' := ab_g5) (C := RX7) (T := TX7) (N := 19) dL_law_1889 ab_m5 rfl rfl (by decide) (by decide) (ab_l4 ab_w22 ab_w23 ab_w24 ab_w8) ab_w25 rfl ⟨by decide, by decide, by decide +kernel⟩, List.forall_mem_cons.mpr ⟨ab_iload_ok dL_law_1892, List.forall_mem_cons.mpr ⟨ab_icmp_eq_ok dL_law_1894 (by decide), List.forall_mem_cons.mpr ⟨ab_iconst_ok dL_law_1897 (by decide), List.forall_mem_cons.mpr ⟨ab_zret_ok dL_law_1898 rfl, List.forall_mem_cons.mpr ⟨ab_iload_ok dL_law_1899, List.forall_mem_cons.mpr ⟨ab_if_ne_ok dL_law_1901 (by decide), List.forall_mem_cons.mpr ⟨ab_aload_n_ok dL_law_1904 rfl, fun _ h => absurd h List.not_mem_nil⟩⟩⟩⟩⟩⟩⟩⟩⟩⟩⟩⟩⟩⟩⟩⟩⟩⟩⟩⟩⟩⟩⟩⟩⟩⟩⟩⟩⟩⟩⟩⟩⟩⟩⟩⟩⟩⟩⟩⟩
