/-! ===== the words of the tables that the rows need; helpers of the code tables ===== -/
theorem ab_in1 {w : Cond} (i : Nat) (h : tables_1_1[i]? = some w) (g : goodWord w = true) : w ∈ ab_wG := List.mem_filter.mpr ⟨List.mem_append_right _ (List.mem_append_right _ (List.mem_append_left _ (List.mem_of_getElem? h))), g⟩
theorem ab_in2 {w : Cond} (i : Nat) (h : tables_1_2[i]? = some w) (g : goodWord w = true) : w ∈ ab_wG := List.mem_filter.mpr ⟨List.mem_append_right _ (List.mem_append_right _ (List.mem_append_right _ (List.mem_append_left _ (List.mem_of_getElem? h)))), g⟩
theorem ab_in3 {w : Cond} (i : Nat) (h : tables_1_3[i]? = some w) (g : goodWord w = true) : w ∈ ab_wG := List.mem_filter.mpr ⟨List.mem_append_right _ (List.mem_append_right _ (List.mem_append_right _ (List.mem_append_right _ (List.mem_append_left _ (List.mem_of_getElem? h))))), g⟩
theorem ab_in4 {w : Cond} (i : Nat) (h : tables_1_4[i]? = some w) (g : goodWord w = true) : w ∈ ab_wG := List.mem_filter.mpr ⟨List.mem_append_right _ (List.mem_append_right _ (List.mem_append_right _ (List.mem_append_right _ (List.mem_append_right _ (List.mem_append_left _ (List.mem_of_getElem? h)))))), g⟩
theorem ab_in5 {w : Cond} (i : Nat) (h : tables_1_5[i]? = some w) (g : goodWord w = true) : w ∈ ab_wG := List.mem_filter.mpr ⟨List.mem_append_right _ (List.mem_append_right _ (List.mem_append_right _ (List.mem_append_right _ (List.mem_append_right _ (List.mem_append_right _ (List.mem_append_left _ (List.mem_of_getElem? h))))))), g⟩
theorem ab_in6 {w : Cond} (i : Nat) (h : tables_1_6[i]? = some w) (g : goodWord w = true) : w ∈ ab_wG := List.mem_filter.mpr ⟨List.mem_append_right _ (List.mem_append_right _ (List.mem_append_right _ (List.mem_append_right _ (List.mem_append_right _ (List.mem_append_right _ (List.mem_append_right _ (List.mem_append_left _ (List.mem_of_getElem? h)))))))), g⟩
theorem ab_in7 {w : Cond} (i : Nat) (h : tables_1_7[i]? = some w) (g : goodWord w = true) : w ∈ ab_wG := List.mem_filter.mpr ⟨List.mem_append_right _ (List.mem_append_right _ (List.mem_append_right _ (List.mem_append_right _ (List.mem_append_right _ (List.mem_append_right _ (List.mem_append_right _ (List.mem_append_right _ (List.mem_append_left _ (List.mem_of_getElem? h))))))))), g⟩
theorem ab_in8 {w : Cond} (i : Nat) (h : tables_1_8[i]? = some w) (g : goodWord w = true) : w ∈ ab_wG := List.mem_filter.mpr ⟨List.mem_append_right _ (List.mem_append_right _ (List.mem_append_right _ (List.mem_append_right _ (List.mem_append_right _ (List.mem_append_right _ (List.mem_append_right _ (List.mem_append_right _ (List.mem_append_right _ (List.mem_append_left _ (List.mem_of_getElem? h)))))))))), g⟩
theorem ab_in9 {w : Cond} (i : Nat) (h : tables_1_9[i]? = some w) (g : goodWord w = true) : w ∈ ab_wG := List.mem_filter.mpr ⟨List.mem_append_right _ (List.mem_append_right _ (List.mem_append_right _ (List.mem_append_right _ (List.mem_append_right _ (List.mem_append_right _ (List.mem_append_right _ (List.mem_append_right _ (List.mem_append_right _ (List.mem_append_right _ (List.mem_of_getElem? h)))))))))), g⟩
theorem ab_inp1 {q : MethodName × Nat} (i : Nat) (h : lw_privs_1[i]? = some q) : Cond.selects q.1.cls q.1 q.1 ∈ ab_wG := List.mem_filter.mpr ⟨List.mem_append_right _ (List.mem_append_left _ (List.mem_map.mpr ⟨q, List.mem_append_left _ (List.mem_of_getElem? h), rfl⟩)), rfl⟩
theorem ab_inp2 {q : MethodName × Nat} (i : Nat) (h : lw_privs_2[i]? = some q) : Cond.selects q.1.cls q.1 q.1 ∈ ab_wG := List.mem_filter.mpr ⟨List.mem_append_right _ (List.mem_append_left _ (List.mem_map.mpr ⟨q, List.mem_append_right _ (List.mem_append_left _ (List.mem_of_getElem? h)), rfl⟩)), rfl⟩
theorem ab_inp3 {q : MethodName × Nat} (i : Nat) (h : lw_privs_3[i]? = some q) : Cond.selects q.1.cls q.1 q.1 ∈ ab_wG := List.mem_filter.mpr ⟨List.mem_append_right _ (List.mem_append_left _ (List.mem_map.mpr ⟨q, List.mem_append_right _ (List.mem_append_right _ (List.mem_append_left _ (List.mem_of_getElem? h))), rfl⟩)), rfl⟩
theorem ab_inp4 {q : MethodName × Nat} (i : Nat) (h : lw_privs_4[i]? = some q) : Cond.selects q.1.cls q.1 q.1 ∈ ab_wG := List.mem_filter.mpr ⟨List.mem_append_right _ (List.mem_append_left _ (List.mem_map.mpr ⟨q, List.mem_append_right _ (List.mem_append_right _ (List.mem_append_right _ (List.mem_of_getElem? h))), rfl⟩)), rfl⟩
theorem ab_inx {w : Cond} (i : Nat) (h : ab_xt[i]? = some w) (g : goodWord w = true) : w ∈ ab_wG := List.mem_filter.mpr ⟨List.mem_append_left _ (List.mem_of_getElem? h), g⟩
theorem ab_l2 {S : List Cond} {a0 a1 : Cond} (ha0 : a0 ∈ S) (ha1 : a1 ∈ S) : ∀ w ∈ [a0, a1], w ∈ S := by
  intro w hw
  simp only [List.mem_cons, List.not_mem_nil, or_false] at hw
  rcases hw with rfl | rfl
  · exact ha0
  · exact ha1
theorem ab_l3 {S : List Cond} {a0 a1 a2 : Cond} (ha0 : a0 ∈ S) (ha1 : a1 ∈ S) (ha2 : a2 ∈ S) : ∀ w ∈ [a0, a1, a2], w ∈ S := by
  intro w hw
  simp only [List.mem_cons, List.not_mem_nil, or_false] at hw
  rcases hw with rfl | rfl | rfl
  · exact ha0
  · exact ha1
  · exact ha2
theorem ab_l4 {S : List Cond} {a0 a1 a2 a3 : Cond} (ha0 : a0 ∈ S) (ha1 : a1 ∈ S) (ha2 : a2 ∈ S) (ha3 : a3 ∈ S) : ∀ w ∈ [a0, a1, a2, a3], w ∈ S := by
  intro w hw
  simp only [List.mem_cons, List.not_mem_nil, or_false] at hw
  rcases hw with rfl | rfl | rfl | rfl
  · exact ha0
  · exact ha1
  · exact ha2
  · exact ha3
theorem ab_l5 {S : List Cond} {a0 a1 a2 a3 a4 : Cond} (ha0 : a0 ∈ S) (ha1 : a1 ∈ S) (ha2 : a2 ∈ S) (ha3 : a3 ∈ S) (ha4 : a4 ∈ S) : ∀ w ∈ [a0, a1, a2, a3, a4], w ∈ S := by
  intro w hw
  simp only [List.mem_cons, List.not_mem_nil, or_false] at hw
  rcases hw with rfl | rfl | rfl | rfl | rfl
  · exact ha0
  · exact ha1
  · exact ha2
  · exact ha3
  · exact ha4
theorem ab_w0 : (Jvm.Cond.classLink "BookBinderyLaw" (8 : Nat) "BookBindery") ∈ ab_wG := ab_in1 32 rfl rfl
theorem ab_w1 : (Jvm.Cond.instantiable "BookBindery" (9 : Nat)) ∈ ab_wG := ab_in1 33 rfl rfl
theorem ab_w2 : (Jvm.Cond.initialized "BookBindery") ∈ ab_wG := ab_in1 1 rfl rfl
theorem ab_w3 : (Jvm.Cond.code ({ cls := "BookBindery", name := "<init>", desc := "()V" } : Jvm.MethodName) prog_1_method_1_code (1 : Nat) (Option.none : Option Jvm.ClassFile.FieldType)) ∈ ab_wG := ab_in1 36 rfl rfl
theorem ab_w4 : (Jvm.Cond.methodLink "BookBinderyLaw" (148 : Nat) ({ cls := "BookBindery", name := "<init>", desc := "()V" } : Jvm.MethodName)) ∈ ab_wG := ab_in1 34 rfl rfl
theorem ab_w5 : (Jvm.Cond.instanceMethod ({ cls := "BookBindery", name := "<init>", desc := "()V" } : Jvm.MethodName)) ∈ ab_wG := ab_in1 35 rfl rfl
theorem ab_w6 : (Jvm.Cond.classLink "BookBinderyLaw" (149 : Nat) "BookBinderyModel") ∈ ab_wG := ab_in7 26 rfl rfl
theorem ab_w7 : (Jvm.Cond.instantiable "BookBinderyModel" (19 : Nat)) ∈ ab_wG := ab_in7 27 rfl rfl
theorem ab_w8 : (Jvm.Cond.initialized "BookBinderyModel") ∈ ab_wG := ab_in1 12 rfl rfl
theorem ab_w9 : (Jvm.Cond.code ({ cls := "BookBinderyModel", name := "<init>", desc := "()V" } : Jvm.MethodName) prog_9_method_1_code (1 : Nat) (Option.none : Option Jvm.ClassFile.FieldType)) ∈ ab_wG := ab_in7 30 rfl rfl
theorem ab_w10 : (Jvm.Cond.methodLink "BookBinderyLaw" (151 : Nat) ({ cls := "BookBinderyModel", name := "<init>", desc := "()V" } : Jvm.MethodName)) ∈ ab_wG := ab_in7 28 rfl rfl
theorem ab_w11 : (Jvm.Cond.instanceMethod ({ cls := "BookBinderyModel", name := "<init>", desc := "()V" } : Jvm.MethodName)) ∈ ab_wG := ab_in7 29 rfl rfl
theorem ab_w12 : (Jvm.Cond.arrayClass Jvm.ClassFile.FieldType.long) ∈ ab_wG := ab_in1 125 rfl rfl
theorem ab_w13 : (Jvm.Cond.arrayClass Jvm.ClassFile.FieldType.double) ∈ ab_wG := ab_in8 210 rfl rfl
theorem ab_w14 : (Jvm.Cond.methodLink "BookBinderyLaw" (287 : Nat) ({ cls := "BookBinderyLaw", name := "restore", desc := "(LBookBindery;[J)I" } : Jvm.MethodName)) ∈ ab_wG := ab_in7 15 rfl rfl
theorem ab_w15 : (Jvm.Cond.static ({ cls := "BookBinderyLaw", name := "restore", desc := "(LBookBindery;[J)I" } : Jvm.MethodName)) ∈ ab_wG := ab_in7 16 rfl rfl
theorem ab_w16 : (Jvm.Cond.initialized "BookBinderyLaw") ∈ ab_wG := ab_in1 0 rfl rfl
theorem ab_w17 : (Jvm.Cond.codeWith ({ cls := "BookBinderyLaw", name := "restore", desc := "(LBookBindery;[J)I" } : Jvm.MethodName) method_41_code (3 : Nat) (Option.some Jvm.ClassFile.FieldType.int) [((0 : Nat), (8 : Nat), (11 : Nat), (113 : Nat))]) ∈ ab_wG := ab_in7 17 rfl rfl
theorem ab_w18 : (Jvm.Cond.methodLink "BookBinderyLaw" (289 : Nat) ({ cls := "BookBinderyModel", name := "restore", desc := "()I" } : Jvm.MethodName)) ∈ ab_wG := ab_in8 206 rfl rfl
theorem ab_w19 : (Jvm.Cond.instanceMethod ({ cls := "BookBinderyModel", name := "restore", desc := "()I" } : Jvm.MethodName)) ∈ ab_wG := ab_in8 207 rfl rfl
theorem ab_w20 : (Jvm.Cond.selects "BookBinderyModel" ({ cls := "BookBinderyModel", name := "restore", desc := "()I" } : Jvm.MethodName) ({ cls := "BookBinderyModel", name := "restore", desc := "()I" } : Jvm.MethodName)) ∈ ab_wG := ab_in8 208 rfl rfl
theorem ab_w21 : (Jvm.Cond.code ({ cls := "BookBinderyModel", name := "restore", desc := "()I" } : Jvm.MethodName) prog_9_method_90_code (1 : Nat) (Option.some Jvm.ClassFile.FieldType.int)) ∈ ab_wG := ab_in8 209 rfl rfl
theorem ab_w22 : (Jvm.Cond.methodLink "BookBinderyLaw" (158 : Nat) ({ cls := "BookBinderyModel", name := "thrown", desc := "()I" } : Jvm.MethodName)) ∈ ab_wG := ab_in7 90 rfl rfl
theorem ab_w23 : (Jvm.Cond.instanceMethod ({ cls := "BookBinderyModel", name := "thrown", desc := "()I" } : Jvm.MethodName)) ∈ ab_wG := ab_in7 91 rfl rfl
theorem ab_w24 : (Jvm.Cond.selects "BookBinderyModel" ({ cls := "BookBinderyModel", name := "thrown", desc := "()I" } : Jvm.MethodName) ({ cls := "BookBinderyModel", name := "thrown", desc := "()I" } : Jvm.MethodName)) ∈ ab_wG := ab_in7 92 rfl rfl
theorem ab_w25 : (Jvm.Cond.code ({ cls := "BookBinderyModel", name := "thrown", desc := "()I" } : Jvm.MethodName) prog_9_method_2_code (1 : Nat) (Option.some Jvm.ClassFile.FieldType.int)) ∈ ab_wG := ab_in7 93 rfl rfl
theorem ab_w26 : (Jvm.Cond.methodLink "BookBinderyLaw" (283 : Nat) ({ cls := "BookBindery", name := "save", desc := "()I" } : Jvm.MethodName)) ∈ ab_wG := ab_in2 96 rfl rfl
theorem ab_w27 : (Jvm.Cond.instanceMethod ({ cls := "BookBindery", name := "save", desc := "()I" } : Jvm.MethodName)) ∈ ab_wG := ab_in2 97 rfl rfl
theorem ab_w28 : (Jvm.Cond.selects "BookBindery" ({ cls := "BookBindery", name := "save", desc := "()I" } : Jvm.MethodName) ({ cls := "BookBindery", name := "save", desc := "()I" } : Jvm.MethodName)) ∈ ab_wG := ab_in2 98 rfl rfl
theorem ab_w29 : (Jvm.Cond.code ({ cls := "BookBindery", name := "save", desc := "()I" } : Jvm.MethodName) prog_1_method_41_code (1 : Nat) (Option.some Jvm.ClassFile.FieldType.int)) ∈ ab_wG := ab_in2 99 rfl rfl
theorem ab_w30 : (Jvm.Cond.methodLink "BookBinderyLaw" (286 : Nat) ({ cls := "BookBinderyModel", name := "save", desc := "()I" } : Jvm.MethodName)) ∈ ab_wG := ab_in8 202 rfl rfl
theorem ab_w31 : (Jvm.Cond.instanceMethod ({ cls := "BookBinderyModel", name := "save", desc := "()I" } : Jvm.MethodName)) ∈ ab_wG := ab_in8 203 rfl rfl
theorem ab_w32 : (Jvm.Cond.selects "BookBinderyModel" ({ cls := "BookBinderyModel", name := "save", desc := "()I" } : Jvm.MethodName) ({ cls := "BookBinderyModel", name := "save", desc := "()I" } : Jvm.MethodName)) ∈ ab_wG := ab_in8 204 rfl rfl
theorem ab_w33 : (Jvm.Cond.code ({ cls := "BookBinderyModel", name := "save", desc := "()I" } : Jvm.MethodName) prog_9_method_89_code (1 : Nat) (Option.some Jvm.ClassFile.FieldType.int)) ∈ ab_wG := ab_in8 205 rfl rfl
theorem ab_w34 : (Jvm.Cond.methodLink "BookBinderyLaw" (280 : Nat) ({ cls := "BookBinderyLaw", name := "undo", desc := "(LBookBindery;[J)I" } : Jvm.MethodName)) ∈ ab_wG := ab_in7 4 rfl rfl
theorem ab_w35 : (Jvm.Cond.static ({ cls := "BookBinderyLaw", name := "undo", desc := "(LBookBindery;[J)I" } : Jvm.MethodName)) ∈ ab_wG := ab_in7 5 rfl rfl
theorem ab_w36 : (Jvm.Cond.codeWith ({ cls := "BookBinderyLaw", name := "undo", desc := "(LBookBindery;[J)I" } : Jvm.MethodName) method_40_code (3 : Nat) (Option.some Jvm.ClassFile.FieldType.int) [((0 : Nat), (8 : Nat), (11 : Nat), (113 : Nat))]) ∈ ab_wG := ab_in7 6 rfl rfl
theorem ab_w37 : (Jvm.Cond.methodLink "BookBinderyLaw" (282 : Nat) ({ cls := "BookBinderyModel", name := "undo", desc := "()I" } : Jvm.MethodName)) ∈ ab_wG := ab_in8 198 rfl rfl
theorem ab_w38 : (Jvm.Cond.instanceMethod ({ cls := "BookBinderyModel", name := "undo", desc := "()I" } : Jvm.MethodName)) ∈ ab_wG := ab_in8 199 rfl rfl
theorem ab_w39 : (Jvm.Cond.selects "BookBinderyModel" ({ cls := "BookBinderyModel", name := "undo", desc := "()I" } : Jvm.MethodName) ({ cls := "BookBinderyModel", name := "undo", desc := "()I" } : Jvm.MethodName)) ∈ ab_wG := ab_in8 200 rfl rfl
theorem ab_w40 : (Jvm.Cond.code ({ cls := "BookBinderyModel", name := "undo", desc := "()I" } : Jvm.MethodName) prog_9_method_88_code (1 : Nat) (Option.some Jvm.ClassFile.FieldType.int)) ∈ ab_wG := ab_in8 201 rfl rfl
theorem ab_w41 : (Jvm.Cond.methodLink "BookBinderyLaw" (277 : Nat) ({ cls := "BookBinderyLaw", name := "account", desc := "(LBookBindery;I[J)I" } : Jvm.MethodName)) ∈ ab_wG := ab_in6 233 rfl rfl
theorem ab_w42 : (Jvm.Cond.static ({ cls := "BookBinderyLaw", name := "account", desc := "(LBookBindery;I[J)I" } : Jvm.MethodName)) ∈ ab_wG := ab_in6 234 rfl rfl
theorem ab_w43 : (Jvm.Cond.codeWith ({ cls := "BookBinderyLaw", name := "account", desc := "(LBookBindery;I[J)I" } : Jvm.MethodName) method_39_code (4 : Nat) (Option.some Jvm.ClassFile.FieldType.int) [((0 : Nat), (9 : Nat), (12 : Nat), (59 : Nat))]) ∈ ab_wG := ab_in6 235 rfl rfl
theorem ab_w44 : (Jvm.Cond.methodLink "BookBinderyLaw" (279 : Nat) ({ cls := "BookBinderyModel", name := "account", desc := "(I)I" } : Jvm.MethodName)) ∈ ab_wG := ab_in8 190 rfl rfl
theorem ab_w45 : (Jvm.Cond.instanceMethod ({ cls := "BookBinderyModel", name := "account", desc := "(I)I" } : Jvm.MethodName)) ∈ ab_wG := ab_in8 191 rfl rfl
theorem ab_w46 : (Jvm.Cond.selects "BookBinderyModel" ({ cls := "BookBinderyModel", name := "account", desc := "(I)I" } : Jvm.MethodName) ({ cls := "BookBinderyModel", name := "account", desc := "(I)I" } : Jvm.MethodName)) ∈ ab_wG := ab_in8 192 rfl rfl
theorem ab_w47 : (Jvm.Cond.code ({ cls := "BookBinderyModel", name := "account", desc := "(I)I" } : Jvm.MethodName) prog_9_method_87_code (2 : Nat) (Option.some Jvm.ClassFile.FieldType.int)) ∈ ab_wG := ab_in8 193 rfl rfl
theorem ab_w48 : (Jvm.Cond.methodLink "BookBinderyLaw" (273 : Nat) ({ cls := "BookBinderyLaw", name := "meanSignatures", desc := "(LBookBindery;[D)I" } : Jvm.MethodName)) ∈ ab_wG := ab_in6 222 rfl rfl
theorem ab_w49 : (Jvm.Cond.static ({ cls := "BookBinderyLaw", name := "meanSignatures", desc := "(LBookBindery;[D)I" } : Jvm.MethodName)) ∈ ab_wG := ab_in6 223 rfl rfl
theorem ab_w50 : (Jvm.Cond.codeWith ({ cls := "BookBinderyLaw", name := "meanSignatures", desc := "(LBookBindery;[D)I" } : Jvm.MethodName) method_38_code (3 : Nat) (Option.some Jvm.ClassFile.FieldType.int) [((0 : Nat), (7 : Nat), (10 : Nat), (133 : Nat))]) ∈ ab_wG := ab_in6 224 rfl rfl
theorem ab_w51 : (Jvm.Cond.methodLink "BookBinderyLaw" (276 : Nat) ({ cls := "BookBinderyModel", name := "meanSignatures", desc := "()D" } : Jvm.MethodName)) ∈ ab_wG := ab_in8 182 rfl rfl
theorem ab_w52 : (Jvm.Cond.instanceMethod ({ cls := "BookBinderyModel", name := "meanSignatures", desc := "()D" } : Jvm.MethodName)) ∈ ab_wG := ab_in8 183 rfl rfl
theorem ab_w53 : (Jvm.Cond.selects "BookBinderyModel" ({ cls := "BookBinderyModel", name := "meanSignatures", desc := "()D" } : Jvm.MethodName) ({ cls := "BookBinderyModel", name := "meanSignatures", desc := "()D" } : Jvm.MethodName)) ∈ ab_wG := ab_in8 184 rfl rfl
theorem ab_w54 : (Jvm.Cond.code ({ cls := "BookBinderyModel", name := "meanSignatures", desc := "()D" } : Jvm.MethodName) prog_9_method_85_code (1 : Nat) (Option.some Jvm.ClassFile.FieldType.double)) ∈ ab_wG := ab_in8 185 rfl rfl
theorem ab_w55 : (Jvm.Cond.methodLink "BookBinderyLaw" (269 : Nat) ({ cls := "BookBinderyLaw", name := "rightShare", desc := "(LBookBindery;I[D)I" } : Jvm.MethodName)) ∈ ab_wG := ab_in6 196 rfl rfl
theorem ab_w56 : (Jvm.Cond.static ({ cls := "BookBinderyLaw", name := "rightShare", desc := "(LBookBindery;I[D)I" } : Jvm.MethodName)) ∈ ab_wG := ab_in6 197 rfl rfl
theorem ab_w57 : (Jvm.Cond.codeWith ({ cls := "BookBinderyLaw", name := "rightShare", desc := "(LBookBindery;I[D)I" } : Jvm.MethodName) method_37_code (4 : Nat) (Option.some Jvm.ClassFile.FieldType.int) [((0 : Nat), (9 : Nat), (12 : Nat), (57 : Nat)), ((0 : Nat), (9 : Nat), (15 : Nat), (133 : Nat))]) ∈ ab_wG := ab_in6 198 rfl rfl
theorem ab_w58 : (Jvm.Cond.methodLink "BookBinderyLaw" (272 : Nat) ({ cls := "BookBinderyModel", name := "rightShare", desc := "(I)F" } : Jvm.MethodName)) ∈ ab_wG := ab_in8 178 rfl rfl
theorem ab_w59 : (Jvm.Cond.instanceMethod ({ cls := "BookBinderyModel", name := "rightShare", desc := "(I)F" } : Jvm.MethodName)) ∈ ab_wG := ab_in8 179 rfl rfl
theorem ab_w60 : (Jvm.Cond.selects "BookBinderyModel" ({ cls := "BookBinderyModel", name := "rightShare", desc := "(I)F" } : Jvm.MethodName) ({ cls := "BookBinderyModel", name := "rightShare", desc := "(I)F" } : Jvm.MethodName)) ∈ ab_wG := ab_in8 180 rfl rfl
theorem ab_w61 : (Jvm.Cond.code ({ cls := "BookBinderyModel", name := "rightShare", desc := "(I)F" } : Jvm.MethodName) prog_9_method_83_code (2 : Nat) (Option.some Jvm.ClassFile.FieldType.float)) ∈ ab_wG := ab_in8 181 rfl rfl
theorem ab_w62 : (Jvm.Cond.methodLink "BookBinderyLaw" (266 : Nat) ({ cls := "BookBinderyLaw", name := "character", desc := "(LBookBindery;I[J)I" } : Jvm.MethodName)) ∈ ab_wG := ab_in6 179 rfl rfl
theorem ab_w63 : (Jvm.Cond.static ({ cls := "BookBinderyLaw", name := "character", desc := "(LBookBindery;I[J)I" } : Jvm.MethodName)) ∈ ab_wG := ab_in6 180 rfl rfl
theorem ab_w64 : (Jvm.Cond.codeWith ({ cls := "BookBinderyLaw", name := "character", desc := "(LBookBindery;I[J)I" } : Jvm.MethodName) method_36_code (4 : Nat) (Option.some Jvm.ClassFile.FieldType.int) [((0 : Nat), (9 : Nat), (12 : Nat), (57 : Nat))]) ∈ ab_wG := ab_in6 181 rfl rfl
theorem ab_w65 : (Jvm.Cond.methodLink "BookBinderyLaw" (268 : Nat) ({ cls := "BookBinderyModel", name := "character", desc := "(I)C" } : Jvm.MethodName)) ∈ ab_wG := ab_in8 174 rfl rfl
theorem ab_w66 : (Jvm.Cond.instanceMethod ({ cls := "BookBinderyModel", name := "character", desc := "(I)C" } : Jvm.MethodName)) ∈ ab_wG := ab_in8 175 rfl rfl
theorem ab_w67 : (Jvm.Cond.selects "BookBinderyModel" ({ cls := "BookBinderyModel", name := "character", desc := "(I)C" } : Jvm.MethodName) ({ cls := "BookBinderyModel", name := "character", desc := "(I)C" } : Jvm.MethodName)) ∈ ab_wG := ab_in8 176 rfl rfl
theorem ab_w68 : (Jvm.Cond.code ({ cls := "BookBinderyModel", name := "character", desc := "(I)C" } : Jvm.MethodName) prog_9_method_82_code (2 : Nat) (Option.some Jvm.ClassFile.FieldType.char)) ∈ ab_wG := ab_in8 177 rfl rfl
theorem ab_w69 : (Jvm.Cond.methodLink "BookBinderyLaw" (263 : Nat) ({ cls := "BookBinderyLaw", name := "line", desc := "(LBookBindery;I[J)I" } : Jvm.MethodName)) ∈ ab_wG := ab_in5 165 rfl rfl
theorem ab_w70 : (Jvm.Cond.static ({ cls := "BookBinderyLaw", name := "line", desc := "(LBookBindery;I[J)I" } : Jvm.MethodName)) ∈ ab_wG := ab_in5 166 rfl rfl
theorem ab_w71 : (Jvm.Cond.codeWith ({ cls := "BookBinderyLaw", name := "line", desc := "(LBookBindery;I[J)I" } : Jvm.MethodName) method_35_code (4 : Nat) (Option.some Jvm.ClassFile.FieldType.int) [((0 : Nat), (9 : Nat), (12 : Nat), (57 : Nat))]) ∈ ab_wG := ab_in5 167 rfl rfl
theorem ab_w72 : (Jvm.Cond.methodLink "BookBinderyLaw" (265 : Nat) ({ cls := "BookBinderyModel", name := "line", desc := "(I)I" } : Jvm.MethodName)) ∈ ab_wG := ab_in8 162 rfl rfl
theorem ab_w73 : (Jvm.Cond.instanceMethod ({ cls := "BookBinderyModel", name := "line", desc := "(I)I" } : Jvm.MethodName)) ∈ ab_wG := ab_in8 163 rfl rfl
theorem ab_w74 : (Jvm.Cond.selects "BookBinderyModel" ({ cls := "BookBinderyModel", name := "line", desc := "(I)I" } : Jvm.MethodName) ({ cls := "BookBinderyModel", name := "line", desc := "(I)I" } : Jvm.MethodName)) ∈ ab_wG := ab_in8 164 rfl rfl
theorem ab_w75 : (Jvm.Cond.code ({ cls := "BookBinderyModel", name := "line", desc := "(I)I" } : Jvm.MethodName) prog_9_method_81_code (3 : Nat) (Option.some Jvm.ClassFile.FieldType.int)) ∈ ab_wG := ab_in8 165 rfl rfl
theorem ab_w76 : (Jvm.Cond.methodLink "BookBinderyLaw" (260 : Nat) ({ cls := "BookBinderyLaw", name := "reason", desc := "(LBookBindery;I[J)I" } : Jvm.MethodName)) ∈ ab_wG := ab_in5 158 rfl rfl
theorem ab_w77 : (Jvm.Cond.static ({ cls := "BookBinderyLaw", name := "reason", desc := "(LBookBindery;I[J)I" } : Jvm.MethodName)) ∈ ab_wG := ab_in5 159 rfl rfl
theorem ab_w78 : (Jvm.Cond.codeWith ({ cls := "BookBinderyLaw", name := "reason", desc := "(LBookBindery;I[J)I" } : Jvm.MethodName) method_34_code (4 : Nat) (Option.some Jvm.ClassFile.FieldType.int) [((0 : Nat), (9 : Nat), (12 : Nat), (59 : Nat)), ((0 : Nat), (9 : Nat), (15 : Nat), (76 : Nat))]) ∈ ab_wG := ab_in5 160 rfl rfl
theorem ab_w79 : (Jvm.Cond.methodLink "BookBinderyLaw" (262 : Nat) ({ cls := "BookBinderyModel", name := "reason", desc := "(I)I" } : Jvm.MethodName)) ∈ ab_wG := ab_in8 158 rfl rfl
theorem ab_w80 : (Jvm.Cond.instanceMethod ({ cls := "BookBinderyModel", name := "reason", desc := "(I)I" } : Jvm.MethodName)) ∈ ab_wG := ab_in8 159 rfl rfl
theorem ab_w81 : (Jvm.Cond.selects "BookBinderyModel" ({ cls := "BookBinderyModel", name := "reason", desc := "(I)I" } : Jvm.MethodName) ({ cls := "BookBinderyModel", name := "reason", desc := "(I)I" } : Jvm.MethodName)) ∈ ab_wG := ab_in8 160 rfl rfl
theorem ab_w82 : (Jvm.Cond.code ({ cls := "BookBinderyModel", name := "reason", desc := "(I)I" } : Jvm.MethodName) prog_9_method_78_code (2 : Nat) (Option.some Jvm.ClassFile.FieldType.int)) ∈ ab_wG := ab_in8 161 rfl rfl
theorem ab_w83 : (Jvm.Cond.methodLink "BookBinderyLaw" (256 : Nat) ({ cls := "BookBindery", name := "faultPosition", desc := "()I" } : Jvm.MethodName)) ∈ ab_wG := ab_in2 92 rfl rfl
theorem ab_w84 : (Jvm.Cond.instanceMethod ({ cls := "BookBindery", name := "faultPosition", desc := "()I" } : Jvm.MethodName)) ∈ ab_wG := ab_in2 93 rfl rfl
theorem ab_w85 : (Jvm.Cond.selects "BookBindery" ({ cls := "BookBindery", name := "faultPosition", desc := "()I" } : Jvm.MethodName) ({ cls := "BookBindery", name := "faultPosition", desc := "()I" } : Jvm.MethodName)) ∈ ab_wG := ab_in2 94 rfl rfl
theorem ab_w86 : (Jvm.Cond.code ({ cls := "BookBindery", name := "faultPosition", desc := "()I" } : Jvm.MethodName) prog_1_method_33_code (1 : Nat) (Option.some Jvm.ClassFile.FieldType.int)) ∈ ab_wG := ab_in2 95 rfl rfl
theorem ab_w87 : (Jvm.Cond.methodLink "BookBinderyLaw" (259 : Nat) ({ cls := "BookBinderyModel", name := "faultPosition", desc := "()I" } : Jvm.MethodName)) ∈ ab_wG := ab_in8 154 rfl rfl
theorem ab_w88 : (Jvm.Cond.instanceMethod ({ cls := "BookBinderyModel", name := "faultPosition", desc := "()I" } : Jvm.MethodName)) ∈ ab_wG := ab_in8 155 rfl rfl
theorem ab_w89 : (Jvm.Cond.selects "BookBinderyModel" ({ cls := "BookBinderyModel", name := "faultPosition", desc := "()I" } : Jvm.MethodName) ({ cls := "BookBinderyModel", name := "faultPosition", desc := "()I" } : Jvm.MethodName)) ∈ ab_wG := ab_in8 156 rfl rfl
theorem ab_w90 : (Jvm.Cond.code ({ cls := "BookBinderyModel", name := "faultPosition", desc := "()I" } : Jvm.MethodName) prog_9_method_77_code (1 : Nat) (Option.some Jvm.ClassFile.FieldType.int)) ∈ ab_wG := ab_in8 157 rfl rfl
theorem ab_w91 : (Jvm.Cond.methodLink "BookBinderyLaw" (252 : Nat) ({ cls := "BookBinderyLaw", name := "commands", desc := "(LBookBindery;[J)I" } : Jvm.MethodName)) ∈ ab_wG := ab_in5 33 rfl rfl
theorem ab_w92 : (Jvm.Cond.static ({ cls := "BookBinderyLaw", name := "commands", desc := "(LBookBindery;[J)I" } : Jvm.MethodName)) ∈ ab_wG := ab_in5 34 rfl rfl
theorem ab_w93 : (Jvm.Cond.codeWith ({ cls := "BookBinderyLaw", name := "commands", desc := "(LBookBindery;[J)I" } : Jvm.MethodName) method_33_code (3 : Nat) (Option.some Jvm.ClassFile.FieldType.int) [((0 : Nat), (8 : Nat), (11 : Nat), (59 : Nat)), ((0 : Nat), (8 : Nat), (14 : Nat), (13 : Nat))]) ∈ ab_wG := ab_in5 35 rfl rfl
theorem ab_w94 : (Jvm.Cond.methodLink "BookBinderyLaw" (255 : Nat) ({ cls := "BookBinderyModel", name := "commands", desc := "()I" } : Jvm.MethodName)) ∈ ab_wG := ab_in8 113 rfl rfl
theorem ab_w95 : (Jvm.Cond.instanceMethod ({ cls := "BookBinderyModel", name := "commands", desc := "()I" } : Jvm.MethodName)) ∈ ab_wG := ab_in8 114 rfl rfl
theorem ab_w96 : (Jvm.Cond.selects "BookBinderyModel" ({ cls := "BookBinderyModel", name := "commands", desc := "()I" } : Jvm.MethodName) ({ cls := "BookBinderyModel", name := "commands", desc := "()I" } : Jvm.MethodName)) ∈ ab_wG := ab_in8 115 rfl rfl
theorem ab_w97 : (Jvm.Cond.code ({ cls := "BookBinderyModel", name := "commands", desc := "()I" } : Jvm.MethodName) prog_9_method_76_code (4 : Nat) (Option.some Jvm.ClassFile.FieldType.int)) ∈ ab_wG := ab_in8 116 rfl rfl
theorem ab_w98 : (Jvm.Cond.methodLink "BookBinderyLaw" (248 : Nat) ({ cls := "BookBinderyLaw", name := "append", desc := "(LBookBindery;C[J)I" } : Jvm.MethodName)) ∈ ab_wG := ab_in5 6 rfl rfl
theorem ab_w99 : (Jvm.Cond.static ({ cls := "BookBinderyLaw", name := "append", desc := "(LBookBindery;C[J)I" } : Jvm.MethodName)) ∈ ab_wG := ab_in5 7 rfl rfl
theorem ab_w100 : (Jvm.Cond.codeWith ({ cls := "BookBinderyLaw", name := "append", desc := "(LBookBindery;C[J)I" } : Jvm.MethodName) method_32_code (4 : Nat) (Option.some Jvm.ClassFile.FieldType.int) [((0 : Nat), (9 : Nat), (12 : Nat), (113 : Nat))]) ∈ ab_wG := ab_in5 8 rfl rfl
theorem ab_w101 : (Jvm.Cond.methodLink "BookBinderyLaw" (251 : Nat) ({ cls := "BookBinderyModel", name := "append", desc := "(C)I" } : Jvm.MethodName)) ∈ ab_wG := ab_in8 109 rfl rfl
theorem ab_w102 : (Jvm.Cond.instanceMethod ({ cls := "BookBinderyModel", name := "append", desc := "(C)I" } : Jvm.MethodName)) ∈ ab_wG := ab_in8 110 rfl rfl
theorem ab_w103 : (Jvm.Cond.selects "BookBinderyModel" ({ cls := "BookBinderyModel", name := "append", desc := "(C)I" } : Jvm.MethodName) ({ cls := "BookBinderyModel", name := "append", desc := "(C)I" } : Jvm.MethodName)) ∈ ab_wG := ab_in8 111 rfl rfl
theorem ab_w104 : (Jvm.Cond.code ({ cls := "BookBinderyModel", name := "append", desc := "(C)I" } : Jvm.MethodName) prog_9_method_68_code (2 : Nat) (Option.some Jvm.ClassFile.FieldType.int)) ∈ ab_wG := ab_in8 112 rfl rfl
theorem ab_w105 : (Jvm.Cond.methodLink "BookBinderyLaw" (245 : Nat) ({ cls := "BookBinderyLaw", name := "ranked", desc := "(LBookBindery;I[J)I" } : Jvm.MethodName)) ∈ ab_wG := ab_in4 229 rfl rfl
theorem ab_w106 : (Jvm.Cond.static ({ cls := "BookBinderyLaw", name := "ranked", desc := "(LBookBindery;I[J)I" } : Jvm.MethodName)) ∈ ab_wG := ab_in4 230 rfl rfl
theorem ab_w107 : (Jvm.Cond.codeWith ({ cls := "BookBinderyLaw", name := "ranked", desc := "(LBookBindery;I[J)I" } : Jvm.MethodName) method_31_code (4 : Nat) (Option.some Jvm.ClassFile.FieldType.int) [((0 : Nat), (9 : Nat), (12 : Nat), (76 : Nat))]) ∈ ab_wG := ab_in4 231 rfl rfl
theorem ab_w108 : (Jvm.Cond.methodLink "BookBinderyLaw" (247 : Nat) ({ cls := "BookBinderyModel", name := "ranked", desc := "(I)I" } : Jvm.MethodName)) ∈ ab_wG := ab_in8 101 rfl rfl
theorem ab_w109 : (Jvm.Cond.instanceMethod ({ cls := "BookBinderyModel", name := "ranked", desc := "(I)I" } : Jvm.MethodName)) ∈ ab_wG := ab_in8 102 rfl rfl
theorem ab_w110 : (Jvm.Cond.selects "BookBinderyModel" ({ cls := "BookBinderyModel", name := "ranked", desc := "(I)I" } : Jvm.MethodName) ({ cls := "BookBinderyModel", name := "ranked", desc := "(I)I" } : Jvm.MethodName)) ∈ ab_wG := ab_in8 103 rfl rfl
theorem ab_w111 : (Jvm.Cond.code ({ cls := "BookBinderyModel", name := "ranked", desc := "(I)I" } : Jvm.MethodName) prog_9_method_67_code (5 : Nat) (Option.some Jvm.ClassFile.FieldType.int)) ∈ ab_wG := ab_in8 104 rfl rfl
theorem ab_w112 : (Jvm.Cond.methodLink "BookBinderyLaw" (242 : Nat) ({ cls := "BookBinderyLaw", name := "readyAgain", desc := "(LBookBindery;I[J)I" } : Jvm.MethodName)) ∈ ab_wG := ab_in4 218 rfl rfl
theorem ab_w113 : (Jvm.Cond.static ({ cls := "BookBinderyLaw", name := "readyAgain", desc := "(LBookBindery;I[J)I" } : Jvm.MethodName)) ∈ ab_wG := ab_in4 219 rfl rfl
theorem ab_w114 : (Jvm.Cond.codeWith ({ cls := "BookBinderyLaw", name := "readyAgain", desc := "(LBookBindery;I[J)I" } : Jvm.MethodName) method_30_code (4 : Nat) (Option.some Jvm.ClassFile.FieldType.int) [((0 : Nat), (9 : Nat), (12 : Nat), (57 : Nat)), ((0 : Nat), (9 : Nat), (15 : Nat), (76 : Nat))]) ∈ ab_wG := ab_in4 220 rfl rfl
theorem ab_w115 : (Jvm.Cond.methodLink "BookBinderyLaw" (244 : Nat) ({ cls := "BookBinderyModel", name := "readyAgain", desc := "(I)I" } : Jvm.MethodName)) ∈ ab_wG := ab_in8 97 rfl rfl
theorem ab_w116 : (Jvm.Cond.instanceMethod ({ cls := "BookBinderyModel", name := "readyAgain", desc := "(I)I" } : Jvm.MethodName)) ∈ ab_wG := ab_in8 98 rfl rfl
theorem ab_w117 : (Jvm.Cond.selects "BookBinderyModel" ({ cls := "BookBinderyModel", name := "readyAgain", desc := "(I)I" } : Jvm.MethodName) ({ cls := "BookBinderyModel", name := "readyAgain", desc := "(I)I" } : Jvm.MethodName)) ∈ ab_wG := ab_in8 99 rfl rfl
theorem ab_w118 : (Jvm.Cond.code ({ cls := "BookBinderyModel", name := "readyAgain", desc := "(I)I" } : Jvm.MethodName) prog_9_method_65_code (5 : Nat) (Option.some Jvm.ClassFile.FieldType.int)) ∈ ab_wG := ab_in8 100 rfl rfl
theorem ab_w119 : (Jvm.Cond.methodLink "BookBinderyLaw" (239 : Nat) ({ cls := "BookBinderyLaw", name := "readyIn", desc := "(LBookBindery;I[J)I" } : Jvm.MethodName)) ∈ ab_wG := ab_in4 206 rfl rfl
theorem ab_w120 : (Jvm.Cond.static ({ cls := "BookBinderyLaw", name := "readyIn", desc := "(LBookBindery;I[J)I" } : Jvm.MethodName)) ∈ ab_wG := ab_in4 207 rfl rfl
theorem ab_w121 : (Jvm.Cond.codeWith ({ cls := "BookBinderyLaw", name := "readyIn", desc := "(LBookBindery;I[J)I" } : Jvm.MethodName) method_29_code (4 : Nat) (Option.some Jvm.ClassFile.FieldType.int) [((0 : Nat), (9 : Nat), (12 : Nat), (57 : Nat)), ((0 : Nat), (9 : Nat), (15 : Nat), (76 : Nat))]) ∈ ab_wG := ab_in4 208 rfl rfl
theorem ab_w122 : (Jvm.Cond.methodLink "BookBinderyLaw" (241 : Nat) ({ cls := "BookBinderyModel", name := "readyIn", desc := "(I)I" } : Jvm.MethodName)) ∈ ab_wG := ab_in8 93 rfl rfl
theorem ab_w123 : (Jvm.Cond.instanceMethod ({ cls := "BookBinderyModel", name := "readyIn", desc := "(I)I" } : Jvm.MethodName)) ∈ ab_wG := ab_in8 94 rfl rfl
theorem ab_w124 : (Jvm.Cond.selects "BookBinderyModel" ({ cls := "BookBinderyModel", name := "readyIn", desc := "(I)I" } : Jvm.MethodName) ({ cls := "BookBinderyModel", name := "readyIn", desc := "(I)I" } : Jvm.MethodName)) ∈ ab_wG := ab_in8 95 rfl rfl
theorem ab_w125 : (Jvm.Cond.code ({ cls := "BookBinderyModel", name := "readyIn", desc := "(I)I" } : Jvm.MethodName) prog_9_method_64_code (4 : Nat) (Option.some Jvm.ClassFile.FieldType.int)) ∈ ab_wG := ab_in8 96 rfl rfl
theorem ab_w126 : (Jvm.Cond.methodLink "BookBinderyLaw" (236 : Nat) ({ cls := "BookBinderyLaw", name := "inPress", desc := "(LBookBindery;II[J)I" } : Jvm.MethodName)) ∈ ab_wG := ab_in4 194 rfl rfl
theorem ab_w127 : (Jvm.Cond.static ({ cls := "BookBinderyLaw", name := "inPress", desc := "(LBookBindery;II[J)I" } : Jvm.MethodName)) ∈ ab_wG := ab_in4 195 rfl rfl
theorem ab_w128 : (Jvm.Cond.codeWith ({ cls := "BookBinderyLaw", name := "inPress", desc := "(LBookBindery;II[J)I" } : Jvm.MethodName) method_28_code (5 : Nat) (Option.some Jvm.ClassFile.FieldType.int) [((0 : Nat), (10 : Nat), (13 : Nat), (57 : Nat)), ((0 : Nat), (10 : Nat), (17 : Nat), (76 : Nat))]) ∈ ab_wG := ab_in4 196 rfl rfl
theorem ab_w129 : (Jvm.Cond.methodLink "BookBinderyLaw" (238 : Nat) ({ cls := "BookBinderyModel", name := "inPress", desc := "(II)I" } : Jvm.MethodName)) ∈ ab_wG := ab_in8 89 rfl rfl
theorem ab_w130 : (Jvm.Cond.instanceMethod ({ cls := "BookBinderyModel", name := "inPress", desc := "(II)I" } : Jvm.MethodName)) ∈ ab_wG := ab_in8 90 rfl rfl
theorem ab_w131 : (Jvm.Cond.selects "BookBinderyModel" ({ cls := "BookBinderyModel", name := "inPress", desc := "(II)I" } : Jvm.MethodName) ({ cls := "BookBinderyModel", name := "inPress", desc := "(II)I" } : Jvm.MethodName)) ∈ ab_wG := ab_in8 91 rfl rfl
theorem ab_w132 : (Jvm.Cond.code ({ cls := "BookBinderyModel", name := "inPress", desc := "(II)I" } : Jvm.MethodName) prog_9_method_63_code (3 : Nat) (Option.some Jvm.ClassFile.FieldType.int)) ∈ ab_wG := ab_in8 92 rfl rfl
theorem ab_w133 : (Jvm.Cond.methodLink "BookBinderyLaw" (233 : Nat) ({ cls := "BookBinderyLaw", name := "hasSlip", desc := "(LBookBindery;II[J)I" } : Jvm.MethodName)) ∈ ab_wG := ab_in4 186 rfl rfl
theorem ab_w134 : (Jvm.Cond.static ({ cls := "BookBinderyLaw", name := "hasSlip", desc := "(LBookBindery;II[J)I" } : Jvm.MethodName)) ∈ ab_wG := ab_in4 187 rfl rfl
theorem ab_w135 : (Jvm.Cond.codeWith ({ cls := "BookBinderyLaw", name := "hasSlip", desc := "(LBookBindery;II[J)I" } : Jvm.MethodName) method_27_code (5 : Nat) (Option.some Jvm.ClassFile.FieldType.int) [((0 : Nat), (17 : Nat), (20 : Nat), (57 : Nat))]) ∈ ab_wG := ab_in4 188 rfl rfl
theorem ab_w136 : (Jvm.Cond.methodLink "BookBinderyLaw" (235 : Nat) ({ cls := "BookBinderyModel", name := "hasSlip", desc := "(II)Z" } : Jvm.MethodName)) ∈ ab_wG := ab_in8 85 rfl rfl
theorem ab_w137 : (Jvm.Cond.instanceMethod ({ cls := "BookBinderyModel", name := "hasSlip", desc := "(II)Z" } : Jvm.MethodName)) ∈ ab_wG := ab_in8 86 rfl rfl
theorem ab_w138 : (Jvm.Cond.selects "BookBinderyModel" ({ cls := "BookBinderyModel", name := "hasSlip", desc := "(II)Z" } : Jvm.MethodName) ({ cls := "BookBinderyModel", name := "hasSlip", desc := "(II)Z" } : Jvm.MethodName)) ∈ ab_wG := ab_in8 87 rfl rfl
theorem ab_w139 : (Jvm.Cond.code ({ cls := "BookBinderyModel", name := "hasSlip", desc := "(II)Z" } : Jvm.MethodName) prog_9_method_62_code (3 : Nat) (Option.some Jvm.ClassFile.FieldType.boolean)) ∈ ab_wG := ab_in8 88 rfl rfl
theorem ab_w140 : (Jvm.Cond.methodLink "BookBinderyLaw" (230 : Nat) ({ cls := "BookBinderyLaw", name := "threadFor", desc := "(LBookBindery;I[J)I" } : Jvm.MethodName)) ∈ ab_wG := ab_in4 174 rfl rfl
theorem ab_w141 : (Jvm.Cond.static ({ cls := "BookBinderyLaw", name := "threadFor", desc := "(LBookBindery;I[J)I" } : Jvm.MethodName)) ∈ ab_wG := ab_in4 175 rfl rfl
theorem ab_w142 : (Jvm.Cond.codeWith ({ cls := "BookBinderyLaw", name := "threadFor", desc := "(LBookBindery;I[J)I" } : Jvm.MethodName) method_26_code (4 : Nat) (Option.some Jvm.ClassFile.FieldType.int) [((0 : Nat), (9 : Nat), (12 : Nat), (57 : Nat))]) ∈ ab_wG := ab_in4 176 rfl rfl
theorem ab_w143 : (Jvm.Cond.methodLink "BookBinderyLaw" (232 : Nat) ({ cls := "BookBinderyModel", name := "threadFor", desc := "(I)I" } : Jvm.MethodName)) ∈ ab_wG := ab_in8 81 rfl rfl
theorem ab_w144 : (Jvm.Cond.instanceMethod ({ cls := "BookBinderyModel", name := "threadFor", desc := "(I)I" } : Jvm.MethodName)) ∈ ab_wG := ab_in8 82 rfl rfl
theorem ab_w145 : (Jvm.Cond.selects "BookBinderyModel" ({ cls := "BookBinderyModel", name := "threadFor", desc := "(I)I" } : Jvm.MethodName) ({ cls := "BookBinderyModel", name := "threadFor", desc := "(I)I" } : Jvm.MethodName)) ∈ ab_wG := ab_in8 83 rfl rfl
theorem ab_w146 : (Jvm.Cond.code ({ cls := "BookBinderyModel", name := "threadFor", desc := "(I)I" } : Jvm.MethodName) prog_9_method_61_code (4 : Nat) (Option.some Jvm.ClassFile.FieldType.int)) ∈ ab_wG := ab_in8 84 rfl rfl
theorem ab_w147 : (Jvm.Cond.methodLink "BookBinderyLaw" (227 : Nat) ({ cls := "BookBinderyLaw", name := "rightPlace", desc := "(LBookBindery;II[J)I" } : Jvm.MethodName)) ∈ ab_wG := ab_in4 163 rfl rfl
theorem ab_w148 : (Jvm.Cond.static ({ cls := "BookBinderyLaw", name := "rightPlace", desc := "(LBookBindery;II[J)I" } : Jvm.MethodName)) ∈ ab_wG := ab_in4 164 rfl rfl
theorem ab_w149 : (Jvm.Cond.codeWith ({ cls := "BookBinderyLaw", name := "rightPlace", desc := "(LBookBindery;II[J)I" } : Jvm.MethodName) method_25_code (5 : Nat) (Option.some Jvm.ClassFile.FieldType.int) [((0 : Nat), (10 : Nat), (13 : Nat), (57 : Nat))]) ∈ ab_wG := ab_in4 165 rfl rfl
theorem ab_w150 : (Jvm.Cond.methodLink "BookBinderyLaw" (229 : Nat) ({ cls := "BookBinderyModel", name := "rightPlace", desc := "(II)I" } : Jvm.MethodName)) ∈ ab_wG := ab_in8 77 rfl rfl
theorem ab_w151 : (Jvm.Cond.instanceMethod ({ cls := "BookBinderyModel", name := "rightPlace", desc := "(II)I" } : Jvm.MethodName)) ∈ ab_wG := ab_in8 78 rfl rfl
theorem ab_w152 : (Jvm.Cond.selects "BookBinderyModel" ({ cls := "BookBinderyModel", name := "rightPlace", desc := "(II)I" } : Jvm.MethodName) ({ cls := "BookBinderyModel", name := "rightPlace", desc := "(II)I" } : Jvm.MethodName)) ∈ ab_wG := ab_in8 79 rfl rfl
theorem ab_w153 : (Jvm.Cond.code ({ cls := "BookBinderyModel", name := "rightPlace", desc := "(II)I" } : Jvm.MethodName) prog_9_method_60_code (6 : Nat) (Option.some Jvm.ClassFile.FieldType.int)) ∈ ab_wG := ab_in8 80 rfl rfl
theorem ab_w154 : (Jvm.Cond.methodLink "BookBinderyLaw" (224 : Nat) ({ cls := "BookBinderyLaw", name := "twice", desc := "(LBookBindery;I[J)I" } : Jvm.MethodName)) ∈ ab_wG := ab_in4 152 rfl rfl
theorem ab_w155 : (Jvm.Cond.static ({ cls := "BookBinderyLaw", name := "twice", desc := "(LBookBindery;I[J)I" } : Jvm.MethodName)) ∈ ab_wG := ab_in4 153 rfl rfl
theorem ab_w156 : (Jvm.Cond.codeWith ({ cls := "BookBinderyLaw", name := "twice", desc := "(LBookBindery;I[J)I" } : Jvm.MethodName) method_24_code (4 : Nat) (Option.some Jvm.ClassFile.FieldType.int) [((0 : Nat), (9 : Nat), (12 : Nat), (57 : Nat))]) ∈ ab_wG := ab_in4 154 rfl rfl
theorem ab_w157 : (Jvm.Cond.methodLink "BookBinderyLaw" (226 : Nat) ({ cls := "BookBinderyModel", name := "twice", desc := "(I)I" } : Jvm.MethodName)) ∈ ab_wG := ab_in8 73 rfl rfl
theorem ab_w158 : (Jvm.Cond.instanceMethod ({ cls := "BookBinderyModel", name := "twice", desc := "(I)I" } : Jvm.MethodName)) ∈ ab_wG := ab_in8 74 rfl rfl
theorem ab_w159 : (Jvm.Cond.selects "BookBinderyModel" ({ cls := "BookBinderyModel", name := "twice", desc := "(I)I" } : Jvm.MethodName) ({ cls := "BookBinderyModel", name := "twice", desc := "(I)I" } : Jvm.MethodName)) ∈ ab_wG := ab_in8 75 rfl rfl
theorem ab_w160 : (Jvm.Cond.code ({ cls := "BookBinderyModel", name := "twice", desc := "(I)I" } : Jvm.MethodName) prog_9_method_59_code (4 : Nat) (Option.some Jvm.ClassFile.FieldType.int)) ∈ ab_wG := ab_in8 76 rfl rfl
theorem ab_w161 : (Jvm.Cond.methodLink "BookBinderyLaw" (221 : Nat) ({ cls := "BookBinderyLaw", name := "missingPage", desc := "(LBookBindery;II[J)I" } : Jvm.MethodName)) ∈ ab_wG := ab_in4 141 rfl rfl
theorem ab_w162 : (Jvm.Cond.static ({ cls := "BookBinderyLaw", name := "missingPage", desc := "(LBookBindery;II[J)I" } : Jvm.MethodName)) ∈ ab_wG := ab_in4 142 rfl rfl
theorem ab_w163 : (Jvm.Cond.codeWith ({ cls := "BookBinderyLaw", name := "missingPage", desc := "(LBookBindery;II[J)I" } : Jvm.MethodName) method_23_code (5 : Nat) (Option.some Jvm.ClassFile.FieldType.int) [((0 : Nat), (10 : Nat), (13 : Nat), (57 : Nat)), ((0 : Nat), (10 : Nat), (17 : Nat), (76 : Nat))]) ∈ ab_wG := ab_in4 143 rfl rfl
theorem ab_w164 : (Jvm.Cond.methodLink "BookBinderyLaw" (223 : Nat) ({ cls := "BookBinderyModel", name := "missingPage", desc := "(II)I" } : Jvm.MethodName)) ∈ ab_wG := ab_in8 69 rfl rfl
theorem ab_w165 : (Jvm.Cond.instanceMethod ({ cls := "BookBinderyModel", name := "missingPage", desc := "(II)I" } : Jvm.MethodName)) ∈ ab_wG := ab_in8 70 rfl rfl
theorem ab_w166 : (Jvm.Cond.selects "BookBinderyModel" ({ cls := "BookBinderyModel", name := "missingPage", desc := "(II)I" } : Jvm.MethodName) ({ cls := "BookBinderyModel", name := "missingPage", desc := "(II)I" } : Jvm.MethodName)) ∈ ab_wG := ab_in8 71 rfl rfl
theorem ab_w167 : (Jvm.Cond.code ({ cls := "BookBinderyModel", name := "missingPage", desc := "(II)I" } : Jvm.MethodName) prog_9_method_58_code (5 : Nat) (Option.some Jvm.ClassFile.FieldType.int)) ∈ ab_wG := ab_in8 72 rfl rfl
theorem ab_w168 : (Jvm.Cond.methodLink "BookBinderyLaw" (218 : Nat) ({ cls := "BookBinderyLaw", name := "missing", desc := "(LBookBindery;I[J)I" } : Jvm.MethodName)) ∈ ab_wG := ab_in4 133 rfl rfl
theorem ab_w169 : (Jvm.Cond.static ({ cls := "BookBinderyLaw", name := "missing", desc := "(LBookBindery;I[J)I" } : Jvm.MethodName)) ∈ ab_wG := ab_in4 134 rfl rfl
theorem ab_w170 : (Jvm.Cond.codeWith ({ cls := "BookBinderyLaw", name := "missing", desc := "(LBookBindery;I[J)I" } : Jvm.MethodName) method_22_code (4 : Nat) (Option.some Jvm.ClassFile.FieldType.int) [((0 : Nat), (9 : Nat), (12 : Nat), (57 : Nat))]) ∈ ab_wG := ab_in4 135 rfl rfl
theorem ab_w171 : (Jvm.Cond.methodLink "BookBinderyLaw" (220 : Nat) ({ cls := "BookBinderyModel", name := "missing", desc := "(I)I" } : Jvm.MethodName)) ∈ ab_wG := ab_in8 65 rfl rfl
theorem ab_w172 : (Jvm.Cond.instanceMethod ({ cls := "BookBinderyModel", name := "missing", desc := "(I)I" } : Jvm.MethodName)) ∈ ab_wG := ab_in8 66 rfl rfl
theorem ab_w173 : (Jvm.Cond.selects "BookBinderyModel" ({ cls := "BookBinderyModel", name := "missing", desc := "(I)I" } : Jvm.MethodName) ({ cls := "BookBinderyModel", name := "missing", desc := "(I)I" } : Jvm.MethodName)) ∈ ab_wG := ab_in8 67 rfl rfl
theorem ab_w174 : (Jvm.Cond.code ({ cls := "BookBinderyModel", name := "missing", desc := "(I)I" } : Jvm.MethodName) prog_9_method_57_code (2 : Nat) (Option.some Jvm.ClassFile.FieldType.int)) ∈ ab_wG := ab_in8 68 rfl rfl
theorem ab_w175 : (Jvm.Cond.methodLink "BookBinderyLaw" (215 : Nat) ({ cls := "BookBinderyLaw", name := "firstWrong", desc := "(LBookBindery;I[J)I" } : Jvm.MethodName)) ∈ ab_wG := ab_in4 109 rfl rfl
theorem ab_w176 : (Jvm.Cond.static ({ cls := "BookBinderyLaw", name := "firstWrong", desc := "(LBookBindery;I[J)I" } : Jvm.MethodName)) ∈ ab_wG := ab_in4 110 rfl rfl
theorem ab_w177 : (Jvm.Cond.codeWith ({ cls := "BookBinderyLaw", name := "firstWrong", desc := "(LBookBindery;I[J)I" } : Jvm.MethodName) method_21_code (4 : Nat) (Option.some Jvm.ClassFile.FieldType.int) [((0 : Nat), (9 : Nat), (12 : Nat), (57 : Nat)), ((0 : Nat), (9 : Nat), (15 : Nat), (76 : Nat))]) ∈ ab_wG := ab_in4 111 rfl rfl
theorem ab_w178 : (Jvm.Cond.methodLink "BookBinderyLaw" (217 : Nat) ({ cls := "BookBinderyModel", name := "firstWrong", desc := "(I)I" } : Jvm.MethodName)) ∈ ab_wG := ab_in8 61 rfl rfl
theorem ab_w179 : (Jvm.Cond.instanceMethod ({ cls := "BookBinderyModel", name := "firstWrong", desc := "(I)I" } : Jvm.MethodName)) ∈ ab_wG := ab_in8 62 rfl rfl
theorem ab_w180 : (Jvm.Cond.selects "BookBinderyModel" ({ cls := "BookBinderyModel", name := "firstWrong", desc := "(I)I" } : Jvm.MethodName) ({ cls := "BookBinderyModel", name := "firstWrong", desc := "(I)I" } : Jvm.MethodName)) ∈ ab_wG := ab_in8 63 rfl rfl
theorem ab_w181 : (Jvm.Cond.code ({ cls := "BookBinderyModel", name := "firstWrong", desc := "(I)I" } : Jvm.MethodName) prog_9_method_56_code (4 : Nat) (Option.some Jvm.ClassFile.FieldType.int)) ∈ ab_wG := ab_in8 64 rfl rfl
theorem ab_w182 : (Jvm.Cond.methodLink "BookBinderyLaw" (212 : Nat) ({ cls := "BookBinderyLaw", name := "wrongAgain", desc := "(LBookBindery;I[J)I" } : Jvm.MethodName)) ∈ ab_wG := ab_in4 86 rfl rfl
theorem ab_w183 : (Jvm.Cond.static ({ cls := "BookBinderyLaw", name := "wrongAgain", desc := "(LBookBindery;I[J)I" } : Jvm.MethodName)) ∈ ab_wG := ab_in4 87 rfl rfl
theorem ab_w184 : (Jvm.Cond.codeWith ({ cls := "BookBinderyLaw", name := "wrongAgain", desc := "(LBookBindery;I[J)I" } : Jvm.MethodName) method_20_code (4 : Nat) (Option.some Jvm.ClassFile.FieldType.int) [((0 : Nat), (9 : Nat), (12 : Nat), (57 : Nat))]) ∈ ab_wG := ab_in4 88 rfl rfl
theorem ab_w185 : (Jvm.Cond.methodLink "BookBinderyLaw" (214 : Nat) ({ cls := "BookBinderyModel", name := "wrongAgain", desc := "(I)I" } : Jvm.MethodName)) ∈ ab_wG := ab_in8 53 rfl rfl
theorem ab_w186 : (Jvm.Cond.instanceMethod ({ cls := "BookBinderyModel", name := "wrongAgain", desc := "(I)I" } : Jvm.MethodName)) ∈ ab_wG := ab_in8 54 rfl rfl
theorem ab_w187 : (Jvm.Cond.selects "BookBinderyModel" ({ cls := "BookBinderyModel", name := "wrongAgain", desc := "(I)I" } : Jvm.MethodName) ({ cls := "BookBinderyModel", name := "wrongAgain", desc := "(I)I" } : Jvm.MethodName)) ∈ ab_wG := ab_in8 55 rfl rfl
theorem ab_w188 : (Jvm.Cond.code ({ cls := "BookBinderyModel", name := "wrongAgain", desc := "(I)I" } : Jvm.MethodName) prog_9_method_55_code (4 : Nat) (Option.some Jvm.ClassFile.FieldType.int)) ∈ ab_wG := ab_in8 56 rfl rfl
theorem ab_w189 : (Jvm.Cond.methodLink "BookBinderyLaw" (209 : Nat) ({ cls := "BookBinderyLaw", name := "wrong", desc := "(LBookBindery;I[J)I" } : Jvm.MethodName)) ∈ ab_wG := ab_in4 78 rfl rfl
theorem ab_w190 : (Jvm.Cond.static ({ cls := "BookBinderyLaw", name := "wrong", desc := "(LBookBindery;I[J)I" } : Jvm.MethodName)) ∈ ab_wG := ab_in4 79 rfl rfl
theorem ab_w191 : (Jvm.Cond.codeWith ({ cls := "BookBinderyLaw", name := "wrong", desc := "(LBookBindery;I[J)I" } : Jvm.MethodName) method_19_code (4 : Nat) (Option.some Jvm.ClassFile.FieldType.int) [((0 : Nat), (9 : Nat), (12 : Nat), (57 : Nat))]) ∈ ab_wG := ab_in4 80 rfl rfl
theorem ab_w192 : (Jvm.Cond.methodLink "BookBinderyLaw" (211 : Nat) ({ cls := "BookBinderyModel", name := "wrong", desc := "(I)I" } : Jvm.MethodName)) ∈ ab_wG := ab_in8 49 rfl rfl
theorem ab_w193 : (Jvm.Cond.instanceMethod ({ cls := "BookBinderyModel", name := "wrong", desc := "(I)I" } : Jvm.MethodName)) ∈ ab_wG := ab_in8 50 rfl rfl
theorem ab_w194 : (Jvm.Cond.selects "BookBinderyModel" ({ cls := "BookBinderyModel", name := "wrong", desc := "(I)I" } : Jvm.MethodName) ({ cls := "BookBinderyModel", name := "wrong", desc := "(I)I" } : Jvm.MethodName)) ∈ ab_wG := ab_in8 51 rfl rfl
theorem ab_w195 : (Jvm.Cond.code ({ cls := "BookBinderyModel", name := "wrong", desc := "(I)I" } : Jvm.MethodName) prog_9_method_53_code (2 : Nat) (Option.some Jvm.ClassFile.FieldType.int)) ∈ ab_wG := ab_in8 52 rfl rfl
theorem ab_w196 : (Jvm.Cond.methodLink "BookBinderyLaw" (206 : Nat) ({ cls := "BookBinderyLaw", name := "pageAt", desc := "(LBookBindery;II[J)I" } : Jvm.MethodName)) ∈ ab_wG := ab_in4 62 rfl rfl
theorem ab_w197 : (Jvm.Cond.static ({ cls := "BookBinderyLaw", name := "pageAt", desc := "(LBookBindery;II[J)I" } : Jvm.MethodName)) ∈ ab_wG := ab_in4 63 rfl rfl
theorem ab_w198 : (Jvm.Cond.codeWith ({ cls := "BookBinderyLaw", name := "pageAt", desc := "(LBookBindery;II[J)I" } : Jvm.MethodName) method_18_code (5 : Nat) (Option.some Jvm.ClassFile.FieldType.int) [((0 : Nat), (10 : Nat), (13 : Nat), (57 : Nat))]) ∈ ab_wG := ab_in4 64 rfl rfl
theorem ab_w199 : (Jvm.Cond.methodLink "BookBinderyLaw" (208 : Nat) ({ cls := "BookBinderyModel", name := "pageAt", desc := "(II)I" } : Jvm.MethodName)) ∈ ab_wG := ab_in8 41 rfl rfl
theorem ab_w200 : (Jvm.Cond.instanceMethod ({ cls := "BookBinderyModel", name := "pageAt", desc := "(II)I" } : Jvm.MethodName)) ∈ ab_wG := ab_in8 42 rfl rfl
theorem ab_w201 : (Jvm.Cond.selects "BookBinderyModel" ({ cls := "BookBinderyModel", name := "pageAt", desc := "(II)I" } : Jvm.MethodName) ({ cls := "BookBinderyModel", name := "pageAt", desc := "(II)I" } : Jvm.MethodName)) ∈ ab_wG := ab_in8 43 rfl rfl
theorem ab_w202 : (Jvm.Cond.code ({ cls := "BookBinderyModel", name := "pageAt", desc := "(II)I" } : Jvm.MethodName) prog_9_method_52_code (3 : Nat) (Option.some Jvm.ClassFile.FieldType.int)) ∈ ab_wG := ab_in8 44 rfl rfl
theorem ab_w203 : (Jvm.Cond.methodLink "BookBinderyLaw" (203 : Nat) ({ cls := "BookBinderyLaw", name := "signatureOf", desc := "(LBookBindery;III[J)I" } : Jvm.MethodName)) ∈ ab_wG := ab_in4 49 rfl rfl
theorem ab_w204 : (Jvm.Cond.static ({ cls := "BookBinderyLaw", name := "signatureOf", desc := "(LBookBindery;III[J)I" } : Jvm.MethodName)) ∈ ab_wG := ab_in4 50 rfl rfl
theorem ab_w205 : (Jvm.Cond.codeWith ({ cls := "BookBinderyLaw", name := "signatureOf", desc := "(LBookBindery;III[J)I" } : Jvm.MethodName) method_17_code (6 : Nat) (Option.some Jvm.ClassFile.FieldType.int) [((0 : Nat), (12 : Nat), (15 : Nat), (57 : Nat)), ((0 : Nat), (12 : Nat), (19 : Nat), (59 : Nat))]) ∈ ab_wG := ab_in4 51 rfl rfl
theorem ab_w206 : (Jvm.Cond.methodLink "BookBinderyLaw" (205 : Nat) ({ cls := "BookBinderyModel", name := "signatureOf", desc := "(III)I" } : Jvm.MethodName)) ∈ ab_wG := ab_in8 37 rfl rfl
theorem ab_w207 : (Jvm.Cond.instanceMethod ({ cls := "BookBinderyModel", name := "signatureOf", desc := "(III)I" } : Jvm.MethodName)) ∈ ab_wG := ab_in8 38 rfl rfl
theorem ab_w208 : (Jvm.Cond.selects "BookBinderyModel" ({ cls := "BookBinderyModel", name := "signatureOf", desc := "(III)I" } : Jvm.MethodName) ({ cls := "BookBinderyModel", name := "signatureOf", desc := "(III)I" } : Jvm.MethodName)) ∈ ab_wG := ab_in8 39 rfl rfl
theorem ab_w209 : (Jvm.Cond.code ({ cls := "BookBinderyModel", name := "signatureOf", desc := "(III)I" } : Jvm.MethodName) prog_9_method_50_code (4 : Nat) (Option.some Jvm.ClassFile.FieldType.int)) ∈ ab_wG := ab_in8 40 rfl rfl
theorem ab_w210 : (Jvm.Cond.methodLink "BookBinderyLaw" (200 : Nat) ({ cls := "BookBinderyLaw", name := "bookOf", desc := "(LBookBindery;II[J)I" } : Jvm.MethodName)) ∈ ab_wG := ab_in3 213 rfl rfl
theorem ab_w211 : (Jvm.Cond.static ({ cls := "BookBinderyLaw", name := "bookOf", desc := "(LBookBindery;II[J)I" } : Jvm.MethodName)) ∈ ab_wG := ab_in3 214 rfl rfl
theorem ab_w212 : (Jvm.Cond.codeWith ({ cls := "BookBinderyLaw", name := "bookOf", desc := "(LBookBindery;II[J)I" } : Jvm.MethodName) method_16_code (5 : Nat) (Option.some Jvm.ClassFile.FieldType.int) [((0 : Nat), (10 : Nat), (13 : Nat), (57 : Nat)), ((0 : Nat), (10 : Nat), (17 : Nat), (59 : Nat))]) ∈ ab_wG := ab_in3 215 rfl rfl
theorem ab_w213 : (Jvm.Cond.methodLink "BookBinderyLaw" (202 : Nat) ({ cls := "BookBinderyModel", name := "bookOf", desc := "(II)I" } : Jvm.MethodName)) ∈ ab_wG := ab_in8 29 rfl rfl
theorem ab_w214 : (Jvm.Cond.instanceMethod ({ cls := "BookBinderyModel", name := "bookOf", desc := "(II)I" } : Jvm.MethodName)) ∈ ab_wG := ab_in8 30 rfl rfl
theorem ab_w215 : (Jvm.Cond.selects "BookBinderyModel" ({ cls := "BookBinderyModel", name := "bookOf", desc := "(II)I" } : Jvm.MethodName) ({ cls := "BookBinderyModel", name := "bookOf", desc := "(II)I" } : Jvm.MethodName)) ∈ ab_wG := ab_in8 31 rfl rfl
theorem ab_w216 : (Jvm.Cond.code ({ cls := "BookBinderyModel", name := "bookOf", desc := "(II)I" } : Jvm.MethodName) prog_9_method_49_code (3 : Nat) (Option.some Jvm.ClassFile.FieldType.int)) ∈ ab_wG := ab_in8 32 rfl rfl
theorem ab_w217 : (Jvm.Cond.methodLink "BookBinderyLaw" (197 : Nat) ({ cls := "BookBinderyLaw", name := "pass", desc := "(LBookBindery;I[J)I" } : Jvm.MethodName)) ∈ ab_wG := ab_in3 194 rfl rfl
theorem ab_w218 : (Jvm.Cond.static ({ cls := "BookBinderyLaw", name := "pass", desc := "(LBookBindery;I[J)I" } : Jvm.MethodName)) ∈ ab_wG := ab_in3 195 rfl rfl
theorem ab_w219 : (Jvm.Cond.codeWith ({ cls := "BookBinderyLaw", name := "pass", desc := "(LBookBindery;I[J)I" } : Jvm.MethodName) method_15_code (4 : Nat) (Option.some Jvm.ClassFile.FieldType.int) [((0 : Nat), (9 : Nat), (12 : Nat), (13 : Nat))]) ∈ ab_wG := ab_in3 196 rfl rfl
theorem ab_w220 : (Jvm.Cond.methodLink "BookBinderyLaw" (199 : Nat) ({ cls := "BookBinderyModel", name := "pass", desc := "(I)I" } : Jvm.MethodName)) ∈ ab_wG := ab_in8 21 rfl rfl
theorem ab_w221 : (Jvm.Cond.instanceMethod ({ cls := "BookBinderyModel", name := "pass", desc := "(I)I" } : Jvm.MethodName)) ∈ ab_wG := ab_in8 22 rfl rfl
theorem ab_w222 : (Jvm.Cond.selects "BookBinderyModel" ({ cls := "BookBinderyModel", name := "pass", desc := "(I)I" } : Jvm.MethodName) ({ cls := "BookBinderyModel", name := "pass", desc := "(I)I" } : Jvm.MethodName)) ∈ ab_wG := ab_in8 23 rfl rfl
theorem ab_w223 : (Jvm.Cond.code ({ cls := "BookBinderyModel", name := "pass", desc := "(I)I" } : Jvm.MethodName) prog_9_method_48_code (4 : Nat) (Option.some Jvm.ClassFile.FieldType.int)) ∈ ab_wG := ab_in8 24 rfl rfl
theorem ab_w224 : (Jvm.Cond.methodLink "BookBinderyLaw" (194 : Nat) ({ cls := "BookBinderyLaw", name := "deliver", desc := "(LBookBindery;I[J)I" } : Jvm.MethodName)) ∈ ab_wG := ab_in3 162 rfl rfl
theorem ab_w225 : (Jvm.Cond.static ({ cls := "BookBinderyLaw", name := "deliver", desc := "(LBookBindery;I[J)I" } : Jvm.MethodName)) ∈ ab_wG := ab_in3 163 rfl rfl
theorem ab_w226 : (Jvm.Cond.codeWith ({ cls := "BookBinderyLaw", name := "deliver", desc := "(LBookBindery;I[J)I" } : Jvm.MethodName) method_14_code (4 : Nat) (Option.some Jvm.ClassFile.FieldType.int) [((0 : Nat), (9 : Nat), (12 : Nat), (13 : Nat))]) ∈ ab_wG := ab_in3 164 rfl rfl
theorem ab_w227 : (Jvm.Cond.methodLink "BookBinderyLaw" (196 : Nat) ({ cls := "BookBinderyModel", name := "deliver", desc := "(I)I" } : Jvm.MethodName)) ∈ ab_wG := ab_in8 5 rfl rfl
theorem ab_w228 : (Jvm.Cond.instanceMethod ({ cls := "BookBinderyModel", name := "deliver", desc := "(I)I" } : Jvm.MethodName)) ∈ ab_wG := ab_in8 6 rfl rfl
theorem ab_w229 : (Jvm.Cond.selects "BookBinderyModel" ({ cls := "BookBinderyModel", name := "deliver", desc := "(I)I" } : Jvm.MethodName) ({ cls := "BookBinderyModel", name := "deliver", desc := "(I)I" } : Jvm.MethodName)) ∈ ab_wG := ab_in8 7 rfl rfl
theorem ab_w230 : (Jvm.Cond.code ({ cls := "BookBinderyModel", name := "deliver", desc := "(I)I" } : Jvm.MethodName) prog_9_method_46_code (4 : Nat) (Option.some Jvm.ClassFile.FieldType.int)) ∈ ab_wG := ab_in8 8 rfl rfl
theorem ab_w231 : (Jvm.Cond.methodLink "BookBinderyLaw" (191 : Nat) ({ cls := "BookBinderyLaw", name := "slip", desc := "(LBookBindery;II[J)I" } : Jvm.MethodName)) ∈ ab_wG := ab_in3 135 rfl rfl
theorem ab_w232 : (Jvm.Cond.static ({ cls := "BookBinderyLaw", name := "slip", desc := "(LBookBindery;II[J)I" } : Jvm.MethodName)) ∈ ab_wG := ab_in3 136 rfl rfl
theorem ab_w233 : (Jvm.Cond.codeWith ({ cls := "BookBinderyLaw", name := "slip", desc := "(LBookBindery;II[J)I" } : Jvm.MethodName) method_13_code (5 : Nat) (Option.some Jvm.ClassFile.FieldType.int) [((0 : Nat), (10 : Nat), (13 : Nat), (13 : Nat))]) ∈ ab_wG := ab_in3 137 rfl rfl
theorem ab_w234 : (Jvm.Cond.methodLink "BookBinderyLaw" (193 : Nat) ({ cls := "BookBinderyModel", name := "slip", desc := "(II)I" } : Jvm.MethodName)) ∈ ab_wG := ab_in7 233 rfl rfl
theorem ab_w235 : (Jvm.Cond.instanceMethod ({ cls := "BookBinderyModel", name := "slip", desc := "(II)I" } : Jvm.MethodName)) ∈ ab_wG := ab_in7 234 rfl rfl
theorem ab_w236 : (Jvm.Cond.selects "BookBinderyModel" ({ cls := "BookBinderyModel", name := "slip", desc := "(II)I" } : Jvm.MethodName) ({ cls := "BookBinderyModel", name := "slip", desc := "(II)I" } : Jvm.MethodName)) ∈ ab_wG := ab_in7 235 rfl rfl
theorem ab_w237 : (Jvm.Cond.code ({ cls := "BookBinderyModel", name := "slip", desc := "(II)I" } : Jvm.MethodName) prog_9_method_44_code (3 : Nat) (Option.some Jvm.ClassFile.FieldType.int)) ∈ ab_wG := ab_in7 236 rfl rfl
theorem ab_w238 : (Jvm.Cond.methodLink "BookBinderyLaw" (188 : Nat) ({ cls := "BookBinderyLaw", name := "lift", desc := "(LBookBindery;I[J)I" } : Jvm.MethodName)) ∈ ab_wG := ab_in3 124 rfl rfl
theorem ab_w239 : (Jvm.Cond.static ({ cls := "BookBinderyLaw", name := "lift", desc := "(LBookBindery;I[J)I" } : Jvm.MethodName)) ∈ ab_wG := ab_in3 125 rfl rfl
theorem ab_w240 : (Jvm.Cond.codeWith ({ cls := "BookBinderyLaw", name := "lift", desc := "(LBookBindery;I[J)I" } : Jvm.MethodName) method_12_code (4 : Nat) (Option.some Jvm.ClassFile.FieldType.int) [((0 : Nat), (9 : Nat), (12 : Nat), (13 : Nat))]) ∈ ab_wG := ab_in3 126 rfl rfl
theorem ab_w241 : (Jvm.Cond.methodLink "BookBinderyLaw" (190 : Nat) ({ cls := "BookBinderyModel", name := "lift", desc := "(I)I" } : Jvm.MethodName)) ∈ ab_wG := ab_in7 218 rfl rfl
theorem ab_w242 : (Jvm.Cond.instanceMethod ({ cls := "BookBinderyModel", name := "lift", desc := "(I)I" } : Jvm.MethodName)) ∈ ab_wG := ab_in7 219 rfl rfl
theorem ab_w243 : (Jvm.Cond.selects "BookBinderyModel" ({ cls := "BookBinderyModel", name := "lift", desc := "(I)I" } : Jvm.MethodName) ({ cls := "BookBinderyModel", name := "lift", desc := "(I)I" } : Jvm.MethodName)) ∈ ab_wG := ab_in7 220 rfl rfl
theorem ab_w244 : (Jvm.Cond.code ({ cls := "BookBinderyModel", name := "lift", desc := "(I)I" } : Jvm.MethodName) prog_9_method_43_code (3 : Nat) (Option.some Jvm.ClassFile.FieldType.int)) ∈ ab_wG := ab_in7 221 rfl rfl
theorem ab_w245 : (Jvm.Cond.methodLink "BookBinderyLaw" (185 : Nat) ({ cls := "BookBinderyLaw", name := "press", desc := "(LBookBindery;II[J)I" } : Jvm.MethodName)) ∈ ab_wG := ab_in3 109 rfl rfl
theorem ab_w246 : (Jvm.Cond.static ({ cls := "BookBinderyLaw", name := "press", desc := "(LBookBindery;II[J)I" } : Jvm.MethodName)) ∈ ab_wG := ab_in3 110 rfl rfl
theorem ab_w247 : (Jvm.Cond.codeWith ({ cls := "BookBinderyLaw", name := "press", desc := "(LBookBindery;II[J)I" } : Jvm.MethodName) method_11_code (5 : Nat) (Option.some Jvm.ClassFile.FieldType.int) [((0 : Nat), (10 : Nat), (13 : Nat), (13 : Nat))]) ∈ ab_wG := ab_in3 111 rfl rfl
theorem ab_w248 : (Jvm.Cond.methodLink "BookBinderyLaw" (187 : Nat) ({ cls := "BookBinderyModel", name := "press", desc := "(II)I" } : Jvm.MethodName)) ∈ ab_wG := ab_in7 207 rfl rfl
theorem ab_w249 : (Jvm.Cond.instanceMethod ({ cls := "BookBinderyModel", name := "press", desc := "(II)I" } : Jvm.MethodName)) ∈ ab_wG := ab_in7 208 rfl rfl
theorem ab_w250 : (Jvm.Cond.selects "BookBinderyModel" ({ cls := "BookBinderyModel", name := "press", desc := "(II)I" } : Jvm.MethodName) ({ cls := "BookBinderyModel", name := "press", desc := "(II)I" } : Jvm.MethodName)) ∈ ab_wG := ab_in7 209 rfl rfl
theorem ab_w251 : (Jvm.Cond.code ({ cls := "BookBinderyModel", name := "press", desc := "(II)I" } : Jvm.MethodName) prog_9_method_42_code (3 : Nat) (Option.some Jvm.ClassFile.FieldType.int)) ∈ ab_wG := ab_in7 210 rfl rfl
theorem ab_w252 : (Jvm.Cond.methodLink "BookBinderyLaw" (182 : Nat) ({ cls := "BookBinderyLaw", name := "glue", desc := "(LBookBindery;II[J)I" } : Jvm.MethodName)) ∈ ab_wG := ab_in3 96 rfl rfl
theorem ab_w253 : (Jvm.Cond.static ({ cls := "BookBinderyLaw", name := "glue", desc := "(LBookBindery;II[J)I" } : Jvm.MethodName)) ∈ ab_wG := ab_in3 97 rfl rfl
theorem ab_w254 : (Jvm.Cond.codeWith ({ cls := "BookBinderyLaw", name := "glue", desc := "(LBookBindery;II[J)I" } : Jvm.MethodName) method_10_code (5 : Nat) (Option.some Jvm.ClassFile.FieldType.int) [((0 : Nat), (10 : Nat), (13 : Nat), (13 : Nat))]) ∈ ab_wG := ab_in3 98 rfl rfl
theorem ab_w255 : (Jvm.Cond.methodLink "BookBinderyLaw" (184 : Nat) ({ cls := "BookBinderyModel", name := "glue", desc := "(II)I" } : Jvm.MethodName)) ∈ ab_wG := ab_in7 200 rfl rfl
theorem ab_w256 : (Jvm.Cond.instanceMethod ({ cls := "BookBinderyModel", name := "glue", desc := "(II)I" } : Jvm.MethodName)) ∈ ab_wG := ab_in7 201 rfl rfl
theorem ab_w257 : (Jvm.Cond.selects "BookBinderyModel" ({ cls := "BookBinderyModel", name := "glue", desc := "(II)I" } : Jvm.MethodName) ({ cls := "BookBinderyModel", name := "glue", desc := "(II)I" } : Jvm.MethodName)) ∈ ab_wG := ab_in7 202 rfl rfl
theorem ab_w258 : (Jvm.Cond.code ({ cls := "BookBinderyModel", name := "glue", desc := "(II)I" } : Jvm.MethodName) prog_9_method_39_code (3 : Nat) (Option.some Jvm.ClassFile.FieldType.int)) ∈ ab_wG := ab_in7 203 rfl rfl
theorem ab_w259 : (Jvm.Cond.methodLink "BookBinderyLaw" (179 : Nat) ({ cls := "BookBinderyLaw", name := "unpick", desc := "(LBookBindery;I[J)I" } : Jvm.MethodName)) ∈ ab_wG := ab_in3 85 rfl rfl
theorem ab_w260 : (Jvm.Cond.static ({ cls := "BookBinderyLaw", name := "unpick", desc := "(LBookBindery;I[J)I" } : Jvm.MethodName)) ∈ ab_wG := ab_in3 86 rfl rfl
theorem ab_w261 : (Jvm.Cond.codeWith ({ cls := "BookBinderyLaw", name := "unpick", desc := "(LBookBindery;I[J)I" } : Jvm.MethodName) method_9_code (4 : Nat) (Option.some Jvm.ClassFile.FieldType.int) [((0 : Nat), (9 : Nat), (12 : Nat), (13 : Nat))]) ∈ ab_wG := ab_in3 87 rfl rfl
theorem ab_w262 : (Jvm.Cond.methodLink "BookBinderyLaw" (181 : Nat) ({ cls := "BookBinderyModel", name := "unpick", desc := "(I)I" } : Jvm.MethodName)) ∈ ab_wG := ab_in7 196 rfl rfl
theorem ab_w263 : (Jvm.Cond.instanceMethod ({ cls := "BookBinderyModel", name := "unpick", desc := "(I)I" } : Jvm.MethodName)) ∈ ab_wG := ab_in7 197 rfl rfl
theorem ab_w264 : (Jvm.Cond.selects "BookBinderyModel" ({ cls := "BookBinderyModel", name := "unpick", desc := "(I)I" } : Jvm.MethodName) ({ cls := "BookBinderyModel", name := "unpick", desc := "(I)I" } : Jvm.MethodName)) ∈ ab_wG := ab_in7 198 rfl rfl
theorem ab_w265 : (Jvm.Cond.code ({ cls := "BookBinderyModel", name := "unpick", desc := "(I)I" } : Jvm.MethodName) prog_9_method_36_code (2 : Nat) (Option.some Jvm.ClassFile.FieldType.int)) ∈ ab_wG := ab_in7 199 rfl rfl
theorem ab_w266 : (Jvm.Cond.methodLink "BookBinderyLaw" (176 : Nat) ({ cls := "BookBinderyLaw", name := "sew", desc := "(LBookBindery;I[J)I" } : Jvm.MethodName)) ∈ ab_wG := ab_in3 70 rfl rfl
theorem ab_w267 : (Jvm.Cond.static ({ cls := "BookBinderyLaw", name := "sew", desc := "(LBookBindery;I[J)I" } : Jvm.MethodName)) ∈ ab_wG := ab_in3 71 rfl rfl
theorem ab_w268 : (Jvm.Cond.codeWith ({ cls := "BookBinderyLaw", name := "sew", desc := "(LBookBindery;I[J)I" } : Jvm.MethodName) method_8_code (4 : Nat) (Option.some Jvm.ClassFile.FieldType.int) [((0 : Nat), (9 : Nat), (12 : Nat), (13 : Nat))]) ∈ ab_wG := ab_in3 72 rfl rfl
theorem ab_w269 : (Jvm.Cond.methodLink "BookBinderyLaw" (178 : Nat) ({ cls := "BookBinderyModel", name := "sew", desc := "(I)I" } : Jvm.MethodName)) ∈ ab_wG := ab_in7 188 rfl rfl
theorem ab_w270 : (Jvm.Cond.instanceMethod ({ cls := "BookBinderyModel", name := "sew", desc := "(I)I" } : Jvm.MethodName)) ∈ ab_wG := ab_in7 189 rfl rfl
theorem ab_w271 : (Jvm.Cond.selects "BookBinderyModel" ({ cls := "BookBinderyModel", name := "sew", desc := "(I)I" } : Jvm.MethodName) ({ cls := "BookBinderyModel", name := "sew", desc := "(I)I" } : Jvm.MethodName)) ∈ ab_wG := ab_in7 190 rfl rfl
theorem ab_w272 : (Jvm.Cond.code ({ cls := "BookBinderyModel", name := "sew", desc := "(I)I" } : Jvm.MethodName) prog_9_method_35_code (4 : Nat) (Option.some Jvm.ClassFile.FieldType.int)) ∈ ab_wG := ab_in7 191 rfl rfl
theorem ab_w273 : (Jvm.Cond.methodLink "BookBinderyLaw" (172 : Nat) ({ cls := "BookBinderyLaw", name := "spool", desc := "(LBookBindery;I[J)I" } : Jvm.MethodName)) ∈ ab_wG := ab_in3 58 rfl rfl
theorem ab_w274 : (Jvm.Cond.static ({ cls := "BookBinderyLaw", name := "spool", desc := "(LBookBindery;I[J)I" } : Jvm.MethodName)) ∈ ab_wG := ab_in3 59 rfl rfl
theorem ab_w275 : (Jvm.Cond.codeWith ({ cls := "BookBinderyLaw", name := "spool", desc := "(LBookBindery;I[J)I" } : Jvm.MethodName) method_7_code (4 : Nat) (Option.some Jvm.ClassFile.FieldType.int) [((0 : Nat), (9 : Nat), (12 : Nat), (13 : Nat))]) ∈ ab_wG := ab_in3 60 rfl rfl
theorem ab_w276 : (Jvm.Cond.methodLink "BookBinderyLaw" (175 : Nat) ({ cls := "BookBinderyModel", name := "spool", desc := "(I)I" } : Jvm.MethodName)) ∈ ab_wG := ab_in7 184 rfl rfl
theorem ab_w277 : (Jvm.Cond.instanceMethod ({ cls := "BookBinderyModel", name := "spool", desc := "(I)I" } : Jvm.MethodName)) ∈ ab_wG := ab_in7 185 rfl rfl
theorem ab_w278 : (Jvm.Cond.selects "BookBinderyModel" ({ cls := "BookBinderyModel", name := "spool", desc := "(I)I" } : Jvm.MethodName) ({ cls := "BookBinderyModel", name := "spool", desc := "(I)I" } : Jvm.MethodName)) ∈ ab_wG := ab_in7 186 rfl rfl
theorem ab_w279 : (Jvm.Cond.code ({ cls := "BookBinderyModel", name := "spool", desc := "(I)I" } : Jvm.MethodName) prog_9_method_33_code (2 : Nat) (Option.some Jvm.ClassFile.FieldType.int)) ∈ ab_wG := ab_in7 187 rfl rfl
theorem ab_w280 : (Jvm.Cond.methodLink "BookBinderyLaw" (169 : Nat) ({ cls := "BookBinderyLaw", name := "drop", desc := "(LBookBindery;II[J)I" } : Jvm.MethodName)) ∈ ab_wG := ab_in3 47 rfl rfl
theorem ab_w281 : (Jvm.Cond.static ({ cls := "BookBinderyLaw", name := "drop", desc := "(LBookBindery;II[J)I" } : Jvm.MethodName)) ∈ ab_wG := ab_in3 48 rfl rfl
theorem ab_w282 : (Jvm.Cond.codeWith ({ cls := "BookBinderyLaw", name := "drop", desc := "(LBookBindery;II[J)I" } : Jvm.MethodName) method_6_code (5 : Nat) (Option.some Jvm.ClassFile.FieldType.int) [((0 : Nat), (10 : Nat), (13 : Nat), (13 : Nat))]) ∈ ab_wG := ab_in3 49 rfl rfl
theorem ab_w283 : (Jvm.Cond.methodLink "BookBinderyLaw" (171 : Nat) ({ cls := "BookBinderyModel", name := "drop", desc := "(II)I" } : Jvm.MethodName)) ∈ ab_wG := ab_in7 180 rfl rfl
theorem ab_w284 : (Jvm.Cond.instanceMethod ({ cls := "BookBinderyModel", name := "drop", desc := "(II)I" } : Jvm.MethodName)) ∈ ab_wG := ab_in7 181 rfl rfl
theorem ab_w285 : (Jvm.Cond.selects "BookBinderyModel" ({ cls := "BookBinderyModel", name := "drop", desc := "(II)I" } : Jvm.MethodName) ({ cls := "BookBinderyModel", name := "drop", desc := "(II)I" } : Jvm.MethodName)) ∈ ab_wG := ab_in7 182 rfl rfl
theorem ab_w286 : (Jvm.Cond.code ({ cls := "BookBinderyModel", name := "drop", desc := "(II)I" } : Jvm.MethodName) prog_9_method_32_code (5 : Nat) (Option.some Jvm.ClassFile.FieldType.int)) ∈ ab_wG := ab_in7 183 rfl rfl
theorem ab_w287 : (Jvm.Cond.methodLink "BookBinderyLaw" (165 : Nat) ({ cls := "BookBinderyLaw", name := "move", desc := "(LBookBindery;III[J)I" } : Jvm.MethodName)) ∈ ab_wG := ab_in3 12 rfl rfl
theorem ab_w288 : (Jvm.Cond.static ({ cls := "BookBinderyLaw", name := "move", desc := "(LBookBindery;III[J)I" } : Jvm.MethodName)) ∈ ab_wG := ab_in3 13 rfl rfl
theorem ab_w289 : (Jvm.Cond.codeWith ({ cls := "BookBinderyLaw", name := "move", desc := "(LBookBindery;III[J)I" } : Jvm.MethodName) method_5_code (6 : Nat) (Option.some Jvm.ClassFile.FieldType.int) [((0 : Nat), (12 : Nat), (15 : Nat), (13 : Nat))]) ∈ ab_wG := ab_in3 14 rfl rfl
theorem ab_w290 : (Jvm.Cond.methodLink "BookBinderyLaw" (168 : Nat) ({ cls := "BookBinderyModel", name := "move", desc := "(III)I" } : Jvm.MethodName)) ∈ ab_wG := ab_in7 140 rfl rfl
theorem ab_w291 : (Jvm.Cond.instanceMethod ({ cls := "BookBinderyModel", name := "move", desc := "(III)I" } : Jvm.MethodName)) ∈ ab_wG := ab_in7 141 rfl rfl
theorem ab_w292 : (Jvm.Cond.selects "BookBinderyModel" ({ cls := "BookBinderyModel", name := "move", desc := "(III)I" } : Jvm.MethodName) ({ cls := "BookBinderyModel", name := "move", desc := "(III)I" } : Jvm.MethodName)) ∈ ab_wG := ab_in7 142 rfl rfl
theorem ab_w293 : (Jvm.Cond.code ({ cls := "BookBinderyModel", name := "move", desc := "(III)I" } : Jvm.MethodName) prog_9_method_31_code (5 : Nat) (Option.some Jvm.ClassFile.FieldType.int)) ∈ ab_wG := ab_in7 143 rfl rfl
theorem ab_w294 : (Jvm.Cond.methodLink "BookBinderyLaw" (161 : Nat) ({ cls := "BookBinderyLaw", name := "gather", desc := "(LBookBindery;IIIZ[J)I" } : Jvm.MethodName)) ∈ ab_wG := ab_in2 228 rfl rfl
theorem ab_w295 : (Jvm.Cond.static ({ cls := "BookBinderyLaw", name := "gather", desc := "(LBookBindery;IIIZ[J)I" } : Jvm.MethodName)) ∈ ab_wG := ab_in2 229 rfl rfl
theorem ab_w296 : (Jvm.Cond.codeWith ({ cls := "BookBinderyLaw", name := "gather", desc := "(LBookBindery;IIIZ[J)I" } : Jvm.MethodName) method_4_code (7 : Nat) (Option.some Jvm.ClassFile.FieldType.int) [((0 : Nat), (14 : Nat), (17 : Nat), (13 : Nat))]) ∈ ab_wG := ab_in2 230 rfl rfl
theorem ab_w297 : (Jvm.Cond.methodLink "BookBinderyLaw" (164 : Nat) ({ cls := "BookBinderyModel", name := "gather", desc := "(IIIZ)I" } : Jvm.MethodName)) ∈ ab_wG := ab_in7 116 rfl rfl
theorem ab_w298 : (Jvm.Cond.instanceMethod ({ cls := "BookBinderyModel", name := "gather", desc := "(IIIZ)I" } : Jvm.MethodName)) ∈ ab_wG := ab_in7 117 rfl rfl
theorem ab_w299 : (Jvm.Cond.selects "BookBinderyModel" ({ cls := "BookBinderyModel", name := "gather", desc := "(IIIZ)I" } : Jvm.MethodName) ({ cls := "BookBinderyModel", name := "gather", desc := "(IIIZ)I" } : Jvm.MethodName)) ∈ ab_wG := ab_in7 118 rfl rfl
theorem ab_w300 : (Jvm.Cond.code ({ cls := "BookBinderyModel", name := "gather", desc := "(IIIZ)I" } : Jvm.MethodName) prog_9_method_29_code (6 : Nat) (Option.some Jvm.ClassFile.FieldType.int)) ∈ ab_wG := ab_in7 119 rfl rfl
theorem ab_w301 : (Jvm.Cond.methodLink "BookBinderyLaw" (152 : Nat) ({ cls := "BookBinderyLaw", name := "book", desc := "(LBookBindery;II[J)I" } : Jvm.MethodName)) ∈ ab_wG := ab_in2 120 rfl rfl
theorem ab_w302 : (Jvm.Cond.static ({ cls := "BookBinderyLaw", name := "book", desc := "(LBookBindery;II[J)I" } : Jvm.MethodName)) ∈ ab_wG := ab_in2 121 rfl rfl
theorem ab_w303 : (Jvm.Cond.codeWith ({ cls := "BookBinderyLaw", name := "book", desc := "(LBookBindery;II[J)I" } : Jvm.MethodName) method_3_code (5 : Nat) (Option.some Jvm.ClassFile.FieldType.int) [((0 : Nat), (10 : Nat), (13 : Nat), (13 : Nat))]) ∈ ab_wG := ab_in2 122 rfl rfl
theorem ab_w304 : (Jvm.Cond.methodLink "BookBinderyLaw" (157 : Nat) ({ cls := "BookBinderyModel", name := "book", desc := "(II)I" } : Jvm.MethodName)) ∈ ab_wG := ab_in7 94 rfl rfl
theorem ab_w305 : (Jvm.Cond.instanceMethod ({ cls := "BookBinderyModel", name := "book", desc := "(II)I" } : Jvm.MethodName)) ∈ ab_wG := ab_in7 95 rfl rfl
theorem ab_w306 : (Jvm.Cond.selects "BookBinderyModel" ({ cls := "BookBinderyModel", name := "book", desc := "(II)I" } : Jvm.MethodName) ({ cls := "BookBinderyModel", name := "book", desc := "(II)I" } : Jvm.MethodName)) ∈ ab_wG := ab_in7 96 rfl rfl
theorem ab_w307 : (Jvm.Cond.code ({ cls := "BookBinderyModel", name := "book", desc := "(II)I" } : Jvm.MethodName) prog_9_method_27_code (5 : Nat) (Option.some Jvm.ClassFile.FieldType.int)) ∈ ab_wG := ab_in7 97 rfl rfl
theorem ab_w308 : (Jvm.Cond.methodLink "BookBindery" (1 : Nat) ({ cls := "java/lang/Object", name := "<init>", desc := "()V" } : Jvm.MethodName)) ∈ ab_wG := ab_in1 37 rfl rfl
theorem ab_w309 : (Jvm.Cond.instanceMethod ({ cls := "java/lang/Object", name := "<init>", desc := "()V" } : Jvm.MethodName)) ∈ ab_wG := ab_in1 38 rfl rfl
theorem ab_w310 : (Jvm.Cond.code ({ cls := "java/lang/Object", name := "<init>", desc := "()V" } : Jvm.MethodName) object_method_1_code (1 : Nat) (Option.none : Option Jvm.ClassFile.FieldType)) ∈ ab_wG := ab_in1 39 rfl rfl
theorem ab_w311 : (Jvm.Cond.classLink "BookBindery" (7 : Nat) "BookBindery$Bench") ∈ ab_wG := ab_in1 40 rfl rfl
theorem ab_w312 : (Jvm.Cond.instantiable "BookBindery$Bench" (5 : Nat)) ∈ ab_wG := ab_in1 41 rfl rfl
theorem ab_w313 : (Jvm.Cond.initialized "BookBindery$Bench") ∈ ab_wG := ab_in1 2 rfl rfl
theorem ab_w314 : (Jvm.Cond.code ({ cls := "BookBindery$Bench", name := "<init>", desc := "()V" } : Jvm.MethodName) prog_2_method_1_code (1 : Nat) (Option.none : Option Jvm.ClassFile.FieldType)) ∈ ab_wG := ab_in1 44 rfl rfl
theorem ab_w315 : (Jvm.Cond.instanceMethod ({ cls := "BookBindery$Bench", name := "<init>", desc := "()V" } : Jvm.MethodName)) ∈ ab_wG := ab_in1 43 rfl rfl
theorem ab_w316 : (Jvm.Cond.fieldLink "BookBindery" (10 : Nat) "BookBindery" "bench" "LBookBindery$Bench;") ∈ ab_wG := ab_in2 64 rfl rfl
theorem ab_w317 : (Jvm.Cond.fieldLink "BookBindery" (16 : Nat) "BookBindery$Bench" "shop" "LBookBindery$Shop;") ∈ ab_wG := ab_in1 193 rfl rfl
theorem ab_w318 : (Jvm.Cond.fieldLink "BookBindery" (20 : Nat) "BookBindery" "shop" "LBookBindery$Shop;") ∈ ab_wG := ab_in2 65 rfl rfl
theorem ab_w319 : (Jvm.Cond.classLink "BookBindery" (21 : Nat) "BookBindery$History") ∈ ab_wG := ab_in1 212 rfl rfl
theorem ab_w320 : (Jvm.Cond.instantiable "BookBindery$History" (3 : Nat)) ∈ ab_wG := ab_in1 213 rfl rfl
theorem ab_w321 : (Jvm.Cond.initialized "BookBindery$History") ∈ ab_wG := ab_in1 6 rfl rfl
theorem ab_w322 : (Jvm.Cond.code ({ cls := "BookBindery$History", name := "<init>", desc := "()V" } : Jvm.MethodName) prog_5_method_1_code (2 : Nat) (Option.none : Option Jvm.ClassFile.FieldType)) ∈ ab_wG := ab_in1 216 rfl rfl
theorem ab_w323 : (Jvm.Cond.methodLink "BookBindery" (23 : Nat) ({ cls := "BookBindery$History", name := "<init>", desc := "()V" } : Jvm.MethodName)) ∈ ab_wG := ab_in1 214 rfl rfl
theorem ab_w324 : (Jvm.Cond.instanceMethod ({ cls := "BookBindery$History", name := "<init>", desc := "()V" } : Jvm.MethodName)) ∈ ab_wG := ab_in1 215 rfl rfl
theorem ab_w325 : (Jvm.Cond.fieldLink "BookBindery" (24 : Nat) "BookBindery" "history" "LBookBindery$History;") ∈ ab_wG := ab_in2 66 rfl rfl
theorem ab_w326 : (Jvm.Cond.classLink "BookBindery" (28 : Nat) "BookBindery$Shop") ∈ ab_wG := ab_in1 232 rfl rfl
theorem ab_w327 : (Jvm.Cond.instantiable "BookBindery$Shop" (10 : Nat)) ∈ ab_wG := ab_in1 47 rfl rfl
theorem ab_w328 : (Jvm.Cond.initialized "BookBindery$Shop") ∈ ab_wG := ab_in1 3 rfl rfl
theorem ab_w329 : (Jvm.Cond.code ({ cls := "BookBindery$Shop", name := "<init>", desc := "()V" } : Jvm.MethodName) prog_7_method_1_code (2 : Nat) (Option.none : Option Jvm.ClassFile.FieldType)) ∈ ab_wG := ab_in1 50 rfl rfl
theorem ab_w330 : (Jvm.Cond.methodLink "BookBindery" (30 : Nat) ({ cls := "BookBindery$Shop", name := "<init>", desc := "()V" } : Jvm.MethodName)) ∈ ab_wG := ab_in1 233 rfl rfl
theorem ab_w331 : (Jvm.Cond.instanceMethod ({ cls := "BookBindery$Shop", name := "<init>", desc := "()V" } : Jvm.MethodName)) ∈ ab_wG := ab_in1 49 rfl rfl
theorem ab_w332 : (Jvm.Cond.fieldLink "BookBindery" (31 : Nat) "BookBindery" "snapshot" "LBookBindery$Shop;") ∈ ab_wG := ab_in2 67 rfl rfl
theorem ab_w333 : (Jvm.Cond.classLink "BookBindery" (34 : Nat) "BookBindery$CommandText") ∈ ab_wG := ab_in1 234 rfl rfl
theorem ab_w334 : (Jvm.Cond.instantiable "BookBindery$CommandText" (8 : Nat)) ∈ ab_wG := ab_in1 235 rfl rfl
theorem ab_w335 : (Jvm.Cond.initialized "BookBindery$CommandText") ∈ ab_wG := ab_in1 7 rfl rfl
theorem ab_w336 : (Jvm.Cond.code ({ cls := "BookBindery$CommandText", name := "<init>", desc := "()V" } : Jvm.MethodName) prog_4_method_1_code (1 : Nat) (Option.none : Option Jvm.ClassFile.FieldType)) ∈ ab_wG := ab_in1 238 rfl rfl
theorem ab_w337 : (Jvm.Cond.instanceMethod ({ cls := "BookBindery$CommandText", name := "<init>", desc := "()V" } : Jvm.MethodName)) ∈ ab_wG := ab_in1 237 rfl rfl
theorem ab_w338 : (Jvm.Cond.fieldLink "BookBindery" (37 : Nat) "BookBindery" "text" "LBookBindery$CommandText;") ∈ ab_wG := ab_in2 69 rfl rfl
theorem ab_w339 : (Jvm.Cond.fieldLink "BookBindery" (41 : Nat) "BookBindery" "fault" "I") ∈ ab_wG := ab_in2 70 rfl rfl
theorem ab_w340 : (Jvm.Cond.classLink "BookBindery" (45 : Nat) "java/lang/StringBuilder") ∈ ab_wG := ab_in2 31 rfl rfl
theorem ab_w341 : (Jvm.Cond.instantiable "java/lang/StringBuilder" (4 : Nat)) ∈ ab_wG := ab_in2 32 rfl rfl
theorem ab_w342 : (Jvm.Cond.initialized "java/lang/StringBuilder") ∈ ab_wG := ab_in1 9 rfl rfl
theorem ab_w343 : (Jvm.Cond.code ({ cls := "java/lang/StringBuilder", name := "<init>", desc := "()V" } : Jvm.MethodName) prog_27_method_1_code (1 : Nat) (Option.none : Option Jvm.ClassFile.FieldType)) ∈ ab_wG := ab_in2 35 rfl rfl
theorem ab_w344 : (Jvm.Cond.methodLink "BookBindery" (47 : Nat) ({ cls := "java/lang/StringBuilder", name := "<init>", desc := "()V" } : Jvm.MethodName)) ∈ ab_wG := ab_in2 33 rfl rfl
theorem ab_w345 : (Jvm.Cond.instanceMethod ({ cls := "java/lang/StringBuilder", name := "<init>", desc := "()V" } : Jvm.MethodName)) ∈ ab_wG := ab_in2 34 rfl rfl
theorem ab_w346 : (Jvm.Cond.fieldLink "BookBindery" (48 : Nat) "BookBindery" "written" "Ljava/lang/StringBuilder;") ∈ ab_wG := ab_in2 71 rfl rfl
theorem ab_w347 : (Jvm.Cond.arrayClass Jvm.ClassFile.FieldType.int) ∈ ab_wG := ab_in1 123 rfl rfl
theorem ab_w348 : (Jvm.Cond.fieldLink "BookBindery" (52 : Nat) "BookBindery" "weights" "[I") ∈ ab_wG := ab_in2 72 rfl rfl
theorem ab_w349 : (Jvm.Cond.methodLink "BookBinderyModel" (1 : Nat) ({ cls := "java/lang/Object", name := "<init>", desc := "()V" } : Jvm.MethodName)) ∈ ab_wG := ab_in7 31 rfl rfl
theorem ab_w350 : (Jvm.Cond.fieldLink "BookBinderyModel" (7 : Nat) "BookBinderyModel" "g" "[I") ∈ ab_wG := ab_in7 32 rfl rfl
theorem ab_w351 : (Jvm.Cond.fieldLink "BookBinderyModel" (13 : Nat) "BookBinderyModel" "kept" "[I") ∈ ab_wG := ab_in7 33 rfl rfl
theorem ab_w352 : (Jvm.Cond.fieldLink "BookBinderyModel" (16 : Nat) "BookBinderyModel" "saved" "[I") ∈ ab_wG := ab_in7 34 rfl rfl
theorem ab_w353 : (Jvm.Cond.fieldLink "BookBinderyModel" (19 : Nat) "BookBinderyModel" "before" "[I") ∈ ab_wG := ab_in7 35 rfl rfl
theorem ab_w354 : (Jvm.Cond.fieldLink "BookBinderyModel" (22 : Nat) "BookBinderyModel" "input" "[I") ∈ ab_wG := ab_in7 43 rfl rfl
theorem ab_w355 : (Jvm.Cond.fieldLink "BookBinderyModel" (25 : Nat) "BookBinderyModel" "fault" "I") ∈ ab_wG := ab_in7 45 rfl rfl
theorem ab_w356 : (Jvm.Cond.arrayClass Jvm.ClassFile.FieldType.char) ∈ ab_wG := ab_in2 30 rfl rfl
theorem ab_w357 : (Jvm.Cond.fieldLink "BookBinderyModel" (29 : Nat) "BookBinderyModel" "signs" "[C") ∈ ab_wG := ab_in7 46 rfl rfl
theorem ab_w358 : (Jvm.Cond.fieldLink "BookBinderyModel" (33 : Nat) "BookBinderyModel" "told" "[I") ∈ ab_wG := ab_in7 49 rfl rfl
theorem ab_w359 : (Jvm.Cond.methodLink "BookBinderyLaw" (145 : Nat) ({ cls := "BookBindery", name := "restore", desc := "()I" } : Jvm.MethodName)) ∈ ab_wG := ab_in7 18 rfl rfl
theorem ab_w360 : (Jvm.Cond.instanceMethod ({ cls := "BookBindery", name := "restore", desc := "()I" } : Jvm.MethodName)) ∈ ab_wG := ab_in7 19 rfl rfl
theorem ab_w361 : (Jvm.Cond.selects "BookBindery" ({ cls := "BookBindery", name := "restore", desc := "()I" } : Jvm.MethodName) ({ cls := "BookBindery", name := "restore", desc := "()I" } : Jvm.MethodName)) ∈ ab_wG := ab_in7 20 rfl rfl
theorem ab_w362 : (Jvm.Cond.code ({ cls := "BookBindery", name := "restore", desc := "()I" } : Jvm.MethodName) prog_1_method_42_code (1 : Nat) (Option.some Jvm.ClassFile.FieldType.int)) ∈ ab_wG := ab_in7 21 rfl rfl
theorem ab_w363 : (Jvm.Cond.fieldLink "BookBinderyModel" (249 : Nat) "BookBinderyModel" "isSaved" "Z") ∈ ab_wG := ab_in7 36 rfl rfl
theorem ab_w364 : (Jvm.Cond.methodLink "BookBinderyModel" (162 : Nat) ({ cls := "BookBinderyModel", name := "fails", desc := "(I)Z" } : Jvm.MethodName)) ∈ ab_wG := ab_in8 33 rfl rfl
theorem ab_w365 : (Jvm.Cond.instanceMethod ({ cls := "BookBinderyModel", name := "fails", desc := "(I)Z" } : Jvm.MethodName)) ∈ ab_wG := ab_in8 35 rfl rfl
theorem ab_w366 : (Jvm.Cond.selects "BookBinderyModel" ({ cls := "BookBinderyModel", name := "fails", desc := "(I)Z" } : Jvm.MethodName) ({ cls := "BookBinderyModel", name := "fails", desc := "(I)Z" } : Jvm.MethodName)) ∈ ab_wG := ab_inp4 0 rfl
theorem ab_w367 : (Jvm.Cond.code ({ cls := "BookBinderyModel", name := "fails", desc := "(I)Z" } : Jvm.MethodName) prog_9_method_3_code (2 : Nat) (Option.some Jvm.ClassFile.FieldType.boolean)) ∈ ab_wG := ab_in8 36 rfl rfl
theorem ab_w368 : (Jvm.Cond.methodLink "BookBinderyModel" (55 : Nat) ({ cls := "BookBinderyModel", name := "copies", desc := "([II[II)V" } : Jvm.MethodName)) ∈ ab_wG := ab_in7 109 rfl rfl
theorem ab_w369 : (Jvm.Cond.static ({ cls := "BookBinderyModel", name := "copies", desc := "([II[II)V" } : Jvm.MethodName)) ∈ ab_wG := ab_in7 110 rfl rfl
theorem ab_w370 : (Jvm.Cond.code ({ cls := "BookBinderyModel", name := "copies", desc := "([II[II)V" } : Jvm.MethodName) prog_9_method_7_code (5 : Nat) (Option.none : Option Jvm.ClassFile.FieldType)) ∈ ab_wG := ab_in7 111 rfl rfl
theorem ab_w371 : (Jvm.Cond.fieldLink "BookBinderyModel" (52 : Nat) "BookBinderyModel" "changes" "I") ∈ ab_wG := ab_in7 37 rfl rfl
theorem ab_w372 : (Jvm.Cond.fieldLink "BookBinderyModel" (36 : Nat) "BookBinderyModel" "code" "I") ∈ ab_wG := ab_in7 39 rfl rfl
theorem ab_w373 : (Jvm.Cond.methodLink "BookBindery" (326 : Nat) ({ cls := "BookBindery$Shop", name := "copyFrom", desc := "(LBookBindery$Shop;)V" } : Jvm.MethodName)) ∈ ab_wG := ab_in2 100 rfl rfl
theorem ab_w374 : (Jvm.Cond.instanceMethod ({ cls := "BookBindery$Shop", name := "copyFrom", desc := "(LBookBindery$Shop;)V" } : Jvm.MethodName)) ∈ ab_wG := ab_in2 101 rfl rfl
theorem ab_w375 : (Jvm.Cond.selects "BookBindery$Shop" ({ cls := "BookBindery$Shop", name := "copyFrom", desc := "(LBookBindery$Shop;)V" } : Jvm.MethodName) ({ cls := "BookBindery$Shop", name := "copyFrom", desc := "(LBookBindery$Shop;)V" } : Jvm.MethodName)) ∈ ab_wG := ab_in2 102 rfl rfl
theorem ab_w376 : (Jvm.Cond.code ({ cls := "BookBindery$Shop", name := "copyFrom", desc := "(LBookBindery$Shop;)V" } : Jvm.MethodName) prog_7_method_2_code (3 : Nat) (Option.none : Option Jvm.ClassFile.FieldType)) ∈ ab_wG := ab_in2 103 rfl rfl
theorem ab_w377 : (Jvm.Cond.fieldLink "BookBindery" (329 : Nat) "BookBindery" "hasSnapshot" "Z") ∈ ab_wG := ab_in2 68 rfl rfl
theorem ab_w378 : (Jvm.Cond.fieldLink "BookBindery" (229 : Nat) "BookBindery$Shop" "bookCount" "I") ∈ ab_wG := ab_in1 150 rfl rfl
theorem ab_w379 : (Jvm.Cond.methodLink "BookBinderyLaw" (142 : Nat) ({ cls := "BookBindery", name := "undo", desc := "()I" } : Jvm.MethodName)) ∈ ab_wG := ab_in7 7 rfl rfl
theorem ab_w380 : (Jvm.Cond.instanceMethod ({ cls := "BookBindery", name := "undo", desc := "()I" } : Jvm.MethodName)) ∈ ab_wG := ab_in7 8 rfl rfl
theorem ab_w381 : (Jvm.Cond.selects "BookBindery" ({ cls := "BookBindery", name := "undo", desc := "()I" } : Jvm.MethodName) ({ cls := "BookBindery", name := "undo", desc := "()I" } : Jvm.MethodName)) ∈ ab_wG := ab_in7 9 rfl rfl
theorem ab_w382 : (Jvm.Cond.code ({ cls := "BookBindery", name := "undo", desc := "()I" } : Jvm.MethodName) prog_1_method_40_code (1 : Nat) (Option.some Jvm.ClassFile.FieldType.int)) ∈ ab_wG := ab_in7 10 rfl rfl
theorem ab_w383 : (Jvm.Cond.methodLink "BookBinderyLaw" (139 : Nat) ({ cls := "BookBindery", name := "account", desc := "(I)I" } : Jvm.MethodName)) ∈ ab_wG := ab_in6 236 rfl rfl
theorem ab_w384 : (Jvm.Cond.instanceMethod ({ cls := "BookBindery", name := "account", desc := "(I)I" } : Jvm.MethodName)) ∈ ab_wG := ab_in6 237 rfl rfl
theorem ab_w385 : (Jvm.Cond.selects "BookBindery" ({ cls := "BookBindery", name := "account", desc := "(I)I" } : Jvm.MethodName) ({ cls := "BookBindery", name := "account", desc := "(I)I" } : Jvm.MethodName)) ∈ ab_wG := ab_in6 238 rfl rfl
theorem ab_w386 : (Jvm.Cond.code ({ cls := "BookBindery", name := "account", desc := "(I)I" } : Jvm.MethodName) prog_1_method_39_code (2 : Nat) (Option.some Jvm.ClassFile.FieldType.int)) ∈ ab_wG := ab_in6 239 rfl rfl
theorem ab_w387 : (Jvm.Cond.methodLink "BookBinderyModel" (59 : Nat) ({ cls := "BookBinderyModel", name := "in", desc := "(III)Z" } : Jvm.MethodName)) ∈ ab_wG := ab_in7 98 rfl rfl
theorem ab_w388 : (Jvm.Cond.static ({ cls := "BookBinderyModel", name := "in", desc := "(III)Z" } : Jvm.MethodName)) ∈ ab_wG := ab_in7 99 rfl rfl
theorem ab_w389 : (Jvm.Cond.code ({ cls := "BookBinderyModel", name := "in", desc := "(III)Z" } : Jvm.MethodName) prog_9_method_5_code (3 : Nat) (Option.some Jvm.ClassFile.FieldType.boolean)) ∈ ab_wG := ab_in7 100 rfl rfl
theorem ab_w390 : (Jvm.Cond.fieldLink "BookBinderyModel" (174 : Nat) "BookBinderyModel" "length" "I") ∈ ab_wG := ab_in7 44 rfl rfl
theorem ab_w391 : (Jvm.Cond.methodLink "BookBinderyModel" (243 : Nat) ({ cls := "BookBinderyModel", name := "sumOf", desc := "(I)I" } : Jvm.MethodName)) ∈ ab_wG := ab_in8 186 rfl rfl
theorem ab_w392 : (Jvm.Cond.instanceMethod ({ cls := "BookBinderyModel", name := "sumOf", desc := "(I)I" } : Jvm.MethodName)) ∈ ab_wG := ab_in8 188 rfl rfl
theorem ab_w393 : (Jvm.Cond.selects "BookBinderyModel" ({ cls := "BookBinderyModel", name := "sumOf", desc := "(I)I" } : Jvm.MethodName) ({ cls := "BookBinderyModel", name := "sumOf", desc := "(I)I" } : Jvm.MethodName)) ∈ ab_wG := ab_inp4 13 rfl
theorem ab_w394 : (Jvm.Cond.code ({ cls := "BookBinderyModel", name := "sumOf", desc := "(I)I" } : Jvm.MethodName) prog_9_method_84_code (4 : Nat) (Option.some Jvm.ClassFile.FieldType.int)) ∈ ab_wG := ab_in8 189 rfl rfl
theorem ab_w395 : (Jvm.Cond.methodLink "BookBinderyModel" (246 : Nat) ({ cls := "BookBinderyModel", name := "delivered", desc := "()I" } : Jvm.MethodName)) ∈ ab_wG := ab_in8 194 rfl rfl
theorem ab_w396 : (Jvm.Cond.instanceMethod ({ cls := "BookBinderyModel", name := "delivered", desc := "()I" } : Jvm.MethodName)) ∈ ab_wG := ab_in8 196 rfl rfl
theorem ab_w397 : (Jvm.Cond.selects "BookBinderyModel" ({ cls := "BookBinderyModel", name := "delivered", desc := "()I" } : Jvm.MethodName) ({ cls := "BookBinderyModel", name := "delivered", desc := "()I" } : Jvm.MethodName)) ∈ ab_wG := ab_inp4 14 rfl
theorem ab_w398 : (Jvm.Cond.code ({ cls := "BookBinderyModel", name := "delivered", desc := "()I" } : Jvm.MethodName) prog_9_method_86_code (3 : Nat) (Option.some Jvm.ClassFile.FieldType.int)) ∈ ab_wG := ab_in8 197 rfl rfl
theorem ab_w399 : (Jvm.Cond.methodLink "BookBinderyModel" (140 : Nat) ({ cls := "BookBinderyModel", name := "stacked", desc := "(I)I" } : Jvm.MethodName)) ∈ ab_wG := ab_in7 214 rfl rfl
theorem ab_w400 : (Jvm.Cond.instanceMethod ({ cls := "BookBinderyModel", name := "stacked", desc := "(I)I" } : Jvm.MethodName)) ∈ ab_wG := ab_in7 216 rfl rfl
theorem ab_w401 : (Jvm.Cond.selects "BookBinderyModel" ({ cls := "BookBinderyModel", name := "stacked", desc := "(I)I" } : Jvm.MethodName) ({ cls := "BookBinderyModel", name := "stacked", desc := "(I)I" } : Jvm.MethodName)) ∈ ab_wG := ab_inp3 7 rfl
theorem ab_w402 : (Jvm.Cond.code ({ cls := "BookBinderyModel", name := "stacked", desc := "(I)I" } : Jvm.MethodName) prog_9_method_40_code (2 : Nat) (Option.some Jvm.ClassFile.FieldType.int)) ∈ ab_wG := ab_in7 217 rfl rfl
theorem ab_w403 : (Jvm.Cond.methodLink "BookBinderyLaw" (135 : Nat) ({ cls := "BookBindery", name := "meanSignatures", desc := "()D" } : Jvm.MethodName)) ∈ ab_wG := ab_in6 225 rfl rfl
theorem ab_w404 : (Jvm.Cond.instanceMethod ({ cls := "BookBindery", name := "meanSignatures", desc := "()D" } : Jvm.MethodName)) ∈ ab_wG := ab_in6 226 rfl rfl
theorem ab_w405 : (Jvm.Cond.selects "BookBindery" ({ cls := "BookBindery", name := "meanSignatures", desc := "()D" } : Jvm.MethodName) ({ cls := "BookBindery", name := "meanSignatures", desc := "()D" } : Jvm.MethodName)) ∈ ab_wG := ab_in6 227 rfl rfl
theorem ab_w406 : (Jvm.Cond.code ({ cls := "BookBindery", name := "meanSignatures", desc := "()D" } : Jvm.MethodName) prog_1_method_38_code (1 : Nat) (Option.some Jvm.ClassFile.FieldType.double)) ∈ ab_wG := ab_in6 228 rfl rfl
theorem ab_w407 : (Jvm.Cond.methodLink "BookBinderyLaw" (129 : Nat) ({ cls := "BookBindery", name := "rightShare", desc := "(I)F" } : Jvm.MethodName)) ∈ ab_wG := ab_in6 213 rfl rfl
theorem ab_w408 : (Jvm.Cond.instanceMethod ({ cls := "BookBindery", name := "rightShare", desc := "(I)F" } : Jvm.MethodName)) ∈ ab_wG := ab_in6 214 rfl rfl
theorem ab_w409 : (Jvm.Cond.selects "BookBindery" ({ cls := "BookBindery", name := "rightShare", desc := "(I)F" } : Jvm.MethodName) ({ cls := "BookBindery", name := "rightShare", desc := "(I)F" } : Jvm.MethodName)) ∈ ab_wG := ab_in6 215 rfl rfl
theorem ab_w410 : (Jvm.Cond.code ({ cls := "BookBindery", name := "rightShare", desc := "(I)F" } : Jvm.MethodName) prog_1_method_37_code (4 : Nat) (Option.some Jvm.ClassFile.FieldType.float)) ∈ ab_wG := ab_in6 216 rfl rfl
theorem ab_w411 : (Jvm.Cond.methodLink "BookBinderyModel" (94 : Nat) ({ cls := "BookBinderyModel", name := "isBook", desc := "(I)Z" } : Jvm.MethodName)) ∈ ab_wG := ab_in7 128 rfl rfl
theorem ab_w412 : (Jvm.Cond.instanceMethod ({ cls := "BookBinderyModel", name := "isBook", desc := "(I)Z" } : Jvm.MethodName)) ∈ ab_wG := ab_in7 130 rfl rfl
theorem ab_w413 : (Jvm.Cond.selects "BookBinderyModel" ({ cls := "BookBinderyModel", name := "isBook", desc := "(I)Z" } : Jvm.MethodName) ({ cls := "BookBinderyModel", name := "isBook", desc := "(I)Z" } : Jvm.MethodName)) ∈ ab_wG := ab_inp2 10 rfl
theorem ab_w414 : (Jvm.Cond.code ({ cls := "BookBinderyModel", name := "isBook", desc := "(I)Z" } : Jvm.MethodName) prog_9_method_9_code (2 : Nat) (Option.some Jvm.ClassFile.FieldType.boolean)) ∈ ab_wG := ab_in7 131 rfl rfl
theorem ab_w415 : (Jvm.Cond.methodLink "BookBinderyModel" (80 : Nat) ({ cls := "BookBinderyModel", name := "positions", desc := "(I)I" } : Jvm.MethodName)) ∈ ab_wG := ab_in7 160 rfl rfl
theorem ab_w416 : (Jvm.Cond.instanceMethod ({ cls := "BookBinderyModel", name := "positions", desc := "(I)I" } : Jvm.MethodName)) ∈ ab_wG := ab_in7 162 rfl rfl
theorem ab_w417 : (Jvm.Cond.selects "BookBinderyModel" ({ cls := "BookBinderyModel", name := "positions", desc := "(I)I" } : Jvm.MethodName) ({ cls := "BookBinderyModel", name := "positions", desc := "(I)I" } : Jvm.MethodName)) ∈ ab_wG := ab_inp3 1 rfl
theorem ab_w418 : (Jvm.Cond.code ({ cls := "BookBinderyModel", name := "positions", desc := "(I)I" } : Jvm.MethodName) prog_9_method_17_code (2 : Nat) (Option.some Jvm.ClassFile.FieldType.int)) ∈ ab_wG := ab_in7 163 rfl rfl
theorem ab_w419 : (Jvm.Cond.methodLink "BookBinderyModel" (125 : Nat) ({ cls := "BookBinderyModel", name := "wrongOf", desc := "(I)I" } : Jvm.MethodName)) ∈ ab_wG := ab_in7 156 rfl rfl
theorem ab_w420 : (Jvm.Cond.instanceMethod ({ cls := "BookBinderyModel", name := "wrongOf", desc := "(I)I" } : Jvm.MethodName)) ∈ ab_wG := ab_in7 158 rfl rfl
theorem ab_w421 : (Jvm.Cond.selects "BookBinderyModel" ({ cls := "BookBinderyModel", name := "wrongOf", desc := "(I)I" } : Jvm.MethodName) ({ cls := "BookBinderyModel", name := "wrongOf", desc := "(I)I" } : Jvm.MethodName)) ∈ ab_wG := ab_inp3 0 rfl
theorem ab_w422 : (Jvm.Cond.code ({ cls := "BookBinderyModel", name := "wrongOf", desc := "(I)I" } : Jvm.MethodName) prog_9_method_20_code (5 : Nat) (Option.some Jvm.ClassFile.FieldType.int)) ∈ ab_wG := ab_in7 159 rfl rfl
theorem ab_w423 : (Jvm.Cond.methodLink "BookBinderyLaw" (125 : Nat) ({ cls := "BookBindery", name := "character", desc := "(I)C" } : Jvm.MethodName)) ∈ ab_wG := ab_in6 182 rfl rfl
theorem ab_w424 : (Jvm.Cond.instanceMethod ({ cls := "BookBindery", name := "character", desc := "(I)C" } : Jvm.MethodName)) ∈ ab_wG := ab_in6 183 rfl rfl
theorem ab_w425 : (Jvm.Cond.selects "BookBindery" ({ cls := "BookBindery", name := "character", desc := "(I)C" } : Jvm.MethodName) ({ cls := "BookBindery", name := "character", desc := "(I)C" } : Jvm.MethodName)) ∈ ab_wG := ab_in6 184 rfl rfl
theorem ab_w426 : (Jvm.Cond.code ({ cls := "BookBindery", name := "character", desc := "(I)C" } : Jvm.MethodName) prog_1_method_36_code (2 : Nat) (Option.some Jvm.ClassFile.FieldType.char)) ∈ ab_wG := ab_in6 185 rfl rfl
theorem ab_w427 : (Jvm.Cond.fieldLink "BookBinderyModel" (233 : Nat) "BookBinderyModel" "signMany" "I") ∈ ab_wG := ab_in7 47 rfl rfl
theorem ab_w428 : (Jvm.Cond.methodLink "BookBinderyLaw" (122 : Nat) ({ cls := "BookBindery", name := "line", desc := "(I)I" } : Jvm.MethodName)) ∈ ab_wG := ab_in5 168 rfl rfl
theorem ab_w429 : (Jvm.Cond.instanceMethod ({ cls := "BookBindery", name := "line", desc := "(I)I" } : Jvm.MethodName)) ∈ ab_wG := ab_in5 169 rfl rfl
theorem ab_w430 : (Jvm.Cond.selects "BookBindery" ({ cls := "BookBindery", name := "line", desc := "(I)I" } : Jvm.MethodName) ({ cls := "BookBindery", name := "line", desc := "(I)I" } : Jvm.MethodName)) ∈ ab_wG := ab_in5 170 rfl rfl
theorem ab_w431 : (Jvm.Cond.code ({ cls := "BookBindery", name := "line", desc := "(I)I" } : Jvm.MethodName) prog_1_method_35_code (4 : Nat) (Option.some Jvm.ClassFile.FieldType.int)) ∈ ab_wG := ab_in5 171 rfl rfl
theorem ab_w432 : (Jvm.Cond.methodLink "BookBinderyModel" (240 : Nat) ({ cls := "BookBinderyModel", name := "writesNumber", desc := "(I)V" } : Jvm.MethodName)) ∈ ab_wG := ab_in8 166 rfl rfl
theorem ab_w433 : (Jvm.Cond.instanceMethod ({ cls := "BookBinderyModel", name := "writesNumber", desc := "(I)V" } : Jvm.MethodName)) ∈ ab_wG := ab_in8 168 rfl rfl
theorem ab_w434 : (Jvm.Cond.selects "BookBinderyModel" ({ cls := "BookBinderyModel", name := "writesNumber", desc := "(I)V" } : Jvm.MethodName) ({ cls := "BookBinderyModel", name := "writesNumber", desc := "(I)V" } : Jvm.MethodName)) ∈ ab_wG := ab_inp4 11 rfl
theorem ab_w435 : (Jvm.Cond.code ({ cls := "BookBinderyModel", name := "writesNumber", desc := "(I)V" } : Jvm.MethodName) prog_9_method_80_code (2 : Nat) (Option.none : Option Jvm.ClassFile.FieldType)) ∈ ab_wG := ab_in8 169 rfl rfl
theorem ab_w436 : (Jvm.Cond.methodLink "BookBinderyModel" (236 : Nat) ({ cls := "BookBinderyModel", name := "writes", desc := "(I)V" } : Jvm.MethodName)) ∈ ab_wG := ab_in8 170 rfl rfl
theorem ab_w437 : (Jvm.Cond.instanceMethod ({ cls := "BookBinderyModel", name := "writes", desc := "(I)V" } : Jvm.MethodName)) ∈ ab_wG := ab_in8 172 rfl rfl
theorem ab_w438 : (Jvm.Cond.selects "BookBinderyModel" ({ cls := "BookBinderyModel", name := "writes", desc := "(I)V" } : Jvm.MethodName) ({ cls := "BookBinderyModel", name := "writes", desc := "(I)V" } : Jvm.MethodName)) ∈ ab_wG := ab_inp4 12 rfl
theorem ab_w439 : (Jvm.Cond.code ({ cls := "BookBinderyModel", name := "writes", desc := "(I)V" } : Jvm.MethodName) prog_9_method_79_code (2 : Nat) (Option.none : Option Jvm.ClassFile.FieldType)) ∈ ab_wG := ab_in8 173 rfl rfl
theorem ab_w440 : (Jvm.Cond.methodLink "BookBinderyModel" (63 : Nat) ({ cls := "BookBinderyModel", name := "of", desc := "(II)I" } : Jvm.MethodName)) ∈ ab_wG := ab_in7 132 rfl rfl
theorem ab_w441 : (Jvm.Cond.instanceMethod ({ cls := "BookBinderyModel", name := "of", desc := "(II)I" } : Jvm.MethodName)) ∈ ab_wG := ab_in7 134 rfl rfl
theorem ab_w442 : (Jvm.Cond.selects "BookBinderyModel" ({ cls := "BookBinderyModel", name := "of", desc := "(II)I" } : Jvm.MethodName) ({ cls := "BookBinderyModel", name := "of", desc := "(II)I" } : Jvm.MethodName)) ∈ ab_wG := ab_inp2 11 rfl
theorem ab_w443 : (Jvm.Cond.code ({ cls := "BookBinderyModel", name := "of", desc := "(II)I" } : Jvm.MethodName) prog_9_method_11_code (3 : Nat) (Option.some Jvm.ClassFile.FieldType.int)) ∈ ab_wG := ab_in7 135 rfl rfl
theorem ab_w444 : (Jvm.Cond.methodLink "BookBinderyModel" (67 : Nat) ({ cls := "BookBinderyModel", name := "sign", desc := "(III)I" } : Jvm.MethodName)) ∈ ab_wG := ab_in7 152 rfl rfl
theorem ab_w445 : (Jvm.Cond.instanceMethod ({ cls := "BookBinderyModel", name := "sign", desc := "(III)I" } : Jvm.MethodName)) ∈ ab_wG := ab_in7 154 rfl rfl
theorem ab_w446 : (Jvm.Cond.selects "BookBinderyModel" ({ cls := "BookBinderyModel", name := "sign", desc := "(III)I" } : Jvm.MethodName) ({ cls := "BookBinderyModel", name := "sign", desc := "(III)I" } : Jvm.MethodName)) ∈ ab_wG := ab_inp2 15 rfl
theorem ab_w447 : (Jvm.Cond.code ({ cls := "BookBinderyModel", name := "sign", desc := "(III)I" } : Jvm.MethodName) prog_9_method_14_code (4 : Nat) (Option.some Jvm.ClassFile.FieldType.int)) ∈ ab_wG := ab_in7 155 rfl rfl
theorem ab_w448 : (Jvm.Cond.methodLink "BookBinderyModel" (71 : Nat) ({ cls := "BookBinderyModel", name := "pagesIn", desc := "(II)I" } : Jvm.MethodName)) ∈ ab_wG := ab_in7 168 rfl rfl
theorem ab_w449 : (Jvm.Cond.instanceMethod ({ cls := "BookBinderyModel", name := "pagesIn", desc := "(II)I" } : Jvm.MethodName)) ∈ ab_wG := ab_in7 170 rfl rfl
theorem ab_w450 : (Jvm.Cond.selects "BookBinderyModel" ({ cls := "BookBinderyModel", name := "pagesIn", desc := "(II)I" } : Jvm.MethodName) ({ cls := "BookBinderyModel", name := "pagesIn", desc := "(II)I" } : Jvm.MethodName)) ∈ ab_wG := ab_inp3 3 rfl
theorem ab_w451 : (Jvm.Cond.code ({ cls := "BookBinderyModel", name := "pagesIn", desc := "(II)I" } : Jvm.MethodName) prog_9_method_15_code (3 : Nat) (Option.some Jvm.ClassFile.FieldType.int)) ∈ ab_wG := ab_in7 171 rfl rfl
theorem ab_w452 : (Jvm.Cond.methodLink "BookBinderyLaw" (119 : Nat) ({ cls := "BookBindery", name := "reason", desc := "(I)I" } : Jvm.MethodName)) ∈ ab_wG := ab_in5 161 rfl rfl
theorem ab_w453 : (Jvm.Cond.instanceMethod ({ cls := "BookBindery", name := "reason", desc := "(I)I" } : Jvm.MethodName)) ∈ ab_wG := ab_in5 162 rfl rfl
theorem ab_w454 : (Jvm.Cond.selects "BookBindery" ({ cls := "BookBindery", name := "reason", desc := "(I)I" } : Jvm.MethodName) ({ cls := "BookBindery", name := "reason", desc := "(I)I" } : Jvm.MethodName)) ∈ ab_wG := ab_in5 163 rfl rfl
theorem ab_w455 : (Jvm.Cond.code ({ cls := "BookBindery", name := "reason", desc := "(I)I" } : Jvm.MethodName) prog_1_method_34_code (2 : Nat) (Option.some Jvm.ClassFile.FieldType.int)) ∈ ab_wG := ab_in5 164 rfl rfl
theorem ab_w456 : (Jvm.Cond.fieldLink "BookBinderyModel" (39 : Nat) "BookBinderyModel" "why" "I") ∈ ab_wG := ab_in7 40 rfl rfl
theorem ab_w457 : (Jvm.Cond.fieldLink "BookBinderyModel" (42 : Nat) "BookBinderyModel" "detail" "I") ∈ ab_wG := ab_in7 41 rfl rfl
theorem ab_w458 : (Jvm.Cond.fieldLink "BookBinderyModel" (45 : Nat) "BookBinderyModel" "command" "I") ∈ ab_wG := ab_in7 42 rfl rfl
theorem ab_w459 : (Jvm.Cond.methodLink "BookBinderyLaw" (115 : Nat) ({ cls := "BookBindery", name := "commands", desc := "()I" } : Jvm.MethodName)) ∈ ab_wG := ab_in5 36 rfl rfl
theorem ab_w460 : (Jvm.Cond.instanceMethod ({ cls := "BookBindery", name := "commands", desc := "()I" } : Jvm.MethodName)) ∈ ab_wG := ab_in5 37 rfl rfl
theorem ab_w461 : (Jvm.Cond.selects "BookBindery" ({ cls := "BookBindery", name := "commands", desc := "()I" } : Jvm.MethodName) ({ cls := "BookBindery", name := "commands", desc := "()I" } : Jvm.MethodName)) ∈ ab_wG := ab_in5 38 rfl rfl
theorem ab_w462 : (Jvm.Cond.code ({ cls := "BookBindery", name := "commands", desc := "()I" } : Jvm.MethodName) prog_1_method_32_code (2 : Nat) (Option.some Jvm.ClassFile.FieldType.int)) ∈ ab_wG := ab_in5 39 rfl rfl
theorem ab_w463 : (Jvm.Cond.methodLink "BookBinderyModel" (227 : Nat) ({ cls := "BookBinderyModel", name := "isText", desc := "()Z" } : Jvm.MethodName)) ∈ ab_wG := ab_in8 117 rfl rfl
theorem ab_w464 : (Jvm.Cond.instanceMethod ({ cls := "BookBinderyModel", name := "isText", desc := "()Z" } : Jvm.MethodName)) ∈ ab_wG := ab_in8 119 rfl rfl
theorem ab_w465 : (Jvm.Cond.selects "BookBinderyModel" ({ cls := "BookBinderyModel", name := "isText", desc := "()Z" } : Jvm.MethodName) ({ cls := "BookBinderyModel", name := "isText", desc := "()Z" } : Jvm.MethodName)) ∈ ab_wG := ab_inp4 4 rfl
theorem ab_w466 : (Jvm.Cond.code ({ cls := "BookBinderyModel", name := "isText", desc := "()Z" } : Jvm.MethodName) prog_9_method_74_code (1 : Nat) (Option.some Jvm.ClassFile.FieldType.boolean)) ∈ ab_wG := ab_in8 120 rfl rfl
theorem ab_w467 : (Jvm.Cond.fieldLink "BookBinderyModel" (48 : Nat) "BookBinderyModel" "isWithin" "Z") ∈ ab_wG := ab_in7 38 rfl rfl
theorem ab_w468 : (Jvm.Cond.fieldLink "BookBinderyModel" (189 : Nat) "BookBinderyModel" "toldMany" "I") ∈ ab_wG := ab_in7 50 rfl rfl
theorem ab_w469 : (Jvm.Cond.methodLink "BookBinderyModel" (230 : Nat) ({ cls := "BookBinderyModel", name := "carries", desc := "(I)I" } : Jvm.MethodName)) ∈ ab_wG := ab_in8 141 rfl rfl
theorem ab_w470 : (Jvm.Cond.instanceMethod ({ cls := "BookBinderyModel", name := "carries", desc := "(I)I" } : Jvm.MethodName)) ∈ ab_wG := ab_in8 143 rfl rfl
theorem ab_w471 : (Jvm.Cond.selects "BookBinderyModel" ({ cls := "BookBinderyModel", name := "carries", desc := "(I)I" } : Jvm.MethodName) ({ cls := "BookBinderyModel", name := "carries", desc := "(I)I" } : Jvm.MethodName)) ∈ ab_wG := ab_inp4 10 rfl
theorem ab_w472 : (Jvm.Cond.code ({ cls := "BookBinderyModel", name := "carries", desc := "(I)I" } : Jvm.MethodName) prog_9_method_75_code (2 : Nat) (Option.some Jvm.ClassFile.FieldType.int)) ∈ ab_wG := ab_in8 144 rfl rfl
theorem ab_w473 : (Jvm.Cond.methodLink "BookBinderyModel" (104 : Nat) ({ cls := "BookBinderyModel", name := "keeps", desc := "([I)V" } : Jvm.MethodName)) ∈ ab_wG := ab_in7 105 rfl rfl
theorem ab_w474 : (Jvm.Cond.instanceMethod ({ cls := "BookBinderyModel", name := "keeps", desc := "([I)V" } : Jvm.MethodName)) ∈ ab_wG := ab_in7 107 rfl rfl
theorem ab_w475 : (Jvm.Cond.selects "BookBinderyModel" ({ cls := "BookBinderyModel", name := "keeps", desc := "([I)V" } : Jvm.MethodName) ({ cls := "BookBinderyModel", name := "keeps", desc := "([I)V" } : Jvm.MethodName)) ∈ ab_wG := ab_inp2 6 rfl
theorem ab_w476 : (Jvm.Cond.code ({ cls := "BookBinderyModel", name := "keeps", desc := "([I)V" } : Jvm.MethodName) prog_9_method_8_code (3 : Nat) (Option.none : Option Jvm.ClassFile.FieldType)) ∈ ab_wG := ab_in7 108 rfl rfl
theorem ab_w477 : (Jvm.Cond.fieldLink "BookBinderyModel" (177 : Nat) "BookBinderyModel" "read" "I") ∈ ab_wG := ab_in7 48 rfl rfl
theorem ab_w478 : (Jvm.Cond.methodLink "BookBinderyLaw" (109 : Nat) ({ cls := "BookBindery", name := "append", desc := "(C)I" } : Jvm.MethodName)) ∈ ab_wG := ab_in5 10 rfl rfl
theorem ab_w479 : (Jvm.Cond.instanceMethod ({ cls := "BookBindery", name := "append", desc := "(C)I" } : Jvm.MethodName)) ∈ ab_wG := ab_in5 11 rfl rfl
theorem ab_w480 : (Jvm.Cond.selects "BookBindery" ({ cls := "BookBindery", name := "append", desc := "(C)I" } : Jvm.MethodName) ({ cls := "BookBindery", name := "append", desc := "(C)I" } : Jvm.MethodName)) ∈ ab_wG := ab_in5 12 rfl rfl
theorem ab_w481 : (Jvm.Cond.code ({ cls := "BookBindery", name := "append", desc := "(C)I" } : Jvm.MethodName) prog_1_method_31_code (2 : Nat) (Option.some Jvm.ClassFile.FieldType.int)) ∈ ab_wG := ab_in5 13 rfl rfl
theorem ab_w482 : (Jvm.Cond.methodLink "BookBinderyLaw" (106 : Nat) ({ cls := "BookBindery", name := "ranked", desc := "(I)I" } : Jvm.MethodName)) ∈ ab_wG := ab_in4 232 rfl rfl
theorem ab_w483 : (Jvm.Cond.instanceMethod ({ cls := "BookBindery", name := "ranked", desc := "(I)I" } : Jvm.MethodName)) ∈ ab_wG := ab_in4 233 rfl rfl
theorem ab_w484 : (Jvm.Cond.selects "BookBindery" ({ cls := "BookBindery", name := "ranked", desc := "(I)I" } : Jvm.MethodName) ({ cls := "BookBindery", name := "ranked", desc := "(I)I" } : Jvm.MethodName)) ∈ ab_wG := ab_in4 234 rfl rfl
theorem ab_w485 : (Jvm.Cond.code ({ cls := "BookBindery", name := "ranked", desc := "(I)I" } : Jvm.MethodName) prog_1_method_30_code (3 : Nat) (Option.some Jvm.ClassFile.FieldType.int)) ∈ ab_wG := ab_in4 235 rfl rfl
theorem ab_w486 : (Jvm.Cond.methodLink "BookBinderyModel" (171 : Nat) ({ cls := "BookBinderyModel", name := "isAhead", desc := "(II)Z" } : Jvm.MethodName)) ∈ ab_wG := ab_in8 105 rfl rfl
theorem ab_w487 : (Jvm.Cond.instanceMethod ({ cls := "BookBinderyModel", name := "isAhead", desc := "(II)Z" } : Jvm.MethodName)) ∈ ab_wG := ab_in8 107 rfl rfl
theorem ab_w488 : (Jvm.Cond.selects "BookBinderyModel" ({ cls := "BookBinderyModel", name := "isAhead", desc := "(II)Z" } : Jvm.MethodName) ({ cls := "BookBinderyModel", name := "isAhead", desc := "(II)Z" } : Jvm.MethodName)) ∈ ab_wG := ab_inp4 3 rfl
theorem ab_w489 : (Jvm.Cond.code ({ cls := "BookBinderyModel", name := "isAhead", desc := "(II)Z" } : Jvm.MethodName) prog_9_method_66_code (3 : Nat) (Option.some Jvm.ClassFile.FieldType.boolean)) ∈ ab_wG := ab_in8 108 rfl rfl
theorem ab_w490 : (Jvm.Cond.methodLink "BookBinderyLaw" (103 : Nat) ({ cls := "BookBindery", name := "readyAgain", desc := "(I)I" } : Jvm.MethodName)) ∈ ab_wG := ab_in4 221 rfl rfl
theorem ab_w491 : (Jvm.Cond.instanceMethod ({ cls := "BookBindery", name := "readyAgain", desc := "(I)I" } : Jvm.MethodName)) ∈ ab_wG := ab_in4 222 rfl rfl
theorem ab_w492 : (Jvm.Cond.selects "BookBindery" ({ cls := "BookBindery", name := "readyAgain", desc := "(I)I" } : Jvm.MethodName) ({ cls := "BookBindery", name := "readyAgain", desc := "(I)I" } : Jvm.MethodName)) ∈ ab_wG := ab_in4 223 rfl rfl
theorem ab_w493 : (Jvm.Cond.code ({ cls := "BookBindery", name := "readyAgain", desc := "(I)I" } : Jvm.MethodName) prog_1_method_29_code (4 : Nat) (Option.some Jvm.ClassFile.FieldType.int)) ∈ ab_wG := ab_in4 224 rfl rfl
theorem ab_w494 : (Jvm.Cond.methodLink "BookBinderyModel" (137 : Nat) ({ cls := "BookBinderyModel", name := "isPress", desc := "(I)Z" } : Jvm.MethodName)) ∈ ab_wG := ab_in7 211 rfl rfl
theorem ab_w495 : (Jvm.Cond.static ({ cls := "BookBinderyModel", name := "isPress", desc := "(I)Z" } : Jvm.MethodName)) ∈ ab_wG := ab_in7 212 rfl rfl
theorem ab_w496 : (Jvm.Cond.code ({ cls := "BookBinderyModel", name := "isPress", desc := "(I)Z" } : Jvm.MethodName) prog_9_method_10_code (1 : Nat) (Option.some Jvm.ClassFile.FieldType.boolean)) ∈ ab_wG := ab_in7 213 rfl rfl
theorem ab_w497 : (Jvm.Cond.methodLink "BookBinderyModel" (143 : Nat) ({ cls := "BookBinderyModel", name := "inStack", desc := "(II)I" } : Jvm.MethodName)) ∈ ab_wG := ab_in7 222 rfl rfl
theorem ab_w498 : (Jvm.Cond.instanceMethod ({ cls := "BookBinderyModel", name := "inStack", desc := "(II)I" } : Jvm.MethodName)) ∈ ab_wG := ab_in7 224 rfl rfl
theorem ab_w499 : (Jvm.Cond.selects "BookBinderyModel" ({ cls := "BookBinderyModel", name := "inStack", desc := "(II)I" } : Jvm.MethodName) ({ cls := "BookBinderyModel", name := "inStack", desc := "(II)I" } : Jvm.MethodName)) ∈ ab_wG := ab_inp3 8 rfl
theorem ab_w500 : (Jvm.Cond.code ({ cls := "BookBinderyModel", name := "inStack", desc := "(II)I" } : Jvm.MethodName) prog_9_method_41_code (3 : Nat) (Option.some Jvm.ClassFile.FieldType.int)) ∈ ab_wG := ab_in7 225 rfl rfl
theorem ab_w501 : (Jvm.Cond.methodLink "BookBinderyLaw" (100 : Nat) ({ cls := "BookBindery", name := "readyIn", desc := "(I)I" } : Jvm.MethodName)) ∈ ab_wG := ab_in4 209 rfl rfl
theorem ab_w502 : (Jvm.Cond.instanceMethod ({ cls := "BookBindery", name := "readyIn", desc := "(I)I" } : Jvm.MethodName)) ∈ ab_wG := ab_in4 210 rfl rfl
theorem ab_w503 : (Jvm.Cond.selects "BookBindery" ({ cls := "BookBindery", name := "readyIn", desc := "(I)I" } : Jvm.MethodName) ({ cls := "BookBindery", name := "readyIn", desc := "(I)I" } : Jvm.MethodName)) ∈ ab_wG := ab_in4 211 rfl rfl
theorem ab_w504 : (Jvm.Cond.code ({ cls := "BookBindery", name := "readyIn", desc := "(I)I" } : Jvm.MethodName) prog_1_method_28_code (5 : Nat) (Option.some Jvm.ClassFile.FieldType.int)) ∈ ab_wG := ab_in4 212 rfl rfl
theorem ab_w505 : (Jvm.Cond.methodLink "BookBinderyModel" (146 : Nat) ({ cls := "BookBinderyModel", name := "needs", desc := "(I)I" } : Jvm.MethodName)) ∈ ab_wG := ab_in7 226 rfl rfl
theorem ab_w506 : (Jvm.Cond.instanceMethod ({ cls := "BookBinderyModel", name := "needs", desc := "(I)I" } : Jvm.MethodName)) ∈ ab_wG := ab_in7 228 rfl rfl
theorem ab_w507 : (Jvm.Cond.selects "BookBinderyModel" ({ cls := "BookBinderyModel", name := "needs", desc := "(I)I" } : Jvm.MethodName) ({ cls := "BookBinderyModel", name := "needs", desc := "(I)I" } : Jvm.MethodName)) ∈ ab_wG := ab_inp3 9 rfl
theorem ab_w508 : (Jvm.Cond.code ({ cls := "BookBinderyModel", name := "needs", desc := "(I)I" } : Jvm.MethodName) prog_9_method_38_code (2 : Nat) (Option.some Jvm.ClassFile.FieldType.int)) ∈ ab_wG := ab_in7 229 rfl rfl
theorem ab_w509 : (Jvm.Cond.methodLink "BookBinderyModel" (131 : Nat) ({ cls := "BookBinderyModel", name := "more", desc := "(II)I" } : Jvm.MethodName)) ∈ ab_wG := ab_in7 230 rfl rfl
theorem ab_w510 : (Jvm.Cond.static ({ cls := "BookBinderyModel", name := "more", desc := "(II)I" } : Jvm.MethodName)) ∈ ab_wG := ab_in7 231 rfl rfl
theorem ab_w511 : (Jvm.Cond.code ({ cls := "BookBinderyModel", name := "more", desc := "(II)I" } : Jvm.MethodName) prog_9_method_6_code (2 : Nat) (Option.some Jvm.ClassFile.FieldType.int)) ∈ ab_wG := ab_in7 232 rfl rfl
theorem ab_w512 : (Jvm.Cond.methodLink "BookBinderyLaw" (97 : Nat) ({ cls := "BookBindery", name := "inPress", desc := "(II)I" } : Jvm.MethodName)) ∈ ab_wG := ab_in4 197 rfl rfl
theorem ab_w513 : (Jvm.Cond.instanceMethod ({ cls := "BookBindery", name := "inPress", desc := "(II)I" } : Jvm.MethodName)) ∈ ab_wG := ab_in4 198 rfl rfl
theorem ab_w514 : (Jvm.Cond.selects "BookBindery" ({ cls := "BookBindery", name := "inPress", desc := "(II)I" } : Jvm.MethodName) ({ cls := "BookBindery", name := "inPress", desc := "(II)I" } : Jvm.MethodName)) ∈ ab_wG := ab_in4 199 rfl rfl
theorem ab_w515 : (Jvm.Cond.code ({ cls := "BookBindery", name := "inPress", desc := "(II)I" } : Jvm.MethodName) prog_1_method_27_code (4 : Nat) (Option.some Jvm.ClassFile.FieldType.int)) ∈ ab_wG := ab_in4 200 rfl rfl
theorem ab_w516 : (Jvm.Cond.methodLink "BookBinderyLaw" (93 : Nat) ({ cls := "BookBindery", name := "hasSlip", desc := "(II)Z" } : Jvm.MethodName)) ∈ ab_wG := ab_in4 189 rfl rfl
theorem ab_w517 : (Jvm.Cond.instanceMethod ({ cls := "BookBindery", name := "hasSlip", desc := "(II)Z" } : Jvm.MethodName)) ∈ ab_wG := ab_in4 190 rfl rfl
theorem ab_w518 : (Jvm.Cond.selects "BookBindery" ({ cls := "BookBindery", name := "hasSlip", desc := "(II)Z" } : Jvm.MethodName) ({ cls := "BookBindery", name := "hasSlip", desc := "(II)Z" } : Jvm.MethodName)) ∈ ab_wG := ab_in4 191 rfl rfl
theorem ab_w519 : (Jvm.Cond.code ({ cls := "BookBindery", name := "hasSlip", desc := "(II)Z" } : Jvm.MethodName) prog_1_method_26_code (3 : Nat) (Option.some Jvm.ClassFile.FieldType.boolean)) ∈ ab_wG := ab_in4 192 rfl rfl
theorem ab_w520 : (Jvm.Cond.methodLink "BookBinderyModel" (165 : Nat) ({ cls := "BookBinderyModel", name := "isPosition", desc := "(II)Z" } : Jvm.MethodName)) ∈ ab_wG := ab_in8 45 rfl rfl
theorem ab_w521 : (Jvm.Cond.instanceMethod ({ cls := "BookBinderyModel", name := "isPosition", desc := "(II)Z" } : Jvm.MethodName)) ∈ ab_wG := ab_in8 47 rfl rfl
theorem ab_w522 : (Jvm.Cond.selects "BookBinderyModel" ({ cls := "BookBinderyModel", name := "isPosition", desc := "(II)Z" } : Jvm.MethodName) ({ cls := "BookBinderyModel", name := "isPosition", desc := "(II)Z" } : Jvm.MethodName)) ∈ ab_wG := ab_inp4 1 rfl
theorem ab_w523 : (Jvm.Cond.code ({ cls := "BookBinderyModel", name := "isPosition", desc := "(II)Z" } : Jvm.MethodName) prog_9_method_51_code (3 : Nat) (Option.some Jvm.ClassFile.FieldType.boolean)) ∈ ab_wG := ab_in8 48 rfl rfl
theorem ab_w524 : (Jvm.Cond.methodLink "BookBinderyModel" (91 : Nat) ({ cls := "BookBinderyModel", name := "isSlipped", desc := "(II)Z" } : Jvm.MethodName)) ∈ ab_wG := ab_in7 237 rfl rfl
theorem ab_w525 : (Jvm.Cond.instanceMethod ({ cls := "BookBinderyModel", name := "isSlipped", desc := "(II)Z" } : Jvm.MethodName)) ∈ ab_wG := ab_in7 239 rfl rfl
theorem ab_w526 : (Jvm.Cond.selects "BookBinderyModel" ({ cls := "BookBinderyModel", name := "isSlipped", desc := "(II)Z" } : Jvm.MethodName) ({ cls := "BookBinderyModel", name := "isSlipped", desc := "(II)Z" } : Jvm.MethodName)) ∈ ab_wG := ab_inp3 10 rfl
theorem ab_w527 : (Jvm.Cond.code ({ cls := "BookBinderyModel", name := "isSlipped", desc := "(II)Z" } : Jvm.MethodName) prog_9_method_23_code (3 : Nat) (Option.some Jvm.ClassFile.FieldType.boolean)) ∈ ab_wG := ab_in8 0 rfl rfl
theorem ab_w528 : (Jvm.Cond.methodLink "BookBinderyLaw" (90 : Nat) ({ cls := "BookBindery", name := "threadFor", desc := "(I)I" } : Jvm.MethodName)) ∈ ab_wG := ab_in4 177 rfl rfl
theorem ab_w529 : (Jvm.Cond.instanceMethod ({ cls := "BookBindery", name := "threadFor", desc := "(I)I" } : Jvm.MethodName)) ∈ ab_wG := ab_in4 178 rfl rfl
theorem ab_w530 : (Jvm.Cond.selects "BookBindery" ({ cls := "BookBindery", name := "threadFor", desc := "(I)I" } : Jvm.MethodName) ({ cls := "BookBindery", name := "threadFor", desc := "(I)I" } : Jvm.MethodName)) ∈ ab_wG := ab_in4 179 rfl rfl
theorem ab_w531 : (Jvm.Cond.code ({ cls := "BookBindery", name := "threadFor", desc := "(I)I" } : Jvm.MethodName) prog_1_method_25_code (2 : Nat) (Option.some Jvm.ClassFile.FieldType.int)) ∈ ab_wG := ab_in4 180 rfl rfl
theorem ab_w532 : (Jvm.Cond.methodLink "BookBinderyModel" (128 : Nat) ({ cls := "BookBinderyModel", name := "threadOf", desc := "(II)I" } : Jvm.MethodName)) ∈ ab_wG := ab_in7 192 rfl rfl
theorem ab_w533 : (Jvm.Cond.instanceMethod ({ cls := "BookBinderyModel", name := "threadOf", desc := "(II)I" } : Jvm.MethodName)) ∈ ab_wG := ab_in7 194 rfl rfl
theorem ab_w534 : (Jvm.Cond.selects "BookBinderyModel" ({ cls := "BookBinderyModel", name := "threadOf", desc := "(II)I" } : Jvm.MethodName) ({ cls := "BookBinderyModel", name := "threadOf", desc := "(II)I" } : Jvm.MethodName)) ∈ ab_wG := ab_inp3 6 rfl
theorem ab_w535 : (Jvm.Cond.code ({ cls := "BookBinderyModel", name := "threadOf", desc := "(II)I" } : Jvm.MethodName) prog_9_method_34_code (3 : Nat) (Option.some Jvm.ClassFile.FieldType.int)) ∈ ab_wG := ab_in7 195 rfl rfl
theorem ab_w536 : (Jvm.Cond.methodLink "BookBinderyLaw" (87 : Nat) ({ cls := "BookBindery", name := "rightPlace", desc := "(II)I" } : Jvm.MethodName)) ∈ ab_wG := ab_in4 166 rfl rfl
theorem ab_w537 : (Jvm.Cond.instanceMethod ({ cls := "BookBindery", name := "rightPlace", desc := "(II)I" } : Jvm.MethodName)) ∈ ab_wG := ab_in4 167 rfl rfl
theorem ab_w538 : (Jvm.Cond.selects "BookBindery" ({ cls := "BookBindery", name := "rightPlace", desc := "(II)I" } : Jvm.MethodName) ({ cls := "BookBindery", name := "rightPlace", desc := "(II)I" } : Jvm.MethodName)) ∈ ab_wG := ab_in4 168 rfl rfl
theorem ab_w539 : (Jvm.Cond.code ({ cls := "BookBindery", name := "rightPlace", desc := "(II)I" } : Jvm.MethodName) prog_1_method_24_code (3 : Nat) (Option.some Jvm.ClassFile.FieldType.int)) ∈ ab_wG := ab_in4 169 rfl rfl
theorem ab_w540 : (Jvm.Cond.methodLink "BookBinderyModel" (119 : Nat) ({ cls := "BookBinderyModel", name := "isPlace", desc := "(II)Z" } : Jvm.MethodName)) ∈ ab_wG := ab_in7 144 rfl rfl
theorem ab_w541 : (Jvm.Cond.instanceMethod ({ cls := "BookBinderyModel", name := "isPlace", desc := "(II)Z" } : Jvm.MethodName)) ∈ ab_wG := ab_in7 146 rfl rfl
theorem ab_w542 : (Jvm.Cond.selects "BookBinderyModel" ({ cls := "BookBinderyModel", name := "isPlace", desc := "(II)Z" } : Jvm.MethodName) ({ cls := "BookBinderyModel", name := "isPlace", desc := "(II)Z" } : Jvm.MethodName)) ∈ ab_wG := ab_inp2 13 rfl
theorem ab_w543 : (Jvm.Cond.code ({ cls := "BookBinderyModel", name := "isPlace", desc := "(II)Z" } : Jvm.MethodName) prog_9_method_13_code (3 : Nat) (Option.some Jvm.ClassFile.FieldType.boolean)) ∈ ab_wG := ab_in7 147 rfl rfl
theorem ab_w544 : (Jvm.Cond.methodLink "BookBinderyLaw" (84 : Nat) ({ cls := "BookBindery", name := "twice", desc := "(I)I" } : Jvm.MethodName)) ∈ ab_wG := ab_in4 155 rfl rfl
theorem ab_w545 : (Jvm.Cond.instanceMethod ({ cls := "BookBindery", name := "twice", desc := "(I)I" } : Jvm.MethodName)) ∈ ab_wG := ab_in4 156 rfl rfl
theorem ab_w546 : (Jvm.Cond.selects "BookBindery" ({ cls := "BookBindery", name := "twice", desc := "(I)I" } : Jvm.MethodName) ({ cls := "BookBindery", name := "twice", desc := "(I)I" } : Jvm.MethodName)) ∈ ab_wG := ab_in4 157 rfl rfl
theorem ab_w547 : (Jvm.Cond.code ({ cls := "BookBindery", name := "twice", desc := "(I)I" } : Jvm.MethodName) prog_1_method_23_code (2 : Nat) (Option.some Jvm.ClassFile.FieldType.int)) ∈ ab_wG := ab_in4 158 rfl rfl
theorem ab_w548 : (Jvm.Cond.methodLink "BookBinderyModel" (88 : Nat) ({ cls := "BookBinderyModel", name := "comings", desc := "(II)I" } : Jvm.MethodName)) ∈ ab_wG := ab_in8 17 rfl rfl
theorem ab_w549 : (Jvm.Cond.instanceMethod ({ cls := "BookBinderyModel", name := "comings", desc := "(II)I" } : Jvm.MethodName)) ∈ ab_wG := ab_in8 19 rfl rfl
theorem ab_w550 : (Jvm.Cond.selects "BookBinderyModel" ({ cls := "BookBinderyModel", name := "comings", desc := "(II)I" } : Jvm.MethodName) ({ cls := "BookBinderyModel", name := "comings", desc := "(II)I" } : Jvm.MethodName)) ∈ ab_wG := ab_inp3 14 rfl
theorem ab_w551 : (Jvm.Cond.code ({ cls := "BookBinderyModel", name := "comings", desc := "(II)I" } : Jvm.MethodName) prog_9_method_21_code (5 : Nat) (Option.some Jvm.ClassFile.FieldType.int)) ∈ ab_wG := ab_in8 20 rfl rfl
theorem ab_w552 : (Jvm.Cond.methodLink "BookBinderyLaw" (81 : Nat) ({ cls := "BookBindery", name := "missingPage", desc := "(II)I" } : Jvm.MethodName)) ∈ ab_wG := ab_in4 144 rfl rfl
theorem ab_w553 : (Jvm.Cond.instanceMethod ({ cls := "BookBindery", name := "missingPage", desc := "(II)I" } : Jvm.MethodName)) ∈ ab_wG := ab_in4 145 rfl rfl
theorem ab_w554 : (Jvm.Cond.selects "BookBindery" ({ cls := "BookBindery", name := "missingPage", desc := "(II)I" } : Jvm.MethodName) ({ cls := "BookBindery", name := "missingPage", desc := "(II)I" } : Jvm.MethodName)) ∈ ab_wG := ab_in4 146 rfl rfl
theorem ab_w555 : (Jvm.Cond.code ({ cls := "BookBindery", name := "missingPage", desc := "(II)I" } : Jvm.MethodName) prog_1_method_22_code (4 : Nat) (Option.some Jvm.ClassFile.FieldType.int)) ∈ ab_wG := ab_in4 147 rfl rfl
theorem ab_w556 : (Jvm.Cond.methodLink "BookBinderyLaw" (78 : Nat) ({ cls := "BookBindery", name := "missing", desc := "(I)I" } : Jvm.MethodName)) ∈ ab_wG := ab_in4 136 rfl rfl
theorem ab_w557 : (Jvm.Cond.instanceMethod ({ cls := "BookBindery", name := "missing", desc := "(I)I" } : Jvm.MethodName)) ∈ ab_wG := ab_in4 137 rfl rfl
theorem ab_w558 : (Jvm.Cond.selects "BookBindery" ({ cls := "BookBindery", name := "missing", desc := "(I)I" } : Jvm.MethodName) ({ cls := "BookBindery", name := "missing", desc := "(I)I" } : Jvm.MethodName)) ∈ ab_wG := ab_in4 138 rfl rfl
theorem ab_w559 : (Jvm.Cond.code ({ cls := "BookBindery", name := "missing", desc := "(I)I" } : Jvm.MethodName) prog_1_method_21_code (2 : Nat) (Option.some Jvm.ClassFile.FieldType.int)) ∈ ab_wG := ab_in4 139 rfl rfl
theorem ab_w560 : (Jvm.Cond.methodLink "BookBinderyModel" (155 : Nat) ({ cls := "BookBinderyModel", name := "missingOf", desc := "(I)I" } : Jvm.MethodName)) ∈ ab_wG := ab_in8 13 rfl rfl
theorem ab_w561 : (Jvm.Cond.instanceMethod ({ cls := "BookBinderyModel", name := "missingOf", desc := "(I)I" } : Jvm.MethodName)) ∈ ab_wG := ab_in8 15 rfl rfl
theorem ab_w562 : (Jvm.Cond.selects "BookBinderyModel" ({ cls := "BookBinderyModel", name := "missingOf", desc := "(I)I" } : Jvm.MethodName) ({ cls := "BookBinderyModel", name := "missingOf", desc := "(I)I" } : Jvm.MethodName)) ∈ ab_wG := ab_inp3 13 rfl
theorem ab_w563 : (Jvm.Cond.code ({ cls := "BookBinderyModel", name := "missingOf", desc := "(I)I" } : Jvm.MethodName) prog_9_method_22_code (4 : Nat) (Option.some Jvm.ClassFile.FieldType.int)) ∈ ab_wG := ab_in8 16 rfl rfl
theorem ab_w564 : (Jvm.Cond.methodLink "BookBinderyLaw" (73 : Nat) ({ cls := "BookBindery", name := "firstWrong", desc := "(I)I" } : Jvm.MethodName)) ∈ ab_wG := ab_in4 113 rfl rfl
theorem ab_w565 : (Jvm.Cond.instanceMethod ({ cls := "BookBindery", name := "firstWrong", desc := "(I)I" } : Jvm.MethodName)) ∈ ab_wG := ab_in4 114 rfl rfl
theorem ab_w566 : (Jvm.Cond.selects "BookBindery" ({ cls := "BookBindery", name := "firstWrong", desc := "(I)I" } : Jvm.MethodName) ({ cls := "BookBindery", name := "firstWrong", desc := "(I)I" } : Jvm.MethodName)) ∈ ab_wG := ab_in4 115 rfl rfl
theorem ab_w567 : (Jvm.Cond.code ({ cls := "BookBindery", name := "firstWrong", desc := "(I)I" } : Jvm.MethodName) prog_1_method_20_code (3 : Nat) (Option.some Jvm.ClassFile.FieldType.int)) ∈ ab_wG := ab_in4 116 rfl rfl
theorem ab_w568 : (Jvm.Cond.methodLink "BookBinderyModel" (84 : Nat) ({ cls := "BookBinderyModel", name := "isRight", desc := "(II)Z" } : Jvm.MethodName)) ∈ ab_wG := ab_in7 172 rfl rfl
theorem ab_w569 : (Jvm.Cond.instanceMethod ({ cls := "BookBinderyModel", name := "isRight", desc := "(II)Z" } : Jvm.MethodName)) ∈ ab_wG := ab_in7 174 rfl rfl
theorem ab_w570 : (Jvm.Cond.selects "BookBinderyModel" ({ cls := "BookBinderyModel", name := "isRight", desc := "(II)Z" } : Jvm.MethodName) ({ cls := "BookBinderyModel", name := "isRight", desc := "(II)Z" } : Jvm.MethodName)) ∈ ab_wG := ab_inp3 4 rfl
theorem ab_w571 : (Jvm.Cond.code ({ cls := "BookBinderyModel", name := "isRight", desc := "(II)Z" } : Jvm.MethodName) prog_9_method_19_code (3 : Nat) (Option.some Jvm.ClassFile.FieldType.boolean)) ∈ ab_wG := ab_in7 175 rfl rfl
theorem ab_w572 : (Jvm.Cond.methodLink "BookBinderyLaw" (70 : Nat) ({ cls := "BookBindery", name := "wrongAgain", desc := "(I)I" } : Jvm.MethodName)) ∈ ab_wG := ab_in4 89 rfl rfl
theorem ab_w573 : (Jvm.Cond.instanceMethod ({ cls := "BookBindery", name := "wrongAgain", desc := "(I)I" } : Jvm.MethodName)) ∈ ab_wG := ab_in4 90 rfl rfl
theorem ab_w574 : (Jvm.Cond.selects "BookBindery" ({ cls := "BookBindery", name := "wrongAgain", desc := "(I)I" } : Jvm.MethodName) ({ cls := "BookBindery", name := "wrongAgain", desc := "(I)I" } : Jvm.MethodName)) ∈ ab_wG := ab_in4 91 rfl rfl
theorem ab_w575 : (Jvm.Cond.code ({ cls := "BookBindery", name := "wrongAgain", desc := "(I)I" } : Jvm.MethodName) prog_1_method_19_code (2 : Nat) (Option.some Jvm.ClassFile.FieldType.int)) ∈ ab_wG := ab_in4 92 rfl rfl
theorem ab_w576 : (Jvm.Cond.methodLink "BookBinderyModel" (168 : Nat) ({ cls := "BookBinderyModel", name := "rightIn", desc := "(II)I" } : Jvm.MethodName)) ∈ ab_wG := ab_in8 57 rfl rfl
theorem ab_w577 : (Jvm.Cond.instanceMethod ({ cls := "BookBinderyModel", name := "rightIn", desc := "(II)I" } : Jvm.MethodName)) ∈ ab_wG := ab_in8 59 rfl rfl
theorem ab_w578 : (Jvm.Cond.selects "BookBinderyModel" ({ cls := "BookBinderyModel", name := "rightIn", desc := "(II)I" } : Jvm.MethodName) ({ cls := "BookBinderyModel", name := "rightIn", desc := "(II)I" } : Jvm.MethodName)) ∈ ab_wG := ab_inp4 2 rfl
theorem ab_w579 : (Jvm.Cond.code ({ cls := "BookBinderyModel", name := "rightIn", desc := "(II)I" } : Jvm.MethodName) prog_9_method_54_code (8 : Nat) (Option.some Jvm.ClassFile.FieldType.int)) ∈ ab_wG := ab_in8 60 rfl rfl
theorem ab_w580 : (Jvm.Cond.methodLink "BookBinderyLaw" (67 : Nat) ({ cls := "BookBindery", name := "wrong", desc := "(I)I" } : Jvm.MethodName)) ∈ ab_wG := ab_in4 81 rfl rfl
theorem ab_w581 : (Jvm.Cond.instanceMethod ({ cls := "BookBindery", name := "wrong", desc := "(I)I" } : Jvm.MethodName)) ∈ ab_wG := ab_in4 82 rfl rfl
theorem ab_w582 : (Jvm.Cond.selects "BookBindery" ({ cls := "BookBindery", name := "wrong", desc := "(I)I" } : Jvm.MethodName) ({ cls := "BookBindery", name := "wrong", desc := "(I)I" } : Jvm.MethodName)) ∈ ab_wG := ab_in4 83 rfl rfl
theorem ab_w583 : (Jvm.Cond.code ({ cls := "BookBindery", name := "wrong", desc := "(I)I" } : Jvm.MethodName) prog_1_method_18_code (2 : Nat) (Option.some Jvm.ClassFile.FieldType.int)) ∈ ab_wG := ab_in4 84 rfl rfl
theorem ab_w584 : (Jvm.Cond.methodLink "BookBinderyLaw" (64 : Nat) ({ cls := "BookBindery", name := "pageAt", desc := "(II)I" } : Jvm.MethodName)) ∈ ab_wG := ab_in4 65 rfl rfl
theorem ab_w585 : (Jvm.Cond.instanceMethod ({ cls := "BookBindery", name := "pageAt", desc := "(II)I" } : Jvm.MethodName)) ∈ ab_wG := ab_in4 66 rfl rfl
theorem ab_w586 : (Jvm.Cond.selects "BookBindery" ({ cls := "BookBindery", name := "pageAt", desc := "(II)I" } : Jvm.MethodName) ({ cls := "BookBindery", name := "pageAt", desc := "(II)I" } : Jvm.MethodName)) ∈ ab_wG := ab_in4 67 rfl rfl
theorem ab_w587 : (Jvm.Cond.code ({ cls := "BookBindery", name := "pageAt", desc := "(II)I" } : Jvm.MethodName) prog_1_method_17_code (3 : Nat) (Option.some Jvm.ClassFile.FieldType.int)) ∈ ab_wG := ab_in4 68 rfl rfl
theorem ab_w588 : (Jvm.Cond.methodLink "BookBinderyModel" (77 : Nat) ({ cls := "BookBinderyModel", name := "page", desc := "(II)I" } : Jvm.MethodName)) ∈ ab_wG := ab_in7 176 rfl rfl
theorem ab_w589 : (Jvm.Cond.instanceMethod ({ cls := "BookBinderyModel", name := "page", desc := "(II)I" } : Jvm.MethodName)) ∈ ab_wG := ab_in7 178 rfl rfl
theorem ab_w590 : (Jvm.Cond.selects "BookBinderyModel" ({ cls := "BookBinderyModel", name := "page", desc := "(II)I" } : Jvm.MethodName) ({ cls := "BookBinderyModel", name := "page", desc := "(II)I" } : Jvm.MethodName)) ∈ ab_wG := ab_inp3 5 rfl
theorem ab_w591 : (Jvm.Cond.code ({ cls := "BookBinderyModel", name := "page", desc := "(II)I" } : Jvm.MethodName) prog_9_method_18_code (5 : Nat) (Option.some Jvm.ClassFile.FieldType.int)) ∈ ab_wG := ab_in7 179 rfl rfl
theorem ab_w592 : (Jvm.Cond.methodLink "BookBinderyLaw" (61 : Nat) ({ cls := "BookBindery", name := "signatureOf", desc := "(III)I" } : Jvm.MethodName)) ∈ ab_wG := ab_in4 52 rfl rfl
theorem ab_w593 : (Jvm.Cond.instanceMethod ({ cls := "BookBindery", name := "signatureOf", desc := "(III)I" } : Jvm.MethodName)) ∈ ab_wG := ab_in4 53 rfl rfl
theorem ab_w594 : (Jvm.Cond.selects "BookBindery" ({ cls := "BookBindery", name := "signatureOf", desc := "(III)I" } : Jvm.MethodName) ({ cls := "BookBindery", name := "signatureOf", desc := "(III)I" } : Jvm.MethodName)) ∈ ab_wG := ab_in4 54 rfl rfl
theorem ab_w595 : (Jvm.Cond.code ({ cls := "BookBindery", name := "signatureOf", desc := "(III)I" } : Jvm.MethodName) prog_1_method_16_code (5 : Nat) (Option.some Jvm.ClassFile.FieldType.int)) ∈ ab_wG := ab_in4 55 rfl rfl
theorem ab_w596 : (Jvm.Cond.methodLink "BookBinderyModel" (74 : Nat) ({ cls := "BookBinderyModel", name := "beginOf", desc := "(II)I" } : Jvm.MethodName)) ∈ ab_wG := ab_in7 164 rfl rfl
theorem ab_w597 : (Jvm.Cond.instanceMethod ({ cls := "BookBinderyModel", name := "beginOf", desc := "(II)I" } : Jvm.MethodName)) ∈ ab_wG := ab_in7 166 rfl rfl
theorem ab_w598 : (Jvm.Cond.selects "BookBinderyModel" ({ cls := "BookBinderyModel", name := "beginOf", desc := "(II)I" } : Jvm.MethodName) ({ cls := "BookBinderyModel", name := "beginOf", desc := "(II)I" } : Jvm.MethodName)) ∈ ab_wG := ab_inp3 2 rfl
theorem ab_w599 : (Jvm.Cond.code ({ cls := "BookBinderyModel", name := "beginOf", desc := "(II)I" } : Jvm.MethodName) prog_9_method_16_code (5 : Nat) (Option.some Jvm.ClassFile.FieldType.int)) ∈ ab_wG := ab_in7 167 rfl rfl
theorem ab_w600 : (Jvm.Cond.methodLink "BookBinderyLaw" (54 : Nat) ({ cls := "BookBindery", name := "bookOf", desc := "(II)I" } : Jvm.MethodName)) ∈ ab_wG := ab_in4 9 rfl rfl
theorem ab_w601 : (Jvm.Cond.instanceMethod ({ cls := "BookBindery", name := "bookOf", desc := "(II)I" } : Jvm.MethodName)) ∈ ab_wG := ab_in4 10 rfl rfl
theorem ab_w602 : (Jvm.Cond.selects "BookBindery" ({ cls := "BookBindery", name := "bookOf", desc := "(II)I" } : Jvm.MethodName) ({ cls := "BookBindery", name := "bookOf", desc := "(II)I" } : Jvm.MethodName)) ∈ ab_wG := ab_in4 11 rfl rfl
theorem ab_w603 : (Jvm.Cond.code ({ cls := "BookBindery", name := "bookOf", desc := "(II)I" } : Jvm.MethodName) prog_1_method_15_code (4 : Nat) (Option.some Jvm.ClassFile.FieldType.int)) ∈ ab_wG := ab_in4 12 rfl rfl
theorem ab_w604 : (Jvm.Cond.methodLink "BookBinderyModel" (149 : Nat) ({ cls := "BookBinderyModel", name := "slipsOf", desc := "(I)I" } : Jvm.MethodName)) ∈ ab_wG := ab_in8 1 rfl rfl
theorem ab_w605 : (Jvm.Cond.instanceMethod ({ cls := "BookBinderyModel", name := "slipsOf", desc := "(I)I" } : Jvm.MethodName)) ∈ ab_wG := ab_in8 3 rfl rfl
theorem ab_w606 : (Jvm.Cond.selects "BookBinderyModel" ({ cls := "BookBinderyModel", name := "slipsOf", desc := "(I)I" } : Jvm.MethodName) ({ cls := "BookBinderyModel", name := "slipsOf", desc := "(I)I" } : Jvm.MethodName)) ∈ ab_wG := ab_inp3 11 rfl
theorem ab_w607 : (Jvm.Cond.code ({ cls := "BookBinderyModel", name := "slipsOf", desc := "(I)I" } : Jvm.MethodName) prog_9_method_24_code (4 : Nat) (Option.some Jvm.ClassFile.FieldType.int)) ∈ ab_wG := ab_in8 4 rfl rfl
theorem ab_w608 : (Jvm.Cond.methodLink "BookBinderyLaw" (51 : Nat) ({ cls := "BookBindery", name := "pass", desc := "(I)I" } : Jvm.MethodName)) ∈ ab_wG := ab_in3 197 rfl rfl
theorem ab_w609 : (Jvm.Cond.instanceMethod ({ cls := "BookBindery", name := "pass", desc := "(I)I" } : Jvm.MethodName)) ∈ ab_wG := ab_in3 198 rfl rfl
theorem ab_w610 : (Jvm.Cond.selects "BookBindery" ({ cls := "BookBindery", name := "pass", desc := "(I)I" } : Jvm.MethodName) ({ cls := "BookBindery", name := "pass", desc := "(I)I" } : Jvm.MethodName)) ∈ ab_wG := ab_in3 199 rfl rfl
theorem ab_w611 : (Jvm.Cond.code ({ cls := "BookBindery", name := "pass", desc := "(I)I" } : Jvm.MethodName) prog_1_method_14_code (2 : Nat) (Option.some Jvm.ClassFile.FieldType.int)) ∈ ab_wG := ab_in3 200 rfl rfl
theorem ab_w612 : (Jvm.Cond.methodLink "BookBinderyModel" (98 : Nat) ({ cls := "BookBinderyModel", name := "refuses", desc := "(II)I" } : Jvm.MethodName)) ∈ ab_wG := ab_in7 101 rfl rfl
theorem ab_w613 : (Jvm.Cond.instanceMethod ({ cls := "BookBinderyModel", name := "refuses", desc := "(II)I" } : Jvm.MethodName)) ∈ ab_wG := ab_in7 103 rfl rfl
theorem ab_w614 : (Jvm.Cond.selects "BookBinderyModel" ({ cls := "BookBinderyModel", name := "refuses", desc := "(II)I" } : Jvm.MethodName) ({ cls := "BookBinderyModel", name := "refuses", desc := "(II)I" } : Jvm.MethodName)) ∈ ab_wG := ab_inp2 5 rfl
theorem ab_w615 : (Jvm.Cond.code ({ cls := "BookBinderyModel", name := "refuses", desc := "(II)I" } : Jvm.MethodName) prog_9_method_4_code (3 : Nat) (Option.some Jvm.ClassFile.FieldType.int)) ∈ ab_wG := ab_in7 104 rfl rfl
theorem ab_w616 : (Jvm.Cond.methodLink "BookBinderyModel" (158 : Nat) ({ cls := "BookBinderyModel", name := "goesBy", desc := "()I" } : Jvm.MethodName)) ∈ ab_wG := ab_in8 25 rfl rfl
theorem ab_w617 : (Jvm.Cond.instanceMethod ({ cls := "BookBinderyModel", name := "goesBy", desc := "()I" } : Jvm.MethodName)) ∈ ab_wG := ab_in8 27 rfl rfl
theorem ab_w618 : (Jvm.Cond.selects "BookBinderyModel" ({ cls := "BookBinderyModel", name := "goesBy", desc := "()I" } : Jvm.MethodName) ({ cls := "BookBinderyModel", name := "goesBy", desc := "()I" } : Jvm.MethodName)) ∈ ab_wG := ab_inp3 15 rfl
theorem ab_w619 : (Jvm.Cond.code ({ cls := "BookBinderyModel", name := "goesBy", desc := "()I" } : Jvm.MethodName) prog_9_method_47_code (3 : Nat) (Option.some Jvm.ClassFile.FieldType.int)) ∈ ab_wG := ab_in8 28 rfl rfl
theorem ab_w620 : (Jvm.Cond.methodLink "BookBinderyLaw" (48 : Nat) ({ cls := "BookBindery", name := "deliver", desc := "(I)I" } : Jvm.MethodName)) ∈ ab_wG := ab_in3 165 rfl rfl
theorem ab_w621 : (Jvm.Cond.instanceMethod ({ cls := "BookBindery", name := "deliver", desc := "(I)I" } : Jvm.MethodName)) ∈ ab_wG := ab_in3 166 rfl rfl
theorem ab_w622 : (Jvm.Cond.selects "BookBindery" ({ cls := "BookBindery", name := "deliver", desc := "(I)I" } : Jvm.MethodName) ({ cls := "BookBindery", name := "deliver", desc := "(I)I" } : Jvm.MethodName)) ∈ ab_wG := ab_in3 167 rfl rfl
theorem ab_w623 : (Jvm.Cond.code ({ cls := "BookBindery", name := "deliver", desc := "(I)I" } : Jvm.MethodName) prog_1_method_13_code (2 : Nat) (Option.some Jvm.ClassFile.FieldType.int)) ∈ ab_wG := ab_in3 168 rfl rfl
theorem ab_w624 : (Jvm.Cond.methodLink "BookBinderyModel" (101 : Nat) ({ cls := "BookBinderyModel", name := "isNotAt", desc := "(II)Z" } : Jvm.MethodName)) ∈ ab_wG := ab_in7 124 rfl rfl
theorem ab_w625 : (Jvm.Cond.instanceMethod ({ cls := "BookBinderyModel", name := "isNotAt", desc := "(II)Z" } : Jvm.MethodName)) ∈ ab_wG := ab_in7 126 rfl rfl
theorem ab_w626 : (Jvm.Cond.selects "BookBinderyModel" ({ cls := "BookBinderyModel", name := "isNotAt", desc := "(II)Z" } : Jvm.MethodName) ({ cls := "BookBinderyModel", name := "isNotAt", desc := "(II)Z" } : Jvm.MethodName)) ∈ ab_wG := ab_inp2 9 rfl
theorem ab_w627 : (Jvm.Cond.code ({ cls := "BookBinderyModel", name := "isNotAt", desc := "(II)Z" } : Jvm.MethodName) prog_9_method_25_code (3 : Nat) (Option.some Jvm.ClassFile.FieldType.boolean)) ∈ ab_wG := ab_in7 127 rfl rfl
theorem ab_w628 : (Jvm.Cond.methodLink "BookBinderyModel" (152 : Nat) ({ cls := "BookBinderyModel", name := "withoutSlip", desc := "(I)I" } : Jvm.MethodName)) ∈ ab_wG := ab_in8 9 rfl rfl
theorem ab_w629 : (Jvm.Cond.instanceMethod ({ cls := "BookBinderyModel", name := "withoutSlip", desc := "(I)I" } : Jvm.MethodName)) ∈ ab_wG := ab_in8 11 rfl rfl
theorem ab_w630 : (Jvm.Cond.selects "BookBinderyModel" ({ cls := "BookBinderyModel", name := "withoutSlip", desc := "(I)I" } : Jvm.MethodName) ({ cls := "BookBinderyModel", name := "withoutSlip", desc := "(I)I" } : Jvm.MethodName)) ∈ ab_wG := ab_inp3 12 rfl
theorem ab_w631 : (Jvm.Cond.code ({ cls := "BookBinderyModel", name := "withoutSlip", desc := "(I)I" } : Jvm.MethodName) prog_9_method_45_code (4 : Nat) (Option.some Jvm.ClassFile.FieldType.int)) ∈ ab_wG := ab_in8 12 rfl rfl
theorem ab_w632 : (Jvm.Cond.methodLink "BookBinderyModel" (108 : Nat) ({ cls := "BookBinderyModel", name := "lays", desc := "(III)V" } : Jvm.MethodName)) ∈ ab_wG := ab_in7 112 rfl rfl
theorem ab_w633 : (Jvm.Cond.instanceMethod ({ cls := "BookBinderyModel", name := "lays", desc := "(III)V" } : Jvm.MethodName)) ∈ ab_wG := ab_in7 114 rfl rfl
theorem ab_w634 : (Jvm.Cond.selects "BookBinderyModel" ({ cls := "BookBinderyModel", name := "lays", desc := "(III)V" } : Jvm.MethodName) ({ cls := "BookBinderyModel", name := "lays", desc := "(III)V" } : Jvm.MethodName)) ∈ ab_wG := ab_inp2 7 rfl
theorem ab_w635 : (Jvm.Cond.code ({ cls := "BookBinderyModel", name := "lays", desc := "(III)V" } : Jvm.MethodName) prog_9_method_12_code (4 : Nat) (Option.none : Option Jvm.ClassFile.FieldType)) ∈ ab_wG := ab_in7 115 rfl rfl
theorem ab_w636 : (Jvm.Cond.methodLink "BookBinderyLaw" (45 : Nat) ({ cls := "BookBindery", name := "slip", desc := "(II)I" } : Jvm.MethodName)) ∈ ab_wG := ab_in3 138 rfl rfl
theorem ab_w637 : (Jvm.Cond.instanceMethod ({ cls := "BookBindery", name := "slip", desc := "(II)I" } : Jvm.MethodName)) ∈ ab_wG := ab_in3 139 rfl rfl
theorem ab_w638 : (Jvm.Cond.selects "BookBindery" ({ cls := "BookBindery", name := "slip", desc := "(II)I" } : Jvm.MethodName) ({ cls := "BookBindery", name := "slip", desc := "(II)I" } : Jvm.MethodName)) ∈ ab_wG := ab_in3 140 rfl rfl
theorem ab_w639 : (Jvm.Cond.code ({ cls := "BookBindery", name := "slip", desc := "(II)I" } : Jvm.MethodName) prog_1_method_12_code (3 : Nat) (Option.some Jvm.ClassFile.FieldType.int)) ∈ ab_wG := ab_in3 141 rfl rfl
theorem ab_w640 : (Jvm.Cond.methodLink "BookBinderyLaw" (42 : Nat) ({ cls := "BookBindery", name := "lift", desc := "(I)I" } : Jvm.MethodName)) ∈ ab_wG := ab_in3 127 rfl rfl
theorem ab_w641 : (Jvm.Cond.instanceMethod ({ cls := "BookBindery", name := "lift", desc := "(I)I" } : Jvm.MethodName)) ∈ ab_wG := ab_in3 128 rfl rfl
theorem ab_w642 : (Jvm.Cond.selects "BookBindery" ({ cls := "BookBindery", name := "lift", desc := "(I)I" } : Jvm.MethodName) ({ cls := "BookBindery", name := "lift", desc := "(I)I" } : Jvm.MethodName)) ∈ ab_wG := ab_in3 129 rfl rfl
theorem ab_w643 : (Jvm.Cond.code ({ cls := "BookBindery", name := "lift", desc := "(I)I" } : Jvm.MethodName) prog_1_method_11_code (2 : Nat) (Option.some Jvm.ClassFile.FieldType.int)) ∈ ab_wG := ab_in3 130 rfl rfl
theorem ab_w644 : (Jvm.Cond.methodLink "BookBinderyLaw" (39 : Nat) ({ cls := "BookBindery", name := "press", desc := "(II)I" } : Jvm.MethodName)) ∈ ab_wG := ab_in3 112 rfl rfl
theorem ab_w645 : (Jvm.Cond.instanceMethod ({ cls := "BookBindery", name := "press", desc := "(II)I" } : Jvm.MethodName)) ∈ ab_wG := ab_in3 113 rfl rfl
theorem ab_w646 : (Jvm.Cond.selects "BookBindery" ({ cls := "BookBindery", name := "press", desc := "(II)I" } : Jvm.MethodName) ({ cls := "BookBindery", name := "press", desc := "(II)I" } : Jvm.MethodName)) ∈ ab_wG := ab_in3 114 rfl rfl
theorem ab_w647 : (Jvm.Cond.code ({ cls := "BookBindery", name := "press", desc := "(II)I" } : Jvm.MethodName) prog_1_method_10_code (3 : Nat) (Option.some Jvm.ClassFile.FieldType.int)) ∈ ab_wG := ab_in3 115 rfl rfl
theorem ab_w648 : (Jvm.Cond.methodLink "BookBinderyLaw" (36 : Nat) ({ cls := "BookBindery", name := "glue", desc := "(II)I" } : Jvm.MethodName)) ∈ ab_wG := ab_in3 99 rfl rfl
theorem ab_w649 : (Jvm.Cond.instanceMethod ({ cls := "BookBindery", name := "glue", desc := "(II)I" } : Jvm.MethodName)) ∈ ab_wG := ab_in3 100 rfl rfl
theorem ab_w650 : (Jvm.Cond.selects "BookBindery" ({ cls := "BookBindery", name := "glue", desc := "(II)I" } : Jvm.MethodName) ({ cls := "BookBindery", name := "glue", desc := "(II)I" } : Jvm.MethodName)) ∈ ab_wG := ab_in3 101 rfl rfl
theorem ab_w651 : (Jvm.Cond.code ({ cls := "BookBindery", name := "glue", desc := "(II)I" } : Jvm.MethodName) prog_1_method_9_code (3 : Nat) (Option.some Jvm.ClassFile.FieldType.int)) ∈ ab_wG := ab_in3 102 rfl rfl
theorem ab_w652 : (Jvm.Cond.methodLink "BookBinderyModel" (134 : Nat) ({ cls := "BookBinderyModel", name := "setTime", desc := "(I)I" } : Jvm.MethodName)) ∈ ab_wG := ab_in7 204 rfl rfl
theorem ab_w653 : (Jvm.Cond.static ({ cls := "BookBinderyModel", name := "setTime", desc := "(I)I" } : Jvm.MethodName)) ∈ ab_wG := ab_in7 205 rfl rfl
theorem ab_w654 : (Jvm.Cond.code ({ cls := "BookBinderyModel", name := "setTime", desc := "(I)I" } : Jvm.MethodName) prog_9_method_37_code (1 : Nat) (Option.some Jvm.ClassFile.FieldType.int)) ∈ ab_wG := ab_in7 206 rfl rfl
theorem ab_w655 : (Jvm.Cond.methodLink "BookBinderyLaw" (33 : Nat) ({ cls := "BookBindery", name := "unpick", desc := "(I)I" } : Jvm.MethodName)) ∈ ab_wG := ab_in3 88 rfl rfl
theorem ab_w656 : (Jvm.Cond.instanceMethod ({ cls := "BookBindery", name := "unpick", desc := "(I)I" } : Jvm.MethodName)) ∈ ab_wG := ab_in3 89 rfl rfl
theorem ab_w657 : (Jvm.Cond.selects "BookBindery" ({ cls := "BookBindery", name := "unpick", desc := "(I)I" } : Jvm.MethodName) ({ cls := "BookBindery", name := "unpick", desc := "(I)I" } : Jvm.MethodName)) ∈ ab_wG := ab_in3 90 rfl rfl
theorem ab_w658 : (Jvm.Cond.code ({ cls := "BookBindery", name := "unpick", desc := "(I)I" } : Jvm.MethodName) prog_1_method_8_code (2 : Nat) (Option.some Jvm.ClassFile.FieldType.int)) ∈ ab_wG := ab_in3 91 rfl rfl
theorem ab_w659 : (Jvm.Cond.methodLink "BookBinderyLaw" (30 : Nat) ({ cls := "BookBindery", name := "sew", desc := "(I)I" } : Jvm.MethodName)) ∈ ab_wG := ab_in3 73 rfl rfl
theorem ab_w660 : (Jvm.Cond.instanceMethod ({ cls := "BookBindery", name := "sew", desc := "(I)I" } : Jvm.MethodName)) ∈ ab_wG := ab_in3 74 rfl rfl
theorem ab_w661 : (Jvm.Cond.selects "BookBindery" ({ cls := "BookBindery", name := "sew", desc := "(I)I" } : Jvm.MethodName) ({ cls := "BookBindery", name := "sew", desc := "(I)I" } : Jvm.MethodName)) ∈ ab_wG := ab_in3 75 rfl rfl
theorem ab_w662 : (Jvm.Cond.code ({ cls := "BookBindery", name := "sew", desc := "(I)I" } : Jvm.MethodName) prog_1_method_7_code (2 : Nat) (Option.some Jvm.ClassFile.FieldType.int)) ∈ ab_wG := ab_in3 76 rfl rfl
theorem ab_w663 : (Jvm.Cond.methodLink "BookBinderyLaw" (26 : Nat) ({ cls := "BookBindery", name := "spool", desc := "(I)I" } : Jvm.MethodName)) ∈ ab_wG := ab_in3 61 rfl rfl
theorem ab_w664 : (Jvm.Cond.instanceMethod ({ cls := "BookBindery", name := "spool", desc := "(I)I" } : Jvm.MethodName)) ∈ ab_wG := ab_in3 62 rfl rfl
theorem ab_w665 : (Jvm.Cond.selects "BookBindery" ({ cls := "BookBindery", name := "spool", desc := "(I)I" } : Jvm.MethodName) ({ cls := "BookBindery", name := "spool", desc := "(I)I" } : Jvm.MethodName)) ∈ ab_wG := ab_in3 63 rfl rfl
theorem ab_w666 : (Jvm.Cond.code ({ cls := "BookBindery", name := "spool", desc := "(I)I" } : Jvm.MethodName) prog_1_method_6_code (2 : Nat) (Option.some Jvm.ClassFile.FieldType.int)) ∈ ab_wG := ab_in3 64 rfl rfl
theorem ab_w667 : (Jvm.Cond.methodLink "BookBinderyLaw" (23 : Nat) ({ cls := "BookBindery", name := "drop", desc := "(II)I" } : Jvm.MethodName)) ∈ ab_wG := ab_in3 50 rfl rfl
theorem ab_w668 : (Jvm.Cond.instanceMethod ({ cls := "BookBindery", name := "drop", desc := "(II)I" } : Jvm.MethodName)) ∈ ab_wG := ab_in3 51 rfl rfl
theorem ab_w669 : (Jvm.Cond.selects "BookBindery" ({ cls := "BookBindery", name := "drop", desc := "(II)I" } : Jvm.MethodName) ({ cls := "BookBindery", name := "drop", desc := "(II)I" } : Jvm.MethodName)) ∈ ab_wG := ab_in3 52 rfl rfl
theorem ab_w670 : (Jvm.Cond.code ({ cls := "BookBindery", name := "drop", desc := "(II)I" } : Jvm.MethodName) prog_1_method_5_code (3 : Nat) (Option.some Jvm.ClassFile.FieldType.int)) ∈ ab_wG := ab_in3 53 rfl rfl
theorem ab_w671 : (Jvm.Cond.methodLink "BookBinderyModel" (112 : Nat) ({ cls := "BookBinderyModel", name := "isHeld", desc := "(I)Z" } : Jvm.MethodName)) ∈ ab_wG := ab_in7 120 rfl rfl
theorem ab_w672 : (Jvm.Cond.instanceMethod ({ cls := "BookBinderyModel", name := "isHeld", desc := "(I)Z" } : Jvm.MethodName)) ∈ ab_wG := ab_in7 122 rfl rfl
theorem ab_w673 : (Jvm.Cond.selects "BookBinderyModel" ({ cls := "BookBinderyModel", name := "isHeld", desc := "(I)Z" } : Jvm.MethodName) ({ cls := "BookBinderyModel", name := "isHeld", desc := "(I)Z" } : Jvm.MethodName)) ∈ ab_wG := ab_inp2 8 rfl
theorem ab_w674 : (Jvm.Cond.code ({ cls := "BookBinderyModel", name := "isHeld", desc := "(I)Z" } : Jvm.MethodName) prog_9_method_26_code (2 : Nat) (Option.some Jvm.ClassFile.FieldType.boolean)) ∈ ab_wG := ab_in7 123 rfl rfl
theorem ab_w675 : (Jvm.Cond.methodLink "BookBinderyModel" (122 : Nat) ({ cls := "BookBinderyModel", name := "swaps", desc := "(III)V" } : Jvm.MethodName)) ∈ ab_wG := ab_in7 148 rfl rfl
theorem ab_w676 : (Jvm.Cond.instanceMethod ({ cls := "BookBinderyModel", name := "swaps", desc := "(III)V" } : Jvm.MethodName)) ∈ ab_wG := ab_in7 150 rfl rfl
theorem ab_w677 : (Jvm.Cond.selects "BookBinderyModel" ({ cls := "BookBinderyModel", name := "swaps", desc := "(III)V" } : Jvm.MethodName) ({ cls := "BookBinderyModel", name := "swaps", desc := "(III)V" } : Jvm.MethodName)) ∈ ab_wG := ab_inp2 14 rfl
theorem ab_w678 : (Jvm.Cond.code ({ cls := "BookBinderyModel", name := "swaps", desc := "(III)V" } : Jvm.MethodName) prog_9_method_30_code (7 : Nat) (Option.none : Option Jvm.ClassFile.FieldType)) ∈ ab_wG := ab_in7 151 rfl rfl
theorem ab_w679 : (Jvm.Cond.methodLink "BookBinderyModel" (115 : Nat) ({ cls := "BookBinderyModel", name := "puts", desc := "(IIIII)V" } : Jvm.MethodName)) ∈ ab_wG := ab_in7 136 rfl rfl
theorem ab_w680 : (Jvm.Cond.instanceMethod ({ cls := "BookBinderyModel", name := "puts", desc := "(IIIII)V" } : Jvm.MethodName)) ∈ ab_wG := ab_in7 138 rfl rfl
theorem ab_w681 : (Jvm.Cond.selects "BookBinderyModel" ({ cls := "BookBinderyModel", name := "puts", desc := "(IIIII)V" } : Jvm.MethodName) ({ cls := "BookBinderyModel", name := "puts", desc := "(IIIII)V" } : Jvm.MethodName)) ∈ ab_wG := ab_inp2 12 rfl
theorem ab_w682 : (Jvm.Cond.code ({ cls := "BookBinderyModel", name := "puts", desc := "(IIIII)V" } : Jvm.MethodName) prog_9_method_28_code (6 : Nat) (Option.none : Option Jvm.ClassFile.FieldType)) ∈ ab_wG := ab_in7 139 rfl rfl
theorem ab_w683 : (Jvm.Cond.methodLink "BookBinderyLaw" (19 : Nat) ({ cls := "BookBindery", name := "move", desc := "(III)I" } : Jvm.MethodName)) ∈ ab_wG := ab_in3 15 rfl rfl
theorem ab_w684 : (Jvm.Cond.instanceMethod ({ cls := "BookBindery", name := "move", desc := "(III)I" } : Jvm.MethodName)) ∈ ab_wG := ab_in3 16 rfl rfl
theorem ab_w685 : (Jvm.Cond.selects "BookBindery" ({ cls := "BookBindery", name := "move", desc := "(III)I" } : Jvm.MethodName) ({ cls := "BookBindery", name := "move", desc := "(III)I" } : Jvm.MethodName)) ∈ ab_wG := ab_in3 17 rfl rfl
theorem ab_w686 : (Jvm.Cond.code ({ cls := "BookBindery", name := "move", desc := "(III)I" } : Jvm.MethodName) prog_1_method_4_code (4 : Nat) (Option.some Jvm.ClassFile.FieldType.int)) ∈ ab_wG := ab_in3 18 rfl rfl
theorem ab_w687 : (Jvm.Cond.methodLink "BookBinderyLaw" (15 : Nat) ({ cls := "BookBindery", name := "gather", desc := "(IIIZ)I" } : Jvm.MethodName)) ∈ ab_wG := ab_in2 231 rfl rfl
theorem ab_w688 : (Jvm.Cond.instanceMethod ({ cls := "BookBindery", name := "gather", desc := "(IIIZ)I" } : Jvm.MethodName)) ∈ ab_wG := ab_in2 232 rfl rfl
theorem ab_w689 : (Jvm.Cond.selects "BookBindery" ({ cls := "BookBindery", name := "gather", desc := "(IIIZ)I" } : Jvm.MethodName) ({ cls := "BookBindery", name := "gather", desc := "(IIIZ)I" } : Jvm.MethodName)) ∈ ab_wG := ab_in2 233 rfl rfl
theorem ab_w690 : (Jvm.Cond.code ({ cls := "BookBindery", name := "gather", desc := "(IIIZ)I" } : Jvm.MethodName) prog_1_method_3_code (5 : Nat) (Option.some Jvm.ClassFile.FieldType.int)) ∈ ab_wG := ab_in2 234 rfl rfl
theorem ab_w691 : (Jvm.Cond.methodLink "BookBinderyLaw" (7 : Nat) ({ cls := "BookBindery", name := "book", desc := "(II)I" } : Jvm.MethodName)) ∈ ab_wG := ab_in2 124 rfl rfl
theorem ab_w692 : (Jvm.Cond.instanceMethod ({ cls := "BookBindery", name := "book", desc := "(II)I" } : Jvm.MethodName)) ∈ ab_wG := ab_in2 125 rfl rfl
theorem ab_w693 : (Jvm.Cond.selects "BookBindery" ({ cls := "BookBindery", name := "book", desc := "(II)I" } : Jvm.MethodName) ({ cls := "BookBindery", name := "book", desc := "(II)I" } : Jvm.MethodName)) ∈ ab_wG := ab_in2 126 rfl rfl
theorem ab_w694 : (Jvm.Cond.code ({ cls := "BookBindery", name := "book", desc := "(II)I" } : Jvm.MethodName) prog_1_method_2_code (3 : Nat) (Option.some Jvm.ClassFile.FieldType.int)) ∈ ab_wG := ab_in2 127 rfl rfl
theorem ab_w695 : (Jvm.Cond.methodLink "BookBindery$Bench" (3 : Nat) ({ cls := "java/lang/Object", name := "<init>", desc := "()V" } : Jvm.MethodName)) ∈ ab_wG := ab_in1 45 rfl rfl
theorem ab_w696 : (Jvm.Cond.classLink "BookBindery$Bench" (9 : Nat) "BookBindery$Shop") ∈ ab_wG := ab_in1 46 rfl rfl
theorem ab_w697 : (Jvm.Cond.methodLink "BookBindery$Bench" (11 : Nat) ({ cls := "BookBindery$Shop", name := "<init>", desc := "()V" } : Jvm.MethodName)) ∈ ab_wG := ab_in1 48 rfl rfl
theorem ab_w698 : (Jvm.Cond.fieldLink "BookBindery$Bench" (12 : Nat) "BookBindery$Bench" "shop" "LBookBindery$Shop;") ∈ ab_wG := ab_in1 192 rfl rfl
theorem ab_w699 : (Jvm.Cond.methodLink "BookBindery$History" (3 : Nat) ({ cls := "java/lang/Object", name := "<init>", desc := "()V" } : Jvm.MethodName)) ∈ ab_wG := ab_in1 217 rfl rfl
theorem ab_w700 : (Jvm.Cond.classLink "BookBindery$History" (11 : Nat) "BookBindery$Shop") ∈ ab_wG := ab_in1 218 rfl rfl
theorem ab_w701 : (Jvm.Cond.fieldLink "BookBindery$History" (13 : Nat) "BookBindery$History" "slots" "[LBookBindery$Shop;") ∈ ab_wG := ab_in1 221 rfl rfl
theorem ab_w702 : (Jvm.Cond.methodLink "BookBindery$History" (17 : Nat) ({ cls := "BookBindery$Shop", name := "<init>", desc := "()V" } : Jvm.MethodName)) ∈ ab_wG := ab_in1 220 rfl rfl
theorem ab_w703 : (Jvm.Cond.methodLink "BookBindery$Shop" (3 : Nat) ({ cls := "java/lang/Object", name := "<init>", desc := "()V" } : Jvm.MethodName)) ∈ ab_wG := ab_in1 51 rfl rfl
theorem ab_w704 : (Jvm.Cond.classLink "BookBindery$Shop" (9 : Nat) "BookBindery$Book") ∈ ab_wG := ab_in1 52 rfl rfl
theorem ab_w705 : (Jvm.Cond.fieldLink "BookBindery$Shop" (11 : Nat) "BookBindery$Shop" "books" "[LBookBindery$Book;") ∈ ab_wG := ab_in1 142 rfl rfl
theorem ab_w706 : (Jvm.Cond.classLink "BookBindery$Shop" (17 : Nat) "BookBindery$Press") ∈ ab_wG := ab_in1 54 rfl rfl
theorem ab_w707 : (Jvm.Cond.fieldLink "BookBindery$Shop" (19 : Nat) "BookBindery$Shop" "presses" "[LBookBindery$Press;") ∈ ab_wG := ab_in1 145 rfl rfl
theorem ab_w708 : (Jvm.Cond.fieldLink "BookBindery$Shop" (23 : Nat) "BookBindery$Shop" "coins" "I") ∈ ab_wG := ab_in1 153 rfl rfl
theorem ab_w709 : (Jvm.Cond.fieldLink "BookBindery$Shop" (27 : Nat) "BookBindery$Shop" "thread" "I") ∈ ab_wG := ab_in1 156 rfl rfl
theorem ab_w710 : (Jvm.Cond.instantiable "BookBindery$Book" (13 : Nat)) ∈ ab_wG := ab_in1 56 rfl rfl
theorem ab_w711 : (Jvm.Cond.initialized "BookBindery$Book") ∈ ab_wG := ab_in1 4 rfl rfl
theorem ab_w712 : (Jvm.Cond.code ({ cls := "BookBindery$Book", name := "<init>", desc := "()V" } : Jvm.MethodName) prog_3_method_1_code (1 : Nat) (Option.none : Option Jvm.ClassFile.FieldType)) ∈ ab_wG := ab_in1 59 rfl rfl
theorem ab_w713 : (Jvm.Cond.instanceMethod ({ cls := "BookBindery$Book", name := "<init>", desc := "()V" } : Jvm.MethodName)) ∈ ab_wG := ab_in1 58 rfl rfl
theorem ab_w714 : (Jvm.Cond.instantiable "BookBindery$Press" (2 : Nat)) ∈ ab_wG := ab_in1 126 rfl rfl
theorem ab_w715 : (Jvm.Cond.initialized "BookBindery$Press") ∈ ab_wG := ab_in1 5 rfl rfl
theorem ab_w716 : (Jvm.Cond.code ({ cls := "BookBindery$Press", name := "<init>", desc := "()V" } : Jvm.MethodName) prog_6_method_1_code (1 : Nat) (Option.none : Option Jvm.ClassFile.FieldType)) ∈ ab_wG := ab_in1 129 rfl rfl
theorem ab_w717 : (Jvm.Cond.instanceMethod ({ cls := "BookBindery$Press", name := "<init>", desc := "()V" } : Jvm.MethodName)) ∈ ab_wG := ab_in1 128 rfl rfl
theorem ab_w718 : (Jvm.Cond.methodLink "BookBindery$CommandText" (3 : Nat) ({ cls := "java/lang/Object", name := "<init>", desc := "()V" } : Jvm.MethodName)) ∈ ab_wG := ab_in1 239 rfl rfl
theorem ab_w719 : (Jvm.Cond.fieldLink "BookBindery$CommandText" (9 : Nat) "BookBindery$CommandText" "characters" "[C") ∈ ab_wG := ab_in2 0 rfl rfl
theorem ab_w720 : (Jvm.Cond.fieldLink "BookBindery$CommandText" (15 : Nat) "BookBindery$CommandText" "numbers" "[I") ∈ ab_wG := ab_in2 8 rfl rfl
theorem ab_w721 : (Jvm.Cond.code ({ cls := "java/lang/AbstractStringBuilder", name := "<init>", desc := "(I)V" } : Jvm.MethodName) prog_11_method_2_code (2 : Nat) (Option.none : Option Jvm.ClassFile.FieldType)) ∈ ab_wG := ab_in2 38 rfl rfl
theorem ab_w722 : (Jvm.Cond.methodLink "java/lang/StringBuilder" (1 : Nat) ({ cls := "java/lang/AbstractStringBuilder", name := "<init>", desc := "(I)V" } : Jvm.MethodName)) ∈ ab_wG := ab_in2 36 rfl rfl
theorem ab_w723 : (Jvm.Cond.instanceMethod ({ cls := "java/lang/AbstractStringBuilder", name := "<init>", desc := "(I)V" } : Jvm.MethodName)) ∈ ab_wG := ab_in2 37 rfl rfl
theorem ab_w724 : (Jvm.Cond.initialized "java/lang/AbstractStringBuilder") ∈ ab_wG := ab_in1 8 rfl rfl
theorem ab_w725 : (Jvm.Cond.classLink "BookBindery" (241 : Nat) "java/lang/IllegalStateException") ∈ ab_wG := ab_in5 14 rfl rfl
theorem ab_w726 : (Jvm.Cond.initialized "java/lang/IllegalStateException") ∈ ab_wG := ab_in1 23 rfl rfl
theorem ab_w727 : (Jvm.Cond.methodLink "BookBindery" (333 : Nat) ({ cls := "BookBindery$History", name := "forget", desc := "()V" } : Jvm.MethodName)) ∈ ab_wG := ab_in7 22 rfl rfl
theorem ab_w728 : (Jvm.Cond.instanceMethod ({ cls := "BookBindery$History", name := "forget", desc := "()V" } : Jvm.MethodName)) ∈ ab_wG := ab_in7 23 rfl rfl
theorem ab_w729 : (Jvm.Cond.selects "BookBindery$History" ({ cls := "BookBindery$History", name := "forget", desc := "()V" } : Jvm.MethodName) ({ cls := "BookBindery$History", name := "forget", desc := "()V" } : Jvm.MethodName)) ∈ ab_wG := ab_in7 24 rfl rfl
theorem ab_w730 : (Jvm.Cond.code ({ cls := "BookBindery$History", name := "forget", desc := "()V" } : Jvm.MethodName) prog_5_method_6_code (1 : Nat) (Option.none : Option Jvm.ClassFile.FieldType)) ∈ ab_wG := ab_in7 25 rfl rfl
theorem ab_w731 : (Jvm.Cond.methodLink "BookBindery$Shop" (32 : Nat) ({ cls := "BookBindery$Book", name := "copyFrom", desc := "(LBookBindery$Book;)V" } : Jvm.MethodName)) ∈ ab_wG := ab_in2 104 rfl rfl
theorem ab_w732 : (Jvm.Cond.instanceMethod ({ cls := "BookBindery$Book", name := "copyFrom", desc := "(LBookBindery$Book;)V" } : Jvm.MethodName)) ∈ ab_wG := ab_in2 105 rfl rfl
theorem ab_w733 : (Jvm.Cond.selects "BookBindery$Book" ({ cls := "BookBindery$Book", name := "copyFrom", desc := "(LBookBindery$Book;)V" } : Jvm.MethodName) ({ cls := "BookBindery$Book", name := "copyFrom", desc := "(LBookBindery$Book;)V" } : Jvm.MethodName)) ∈ ab_wG := ab_in2 106 rfl rfl
theorem ab_w734 : (Jvm.Cond.code ({ cls := "BookBindery$Book", name := "copyFrom", desc := "(LBookBindery$Book;)V" } : Jvm.MethodName) prog_3_method_3_code (3 : Nat) (Option.none : Option Jvm.ClassFile.FieldType)) ∈ ab_wG := ab_in2 107 rfl rfl
theorem ab_w735 : (Jvm.Cond.methodLink "BookBindery$Shop" (36 : Nat) ({ cls := "BookBindery$Press", name := "copyFrom", desc := "(LBookBindery$Press;)V" } : Jvm.MethodName)) ∈ ab_wG := ab_in2 115 rfl rfl
theorem ab_w736 : (Jvm.Cond.instanceMethod ({ cls := "BookBindery$Press", name := "copyFrom", desc := "(LBookBindery$Press;)V" } : Jvm.MethodName)) ∈ ab_wG := ab_in2 116 rfl rfl
theorem ab_w737 : (Jvm.Cond.selects "BookBindery$Press" ({ cls := "BookBindery$Press", name := "copyFrom", desc := "(LBookBindery$Press;)V" } : Jvm.MethodName) ({ cls := "BookBindery$Press", name := "copyFrom", desc := "(LBookBindery$Press;)V" } : Jvm.MethodName)) ∈ ab_wG := ab_in2 117 rfl rfl
theorem ab_w738 : (Jvm.Cond.code ({ cls := "BookBindery$Press", name := "copyFrom", desc := "(LBookBindery$Press;)V" } : Jvm.MethodName) prog_6_method_2_code (2 : Nat) (Option.none : Option Jvm.ClassFile.FieldType)) ∈ ab_wG := ab_in2 118 rfl rfl
theorem ab_w739 : (Jvm.Cond.fieldLink "BookBindery$Shop" (39 : Nat) "BookBindery$Shop" "bookCount" "I") ∈ ab_wG := ab_in1 149 rfl rfl
theorem ab_w740 : (Jvm.Cond.fieldLink "BookBindery$Shop" (42 : Nat) "BookBindery$Shop" "minute" "I") ∈ ab_wG := ab_in1 151 rfl rfl
theorem ab_w741 : (Jvm.Cond.fieldLink "BookBindery$Shop" (45 : Nat) "BookBindery$Shop" "threadSewn" "I") ∈ ab_wG := ab_in1 159 rfl rfl
theorem ab_w742 : (Jvm.Cond.fieldLink "BookBindery$Shop" (48 : Nat) "BookBindery$Shop" "unpicked" "I") ∈ ab_wG := ab_in1 162 rfl rfl
theorem ab_w743 : (Jvm.Cond.fieldLink "BookBindery$Shop" (51 : Nat) "BookBindery$Shop" "slipsPasted" "I") ∈ ab_wG := ab_in1 165 rfl rfl
theorem ab_w744 : (Jvm.Cond.fieldLink "BookBindery$Shop" (54 : Nat) "BookBindery$Shop" "coinsBrought" "I") ∈ ab_wG := ab_in1 168 rfl rfl
theorem ab_w745 : (Jvm.Cond.fieldLink "BookBindery" (320 : Nat) "BookBindery$History" "kept" "I") ∈ ab_wG := ab_in1 224 rfl rfl
theorem ab_w746 : (Jvm.Cond.methodLink "BookBindery" (323 : Nat) ({ cls := "BookBindery$History", name := "takeBackLatest", desc := "(LBookBindery$Shop;)V" } : Jvm.MethodName)) ∈ ab_wG := ab_in7 11 rfl rfl
theorem ab_w747 : (Jvm.Cond.instanceMethod ({ cls := "BookBindery$History", name := "takeBackLatest", desc := "(LBookBindery$Shop;)V" } : Jvm.MethodName)) ∈ ab_wG := ab_in7 12 rfl rfl
theorem ab_w748 : (Jvm.Cond.selects "BookBindery$History" ({ cls := "BookBindery$History", name := "takeBackLatest", desc := "(LBookBindery$Shop;)V" } : Jvm.MethodName) ({ cls := "BookBindery$History", name := "takeBackLatest", desc := "(LBookBindery$Shop;)V" } : Jvm.MethodName)) ∈ ab_wG := ab_in7 13 rfl rfl
theorem ab_w749 : (Jvm.Cond.code ({ cls := "BookBindery$History", name := "takeBackLatest", desc := "(LBookBindery$Shop;)V" } : Jvm.MethodName) prog_5_method_5_code (2 : Nat) (Option.none : Option Jvm.ClassFile.FieldType)) ∈ ab_wG := ab_in7 14 rfl rfl
theorem ab_w750 : (Jvm.Cond.classLink "BookBindery" (140 : Nat) "java/lang/IllegalArgumentException") ∈ ab_wG := ab_in4 34 rfl rfl
theorem ab_w751 : (Jvm.Cond.initialized "java/lang/IllegalArgumentException") ∈ ab_wG := ab_in1 21 rfl rfl
theorem ab_w752 : (Jvm.Cond.fieldLink "BookBindery" (238 : Nat) "BookBindery$CommandText" "length" "I") ∈ ab_wG := ab_in2 2 rfl rfl
theorem ab_w753 : (Jvm.Cond.fieldLink "BookBindery" (317 : Nat) "BookBindery$Shop" "coinsBrought" "I") ∈ ab_wG := ab_in1 170 rfl rfl
theorem ab_w754 : (Jvm.Cond.fieldLink "BookBindery" (314 : Nat) "BookBindery$Shop" "slipsPasted" "I") ∈ ab_wG := ab_in1 167 rfl rfl
theorem ab_w755 : (Jvm.Cond.fieldLink "BookBindery" (311 : Nat) "BookBindery$Shop" "unpicked" "I") ∈ ab_wG := ab_in1 164 rfl rfl
theorem ab_w756 : (Jvm.Cond.fieldLink "BookBindery" (308 : Nat) "BookBindery$Shop" "threadSewn" "I") ∈ ab_wG := ab_in1 161 rfl rfl
theorem ab_w757 : (Jvm.Cond.methodLink "BookBindery" (293 : Nat) ({ cls := "BookBindery$Shop", name := "countSignatures", desc := "()I" } : Jvm.MethodName)) ∈ ab_wG := ab_in6 229 rfl rfl
theorem ab_w758 : (Jvm.Cond.instanceMethod ({ cls := "BookBindery$Shop", name := "countSignatures", desc := "()I" } : Jvm.MethodName)) ∈ ab_wG := ab_in6 230 rfl rfl
theorem ab_w759 : (Jvm.Cond.selects "BookBindery$Shop" ({ cls := "BookBindery$Shop", name := "countSignatures", desc := "()I" } : Jvm.MethodName) ({ cls := "BookBindery$Shop", name := "countSignatures", desc := "()I" } : Jvm.MethodName)) ∈ ab_wG := ab_in6 231 rfl rfl
theorem ab_w760 : (Jvm.Cond.code ({ cls := "BookBindery$Shop", name := "countSignatures", desc := "()I" } : Jvm.MethodName) prog_7_method_6_code (3 : Nat) (Option.some Jvm.ClassFile.FieldType.int)) ∈ ab_wG := ab_in6 232 rfl rfl
theorem ab_w761 : (Jvm.Cond.methodLink "BookBindery" (305 : Nat) ({ cls := "BookBindery$Shop", name := "countAtStage", desc := "(I)I" } : Jvm.MethodName)) ∈ ab_wG := ab_in7 0 rfl rfl
theorem ab_w762 : (Jvm.Cond.instanceMethod ({ cls := "BookBindery$Shop", name := "countAtStage", desc := "(I)I" } : Jvm.MethodName)) ∈ ab_wG := ab_in7 1 rfl rfl
theorem ab_w763 : (Jvm.Cond.selects "BookBindery$Shop" ({ cls := "BookBindery$Shop", name := "countAtStage", desc := "(I)I" } : Jvm.MethodName) ({ cls := "BookBindery$Shop", name := "countAtStage", desc := "(I)I" } : Jvm.MethodName)) ∈ ab_wG := ab_in7 2 rfl rfl
theorem ab_w764 : (Jvm.Cond.code ({ cls := "BookBindery$Shop", name := "countAtStage", desc := "(I)I" } : Jvm.MethodName) prog_7_method_5_code (4 : Nat) (Option.some Jvm.ClassFile.FieldType.int)) ∈ ab_wG := ab_in7 3 rfl rfl
theorem ab_w765 : (Jvm.Cond.fieldLink "BookBindery" (302 : Nat) "BookBindery$Shop" "thread" "I") ∈ ab_wG := ab_in1 158 rfl rfl
theorem ab_w766 : (Jvm.Cond.fieldLink "BookBindery" (299 : Nat) "BookBindery$Shop" "coins" "I") ∈ ab_wG := ab_in1 155 rfl rfl
theorem ab_w767 : (Jvm.Cond.fieldLink "BookBindery" (296 : Nat) "BookBindery$Shop" "minute" "I") ∈ ab_wG := ab_in1 152 rfl rfl
theorem ab_w768 : (Jvm.Cond.classLink "BookBindery" (290 : Nat) "java/lang/ArithmeticException") ∈ ab_wG := ab_in6 217 rfl rfl
theorem ab_w769 : (Jvm.Cond.initialized "java/lang/ArithmeticException") ∈ ab_wG := ab_in1 31 rfl rfl
theorem ab_w770 : (Jvm.Cond.methodLink "BookBindery" (106 : Nat) ({ cls := "BookBindery", name := "existing", desc := "(I)LBookBindery$Book;" } : Jvm.MethodName)) ∈ ab_wG := ab_in4 13 rfl rfl
theorem ab_w771 : (Jvm.Cond.instanceMethod ({ cls := "BookBindery", name := "existing", desc := "(I)LBookBindery$Book;" } : Jvm.MethodName)) ∈ ab_wG := ab_in4 15 rfl rfl
theorem ab_w772 : (Jvm.Cond.selects "BookBindery" ({ cls := "BookBindery", name := "existing", desc := "(I)LBookBindery$Book;" } : Jvm.MethodName) ({ cls := "BookBindery", name := "existing", desc := "(I)LBookBindery$Book;" } : Jvm.MethodName)) ∈ ab_wG := ab_inp1 6 rfl
theorem ab_w773 : (Jvm.Cond.code ({ cls := "BookBindery", name := "existing", desc := "(I)LBookBindery$Book;" } : Jvm.MethodName) prog_1_method_44_code (2 : Nat) (Option.some (Jvm.ClassFile.FieldType.object "BookBindery$Book"))) ∈ ab_wG := ab_in4 16 rfl rfl
theorem ab_w774 : (Jvm.Cond.methodLink "BookBindery" (127 : Nat) ({ cls := "BookBindery$Book", name := "positions", desc := "()I" } : Jvm.MethodName)) ∈ ab_wG := ab_in4 33 rfl rfl
theorem ab_w775 : (Jvm.Cond.instanceMethod ({ cls := "BookBindery$Book", name := "positions", desc := "()I" } : Jvm.MethodName)) ∈ ab_wG := ab_in3 187 rfl rfl
theorem ab_w776 : (Jvm.Cond.selects "BookBindery$Book" ({ cls := "BookBindery$Book", name := "positions", desc := "()I" } : Jvm.MethodName) ({ cls := "BookBindery$Book", name := "positions", desc := "()I" } : Jvm.MethodName)) ∈ ab_wG := ab_in3 188 rfl rfl
theorem ab_w777 : (Jvm.Cond.code ({ cls := "BookBindery$Book", name := "positions", desc := "()I" } : Jvm.MethodName) prog_3_method_11_code (1 : Nat) (Option.some Jvm.ClassFile.FieldType.int)) ∈ ab_wG := ab_in3 189 rfl rfl
theorem ab_w778 : (Jvm.Cond.methodLink "BookBindery" (169 : Nat) ({ cls := "BookBindery$Book", name := "countWrong", desc := "()I" } : Jvm.MethodName)) ∈ ab_wG := ab_in4 85 rfl rfl
theorem ab_w779 : (Jvm.Cond.instanceMethod ({ cls := "BookBindery$Book", name := "countWrong", desc := "()I" } : Jvm.MethodName)) ∈ ab_wG := ab_in3 32 rfl rfl
theorem ab_w780 : (Jvm.Cond.selects "BookBindery$Book" ({ cls := "BookBindery$Book", name := "countWrong", desc := "()I" } : Jvm.MethodName) ({ cls := "BookBindery$Book", name := "countWrong", desc := "()I" } : Jvm.MethodName)) ∈ ab_wG := ab_in3 33 rfl rfl
theorem ab_w781 : (Jvm.Cond.code ({ cls := "BookBindery$Book", name := "countWrong", desc := "()I" } : Jvm.MethodName) prog_3_method_16_code (6 : Nat) (Option.some Jvm.ClassFile.FieldType.int)) ∈ ab_wG := ab_in3 34 rfl rfl
theorem ab_w782 : (Jvm.Cond.methodLink "BookBindery" (281 : Nat) ({ cls := "java/lang/StringBuilder", name := "length", desc := "()I" } : Jvm.MethodName)) ∈ ab_wG := ab_in6 178 rfl rfl
theorem ab_w783 : (Jvm.Cond.instanceMethod ({ cls := "java/lang/StringBuilder", name := "length", desc := "()I" } : Jvm.MethodName)) ∈ ab_wG := ab_in6 88 rfl rfl
theorem ab_w784 : (Jvm.Cond.selects "java/lang/StringBuilder" ({ cls := "java/lang/StringBuilder", name := "length", desc := "()I" } : Jvm.MethodName) ({ cls := "java/lang/StringBuilder", name := "length", desc := "()I" } : Jvm.MethodName)) ∈ ab_wG := ab_in8 222 rfl rfl
theorem ab_w785 : (Jvm.Cond.code ({ cls := "java/lang/StringBuilder", name := "length", desc := "()I" } : Jvm.MethodName) prog_27_method_93_code (1 : Nat) (Option.some Jvm.ClassFile.FieldType.int)) ∈ ab_wG := ab_in6 89 rfl rfl
theorem ab_w786 : (Jvm.Cond.classLink "BookBindery" (283 : Nat) "java/lang/IndexOutOfBoundsException") ∈ ab_wG := ab_in4 18 rfl rfl
theorem ab_w787 : (Jvm.Cond.initialized "java/lang/IndexOutOfBoundsException") ∈ ab_wG := ab_in1 19 rfl rfl
theorem ab_w788 : (Jvm.Cond.methodLink "BookBindery" (286 : Nat) ({ cls := "java/lang/StringBuilder", name := "charAt", desc := "(I)C" } : Jvm.MethodName)) ∈ ab_wG := ab_in6 186 rfl rfl
theorem ab_w789 : (Jvm.Cond.instanceMethod ({ cls := "java/lang/StringBuilder", name := "charAt", desc := "(I)C" } : Jvm.MethodName)) ∈ ab_wG := ab_in6 187 rfl rfl
theorem ab_w790 : (Jvm.Cond.selects "java/lang/StringBuilder" ({ cls := "java/lang/StringBuilder", name := "charAt", desc := "(I)C" } : Jvm.MethodName) ({ cls := "java/lang/StringBuilder", name := "charAt", desc := "(I)C" } : Jvm.MethodName)) ∈ ab_wG := ab_in6 188 rfl rfl
theorem ab_w791 : (Jvm.Cond.code ({ cls := "java/lang/StringBuilder", name := "charAt", desc := "(I)C" } : Jvm.MethodName) prog_27_method_88_code (2 : Nat) (Option.some Jvm.ClassFile.FieldType.char)) ∈ ab_wG := ab_in6 189 rfl rfl
theorem ab_w792 : (Jvm.Cond.methodLink "BookBindery" (270 : Nat) ({ cls := "java/lang/StringBuilder", name := "setLength", desc := "(I)V" } : Jvm.MethodName)) ∈ ab_wG := ab_in5 172 rfl rfl
theorem ab_w793 : (Jvm.Cond.instanceMethod ({ cls := "java/lang/StringBuilder", name := "setLength", desc := "(I)V" } : Jvm.MethodName)) ∈ ab_wG := ab_in5 173 rfl rfl
theorem ab_w794 : (Jvm.Cond.selects "java/lang/StringBuilder" ({ cls := "java/lang/StringBuilder", name := "setLength", desc := "(I)V" } : Jvm.MethodName) ({ cls := "java/lang/StringBuilder", name := "setLength", desc := "(I)V" } : Jvm.MethodName)) ∈ ab_wG := ab_in5 174 rfl rfl
theorem ab_w795 : (Jvm.Cond.code ({ cls := "java/lang/StringBuilder", name := "setLength", desc := "(I)V" } : Jvm.MethodName) prog_27_method_89_code (2 : Nat) (Option.none : Option Jvm.ClassFile.FieldType)) ∈ ab_wG := ab_in5 175 rfl rfl
theorem ab_w796 : (Jvm.Cond.methodLink "BookBindery" (274 : Nat) ({ cls := "java/lang/StringBuilder", name := "append", desc := "(I)Ljava/lang/StringBuilder;" } : Jvm.MethodName)) ∈ ab_wG := ab_in6 164 rfl rfl
theorem ab_w797 : (Jvm.Cond.instanceMethod ({ cls := "java/lang/StringBuilder", name := "append", desc := "(I)Ljava/lang/StringBuilder;" } : Jvm.MethodName)) ∈ ab_wG := ab_in6 43 rfl rfl
theorem ab_w798 : (Jvm.Cond.selects "java/lang/StringBuilder" ({ cls := "java/lang/StringBuilder", name := "append", desc := "(I)Ljava/lang/StringBuilder;" } : Jvm.MethodName) ({ cls := "java/lang/StringBuilder", name := "append", desc := "(I)Ljava/lang/StringBuilder;" } : Jvm.MethodName)) ∈ ab_wG := ab_in6 44 rfl rfl
theorem ab_w799 : (Jvm.Cond.code ({ cls := "java/lang/StringBuilder", name := "append", desc := "(I)Ljava/lang/StringBuilder;" } : Jvm.MethodName) prog_27_method_15_code (2 : Nat) (Option.some (Jvm.ClassFile.FieldType.object "java/lang/StringBuilder"))) ∈ ab_wG := ab_in6 45 rfl rfl
theorem ab_w800 : (Jvm.Cond.methodLink "BookBindery" (278 : Nat) ({ cls := "java/lang/StringBuilder", name := "append", desc := "(C)Ljava/lang/StringBuilder;" } : Jvm.MethodName)) ∈ ab_wG := ab_in6 165 rfl rfl
theorem ab_w801 : (Jvm.Cond.instanceMethod ({ cls := "java/lang/StringBuilder", name := "append", desc := "(C)Ljava/lang/StringBuilder;" } : Jvm.MethodName)) ∈ ab_wG := ab_in6 166 rfl rfl
theorem ab_w802 : (Jvm.Cond.selects "java/lang/StringBuilder" ({ cls := "java/lang/StringBuilder", name := "append", desc := "(C)Ljava/lang/StringBuilder;" } : Jvm.MethodName) ({ cls := "java/lang/StringBuilder", name := "append", desc := "(C)Ljava/lang/StringBuilder;" } : Jvm.MethodName)) ∈ ab_wG := ab_in6 167 rfl rfl
theorem ab_w803 : (Jvm.Cond.code ({ cls := "java/lang/StringBuilder", name := "append", desc := "(C)Ljava/lang/StringBuilder;" } : Jvm.MethodName) prog_27_method_14_code (2 : Nat) (Option.some (Jvm.ClassFile.FieldType.object "java/lang/StringBuilder"))) ∈ ab_wG := ab_in6 168 rfl rfl
theorem ab_w804 : (Jvm.Cond.fieldLink "BookBindery" (121 : Nat) "BookBindery$Book" "signatures" "I") ∈ ab_wG := ab_in1 72 rfl rfl
theorem ab_w805 : (Jvm.Cond.fieldLink "BookBindery" (147 : Nat) "BookBindery$Book" "first" "[I") ∈ ab_wG := ab_in1 88 rfl rfl
theorem ab_w806 : (Jvm.Cond.fieldLink "BookBindery" (150 : Nat) "BookBindery$Book" "last" "[I") ∈ ab_wG := ab_in1 90 rfl rfl
theorem ab_w807 : (Jvm.Cond.fieldLink "BookBindery" (156 : Nat) "BookBindery$Book" "turned" "[Z") ∈ ab_wG := ab_in1 94 rfl rfl
theorem ab_w808 : (Jvm.Cond.fieldLink "BookBindery" (124 : Nat) "BookBindery$Book" "sewn" "I") ∈ ab_wG := ab_in1 76 rfl rfl
theorem ab_w809 : (Jvm.Cond.fieldLink "BookBindery" (261 : Nat) "BookBindery$Bench" "reason" "I") ∈ ab_wG := ab_in1 195 rfl rfl
theorem ab_w810 : (Jvm.Cond.classLink "BookBindery" (179 : Nat) "java/util/NoSuchElementException") ∈ ab_wG := ab_in4 118 rfl rfl
theorem ab_w811 : (Jvm.Cond.initialized "java/util/NoSuchElementException") ∈ ab_wG := ab_in1 22 rfl rfl
theorem ab_w812 : (Jvm.Cond.fieldLink "BookBindery" (264 : Nat) "BookBindery$Bench" "detail" "I") ∈ ab_wG := ab_in1 197 rfl rfl
theorem ab_w813 : (Jvm.Cond.fieldLink "BookBindery" (267 : Nat) "BookBindery$Bench" "refusedCommand" "I") ∈ ab_wG := ab_in1 199 rfl rfl
theorem ab_w814 : (Jvm.Cond.methodLink "BookBindery" (248 : Nat) ({ cls := "BookBindery$CommandText", name := "findFault", desc := "()I" } : Jvm.MethodName)) ∈ ab_wG := ab_in5 40 rfl rfl
theorem ab_w815 : (Jvm.Cond.instanceMethod ({ cls := "BookBindery$CommandText", name := "findFault", desc := "()I" } : Jvm.MethodName)) ∈ ab_wG := ab_in5 41 rfl rfl
theorem ab_w816 : (Jvm.Cond.selects "BookBindery$CommandText" ({ cls := "BookBindery$CommandText", name := "findFault", desc := "()I" } : Jvm.MethodName) ({ cls := "BookBindery$CommandText", name := "findFault", desc := "()I" } : Jvm.MethodName)) ∈ ab_wG := ab_in5 42 rfl rfl
theorem ab_w817 : (Jvm.Cond.code ({ cls := "BookBindery$CommandText", name := "findFault", desc := "()I" } : Jvm.MethodName) prog_4_method_5_code (2 : Nat) (Option.some Jvm.ClassFile.FieldType.int)) ∈ ab_wG := ab_in5 43 rfl rfl
theorem ab_w818 : (Jvm.Cond.methodLink "BookBindery" (251 : Nat) ({ cls := "BookBindery$CommandText", name := "clear", desc := "()V" } : Jvm.MethodName)) ∈ ab_wG := ab_in5 128 rfl rfl
theorem ab_w819 : (Jvm.Cond.instanceMethod ({ cls := "BookBindery$CommandText", name := "clear", desc := "()V" } : Jvm.MethodName)) ∈ ab_wG := ab_in5 129 rfl rfl
theorem ab_w820 : (Jvm.Cond.selects "BookBindery$CommandText" ({ cls := "BookBindery$CommandText", name := "clear", desc := "()V" } : Jvm.MethodName) ({ cls := "BookBindery$CommandText", name := "clear", desc := "()V" } : Jvm.MethodName)) ∈ ab_wG := ab_in5 130 rfl rfl
theorem ab_w821 : (Jvm.Cond.code ({ cls := "BookBindery$CommandText", name := "clear", desc := "()V" } : Jvm.MethodName) prog_4_method_3_code (1 : Nat) (Option.none : Option Jvm.ClassFile.FieldType)) ∈ ab_wG := ab_in5 131 rfl rfl
theorem ab_w822 : (Jvm.Cond.methodLink "BookBindery" (56 : Nat) ({ cls := "BookBindery$History", name := "note", desc := "(LBookBindery$Shop;)V" } : Jvm.MethodName)) ∈ ab_wG := ab_in2 128 rfl rfl
theorem ab_w823 : (Jvm.Cond.instanceMethod ({ cls := "BookBindery$History", name := "note", desc := "(LBookBindery$Shop;)V" } : Jvm.MethodName)) ∈ ab_wG := ab_in2 129 rfl rfl
theorem ab_w824 : (Jvm.Cond.selects "BookBindery$History" ({ cls := "BookBindery$History", name := "note", desc := "(LBookBindery$Shop;)V" } : Jvm.MethodName) ({ cls := "BookBindery$History", name := "note", desc := "(LBookBindery$Shop;)V" } : Jvm.MethodName)) ∈ ab_wG := ab_in2 130 rfl rfl
theorem ab_w825 : (Jvm.Cond.code ({ cls := "BookBindery$History", name := "note", desc := "(LBookBindery$Shop;)V" } : Jvm.MethodName) prog_5_method_2_code (2 : Nat) (Option.none : Option Jvm.ClassFile.FieldType)) ∈ ab_wG := ab_in2 131 rfl rfl
theorem ab_w826 : (Jvm.Cond.methodLink "BookBindery" (254 : Nat) ({ cls := "BookBindery$Bench", name := "carryOut", desc := "(LBookBindery$CommandText;)I" } : Jvm.MethodName)) ∈ ab_wG := ab_in5 132 rfl rfl
theorem ab_w827 : (Jvm.Cond.instanceMethod ({ cls := "BookBindery$Bench", name := "carryOut", desc := "(LBookBindery$CommandText;)I" } : Jvm.MethodName)) ∈ ab_wG := ab_in5 133 rfl rfl
theorem ab_w828 : (Jvm.Cond.selects "BookBindery$Bench" ({ cls := "BookBindery$Bench", name := "carryOut", desc := "(LBookBindery$CommandText;)I" } : Jvm.MethodName) ({ cls := "BookBindery$Bench", name := "carryOut", desc := "(LBookBindery$CommandText;)I" } : Jvm.MethodName)) ∈ ab_wG := ab_in5 134 rfl rfl
theorem ab_w829 : (Jvm.Cond.code ({ cls := "BookBindery$Bench", name := "carryOut", desc := "(LBookBindery$CommandText;)I" } : Jvm.MethodName) prog_2_method_15_code (5 : Nat) (Option.some Jvm.ClassFile.FieldType.int)) ∈ ab_wG := ab_in5 135 rfl rfl
theorem ab_w830 : (Jvm.Cond.methodLink "BookBindery" (258 : Nat) ({ cls := "BookBindery$History", name := "takeBackNoted", desc := "(LBookBindery$Shop;)V" } : Jvm.MethodName)) ∈ ab_wG := ab_in5 154 rfl rfl
theorem ab_w831 : (Jvm.Cond.instanceMethod ({ cls := "BookBindery$History", name := "takeBackNoted", desc := "(LBookBindery$Shop;)V" } : Jvm.MethodName)) ∈ ab_wG := ab_in5 155 rfl rfl
theorem ab_w832 : (Jvm.Cond.selects "BookBindery$History" ({ cls := "BookBindery$History", name := "takeBackNoted", desc := "(LBookBindery$Shop;)V" } : Jvm.MethodName) ({ cls := "BookBindery$History", name := "takeBackNoted", desc := "(LBookBindery$Shop;)V" } : Jvm.MethodName)) ∈ ab_wG := ab_in5 156 rfl rfl
theorem ab_w833 : (Jvm.Cond.code ({ cls := "BookBindery$History", name := "takeBackNoted", desc := "(LBookBindery$Shop;)V" } : Jvm.MethodName) prog_5_method_3_code (2 : Nat) (Option.none : Option Jvm.ClassFile.FieldType)) ∈ ab_wG := ab_in5 157 rfl rfl
theorem ab_w834 : (Jvm.Cond.methodLink "BookBindery" (64 : Nat) ({ cls := "BookBindery", name := "changedBy", desc := "(I)I" } : Jvm.MethodName)) ∈ ab_wG := ab_in2 148 rfl rfl
theorem ab_w835 : (Jvm.Cond.instanceMethod ({ cls := "BookBindery", name := "changedBy", desc := "(I)I" } : Jvm.MethodName)) ∈ ab_wG := ab_in2 150 rfl rfl
theorem ab_w836 : (Jvm.Cond.selects "BookBindery" ({ cls := "BookBindery", name := "changedBy", desc := "(I)I" } : Jvm.MethodName) ({ cls := "BookBindery", name := "changedBy", desc := "(I)I" } : Jvm.MethodName)) ∈ ab_wG := ab_inp1 1 rfl
theorem ab_w837 : (Jvm.Cond.code ({ cls := "BookBindery", name := "changedBy", desc := "(I)I" } : Jvm.MethodName) prog_1_method_43_code (2 : Nat) (Option.some Jvm.ClassFile.FieldType.int)) ∈ ab_wG := ab_in2 151 rfl rfl
theorem ab_w838 : (Jvm.Cond.methodLink "BookBinderyModel" (195 : Nat) ({ cls := "BookBinderyModel", name := "commandHere", desc := "()Z" } : Jvm.MethodName)) ∈ ab_wG := ab_in8 121 rfl rfl
theorem ab_w839 : (Jvm.Cond.instanceMethod ({ cls := "BookBinderyModel", name := "commandHere", desc := "()Z" } : Jvm.MethodName)) ∈ ab_wG := ab_in8 123 rfl rfl
theorem ab_w840 : (Jvm.Cond.selects "BookBinderyModel" ({ cls := "BookBinderyModel", name := "commandHere", desc := "()Z" } : Jvm.MethodName) ({ cls := "BookBinderyModel", name := "commandHere", desc := "()Z" } : Jvm.MethodName)) ∈ ab_wG := ab_inp4 5 rfl
theorem ab_w841 : (Jvm.Cond.code ({ cls := "BookBinderyModel", name := "commandHere", desc := "()Z" } : Jvm.MethodName) prog_9_method_73_code (2 : Nat) (Option.some Jvm.ClassFile.FieldType.boolean)) ∈ ab_wG := ab_in8 124 rfl rfl
theorem ab_w842 : (Jvm.Cond.methodLink "BookBinderyModel" (186 : Nat) ({ cls := "BookBinderyModel", name := "skips", desc := "(I)Z" } : Jvm.MethodName)) ∈ ab_wG := ab_in8 129 rfl rfl
theorem ab_w843 : (Jvm.Cond.instanceMethod ({ cls := "BookBinderyModel", name := "skips", desc := "(I)Z" } : Jvm.MethodName)) ∈ ab_wG := ab_in8 131 rfl rfl
theorem ab_w844 : (Jvm.Cond.selects "BookBinderyModel" ({ cls := "BookBinderyModel", name := "skips", desc := "(I)Z" } : Jvm.MethodName) ({ cls := "BookBinderyModel", name := "skips", desc := "(I)Z" } : Jvm.MethodName)) ∈ ab_wG := ab_inp4 7 rfl
theorem ab_w845 : (Jvm.Cond.code ({ cls := "BookBinderyModel", name := "skips", desc := "(I)Z" } : Jvm.MethodName) prog_9_method_70_code (2 : Nat) (Option.some Jvm.ClassFile.FieldType.boolean)) ∈ ab_wG := ab_in8 132 rfl rfl
theorem ab_w846 : (Jvm.Cond.methodLink "BookBinderyModel" (224 : Nat) ({ cls := "BookBinderyModel", name := "pass", desc := "(I)I" } : Jvm.MethodName)) ∈ ab_wG := ab_in8 153 rfl rfl
theorem ab_w847 : (Jvm.Cond.methodLink "BookBinderyModel" (206 : Nat) ({ cls := "BookBinderyModel", name := "unpick", desc := "(I)I" } : Jvm.MethodName)) ∈ ab_wG := ab_in8 147 rfl rfl
theorem ab_w848 : (Jvm.Cond.methodLink "BookBinderyModel" (215 : Nat) ({ cls := "BookBinderyModel", name := "lift", desc := "(I)I" } : Jvm.MethodName)) ∈ ab_wG := ab_in8 150 rfl rfl
theorem ab_w849 : (Jvm.Cond.methodLink "BookBinderyModel" (203 : Nat) ({ cls := "BookBinderyModel", name := "sew", desc := "(I)I" } : Jvm.MethodName)) ∈ ab_wG := ab_in8 146 rfl rfl
theorem ab_w850 : (Jvm.Cond.methodLink "BookBinderyModel" (212 : Nat) ({ cls := "BookBinderyModel", name := "press", desc := "(II)I" } : Jvm.MethodName)) ∈ ab_wG := ab_in8 149 rfl rfl
theorem ab_w851 : (Jvm.Cond.methodLink "BookBinderyModel" (209 : Nat) ({ cls := "BookBinderyModel", name := "glue", desc := "(II)I" } : Jvm.MethodName)) ∈ ab_wG := ab_in8 148 rfl rfl
theorem ab_w852 : (Jvm.Cond.methodLink "BookBinderyModel" (199 : Nat) ({ cls := "BookBinderyModel", name := "gather", desc := "(IIIZ)I" } : Jvm.MethodName)) ∈ ab_wG := ab_in8 145 rfl rfl
theorem ab_w853 : (Jvm.Cond.methodLink "BookBinderyModel" (218 : Nat) ({ cls := "BookBinderyModel", name := "slip", desc := "(II)I" } : Jvm.MethodName)) ∈ ab_wG := ab_in8 151 rfl rfl
theorem ab_w854 : (Jvm.Cond.methodLink "BookBinderyModel" (221 : Nat) ({ cls := "BookBinderyModel", name := "deliver", desc := "(I)I" } : Jvm.MethodName)) ∈ ab_wG := ab_in8 152 rfl rfl
theorem ab_w855 : (Jvm.Cond.methodLink "BookBindery" (244 : Nat) ({ cls := "BookBindery$CommandText", name := "add", desc := "(C)I" } : Jvm.MethodName)) ∈ ab_wG := ab_in5 29 rfl rfl
theorem ab_w856 : (Jvm.Cond.instanceMethod ({ cls := "BookBindery$CommandText", name := "add", desc := "(C)I" } : Jvm.MethodName)) ∈ ab_wG := ab_in5 30 rfl rfl
theorem ab_w857 : (Jvm.Cond.selects "BookBindery$CommandText" ({ cls := "BookBindery$CommandText", name := "add", desc := "(C)I" } : Jvm.MethodName) ({ cls := "BookBindery$CommandText", name := "add", desc := "(C)I" } : Jvm.MethodName)) ∈ ab_wG := ab_in5 31 rfl rfl
theorem ab_w858 : (Jvm.Cond.code ({ cls := "BookBindery$CommandText", name := "add", desc := "(C)I" } : Jvm.MethodName) prog_4_method_2_code (2 : Nat) (Option.some Jvm.ClassFile.FieldType.int)) ∈ ab_wG := ab_in5 32 rfl rfl
theorem ab_w859 : (Jvm.Cond.fieldLink "BookBindery" (216 : Nat) "BookBindery$Shop" "books" "[LBookBindery$Book;") ∈ ab_wG := ab_in1 144 rfl rfl
theorem ab_w860 : (Jvm.Cond.methodLink "BookBindery" (232 : Nat) ({ cls := "BookBindery$Book", name := "weight", desc := "()I" } : Jvm.MethodName)) ∈ ab_wG := ab_in4 236 rfl rfl
theorem ab_w861 : (Jvm.Cond.instanceMethod ({ cls := "BookBindery$Book", name := "weight", desc := "()I" } : Jvm.MethodName)) ∈ ab_wG := ab_in4 237 rfl rfl
theorem ab_w862 : (Jvm.Cond.selects "BookBindery$Book" ({ cls := "BookBindery$Book", name := "weight", desc := "()I" } : Jvm.MethodName) ({ cls := "BookBindery$Book", name := "weight", desc := "()I" } : Jvm.MethodName)) ∈ ab_wG := ab_in4 238 rfl rfl
theorem ab_w863 : (Jvm.Cond.code ({ cls := "BookBindery$Book", name := "weight", desc := "()I" } : Jvm.MethodName) prog_3_method_30_code (1 : Nat) (Option.some Jvm.ClassFile.FieldType.int)) ∈ ab_wG := ab_in4 239 rfl rfl
theorem ab_w864 : (Jvm.Cond.methodLink "BookBindery" (235 : Nat) ({ cls := "BookBindery", name := "countAheadOf", desc := "(I)I" } : Jvm.MethodName)) ∈ ab_wG := ab_in5 2 rfl rfl
theorem ab_w865 : (Jvm.Cond.instanceMethod ({ cls := "BookBindery", name := "countAheadOf", desc := "(I)I" } : Jvm.MethodName)) ∈ ab_wG := ab_in5 4 rfl rfl
theorem ab_w866 : (Jvm.Cond.selects "BookBindery" ({ cls := "BookBindery", name := "countAheadOf", desc := "(I)I" } : Jvm.MethodName) ({ cls := "BookBindery", name := "countAheadOf", desc := "(I)I" } : Jvm.MethodName)) ∈ ab_wG := ab_inp1 14 rfl
theorem ab_w867 : (Jvm.Cond.code ({ cls := "BookBindery", name := "countAheadOf", desc := "(I)I" } : Jvm.MethodName) prog_1_method_50_code (5 : Nat) (Option.some Jvm.ClassFile.FieldType.int)) ∈ ab_wG := ab_in5 5 rfl rfl
theorem ab_w868 : (Jvm.Cond.methodLink "BookBindery" (213 : Nat) ({ cls := "BookBindery", name := "filledPress", desc := "(I)LBookBindery$Press;" } : Jvm.MethodName)) ∈ ab_wG := ab_in4 213 rfl rfl
theorem ab_w869 : (Jvm.Cond.instanceMethod ({ cls := "BookBindery", name := "filledPress", desc := "(I)LBookBindery$Press;" } : Jvm.MethodName)) ∈ ab_wG := ab_in4 215 rfl rfl
theorem ab_w870 : (Jvm.Cond.selects "BookBindery" ({ cls := "BookBindery", name := "filledPress", desc := "(I)LBookBindery$Press;" } : Jvm.MethodName) ({ cls := "BookBindery", name := "filledPress", desc := "(I)LBookBindery$Press;" } : Jvm.MethodName)) ∈ ab_wG := ab_inp1 12 rfl
theorem ab_w871 : (Jvm.Cond.code ({ cls := "BookBindery", name := "filledPress", desc := "(I)LBookBindery$Press;" } : Jvm.MethodName) prog_1_method_48_code (3 : Nat) (Option.some (Jvm.ClassFile.FieldType.object "BookBindery$Press"))) ∈ ab_wG := ab_in4 216 rfl rfl
theorem ab_w872 : (Jvm.Cond.methodLink "BookBindery" (225 : Nat) ({ cls := "BookBindery", name := "isAllSetAfter", desc := "(LBookBindery$Press;I)Z" } : Jvm.MethodName)) ∈ ab_wG := ab_in4 225 rfl rfl
theorem ab_w873 : (Jvm.Cond.instanceMethod ({ cls := "BookBindery", name := "isAllSetAfter", desc := "(LBookBindery$Press;I)Z" } : Jvm.MethodName)) ∈ ab_wG := ab_in4 227 rfl rfl
theorem ab_w874 : (Jvm.Cond.selects "BookBindery" ({ cls := "BookBindery", name := "isAllSetAfter", desc := "(LBookBindery$Press;I)Z" } : Jvm.MethodName) ({ cls := "BookBindery", name := "isAllSetAfter", desc := "(LBookBindery$Press;I)Z" } : Jvm.MethodName)) ∈ ab_wG := ab_inp1 13 rfl
theorem ab_w875 : (Jvm.Cond.code ({ cls := "BookBindery", name := "isAllSetAfter", desc := "(LBookBindery$Press;I)Z" } : Jvm.MethodName) prog_1_method_49_code (4 : Nat) (Option.some Jvm.ClassFile.FieldType.boolean)) ∈ ab_wG := ab_in4 228 rfl rfl
theorem ab_w876 : (Jvm.Cond.fieldLink "BookBindery" (205 : Nat) "BookBindery$Press" "height" "I") ∈ ab_wG := ab_in1 136 rfl rfl
theorem ab_w877 : (Jvm.Cond.fieldLink "BookBindery" (210 : Nat) "BookBindery$Press" "stack" "[I") ∈ ab_wG := ab_in1 133 rfl rfl
theorem ab_w878 : (Jvm.Cond.fieldLink "BookBindery" (137 : Nat) "BookBindery$Book" "minutesLeft" "I") ∈ ab_wG := ab_in1 86 rfl rfl
theorem ab_w879 : (Jvm.Cond.methodLink "BookBindery" (220 : Nat) ({ cls := "java/lang/Math", name := "max", desc := "(II)I" } : Jvm.MethodName)) ∈ ab_wG := ab_in4 217 rfl rfl
theorem ab_w880 : (Jvm.Cond.static ({ cls := "java/lang/Math", name := "max", desc := "(II)I" } : Jvm.MethodName)) ∈ ab_wG := ab_in4 107 rfl rfl
theorem ab_w881 : (Jvm.Cond.initialized "java/lang/Math") ∈ ab_wG := ab_in1 18 rfl rfl
theorem ab_w882 : (Jvm.Cond.code ({ cls := "java/lang/Math", name := "max", desc := "(II)I" } : Jvm.MethodName) prog_23_method_65_code (2 : Nat) (Option.some Jvm.ClassFile.FieldType.int)) ∈ ab_wG := ab_in4 108 rfl rfl
theorem ab_w883 : (Jvm.Cond.methodLink "BookBindery" (201 : Nat) ({ cls := "BookBindery", name := "existingPress", desc := "(I)LBookBindery$Press;" } : Jvm.MethodName)) ∈ ab_wG := ab_in4 201 rfl rfl
theorem ab_w884 : (Jvm.Cond.instanceMethod ({ cls := "BookBindery", name := "existingPress", desc := "(I)LBookBindery$Press;" } : Jvm.MethodName)) ∈ ab_wG := ab_in4 203 rfl rfl
theorem ab_w885 : (Jvm.Cond.selects "BookBindery" ({ cls := "BookBindery", name := "existingPress", desc := "(I)LBookBindery$Press;" } : Jvm.MethodName) ({ cls := "BookBindery", name := "existingPress", desc := "(I)LBookBindery$Press;" } : Jvm.MethodName)) ∈ ab_wG := ab_inp1 11 rfl
theorem ab_w886 : (Jvm.Cond.code ({ cls := "BookBindery", name := "existingPress", desc := "(I)LBookBindery$Press;" } : Jvm.MethodName) prog_1_method_47_code (2 : Nat) (Option.some (Jvm.ClassFile.FieldType.object "BookBindery$Press"))) ∈ ab_wG := ab_in4 204 rfl rfl
theorem ab_w887 : (Jvm.Cond.methodLink "BookBindery" (163 : Nat) ({ cls := "BookBindery", name := "withPosition", desc := "(II)LBookBindery$Book;" } : Jvm.MethodName)) ∈ ab_wG := ab_in4 69 rfl rfl
theorem ab_w888 : (Jvm.Cond.instanceMethod ({ cls := "BookBindery", name := "withPosition", desc := "(II)LBookBindery$Book;" } : Jvm.MethodName)) ∈ ab_wG := ab_in4 71 rfl rfl
theorem ab_w889 : (Jvm.Cond.selects "BookBindery" ({ cls := "BookBindery", name := "withPosition", desc := "(II)LBookBindery$Book;" } : Jvm.MethodName) ({ cls := "BookBindery", name := "withPosition", desc := "(II)LBookBindery$Book;" } : Jvm.MethodName)) ∈ ab_wG := ab_inp1 8 rfl
theorem ab_w890 : (Jvm.Cond.code ({ cls := "BookBindery", name := "withPosition", desc := "(II)LBookBindery$Book;" } : Jvm.MethodName) prog_1_method_46_code (4 : Nat) (Option.some (Jvm.ClassFile.FieldType.object "BookBindery$Book"))) ∈ ab_wG := ab_in4 72 rfl rfl
theorem ab_w891 : (Jvm.Cond.methodLink "BookBindery" (197 : Nat) ({ cls := "BookBindery$Book", name := "isSlipped", desc := "(I)Z" } : Jvm.MethodName)) ∈ ab_wG := ab_in4 193 rfl rfl
theorem ab_w892 : (Jvm.Cond.instanceMethod ({ cls := "BookBindery$Book", name := "isSlipped", desc := "(I)Z" } : Jvm.MethodName)) ∈ ab_wG := ab_in3 155 rfl rfl
theorem ab_w893 : (Jvm.Cond.selects "BookBindery$Book" ({ cls := "BookBindery$Book", name := "isSlipped", desc := "(I)Z" } : Jvm.MethodName) ({ cls := "BookBindery$Book", name := "isSlipped", desc := "(I)Z" } : Jvm.MethodName)) ∈ ab_wG := ab_in3 156 rfl rfl
theorem ab_w894 : (Jvm.Cond.code ({ cls := "BookBindery$Book", name := "isSlipped", desc := "(I)Z" } : Jvm.MethodName) prog_3_method_28_code (3 : Nat) (Option.some Jvm.ClassFile.FieldType.boolean)) ∈ ab_wG := ab_in3 157 rfl rfl
theorem ab_w895 : (Jvm.Cond.methodLink "BookBindery" (194 : Nat) ({ cls := "BookBindery$Book", name := "threadLacking", desc := "()I" } : Jvm.MethodName)) ∈ ab_wG := ab_in4 181 rfl rfl
theorem ab_w896 : (Jvm.Cond.instanceMethod ({ cls := "BookBindery$Book", name := "threadLacking", desc := "()I" } : Jvm.MethodName)) ∈ ab_wG := ab_in4 182 rfl rfl
theorem ab_w897 : (Jvm.Cond.selects "BookBindery$Book" ({ cls := "BookBindery$Book", name := "threadLacking", desc := "()I" } : Jvm.MethodName) ({ cls := "BookBindery$Book", name := "threadLacking", desc := "()I" } : Jvm.MethodName)) ∈ ab_wG := ab_in4 183 rfl rfl
theorem ab_w898 : (Jvm.Cond.code ({ cls := "BookBindery$Book", name := "threadLacking", desc := "()I" } : Jvm.MethodName) prog_3_method_27_code (3 : Nat) (Option.some Jvm.ClassFile.FieldType.int)) ∈ ab_wG := ab_in4 184 rfl rfl
theorem ab_w899 : (Jvm.Cond.methodLink "BookBindery" (143 : Nat) ({ cls := "BookBindery", name := "withPlace", desc := "(II)LBookBindery$Book;" } : Jvm.MethodName)) ∈ ab_wG := ab_in4 56 rfl rfl
theorem ab_w900 : (Jvm.Cond.instanceMethod ({ cls := "BookBindery", name := "withPlace", desc := "(II)LBookBindery$Book;" } : Jvm.MethodName)) ∈ ab_wG := ab_in4 58 rfl rfl
theorem ab_w901 : (Jvm.Cond.selects "BookBindery" ({ cls := "BookBindery", name := "withPlace", desc := "(II)LBookBindery$Book;" } : Jvm.MethodName) ({ cls := "BookBindery", name := "withPlace", desc := "(II)LBookBindery$Book;" } : Jvm.MethodName)) ∈ ab_wG := ab_inp1 7 rfl
theorem ab_w902 : (Jvm.Cond.code ({ cls := "BookBindery", name := "withPlace", desc := "(II)LBookBindery$Book;" } : Jvm.MethodName) prog_1_method_45_code (4 : Nat) (Option.some (Jvm.ClassFile.FieldType.object "BookBindery$Book"))) ∈ ab_wG := ab_in4 59 rfl rfl
theorem ab_w903 : (Jvm.Cond.methodLink "BookBindery" (191 : Nat) ({ cls := "BookBindery$Book", name := "placeByFirstPage", desc := "(I)I" } : Jvm.MethodName)) ∈ ab_wG := ab_in4 170 rfl rfl
theorem ab_w904 : (Jvm.Cond.instanceMethod ({ cls := "BookBindery$Book", name := "placeByFirstPage", desc := "(I)I" } : Jvm.MethodName)) ∈ ab_wG := ab_in4 171 rfl rfl
theorem ab_w905 : (Jvm.Cond.selects "BookBindery$Book" ({ cls := "BookBindery$Book", name := "placeByFirstPage", desc := "(I)I" } : Jvm.MethodName) ({ cls := "BookBindery$Book", name := "placeByFirstPage", desc := "(I)I" } : Jvm.MethodName)) ∈ ab_wG := ab_in4 172 rfl rfl
theorem ab_w906 : (Jvm.Cond.code ({ cls := "BookBindery$Book", name := "placeByFirstPage", desc := "(I)I" } : Jvm.MethodName) prog_3_method_25_code (5 : Nat) (Option.some Jvm.ClassFile.FieldType.int)) ∈ ab_wG := ab_in4 173 rfl rfl
theorem ab_w907 : (Jvm.Cond.methodLink "BookBindery" (188 : Nat) ({ cls := "BookBindery$Book", name := "countRepeated", desc := "()I" } : Jvm.MethodName)) ∈ ab_wG := ab_in4 159 rfl rfl
theorem ab_w908 : (Jvm.Cond.instanceMethod ({ cls := "BookBindery$Book", name := "countRepeated", desc := "()I" } : Jvm.MethodName)) ∈ ab_wG := ab_in4 160 rfl rfl
theorem ab_w909 : (Jvm.Cond.selects "BookBindery$Book" ({ cls := "BookBindery$Book", name := "countRepeated", desc := "()I" } : Jvm.MethodName) ({ cls := "BookBindery$Book", name := "countRepeated", desc := "()I" } : Jvm.MethodName)) ∈ ab_wG := ab_in4 161 rfl rfl
theorem ab_w910 : (Jvm.Cond.code ({ cls := "BookBindery$Book", name := "countRepeated", desc := "()I" } : Jvm.MethodName) prog_3_method_24_code (3 : Nat) (Option.some Jvm.ClassFile.FieldType.int)) ∈ ab_wG := ab_in4 162 rfl rfl
theorem ab_w911 : (Jvm.Cond.methodLink "BookBindery" (185 : Nat) ({ cls := "BookBindery$Book", name := "findMissing", desc := "(I)I" } : Jvm.MethodName)) ∈ ab_wG := ab_in4 148 rfl rfl
theorem ab_w912 : (Jvm.Cond.instanceMethod ({ cls := "BookBindery$Book", name := "findMissing", desc := "(I)I" } : Jvm.MethodName)) ∈ ab_wG := ab_in4 149 rfl rfl
theorem ab_w913 : (Jvm.Cond.selects "BookBindery$Book" ({ cls := "BookBindery$Book", name := "findMissing", desc := "(I)I" } : Jvm.MethodName) ({ cls := "BookBindery$Book", name := "findMissing", desc := "(I)I" } : Jvm.MethodName)) ∈ ab_wG := ab_in4 150 rfl rfl
theorem ab_w914 : (Jvm.Cond.code ({ cls := "BookBindery$Book", name := "findMissing", desc := "(I)I" } : Jvm.MethodName) prog_3_method_23_code (4 : Nat) (Option.some Jvm.ClassFile.FieldType.int)) ∈ ab_wG := ab_in4 151 rfl rfl
theorem ab_w915 : (Jvm.Cond.methodLink "BookBindery" (182 : Nat) ({ cls := "BookBindery$Book", name := "countMissing", desc := "()I" } : Jvm.MethodName)) ∈ ab_wG := ab_in4 140 rfl rfl
theorem ab_w916 : (Jvm.Cond.instanceMethod ({ cls := "BookBindery$Book", name := "countMissing", desc := "()I" } : Jvm.MethodName)) ∈ ab_wG := ab_in3 179 rfl rfl
theorem ab_w917 : (Jvm.Cond.selects "BookBindery$Book" ({ cls := "BookBindery$Book", name := "countMissing", desc := "()I" } : Jvm.MethodName) ({ cls := "BookBindery$Book", name := "countMissing", desc := "()I" } : Jvm.MethodName)) ∈ ab_wG := ab_in3 180 rfl rfl
theorem ab_w918 : (Jvm.Cond.code ({ cls := "BookBindery$Book", name := "countMissing", desc := "()I" } : Jvm.MethodName) prog_3_method_22_code (3 : Nat) (Option.some Jvm.ClassFile.FieldType.int)) ∈ ab_wG := ab_in3 181 rfl rfl
theorem ab_w919 : (Jvm.Cond.methodLink "BookBindery" (175 : Nat) ({ cls := "BookBindery$Book", name := "findWrong", desc := "(Z)I" } : Jvm.MethodName)) ∈ ab_wG := ab_in4 117 rfl rfl
theorem ab_w920 : (Jvm.Cond.instanceMethod ({ cls := "BookBindery$Book", name := "findWrong", desc := "(Z)I" } : Jvm.MethodName)) ∈ ab_wG := ab_in3 174 rfl rfl
theorem ab_w921 : (Jvm.Cond.selects "BookBindery$Book" ({ cls := "BookBindery$Book", name := "findWrong", desc := "(Z)I" } : Jvm.MethodName) ({ cls := "BookBindery$Book", name := "findWrong", desc := "(Z)I" } : Jvm.MethodName)) ∈ ab_wG := ab_in3 175 rfl rfl
theorem ab_w922 : (Jvm.Cond.code ({ cls := "BookBindery$Book", name := "findWrong", desc := "(Z)I" } : Jvm.MethodName) prog_3_method_20_code (7 : Nat) (Option.some Jvm.ClassFile.FieldType.int)) ∈ ab_wG := ab_in3 176 rfl rfl
theorem ab_w923 : (Jvm.Cond.methodLink "BookBindery" (172 : Nat) ({ cls := "BookBindery$Book", name := "countWrongBySignatures", desc := "()I" } : Jvm.MethodName)) ∈ ab_wG := ab_in4 93 rfl rfl
theorem ab_w924 : (Jvm.Cond.instanceMethod ({ cls := "BookBindery$Book", name := "countWrongBySignatures", desc := "()I" } : Jvm.MethodName)) ∈ ab_wG := ab_in4 94 rfl rfl
theorem ab_w925 : (Jvm.Cond.selects "BookBindery$Book" ({ cls := "BookBindery$Book", name := "countWrongBySignatures", desc := "()I" } : Jvm.MethodName) ({ cls := "BookBindery$Book", name := "countWrongBySignatures", desc := "()I" } : Jvm.MethodName)) ∈ ab_wG := ab_in4 95 rfl rfl
theorem ab_w926 : (Jvm.Cond.code ({ cls := "BookBindery$Book", name := "countWrongBySignatures", desc := "()I" } : Jvm.MethodName) prog_3_method_17_code (4 : Nat) (Option.some Jvm.ClassFile.FieldType.int)) ∈ ab_wG := ab_in4 96 rfl rfl
theorem ab_w927 : (Jvm.Cond.methodLink "BookBindery" (166 : Nat) ({ cls := "BookBindery$Book", name := "pageOn", desc := "(I)I" } : Jvm.MethodName)) ∈ ab_wG := ab_in4 77 rfl rfl
theorem ab_w928 : (Jvm.Cond.instanceMethod ({ cls := "BookBindery$Book", name := "pageOn", desc := "(I)I" } : Jvm.MethodName)) ∈ ab_wG := ab_in3 151 rfl rfl
theorem ab_w929 : (Jvm.Cond.selects "BookBindery$Book" ({ cls := "BookBindery$Book", name := "pageOn", desc := "(I)I" } : Jvm.MethodName) ({ cls := "BookBindery$Book", name := "pageOn", desc := "(I)I" } : Jvm.MethodName)) ∈ ab_wG := ab_in3 152 rfl rfl
theorem ab_w930 : (Jvm.Cond.code ({ cls := "BookBindery$Book", name := "pageOn", desc := "(I)I" } : Jvm.MethodName) prog_3_method_13_code (5 : Nat) (Option.some Jvm.ClassFile.FieldType.int)) ∈ ab_wG := ab_in3 153 rfl rfl
theorem ab_w931 : (Jvm.Cond.methodLink "BookBindery" (160 : Nat) ({ cls := "BookBindery$Book", name := "startOf", desc := "(I)I" } : Jvm.MethodName)) ∈ ab_wG := ab_in4 61 rfl rfl
theorem ab_w932 : (Jvm.Cond.instanceMethod ({ cls := "BookBindery$Book", name := "startOf", desc := "(I)I" } : Jvm.MethodName)) ∈ ab_wG := ab_in3 191 rfl rfl
theorem ab_w933 : (Jvm.Cond.selects "BookBindery$Book" ({ cls := "BookBindery$Book", name := "startOf", desc := "(I)I" } : Jvm.MethodName) ({ cls := "BookBindery$Book", name := "startOf", desc := "(I)I" } : Jvm.MethodName)) ∈ ab_wG := ab_in3 192 rfl rfl
theorem ab_w934 : (Jvm.Cond.code ({ cls := "BookBindery$Book", name := "startOf", desc := "(I)I" } : Jvm.MethodName) prog_3_method_10_code (4 : Nat) (Option.some Jvm.ClassFile.FieldType.int)) ∈ ab_wG := ab_in3 193 rfl rfl
theorem ab_w935 : (Jvm.Cond.fieldLink "BookBindery" (153 : Nat) "BookBindery$Book" "fold" "[I") ∈ ab_wG := ab_in1 92 rfl rfl
theorem ab_w936 : (Jvm.Cond.fieldLink "BookBindery" (134 : Nat) "BookBindery$Book" "glue" "I") ∈ ab_wG := ab_in1 82 rfl rfl
theorem ab_w937 : (Jvm.Cond.fieldLink "BookBindery" (131 : Nat) "BookBindery$Book" "slips" "I") ∈ ab_wG := ab_in1 79 rfl rfl
theorem ab_w938 : (Jvm.Cond.fieldLink "BookBindery" (118 : Nat) "BookBindery$Book" "stage" "I") ∈ ab_wG := ab_in1 68 rfl rfl
theorem ab_w939 : (Jvm.Cond.fieldLink "BookBindery" (115 : Nat) "BookBindery$Book" "stations" "I") ∈ ab_wG := ab_in1 64 rfl rfl
theorem ab_w940 : (Jvm.Cond.fieldLink "BookBindery" (110 : Nat) "BookBindery$Book" "pages" "I") ∈ ab_wG := ab_in1 62 rfl rfl
theorem ab_w941 : (Jvm.Cond.methodLink "BookBindery" (103 : Nat) ({ cls := "BookBindery$Bench", name := "letMinutesGoBy", desc := "(I)I" } : Jvm.MethodName)) ∈ ab_wG := ab_in3 201 rfl rfl
theorem ab_w942 : (Jvm.Cond.instanceMethod ({ cls := "BookBindery$Bench", name := "letMinutesGoBy", desc := "(I)I" } : Jvm.MethodName)) ∈ ab_wG := ab_in3 202 rfl rfl
theorem ab_w943 : (Jvm.Cond.selects "BookBindery$Bench" ({ cls := "BookBindery$Bench", name := "letMinutesGoBy", desc := "(I)I" } : Jvm.MethodName) ({ cls := "BookBindery$Bench", name := "letMinutesGoBy", desc := "(I)I" } : Jvm.MethodName)) ∈ ab_wG := ab_in3 203 rfl rfl
theorem ab_w944 : (Jvm.Cond.code ({ cls := "BookBindery$Bench", name := "letMinutesGoBy", desc := "(I)I" } : Jvm.MethodName) prog_2_method_14_code (4 : Nat) (Option.some Jvm.ClassFile.FieldType.int)) ∈ ab_wG := ab_in3 204 rfl rfl
theorem ab_w945 : (Jvm.Cond.methodLink "BookBindery" (100 : Nat) ({ cls := "BookBindery$Bench", name := "handOver", desc := "(I)I" } : Jvm.MethodName)) ∈ ab_wG := ab_in3 169 rfl rfl
theorem ab_w946 : (Jvm.Cond.instanceMethod ({ cls := "BookBindery$Bench", name := "handOver", desc := "(I)I" } : Jvm.MethodName)) ∈ ab_wG := ab_in3 170 rfl rfl
theorem ab_w947 : (Jvm.Cond.selects "BookBindery$Bench" ({ cls := "BookBindery$Bench", name := "handOver", desc := "(I)I" } : Jvm.MethodName) ({ cls := "BookBindery$Bench", name := "handOver", desc := "(I)I" } : Jvm.MethodName)) ∈ ab_wG := ab_in3 171 rfl rfl
theorem ab_w948 : (Jvm.Cond.code ({ cls := "BookBindery$Bench", name := "handOver", desc := "(I)I" } : Jvm.MethodName) prog_2_method_13_code (6 : Nat) (Option.some Jvm.ClassFile.FieldType.int)) ∈ ab_wG := ab_in3 172 rfl rfl
theorem ab_w949 : (Jvm.Cond.methodLink "BookBindery" (97 : Nat) ({ cls := "BookBindery$Bench", name := "pasteSlip", desc := "(II)I" } : Jvm.MethodName)) ∈ ab_wG := ab_in3 142 rfl rfl
theorem ab_w950 : (Jvm.Cond.instanceMethod ({ cls := "BookBindery$Bench", name := "pasteSlip", desc := "(II)I" } : Jvm.MethodName)) ∈ ab_wG := ab_in3 143 rfl rfl
theorem ab_w951 : (Jvm.Cond.selects "BookBindery$Bench" ({ cls := "BookBindery$Bench", name := "pasteSlip", desc := "(II)I" } : Jvm.MethodName) ({ cls := "BookBindery$Bench", name := "pasteSlip", desc := "(II)I" } : Jvm.MethodName)) ∈ ab_wG := ab_in3 144 rfl rfl
theorem ab_w952 : (Jvm.Cond.code ({ cls := "BookBindery$Bench", name := "pasteSlip", desc := "(II)I" } : Jvm.MethodName) prog_2_method_12_code (4 : Nat) (Option.some Jvm.ClassFile.FieldType.int)) ∈ ab_wG := ab_in3 145 rfl rfl
theorem ab_w953 : (Jvm.Cond.methodLink "BookBindery" (94 : Nat) ({ cls := "BookBindery$Bench", name := "liftTop", desc := "(I)I" } : Jvm.MethodName)) ∈ ab_wG := ab_in3 131 rfl rfl
theorem ab_w954 : (Jvm.Cond.instanceMethod ({ cls := "BookBindery$Bench", name := "liftTop", desc := "(I)I" } : Jvm.MethodName)) ∈ ab_wG := ab_in3 132 rfl rfl
theorem ab_w955 : (Jvm.Cond.selects "BookBindery$Bench" ({ cls := "BookBindery$Bench", name := "liftTop", desc := "(I)I" } : Jvm.MethodName) ({ cls := "BookBindery$Bench", name := "liftTop", desc := "(I)I" } : Jvm.MethodName)) ∈ ab_wG := ab_in3 133 rfl rfl
theorem ab_w956 : (Jvm.Cond.code ({ cls := "BookBindery$Bench", name := "liftTop", desc := "(I)I" } : Jvm.MethodName) prog_2_method_11_code (5 : Nat) (Option.some Jvm.ClassFile.FieldType.int)) ∈ ab_wG := ab_in3 134 rfl rfl
theorem ab_w957 : (Jvm.Cond.methodLink "BookBindery" (91 : Nat) ({ cls := "BookBindery$Bench", name := "layInPress", desc := "(II)I" } : Jvm.MethodName)) ∈ ab_wG := ab_in3 116 rfl rfl
theorem ab_w958 : (Jvm.Cond.instanceMethod ({ cls := "BookBindery$Bench", name := "layInPress", desc := "(II)I" } : Jvm.MethodName)) ∈ ab_wG := ab_in3 117 rfl rfl
theorem ab_w959 : (Jvm.Cond.selects "BookBindery$Bench" ({ cls := "BookBindery$Bench", name := "layInPress", desc := "(II)I" } : Jvm.MethodName) ({ cls := "BookBindery$Bench", name := "layInPress", desc := "(II)I" } : Jvm.MethodName)) ∈ ab_wG := ab_in3 118 rfl rfl
theorem ab_w960 : (Jvm.Cond.code ({ cls := "BookBindery$Bench", name := "layInPress", desc := "(II)I" } : Jvm.MethodName) prog_2_method_10_code (4 : Nat) (Option.some Jvm.ClassFile.FieldType.int)) ∈ ab_wG := ab_in3 119 rfl rfl
theorem ab_w961 : (Jvm.Cond.methodLink "BookBindery" (88 : Nat) ({ cls := "BookBindery$Bench", name := "applyGlue", desc := "(II)I" } : Jvm.MethodName)) ∈ ab_wG := ab_in3 103 rfl rfl
theorem ab_w962 : (Jvm.Cond.instanceMethod ({ cls := "BookBindery$Bench", name := "applyGlue", desc := "(II)I" } : Jvm.MethodName)) ∈ ab_wG := ab_in3 104 rfl rfl
theorem ab_w963 : (Jvm.Cond.selects "BookBindery$Bench" ({ cls := "BookBindery$Bench", name := "applyGlue", desc := "(II)I" } : Jvm.MethodName) ({ cls := "BookBindery$Bench", name := "applyGlue", desc := "(II)I" } : Jvm.MethodName)) ∈ ab_wG := ab_in3 105 rfl rfl
theorem ab_w964 : (Jvm.Cond.code ({ cls := "BookBindery$Bench", name := "applyGlue", desc := "(II)I" } : Jvm.MethodName) prog_2_method_9_code (4 : Nat) (Option.some Jvm.ClassFile.FieldType.int)) ∈ ab_wG := ab_in3 106 rfl rfl
theorem ab_w965 : (Jvm.Cond.methodLink "BookBindery" (85 : Nat) ({ cls := "BookBindery$Bench", name := "unpickLatest", desc := "(I)I" } : Jvm.MethodName)) ∈ ab_wG := ab_in3 92 rfl rfl
theorem ab_w966 : (Jvm.Cond.instanceMethod ({ cls := "BookBindery$Bench", name := "unpickLatest", desc := "(I)I" } : Jvm.MethodName)) ∈ ab_wG := ab_in3 93 rfl rfl
theorem ab_w967 : (Jvm.Cond.selects "BookBindery$Bench" ({ cls := "BookBindery$Bench", name := "unpickLatest", desc := "(I)I" } : Jvm.MethodName) ({ cls := "BookBindery$Bench", name := "unpickLatest", desc := "(I)I" } : Jvm.MethodName)) ∈ ab_wG := ab_in3 94 rfl rfl
theorem ab_w968 : (Jvm.Cond.code ({ cls := "BookBindery$Bench", name := "unpickLatest", desc := "(I)I" } : Jvm.MethodName) prog_2_method_8_code (3 : Nat) (Option.some Jvm.ClassFile.FieldType.int)) ∈ ab_wG := ab_in3 95 rfl rfl
theorem ab_w969 : (Jvm.Cond.methodLink "BookBindery" (82 : Nat) ({ cls := "BookBindery$Bench", name := "sewNext", desc := "(I)I" } : Jvm.MethodName)) ∈ ab_wG := ab_in3 77 rfl rfl
theorem ab_w970 : (Jvm.Cond.instanceMethod ({ cls := "BookBindery$Bench", name := "sewNext", desc := "(I)I" } : Jvm.MethodName)) ∈ ab_wG := ab_in3 78 rfl rfl
theorem ab_w971 : (Jvm.Cond.selects "BookBindery$Bench" ({ cls := "BookBindery$Bench", name := "sewNext", desc := "(I)I" } : Jvm.MethodName) ({ cls := "BookBindery$Bench", name := "sewNext", desc := "(I)I" } : Jvm.MethodName)) ∈ ab_wG := ab_in3 79 rfl rfl
theorem ab_w972 : (Jvm.Cond.code ({ cls := "BookBindery$Bench", name := "sewNext", desc := "(I)I" } : Jvm.MethodName) prog_2_method_7_code (4 : Nat) (Option.some Jvm.ClassFile.FieldType.int)) ∈ ab_wG := ab_in3 80 rfl rfl
theorem ab_w973 : (Jvm.Cond.methodLink "BookBindery" (79 : Nat) ({ cls := "BookBindery$Bench", name := "addThread", desc := "(I)I" } : Jvm.MethodName)) ∈ ab_wG := ab_in3 65 rfl rfl
theorem ab_w974 : (Jvm.Cond.instanceMethod ({ cls := "BookBindery$Bench", name := "addThread", desc := "(I)I" } : Jvm.MethodName)) ∈ ab_wG := ab_in3 66 rfl rfl
theorem ab_w975 : (Jvm.Cond.selects "BookBindery$Bench" ({ cls := "BookBindery$Bench", name := "addThread", desc := "(I)I" } : Jvm.MethodName) ({ cls := "BookBindery$Bench", name := "addThread", desc := "(I)I" } : Jvm.MethodName)) ∈ ab_wG := ab_in3 67 rfl rfl
theorem ab_w976 : (Jvm.Cond.code ({ cls := "BookBindery$Bench", name := "addThread", desc := "(I)I" } : Jvm.MethodName) prog_2_method_6_code (2 : Nat) (Option.some Jvm.ClassFile.FieldType.int)) ∈ ab_wG := ab_in3 68 rfl rfl
theorem ab_w977 : (Jvm.Cond.methodLink "BookBindery" (76 : Nat) ({ cls := "BookBindery$Bench", name := "dropSignature", desc := "(II)I" } : Jvm.MethodName)) ∈ ab_wG := ab_in3 54 rfl rfl
theorem ab_w978 : (Jvm.Cond.instanceMethod ({ cls := "BookBindery$Bench", name := "dropSignature", desc := "(II)I" } : Jvm.MethodName)) ∈ ab_wG := ab_in3 55 rfl rfl
theorem ab_w979 : (Jvm.Cond.selects "BookBindery$Bench" ({ cls := "BookBindery$Bench", name := "dropSignature", desc := "(II)I" } : Jvm.MethodName) ({ cls := "BookBindery$Bench", name := "dropSignature", desc := "(II)I" } : Jvm.MethodName)) ∈ ab_wG := ab_in3 56 rfl rfl
theorem ab_w980 : (Jvm.Cond.code ({ cls := "BookBindery$Bench", name := "dropSignature", desc := "(II)I" } : Jvm.MethodName) prog_2_method_5_code (4 : Nat) (Option.some Jvm.ClassFile.FieldType.int)) ∈ ab_wG := ab_in3 57 rfl rfl
theorem ab_w981 : (Jvm.Cond.methodLink "BookBindery" (72 : Nat) ({ cls := "BookBindery$Bench", name := "moveSignature", desc := "(III)I" } : Jvm.MethodName)) ∈ ab_wG := ab_in3 19 rfl rfl
theorem ab_w982 : (Jvm.Cond.instanceMethod ({ cls := "BookBindery$Bench", name := "moveSignature", desc := "(III)I" } : Jvm.MethodName)) ∈ ab_wG := ab_in3 20 rfl rfl
theorem ab_w983 : (Jvm.Cond.selects "BookBindery$Bench" ({ cls := "BookBindery$Bench", name := "moveSignature", desc := "(III)I" } : Jvm.MethodName) ({ cls := "BookBindery$Bench", name := "moveSignature", desc := "(III)I" } : Jvm.MethodName)) ∈ ab_wG := ab_in3 21 rfl rfl
theorem ab_w984 : (Jvm.Cond.code ({ cls := "BookBindery$Bench", name := "moveSignature", desc := "(III)I" } : Jvm.MethodName) prog_2_method_4_code (5 : Nat) (Option.some Jvm.ClassFile.FieldType.int)) ∈ ab_wG := ab_in3 22 rfl rfl
theorem ab_w985 : (Jvm.Cond.methodLink "BookBindery" (68 : Nat) ({ cls := "BookBindery$Bench", name := "addSignature", desc := "(IIIZ)I" } : Jvm.MethodName)) ∈ ab_wG := ab_in2 235 rfl rfl
theorem ab_w986 : (Jvm.Cond.instanceMethod ({ cls := "BookBindery$Bench", name := "addSignature", desc := "(IIIZ)I" } : Jvm.MethodName)) ∈ ab_wG := ab_in2 236 rfl rfl
theorem ab_w987 : (Jvm.Cond.selects "BookBindery$Bench" ({ cls := "BookBindery$Bench", name := "addSignature", desc := "(IIIZ)I" } : Jvm.MethodName) ({ cls := "BookBindery$Bench", name := "addSignature", desc := "(IIIZ)I" } : Jvm.MethodName)) ∈ ab_wG := ab_in2 237 rfl rfl
theorem ab_w988 : (Jvm.Cond.code ({ cls := "BookBindery$Bench", name := "addSignature", desc := "(IIIZ)I" } : Jvm.MethodName) prog_2_method_3_code (8 : Nat) (Option.some Jvm.ClassFile.FieldType.int)) ∈ ab_wG := ab_in2 238 rfl rfl
theorem ab_w989 : (Jvm.Cond.methodLink "BookBindery" (60 : Nat) ({ cls := "BookBindery$Bench", name := "planBook", desc := "(II)I" } : Jvm.MethodName)) ∈ ab_wG := ab_in2 133 rfl rfl
theorem ab_w990 : (Jvm.Cond.instanceMethod ({ cls := "BookBindery$Bench", name := "planBook", desc := "(II)I" } : Jvm.MethodName)) ∈ ab_wG := ab_in2 134 rfl rfl
theorem ab_w991 : (Jvm.Cond.selects "BookBindery$Bench" ({ cls := "BookBindery$Bench", name := "planBook", desc := "(II)I" } : Jvm.MethodName) ({ cls := "BookBindery$Bench", name := "planBook", desc := "(II)I" } : Jvm.MethodName)) ∈ ab_wG := ab_in2 135 rfl rfl
theorem ab_w992 : (Jvm.Cond.code ({ cls := "BookBindery$Bench", name := "planBook", desc := "(II)I" } : Jvm.MethodName) prog_2_method_2_code (5 : Nat) (Option.some Jvm.ClassFile.FieldType.int)) ∈ ab_wG := ab_in2 136 rfl rfl
theorem ab_w993 : (Jvm.Cond.methodLink "BookBindery$Book" (3 : Nat) ({ cls := "java/lang/Object", name := "<init>", desc := "()V" } : Jvm.MethodName)) ∈ ab_wG := ab_in1 60 rfl rfl
theorem ab_w994 : (Jvm.Cond.fieldLink "BookBindery$Book" (9 : Nat) "BookBindery$Book" "glue" "I") ∈ ab_wG := ab_in1 80 rfl rfl
theorem ab_w995 : (Jvm.Cond.fieldLink "BookBindery$Book" (15 : Nat) "BookBindery$Book" "first" "[I") ∈ ab_wG := ab_in1 87 rfl rfl
theorem ab_w996 : (Jvm.Cond.fieldLink "BookBindery$Book" (19 : Nat) "BookBindery$Book" "last" "[I") ∈ ab_wG := ab_in1 89 rfl rfl
theorem ab_w997 : (Jvm.Cond.fieldLink "BookBindery$Book" (22 : Nat) "BookBindery$Book" "fold" "[I") ∈ ab_wG := ab_in1 91 rfl rfl
theorem ab_w998 : (Jvm.Cond.arrayClass Jvm.ClassFile.FieldType.boolean) ∈ ab_wG := ab_in1 124 rfl rfl
theorem ab_w999 : (Jvm.Cond.fieldLink "BookBindery$Book" (25 : Nat) "BookBindery$Book" "turned" "[Z") ∈ ab_wG := ab_in1 93 rfl rfl
theorem ab_w1000 : (Jvm.Cond.fieldLink "BookBindery$Book" (29 : Nat) "BookBindery$Book" "slipRows" "[J") ∈ ab_wG := ab_in1 95 rfl rfl
theorem ab_w1001 : (Jvm.Cond.methodLink "BookBindery$Press" (3 : Nat) ({ cls := "java/lang/Object", name := "<init>", desc := "()V" } : Jvm.MethodName)) ∈ ab_wG := ab_in1 130 rfl rfl
theorem ab_w1002 : (Jvm.Cond.fieldLink "BookBindery$Press" (9 : Nat) "BookBindery$Press" "stack" "[I") ∈ ab_wG := ab_in1 131 rfl rfl
theorem ab_w1003 : (Jvm.Cond.methodLink "java/lang/AbstractStringBuilder" (3 : Nat) ({ cls := "java/lang/Object", name := "<init>", desc := "()V" } : Jvm.MethodName)) ∈ ab_wG := ab_in2 39 rfl rfl
theorem ab_w1004 : (Jvm.Cond.fieldLink "java/lang/AbstractStringBuilder" (18 : Nat) "java/lang/String" "COMPACT_STRINGS" "Z") ∈ ab_wG := ab_in2 40 rfl rfl
theorem ab_w1005 : (Jvm.Cond.arrayClass Jvm.ClassFile.FieldType.byte) ∈ ab_wG := ab_in2 63 rfl rfl
theorem ab_w1006 : (Jvm.Cond.fieldLink "java/lang/AbstractStringBuilder" (15 : Nat) "java/lang/AbstractStringBuilder" "value" "[B") ∈ ab_wG := ab_in2 49 rfl rfl
theorem ab_w1007 : (Jvm.Cond.fieldLink "java/lang/AbstractStringBuilder" (22 : Nat) "java/lang/AbstractStringBuilder" "coder" "B") ∈ ab_wG := ab_in2 50 rfl rfl
theorem ab_w1008 : (Jvm.Cond.fieldLink "BookBindery$History" (26 : Nat) "BookBindery$History" "kept" "I") ∈ ab_wG := ab_in1 223 rfl rfl
theorem ab_w1009 : (Jvm.Cond.fieldLink "BookBindery$Book" (33 : Nat) "BookBindery$Book" "pages" "I") ∈ ab_wG := ab_in1 61 rfl rfl
theorem ab_w1010 : (Jvm.Cond.fieldLink "BookBindery$Book" (36 : Nat) "BookBindery$Book" "stations" "I") ∈ ab_wG := ab_in1 63 rfl rfl
theorem ab_w1011 : (Jvm.Cond.fieldLink "BookBindery$Book" (39 : Nat) "BookBindery$Book" "stage" "I") ∈ ab_wG := ab_in1 65 rfl rfl
theorem ab_w1012 : (Jvm.Cond.fieldLink "BookBindery$Book" (42 : Nat) "BookBindery$Book" "signatures" "I") ∈ ab_wG := ab_in1 69 rfl rfl
theorem ab_w1013 : (Jvm.Cond.fieldLink "BookBindery$Book" (45 : Nat) "BookBindery$Book" "sewn" "I") ∈ ab_wG := ab_in1 73 rfl rfl
theorem ab_w1014 : (Jvm.Cond.fieldLink "BookBindery$Book" (48 : Nat) "BookBindery$Book" "slips" "I") ∈ ab_wG := ab_in1 77 rfl rfl
theorem ab_w1015 : (Jvm.Cond.fieldLink "BookBindery$Book" (51 : Nat) "BookBindery$Book" "minutesLeft" "I") ∈ ab_wG := ab_in1 83 rfl rfl
theorem ab_w1016 : (Jvm.Cond.methodLink "BookBindery$Book" (54 : Nat) ({ cls := "BookBindery$Book", name := "put", desc := "(IIIZ)V" } : Jvm.MethodName)) ∈ ab_wG := ab_in2 108 rfl rfl
theorem ab_w1017 : (Jvm.Cond.instanceMethod ({ cls := "BookBindery$Book", name := "put", desc := "(IIIZ)V" } : Jvm.MethodName)) ∈ ab_wG := ab_in2 109 rfl rfl
theorem ab_w1018 : (Jvm.Cond.selects "BookBindery$Book" ({ cls := "BookBindery$Book", name := "put", desc := "(IIIZ)V" } : Jvm.MethodName) ({ cls := "BookBindery$Book", name := "put", desc := "(IIIZ)V" } : Jvm.MethodName)) ∈ ab_wG := ab_in2 110 rfl rfl
theorem ab_w1019 : (Jvm.Cond.code ({ cls := "BookBindery$Book", name := "put", desc := "(IIIZ)V" } : Jvm.MethodName) prog_3_method_6_code (5 : Nat) (Option.none : Option Jvm.ClassFile.FieldType)) ∈ ab_wG := ab_in2 111 rfl rfl
theorem ab_w1020 : (Jvm.Cond.methodLink "BookBindery$Book" (58 : Nat) ({ cls := "java/lang/System", name := "arraycopy", desc := "(Ljava/lang/Object;ILjava/lang/Object;II)V" } : Jvm.MethodName)) ∈ ab_wG := ab_in2 112 rfl rfl
theorem ab_w1021 : (Jvm.Cond.native ({ cls := "java/lang/System", name := "arraycopy", desc := "(Ljava/lang/Object;ILjava/lang/Object;II)V" } : Jvm.MethodName)) ∈ ab_wG := ab_in2 114 rfl rfl
theorem ab_w1022 : (Jvm.Cond.static ({ cls := "java/lang/System", name := "arraycopy", desc := "(Ljava/lang/Object;ILjava/lang/Object;II)V" } : Jvm.MethodName)) ∈ ab_wG := ab_in2 113 rfl rfl
theorem ab_w1023 : (Jvm.Cond.initialized "java/lang/System") ∈ ab_wG := ab_in1 13 rfl rfl
theorem ab_w1024 : (Jvm.Cond.methodLink "BookBindery$Press" (15 : Nat) ({ cls := "java/lang/System", name := "arraycopy", desc := "(Ljava/lang/Object;ILjava/lang/Object;II)V" } : Jvm.MethodName)) ∈ ab_wG := ab_in2 119 rfl rfl
theorem ab_w1025 : (Jvm.Cond.fieldLink "BookBindery$Press" (21 : Nat) "BookBindery$Press" "height" "I") ∈ ab_wG := ab_in1 134 rfl rfl
theorem ab_w1026 : (Jvm.Cond.fieldLink "BookBindery$History" (18 : Nat) "BookBindery$History" "next" "I") ∈ ab_wG := ab_in1 222 rfl rfl
theorem ab_w1027 : (Jvm.Cond.methodLink "BookBindery$History" (22 : Nat) ({ cls := "BookBindery$Shop", name := "copyFrom", desc := "(LBookBindery$Shop;)V" } : Jvm.MethodName)) ∈ ab_wG := ab_in2 132 rfl rfl
theorem ab_w1028 : (Jvm.Cond.fieldLink "BookBindery$Shop" (60 : Nat) "BookBindery$Book" "signatures" "I") ∈ ab_wG := ab_in1 71 rfl rfl
theorem ab_w1029 : (Jvm.Cond.fieldLink "BookBindery$Shop" (57 : Nat) "BookBindery$Book" "stage" "I") ∈ ab_wG := ab_in1 66 rfl rfl
theorem ab_w1030 : (Jvm.Cond.methodLink "BookBindery" (342 : Nat) ({ cls := "BookBindery$Shop", name := "hasBook", desc := "(I)Z" } : Jvm.MethodName)) ∈ ab_wG := ab_in4 17 rfl rfl
theorem ab_w1031 : (Jvm.Cond.instanceMethod ({ cls := "BookBindery$Shop", name := "hasBook", desc := "(I)Z" } : Jvm.MethodName)) ∈ ab_wG := ab_in3 8 rfl rfl
theorem ab_w1032 : (Jvm.Cond.selects "BookBindery$Shop" ({ cls := "BookBindery$Shop", name := "hasBook", desc := "(I)Z" } : Jvm.MethodName) ({ cls := "BookBindery$Shop", name := "hasBook", desc := "(I)Z" } : Jvm.MethodName)) ∈ ab_wG := ab_in3 9 rfl rfl
theorem ab_w1033 : (Jvm.Cond.code ({ cls := "BookBindery$Shop", name := "hasBook", desc := "(I)Z" } : Jvm.MethodName) prog_7_method_3_code (2 : Nat) (Option.some Jvm.ClassFile.FieldType.boolean)) ∈ ab_wG := ab_in3 10 rfl rfl
theorem ab_w1034 : (Jvm.Cond.methodLink "BookBindery$Book" (71 : Nat) ({ cls := "BookBindery$Book", name := "startOf", desc := "(I)I" } : Jvm.MethodName)) ∈ ab_wG := ab_in3 190 rfl rfl
theorem ab_w1035 : (Jvm.Cond.methodLink "BookBindery$Book" (68 : Nat) ({ cls := "BookBindery$Book", name := "sizeOf", desc := "(I)I" } : Jvm.MethodName)) ∈ ab_wG := ab_in3 35 rfl rfl
theorem ab_w1036 : (Jvm.Cond.instanceMethod ({ cls := "BookBindery$Book", name := "sizeOf", desc := "(I)I" } : Jvm.MethodName)) ∈ ab_wG := ab_in3 36 rfl rfl
theorem ab_w1037 : (Jvm.Cond.selects "BookBindery$Book" ({ cls := "BookBindery$Book", name := "sizeOf", desc := "(I)I" } : Jvm.MethodName) ({ cls := "BookBindery$Book", name := "sizeOf", desc := "(I)I" } : Jvm.MethodName)) ∈ ab_wG := ab_in3 37 rfl rfl
theorem ab_w1038 : (Jvm.Cond.code ({ cls := "BookBindery$Book", name := "sizeOf", desc := "(I)I" } : Jvm.MethodName) prog_3_method_9_code (2 : Nat) (Option.some Jvm.ClassFile.FieldType.int)) ∈ ab_wG := ab_in3 38 rfl rfl
theorem ab_w1039 : (Jvm.Cond.methodLink "BookBindery$Book" (74 : Nat) ({ cls := "BookBindery$Book", name := "leafed", desc := "(II)I" } : Jvm.MethodName)) ∈ ab_wG := ab_in3 39 rfl rfl
theorem ab_w1040 : (Jvm.Cond.instanceMethod ({ cls := "BookBindery$Book", name := "leafed", desc := "(II)I" } : Jvm.MethodName)) ∈ ab_wG := ab_in3 40 rfl rfl
theorem ab_w1041 : (Jvm.Cond.selects "BookBindery$Book" ({ cls := "BookBindery$Book", name := "leafed", desc := "(II)I" } : Jvm.MethodName) ({ cls := "BookBindery$Book", name := "leafed", desc := "(II)I" } : Jvm.MethodName)) ∈ ab_wG := ab_in3 41 rfl rfl
theorem ab_w1042 : (Jvm.Cond.code ({ cls := "BookBindery$Book", name := "leafed", desc := "(II)I" } : Jvm.MethodName) prog_3_method_12_code (3 : Nat) (Option.some Jvm.ClassFile.FieldType.int)) ∈ ab_wG := ab_in3 42 rfl rfl
theorem ab_w1043 : (Jvm.Cond.methodLink "BookBindery$Book" (78 : Nat) ({ cls := "BookBindery$Book", name := "isRight", desc := "(II)Z" } : Jvm.MethodName)) ∈ ab_wG := ab_in3 43 rfl rfl
theorem ab_w1044 : (Jvm.Cond.instanceMethod ({ cls := "BookBindery$Book", name := "isRight", desc := "(II)Z" } : Jvm.MethodName)) ∈ ab_wG := ab_in3 44 rfl rfl
theorem ab_w1045 : (Jvm.Cond.selects "BookBindery$Book" ({ cls := "BookBindery$Book", name := "isRight", desc := "(II)Z" } : Jvm.MethodName) ({ cls := "BookBindery$Book", name := "isRight", desc := "(II)Z" } : Jvm.MethodName)) ∈ ab_wG := ab_in3 45 rfl rfl
theorem ab_w1046 : (Jvm.Cond.code ({ cls := "BookBindery$Book", name := "isRight", desc := "(II)Z" } : Jvm.MethodName) prog_3_method_14_code (3 : Nat) (Option.some Jvm.ClassFile.FieldType.boolean)) ∈ ab_wG := ab_in3 46 rfl rfl
theorem ab_w1047 : (Jvm.Cond.code ({ cls := "java/lang/AbstractStringBuilder", name := "length", desc := "()I" } : Jvm.MethodName) prog_11_method_6_code (1 : Nat) (Option.some Jvm.ClassFile.FieldType.int)) ∈ ab_wG := ab_in6 91 rfl rfl
theorem ab_w1048 : (Jvm.Cond.methodLink "java/lang/StringBuilder" (343 : Nat) ({ cls := "java/lang/AbstractStringBuilder", name := "length", desc := "()I" } : Jvm.MethodName)) ∈ ab_wG := ab_in6 90 rfl rfl
theorem ab_w1049 : (Jvm.Cond.sameMethod "java/lang/AbstractStringBuilder" "java/lang/AbstractStringBuilder" "length" "()I") ∈ ab_wG := ab_in6 86 rfl rfl
theorem ab_w1050 : (Jvm.Cond.superclass "java/lang/StringBuilder" "java/lang/AbstractStringBuilder") ∈ ab_wG := ab_in2 62 rfl rfl
theorem ab_w1051 : (Jvm.Cond.instanceMethod ({ cls := "java/lang/AbstractStringBuilder", name := "length", desc := "()I" } : Jvm.MethodName)) ∈ ab_wG := ab_in6 85 rfl rfl
theorem ab_w1052 : (Jvm.Cond.code ({ cls := "java/lang/AbstractStringBuilder", name := "charAt", desc := "(I)C" } : Jvm.MethodName) prog_11_method_14_code (5 : Nat) (Option.some Jvm.ClassFile.FieldType.char)) ∈ ab_wG := ab_in6 192 rfl rfl
theorem ab_w1053 : (Jvm.Cond.methodLink "java/lang/StringBuilder" (329 : Nat) ({ cls := "java/lang/AbstractStringBuilder", name := "charAt", desc := "(I)C" } : Jvm.MethodName)) ∈ ab_wG := ab_in6 190 rfl rfl
theorem ab_w1054 : (Jvm.Cond.sameMethod "java/lang/AbstractStringBuilder" "java/lang/AbstractStringBuilder" "charAt" "(I)C") ∈ ab_wG := ab_in8 223 rfl rfl
theorem ab_w1055 : (Jvm.Cond.instanceMethod ({ cls := "java/lang/AbstractStringBuilder", name := "charAt", desc := "(I)C" } : Jvm.MethodName)) ∈ ab_wG := ab_in6 191 rfl rfl
theorem ab_w1056 : (Jvm.Cond.code ({ cls := "java/lang/AbstractStringBuilder", name := "setLength", desc := "(I)V" } : Jvm.MethodName) prog_11_method_13_code (2 : Nat) (Option.none : Option Jvm.ClassFile.FieldType)) ∈ ab_wG := ab_in5 178 rfl rfl
theorem ab_w1057 : (Jvm.Cond.methodLink "java/lang/StringBuilder" (333 : Nat) ({ cls := "java/lang/AbstractStringBuilder", name := "setLength", desc := "(I)V" } : Jvm.MethodName)) ∈ ab_wG := ab_in5 176 rfl rfl
theorem ab_w1058 : (Jvm.Cond.sameMethod "java/lang/AbstractStringBuilder" "java/lang/AbstractStringBuilder" "setLength" "(I)V") ∈ ab_wG := ab_in8 212 rfl rfl
theorem ab_w1059 : (Jvm.Cond.instanceMethod ({ cls := "java/lang/AbstractStringBuilder", name := "setLength", desc := "(I)V" } : Jvm.MethodName)) ∈ ab_wG := ab_in5 177 rfl rfl
theorem ab_w1060 : (Jvm.Cond.code ({ cls := "java/lang/AbstractStringBuilder", name := "append", desc := "(I)Ljava/lang/AbstractStringBuilder;" } : Jvm.MethodName) prog_11_method_32_code (4 : Nat) (Option.some (Jvm.ClassFile.FieldType.object "java/lang/AbstractStringBuilder"))) ∈ ab_wG := ab_in6 48 rfl rfl
theorem ab_w1061 : (Jvm.Cond.methodLink "java/lang/StringBuilder" (53 : Nat) ({ cls := "java/lang/AbstractStringBuilder", name := "append", desc := "(I)Ljava/lang/AbstractStringBuilder;" } : Jvm.MethodName)) ∈ ab_wG := ab_in6 46 rfl rfl
theorem ab_w1062 : (Jvm.Cond.sameMethod "java/lang/AbstractStringBuilder" "java/lang/AbstractStringBuilder" "append" "(I)Ljava/lang/AbstractStringBuilder;") ∈ ab_wG := ab_in8 220 rfl rfl
theorem ab_w1063 : (Jvm.Cond.instanceMethod ({ cls := "java/lang/AbstractStringBuilder", name := "append", desc := "(I)Ljava/lang/AbstractStringBuilder;" } : Jvm.MethodName)) ∈ ab_wG := ab_in6 47 rfl rfl
theorem ab_w1064 : (Jvm.Cond.code ({ cls := "java/lang/AbstractStringBuilder", name := "append", desc := "(C)Ljava/lang/AbstractStringBuilder;" } : Jvm.MethodName) prog_11_method_31_code (2 : Nat) (Option.some (Jvm.ClassFile.FieldType.object "java/lang/AbstractStringBuilder"))) ∈ ab_wG := ab_in6 171 rfl rfl
theorem ab_w1065 : (Jvm.Cond.methodLink "java/lang/StringBuilder" (50 : Nat) ({ cls := "java/lang/AbstractStringBuilder", name := "append", desc := "(C)Ljava/lang/AbstractStringBuilder;" } : Jvm.MethodName)) ∈ ab_wG := ab_in6 169 rfl rfl
theorem ab_w1066 : (Jvm.Cond.sameMethod "java/lang/AbstractStringBuilder" "java/lang/AbstractStringBuilder" "append" "(C)Ljava/lang/AbstractStringBuilder;") ∈ ab_wG := ab_in8 221 rfl rfl
theorem ab_w1067 : (Jvm.Cond.instanceMethod ({ cls := "java/lang/AbstractStringBuilder", name := "append", desc := "(C)Ljava/lang/AbstractStringBuilder;" } : Jvm.MethodName)) ∈ ab_wG := ab_in6 170 rfl rfl
theorem ab_w1068 : (Jvm.Cond.methodLink "BookBindery$CommandText" (26 : Nat) ({ cls := "BookBindery$CommandText", name := "rewind", desc := "()V" } : Jvm.MethodName)) ∈ ab_wG := ab_in5 44 rfl rfl
theorem ab_w1069 : (Jvm.Cond.instanceMethod ({ cls := "BookBindery$CommandText", name := "rewind", desc := "()V" } : Jvm.MethodName)) ∈ ab_wG := ab_in5 45 rfl rfl
theorem ab_w1070 : (Jvm.Cond.selects "BookBindery$CommandText" ({ cls := "BookBindery$CommandText", name := "rewind", desc := "()V" } : Jvm.MethodName) ({ cls := "BookBindery$CommandText", name := "rewind", desc := "()V" } : Jvm.MethodName)) ∈ ab_wG := ab_in5 46 rfl rfl
theorem ab_w1071 : (Jvm.Cond.code ({ cls := "BookBindery$CommandText", name := "rewind", desc := "()V" } : Jvm.MethodName) prog_4_method_4_code (1 : Nat) (Option.none : Option Jvm.ClassFile.FieldType)) ∈ ab_wG := ab_in5 47 rfl rfl
theorem ab_w1072 : (Jvm.Cond.fieldLink "BookBindery$CommandText" (29 : Nat) "BookBindery$CommandText" "count" "I") ∈ ab_wG := ab_in2 3 rfl rfl
theorem ab_w1073 : (Jvm.Cond.methodLink "BookBindery$CommandText" (32 : Nat) ({ cls := "BookBindery$CommandText", name := "readCommand", desc := "()Z" } : Jvm.MethodName)) ∈ ab_wG := ab_in5 48 rfl rfl
theorem ab_w1074 : (Jvm.Cond.instanceMethod ({ cls := "BookBindery$CommandText", name := "readCommand", desc := "()Z" } : Jvm.MethodName)) ∈ ab_wG := ab_in5 50 rfl rfl
theorem ab_w1075 : (Jvm.Cond.selects "BookBindery$CommandText" ({ cls := "BookBindery$CommandText", name := "readCommand", desc := "()Z" } : Jvm.MethodName) ({ cls := "BookBindery$CommandText", name := "readCommand", desc := "()Z" } : Jvm.MethodName)) ∈ ab_wG := ab_inp1 15 rfl
theorem ab_w1076 : (Jvm.Cond.code ({ cls := "BookBindery$CommandText", name := "readCommand", desc := "()Z" } : Jvm.MethodName) prog_4_method_7_code (3 : Nat) (Option.some Jvm.ClassFile.FieldType.boolean)) ∈ ab_wG := ab_in5 51 rfl rfl
theorem ab_w1077 : (Jvm.Cond.fieldLink "BookBindery$CommandText" (23 : Nat) "BookBindery$CommandText" "at" "I") ∈ ab_wG := ab_in2 5 rfl rfl
theorem ab_w1078 : (Jvm.Cond.fieldLink "BookBindery$CommandText" (19 : Nat) "BookBindery$CommandText" "length" "I") ∈ ab_wG := ab_in2 1 rfl rfl
theorem ab_w1079 : (Jvm.Cond.methodLink "BookBindery$CommandText" (36 : Nat) ({ cls := "BookBindery$CommandText", name := "take", desc := "(C)Z" } : Jvm.MethodName)) ∈ ab_wG := ab_in5 124 rfl rfl
theorem ab_w1080 : (Jvm.Cond.instanceMethod ({ cls := "BookBindery$CommandText", name := "take", desc := "(C)Z" } : Jvm.MethodName)) ∈ ab_wG := ab_in5 126 rfl rfl
theorem ab_w1081 : (Jvm.Cond.selects "BookBindery$CommandText" ({ cls := "BookBindery$CommandText", name := "take", desc := "(C)Z" } : Jvm.MethodName) ({ cls := "BookBindery$CommandText", name := "take", desc := "(C)Z" } : Jvm.MethodName)) ∈ ab_wG := ab_inp2 3 rfl
theorem ab_w1082 : (Jvm.Cond.code ({ cls := "BookBindery$CommandText", name := "take", desc := "(C)Z" } : Jvm.MethodName) prog_4_method_12_code (2 : Nat) (Option.some Jvm.ClassFile.FieldType.boolean)) ∈ ab_wG := ab_in5 127 rfl rfl
theorem ab_w1083 : (Jvm.Cond.fieldLink "BookBindery$Bench" (152 : Nat) "BookBindery$CommandText" "count" "I") ∈ ab_wG := ab_in2 4 rfl rfl
theorem ab_w1084 : (Jvm.Cond.methodLink "BookBindery$Bench" (157 : Nat) ({ cls := "BookBindery$CommandText", name := "rewind", desc := "()V" } : Jvm.MethodName)) ∈ ab_wG := ab_in5 136 rfl rfl
theorem ab_w1085 : (Jvm.Cond.methodLink "BookBindery$Bench" (160 : Nat) ({ cls := "BookBindery$CommandText", name := "readNext", desc := "()V" } : Jvm.MethodName)) ∈ ab_wG := ab_in5 137 rfl rfl
theorem ab_w1086 : (Jvm.Cond.instanceMethod ({ cls := "BookBindery$CommandText", name := "readNext", desc := "()V" } : Jvm.MethodName)) ∈ ab_wG := ab_in5 138 rfl rfl
theorem ab_w1087 : (Jvm.Cond.selects "BookBindery$CommandText" ({ cls := "BookBindery$CommandText", name := "readNext", desc := "()V" } : Jvm.MethodName) ({ cls := "BookBindery$CommandText", name := "readNext", desc := "()V" } : Jvm.MethodName)) ∈ ab_wG := ab_in5 139 rfl rfl
theorem ab_w1088 : (Jvm.Cond.code ({ cls := "BookBindery$CommandText", name := "readNext", desc := "()V" } : Jvm.MethodName) prog_4_method_6_code (1 : Nat) (Option.none : Option Jvm.ClassFile.FieldType)) ∈ ab_wG := ab_in5 140 rfl rfl
theorem ab_w1089 : (Jvm.Cond.fieldLink "BookBindery$Bench" (163 : Nat) "BookBindery$Bench" "command" "I") ∈ ab_wG := ab_in1 200 rfl rfl
theorem ab_w1090 : (Jvm.Cond.methodLink "BookBindery$Bench" (166 : Nat) ({ cls := "BookBindery$Bench", name := "carryOutOne", desc := "(LBookBindery$CommandText;)I" } : Jvm.MethodName)) ∈ ab_wG := ab_in5 141 rfl rfl
theorem ab_w1091 : (Jvm.Cond.instanceMethod ({ cls := "BookBindery$Bench", name := "carryOutOne", desc := "(LBookBindery$CommandText;)I" } : Jvm.MethodName)) ∈ ab_wG := ab_in5 143 rfl rfl
theorem ab_w1092 : (Jvm.Cond.selects "BookBindery$Bench" ({ cls := "BookBindery$Bench", name := "carryOutOne", desc := "(LBookBindery$CommandText;)I" } : Jvm.MethodName) ({ cls := "BookBindery$Bench", name := "carryOutOne", desc := "(LBookBindery$CommandText;)I" } : Jvm.MethodName)) ∈ ab_wG := ab_inp2 4 rfl
theorem ab_w1093 : (Jvm.Cond.code ({ cls := "BookBindery$Bench", name := "carryOutOne", desc := "(LBookBindery$CommandText;)I" } : Jvm.MethodName) prog_2_method_16_code (4 : Nat) (Option.some Jvm.ClassFile.FieldType.int)) ∈ ab_wG := ab_in5 144 rfl rfl
theorem ab_w1094 : (Jvm.Cond.classLink "BookBindery" (336 : Nat) "java/lang/UnsupportedOperationException") ∈ ab_wG := ab_in2 152 rfl rfl
theorem ab_w1095 : (Jvm.Cond.initialized "java/lang/UnsupportedOperationException") ∈ ab_wG := ab_in1 17 rfl rfl
theorem ab_w1096 : (Jvm.Cond.methodLink "BookBindery" (339 : Nat) ({ cls := "BookBindery$History", name := "keepNoted", desc := "()V" } : Jvm.MethodName)) ∈ ab_wG := ab_in2 221 rfl rfl
theorem ab_w1097 : (Jvm.Cond.instanceMethod ({ cls := "BookBindery$History", name := "keepNoted", desc := "()V" } : Jvm.MethodName)) ∈ ab_wG := ab_in2 222 rfl rfl
theorem ab_w1098 : (Jvm.Cond.selects "BookBindery$History" ({ cls := "BookBindery$History", name := "keepNoted", desc := "()V" } : Jvm.MethodName) ({ cls := "BookBindery$History", name := "keepNoted", desc := "()V" } : Jvm.MethodName)) ∈ ab_wG := ab_in2 223 rfl rfl
theorem ab_w1099 : (Jvm.Cond.code ({ cls := "BookBindery$History", name := "keepNoted", desc := "()V" } : Jvm.MethodName) prog_5_method_4_code (1 : Nat) (Option.none : Option Jvm.ClassFile.FieldType)) ∈ ab_wG := ab_in2 224 rfl rfl
theorem ab_w1100 : (Jvm.Cond.methodLink "BookBinderyModel" (180 : Nat) ({ cls := "BookBinderyModel", name := "here", desc := "()I" } : Jvm.MethodName)) ∈ ab_wG := ab_in8 125 rfl rfl
theorem ab_w1101 : (Jvm.Cond.instanceMethod ({ cls := "BookBinderyModel", name := "here", desc := "()I" } : Jvm.MethodName)) ∈ ab_wG := ab_in8 127 rfl rfl
theorem ab_w1102 : (Jvm.Cond.selects "BookBinderyModel" ({ cls := "BookBinderyModel", name := "here", desc := "()I" } : Jvm.MethodName) ({ cls := "BookBinderyModel", name := "here", desc := "()I" } : Jvm.MethodName)) ∈ ab_wG := ab_inp4 6 rfl
theorem ab_w1103 : (Jvm.Cond.code ({ cls := "BookBinderyModel", name := "here", desc := "()I" } : Jvm.MethodName) prog_9_method_69_code (1 : Nat) (Option.some Jvm.ClassFile.FieldType.int)) ∈ ab_wG := ab_in8 128 rfl rfl
theorem ab_w1104 : (Jvm.Cond.methodLink "BookBinderyModel" (192 : Nat) ({ cls := "BookBinderyModel", name := "gatherHere", desc := "(I)Z" } : Jvm.MethodName)) ∈ ab_wG := ab_in8 133 rfl rfl
theorem ab_w1105 : (Jvm.Cond.instanceMethod ({ cls := "BookBinderyModel", name := "gatherHere", desc := "(I)Z" } : Jvm.MethodName)) ∈ ab_wG := ab_in8 135 rfl rfl
theorem ab_w1106 : (Jvm.Cond.selects "BookBinderyModel" ({ cls := "BookBinderyModel", name := "gatherHere", desc := "(I)Z" } : Jvm.MethodName) ({ cls := "BookBinderyModel", name := "gatherHere", desc := "(I)Z" } : Jvm.MethodName)) ∈ ab_wG := ab_inp4 8 rfl
theorem ab_w1107 : (Jvm.Cond.code ({ cls := "BookBinderyModel", name := "gatherHere", desc := "(I)Z" } : Jvm.MethodName) prog_9_method_72_code (2 : Nat) (Option.some Jvm.ClassFile.FieldType.boolean)) ∈ ab_wG := ab_in8 136 rfl rfl
theorem ab_w1108 : (Jvm.Cond.methodLink "BookBinderyModel" (183 : Nat) ({ cls := "BookBinderyModel", name := "number", desc := "(II)Z" } : Jvm.MethodName)) ∈ ab_wG := ab_in8 137 rfl rfl
theorem ab_w1109 : (Jvm.Cond.instanceMethod ({ cls := "BookBinderyModel", name := "number", desc := "(II)Z" } : Jvm.MethodName)) ∈ ab_wG := ab_in8 139 rfl rfl
theorem ab_w1110 : (Jvm.Cond.selects "BookBinderyModel" ({ cls := "BookBinderyModel", name := "number", desc := "(II)Z" } : Jvm.MethodName) ({ cls := "BookBinderyModel", name := "number", desc := "(II)Z" } : Jvm.MethodName)) ∈ ab_wG := ab_inp4 9 rfl
theorem ab_w1111 : (Jvm.Cond.code ({ cls := "BookBinderyModel", name := "number", desc := "(II)Z" } : Jvm.MethodName) prog_9_method_71_code (4 : Nat) (Option.some Jvm.ClassFile.FieldType.boolean)) ∈ ab_wG := ab_in8 140 rfl rfl
theorem ab_w1112 : (Jvm.Cond.methodLink "BookBindery$Book" (106 : Nat) ({ cls := "BookBindery$Book", name := "countWrong", desc := "()I" } : Jvm.MethodName)) ∈ ab_wG := ab_in5 0 rfl rfl
theorem ab_w1113 : (Jvm.Cond.methodLink "BookBindery$Book" (110 : Nat) ({ cls := "BookBindery$Book", name := "countMissing", desc := "()I" } : Jvm.MethodName)) ∈ ab_wG := ab_in5 1 rfl rfl
theorem ab_w1114 : (Jvm.Cond.methodLink "BookBindery" (351 : Nat) ({ cls := "BookBindery$Shop", name := "hasPress", desc := "(I)Z" } : Jvm.MethodName)) ∈ ab_wG := ab_in4 205 rfl rfl
theorem ab_w1115 : (Jvm.Cond.instanceMethod ({ cls := "BookBindery$Shop", name := "hasPress", desc := "(I)Z" } : Jvm.MethodName)) ∈ ab_wG := ab_in3 121 rfl rfl
theorem ab_w1116 : (Jvm.Cond.selects "BookBindery$Shop" ({ cls := "BookBindery$Shop", name := "hasPress", desc := "(I)Z" } : Jvm.MethodName) ({ cls := "BookBindery$Shop", name := "hasPress", desc := "(I)Z" } : Jvm.MethodName)) ∈ ab_wG := ab_in3 122 rfl rfl
theorem ab_w1117 : (Jvm.Cond.code ({ cls := "BookBindery$Shop", name := "hasPress", desc := "(I)Z" } : Jvm.MethodName) prog_7_method_4_code (2 : Nat) (Option.some Jvm.ClassFile.FieldType.boolean)) ∈ ab_wG := ab_in3 123 rfl rfl
theorem ab_w1118 : (Jvm.Cond.fieldLink "BookBindery" (354 : Nat) "BookBindery$Shop" "presses" "[LBookBindery$Press;") ∈ ab_wG := ab_in1 147 rfl rfl
theorem ab_w1119 : (Jvm.Cond.methodLink "BookBindery" (348 : Nat) ({ cls := "BookBindery$Book", name := "hasPosition", desc := "(I)Z" } : Jvm.MethodName)) ∈ ab_wG := ab_in4 73 rfl rfl
theorem ab_w1120 : (Jvm.Cond.instanceMethod ({ cls := "BookBindery$Book", name := "hasPosition", desc := "(I)Z" } : Jvm.MethodName)) ∈ ab_wG := ab_in4 74 rfl rfl
theorem ab_w1121 : (Jvm.Cond.selects "BookBindery$Book" ({ cls := "BookBindery$Book", name := "hasPosition", desc := "(I)Z" } : Jvm.MethodName) ({ cls := "BookBindery$Book", name := "hasPosition", desc := "(I)Z" } : Jvm.MethodName)) ∈ ab_wG := ab_in4 75 rfl rfl
theorem ab_w1122 : (Jvm.Cond.code ({ cls := "BookBindery$Book", name := "hasPosition", desc := "(I)Z" } : Jvm.MethodName) prog_3_method_5_code (2 : Nat) (Option.some Jvm.ClassFile.FieldType.boolean)) ∈ ab_wG := ab_in4 76 rfl rfl
theorem ab_w1123 : (Jvm.Cond.methodLink "BookBindery$Book" (103 : Nat) ({ cls := "BookBindery$Book", name := "threadOf", desc := "(I)I" } : Jvm.MethodName)) ∈ ab_wG := ab_in4 185 rfl rfl
theorem ab_w1124 : (Jvm.Cond.instanceMethod ({ cls := "BookBindery$Book", name := "threadOf", desc := "(I)I" } : Jvm.MethodName)) ∈ ab_wG := ab_in3 82 rfl rfl
theorem ab_w1125 : (Jvm.Cond.selects "BookBindery$Book" ({ cls := "BookBindery$Book", name := "threadOf", desc := "(I)I" } : Jvm.MethodName) ({ cls := "BookBindery$Book", name := "threadOf", desc := "(I)I" } : Jvm.MethodName)) ∈ ab_wG := ab_in3 83 rfl rfl
theorem ab_w1126 : (Jvm.Cond.code ({ cls := "BookBindery$Book", name := "threadOf", desc := "(I)I" } : Jvm.MethodName) prog_3_method_26_code (3 : Nat) (Option.some Jvm.ClassFile.FieldType.int)) ∈ ab_wG := ab_in3 84 rfl rfl
theorem ab_w1127 : (Jvm.Cond.methodLink "BookBindery" (345 : Nat) ({ cls := "BookBindery$Book", name := "hasPlace", desc := "(I)Z" } : Jvm.MethodName)) ∈ ab_wG := ab_in4 60 rfl rfl
theorem ab_w1128 : (Jvm.Cond.instanceMethod ({ cls := "BookBindery$Book", name := "hasPlace", desc := "(I)Z" } : Jvm.MethodName)) ∈ ab_wG := ab_in3 24 rfl rfl
theorem ab_w1129 : (Jvm.Cond.selects "BookBindery$Book" ({ cls := "BookBindery$Book", name := "hasPlace", desc := "(I)Z" } : Jvm.MethodName) ({ cls := "BookBindery$Book", name := "hasPlace", desc := "(I)Z" } : Jvm.MethodName)) ∈ ab_wG := ab_in3 25 rfl rfl
theorem ab_w1130 : (Jvm.Cond.code ({ cls := "BookBindery$Book", name := "hasPlace", desc := "(I)Z" } : Jvm.MethodName) prog_3_method_4_code (2 : Nat) (Option.some Jvm.ClassFile.FieldType.boolean)) ∈ ab_wG := ab_in3 26 rfl rfl
theorem ab_w1131 : (Jvm.Cond.methodLink "BookBindery$Book" (100 : Nat) ({ cls := "BookBindery$Book", name := "countSignaturesWith", desc := "(I)I" } : Jvm.MethodName)) ∈ ab_wG := ab_in3 182 rfl rfl
theorem ab_w1132 : (Jvm.Cond.instanceMethod ({ cls := "BookBindery$Book", name := "countSignaturesWith", desc := "(I)I" } : Jvm.MethodName)) ∈ ab_wG := ab_in3 184 rfl rfl
theorem ab_w1133 : (Jvm.Cond.selects "BookBindery$Book" ({ cls := "BookBindery$Book", name := "countSignaturesWith", desc := "(I)I" } : Jvm.MethodName) ({ cls := "BookBindery$Book", name := "countSignaturesWith", desc := "(I)I" } : Jvm.MethodName)) ∈ ab_wG := ab_inp1 5 rfl
theorem ab_w1134 : (Jvm.Cond.code ({ cls := "BookBindery$Book", name := "countSignaturesWith", desc := "(I)I" } : Jvm.MethodName) prog_3_method_21_code (4 : Nat) (Option.some Jvm.ClassFile.FieldType.int)) ∈ ab_wG := ab_in3 185 rfl rfl
theorem ab_w1135 : (Jvm.Cond.methodLink "BookBindery$Book" (96 : Nat) ({ cls := "BookBindery$Book", name := "isSlipped", desc := "(I)Z" } : Jvm.MethodName)) ∈ ab_wG := ab_in3 177 rfl rfl
theorem ab_w1136 : (Jvm.Cond.methodLink "BookBindery$Book" (82 : Nat) ({ cls := "BookBindery$Book", name := "countRightTurned", desc := "(II)I" } : Jvm.MethodName)) ∈ ab_wG := ab_in4 97 rfl rfl
theorem ab_w1137 : (Jvm.Cond.instanceMethod ({ cls := "BookBindery$Book", name := "countRightTurned", desc := "(II)I" } : Jvm.MethodName)) ∈ ab_wG := ab_in4 99 rfl rfl
theorem ab_w1138 : (Jvm.Cond.selects "BookBindery$Book" ({ cls := "BookBindery$Book", name := "countRightTurned", desc := "(II)I" } : Jvm.MethodName) ({ cls := "BookBindery$Book", name := "countRightTurned", desc := "(II)I" } : Jvm.MethodName)) ∈ ab_wG := ab_inp1 9 rfl
theorem ab_w1139 : (Jvm.Cond.code ({ cls := "BookBindery$Book", name := "countRightTurned", desc := "(II)I" } : Jvm.MethodName) prog_3_method_19_code (5 : Nat) (Option.some Jvm.ClassFile.FieldType.int)) ∈ ab_wG := ab_in4 100 rfl rfl
theorem ab_w1140 : (Jvm.Cond.methodLink "BookBindery$Book" (85 : Nat) ({ cls := "BookBindery$Book", name := "countRightUnturned", desc := "(II)I" } : Jvm.MethodName)) ∈ ab_wG := ab_in4 101 rfl rfl
theorem ab_w1141 : (Jvm.Cond.instanceMethod ({ cls := "BookBindery$Book", name := "countRightUnturned", desc := "(II)I" } : Jvm.MethodName)) ∈ ab_wG := ab_in4 103 rfl rfl
theorem ab_w1142 : (Jvm.Cond.selects "BookBindery$Book" ({ cls := "BookBindery$Book", name := "countRightUnturned", desc := "(II)I" } : Jvm.MethodName) ({ cls := "BookBindery$Book", name := "countRightUnturned", desc := "(II)I" } : Jvm.MethodName)) ∈ ab_wG := ab_inp1 10 rfl
theorem ab_w1143 : (Jvm.Cond.code ({ cls := "BookBindery$Book", name := "countRightUnturned", desc := "(II)I" } : Jvm.MethodName) prog_3_method_18_code (3 : Nat) (Option.some Jvm.ClassFile.FieldType.int)) ∈ ab_wG := ab_in4 104 rfl rfl
theorem ab_w1144 : (Jvm.Cond.methodLink "BookBindery$Bench" (18 : Nat) ({ cls := "BookBindery$Bench", name := "isWithin", desc := "(III)Z" } : Jvm.MethodName)) ∈ ab_wG := ab_in2 137 rfl rfl
theorem ab_w1145 : (Jvm.Cond.static ({ cls := "BookBindery$Bench", name := "isWithin", desc := "(III)Z" } : Jvm.MethodName)) ∈ ab_wG := ab_in2 138 rfl rfl
theorem ab_w1146 : (Jvm.Cond.code ({ cls := "BookBindery$Bench", name := "isWithin", desc := "(III)Z" } : Jvm.MethodName) prog_2_method_20_code (3 : Nat) (Option.some Jvm.ClassFile.FieldType.boolean)) ∈ ab_wG := ab_in2 139 rfl rfl
theorem ab_w1147 : (Jvm.Cond.methodLink "BookBindery$Bench" (22 : Nat) ({ cls := "BookBindery$Bench", name := "refuse", desc := "(II)I" } : Jvm.MethodName)) ∈ ab_wG := ab_in2 140 rfl rfl
theorem ab_w1148 : (Jvm.Cond.instanceMethod ({ cls := "BookBindery$Bench", name := "refuse", desc := "(II)I" } : Jvm.MethodName)) ∈ ab_wG := ab_in2 142 rfl rfl
theorem ab_w1149 : (Jvm.Cond.selects "BookBindery$Bench" ({ cls := "BookBindery$Bench", name := "refuse", desc := "(II)I" } : Jvm.MethodName) ({ cls := "BookBindery$Bench", name := "refuse", desc := "(II)I" } : Jvm.MethodName)) ∈ ab_wG := ab_inp1 0 rfl
theorem ab_w1150 : (Jvm.Cond.code ({ cls := "BookBindery$Bench", name := "refuse", desc := "(II)I" } : Jvm.MethodName) prog_2_method_19_code (3 : Nat) (Option.some Jvm.ClassFile.FieldType.int)) ∈ ab_wG := ab_in2 143 rfl rfl
theorem ab_w1151 : (Jvm.Cond.methodLink "BookBindery$Bench" (149 : Nat) ({ cls := "BookBindery$Shop", name := "letMinuteGoBy", desc := "()I" } : Jvm.MethodName)) ∈ ab_wG := ab_in3 205 rfl rfl
theorem ab_w1152 : (Jvm.Cond.instanceMethod ({ cls := "BookBindery$Shop", name := "letMinuteGoBy", desc := "()I" } : Jvm.MethodName)) ∈ ab_wG := ab_in3 206 rfl rfl
theorem ab_w1153 : (Jvm.Cond.selects "BookBindery$Shop" ({ cls := "BookBindery$Shop", name := "letMinuteGoBy", desc := "()I" } : Jvm.MethodName) ({ cls := "BookBindery$Shop", name := "letMinuteGoBy", desc := "()I" } : Jvm.MethodName)) ∈ ab_wG := ab_in3 207 rfl rfl
theorem ab_w1154 : (Jvm.Cond.code ({ cls := "BookBindery$Shop", name := "letMinuteGoBy", desc := "()I" } : Jvm.MethodName) prog_7_method_7_code (4 : Nat) (Option.some Jvm.ClassFile.FieldType.int)) ∈ ab_wG := ab_in3 208 rfl rfl
theorem ab_w1155 : (Jvm.Cond.methodLink "BookBindery$Bench" (69 : Nat) ({ cls := "BookBindery$Bench", name := "isNotAt", desc := "(II)Z" } : Jvm.MethodName)) ∈ ab_wG := ab_in3 3 rfl rfl
theorem ab_w1156 : (Jvm.Cond.instanceMethod ({ cls := "BookBindery$Bench", name := "isNotAt", desc := "(II)Z" } : Jvm.MethodName)) ∈ ab_wG := ab_in3 5 rfl rfl
theorem ab_w1157 : (Jvm.Cond.selects "BookBindery$Bench" ({ cls := "BookBindery$Bench", name := "isNotAt", desc := "(II)Z" } : Jvm.MethodName) ({ cls := "BookBindery$Bench", name := "isNotAt", desc := "(II)Z" } : Jvm.MethodName)) ∈ ab_wG := ab_inp1 4 rfl
theorem ab_w1158 : (Jvm.Cond.code ({ cls := "BookBindery$Bench", name := "isNotAt", desc := "(II)Z" } : Jvm.MethodName) prog_2_method_18_code (4 : Nat) (Option.some Jvm.ClassFile.FieldType.boolean)) ∈ ab_wG := ab_in3 6 rfl rfl
theorem ab_w1159 : (Jvm.Cond.fieldLink "BookBindery$Bench" (30 : Nat) "BookBindery$Shop" "books" "[LBookBindery$Book;") ∈ ab_wG := ab_in1 143 rfl rfl
theorem ab_w1160 : (Jvm.Cond.methodLink "BookBindery$Bench" (133 : Nat) ({ cls := "BookBindery$Book", name := "findWrong", desc := "(Z)I" } : Jvm.MethodName)) ∈ ab_wG := ab_in3 173 rfl rfl
theorem ab_w1161 : (Jvm.Cond.methodLink "BookBindery$Bench" (137 : Nat) ({ cls := "BookBindery$Book", name := "countMissing", desc := "()I" } : Jvm.MethodName)) ∈ ab_wG := ab_in3 178 rfl rfl
theorem ab_w1162 : (Jvm.Cond.fieldLink "BookBindery$Bench" (140 : Nat) "BookBindery$Shop" "coins" "I") ∈ ab_wG := ab_in1 154 rfl rfl
theorem ab_w1163 : (Jvm.Cond.methodLink "BookBindery$Bench" (143 : Nat) ({ cls := "BookBindery$Book", name := "positions", desc := "()I" } : Jvm.MethodName)) ∈ ab_wG := ab_in3 186 rfl rfl
theorem ab_w1164 : (Jvm.Cond.methodLink "BookBindery$Bench" (57 : Nat) ({ cls := "BookBindery$Book", name := "countWrong", desc := "()I" } : Jvm.MethodName)) ∈ ab_wG := ab_in3 31 rfl rfl
theorem ab_w1165 : (Jvm.Cond.fieldLink "BookBindery$Bench" (146 : Nat) "BookBindery$Shop" "coinsBrought" "I") ∈ ab_wG := ab_in1 169 rfl rfl
theorem ab_w1166 : (Jvm.Cond.fieldLink "BookBindery$Bench" (93 : Nat) "BookBindery$Book" "stage" "I") ∈ ab_wG := ab_in1 67 rfl rfl
theorem ab_w1167 : (Jvm.Cond.methodLink "BookBindery$Bench" (117 : Nat) ({ cls := "BookBindery$Book", name := "isWrongOn", desc := "(I)Z" } : Jvm.MethodName)) ∈ ab_wG := ab_in3 146 rfl rfl
theorem ab_w1168 : (Jvm.Cond.instanceMethod ({ cls := "BookBindery$Book", name := "isWrongOn", desc := "(I)Z" } : Jvm.MethodName)) ∈ ab_wG := ab_in3 147 rfl rfl
theorem ab_w1169 : (Jvm.Cond.selects "BookBindery$Book" ({ cls := "BookBindery$Book", name := "isWrongOn", desc := "(I)Z" } : Jvm.MethodName) ({ cls := "BookBindery$Book", name := "isWrongOn", desc := "(I)Z" } : Jvm.MethodName)) ∈ ab_wG := ab_in3 148 rfl rfl
theorem ab_w1170 : (Jvm.Cond.code ({ cls := "BookBindery$Book", name := "isWrongOn", desc := "(I)Z" } : Jvm.MethodName) prog_3_method_15_code (3 : Nat) (Option.some Jvm.ClassFile.FieldType.boolean)) ∈ ab_wG := ab_in3 149 rfl rfl
theorem ab_w1171 : (Jvm.Cond.methodLink "BookBindery$Bench" (120 : Nat) ({ cls := "BookBindery$Book", name := "isSlipped", desc := "(I)Z" } : Jvm.MethodName)) ∈ ab_wG := ab_in3 154 rfl rfl
theorem ab_w1172 : (Jvm.Cond.methodLink "BookBindery$Bench" (123 : Nat) ({ cls := "BookBindery$Book", name := "addSlip", desc := "(I)V" } : Jvm.MethodName)) ∈ ab_wG := ab_in3 158 rfl rfl
theorem ab_w1173 : (Jvm.Cond.instanceMethod ({ cls := "BookBindery$Book", name := "addSlip", desc := "(I)V" } : Jvm.MethodName)) ∈ ab_wG := ab_in3 159 rfl rfl
theorem ab_w1174 : (Jvm.Cond.selects "BookBindery$Book" ({ cls := "BookBindery$Book", name := "addSlip", desc := "(I)V" } : Jvm.MethodName) ({ cls := "BookBindery$Book", name := "addSlip", desc := "(I)V" } : Jvm.MethodName)) ∈ ab_wG := ab_in3 160 rfl rfl
theorem ab_w1175 : (Jvm.Cond.code ({ cls := "BookBindery$Book", name := "addSlip", desc := "(I)V" } : Jvm.MethodName) prog_3_method_29_code (3 : Nat) (Option.none : Option Jvm.ClassFile.FieldType)) ∈ ab_wG := ab_in3 161 rfl rfl
theorem ab_w1176 : (Jvm.Cond.fieldLink "BookBindery$Bench" (127 : Nat) "BookBindery$Shop" "slipsPasted" "I") ∈ ab_wG := ab_in1 166 rfl rfl
theorem ab_w1177 : (Jvm.Cond.fieldLink "BookBindery$Bench" (130 : Nat) "BookBindery$Book" "slips" "I") ∈ ab_wG := ab_in1 78 rfl rfl
theorem ab_w1178 : (Jvm.Cond.methodLink "BookBindery$Bench" (102 : Nat) ({ cls := "BookBindery$Shop", name := "hasPress", desc := "(I)Z" } : Jvm.MethodName)) ∈ ab_wG := ab_in3 120 rfl rfl
theorem ab_w1179 : (Jvm.Cond.fieldLink "BookBindery$Bench" (105 : Nat) "BookBindery$Shop" "presses" "[LBookBindery$Press;") ∈ ab_wG := ab_in1 146 rfl rfl
theorem ab_w1180 : (Jvm.Cond.fieldLink "BookBindery$Bench" (109 : Nat) "BookBindery$Press" "height" "I") ∈ ab_wG := ab_in1 135 rfl rfl
theorem ab_w1181 : (Jvm.Cond.fieldLink "BookBindery$Bench" (114 : Nat) "BookBindery$Press" "stack" "[I") ∈ ab_wG := ab_in1 132 rfl rfl
theorem ab_w1182 : (Jvm.Cond.fieldLink "BookBindery$Bench" (99 : Nat) "BookBindery$Book" "minutesLeft" "I") ∈ ab_wG := ab_in1 85 rfl rfl
theorem ab_w1183 : (Jvm.Cond.methodLink "BookBindery$Bench" (86 : Nat) ({ cls := "BookBindery$Shop", name := "hasBook", desc := "(I)Z" } : Jvm.MethodName)) ∈ ab_wG := ab_in3 7 rfl rfl
theorem ab_w1184 : (Jvm.Cond.fieldLink "BookBindery$Bench" (44 : Nat) "BookBindery$Book" "signatures" "I") ∈ ab_wG := ab_in1 70 rfl rfl
theorem ab_w1185 : (Jvm.Cond.fieldLink "BookBindery$Bench" (73 : Nat) "BookBindery$Book" "sewn" "I") ∈ ab_wG := ab_in1 74 rfl rfl
theorem ab_w1186 : (Jvm.Cond.fieldLink "BookBindery$Bench" (96 : Nat) "BookBindery$Book" "glue" "I") ∈ ab_wG := ab_in1 81 rfl rfl
theorem ab_w1187 : (Jvm.Cond.fieldLink "BookBindery$Bench" (83 : Nat) "BookBindery$Shop" "unpicked" "I") ∈ ab_wG := ab_in1 163 rfl rfl
theorem ab_w1188 : (Jvm.Cond.methodLink "BookBindery$Bench" (76 : Nat) ({ cls := "BookBindery$Book", name := "threadOf", desc := "(I)I" } : Jvm.MethodName)) ∈ ab_wG := ab_in3 81 rfl rfl
theorem ab_w1189 : (Jvm.Cond.fieldLink "BookBindery$Bench" (61 : Nat) "BookBindery$Shop" "thread" "I") ∈ ab_wG := ab_in1 157 rfl rfl
theorem ab_w1190 : (Jvm.Cond.fieldLink "BookBindery$Bench" (80 : Nat) "BookBindery$Shop" "threadSewn" "I") ∈ ab_wG := ab_in1 160 rfl rfl
theorem ab_w1191 : (Jvm.Cond.methodLink "BookBindery$Bench" (64 : Nat) ({ cls := "java/lang/Math", name := "min", desc := "(II)I" } : Jvm.MethodName)) ∈ ab_wG := ab_in3 69 rfl rfl
theorem ab_w1192 : (Jvm.Cond.static ({ cls := "java/lang/Math", name := "min", desc := "(II)I" } : Jvm.MethodName)) ∈ ab_wG := ab_in2 226 rfl rfl
theorem ab_w1193 : (Jvm.Cond.code ({ cls := "java/lang/Math", name := "min", desc := "(II)I" } : Jvm.MethodName) prog_23_method_69_code (2 : Nat) (Option.some Jvm.ClassFile.FieldType.int)) ∈ ab_wG := ab_in2 227 rfl rfl
theorem ab_w1194 : (Jvm.Cond.methodLink "BookBindery$Bench" (40 : Nat) ({ cls := "BookBindery$Bench", name := "isNotLoose", desc := "(I)Z" } : Jvm.MethodName)) ∈ ab_wG := ab_in2 239 rfl rfl
theorem ab_w1195 : (Jvm.Cond.instanceMethod ({ cls := "BookBindery$Bench", name := "isNotLoose", desc := "(I)Z" } : Jvm.MethodName)) ∈ ab_wG := ab_in3 1 rfl rfl
theorem ab_w1196 : (Jvm.Cond.selects "BookBindery$Bench" ({ cls := "BookBindery$Bench", name := "isNotLoose", desc := "(I)Z" } : Jvm.MethodName) ({ cls := "BookBindery$Bench", name := "isNotLoose", desc := "(I)Z" } : Jvm.MethodName)) ∈ ab_wG := ab_inp1 3 rfl
theorem ab_w1197 : (Jvm.Cond.code ({ cls := "BookBindery$Bench", name := "isNotLoose", desc := "(I)Z" } : Jvm.MethodName) prog_2_method_17_code (3 : Nat) (Option.some Jvm.ClassFile.FieldType.boolean)) ∈ ab_wG := ab_in3 2 rfl rfl
theorem ab_w1198 : (Jvm.Cond.methodLink "BookBindery$Bench" (51 : Nat) ({ cls := "BookBindery$Book", name := "hasPlace", desc := "(I)Z" } : Jvm.MethodName)) ∈ ab_wG := ab_in3 23 rfl rfl
theorem ab_w1199 : (Jvm.Cond.methodLink "BookBindery$Bench" (54 : Nat) ({ cls := "BookBindery$Book", name := "shift", desc := "(II)V" } : Jvm.MethodName)) ∈ ab_wG := ab_in3 27 rfl rfl
theorem ab_w1200 : (Jvm.Cond.instanceMethod ({ cls := "BookBindery$Book", name := "shift", desc := "(II)V" } : Jvm.MethodName)) ∈ ab_wG := ab_in3 28 rfl rfl
theorem ab_w1201 : (Jvm.Cond.selects "BookBindery$Book" ({ cls := "BookBindery$Book", name := "shift", desc := "(II)V" } : Jvm.MethodName) ({ cls := "BookBindery$Book", name := "shift", desc := "(II)V" } : Jvm.MethodName)) ∈ ab_wG := ab_in3 29 rfl rfl
theorem ab_w1202 : (Jvm.Cond.code ({ cls := "BookBindery$Book", name := "shift", desc := "(II)V" } : Jvm.MethodName) prog_3_method_7_code (7 : Nat) (Option.none : Option Jvm.ClassFile.FieldType)) ∈ ab_wG := ab_in3 30 rfl rfl
theorem ab_w1203 : (Jvm.Cond.methodLink "BookBindery$Bench" (47 : Nat) ({ cls := "BookBindery$Book", name := "put", desc := "(IIIZ)V" } : Jvm.MethodName)) ∈ ab_wG := ab_in3 11 rfl rfl
theorem ab_w1204 : (Jvm.Cond.fieldLink "BookBindery$Bench" (26 : Nat) "BookBindery$Shop" "bookCount" "I") ∈ ab_wG := ab_in1 148 rfl rfl
theorem ab_w1205 : (Jvm.Cond.methodLink "BookBindery$Bench" (34 : Nat) ({ cls := "BookBindery$Book", name := "begin", desc := "(II)V" } : Jvm.MethodName)) ∈ ab_wG := ab_in2 144 rfl rfl
theorem ab_w1206 : (Jvm.Cond.instanceMethod ({ cls := "BookBindery$Book", name := "begin", desc := "(II)V" } : Jvm.MethodName)) ∈ ab_wG := ab_in2 145 rfl rfl
theorem ab_w1207 : (Jvm.Cond.selects "BookBindery$Book" ({ cls := "BookBindery$Book", name := "begin", desc := "(II)V" } : Jvm.MethodName) ({ cls := "BookBindery$Book", name := "begin", desc := "(II)V" } : Jvm.MethodName)) ∈ ab_wG := ab_in2 146 rfl rfl
theorem ab_w1208 : (Jvm.Cond.code ({ cls := "BookBindery$Book", name := "begin", desc := "(II)V" } : Jvm.MethodName) prog_3_method_2_code (3 : Nat) (Option.none : Option Jvm.ClassFile.FieldType)) ∈ ab_wG := ab_in2 147 rfl rfl
theorem ab_w1209 : (Jvm.Cond.fieldLink "java/lang/AbstractStringBuilder" (79 : Nat) "java/lang/AbstractStringBuilder" "count" "I") ∈ ab_wG := ab_in2 53 rfl rfl
theorem ab_w1210 : (Jvm.Cond.methodLink "java/lang/AbstractStringBuilder" (138 : Nat) ({ cls := "java/lang/Math", name := "min", desc := "(II)I" } : Jvm.MethodName)) ∈ ab_wG := ab_in6 193 rfl rfl
theorem ab_w1211 : (Jvm.Cond.methodLink "java/lang/AbstractStringBuilder" (144 : Nat) ({ cls := "java/lang/String", name := "checkIndex", desc := "(II)V" } : Jvm.MethodName)) ∈ ab_wG := ab_in6 194 rfl rfl
theorem ab_w1212 : (Jvm.Cond.static ({ cls := "java/lang/String", name := "checkIndex", desc := "(II)V" } : Jvm.MethodName)) ∈ ab_wG := ab_in5 86 rfl rfl
theorem ab_w1213 : (Jvm.Cond.initialized "java/lang/String") ∈ ab_wG := ab_in1 10 rfl rfl
theorem ab_w1214 : (Jvm.Cond.code ({ cls := "java/lang/String", name := "checkIndex", desc := "(II)V" } : Jvm.MethodName) prog_26_method_155_code (2 : Nat) (Option.none : Option Jvm.ClassFile.FieldType)) ∈ ab_wG := ab_in5 87 rfl rfl
theorem ab_w1215 : (Jvm.Cond.code ({ cls := "java/lang/AbstractStringBuilder", name := "ensureCapacityInternal", desc := "(I)V" } : Jvm.MethodName) prog_11_method_9_code (3 : Nat) (Option.none : Option Jvm.ClassFile.FieldType)) ∈ ab_wG := ab_in5 201 rfl rfl
theorem ab_w1216 : (Jvm.Cond.methodLink "java/lang/AbstractStringBuilder" (100 : Nat) ({ cls := "java/lang/AbstractStringBuilder", name := "ensureCapacityInternal", desc := "(I)V" } : Jvm.MethodName)) ∈ ab_wG := ab_in5 198 rfl rfl
theorem ab_w1217 : (Jvm.Cond.sameMethod "java/lang/AbstractStringBuilder" "java/lang/AbstractStringBuilder" "ensureCapacityInternal" "(I)V") ∈ ab_wG := ab_in8 215 rfl rfl
theorem ab_w1218 : (Jvm.Cond.selects "java/lang/StringBuilder" ({ cls := "java/lang/AbstractStringBuilder", name := "ensureCapacityInternal", desc := "(I)V" } : Jvm.MethodName) ({ cls := "java/lang/AbstractStringBuilder", name := "ensureCapacityInternal", desc := "(I)V" } : Jvm.MethodName)) ∈ ab_wG := ab_inx 0 rfl rfl
theorem ab_w1219 : (Jvm.Cond.instanceMethod ({ cls := "java/lang/AbstractStringBuilder", name := "ensureCapacityInternal", desc := "(I)V" } : Jvm.MethodName)) ∈ ab_wG := ab_in5 200 rfl rfl
theorem ab_w1220 : (Jvm.Cond.code ({ cls := "java/lang/AbstractStringBuilder", name := "isLatin1", desc := "()Z" } : Jvm.MethodName) prog_11_method_68_code (1 : Nat) (Option.some Jvm.ClassFile.FieldType.boolean)) ∈ ab_wG := ab_in5 231 rfl rfl
theorem ab_w1221 : (Jvm.Cond.methodLink "java/lang/AbstractStringBuilder" (83 : Nat) ({ cls := "java/lang/AbstractStringBuilder", name := "isLatin1", desc := "()Z" } : Jvm.MethodName)) ∈ ab_wG := ab_in5 227 rfl rfl
theorem ab_w1222 : (Jvm.Cond.sameMethod "java/lang/AbstractStringBuilder" "java/lang/AbstractStringBuilder" "isLatin1" "()Z") ∈ ab_wG := ab_in5 229 rfl rfl
theorem ab_w1223 : (Jvm.Cond.selects "java/lang/StringBuilder" ({ cls := "java/lang/AbstractStringBuilder", name := "isLatin1", desc := "()Z" } : Jvm.MethodName) ({ cls := "java/lang/AbstractStringBuilder", name := "isLatin1", desc := "()Z" } : Jvm.MethodName)) ∈ ab_wG := ab_in5 230 rfl rfl
theorem ab_w1224 : (Jvm.Cond.instanceMethod ({ cls := "java/lang/AbstractStringBuilder", name := "isLatin1", desc := "()Z" } : Jvm.MethodName)) ∈ ab_wG := ab_in5 228 rfl rfl
theorem ab_w1225 : (Jvm.Cond.fieldLink "java/lang/AbstractStringBuilder" (73 : Nat) "java/lang/AbstractStringBuilder" "maybeLatin1" "Z") ∈ ab_wG := ab_in2 51 rfl rfl
theorem ab_w1226 : (Jvm.Cond.methodLink "java/lang/AbstractStringBuilder" (245 : Nat) ({ cls := "java/lang/Integer", name := "stringSize", desc := "(I)I" } : Jvm.MethodName)) ∈ ab_wG := ab_in6 49 rfl rfl
theorem ab_w1227 : (Jvm.Cond.static ({ cls := "java/lang/Integer", name := "stringSize", desc := "(I)I" } : Jvm.MethodName)) ∈ ab_wG := ab_in6 50 rfl rfl
theorem ab_w1228 : (Jvm.Cond.initialized "java/lang/Integer") ∈ ab_wG := ab_in1 30 rfl rfl
theorem ab_w1229 : (Jvm.Cond.code ({ cls := "java/lang/Integer", name := "stringSize", desc := "(I)I" } : Jvm.MethodName) prog_22_method_13_code (4 : Nat) (Option.some Jvm.ClassFile.FieldType.int)) ∈ ab_wG := ab_in6 51 rfl rfl
theorem ab_w1230 : (Jvm.Cond.methodLink "java/lang/AbstractStringBuilder" (248 : Nat) ({ cls := "java/lang/Integer", name := "getChars", desc := "(II[B)I" } : Jvm.MethodName)) ∈ ab_wG := ab_in6 52 rfl rfl
theorem ab_w1231 : (Jvm.Cond.static ({ cls := "java/lang/Integer", name := "getChars", desc := "(II[B)I" } : Jvm.MethodName)) ∈ ab_wG := ab_in6 53 rfl rfl
theorem ab_w1232 : (Jvm.Cond.code ({ cls := "java/lang/Integer", name := "getChars", desc := "(II[B)I" } : Jvm.MethodName) prog_22_method_12_code (7 : Nat) (Option.some Jvm.ClassFile.FieldType.int)) ∈ ab_wG := ab_in6 54 rfl rfl
theorem ab_w1233 : (Jvm.Cond.methodLink "java/lang/AbstractStringBuilder" (191 : Nat) ({ cls := "java/lang/StringLatin1", name := "canEncode", desc := "(C)Z" } : Jvm.MethodName)) ∈ ab_wG := ab_in6 172 rfl rfl
theorem ab_w1234 : (Jvm.Cond.static ({ cls := "java/lang/StringLatin1", name := "canEncode", desc := "(C)Z" } : Jvm.MethodName)) ∈ ab_wG := ab_in6 173 rfl rfl
theorem ab_w1235 : (Jvm.Cond.initialized "java/lang/StringLatin1") ∈ ab_wG := ab_in1 24 rfl rfl
theorem ab_w1236 : (Jvm.Cond.code ({ cls := "java/lang/StringLatin1", name := "canEncode", desc := "(C)Z" } : Jvm.MethodName) prog_29_method_3_code (1 : Nat) (Option.some Jvm.ClassFile.FieldType.boolean)) ∈ ab_wG := ab_in6 174 rfl rfl
theorem ab_w1237 : (Jvm.Cond.fieldLink "BookBindery$CommandText" (40 : Nat) "BookBindery$CommandText" "numberCount" "I") ∈ ab_wG := ab_in2 10 rfl rfl
theorem ab_w1238 : (Jvm.Cond.fieldLink "BookBindery$CommandText" (43 : Nat) "BookBindery$CommandText" "letter" "C") ∈ ab_wG := ab_in2 6 rfl rfl
theorem ab_w1239 : (Jvm.Cond.methodLink "BookBindery$CommandText" (47 : Nat) ({ cls := "BookBindery$CommandText", name := "formOf", desc := "(C)Ljava/lang/String;" } : Jvm.MethodName)) ∈ ab_wG := ab_in5 52 rfl rfl
theorem ab_w1240 : (Jvm.Cond.static ({ cls := "BookBindery$CommandText", name := "formOf", desc := "(C)Ljava/lang/String;" } : Jvm.MethodName)) ∈ ab_wG := ab_in5 53 rfl rfl
theorem ab_w1241 : (Jvm.Cond.code ({ cls := "BookBindery$CommandText", name := "formOf", desc := "(C)Ljava/lang/String;" } : Jvm.MethodName) prog_4_method_8_code (1 : Nat) (Option.some (Jvm.ClassFile.FieldType.object "java/lang/String"))) ∈ ab_wG := ab_in5 54 rfl rfl
theorem ab_w1242 : (Jvm.Cond.methodLink "BookBindery$CommandText" (51 : Nat) ({ cls := "java/lang/String", name := "isEmpty", desc := "()Z" } : Jvm.MethodName)) ∈ ab_wG := ab_in5 61 rfl rfl
theorem ab_w1243 : (Jvm.Cond.instanceMethod ({ cls := "java/lang/String", name := "isEmpty", desc := "()Z" } : Jvm.MethodName)) ∈ ab_wG := ab_in5 62 rfl rfl
theorem ab_w1244 : (Jvm.Cond.selects "java/lang/String" ({ cls := "java/lang/String", name := "isEmpty", desc := "()Z" } : Jvm.MethodName) ({ cls := "java/lang/String", name := "isEmpty", desc := "()Z" } : Jvm.MethodName)) ∈ ab_wG := ab_in5 63 rfl rfl
theorem ab_w1245 : (Jvm.Cond.code ({ cls := "java/lang/String", name := "isEmpty", desc := "()Z" } : Jvm.MethodName) prog_26_method_55_code (1 : Nat) (Option.some Jvm.ClassFile.FieldType.boolean)) ∈ ab_wG := ab_in5 64 rfl rfl
theorem ab_w1246 : (Jvm.Cond.methodLink "BookBindery$CommandText" (56 : Nat) ({ cls := "java/lang/String", name := "length", desc := "()I" } : Jvm.MethodName)) ∈ ab_wG := ab_in5 65 rfl rfl
theorem ab_w1247 : (Jvm.Cond.instanceMethod ({ cls := "java/lang/String", name := "length", desc := "()I" } : Jvm.MethodName)) ∈ ab_wG := ab_in5 66 rfl rfl
theorem ab_w1248 : (Jvm.Cond.selects "java/lang/String" ({ cls := "java/lang/String", name := "length", desc := "()I" } : Jvm.MethodName) ({ cls := "java/lang/String", name := "length", desc := "()I" } : Jvm.MethodName)) ∈ ab_wG := ab_in5 67 rfl rfl
theorem ab_w1249 : (Jvm.Cond.code ({ cls := "java/lang/String", name := "length", desc := "()I" } : Jvm.MethodName) prog_26_method_54_code (1 : Nat) (Option.some Jvm.ClassFile.FieldType.int)) ∈ ab_wG := ab_in5 68 rfl rfl
theorem ab_w1250 : (Jvm.Cond.methodLink "BookBindery$CommandText" (59 : Nat) ({ cls := "java/lang/String", name := "charAt", desc := "(I)C" } : Jvm.MethodName)) ∈ ab_wG := ab_in5 74 rfl rfl
theorem ab_w1251 : (Jvm.Cond.instanceMethod ({ cls := "java/lang/String", name := "charAt", desc := "(I)C" } : Jvm.MethodName)) ∈ ab_wG := ab_in5 75 rfl rfl
theorem ab_w1252 : (Jvm.Cond.selects "java/lang/String" ({ cls := "java/lang/String", name := "charAt", desc := "(I)C" } : Jvm.MethodName) ({ cls := "java/lang/String", name := "charAt", desc := "(I)C" } : Jvm.MethodName)) ∈ ab_wG := ab_in5 76 rfl rfl
theorem ab_w1253 : (Jvm.Cond.code ({ cls := "java/lang/String", name := "charAt", desc := "(I)C" } : Jvm.MethodName) prog_26_method_56_code (2 : Nat) (Option.some Jvm.ClassFile.FieldType.char)) ∈ ab_wG := ab_in5 77 rfl rfl
theorem ab_w1254 : (Jvm.Cond.methodLink "BookBindery$CommandText" (63 : Nat) ({ cls := "BookBindery$CommandText", name := "readPart", desc := "(C)Z" } : Jvm.MethodName)) ∈ ab_wG := ab_in5 112 rfl rfl
theorem ab_w1255 : (Jvm.Cond.instanceMethod ({ cls := "BookBindery$CommandText", name := "readPart", desc := "(C)Z" } : Jvm.MethodName)) ∈ ab_wG := ab_in5 114 rfl rfl
theorem ab_w1256 : (Jvm.Cond.selects "BookBindery$CommandText" ({ cls := "BookBindery$CommandText", name := "readPart", desc := "(C)Z" } : Jvm.MethodName) ({ cls := "BookBindery$CommandText", name := "readPart", desc := "(C)Z" } : Jvm.MethodName)) ∈ ab_wG := ab_inp2 0 rfl
theorem ab_w1257 : (Jvm.Cond.code ({ cls := "BookBindery$CommandText", name := "readPart", desc := "(C)Z" } : Jvm.MethodName) prog_4_method_9_code (2 : Nat) (Option.some Jvm.ClassFile.FieldType.boolean)) ∈ ab_wG := ab_in5 115 rfl rfl
theorem ab_w1258 : (Jvm.Cond.fieldLink "BookBindery$Bench" (170 : Nat) "BookBindery$CommandText" "numbers" "[I") ∈ ab_wG := ab_in2 9 rfl rfl
theorem ab_w1259 : (Jvm.Cond.fieldLink "BookBindery$Bench" (173 : Nat) "BookBindery$CommandText" "letter" "C") ∈ ab_wG := ab_in2 7 rfl rfl
theorem ab_w1260 : (Jvm.Cond.methodLink "BookBindery$Bench" (206 : Nat) ({ cls := "BookBindery$Bench", name := "letMinutesGoBy", desc := "(I)I" } : Jvm.MethodName)) ∈ ab_wG := ab_in5 153 rfl rfl
theorem ab_w1261 : (Jvm.Cond.methodLink "BookBindery$Bench" (188 : Nat) ({ cls := "BookBindery$Bench", name := "unpickLatest", desc := "(I)I" } : Jvm.MethodName)) ∈ ab_wG := ab_in5 147 rfl rfl
theorem ab_w1262 : (Jvm.Cond.methodLink "BookBindery$Bench" (197 : Nat) ({ cls := "BookBindery$Bench", name := "liftTop", desc := "(I)I" } : Jvm.MethodName)) ∈ ab_wG := ab_in5 150 rfl rfl
theorem ab_w1263 : (Jvm.Cond.methodLink "BookBindery$Bench" (185 : Nat) ({ cls := "BookBindery$Bench", name := "sewNext", desc := "(I)I" } : Jvm.MethodName)) ∈ ab_wG := ab_in5 146 rfl rfl
theorem ab_w1264 : (Jvm.Cond.methodLink "BookBindery$Bench" (194 : Nat) ({ cls := "BookBindery$Bench", name := "layInPress", desc := "(II)I" } : Jvm.MethodName)) ∈ ab_wG := ab_in5 149 rfl rfl
theorem ab_w1265 : (Jvm.Cond.methodLink "BookBindery$Bench" (191 : Nat) ({ cls := "BookBindery$Bench", name := "applyGlue", desc := "(II)I" } : Jvm.MethodName)) ∈ ab_wG := ab_in5 148 rfl rfl
theorem ab_w1266 : (Jvm.Cond.fieldLink "BookBindery$Bench" (177 : Nat) "BookBindery$CommandText" "isTurned" "Z") ∈ ab_wG := ab_in2 12 rfl rfl
theorem ab_w1267 : (Jvm.Cond.methodLink "BookBindery$Bench" (181 : Nat) ({ cls := "BookBindery$Bench", name := "addSignature", desc := "(IIIZ)I" } : Jvm.MethodName)) ∈ ab_wG := ab_in5 145 rfl rfl
theorem ab_w1268 : (Jvm.Cond.methodLink "BookBindery$Bench" (200 : Nat) ({ cls := "BookBindery$Bench", name := "pasteSlip", desc := "(II)I" } : Jvm.MethodName)) ∈ ab_wG := ab_in5 151 rfl rfl
theorem ab_w1269 : (Jvm.Cond.methodLink "BookBindery$Bench" (203 : Nat) ({ cls := "BookBindery$Bench", name := "handOver", desc := "(I)I" } : Jvm.MethodName)) ∈ ab_wG := ab_in5 152 rfl rfl
theorem ab_w1270 : (Jvm.Cond.methodLink "BookBindery$History" (29 : Nat) ({ cls := "java/lang/Math", name := "min", desc := "(II)I" } : Jvm.MethodName)) ∈ ab_wG := ab_in2 225 rfl rfl
theorem ab_w1271 : (Jvm.Cond.methodLink "BookBindery$Book" (64 : Nat) ({ cls := "BookBindery$Book", name := "pageOn", desc := "(I)I" } : Jvm.MethodName)) ∈ ab_wG := ab_in3 150 rfl rfl
theorem ab_w1272 : (Jvm.Cond.methodLink "BookBindery$Book" (88 : Nat) ({ cls := "java/lang/Math", name := "min", desc := "(II)I" } : Jvm.MethodName)) ∈ ab_wG := ab_in4 105 rfl rfl
theorem ab_w1273 : (Jvm.Cond.methodLink "BookBindery$Book" (93 : Nat) ({ cls := "java/lang/Math", name := "max", desc := "(II)I" } : Jvm.MethodName)) ∈ ab_wG := ab_in4 106 rfl rfl
theorem ab_w1274 : (Jvm.Cond.fieldLink "BookBindery$Bench" (209 : Nat) "BookBindery$Bench" "reason" "I") ∈ ab_wG := ab_in1 194 rfl rfl
theorem ab_w1275 : (Jvm.Cond.fieldLink "BookBindery$Bench" (212 : Nat) "BookBindery$Bench" "detail" "I") ∈ ab_wG := ab_in1 196 rfl rfl
theorem ab_w1276 : (Jvm.Cond.fieldLink "BookBindery$Bench" (215 : Nat) "BookBindery$Bench" "refusedCommand" "I") ∈ ab_wG := ab_in1 198 rfl rfl
theorem ab_w1277 : (Jvm.Cond.fieldLink "BookBindery$Shop" (63 : Nat) "BookBindery$Book" "minutesLeft" "I") ∈ ab_wG := ab_in1 84 rfl rfl
theorem ab_w1278 : (Jvm.Cond.fieldLink "BookBindery$Shop" (66 : Nat) "BookBindery$Book" "sewn" "I") ∈ ab_wG := ab_in1 75 rfl rfl
theorem ab_w1279 : (Jvm.Cond.methodLink "BookBindery$Shop" (69 : Nat) ({ cls := "BookBindery$Book", name := "comeLoose", desc := "()V" } : Jvm.MethodName)) ∈ ab_wG := ab_in3 209 rfl rfl
theorem ab_w1280 : (Jvm.Cond.instanceMethod ({ cls := "BookBindery$Book", name := "comeLoose", desc := "()V" } : Jvm.MethodName)) ∈ ab_wG := ab_in3 210 rfl rfl
theorem ab_w1281 : (Jvm.Cond.selects "BookBindery$Book" ({ cls := "BookBindery$Book", name := "comeLoose", desc := "()V" } : Jvm.MethodName) ({ cls := "BookBindery$Book", name := "comeLoose", desc := "()V" } : Jvm.MethodName)) ∈ ab_wG := ab_in3 211 rfl rfl
theorem ab_w1282 : (Jvm.Cond.code ({ cls := "BookBindery$Book", name := "comeLoose", desc := "()V" } : Jvm.MethodName) prog_3_method_8_code (1 : Nat) (Option.none : Option Jvm.ClassFile.FieldType)) ∈ ab_wG := ab_in3 212 rfl rfl
theorem ab_w1283 : (Jvm.Cond.fieldLink "java/lang/String" (1053 : Nat) "jdk/internal/util/Preconditions" "SIOOBE_FORMATTER" "Ljava/util/function/BiFunction;") ∈ ab_wG := ab_in5 88 rfl rfl
theorem ab_w1284 : (Jvm.Cond.methodLink "java/lang/String" (1059 : Nat) ({ cls := "jdk/internal/util/Preconditions", name := "checkIndex", desc := "(IILjava/util/function/BiFunction;)I" } : Jvm.MethodName)) ∈ ab_wG := ab_in5 90 rfl rfl
theorem ab_w1285 : (Jvm.Cond.static ({ cls := "jdk/internal/util/Preconditions", name := "checkIndex", desc := "(IILjava/util/function/BiFunction;)I" } : Jvm.MethodName)) ∈ ab_wG := ab_in5 91 rfl rfl
theorem ab_w1286 : (Jvm.Cond.initialized "jdk/internal/util/Preconditions") ∈ ab_wG := ab_in1 25 rfl rfl
theorem ab_w1287 : (Jvm.Cond.code ({ cls := "jdk/internal/util/Preconditions", name := "checkIndex", desc := "(IILjava/util/function/BiFunction;)I" } : Jvm.MethodName) prog_39_method_11_code (3 : Nat) (Option.some Jvm.ClassFile.FieldType.int)) ∈ ab_wG := ab_in5 92 rfl rfl
theorem ab_w1288 : (Jvm.Cond.code ({ cls := "java/lang/AbstractStringBuilder", name := "newCapacity", desc := "(I)I" } : Jvm.MethodName) prog_11_method_10_code (6 : Nat) (Option.some Jvm.ClassFile.FieldType.int)) ∈ ab_wG := ab_in5 205 rfl rfl
theorem ab_w1289 : (Jvm.Cond.methodLink "java/lang/AbstractStringBuilder" (104 : Nat) ({ cls := "java/lang/AbstractStringBuilder", name := "newCapacity", desc := "(I)I" } : Jvm.MethodName)) ∈ ab_wG := ab_in5 202 rfl rfl
theorem ab_w1290 : (Jvm.Cond.sameMethod "java/lang/AbstractStringBuilder" "java/lang/AbstractStringBuilder" "newCapacity" "(I)I") ∈ ab_wG := ab_in8 216 rfl rfl
theorem ab_w1291 : (Jvm.Cond.selects "java/lang/StringBuilder" ({ cls := "java/lang/AbstractStringBuilder", name := "newCapacity", desc := "(I)I" } : Jvm.MethodName) ({ cls := "java/lang/AbstractStringBuilder", name := "newCapacity", desc := "(I)I" } : Jvm.MethodName)) ∈ ab_wG := ab_inx 1 rfl rfl
theorem ab_w1292 : (Jvm.Cond.instanceMethod ({ cls := "java/lang/AbstractStringBuilder", name := "newCapacity", desc := "(I)I" } : Jvm.MethodName)) ∈ ab_wG := ab_in5 204 rfl rfl
theorem ab_w1293 : (Jvm.Cond.methodLink "java/lang/AbstractStringBuilder" (108 : Nat) ({ cls := "java/util/Arrays", name := "copyOf", desc := "([BI)[B" } : Jvm.MethodName)) ∈ ab_wG := ab_in5 215 rfl rfl
theorem ab_w1294 : (Jvm.Cond.static ({ cls := "java/util/Arrays", name := "copyOf", desc := "([BI)[B" } : Jvm.MethodName)) ∈ ab_wG := ab_in5 216 rfl rfl
theorem ab_w1295 : (Jvm.Cond.initialized "java/util/Arrays") ∈ ab_wG := ab_in1 28 rfl rfl
theorem ab_w1296 : (Jvm.Cond.code ({ cls := "java/util/Arrays", name := "copyOf", desc := "([BI)[B" } : Jvm.MethodName) prog_36_method_121_code (3 : Nat) (Option.some (Jvm.ClassFile.FieldType.array Jvm.ClassFile.FieldType.byte))) ∈ ab_wG := ab_in5 217 rfl rfl
theorem ab_w1297 : (Jvm.Cond.fieldLink "java/lang/Integer" (83 : Nat) "java/lang/Integer" "DigitOnes" "[B") ∈ ab_wG := ab_in6 55 rfl rfl
theorem ab_w1298 : (Jvm.Cond.fieldLink "java/lang/Integer" (87 : Nat) "java/lang/Integer" "DigitTens" "[B") ∈ ab_wG := ab_in6 57 rfl rfl
theorem ab_w1299 : (Jvm.Cond.fieldLink "java/lang/String" (9 : Nat) "java/lang/String" "value" "[B") ∈ ab_wG := ab_in6 123 rfl rfl
theorem ab_w1300 : (Jvm.Cond.methodLink "java/lang/String" (335 : Nat) ({ cls := "java/lang/String", name := "coder", desc := "()B" } : Jvm.MethodName)) ∈ ab_wG := ab_in5 69 rfl rfl
theorem ab_w1301 : (Jvm.Cond.instanceMethod ({ cls := "java/lang/String", name := "coder", desc := "()B" } : Jvm.MethodName)) ∈ ab_wG := ab_in5 70 rfl rfl
theorem ab_w1302 : (Jvm.Cond.selects "java/lang/String" ({ cls := "java/lang/String", name := "coder", desc := "()B" } : Jvm.MethodName) ({ cls := "java/lang/String", name := "coder", desc := "()B" } : Jvm.MethodName)) ∈ ab_wG := ab_in5 71 rfl rfl
theorem ab_w1303 : (Jvm.Cond.code ({ cls := "java/lang/String", name := "coder", desc := "()B" } : Jvm.MethodName) prog_26_method_152_code (1 : Nat) (Option.some Jvm.ClassFile.FieldType.byte)) ∈ ab_wG := ab_in5 72 rfl rfl
theorem ab_w1304 : (Jvm.Cond.methodLink "java/lang/String" (492 : Nat) ({ cls := "java/lang/String", name := "isLatin1", desc := "()Z" } : Jvm.MethodName)) ∈ ab_wG := ab_in5 78 rfl rfl
theorem ab_w1305 : (Jvm.Cond.instanceMethod ({ cls := "java/lang/String", name := "isLatin1", desc := "()Z" } : Jvm.MethodName)) ∈ ab_wG := ab_in5 79 rfl rfl
theorem ab_w1306 : (Jvm.Cond.selects "java/lang/String" ({ cls := "java/lang/String", name := "isLatin1", desc := "()Z" } : Jvm.MethodName) ({ cls := "java/lang/String", name := "isLatin1", desc := "()Z" } : Jvm.MethodName)) ∈ ab_wG := ab_in5 80 rfl rfl
theorem ab_w1307 : (Jvm.Cond.code ({ cls := "java/lang/String", name := "isLatin1", desc := "()Z" } : Jvm.MethodName) prog_26_method_154_code (1 : Nat) (Option.some Jvm.ClassFile.FieldType.boolean)) ∈ ab_wG := ab_in5 81 rfl rfl
theorem ab_w1308 : (Jvm.Cond.methodLink "java/lang/String" (495 : Nat) ({ cls := "java/lang/StringLatin1", name := "charAt", desc := "([BI)C" } : Jvm.MethodName)) ∈ ab_wG := ab_in5 82 rfl rfl
theorem ab_w1309 : (Jvm.Cond.static ({ cls := "java/lang/StringLatin1", name := "charAt", desc := "([BI)C" } : Jvm.MethodName)) ∈ ab_wG := ab_in5 83 rfl rfl
theorem ab_w1310 : (Jvm.Cond.code ({ cls := "java/lang/StringLatin1", name := "charAt", desc := "([BI)C" } : Jvm.MethodName) prog_29_method_2_code (2 : Nat) (Option.some Jvm.ClassFile.FieldType.char)) ∈ ab_wG := ab_in5 84 rfl rfl
theorem ab_w1311 : (Jvm.Cond.methodLink "BookBindery$CommandText" (78 : Nat) ({ cls := "BookBindery$CommandText", name := "readNumber", desc := "(I)Z" } : Jvm.MethodName)) ∈ ab_wG := ab_in5 116 rfl rfl
theorem ab_w1312 : (Jvm.Cond.instanceMethod ({ cls := "BookBindery$CommandText", name := "readNumber", desc := "(I)Z" } : Jvm.MethodName)) ∈ ab_wG := ab_in5 118 rfl rfl
theorem ab_w1313 : (Jvm.Cond.selects "BookBindery$CommandText" ({ cls := "BookBindery$CommandText", name := "readNumber", desc := "(I)Z" } : Jvm.MethodName) ({ cls := "BookBindery$CommandText", name := "readNumber", desc := "(I)Z" } : Jvm.MethodName)) ∈ ab_wG := ab_inp2 1 rfl
theorem ab_w1314 : (Jvm.Cond.code ({ cls := "BookBindery$CommandText", name := "readNumber", desc := "(I)Z" } : Jvm.MethodName) prog_4_method_10_code (4 : Nat) (Option.some Jvm.ClassFile.FieldType.boolean)) ∈ ab_wG := ab_in5 119 rfl rfl
theorem ab_w1315 : (Jvm.Cond.fieldLink "BookBindery$CommandText" (82 : Nat) "BookBindery$CommandText" "isTurned" "Z") ∈ ab_wG := ab_in2 11 rfl rfl
theorem ab_w1316 : (Jvm.Cond.methodLink "java/lang/AbstractStringBuilder" (114 : Nat) ({ cls := "jdk/internal/util/ArraysSupport", name := "newLength", desc := "(III)I" } : Jvm.MethodName)) ∈ ab_wG := ab_in5 206 rfl rfl
theorem ab_w1317 : (Jvm.Cond.static ({ cls := "jdk/internal/util/ArraysSupport", name := "newLength", desc := "(III)I" } : Jvm.MethodName)) ∈ ab_wG := ab_in5 207 rfl rfl
theorem ab_w1318 : (Jvm.Cond.initialized "jdk/internal/util/ArraysSupport") ∈ ab_wG := ab_in1 27 rfl rfl
theorem ab_w1319 : (Jvm.Cond.code ({ cls := "jdk/internal/util/ArraysSupport", name := "newLength", desc := "(III)I" } : Jvm.MethodName) prog_38_method_27_code (4 : Nat) (Option.some Jvm.ClassFile.FieldType.int)) ∈ ab_wG := ab_in5 208 rfl rfl
theorem ab_w1320 : (Jvm.Cond.constant "java/lang/AbstractStringBuilder" (39 : Nat) (2147483647 : Int32)) ∈ ab_wG := ab_in5 214 rfl rfl
theorem ab_w1321 : (Jvm.Cond.methodLink "java/util/Arrays" (304 : Nat) ({ cls := "java/lang/Math", name := "min", desc := "(II)I" } : Jvm.MethodName)) ∈ ab_wG := ab_in5 225 rfl rfl
theorem ab_w1322 : (Jvm.Cond.methodLink "java/util/Arrays" (150 : Nat) ({ cls := "java/lang/System", name := "arraycopy", desc := "(Ljava/lang/Object;ILjava/lang/Object;II)V" } : Jvm.MethodName)) ∈ ab_wG := ab_in5 226 rfl rfl
theorem ab_w1323 : (Jvm.Cond.fieldLink "java/lang/String" (38 : Nat) "java/lang/String" "COMPACT_STRINGS" "Z") ∈ ab_wG := ab_in5 73 rfl rfl
theorem ab_w1324 : (Jvm.Cond.fieldLink "java/lang/String" (15 : Nat) "java/lang/String" "coder" "B") ∈ ab_wG := ab_in6 124 rfl rfl
theorem ab_w1325 : (Jvm.Cond.methodLink "java/lang/StringLatin1" (9 : Nat) ({ cls := "java/lang/String", name := "checkIndex", desc := "(II)V" } : Jvm.MethodName)) ∈ ab_wG := ab_in5 85 rfl rfl
theorem ab_w1326 : (Jvm.Cond.methodLink "BookBindery$CommandText" (86 : Nat) ({ cls := "BookBindery$CommandText", name := "isAtDigit", desc := "()Z" } : Jvm.MethodName)) ∈ ab_wG := ab_in5 120 rfl rfl
theorem ab_w1327 : (Jvm.Cond.instanceMethod ({ cls := "BookBindery$CommandText", name := "isAtDigit", desc := "()Z" } : Jvm.MethodName)) ∈ ab_wG := ab_in5 122 rfl rfl
theorem ab_w1328 : (Jvm.Cond.selects "BookBindery$CommandText" ({ cls := "BookBindery$CommandText", name := "isAtDigit", desc := "()Z" } : Jvm.MethodName) ({ cls := "BookBindery$CommandText", name := "isAtDigit", desc := "()Z" } : Jvm.MethodName)) ∈ ab_wG := ab_inp2 2 rfl
theorem ab_w1329 : (Jvm.Cond.code ({ cls := "BookBindery$CommandText", name := "isAtDigit", desc := "()Z" } : Jvm.MethodName) prog_4_method_11_code (1 : Nat) (Option.some Jvm.ClassFile.FieldType.boolean)) ∈ ab_wG := ab_in5 123 rfl rfl
theorem ab_w1330 : (Jvm.Cond.methodLink "jdk/internal/util/ArraysSupport" (194 : Nat) ({ cls := "java/lang/Math", name := "max", desc := "(II)I" } : Jvm.MethodName)) ∈ ab_wG := ab_in5 209 rfl rfl
theorem ab_w1331 : (Jvm.Cond.constant "jdk/internal/util/ArraysSupport" (200 : Nat) (2147483639 : Int32)) ∈ ab_wG := ab_in5 210 rfl rfl
theorem ab_w1332 : (Jvm.Cond.lays "java/lang/StringBuilder" "java/lang/AbstractStringBuilder" "value" "[B") ∈ ab_wG := ab_in2 54 rfl rfl
theorem ab_w1333 : (Jvm.Cond.lays "java/lang/StringBuilder" "java/lang/AbstractStringBuilder" "coder" "B") ∈ ab_wG := ab_in2 56 rfl rfl
theorem ab_w1334 : (Jvm.Cond.lays "java/lang/StringBuilder" "java/lang/AbstractStringBuilder" "maybeLatin1" "Z") ∈ ab_wG := ab_in2 58 rfl rfl
theorem ab_w1335 : (Jvm.Cond.lays "java/lang/StringBuilder" "java/lang/AbstractStringBuilder" "count" "I") ∈ ab_wG := ab_in2 60 rfl rfl
theorem ab_w1336 : (Jvm.Cond.laysFinal "BookBindery$Bench" "BookBindery$Bench" "shop" "LBookBindery$Shop;") ∈ ab_wG := ab_in1 201 rfl rfl
theorem ab_w1337 : (Jvm.Cond.lays "BookBindery$Bench" "BookBindery$Bench" "reason" "I") ∈ ab_wG := ab_in1 203 rfl rfl
theorem ab_w1338 : (Jvm.Cond.lays "BookBindery$Bench" "BookBindery$Bench" "detail" "I") ∈ ab_wG := ab_in1 205 rfl rfl
theorem ab_w1339 : (Jvm.Cond.lays "BookBindery$Bench" "BookBindery$Bench" "refusedCommand" "I") ∈ ab_wG := ab_in1 207 rfl rfl
theorem ab_w1340 : (Jvm.Cond.lays "BookBindery$Bench" "BookBindery$Bench" "command" "I") ∈ ab_wG := ab_in1 209 rfl rfl
theorem ab_w1341 : (Jvm.Cond.lays "BookBindery$Book" "BookBindery$Book" "pages" "I") ∈ ab_wG := ab_in1 96 rfl rfl
theorem ab_w1342 : (Jvm.Cond.lays "BookBindery$Book" "BookBindery$Book" "stations" "I") ∈ ab_wG := ab_in1 98 rfl rfl
theorem ab_w1343 : (Jvm.Cond.lays "BookBindery$Book" "BookBindery$Book" "stage" "I") ∈ ab_wG := ab_in1 100 rfl rfl
theorem ab_w1344 : (Jvm.Cond.lays "BookBindery$Book" "BookBindery$Book" "signatures" "I") ∈ ab_wG := ab_in1 102 rfl rfl
theorem ab_w1345 : (Jvm.Cond.lays "BookBindery$Book" "BookBindery$Book" "sewn" "I") ∈ ab_wG := ab_in1 104 rfl rfl
theorem ab_w1346 : (Jvm.Cond.lays "BookBindery$Book" "BookBindery$Book" "slips" "I") ∈ ab_wG := ab_in1 106 rfl rfl
theorem ab_w1347 : (Jvm.Cond.lays "BookBindery$Book" "BookBindery$Book" "glue" "I") ∈ ab_wG := ab_in1 108 rfl rfl
theorem ab_w1348 : (Jvm.Cond.lays "BookBindery$Book" "BookBindery$Book" "minutesLeft" "I") ∈ ab_wG := ab_in1 110 rfl rfl
theorem ab_w1349 : (Jvm.Cond.laysFinal "BookBindery$Book" "BookBindery$Book" "first" "[I") ∈ ab_wG := ab_in1 112 rfl rfl
theorem ab_w1350 : (Jvm.Cond.laysFinal "BookBindery$Book" "BookBindery$Book" "last" "[I") ∈ ab_wG := ab_in1 114 rfl rfl
theorem ab_w1351 : (Jvm.Cond.laysFinal "BookBindery$Book" "BookBindery$Book" "fold" "[I") ∈ ab_wG := ab_in1 116 rfl rfl
theorem ab_w1352 : (Jvm.Cond.laysFinal "BookBindery$Book" "BookBindery$Book" "turned" "[Z") ∈ ab_wG := ab_in1 118 rfl rfl
theorem ab_w1353 : (Jvm.Cond.laysFinal "BookBindery$Book" "BookBindery$Book" "slipRows" "[J") ∈ ab_wG := ab_in1 120 rfl rfl
theorem ab_w1354 : (Jvm.Cond.laysFinal "BookBindery$CommandText" "BookBindery$CommandText" "characters" "[C") ∈ ab_wG := ab_in2 13 rfl rfl
theorem ab_w1355 : (Jvm.Cond.lays "BookBindery$CommandText" "BookBindery$CommandText" "length" "I") ∈ ab_wG := ab_in2 15 rfl rfl
theorem ab_w1356 : (Jvm.Cond.lays "BookBindery$CommandText" "BookBindery$CommandText" "count" "I") ∈ ab_wG := ab_in2 17 rfl rfl
theorem ab_w1357 : (Jvm.Cond.lays "BookBindery$CommandText" "BookBindery$CommandText" "at" "I") ∈ ab_wG := ab_in2 19 rfl rfl
theorem ab_w1358 : (Jvm.Cond.lays "BookBindery$CommandText" "BookBindery$CommandText" "letter" "C") ∈ ab_wG := ab_in2 21 rfl rfl
theorem ab_w1359 : (Jvm.Cond.laysFinal "BookBindery$CommandText" "BookBindery$CommandText" "numbers" "[I") ∈ ab_wG := ab_in2 23 rfl rfl
theorem ab_w1360 : (Jvm.Cond.lays "BookBindery$CommandText" "BookBindery$CommandText" "numberCount" "I") ∈ ab_wG := ab_in2 25 rfl rfl
theorem ab_w1361 : (Jvm.Cond.lays "BookBindery$CommandText" "BookBindery$CommandText" "isTurned" "Z") ∈ ab_wG := ab_in2 27 rfl rfl
theorem ab_w1362 : (Jvm.Cond.laysFinal "BookBindery$History" "BookBindery$History" "slots" "[LBookBindery$Shop;") ∈ ab_wG := ab_in1 225 rfl rfl
theorem ab_w1363 : (Jvm.Cond.lays "BookBindery$History" "BookBindery$History" "next" "I") ∈ ab_wG := ab_in1 227 rfl rfl
theorem ab_w1364 : (Jvm.Cond.lays "BookBindery$History" "BookBindery$History" "kept" "I") ∈ ab_wG := ab_in1 229 rfl rfl
theorem ab_w1365 : (Jvm.Cond.laysFinal "BookBindery$Press" "BookBindery$Press" "stack" "[I") ∈ ab_wG := ab_in1 137 rfl rfl
theorem ab_w1366 : (Jvm.Cond.lays "BookBindery$Press" "BookBindery$Press" "height" "I") ∈ ab_wG := ab_in1 139 rfl rfl
theorem ab_w1367 : (Jvm.Cond.laysFinal "BookBindery$Shop" "BookBindery$Shop" "books" "[LBookBindery$Book;") ∈ ab_wG := ab_in1 171 rfl rfl
theorem ab_w1368 : (Jvm.Cond.laysFinal "BookBindery$Shop" "BookBindery$Shop" "presses" "[LBookBindery$Press;") ∈ ab_wG := ab_in1 173 rfl rfl
theorem ab_w1369 : (Jvm.Cond.lays "BookBindery$Shop" "BookBindery$Shop" "bookCount" "I") ∈ ab_wG := ab_in1 175 rfl rfl
theorem ab_w1370 : (Jvm.Cond.lays "BookBindery$Shop" "BookBindery$Shop" "minute" "I") ∈ ab_wG := ab_in1 177 rfl rfl
theorem ab_w1371 : (Jvm.Cond.lays "BookBindery$Shop" "BookBindery$Shop" "coins" "I") ∈ ab_wG := ab_in1 179 rfl rfl
theorem ab_w1372 : (Jvm.Cond.lays "BookBindery$Shop" "BookBindery$Shop" "thread" "I") ∈ ab_wG := ab_in1 181 rfl rfl
theorem ab_w1373 : (Jvm.Cond.lays "BookBindery$Shop" "BookBindery$Shop" "threadSewn" "I") ∈ ab_wG := ab_in1 183 rfl rfl
theorem ab_w1374 : (Jvm.Cond.lays "BookBindery$Shop" "BookBindery$Shop" "unpicked" "I") ∈ ab_wG := ab_in1 185 rfl rfl
theorem ab_w1375 : (Jvm.Cond.lays "BookBindery$Shop" "BookBindery$Shop" "slipsPasted" "I") ∈ ab_wG := ab_in1 187 rfl rfl
theorem ab_w1376 : (Jvm.Cond.lays "BookBindery$Shop" "BookBindery$Shop" "coinsBrought" "I") ∈ ab_wG := ab_in1 189 rfl rfl
theorem ab_w1377 : (Jvm.Cond.laysFinal "BookBindery" "BookBindery" "bench" "LBookBindery$Bench;") ∈ ab_wG := ab_in2 73 rfl rfl
theorem ab_w1378 : (Jvm.Cond.laysFinal "BookBindery" "BookBindery" "shop" "LBookBindery$Shop;") ∈ ab_wG := ab_in2 75 rfl rfl
theorem ab_w1379 : (Jvm.Cond.laysFinal "BookBindery" "BookBindery" "history" "LBookBindery$History;") ∈ ab_wG := ab_in2 77 rfl rfl
theorem ab_w1380 : (Jvm.Cond.laysFinal "BookBindery" "BookBindery" "snapshot" "LBookBindery$Shop;") ∈ ab_wG := ab_in2 79 rfl rfl
theorem ab_w1381 : (Jvm.Cond.lays "BookBindery" "BookBindery" "hasSnapshot" "Z") ∈ ab_wG := ab_in2 81 rfl rfl
theorem ab_w1382 : (Jvm.Cond.laysFinal "BookBindery" "BookBindery" "text" "LBookBindery$CommandText;") ∈ ab_wG := ab_in2 83 rfl rfl
theorem ab_w1383 : (Jvm.Cond.lays "BookBindery" "BookBindery" "fault" "I") ∈ ab_wG := ab_in2 85 rfl rfl
theorem ab_w1384 : (Jvm.Cond.laysFinal "BookBindery" "BookBindery" "written" "Ljava/lang/StringBuilder;") ∈ ab_wG := ab_in2 87 rfl rfl
theorem ab_w1385 : (Jvm.Cond.laysFinal "BookBindery" "BookBindery" "weights" "[I") ∈ ab_wG := ab_in2 89 rfl rfl
theorem ab_w1386 : (Jvm.Cond.laysFinal "BookBinderyModel" "BookBinderyModel" "g" "[I") ∈ ab_wG := ab_in7 51 rfl rfl
theorem ab_w1387 : (Jvm.Cond.laysFinal "BookBinderyModel" "BookBinderyModel" "kept" "[I") ∈ ab_wG := ab_in7 53 rfl rfl
theorem ab_w1388 : (Jvm.Cond.laysFinal "BookBinderyModel" "BookBinderyModel" "saved" "[I") ∈ ab_wG := ab_in7 55 rfl rfl
theorem ab_w1389 : (Jvm.Cond.laysFinal "BookBinderyModel" "BookBinderyModel" "before" "[I") ∈ ab_wG := ab_in7 57 rfl rfl
theorem ab_w1390 : (Jvm.Cond.lays "BookBinderyModel" "BookBinderyModel" "isSaved" "Z") ∈ ab_wG := ab_in7 59 rfl rfl
theorem ab_w1391 : (Jvm.Cond.lays "BookBinderyModel" "BookBinderyModel" "changes" "I") ∈ ab_wG := ab_in7 61 rfl rfl
theorem ab_w1392 : (Jvm.Cond.lays "BookBinderyModel" "BookBinderyModel" "isWithin" "Z") ∈ ab_wG := ab_in7 63 rfl rfl
theorem ab_w1393 : (Jvm.Cond.lays "BookBinderyModel" "BookBinderyModel" "code" "I") ∈ ab_wG := ab_in7 65 rfl rfl
theorem ab_w1394 : (Jvm.Cond.lays "BookBinderyModel" "BookBinderyModel" "why" "I") ∈ ab_wG := ab_in7 67 rfl rfl
theorem ab_w1395 : (Jvm.Cond.lays "BookBinderyModel" "BookBinderyModel" "detail" "I") ∈ ab_wG := ab_in7 69 rfl rfl
theorem ab_w1396 : (Jvm.Cond.lays "BookBinderyModel" "BookBinderyModel" "command" "I") ∈ ab_wG := ab_in7 71 rfl rfl
theorem ab_w1397 : (Jvm.Cond.laysFinal "BookBinderyModel" "BookBinderyModel" "input" "[I") ∈ ab_wG := ab_in7 73 rfl rfl
theorem ab_w1398 : (Jvm.Cond.lays "BookBinderyModel" "BookBinderyModel" "length" "I") ∈ ab_wG := ab_in7 75 rfl rfl
theorem ab_w1399 : (Jvm.Cond.lays "BookBinderyModel" "BookBinderyModel" "fault" "I") ∈ ab_wG := ab_in7 77 rfl rfl
theorem ab_w1400 : (Jvm.Cond.laysFinal "BookBinderyModel" "BookBinderyModel" "signs" "[C") ∈ ab_wG := ab_in7 79 rfl rfl
theorem ab_w1401 : (Jvm.Cond.lays "BookBinderyModel" "BookBinderyModel" "signMany" "I") ∈ ab_wG := ab_in7 81 rfl rfl
theorem ab_w1402 : (Jvm.Cond.lays "BookBinderyModel" "BookBinderyModel" "read" "I") ∈ ab_wG := ab_in7 83 rfl rfl
theorem ab_w1403 : (Jvm.Cond.laysFinal "BookBinderyModel" "BookBinderyModel" "told" "[I") ∈ ab_wG := ab_in7 85 rfl rfl
theorem ab_w1404 : (Jvm.Cond.lays "BookBinderyModel" "BookBinderyModel" "toldMany" "I") ∈ ab_wG := ab_in7 87 rfl rfl
theorem ab_w1405 : (Jvm.Cond.classLink "BookBinderyLaw" (113 : Nat) "java/lang/IllegalStateException") ∈ ab_wG := ab_in5 9 rfl rfl
theorem ab_w1406 : (Jvm.Cond.classLink "BookBinderyLaw" (59 : Nat) "java/lang/IllegalArgumentException") ∈ ab_wG := ab_in4 8 rfl rfl
theorem ab_w1407 : (Jvm.Cond.classLink "BookBinderyLaw" (133 : Nat) "java/lang/ArithmeticException") ∈ ab_wG := ab_in6 199 rfl rfl
theorem ab_w1408 : (Jvm.Cond.classLink "BookBinderyLaw" (57 : Nat) "java/lang/IndexOutOfBoundsException") ∈ ab_wG := ab_in3 216 rfl rfl
theorem ab_w1409 : (Jvm.Cond.classLink "BookBinderyLaw" (76 : Nat) "java/util/NoSuchElementException") ∈ ab_wG := ab_in4 112 rfl rfl
theorem ab_w1410 : (Jvm.Cond.classLink "BookBinderyLaw" (13 : Nat) "java/lang/UnsupportedOperationException") ∈ ab_wG := ab_in2 123 rfl rfl
theorem ab_ic1 : ∀ w ∈ u_ws RJ4 TJ4 4, w ∈ ab_wG := by
  intro w hw
  obtain ⟨k, hk, rfl⟩ := List.mem_map.mp hw
  have hk := List.mem_range.mp hk
  match k, hk with
  | 0, _ => exact ab_w1332
  | 1, _ => exact ab_w1333
  | 2, _ => exact ab_w1334
  | 3, _ => exact ab_w1335
  | n + 4, h => exact absurd h (by omega)
theorem ab_ic4 : ∀ w ∈ u_ws RX0 TX0 5, w ∈ ab_wG := by
  intro w hw
  obtain ⟨k, hk, rfl⟩ := List.mem_map.mp hw
  have hk := List.mem_range.mp hk
  match k, hk with
  | 0, _ => exact ab_w1336
  | 1, _ => exact ab_w1337
  | 2, _ => exact ab_w1338
  | 3, _ => exact ab_w1339
  | 4, _ => exact ab_w1340
  | n + 5, h => exact absurd h (by omega)
theorem ab_ic5 : ∀ w ∈ u_ws RX1 TX1 13, w ∈ ab_wG := by
  intro w hw
  obtain ⟨k, hk, rfl⟩ := List.mem_map.mp hw
  have hk := List.mem_range.mp hk
  match k, hk with
  | 0, _ => exact ab_w1341
  | 1, _ => exact ab_w1342
  | 2, _ => exact ab_w1343
  | 3, _ => exact ab_w1344
  | 4, _ => exact ab_w1345
  | 5, _ => exact ab_w1346
  | 6, _ => exact ab_w1347
  | 7, _ => exact ab_w1348
  | 8, _ => exact ab_w1349
  | 9, _ => exact ab_w1350
  | 10, _ => exact ab_w1351
  | 11, _ => exact ab_w1352
  | 12, _ => exact ab_w1353
  | n + 13, h => exact absurd h (by omega)
theorem ab_ic6 : ∀ w ∈ u_ws RX2 TX2 8, w ∈ ab_wG := by
  intro w hw
  obtain ⟨k, hk, rfl⟩ := List.mem_map.mp hw
  have hk := List.mem_range.mp hk
  match k, hk with
  | 0, _ => exact ab_w1354
  | 1, _ => exact ab_w1355
  | 2, _ => exact ab_w1356
  | 3, _ => exact ab_w1357
  | 4, _ => exact ab_w1358
  | 5, _ => exact ab_w1359
  | 6, _ => exact ab_w1360
  | 7, _ => exact ab_w1361
  | n + 8, h => exact absurd h (by omega)
theorem ab_ic7 : ∀ w ∈ u_ws RX3 TX3 3, w ∈ ab_wG := by
  intro w hw
  obtain ⟨k, hk, rfl⟩ := List.mem_map.mp hw
  have hk := List.mem_range.mp hk
  match k, hk with
  | 0, _ => exact ab_w1362
  | 1, _ => exact ab_w1363
  | 2, _ => exact ab_w1364
  | n + 3, h => exact absurd h (by omega)
theorem ab_ic8 : ∀ w ∈ u_ws RX4 TX4 2, w ∈ ab_wG := by
  intro w hw
  obtain ⟨k, hk, rfl⟩ := List.mem_map.mp hw
  have hk := List.mem_range.mp hk
  match k, hk with
  | 0, _ => exact ab_w1365
  | 1, _ => exact ab_w1366
  | n + 2, h => exact absurd h (by omega)
theorem ab_ic9 : ∀ w ∈ u_ws RX5 TX5 10, w ∈ ab_wG := by
  intro w hw
  obtain ⟨k, hk, rfl⟩ := List.mem_map.mp hw
  have hk := List.mem_range.mp hk
  match k, hk with
  | 0, _ => exact ab_w1367
  | 1, _ => exact ab_w1368
  | 2, _ => exact ab_w1369
  | 3, _ => exact ab_w1370
  | 4, _ => exact ab_w1371
  | 5, _ => exact ab_w1372
  | 6, _ => exact ab_w1373
  | 7, _ => exact ab_w1374
  | 8, _ => exact ab_w1375
  | 9, _ => exact ab_w1376
  | n + 10, h => exact absurd h (by omega)
theorem ab_ic10 : ∀ w ∈ u_ws RX6 TX6 9, w ∈ ab_wG := by
  intro w hw
  obtain ⟨k, hk, rfl⟩ := List.mem_map.mp hw
  have hk := List.mem_range.mp hk
  match k, hk with
  | 0, _ => exact ab_w1377
  | 1, _ => exact ab_w1378
  | 2, _ => exact ab_w1379
  | 3, _ => exact ab_w1380
  | 4, _ => exact ab_w1381
  | 5, _ => exact ab_w1382
  | 6, _ => exact ab_w1383
  | 7, _ => exact ab_w1384
  | 8, _ => exact ab_w1385
  | n + 9, h => exact absurd h (by omega)
theorem ab_ic11 : ∀ w ∈ u_ws RX7 TX7 19, w ∈ ab_wG := by
  intro w hw
  obtain ⟨k, hk, rfl⟩ := List.mem_map.mp hw
  have hk := List.mem_range.mp hk
  match k, hk with
  | 0, _ => exact ab_w1386
  | 1, _ => exact ab_w1387
  | 2, _ => exact ab_w1388
  | 3, _ => exact ab_w1389
  | 4, _ => exact ab_w1390
  | 5, _ => exact ab_w1391
  | 6, _ => exact ab_w1392
  | 7, _ => exact ab_w1393
  | 8, _ => exact ab_w1394
  | 9, _ => exact ab_w1395
  | 10, _ => exact ab_w1396
  | 11, _ => exact ab_w1397
  | 12, _ => exact ab_w1398
  | 13, _ => exact ab_w1399
  | 14, _ => exact ab_w1400
  | 15, _ => exact ab_w1401
  | 16, _ => exact ab_w1402
  | 17, _ => exact ab_w1403
  | 18, _ => exact ab_w1404
  | n + 19, h => exact absurd h (by omega)
theorem ab_thc {L c : List Cond} (h1 : ∀ w ∈ L.filter goodWord, w ∈ lw_tbl) (h2 : ∀ w ∈ L.filter (fun w => !goodWord w), w ∈ c) : ∀ w ∈ L, w ∈ ab_wG ∨ w ∈ c := by
  intro w hw
  cases g : goodWord w with
  | true => exact Or.inl (List.mem_filter.mpr ⟨List.mem_append_right _ (h1 w (List.mem_filter.mpr ⟨hw, g⟩)), g⟩)
  | false => exact Or.inr (h2 w (List.mem_filter.mpr ⟨hw, by simp [g]⟩))
theorem ab_tha_0 : ∀ w ∈ (vx_at0 RX6 243 "java/lang/IllegalStateException" ["java/lang/RuntimeException", "java/lang/Exception"]).filter goodWord, w ∈ lw_tbl := by decide +kernel
theorem ab_thb_0 : ∀ w ∈ (vx_at0 RX6 243 "java/lang/IllegalStateException" ["java/lang/RuntimeException", "java/lang/Exception"]).filter (fun w => !goodWord w), w ∈ ab_nw := by decide +kernel
theorem ab_th_0 : ∀ w ∈ vx_at0 RX6 243 "java/lang/IllegalStateException" ["java/lang/RuntimeException", "java/lang/Exception"], w ∈ ab_wG ∨ w ∈ ab_nw := ab_thc ab_tha_0 ab_thb_0
theorem ab_tha_1 : ∀ w ∈ (vx_at0 RX6 142 "java/lang/IllegalArgumentException" ["java/lang/RuntimeException", "java/lang/Exception"]).filter goodWord, w ∈ lw_tbl := by decide +kernel
theorem ab_thb_1 : ∀ w ∈ (vx_at0 RX6 142 "java/lang/IllegalArgumentException" ["java/lang/RuntimeException", "java/lang/Exception"]).filter (fun w => !goodWord w), w ∈ ab_nw := by decide +kernel
theorem ab_th_1 : ∀ w ∈ vx_at0 RX6 142 "java/lang/IllegalArgumentException" ["java/lang/RuntimeException", "java/lang/Exception"], w ∈ ab_wG ∨ w ∈ ab_nw := ab_thc ab_tha_1 ab_thb_1
theorem ab_tha_2 : ∀ w ∈ (vx_at0 RX6 292 "java/lang/ArithmeticException" ["java/lang/RuntimeException", "java/lang/Exception"]).filter goodWord, w ∈ lw_tbl := by decide +kernel
theorem ab_thb_2 : ∀ w ∈ (vx_at0 RX6 292 "java/lang/ArithmeticException" ["java/lang/RuntimeException", "java/lang/Exception"]).filter (fun w => !goodWord w), w ∈ ab_nw := by decide +kernel
theorem ab_th_2 : ∀ w ∈ vx_at0 RX6 292 "java/lang/ArithmeticException" ["java/lang/RuntimeException", "java/lang/Exception"], w ∈ ab_wG ∨ w ∈ ab_nw := ab_thc ab_tha_2 ab_thb_2
theorem ab_tha_3 : ∀ w ∈ (vx_at0 RX6 285 "java/lang/IndexOutOfBoundsException" ["java/lang/RuntimeException", "java/lang/Exception"]).filter goodWord, w ∈ lw_tbl := by decide +kernel
theorem ab_thb_3 : ∀ w ∈ (vx_at0 RX6 285 "java/lang/IndexOutOfBoundsException" ["java/lang/RuntimeException", "java/lang/Exception"]).filter (fun w => !goodWord w), w ∈ ab_nw := by decide +kernel
theorem ab_th_3 : ∀ w ∈ vx_at0 RX6 285 "java/lang/IndexOutOfBoundsException" ["java/lang/RuntimeException", "java/lang/Exception"], w ∈ ab_wG ∨ w ∈ ab_nw := ab_thc ab_tha_3 ab_thb_3
theorem ab_tha_4 : ∀ w ∈ (vx_at0 RX6 181 "java/util/NoSuchElementException" ["java/lang/RuntimeException", "java/lang/Exception"]).filter goodWord, w ∈ lw_tbl := by decide +kernel
theorem ab_thb_4 : ∀ w ∈ (vx_at0 RX6 181 "java/util/NoSuchElementException" ["java/lang/RuntimeException", "java/lang/Exception"]).filter (fun w => !goodWord w), w ∈ ab_nw := by decide +kernel
theorem ab_th_4 : ∀ w ∈ vx_at0 RX6 181 "java/util/NoSuchElementException" ["java/lang/RuntimeException", "java/lang/Exception"], w ∈ ab_wG ∨ w ∈ ab_nw := ab_thc ab_tha_4 ab_thb_4
theorem ab_tha_5 : ∀ w ∈ (vx_at0 RX6 338 "java/lang/UnsupportedOperationException" ["java/lang/RuntimeException", "java/lang/Exception"]).filter goodWord, w ∈ lw_tbl := by decide +kernel
theorem ab_thb_5 : ∀ w ∈ (vx_at0 RX6 338 "java/lang/UnsupportedOperationException" ["java/lang/RuntimeException", "java/lang/Exception"]).filter (fun w => !goodWord w), w ∈ ab_nw := by decide +kernel
theorem ab_th_5 : ∀ w ∈ vx_at0 RX6 338 "java/lang/UnsupportedOperationException" ["java/lang/RuntimeException", "java/lang/Exception"], w ∈ ab_wG ∨ w ∈ ab_nw := ab_thc ab_tha_5 ab_thb_5
def ab_fail : ab_Op := fun _ _ _ => none
def ab_lk : List (Nat × ab_Op) → Nat → ab_Op
  | [], _ => ab_fail
  | (p, o) :: r, pc => if pc = p then o else ab_lk r pc
def ab_lk2 : List (Nat × List (Nat × ab_Op)) → Nat → ab_Op
  | [], _ => ab_fail
  | (b, l) :: r, pc => if pc < b then ab_lk l pc else ab_lk2 r pc
section
variable {K : ab_Kt} {mt : Nat → ab_M} {G G' : ab_M} {pc : Nat}
theorem ab_fail_ok : ab_OK K mt G pc ab_fail := by
  intro p l e R s m args below meth c D cA A X ρ0 N0 k0 n0 ls st h r hop
  cases hop
theorem ab_lk_ok : ∀ (l : List (Nat × ab_Op)), (∀ q ∈ l, ab_OK K mt G q.1 q.2) → ∀ pc, ab_OK K mt G pc (ab_lk l pc)
  | [], _, _ => ab_fail_ok
  | (p, o) :: r, h, pc => by
    unfold ab_lk
    split
    · rename_i e
      rw [e]
      exact h (p, o) List.mem_cons_self
    · exact ab_lk_ok r (fun q hq => h q (List.mem_cons_of_mem _ hq)) pc
theorem ab_lk2_ok : ∀ (l : List (Nat × List (Nat × ab_Op))), (∀ x ∈ l, ∀ q ∈ x.2, ab_OK K mt G q.1 q.2) → ∀ pc, ab_OK K mt G pc (ab_lk2 l pc)
  | [], _, _ => ab_fail_ok
  | (b, l) :: r, h, pc => by
    unfold ab_lk2
    split
    · exact ab_lk_ok l (h (b, l) List.mem_cons_self) pc
    · exact ab_lk2_ok r (fun q hq => h q (List.mem_cons_of_mem _ hq)) pc
theorem ab_callV_ok' {ci M n index N : Nat} {C : String} {T : u_T} (hd : decode G.2.1 pc = .ok (.invokevirtual index, 3)) (hm : mt M = G') (hc : vwCl[ci]? = some (C, T, N)) (hh : G'.2.2.2.2.1 = []) (hrk : G'.2.2.2.2.2 < G.2.2.2.2.2) (hmx : G'.2.2.1 ≤ 80)
    (hw : ∀ w ∈ [Cond.methodLink G.1.cls index G'.1, .instanceMethod G'.1, .selects C G'.1 G'.1, .initialized C], w ∈ ab_wG) (hwd : ab_wd G' ∈ ab_wG) (hC : G'.1.cls = C)
    (hds : G'.1.cls ≠ "java/lang/invoke/MethodHandle" ∧ G'.1.cls ≠ "java/lang/invoke/VarHandle" ∧ (parseMethodDescriptor G'.1.desc).map (fun d => d.parameters.length) = some n) : ab_OK K mt G pc (ab_callV ci M n (pc + 3)) := by
  subst hm
  exact ab_callV_ok hd hc hh hrk hmx hw hwd hC hds
theorem ab_callS_ok' {M n index : Nat} (hd : decode G.2.1 pc = .ok (.invokestatic index, 3)) (hm : mt M = G') (hrk : G'.2.2.2.2.2 < G.2.2.2.2.2) (hmx : G'.2.2.1 ≤ 80)
    (hw : ∀ w ∈ [Cond.methodLink G.1.cls index G'.1, .static G'.1, .initialized G'.1.cls], w ∈ ab_wG) (hwd : ab_wd G' ∈ ab_wG) (hh : G'.2.2.2.2.1 = [])
    (hds : G'.1.cls ≠ "java/lang/invoke/MethodHandle" ∧ G'.1.cls ≠ "java/lang/invoke/VarHandle" ∧ (parseMethodDescriptor G'.1.desc).map (fun d => d.parameters.length) = some n) : ab_OK K mt G pc (ab_callS M n (pc + 3)) := by
  subst hm
  exact ab_callS_ok hd hrk hmx hw hwd hh hds
theorem ab_callSX_ok' {M n index : Nat} {q : Nat × Nat × Nat × Nat} {hh9 : List (Nat × Nat × Nat × Nat)} (hd : decode G.2.1 pc = .ok (.invokestatic index, 3)) (hm : mt M = G') (hrk : G'.2.2.2.2.2 < G.2.2.2.2.2) (hmx : G'.2.2.1 ≤ 80)
    (hw : ∀ w ∈ [Cond.methodLink G.1.cls index G'.1, .static G'.1, .initialized G'.1.cls], w ∈ ab_wG) (hwd : ab_wd G' ∈ ab_wG) (hh : G'.2.2.2.2.1 = q :: hh9)
    (hds : G'.1.cls ≠ "java/lang/invoke/MethodHandle" ∧ G'.1.cls ≠ "java/lang/invoke/VarHandle" ∧ (parseMethodDescriptor G'.1.desc).map (fun d => d.parameters.length) = some n) : ab_OK K mt G pc (ab_callS M n (pc + 3)) := by
  subst hm
  exact ab_callSX_ok hd hrk hmx hw hwd hh hds
theorem ab_callI_ok' {M n index : Nat} (hd : decode G.2.1 pc = .ok (.invokespecial index, 3)) (hm : mt M = G') (hh : G'.2.2.2.2.1 = []) (hrk : G'.2.2.2.2.2 < G.2.2.2.2.2) (hmx : G'.2.2.1 ≤ 80) (hwd : ab_wd G' ∈ ab_wG)
    (hw : ∀ w ∈ [Cond.methodLink G.1.cls index G'.1, .instanceMethod G'.1, .initialized G'.1.cls], w ∈ ab_wG) (hret : G'.2.2.2.1 = none)
    (hds : G'.1.name = "<init>" ∧ G'.1.cls ≠ "java/lang/invoke/MethodHandle" ∧ G'.1.cls ≠ "java/lang/invoke/VarHandle" ∧ (parseMethodDescriptor G'.1.desc).map (fun d => d.parameters.length) = some n) : ab_OK K mt G pc (ab_callI M n (pc + 3)) := by
  subst hm
  exact ab_callI_ok hd hh hrk hmx hwd hw hret hds
theorem ab_callIN_ok' {M n index : Nat} {host : String} (hd : decode G.2.1 pc = .ok (.invokespecial index, 3)) (hm : mt M = G') (hh : G'.2.2.2.2.1 = []) (hrk : G'.2.2.2.2.2 < G.2.2.2.2.2) (hmx : G'.2.2.1 ≤ 80) (hwd : ab_wd G' ∈ ab_wG)
    (hw : ∀ w ∈ [Cond.instanceMethod G'.1, .initialized G'.1.cls], w ∈ ab_wG) (hnw : Cond.methodLinkNest G.1.cls index G'.1 host ∈ ab_nw) (hret : G'.2.2.2.1 = none)
    (hds : G'.1.name = "<init>" ∧ G'.1.cls ≠ "java/lang/invoke/MethodHandle" ∧ G'.1.cls ≠ "java/lang/invoke/VarHandle" ∧ (parseMethodDescriptor G'.1.desc).map (fun d => d.parameters.length) = some n) : ab_OK K mt G pc (ab_callI M n (pc + 3)) := by
  subst hm
  exact ab_callIN_ok hd hh hrk hmx hwd hw hnw hret hds
theorem ab_callU_ok' {ci M n index N : Nat} {C : String} {T : u_T} (hd : decode G.2.1 pc = .ok (.invokevirtual index, 3)) (hm : mt M = G') (hc : vwCl[ci]? = some (C, T, N)) (hh : G'.2.2.2.2.1 = []) (hrk : G'.2.2.2.2.2 < G.2.2.2.2.2) (hmx : G'.2.2.1 ≤ 80) (hwd : ab_wd G' ∈ ab_wG)
    (hw : ∀ w ∈ [Cond.methodLink G.1.cls index G'.1, .sameMethod G'.1.cls G'.1.cls G'.1.name G'.1.desc, .selects C G'.1 G'.1, .instanceMethod G'.1, .initialized G'.1.cls], w ∈ ab_wG)
    (hds : G'.1.cls ≠ "java/lang/invoke/MethodHandle" ∧ G'.1.cls ≠ "java/lang/invoke/VarHandle" ∧ (parseMethodDescriptor G'.1.desc).map (fun d => d.parameters.length) = some n) : ab_OK K mt G pc (ab_callV ci M n (pc + 3)) := by
  subst hm
  exact ab_callU_ok hc hd hh hrk hmx hwd hw hds
theorem ab_callSU_ok' {ci M n index N : Nat} {C : String} {T : u_T} (hd : decode G.2.1 pc = .ok (.invokespecial index, 3)) (hm : mt M = G') (hc : vwCl[ci]? = some (C, T, N)) (hh : G'.2.2.2.2.1 = []) (hrk : G'.2.2.2.2.2 < G.2.2.2.2.2) (hmx : G'.2.2.1 ≤ 80) (hwd : ab_wd G' ∈ ab_wG)
    (hw : ∀ w ∈ [Cond.methodLink G.1.cls index G'.1, .sameMethod G'.1.cls G'.1.cls G'.1.name G'.1.desc, .superclass G.1.cls G'.1.cls, .instanceMethod G'.1, .initialized G'.1.cls], w ∈ ab_wG)
    (hds : G'.1.name ≠ "<init>" ∧ (parseMethodDescriptor G'.1.desc).map (fun d => d.parameters.length) = some n) : ab_OK K mt G pc (ab_callV ci M n (pc + 3)) := by
  subst hm
  exact ab_callSU_ok hc hd hh hrk hmx hwd hw hds
theorem ab_callT_ok' {M n index : Nat} (hd : decode G.2.1 pc = .ok (.invokevirtual index, 3)) (hm : mt M = G') (hh : G'.2.2.2.2.1 = []) (hrk : G'.2.2.2.2.2 < G.2.2.2.2.2) (hmx : G'.2.2.1 ≤ 80)
    (hw : ∀ w ∈ [Cond.methodLink G.1.cls index G'.1, .instanceMethod G'.1, .selects "java/lang/String" G'.1 G'.1, .initialized "java/lang/String"], w ∈ ab_wG) (hwd : ab_wd G' ∈ ab_wG) (hC : G'.1.cls = "java/lang/String")
    (hds : G'.1.cls ≠ "java/lang/invoke/MethodHandle" ∧ G'.1.cls ≠ "java/lang/invoke/VarHandle" ∧ (parseMethodDescriptor G'.1.desc).map (fun d => d.parameters.length) = some n) : ab_OK K mt G pc (ab_callT M n (pc + 3)) := by
  subst hm
  exact ab_callT_ok hd hh hrk hmx hw hwd hC hds
end
