abbrev b_CodeTable_assign : ByteArray := prog_7_method_2_code
def y_CodeTable_assign : MethodName := ⟨R_CodeTable, "assign", "()Z"⟩
theorem d_CodeTable_assign_0 : decode b_CodeTable_assign 0 = .ok (.aload_n 0, 1) := by decide +kernel
theorem d_CodeTable_assign_1 : decode b_CodeTable_assign 1 = .ok (.getfield 21, 3) := by decide +kernel
theorem d_CodeTable_assign_4 : decode b_CodeTable_assign 4 = .ok (.iconst 0, 1) := by decide +kernel
theorem d_CodeTable_assign_5 : decode b_CodeTable_assign 5 = .ok (.invokestatic 37, 3) := by decide +kernel
theorem d_CodeTable_assign_8 : decode b_CodeTable_assign 8 = .ok (.aload_n 0, 1) := by decide +kernel
theorem d_CodeTable_assign_9 : decode b_CodeTable_assign 9 = .ok (.iconst 0, 1) := by decide +kernel
theorem d_CodeTable_assign_10 : decode b_CodeTable_assign 10 = .ok (.putfield 34, 3) := by decide +kernel
theorem d_CodeTable_assign_13 : decode b_CodeTable_assign 13 = .ok (.iconst 0, 1) := by decide +kernel
theorem d_CodeTable_assign_14 : decode b_CodeTable_assign 14 = .ok (.istore_n 1, 1) := by decide +kernel
theorem d_CodeTable_assign_15 : decode b_CodeTable_assign 15 = .ok (.iload_n 1, 1) := by decide +kernel
theorem d_CodeTable_assign_16 : decode b_CodeTable_assign 16 = .ok (.aload_n 0, 1) := by decide +kernel
theorem d_CodeTable_assign_17 : decode b_CodeTable_assign 17 = .ok (.getfield 30, 3) := by decide +kernel
theorem d_CodeTable_assign_20 : decode b_CodeTable_assign 20 = .ok (.if_icmp .ge 42, 3) := by decide +kernel
theorem d_CodeTable_assign_23 : decode b_CodeTable_assign 23 = .ok (.aload_n 0, 1) := by decide +kernel
theorem d_CodeTable_assign_24 : decode b_CodeTable_assign 24 = .ok (.getfield 21, 3) := by decide +kernel
theorem d_CodeTable_assign_27 : decode b_CodeTable_assign 27 = .ok (.aload_n 0, 1) := by decide +kernel
theorem d_CodeTable_assign_28 : decode b_CodeTable_assign 28 = .ok (.getfield 9, 3) := by decide +kernel
theorem d_CodeTable_assign_31 : decode b_CodeTable_assign 31 = .ok (.iload_n 1, 1) := by decide +kernel
theorem d_CodeTable_assign_32 : decode b_CodeTable_assign 32 = .ok (.iaload, 1) := by decide +kernel
theorem d_CodeTable_assign_33 : decode b_CodeTable_assign 33 = .ok (.dup2, 1) := by decide +kernel
theorem d_CodeTable_assign_34 : decode b_CodeTable_assign 34 = .ok (.iaload, 1) := by decide +kernel
theorem d_CodeTable_assign_35 : decode b_CodeTable_assign 35 = .ok (.iconst 1, 1) := by decide +kernel
theorem d_CodeTable_assign_36 : decode b_CodeTable_assign 36 = .ok (.iadd, 1) := by decide +kernel
theorem d_CodeTable_assign_37 : decode b_CodeTable_assign 37 = .ok (.iastore, 1) := by decide +kernel
theorem d_CodeTable_assign_38 : decode b_CodeTable_assign 38 = .ok (.aload_n 0, 1) := by decide +kernel
theorem d_CodeTable_assign_39 : decode b_CodeTable_assign 39 = .ok (.dup, 1) := by decide +kernel
theorem d_CodeTable_assign_40 : decode b_CodeTable_assign 40 = .ok (.getfield 34, 3) := by decide +kernel
theorem d_CodeTable_assign_43 : decode b_CodeTable_assign 43 = .ok (.ldc 43, 2) := by decide +kernel
theorem d_CodeTable_assign_45 : decode b_CodeTable_assign 45 = .ok (.aload_n 0, 1) := by decide +kernel
theorem d_CodeTable_assign_46 : decode b_CodeTable_assign 46 = .ok (.getfield 9, 3) := by decide +kernel
theorem d_CodeTable_assign_49 : decode b_CodeTable_assign 49 = .ok (.iload_n 1, 1) := by decide +kernel
theorem d_CodeTable_assign_50 : decode b_CodeTable_assign 50 = .ok (.iaload, 1) := by decide +kernel
theorem d_CodeTable_assign_51 : decode b_CodeTable_assign 51 = .ok (.ishr, 1) := by decide +kernel
theorem d_CodeTable_assign_52 : decode b_CodeTable_assign 52 = .ok (.iadd, 1) := by decide +kernel
theorem d_CodeTable_assign_53 : decode b_CodeTable_assign 53 = .ok (.putfield 34, 3) := by decide +kernel
theorem d_CodeTable_assign_56 : decode b_CodeTable_assign 56 = .ok (.iinc 1 1, 3) := by decide +kernel
theorem d_CodeTable_assign_59 : decode b_CodeTable_assign 59 = .ok (.goto (-44), 3) := by decide +kernel
theorem d_CodeTable_assign_62 : decode b_CodeTable_assign 62 = .ok (.aload_n 0, 1) := by decide +kernel
theorem d_CodeTable_assign_63 : decode b_CodeTable_assign 63 = .ok (.getfield 34, 3) := by decide +kernel
theorem d_CodeTable_assign_66 : decode b_CodeTable_assign 66 = .ok (.ldc 43, 2) := by decide +kernel
theorem d_CodeTable_assign_68 : decode b_CodeTable_assign 68 = .ok (.if_icmp .le 5, 3) := by decide +kernel
theorem d_CodeTable_assign_71 : decode b_CodeTable_assign 71 = .ok (.iconst 0, 1) := by decide +kernel
theorem d_CodeTable_assign_72 : decode b_CodeTable_assign 72 = .ok (.ireturn, 1) := by decide +kernel
theorem d_CodeTable_assign_73 : decode b_CodeTable_assign 73 = .ok (.iconst 1, 1) := by decide +kernel
theorem d_CodeTable_assign_74 : decode b_CodeTable_assign 74 = .ok (.istore_n 1, 1) := by decide +kernel
theorem d_CodeTable_assign_75 : decode b_CodeTable_assign 75 = .ok (.iload_n 1, 1) := by decide +kernel
theorem d_CodeTable_assign_76 : decode b_CodeTable_assign 76 = .ok (.bipush 20, 2) := by decide +kernel
theorem d_CodeTable_assign_78 : decode b_CodeTable_assign 78 = .ok (.if_icmp .gt 57, 3) := by decide +kernel
theorem d_CodeTable_assign_81 : decode b_CodeTable_assign 81 = .ok (.aload_n 0, 1) := by decide +kernel
theorem d_CodeTable_assign_82 : decode b_CodeTable_assign 82 = .ok (.getfield 24, 3) := by decide +kernel
theorem d_CodeTable_assign_85 : decode b_CodeTable_assign 85 = .ok (.iload_n 1, 1) := by decide +kernel
theorem d_CodeTable_assign_86 : decode b_CodeTable_assign 86 = .ok (.aload_n 0, 1) := by decide +kernel
theorem d_CodeTable_assign_87 : decode b_CodeTable_assign 87 = .ok (.getfield 24, 3) := by decide +kernel
theorem d_CodeTable_assign_90 : decode b_CodeTable_assign 90 = .ok (.iload_n 1, 1) := by decide +kernel
theorem d_CodeTable_assign_91 : decode b_CodeTable_assign 91 = .ok (.iconst 1, 1) := by decide +kernel
theorem d_CodeTable_assign_92 : decode b_CodeTable_assign 92 = .ok (.isub, 1) := by decide +kernel
theorem d_CodeTable_assign_93 : decode b_CodeTable_assign 93 = .ok (.iaload, 1) := by decide +kernel
theorem d_CodeTable_assign_94 : decode b_CodeTable_assign 94 = .ok (.aload_n 0, 1) := by decide +kernel
theorem d_CodeTable_assign_95 : decode b_CodeTable_assign 95 = .ok (.getfield 21, 3) := by decide +kernel
theorem d_CodeTable_assign_98 : decode b_CodeTable_assign 98 = .ok (.iload_n 1, 1) := by decide +kernel
theorem d_CodeTable_assign_99 : decode b_CodeTable_assign 99 = .ok (.iconst 1, 1) := by decide +kernel
theorem d_CodeTable_assign_100 : decode b_CodeTable_assign 100 = .ok (.isub, 1) := by decide +kernel
theorem d_CodeTable_assign_101 : decode b_CodeTable_assign 101 = .ok (.iaload, 1) := by decide +kernel
theorem d_CodeTable_assign_102 : decode b_CodeTable_assign 102 = .ok (.iadd, 1) := by decide +kernel
theorem d_CodeTable_assign_103 : decode b_CodeTable_assign 103 = .ok (.iconst 1, 1) := by decide +kernel
theorem d_CodeTable_assign_104 : decode b_CodeTable_assign 104 = .ok (.ishl, 1) := by decide +kernel
theorem d_CodeTable_assign_105 : decode b_CodeTable_assign 105 = .ok (.iastore, 1) := by decide +kernel
theorem d_CodeTable_assign_106 : decode b_CodeTable_assign 106 = .ok (.aload_n 0, 1) := by decide +kernel
theorem d_CodeTable_assign_107 : decode b_CodeTable_assign 107 = .ok (.getfield 27, 3) := by decide +kernel
theorem d_CodeTable_assign_110 : decode b_CodeTable_assign 110 = .ok (.iload_n 1, 1) := by decide +kernel
theorem d_CodeTable_assign_111 : decode b_CodeTable_assign 111 = .ok (.aload_n 0, 1) := by decide +kernel
theorem d_CodeTable_assign_112 : decode b_CodeTable_assign 112 = .ok (.getfield 27, 3) := by decide +kernel
theorem d_CodeTable_assign_115 : decode b_CodeTable_assign 115 = .ok (.iload_n 1, 1) := by decide +kernel
theorem d_CodeTable_assign_116 : decode b_CodeTable_assign 116 = .ok (.iconst 1, 1) := by decide +kernel
theorem d_CodeTable_assign_117 : decode b_CodeTable_assign 117 = .ok (.isub, 1) := by decide +kernel
theorem d_CodeTable_assign_118 : decode b_CodeTable_assign 118 = .ok (.iaload, 1) := by decide +kernel
theorem d_CodeTable_assign_119 : decode b_CodeTable_assign 119 = .ok (.aload_n 0, 1) := by decide +kernel
theorem d_CodeTable_assign_120 : decode b_CodeTable_assign 120 = .ok (.getfield 21, 3) := by decide +kernel
theorem d_CodeTable_assign_123 : decode b_CodeTable_assign 123 = .ok (.iload_n 1, 1) := by decide +kernel
theorem d_CodeTable_assign_124 : decode b_CodeTable_assign 124 = .ok (.iconst 1, 1) := by decide +kernel
theorem d_CodeTable_assign_125 : decode b_CodeTable_assign 125 = .ok (.isub, 1) := by decide +kernel
theorem d_CodeTable_assign_126 : decode b_CodeTable_assign 126 = .ok (.iaload, 1) := by decide +kernel
theorem d_CodeTable_assign_127 : decode b_CodeTable_assign 127 = .ok (.iadd, 1) := by decide +kernel
theorem d_CodeTable_assign_128 : decode b_CodeTable_assign 128 = .ok (.iastore, 1) := by decide +kernel
theorem d_CodeTable_assign_129 : decode b_CodeTable_assign 129 = .ok (.iinc 1 1, 3) := by decide +kernel
theorem d_CodeTable_assign_132 : decode b_CodeTable_assign 132 = .ok (.goto (-57), 3) := by decide +kernel
theorem d_CodeTable_assign_135 : decode b_CodeTable_assign 135 = .ok (.aload_n 0, 1) := by decide +kernel
theorem d_CodeTable_assign_136 : decode b_CodeTable_assign 136 = .ok (.getfield 21, 3) := by decide +kernel
theorem d_CodeTable_assign_139 : decode b_CodeTable_assign 139 = .ok (.iconst 0, 1) := by decide +kernel
theorem d_CodeTable_assign_140 : decode b_CodeTable_assign 140 = .ok (.invokestatic 37, 3) := by decide +kernel
theorem d_CodeTable_assign_143 : decode b_CodeTable_assign 143 = .ok (.iconst 0, 1) := by decide +kernel
theorem d_CodeTable_assign_144 : decode b_CodeTable_assign 144 = .ok (.istore_n 1, 1) := by decide +kernel
theorem d_CodeTable_assign_145 : decode b_CodeTable_assign 145 = .ok (.iload_n 1, 1) := by decide +kernel
theorem d_CodeTable_assign_146 : decode b_CodeTable_assign 146 = .ok (.aload_n 0, 1) := by decide +kernel
theorem d_CodeTable_assign_147 : decode b_CodeTable_assign 147 = .ok (.getfield 30, 3) := by decide +kernel
theorem d_CodeTable_assign_150 : decode b_CodeTable_assign 150 = .ok (.if_icmp .ge 64, 3) := by decide +kernel
theorem d_CodeTable_assign_153 : decode b_CodeTable_assign 153 = .ok (.aload_n 0, 1) := by decide +kernel
theorem d_CodeTable_assign_154 : decode b_CodeTable_assign 154 = .ok (.getfield 9, 3) := by decide +kernel
theorem d_CodeTable_assign_157 : decode b_CodeTable_assign 157 = .ok (.iload_n 1, 1) := by decide +kernel
theorem d_CodeTable_assign_158 : decode b_CodeTable_assign 158 = .ok (.iaload, 1) := by decide +kernel
theorem d_CodeTable_assign_159 : decode b_CodeTable_assign 159 = .ok (.istore_n 2, 1) := by decide +kernel
theorem d_CodeTable_assign_160 : decode b_CodeTable_assign 160 = .ok (.aload_n 0, 1) := by decide +kernel
theorem d_CodeTable_assign_161 : decode b_CodeTable_assign 161 = .ok (.getfield 15, 3) := by decide +kernel
theorem d_CodeTable_assign_164 : decode b_CodeTable_assign 164 = .ok (.iload_n 1, 1) := by decide +kernel
theorem d_CodeTable_assign_165 : decode b_CodeTable_assign 165 = .ok (.aload_n 0, 1) := by decide +kernel
theorem d_CodeTable_assign_166 : decode b_CodeTable_assign 166 = .ok (.getfield 24, 3) := by decide +kernel
theorem d_CodeTable_assign_169 : decode b_CodeTable_assign 169 = .ok (.iload_n 2, 1) := by decide +kernel
theorem d_CodeTable_assign_170 : decode b_CodeTable_assign 170 = .ok (.iaload, 1) := by decide +kernel
theorem d_CodeTable_assign_171 : decode b_CodeTable_assign 171 = .ok (.aload_n 0, 1) := by decide +kernel
theorem d_CodeTable_assign_172 : decode b_CodeTable_assign 172 = .ok (.getfield 21, 3) := by decide +kernel
theorem d_CodeTable_assign_175 : decode b_CodeTable_assign 175 = .ok (.iload_n 2, 1) := by decide +kernel
theorem d_CodeTable_assign_176 : decode b_CodeTable_assign 176 = .ok (.iaload, 1) := by decide +kernel
theorem d_CodeTable_assign_177 : decode b_CodeTable_assign 177 = .ok (.iadd, 1) := by decide +kernel
theorem d_CodeTable_assign_178 : decode b_CodeTable_assign 178 = .ok (.iastore, 1) := by decide +kernel
theorem d_CodeTable_assign_179 : decode b_CodeTable_assign 179 = .ok (.aload_n 0, 1) := by decide +kernel
theorem d_CodeTable_assign_180 : decode b_CodeTable_assign 180 = .ok (.getfield 18, 3) := by decide +kernel
theorem d_CodeTable_assign_183 : decode b_CodeTable_assign 183 = .ok (.aload_n 0, 1) := by decide +kernel
theorem d_CodeTable_assign_184 : decode b_CodeTable_assign 184 = .ok (.getfield 27, 3) := by decide +kernel
theorem d_CodeTable_assign_187 : decode b_CodeTable_assign 187 = .ok (.iload_n 2, 1) := by decide +kernel
theorem d_CodeTable_assign_188 : decode b_CodeTable_assign 188 = .ok (.iaload, 1) := by decide +kernel
theorem d_CodeTable_assign_189 : decode b_CodeTable_assign 189 = .ok (.aload_n 0, 1) := by decide +kernel
theorem d_CodeTable_assign_190 : decode b_CodeTable_assign 190 = .ok (.getfield 21, 3) := by decide +kernel
theorem d_CodeTable_assign_193 : decode b_CodeTable_assign 193 = .ok (.iload_n 2, 1) := by decide +kernel
theorem d_CodeTable_assign_194 : decode b_CodeTable_assign 194 = .ok (.iaload, 1) := by decide +kernel
theorem d_CodeTable_assign_195 : decode b_CodeTable_assign 195 = .ok (.iadd, 1) := by decide +kernel
theorem d_CodeTable_assign_196 : decode b_CodeTable_assign 196 = .ok (.iload_n 1, 1) := by decide +kernel
theorem d_CodeTable_assign_197 : decode b_CodeTable_assign 197 = .ok (.iastore, 1) := by decide +kernel
theorem d_CodeTable_assign_198 : decode b_CodeTable_assign 198 = .ok (.aload_n 0, 1) := by decide +kernel
theorem d_CodeTable_assign_199 : decode b_CodeTable_assign 199 = .ok (.getfield 21, 3) := by decide +kernel
theorem d_CodeTable_assign_202 : decode b_CodeTable_assign 202 = .ok (.iload_n 2, 1) := by decide +kernel
theorem d_CodeTable_assign_203 : decode b_CodeTable_assign 203 = .ok (.dup2, 1) := by decide +kernel
theorem d_CodeTable_assign_204 : decode b_CodeTable_assign 204 = .ok (.iaload, 1) := by decide +kernel
theorem d_CodeTable_assign_205 : decode b_CodeTable_assign 205 = .ok (.iconst 1, 1) := by decide +kernel
theorem d_CodeTable_assign_206 : decode b_CodeTable_assign 206 = .ok (.iadd, 1) := by decide +kernel
theorem d_CodeTable_assign_207 : decode b_CodeTable_assign 207 = .ok (.iastore, 1) := by decide +kernel
theorem d_CodeTable_assign_208 : decode b_CodeTable_assign 208 = .ok (.iinc 1 1, 3) := by decide +kernel
theorem d_CodeTable_assign_211 : decode b_CodeTable_assign 211 = .ok (.goto (-66), 3) := by decide +kernel
theorem d_CodeTable_assign_214 : decode b_CodeTable_assign 214 = .ok (.iconst 1, 1) := by decide +kernel
theorem d_CodeTable_assign_215 : decode b_CodeTable_assign 215 = .ok (.ireturn, 1) := by decide +kernel
theorem k112 : (Jvm.Cond.fieldLink "RotationPress$CodeTable" (21 : Nat) "RotationPress$CodeTable" "counts" "[I") ∈ g_tbl := List.mem_filter.mpr ⟨List.mem_append_right (k2_sels lw_privs) (List.mem_append_left _ (List.mem_of_getElem? (l := tables_1_1) (i := 112) rfl)), rfl⟩
theorem k958 : (Jvm.Cond.code ({ cls := "java/util/Arrays", name := "fill", desc := "([II)V" } : Jvm.MethodName) prog_31_method_103_code (4 : Nat) (Option.none : Option Jvm.ClassFile.FieldType)) ∈ g_tbl := List.mem_filter.mpr ⟨List.mem_append_right (k2_sels lw_privs) (List.mem_append_right _ (List.mem_append_right _ (List.mem_append_right _ (List.mem_append_left _ (List.mem_of_getElem? (l := tables_1_4) (i := 238) rfl))))), rfl⟩
theorem k1027 : (Jvm.Cond.methodLink "RotationPress$CodeTable" (37 : Nat) ({ cls := "java/util/Arrays", name := "fill", desc := "([II)V" } : Jvm.MethodName)) ∈ g_tbl := List.mem_filter.mpr ⟨List.mem_append_right (k2_sels lw_privs) (List.mem_append_right _ (List.mem_append_right _ (List.mem_append_right _ (List.mem_append_right _ (List.mem_append_left _ (List.mem_of_getElem? (l := tables_1_5) (i := 67) rfl)))))), rfl⟩
theorem k957 : (Jvm.Cond.static ({ cls := "java/util/Arrays", name := "fill", desc := "([II)V" } : Jvm.MethodName)) ∈ g_tbl := List.mem_filter.mpr ⟨List.mem_append_right (k2_sels lw_privs) (List.mem_append_right _ (List.mem_append_right _ (List.mem_append_right _ (List.mem_append_left _ (List.mem_of_getElem? (l := tables_1_4) (i := 237) rfl))))), rfl⟩
theorem k115 : (Jvm.Cond.fieldLink "RotationPress$CodeTable" (34 : Nat) "RotationPress$CodeTable" "filled" "I") ∈ g_tbl := List.mem_filter.mpr ⟨List.mem_append_right (k2_sels lw_privs) (List.mem_append_left _ (List.mem_of_getElem? (l := tables_1_1) (i := 115) rfl)), rfl⟩
theorem k1028 : (Jvm.Cond.constant "RotationPress$CodeTable" (43 : Nat) (1048576 : Int32)) ∈ g_tbl := List.mem_filter.mpr ⟨List.mem_append_right (k2_sels lw_privs) (List.mem_append_right _ (List.mem_append_right _ (List.mem_append_right _ (List.mem_append_right _ (List.mem_append_left _ (List.mem_of_getElem? (l := tables_1_5) (i := 68) rfl)))))), rfl⟩
theorem k106 : (Jvm.Cond.fieldLink "RotationPress$CodeTable" (30 : Nat) "RotationPress$CodeTable" "kinds" "I") ∈ g_tbl := List.mem_filter.mpr ⟨List.mem_append_right (k2_sels lw_privs) (List.mem_append_left _ (List.mem_of_getElem? (l := tables_1_1) (i := 106) rfl)), rfl⟩
theorem k99 : (Jvm.Cond.fieldLink "RotationPress$CodeTable" (9 : Nat) "RotationPress$CodeTable" "lengths" "[I") ∈ g_tbl := List.mem_filter.mpr ⟨List.mem_append_right (k2_sels lw_privs) (List.mem_append_left _ (List.mem_of_getElem? (l := tables_1_1) (i := 99) rfl)), rfl⟩
theorem k104 : (Jvm.Cond.fieldLink "RotationPress$CodeTable" (15 : Nat) "RotationPress$CodeTable" "codes" "[I") ∈ g_tbl := List.mem_filter.mpr ⟨List.mem_append_right (k2_sels lw_privs) (List.mem_append_left _ (List.mem_of_getElem? (l := tables_1_1) (i := 104) rfl)), rfl⟩
theorem k113 : (Jvm.Cond.fieldLink "RotationPress$CodeTable" (24 : Nat) "RotationPress$CodeTable" "firsts" "[I") ∈ g_tbl := List.mem_filter.mpr ⟨List.mem_append_right (k2_sels lw_privs) (List.mem_append_left _ (List.mem_of_getElem? (l := tables_1_1) (i := 113) rfl)), rfl⟩
theorem k111 : (Jvm.Cond.fieldLink "RotationPress$CodeTable" (18 : Nat) "RotationPress$CodeTable" "sorted" "[I") ∈ g_tbl := List.mem_filter.mpr ⟨List.mem_append_right (k2_sels lw_privs) (List.mem_append_left _ (List.mem_of_getElem? (l := tables_1_1) (i := 111) rfl)), rfl⟩
theorem k114 : (Jvm.Cond.fieldLink "RotationPress$CodeTable" (27 : Nat) "RotationPress$CodeTable" "places" "[I") ∈ g_tbl := List.mem_filter.mpr ⟨List.mem_append_right (k2_sels lw_privs) (List.mem_append_left _ (List.mem_of_getElem? (l := tables_1_1) (i := 114) rfl)), rfl⟩
set_option maxRecDepth 100000 in
set_option maxHeartbeats 4000000 in
theorem m_CodeTable_assign {C : gT} (hC : gOk C b_CodeTable_assign R_CodeTable { frames := 1, cells := 0, slots := 0, locals := 23 } 3) (q_a0 : Nat) (q_a0_lengths : Nat) (q_a0_codes : Nat) (x_a0_kinds : Int32) (q_a0_sorted : Nat) (q_a0_counts : Nat) (q_a0_firsts : Nat) (q_a0_places : Nat) (x_a0_filled : Int32) (f_a0_counts : (Nat → Int32)) (f_a0_lengths : (Nat → Int32)) (f_a0_firsts : (Nat → Int32)) (f_a0_places : (Nat → Int32)) (f_a0_codes : (Nat → Int32)) (f_a0_sorted : (Nat → Int32)) (out : (Int32 × (Nat → Int32) × Int32 × (Nat → Int32) × (Nat → Int32) × (Nat → Int32) × (Nat → Int32))) (hf : CodeTable_assign_f f_a0_counts x_a0_kinds f_a0_lengths f_a0_firsts f_a0_places f_a0_codes f_a0_sorted = some out) (kr : ∀ (x : Unit) (o9 : (Int32 × (Nat → Int32) × Int32 × (Nat → Int32) × (Nat → Int32) × (Nat → Int32) × (Nat → Int32))) (pc : Nat) (lv : List (Nat × Value)), o9 = out → decode b_CodeTable_assign pc = .ok (.ireturn, 1) → narrow .boolean (.int o9.1) = .int o9.1 → gAt C 0 0 [(q_a0, .inr (6, [.ref q_a0_lengths, .ref q_a0_codes, .int x_a0_kinds, .ref q_a0_sorted, .ref q_a0_counts, .ref q_a0_firsts, .ref q_a0_places, .int o9.2.2.1])), (q_a0_counts, .inl (g_K C 0, 21, .inl o9.2.1)), (q_a0_lengths, .inl (g_K C 0, 258, .inl f_a0_lengths)), (q_a0_firsts, .inl (g_K C 0, 21, .inl o9.2.2.2.1)), (q_a0_places, .inl (g_K C 0, 21, .inl o9.2.2.2.2.1)), (q_a0_codes, .inl (g_K C 0, 258, .inl o9.2.2.2.2.2.1)), (q_a0_sorted, .inl (g_K C 0, 258, .inl o9.2.2.2.2.2.2))] lv pc [.int o9.1]) : gAt C 0 0 [(q_a0, .inr (6, [.ref q_a0_lengths, .ref q_a0_codes, .int x_a0_kinds, .ref q_a0_sorted, .ref q_a0_counts, .ref q_a0_firsts, .ref q_a0_places, .int x_a0_filled])), (q_a0_counts, .inl (g_K C 0, 21, .inl f_a0_counts)), (q_a0_lengths, .inl (g_K C 0, 258, .inl f_a0_lengths)), (q_a0_firsts, .inl (g_K C 0, 21, .inl f_a0_firsts)), (q_a0_places, .inl (g_K C 0, 21, .inl f_a0_places)), (q_a0_codes, .inl (g_K C 0, 258, .inl f_a0_codes)), (q_a0_sorted, .inl (g_K C 0, 258, .inl f_a0_sorted))] [(0, .ref q_a0)] 0 [] := by
  unfold CodeTable_assign_f at hf
  refine g_aload_n 0 hC (j := 0) (hj := rfl) (hd := d_CodeTable_assign_0) ?_
  refine g_get 1 hC i_CodeTable rfl 0 rfl 4 (by decide) k112 rfl d_CodeTable_assign_1 ?_
  refine g_iconst 4 hC (0 : Int32) (by decide) d_CodeTable_assign_4 ?_
  obtain ⟨u1, hu1, hf⟩ := bd_some hf
  refine g_callSv 5 hC (c_Arrays_fill0 (g_l C) (g_D C) (g_K C) q_a0_counts 21 f_a0_counts (0 : Int32) u1 hu1) k958 k19 k1027 k957 2 rfl (by decide +kernel) (by decide) [1] [0, 2, 3, 4, 5, 6] [(q_a0, .inr (6, [.ref q_a0_lengths, .ref q_a0_codes, .int x_a0_kinds, .ref q_a0_sorted, .ref q_a0_counts, .ref q_a0_firsts, .ref q_a0_places, .int x_a0_filled])), (q_a0_lengths, .inl (g_K C 0, 258, .inl f_a0_lengths)), (q_a0_firsts, .inl (g_K C 0, 21, .inl f_a0_firsts)), (q_a0_places, .inl (g_K C 0, 21, .inl f_a0_places)), (q_a0_codes, .inl (g_K C 0, 258, .inl f_a0_codes)), (q_a0_sorted, .inl (g_K C 0, 258, .inl f_a0_sorted))] rfl rfl rfl rfl rfl rfl (Nat.le_of_ble_eq_true rfl) ⟨Nat.le_of_ble_eq_true rfl, Nat.le_of_ble_eq_true rfl⟩ (fun (_ : Unit) => [(q_a0, .inr (6, [.ref q_a0_lengths, .ref q_a0_codes, .int x_a0_kinds, .ref q_a0_sorted, .ref q_a0_counts, .ref q_a0_firsts, .ref q_a0_places, .int x_a0_filled])), (q_a0_lengths, .inl (g_K C 0, 258, .inl f_a0_lengths)), (q_a0_firsts, .inl (g_K C 0, 21, .inl f_a0_firsts)), (q_a0_places, .inl (g_K C 0, 21, .inl f_a0_places)), (q_a0_codes, .inl (g_K C 0, 258, .inl f_a0_codes)), (q_a0_sorted, .inl (g_K C 0, 258, .inl f_a0_sorted)), (q_a0_counts, .inl (g_K C 0, 21, .inl u1))]) (fun _ => rfl) d_CodeTable_assign_5 0 0 rfl rfl (fun _ => ?_)
  refine g_aload_n 8 hC (j := 0) (hj := rfl) (hd := d_CodeTable_assign_8) ?_
  refine g_iconst 9 hC (0 : Int32) (by decide) d_CodeTable_assign_9 ?_
  refine g_put 10 hC i_CodeTable rfl 0 rfl 7 (by decide) t_CodeTable tk_CodeTable n_CodeTable k115 rfl rfl rfl (Nat.le_of_ble_eq_true rfl) [(q_a0, .inr (6, [.ref q_a0_lengths, .ref q_a0_codes, .int x_a0_kinds, .ref q_a0_sorted, .ref q_a0_counts, .ref q_a0_firsts, .ref q_a0_places, .int (0 : Int32)])), (q_a0_lengths, .inl (g_K C 0, 258, .inl f_a0_lengths)), (q_a0_firsts, .inl (g_K C 0, 21, .inl f_a0_firsts)), (q_a0_places, .inl (g_K C 0, 21, .inl f_a0_places)), (q_a0_codes, .inl (g_K C 0, 258, .inl f_a0_codes)), (q_a0_sorted, .inl (g_K C 0, 258, .inl f_a0_sorted)), (q_a0_counts, .inl (g_K C 0, 21, .inl u1))] rfl d_CodeTable_assign_10 ?_
  refine g_iconst 13 hC (0 : Int32) (by decide) d_CodeTable_assign_13 ?_
  refine g_istore_n 14 hC (lv2 := [(1, .int (0 : Int32)), (0, .ref q_a0)]) (hn := (by decide)) (hl2 := rfl) (hd := d_CodeTable_assign_14) ?_
  obtain ⟨u3, hu3, hf⟩ := bd_some hf
  have Xu3_0 : ∀ (v4 : ((Nat → Int32) × Int32)), v4 = u3 → gAt C 0 0 [(q_a0, .inr (6, [.ref q_a0_lengths, .ref q_a0_codes, .int x_a0_kinds, .ref q_a0_sorted, .ref q_a0_counts, .ref q_a0_firsts, .ref q_a0_places, .int v4.2])), (q_a0_counts, .inl (g_K C 0, 21, .inl v4.1)), (q_a0_lengths, .inl (g_K C 0, 258, .inl f_a0_lengths)), (q_a0_firsts, .inl (g_K C 0, 21, .inl f_a0_firsts)), (q_a0_places, .inl (g_K C 0, 21, .inl f_a0_places)), (q_a0_codes, .inl (g_K C 0, 258, .inl f_a0_codes)), (q_a0_sorted, .inl (g_K C 0, 258, .inl f_a0_sorted))] [(0, .ref q_a0)] 62 [] := by
    intro v4 hv
    rw [← hv] at hf
    refine g_aload_n 62 hC (j := 0) (hj := rfl) (hd := d_CodeTable_assign_62) ?_
    refine g_get 63 hC i_CodeTable rfl 0 rfl 7 (by decide) k115 rfl d_CodeTable_assign_63 ?_
    refine g_ldc 66 hC (1048576 : Int32) k1028 d_CodeTable_assign_66 ?_
    refine g_icmp_le 68 hC 73 (by decide) d_CodeTable_assign_68 (fun c5 => ?_) (fun c5 => ?_)
    · have hf := it_t c5 hf
      refine g_iconst 73 hC (1 : Int32) (by decide) d_CodeTable_assign_73 ?_
      refine g_istore_n 74 hC (lv2 := [(1, .int (1 : Int32)), (0, .ref q_a0)]) (hn := (by decide)) (hl2 := rfl) (hd := d_CodeTable_assign_74) ?_
      obtain ⟨u7, hu7, hf⟩ := bd_some hf
      have Xu7_0 : ∀ (v8 : ((Nat → Int32) × (Nat → Int32))), v8 = u7 → gAt C 0 0 [(q_a0, .inr (6, [.ref q_a0_lengths, .ref q_a0_codes, .int x_a0_kinds, .ref q_a0_sorted, .ref q_a0_counts, .ref q_a0_firsts, .ref q_a0_places, .int v4.2])), (q_a0_counts, .inl (g_K C 0, 21, .inl v4.1)), (q_a0_lengths, .inl (g_K C 0, 258, .inl f_a0_lengths)), (q_a0_firsts, .inl (g_K C 0, 21, .inl v8.1)), (q_a0_places, .inl (g_K C 0, 21, .inl v8.2)), (q_a0_codes, .inl (g_K C 0, 258, .inl f_a0_codes)), (q_a0_sorted, .inl (g_K C 0, 258, .inl f_a0_sorted))] [(0, .ref q_a0)] 135 [] := by
        intro v8 hv
        rw [← hv] at hf
        refine g_aload_n 135 hC (j := 0) (hj := rfl) (hd := d_CodeTable_assign_135) ?_
        refine g_get 136 hC i_CodeTable rfl 0 rfl 4 (by decide) k112 rfl d_CodeTable_assign_136 ?_
        refine g_iconst 139 hC (0 : Int32) (by decide) d_CodeTable_assign_139 ?_
        obtain ⟨u9, hu9, hf⟩ := bd_some hf
        refine g_callSv 140 hC (c_Arrays_fill0 (g_l C) (g_D C) (g_K C) q_a0_counts 21 v4.1 (0 : Int32) u9 hu9) k958 k19 k1027 k957 2 rfl (by decide +kernel) (by decide) [1] [0, 2, 3, 4, 5, 6] [(q_a0, .inr (6, [.ref q_a0_lengths, .ref q_a0_codes, .int x_a0_kinds, .ref q_a0_sorted, .ref q_a0_counts, .ref q_a0_firsts, .ref q_a0_places, .int v4.2])), (q_a0_lengths, .inl (g_K C 0, 258, .inl f_a0_lengths)), (q_a0_firsts, .inl (g_K C 0, 21, .inl v8.1)), (q_a0_places, .inl (g_K C 0, 21, .inl v8.2)), (q_a0_codes, .inl (g_K C 0, 258, .inl f_a0_codes)), (q_a0_sorted, .inl (g_K C 0, 258, .inl f_a0_sorted))] rfl rfl rfl rfl rfl rfl (Nat.le_of_ble_eq_true rfl) ⟨Nat.le_of_ble_eq_true rfl, Nat.le_of_ble_eq_true rfl⟩ (fun (_ : Unit) => [(q_a0, .inr (6, [.ref q_a0_lengths, .ref q_a0_codes, .int x_a0_kinds, .ref q_a0_sorted, .ref q_a0_counts, .ref q_a0_firsts, .ref q_a0_places, .int v4.2])), (q_a0_lengths, .inl (g_K C 0, 258, .inl f_a0_lengths)), (q_a0_firsts, .inl (g_K C 0, 21, .inl v8.1)), (q_a0_places, .inl (g_K C 0, 21, .inl v8.2)), (q_a0_codes, .inl (g_K C 0, 258, .inl f_a0_codes)), (q_a0_sorted, .inl (g_K C 0, 258, .inl f_a0_sorted)), (q_a0_counts, .inl (g_K C 0, 21, .inl u9))]) (fun _ => rfl) d_CodeTable_assign_140 0 0 rfl rfl (fun _ => ?_)
        refine g_iconst 143 hC (0 : Int32) (by decide) d_CodeTable_assign_143 ?_
        refine g_istore_n 144 hC (lv2 := [(1, .int (0 : Int32)), (0, .ref q_a0)]) (hn := (by decide)) (hl2 := rfl) (hd := d_CodeTable_assign_144) ?_
        obtain ⟨u11, hu11, hf⟩ := bd_some hf
        have Xu11_0 : ∀ (v12 : ((Nat → Int32) × (Nat → Int32) × (Nat → Int32))), v12 = u11 → gAt C 0 0 [(q_a0, .inr (6, [.ref q_a0_lengths, .ref q_a0_codes, .int x_a0_kinds, .ref q_a0_sorted, .ref q_a0_counts, .ref q_a0_firsts, .ref q_a0_places, .int v4.2])), (q_a0_counts, .inl (g_K C 0, 21, .inl v12.1)), (q_a0_lengths, .inl (g_K C 0, 258, .inl f_a0_lengths)), (q_a0_firsts, .inl (g_K C 0, 21, .inl v8.1)), (q_a0_places, .inl (g_K C 0, 21, .inl v8.2)), (q_a0_codes, .inl (g_K C 0, 258, .inl v12.2.1)), (q_a0_sorted, .inl (g_K C 0, 258, .inl v12.2.2))] [] 214 [] := by
          intro v12 hv
          rw [← hv] at hf
          refine g_iconst 214 hC (1 : Int32) (by decide) d_CodeTable_assign_214 ?_
          exact kr () ((1 : Int32), v12.1, v4.2, v8.1, v8.2, v12.2.1, v12.2.2) 215 [] (Option.some.inj hf) d_CodeTable_assign_215 (bl_nar (x := (1 : Int32)) (by decide))
        have Gu11 := lp_ind (b := (CodeTable_assign_L145 x_a0_kinds f_a0_lengths v8)) (G := fun (s10 : (Int32 × (Nat → Int32) × (Nat → Int32) × (Nat → Int32))) => gAt C 0 0 [(q_a0, .inr (6, [.ref q_a0_lengths, .ref q_a0_codes, .int x_a0_kinds, .ref q_a0_sorted, .ref q_a0_counts, .ref q_a0_firsts, .ref q_a0_places, .int v4.2])), (q_a0_counts, .inl (g_K C 0, 21, .inl s10.2.1)), (q_a0_lengths, .inl (g_K C 0, 258, .inl f_a0_lengths)), (q_a0_firsts, .inl (g_K C 0, 21, .inl v8.1)), (q_a0_places, .inl (g_K C 0, 21, .inl v8.2)), (q_a0_codes, .inl (g_K C 0, 258, .inl s10.2.2.1)), (q_a0_sorted, .inl (g_K C 0, 258, .inl s10.2.2.2))] [(0, .ref q_a0), (1, .int s10.1)] 145 []) (o := u11) (by
            intro s10 u13 hf hI hX
            unfold CodeTable_assign_L145 at hf
            refine g_iload_n 145 hC (j := 1) (hj := rfl) (hd := d_CodeTable_assign_145) ?_
            refine g_aload_n 146 hC (j := 0) (hj := rfl) (hd := d_CodeTable_assign_146) ?_
            refine g_get 147 hC i_CodeTable rfl 0 rfl 2 (by decide) k106 rfl d_CodeTable_assign_147 ?_
            refine g_icmp_ge 150 hC 214 (by decide) d_CodeTable_assign_150 (fun c14 => ?_) (fun c14 => ?_)
            · have hf := it_t c14 hf
              exact g_re [0, 1, 2, 3, 4, 5, 6] [] rfl rfl rfl (Xu11_0 (s10.2.1, s10.2.2.1, s10.2.2.2) (hX (s10.2.1, s10.2.2.1, s10.2.2.2) hf))
            · have hf := it_f c14 hf
              refine g_aload_n 153 hC (j := 0) (hj := rfl) (hd := d_CodeTable_assign_153) ?_
              refine g_get 154 hC i_CodeTable rfl 0 rfl 0 (by decide) k99 rfl d_CodeTable_assign_154 ?_
              refine g_iload_n 157 hC (j := 1) (hj := rfl) (hd := d_CodeTable_assign_157) ?_
              obtain ⟨e15, hf⟩ := gd_some hf
              refine g_iald 158 hC 2 rfl e15 d_CodeTable_assign_158 ?_
              refine g_istore_n 159 hC (lv2 := [(2, .int (f_a0_lengths s10.1.toNatClampNeg)), (0, .ref q_a0), (1, .int s10.1)]) (hn := (by decide)) (hl2 := rfl) (hd := d_CodeTable_assign_159) ?_
              refine g_aload_n 160 hC (j := 1) (hj := rfl) (hd := d_CodeTable_assign_160) ?_
              refine g_get 161 hC i_CodeTable rfl 0 rfl 1 (by decide) k104 rfl d_CodeTable_assign_161 ?_
              refine g_iload_n 164 hC (j := 2) (hj := rfl) (hd := d_CodeTable_assign_164) ?_
              refine g_aload_n 165 hC (j := 1) (hj := rfl) (hd := d_CodeTable_assign_165) ?_
              refine g_get 166 hC i_CodeTable rfl 0 rfl 5 (by decide) k113 rfl d_CodeTable_assign_166 ?_
              refine g_iload_n 169 hC (j := 0) (hj := rfl) (hd := d_CodeTable_assign_169) ?_
              obtain ⟨e16, hf⟩ := gd_some hf
              refine g_iald 170 hC 3 rfl e16 d_CodeTable_assign_170 ?_
              refine g_aload_n 171 hC (j := 1) (hj := rfl) (hd := d_CodeTable_assign_171) ?_
              refine g_get 172 hC i_CodeTable rfl 0 rfl 4 (by decide) k112 rfl d_CodeTable_assign_172 ?_
              refine g_iload_n 175 hC (j := 0) (hj := rfl) (hd := d_CodeTable_assign_175) ?_
              obtain ⟨e17, hf⟩ := gd_some hf
              refine g_iald 176 hC 1 rfl e17 d_CodeTable_assign_176 ?_
              refine g_iadd 177 hC d_CodeTable_assign_177 ?_
              obtain ⟨e18, hf⟩ := gd_some hf
              refine g_iast 178 hC 5 rfl e18 [(q_a0, .inr (6, [.ref q_a0_lengths, .ref q_a0_codes, .int x_a0_kinds, .ref q_a0_sorted, .ref q_a0_counts, .ref q_a0_firsts, .ref q_a0_places, .int v4.2])), (q_a0_counts, .inl (g_K C 0, 21, .inl s10.2.1)), (q_a0_lengths, .inl (g_K C 0, 258, .inl f_a0_lengths)), (q_a0_firsts, .inl (g_K C 0, 21, .inl v8.1)), (q_a0_places, .inl (g_K C 0, 21, .inl v8.2)), (q_a0_codes, .inl (g_K C 0, 258, .inl (upd s10.2.2.1 s10.1.toNatClampNeg ((v8.1 (f_a0_lengths s10.1.toNatClampNeg).toNatClampNeg) + (s10.2.1 (f_a0_lengths s10.1.toNatClampNeg).toNatClampNeg))))), (q_a0_sorted, .inl (g_K C 0, 258, .inl s10.2.2.2))] rfl d_CodeTable_assign_178 ?_
              refine g_aload_n 179 hC (j := 1) (hj := rfl) (hd := d_CodeTable_assign_179) ?_
              refine g_get 180 hC i_CodeTable rfl 0 rfl 3 (by decide) k111 rfl d_CodeTable_assign_180 ?_
              refine g_aload_n 183 hC (j := 1) (hj := rfl) (hd := d_CodeTable_assign_183) ?_
              refine g_get 184 hC i_CodeTable rfl 0 rfl 6 (by decide) k114 rfl d_CodeTable_assign_184 ?_
              refine g_iload_n 187 hC (j := 0) (hj := rfl) (hd := d_CodeTable_assign_187) ?_
              obtain ⟨e19, hf⟩ := gd_some hf
              refine g_iald 188 hC 4 rfl e19 d_CodeTable_assign_188 ?_
              refine g_aload_n 189 hC (j := 1) (hj := rfl) (hd := d_CodeTable_assign_189) ?_
              refine g_get 190 hC i_CodeTable rfl 0 rfl 4 (by decide) k112 rfl d_CodeTable_assign_190 ?_
              refine g_iload_n 193 hC (j := 0) (hj := rfl) (hd := d_CodeTable_assign_193) ?_
              obtain ⟨e20, hf⟩ := gd_some hf
              refine g_iald 194 hC 1 rfl e20 d_CodeTable_assign_194 ?_
              refine g_iadd 195 hC d_CodeTable_assign_195 ?_
              refine g_iload_n 196 hC (j := 2) (hj := rfl) (hd := d_CodeTable_assign_196) ?_
              obtain ⟨e21, hf⟩ := gd_some hf
              refine g_iast 197 hC 6 rfl e21 [(q_a0, .inr (6, [.ref q_a0_lengths, .ref q_a0_codes, .int x_a0_kinds, .ref q_a0_sorted, .ref q_a0_counts, .ref q_a0_firsts, .ref q_a0_places, .int v4.2])), (q_a0_counts, .inl (g_K C 0, 21, .inl s10.2.1)), (q_a0_lengths, .inl (g_K C 0, 258, .inl f_a0_lengths)), (q_a0_firsts, .inl (g_K C 0, 21, .inl v8.1)), (q_a0_places, .inl (g_K C 0, 21, .inl v8.2)), (q_a0_codes, .inl (g_K C 0, 258, .inl (upd s10.2.2.1 s10.1.toNatClampNeg ((v8.1 (f_a0_lengths s10.1.toNatClampNeg).toNatClampNeg) + (s10.2.1 (f_a0_lengths s10.1.toNatClampNeg).toNatClampNeg))))), (q_a0_sorted, .inl (g_K C 0, 258, .inl (upd s10.2.2.2 ((v8.2 (f_a0_lengths s10.1.toNatClampNeg).toNatClampNeg) + (s10.2.1 (f_a0_lengths s10.1.toNatClampNeg).toNatClampNeg)).toNatClampNeg s10.1)))] rfl d_CodeTable_assign_197 ?_
              refine g_aload_n 198 hC (j := 1) (hj := rfl) (hd := d_CodeTable_assign_198) ?_
              refine g_get 199 hC i_CodeTable rfl 0 rfl 4 (by decide) k112 rfl d_CodeTable_assign_199 ?_
              refine g_iload_n 202 hC (j := 0) (hj := rfl) (hd := d_CodeTable_assign_202) ?_
              refine g_dup2 203 hC rfl rfl d_CodeTable_assign_203 ?_
              obtain ⟨e22, hf⟩ := gd_some hf
              refine g_iald 204 hC 1 rfl e22 d_CodeTable_assign_204 ?_
              refine g_iconst 205 hC (1 : Int32) (by decide) d_CodeTable_assign_205 ?_
              refine g_iadd 206 hC d_CodeTable_assign_206 ?_
              obtain ⟨e23, hf⟩ := gd_some hf
              refine g_iast 207 hC 1 rfl e23 [(q_a0, .inr (6, [.ref q_a0_lengths, .ref q_a0_codes, .int x_a0_kinds, .ref q_a0_sorted, .ref q_a0_counts, .ref q_a0_firsts, .ref q_a0_places, .int v4.2])), (q_a0_counts, .inl (g_K C 0, 21, .inl (upd s10.2.1 (f_a0_lengths s10.1.toNatClampNeg).toNatClampNeg ((s10.2.1 (f_a0_lengths s10.1.toNatClampNeg).toNatClampNeg) + (1 : Int32))))), (q_a0_lengths, .inl (g_K C 0, 258, .inl f_a0_lengths)), (q_a0_firsts, .inl (g_K C 0, 21, .inl v8.1)), (q_a0_places, .inl (g_K C 0, 21, .inl v8.2)), (q_a0_codes, .inl (g_K C 0, 258, .inl (upd s10.2.2.1 s10.1.toNatClampNeg ((v8.1 (f_a0_lengths s10.1.toNatClampNeg).toNatClampNeg) + (s10.2.1 (f_a0_lengths s10.1.toNatClampNeg).toNatClampNeg))))), (q_a0_sorted, .inl (g_K C 0, 258, .inl (upd s10.2.2.2 ((v8.2 (f_a0_lengths s10.1.toNatClampNeg).toNatClampNeg) + (s10.2.1 (f_a0_lengths s10.1.toNatClampNeg).toNatClampNeg)).toNatClampNeg s10.1)))] rfl d_CodeTable_assign_207 ?_
              refine g_iinc 208 hC 2 (1 : Int32) [(1, .int (s10.1 + (1 : Int32))), (2, .int (f_a0_lengths s10.1.toNatClampNeg)), (0, .ref q_a0)] rfl (by decide) (by decide) rfl d_CodeTable_assign_208 ?_
              refine g_goto 211 hC 145 (by decide) d_CodeTable_assign_211 ?_
              exact g_re [0, 1, 2, 3, 4, 5, 6] [2, 0] rfl rfl rfl (hI ((s10.1 + (1 : Int32)), (upd s10.2.1 (f_a0_lengths s10.1.toNatClampNeg).toNatClampNeg ((s10.2.1 (f_a0_lengths s10.1.toNatClampNeg).toNatClampNeg) + (1 : Int32))), (upd s10.2.2.1 s10.1.toNatClampNeg ((v8.1 (f_a0_lengths s10.1.toNatClampNeg).toNatClampNeg) + (s10.2.1 (f_a0_lengths s10.1.toNatClampNeg).toNatClampNeg))), (upd s10.2.2.2 ((v8.2 (f_a0_lengths s10.1.toNatClampNeg).toNatClampNeg) + (s10.2.1 (f_a0_lengths s10.1.toNatClampNeg).toNatClampNeg)).toNatClampNeg s10.1)) hf)) gas
        exact g_re [0, 6, 1, 2, 3, 4, 5] [1, 0] rfl rfl rfl (Gu11 ((0 : Int32), u9, f_a0_codes, f_a0_sorted) hu11)
      have Gu7 := lp_ind (b := (CodeTable_assign_L75 v4)) (G := fun (s6 : (Int32 × (Nat → Int32) × (Nat → Int32))) => gAt C 0 0 [(q_a0, .inr (6, [.ref q_a0_lengths, .ref q_a0_codes, .int x_a0_kinds, .ref q_a0_sorted, .ref q_a0_counts, .ref q_a0_firsts, .ref q_a0_places, .int v4.2])), (q_a0_counts, .inl (g_K C 0, 21, .inl v4.1)), (q_a0_lengths, .inl (g_K C 0, 258, .inl f_a0_lengths)), (q_a0_firsts, .inl (g_K C 0, 21, .inl s6.2.1)), (q_a0_places, .inl (g_K C 0, 21, .inl s6.2.2)), (q_a0_codes, .inl (g_K C 0, 258, .inl f_a0_codes)), (q_a0_sorted, .inl (g_K C 0, 258, .inl f_a0_sorted))] [(0, .ref q_a0), (1, .int s6.1)] 75 []) (o := u7) (by
          intro s6 u24 hf hI hX
          unfold CodeTable_assign_L75 at hf
          refine g_iload_n 75 hC (j := 1) (hj := rfl) (hd := d_CodeTable_assign_75) ?_
          refine g_bipush 76 hC (20 : Int32) (by decide) d_CodeTable_assign_76 ?_
          refine g_icmp_gt 78 hC 135 (by decide) d_CodeTable_assign_78 (fun c25 => ?_) (fun c25 => ?_)
          · have hf := it_t c25 hf
            exact g_re [0, 1, 2, 3, 4, 5, 6] [0] rfl rfl rfl (Xu7_0 (s6.2.1, s6.2.2) (hX (s6.2.1, s6.2.2) hf))
          · have hf := it_f c25 hf
            refine g_aload_n 81 hC (j := 0) (hj := rfl) (hd := d_CodeTable_assign_81) ?_
            refine g_get 82 hC i_CodeTable rfl 0 rfl 5 (by decide) k113 rfl d_CodeTable_assign_82 ?_
            refine g_iload_n 85 hC (j := 1) (hj := rfl) (hd := d_CodeTable_assign_85) ?_
            refine g_aload_n 86 hC (j := 0) (hj := rfl) (hd := d_CodeTable_assign_86) ?_
            refine g_get 87 hC i_CodeTable rfl 0 rfl 5 (by decide) k113 rfl d_CodeTable_assign_87 ?_
            refine g_iload_n 90 hC (j := 1) (hj := rfl) (hd := d_CodeTable_assign_90) ?_
            refine g_iconst 91 hC (1 : Int32) (by decide) d_CodeTable_assign_91 ?_
            refine g_isub 92 hC d_CodeTable_assign_92 ?_
            obtain ⟨e26, hf⟩ := gd_some hf
            refine g_iald 93 hC 3 rfl e26 d_CodeTable_assign_93 ?_
            refine g_aload_n 94 hC (j := 0) (hj := rfl) (hd := d_CodeTable_assign_94) ?_
            refine g_get 95 hC i_CodeTable rfl 0 rfl 4 (by decide) k112 rfl d_CodeTable_assign_95 ?_
            refine g_iload_n 98 hC (j := 1) (hj := rfl) (hd := d_CodeTable_assign_98) ?_
            refine g_iconst 99 hC (1 : Int32) (by decide) d_CodeTable_assign_99 ?_
            refine g_isub 100 hC d_CodeTable_assign_100 ?_
            obtain ⟨e27, hf⟩ := gd_some hf
            refine g_iald 101 hC 1 rfl e27 d_CodeTable_assign_101 ?_
            refine g_iadd 102 hC d_CodeTable_assign_102 ?_
            refine g_iconst 103 hC (1 : Int32) (by decide) d_CodeTable_assign_103 ?_
            refine g_ishl 104 hC d_CodeTable_assign_104 ?_
            obtain ⟨e28, hf⟩ := gd_some hf
            refine g_iast 105 hC 3 rfl e28 [(q_a0, .inr (6, [.ref q_a0_lengths, .ref q_a0_codes, .int x_a0_kinds, .ref q_a0_sorted, .ref q_a0_counts, .ref q_a0_firsts, .ref q_a0_places, .int v4.2])), (q_a0_counts, .inl (g_K C 0, 21, .inl v4.1)), (q_a0_lengths, .inl (g_K C 0, 258, .inl f_a0_lengths)), (q_a0_firsts, .inl (g_K C 0, 21, .inl (upd s6.2.1 s6.1.toNatClampNeg (((s6.2.1 (s6.1 - (1 : Int32)).toNatClampNeg) + (v4.1 (s6.1 - (1 : Int32)).toNatClampNeg)) <<< ((1 : Int32) &&& 31))))), (q_a0_places, .inl (g_K C 0, 21, .inl s6.2.2)), (q_a0_codes, .inl (g_K C 0, 258, .inl f_a0_codes)), (q_a0_sorted, .inl (g_K C 0, 258, .inl f_a0_sorted))] rfl d_CodeTable_assign_105 ?_
            refine g_aload_n 106 hC (j := 0) (hj := rfl) (hd := d_CodeTable_assign_106) ?_
            refine g_get 107 hC i_CodeTable rfl 0 rfl 6 (by decide) k114 rfl d_CodeTable_assign_107 ?_
            refine g_iload_n 110 hC (j := 1) (hj := rfl) (hd := d_CodeTable_assign_110) ?_
            refine g_aload_n 111 hC (j := 0) (hj := rfl) (hd := d_CodeTable_assign_111) ?_
            refine g_get 112 hC i_CodeTable rfl 0 rfl 6 (by decide) k114 rfl d_CodeTable_assign_112 ?_
            refine g_iload_n 115 hC (j := 1) (hj := rfl) (hd := d_CodeTable_assign_115) ?_
            refine g_iconst 116 hC (1 : Int32) (by decide) d_CodeTable_assign_116 ?_
            refine g_isub 117 hC d_CodeTable_assign_117 ?_
            obtain ⟨e29, hf⟩ := gd_some hf
            refine g_iald 118 hC 4 rfl e29 d_CodeTable_assign_118 ?_
            refine g_aload_n 119 hC (j := 0) (hj := rfl) (hd := d_CodeTable_assign_119) ?_
            refine g_get 120 hC i_CodeTable rfl 0 rfl 4 (by decide) k112 rfl d_CodeTable_assign_120 ?_
            refine g_iload_n 123 hC (j := 1) (hj := rfl) (hd := d_CodeTable_assign_123) ?_
            refine g_iconst 124 hC (1 : Int32) (by decide) d_CodeTable_assign_124 ?_
            refine g_isub 125 hC d_CodeTable_assign_125 ?_
            obtain ⟨e30, hf⟩ := gd_some hf
            refine g_iald 126 hC 1 rfl e30 d_CodeTable_assign_126 ?_
            refine g_iadd 127 hC d_CodeTable_assign_127 ?_
            obtain ⟨e31, hf⟩ := gd_some hf
            refine g_iast 128 hC 4 rfl e31 [(q_a0, .inr (6, [.ref q_a0_lengths, .ref q_a0_codes, .int x_a0_kinds, .ref q_a0_sorted, .ref q_a0_counts, .ref q_a0_firsts, .ref q_a0_places, .int v4.2])), (q_a0_counts, .inl (g_K C 0, 21, .inl v4.1)), (q_a0_lengths, .inl (g_K C 0, 258, .inl f_a0_lengths)), (q_a0_firsts, .inl (g_K C 0, 21, .inl (upd s6.2.1 s6.1.toNatClampNeg (((s6.2.1 (s6.1 - (1 : Int32)).toNatClampNeg) + (v4.1 (s6.1 - (1 : Int32)).toNatClampNeg)) <<< ((1 : Int32) &&& 31))))), (q_a0_places, .inl (g_K C 0, 21, .inl (upd s6.2.2 s6.1.toNatClampNeg ((s6.2.2 (s6.1 - (1 : Int32)).toNatClampNeg) + (v4.1 (s6.1 - (1 : Int32)).toNatClampNeg))))), (q_a0_codes, .inl (g_K C 0, 258, .inl f_a0_codes)), (q_a0_sorted, .inl (g_K C 0, 258, .inl f_a0_sorted))] rfl d_CodeTable_assign_128 ?_
            refine g_iinc 129 hC 1 (1 : Int32) [(1, .int (s6.1 + (1 : Int32))), (0, .ref q_a0)] rfl (by decide) (by decide) rfl d_CodeTable_assign_129 ?_
            refine g_goto 132 hC 75 (by decide) d_CodeTable_assign_132 ?_
            exact g_re [0, 1, 2, 3, 4, 5, 6] [1, 0] rfl rfl rfl (hI ((s6.1 + (1 : Int32)), (upd s6.2.1 s6.1.toNatClampNeg (((s6.2.1 (s6.1 - (1 : Int32)).toNatClampNeg) + (v4.1 (s6.1 - (1 : Int32)).toNatClampNeg)) <<< ((1 : Int32) &&& 31))), (upd s6.2.2 s6.1.toNatClampNeg ((s6.2.2 (s6.1 - (1 : Int32)).toNatClampNeg) + (v4.1 (s6.1 - (1 : Int32)).toNatClampNeg)))) hf)) gas
      exact g_re [0, 1, 2, 3, 4, 5, 6] [1, 0] rfl rfl rfl (Gu7 ((1 : Int32), f_a0_firsts, f_a0_places) hu7)
    · have hf := it_f c5 hf
      refine g_iconst 71 hC (0 : Int32) (by decide) d_CodeTable_assign_71 ?_
      exact g_re [0, 1, 2, 3, 4, 5, 6] [] rfl rfl rfl (kr () ((0 : Int32), v4.1, v4.2, f_a0_firsts, f_a0_places, f_a0_codes, f_a0_sorted) 72 [] (Option.some.inj hf) d_CodeTable_assign_72 (bl_nar (x := (0 : Int32)) (by decide)))
  have Gu3 := lp_ind (b := (CodeTable_assign_L15 x_a0_kinds f_a0_lengths)) (G := fun (s2 : (Int32 × (Nat → Int32) × Int32)) => gAt C 0 0 [(q_a0, .inr (6, [.ref q_a0_lengths, .ref q_a0_codes, .int x_a0_kinds, .ref q_a0_sorted, .ref q_a0_counts, .ref q_a0_firsts, .ref q_a0_places, .int s2.2.2])), (q_a0_counts, .inl (g_K C 0, 21, .inl s2.2.1)), (q_a0_lengths, .inl (g_K C 0, 258, .inl f_a0_lengths)), (q_a0_firsts, .inl (g_K C 0, 21, .inl f_a0_firsts)), (q_a0_places, .inl (g_K C 0, 21, .inl f_a0_places)), (q_a0_codes, .inl (g_K C 0, 258, .inl f_a0_codes)), (q_a0_sorted, .inl (g_K C 0, 258, .inl f_a0_sorted))] [(0, .ref q_a0), (1, .int s2.1)] 15 []) (o := u3) (by
      intro s2 u32 hf hI hX
      unfold CodeTable_assign_L15 at hf
      refine g_iload_n 15 hC (j := 1) (hj := rfl) (hd := d_CodeTable_assign_15) ?_
      refine g_aload_n 16 hC (j := 0) (hj := rfl) (hd := d_CodeTable_assign_16) ?_
      refine g_get 17 hC i_CodeTable rfl 0 rfl 2 (by decide) k106 rfl d_CodeTable_assign_17 ?_
      refine g_icmp_ge 20 hC 62 (by decide) d_CodeTable_assign_20 (fun c33 => ?_) (fun c33 => ?_)
      · have hf := it_t c33 hf
        exact g_re [0, 1, 2, 3, 4, 5, 6] [0] rfl rfl rfl (Xu3_0 (s2.2.1, s2.2.2) (hX (s2.2.1, s2.2.2) hf))
      · have hf := it_f c33 hf
        refine g_aload_n 23 hC (j := 0) (hj := rfl) (hd := d_CodeTable_assign_23) ?_
        refine g_get 24 hC i_CodeTable rfl 0 rfl 4 (by decide) k112 rfl d_CodeTable_assign_24 ?_
        refine g_aload_n 27 hC (j := 0) (hj := rfl) (hd := d_CodeTable_assign_27) ?_
        refine g_get 28 hC i_CodeTable rfl 0 rfl 0 (by decide) k99 rfl d_CodeTable_assign_28 ?_
        refine g_iload_n 31 hC (j := 1) (hj := rfl) (hd := d_CodeTable_assign_31) ?_
        obtain ⟨e34, hf⟩ := gd_some hf
        refine g_iald 32 hC 2 rfl e34 d_CodeTable_assign_32 ?_
        refine g_dup2 33 hC rfl rfl d_CodeTable_assign_33 ?_
        obtain ⟨e35, hf⟩ := gd_some hf
        refine g_iald 34 hC 1 rfl e35 d_CodeTable_assign_34 ?_
        refine g_iconst 35 hC (1 : Int32) (by decide) d_CodeTable_assign_35 ?_
        refine g_iadd 36 hC d_CodeTable_assign_36 ?_
        obtain ⟨e36, hf⟩ := gd_some hf
        refine g_iast 37 hC 1 rfl e36 [(q_a0, .inr (6, [.ref q_a0_lengths, .ref q_a0_codes, .int x_a0_kinds, .ref q_a0_sorted, .ref q_a0_counts, .ref q_a0_firsts, .ref q_a0_places, .int s2.2.2])), (q_a0_counts, .inl (g_K C 0, 21, .inl (upd s2.2.1 (f_a0_lengths s2.1.toNatClampNeg).toNatClampNeg ((s2.2.1 (f_a0_lengths s2.1.toNatClampNeg).toNatClampNeg) + (1 : Int32))))), (q_a0_lengths, .inl (g_K C 0, 258, .inl f_a0_lengths)), (q_a0_firsts, .inl (g_K C 0, 21, .inl f_a0_firsts)), (q_a0_places, .inl (g_K C 0, 21, .inl f_a0_places)), (q_a0_codes, .inl (g_K C 0, 258, .inl f_a0_codes)), (q_a0_sorted, .inl (g_K C 0, 258, .inl f_a0_sorted))] rfl d_CodeTable_assign_37 ?_
        refine g_aload_n 38 hC (j := 0) (hj := rfl) (hd := d_CodeTable_assign_38) ?_
        refine g_dup 39 hC rfl d_CodeTable_assign_39 ?_
        refine g_get 40 hC i_CodeTable rfl 0 rfl 7 (by decide) k115 rfl d_CodeTable_assign_40 ?_
        refine g_ldc 43 hC (1048576 : Int32) k1028 d_CodeTable_assign_43 ?_
        refine g_aload_n 45 hC (j := 0) (hj := rfl) (hd := d_CodeTable_assign_45) ?_
        refine g_get 46 hC i_CodeTable rfl 0 rfl 0 (by decide) k99 rfl d_CodeTable_assign_46 ?_
        refine g_iload_n 49 hC (j := 1) (hj := rfl) (hd := d_CodeTable_assign_49) ?_
        obtain ⟨e37, hf⟩ := gd_some hf
        refine g_iald 50 hC 2 rfl e37 d_CodeTable_assign_50 ?_
        refine g_ishr 51 hC d_CodeTable_assign_51 ?_
        refine g_iadd 52 hC d_CodeTable_assign_52 ?_
        refine g_put 53 hC i_CodeTable rfl 0 rfl 7 (by decide) t_CodeTable tk_CodeTable n_CodeTable k115 rfl rfl rfl (Nat.le_of_ble_eq_true rfl) [(q_a0, .inr (6, [.ref q_a0_lengths, .ref q_a0_codes, .int x_a0_kinds, .ref q_a0_sorted, .ref q_a0_counts, .ref q_a0_firsts, .ref q_a0_places, .int (s2.2.2 + ((1048576 : Int32) >>> ((f_a0_lengths s2.1.toNatClampNeg) &&& 31)))])), (q_a0_counts, .inl (g_K C 0, 21, .inl (upd s2.2.1 (f_a0_lengths s2.1.toNatClampNeg).toNatClampNeg ((s2.2.1 (f_a0_lengths s2.1.toNatClampNeg).toNatClampNeg) + (1 : Int32))))), (q_a0_lengths, .inl (g_K C 0, 258, .inl f_a0_lengths)), (q_a0_firsts, .inl (g_K C 0, 21, .inl f_a0_firsts)), (q_a0_places, .inl (g_K C 0, 21, .inl f_a0_places)), (q_a0_codes, .inl (g_K C 0, 258, .inl f_a0_codes)), (q_a0_sorted, .inl (g_K C 0, 258, .inl f_a0_sorted))] rfl d_CodeTable_assign_53 ?_
        refine g_iinc 56 hC 1 (1 : Int32) [(1, .int (s2.1 + (1 : Int32))), (0, .ref q_a0)] rfl (by decide) (by decide) rfl d_CodeTable_assign_56 ?_
        refine g_goto 59 hC 15 (by decide) d_CodeTable_assign_59 ?_
        exact g_re [0, 1, 2, 3, 4, 5, 6] [1, 0] rfl rfl rfl (hI ((s2.1 + (1 : Int32)), (upd s2.2.1 (f_a0_lengths s2.1.toNatClampNeg).toNatClampNeg ((s2.2.1 (f_a0_lengths s2.1.toNatClampNeg).toNatClampNeg) + (1 : Int32))), (s2.2.2 + ((1048576 : Int32) >>> ((f_a0_lengths s2.1.toNatClampNeg) &&& 31)))) hf)) gas
  exact g_re [0, 6, 1, 2, 3, 4, 5] [1, 0] rfl rfl rfl (Gu3 ((0 : Int32), u1, (0 : Int32)) hu3)
theorem c_CodeTable_assign (l : Launch) (D : va_G) (K : Nat → ClassId) (q_a0 : Nat) (q_a0_lengths : Nat) (q_a0_codes : Nat) (x_a0_kinds : Int32) (q_a0_sorted : Nat) (q_a0_counts : Nat) (q_a0_firsts : Nat) (q_a0_places : Nat) (x_a0_filled : Int32) (f_a0_counts : (Nat → Int32)) (f_a0_lengths : (Nat → Int32)) (f_a0_firsts : (Nat → Int32)) (f_a0_places : (Nat → Int32)) (f_a0_codes : (Nat → Int32)) (f_a0_sorted : (Nat → Int32)) (out : (Int32 × (Nat → Int32) × Int32 × (Nat → Int32) × (Nat → Int32) × (Nat → Int32) × (Nat → Int32))) (hf : CodeTable_assign_f f_a0_counts x_a0_kinds f_a0_lengths f_a0_firsts f_a0_places f_a0_codes f_a0_sorted = some out) : Ci l D K y_CodeTable_assign (g_wd y_CodeTable_assign b_CodeTable_assign 3 (some .boolean)) { frames := 1, cells := 0, slots := 0, locals := 23 } [.ref q_a0] [(q_a0, .inr (6, [.ref q_a0_lengths, .ref q_a0_codes, .int x_a0_kinds, .ref q_a0_sorted, .ref q_a0_counts, .ref q_a0_firsts, .ref q_a0_places, .int x_a0_filled])), (q_a0_counts, .inl (K 0, 21, .inl f_a0_counts)), (q_a0_lengths, .inl (K 0, 258, .inl f_a0_lengths)), (q_a0_firsts, .inl (K 0, 21, .inl f_a0_firsts)), (q_a0_places, .inl (K 0, 21, .inl f_a0_places)), (q_a0_codes, .inl (K 0, 258, .inl f_a0_codes)), (q_a0_sorted, .inl (K 0, 258, .inl f_a0_sorted))] (fun (x : Unit) => [(q_a0, .inr (6, [.ref q_a0_lengths, .ref q_a0_codes, .int x_a0_kinds, .ref q_a0_sorted, .ref q_a0_counts, .ref q_a0_firsts, .ref q_a0_places, .int out.2.2.1])), (q_a0_counts, .inl (K 0, 21, .inl out.2.1)), (q_a0_lengths, .inl (K 0, 258, .inl f_a0_lengths)), (q_a0_firsts, .inl (K 0, 21, .inl out.2.2.2.1)), (q_a0_places, .inl (K 0, 21, .inl out.2.2.2.2.1)), (q_a0_codes, .inl (K 0, 258, .inl out.2.2.2.2.2.1)), (q_a0_sorted, .inl (K 0, 258, .inl out.2.2.2.2.2.2))]) out.1 := mk_i (by decide) (Nat.le_of_ble_eq_true rfl) (fun p e s m below meth c A Q hC kr => m_CodeTable_assign hC q_a0 q_a0_lengths q_a0_codes x_a0_kinds q_a0_sorted q_a0_counts q_a0_firsts q_a0_places x_a0_filled f_a0_counts f_a0_lengths f_a0_firsts f_a0_places f_a0_codes f_a0_sorted out hf (fun x o9 pc lv ho => by subst ho; exact kr x pc lv))
