abbrev b_Model_rotate : ByteArray := prog_14_method_12_code
def y_Model_rotate : MethodName := ⟨R_Model, "rotate", "()V"⟩
theorem d_Model_rotate_0 : decode b_Model_rotate 0 = .ok (.iconst 0, 1) := by decide +kernel
theorem d_Model_rotate_1 : decode b_Model_rotate 1 = .ok (.istore_n 1, 1) := by decide +kernel
theorem d_Model_rotate_2 : decode b_Model_rotate 2 = .ok (.iload_n 1, 1) := by decide +kernel
theorem d_Model_rotate_3 : decode b_Model_rotate 3 = .ok (.aload_n 0, 1) := by decide +kernel
theorem d_Model_rotate_4 : decode b_Model_rotate 4 = .ok (.getfield 96, 3) := by decide +kernel
theorem d_Model_rotate_7 : decode b_Model_rotate 7 = .ok (.if_icmp .ge 16, 3) := by decide +kernel
theorem d_Model_rotate_10 : decode b_Model_rotate 10 = .ok (.aload_n 0, 1) := by decide +kernel
theorem d_Model_rotate_11 : decode b_Model_rotate 11 = .ok (.getfield 25, 3) := by decide +kernel
theorem d_Model_rotate_14 : decode b_Model_rotate 14 = .ok (.iload_n 1, 1) := by decide +kernel
theorem d_Model_rotate_15 : decode b_Model_rotate 15 = .ok (.iload_n 1, 1) := by decide +kernel
theorem d_Model_rotate_16 : decode b_Model_rotate 16 = .ok (.iastore, 1) := by decide +kernel
theorem d_Model_rotate_17 : decode b_Model_rotate 17 = .ok (.iinc 1 1, 3) := by decide +kernel
theorem d_Model_rotate_20 : decode b_Model_rotate 20 = .ok (.goto (-18), 3) := by decide +kernel
theorem d_Model_rotate_23 : decode b_Model_rotate 23 = .ok (.iconst 1, 1) := by decide +kernel
theorem d_Model_rotate_24 : decode b_Model_rotate 24 = .ok (.istore_n 1, 1) := by decide +kernel
theorem d_Model_rotate_25 : decode b_Model_rotate 25 = .ok (.iload_n 1, 1) := by decide +kernel
theorem d_Model_rotate_26 : decode b_Model_rotate 26 = .ok (.aload_n 0, 1) := by decide +kernel
theorem d_Model_rotate_27 : decode b_Model_rotate 27 = .ok (.getfield 96, 3) := by decide +kernel
theorem d_Model_rotate_30 : decode b_Model_rotate 30 = .ok (.if_icmp .ge 106, 3) := by decide +kernel
theorem d_Model_rotate_33 : decode b_Model_rotate 33 = .ok (.iconst 0, 1) := by decide +kernel
theorem d_Model_rotate_34 : decode b_Model_rotate 34 = .ok (.istore_n 2, 1) := by decide +kernel
theorem d_Model_rotate_35 : decode b_Model_rotate 35 = .ok (.iload_n 2, 1) := by decide +kernel
theorem d_Model_rotate_36 : decode b_Model_rotate 36 = .ok (.aload_n 0, 1) := by decide +kernel
theorem d_Model_rotate_37 : decode b_Model_rotate 37 = .ok (.getfield 96, 3) := by decide +kernel
theorem d_Model_rotate_40 : decode b_Model_rotate 40 = .ok (.if_icmp .ge 61, 3) := by decide +kernel
theorem d_Model_rotate_43 : decode b_Model_rotate 43 = .ok (.aload_n 0, 1) := by decide +kernel
theorem d_Model_rotate_44 : decode b_Model_rotate 44 = .ok (.iload_n 2, 1) := by decide +kernel
theorem d_Model_rotate_45 : decode b_Model_rotate 45 = .ok (.iload_n 2, 1) := by decide +kernel
theorem d_Model_rotate_46 : decode b_Model_rotate 46 = .ok (.iload_n 1, 1) := by decide +kernel
theorem d_Model_rotate_47 : decode b_Model_rotate 47 = .ok (.iadd, 1) := by decide +kernel
theorem d_Model_rotate_48 : decode b_Model_rotate 48 = .ok (.aload_n 0, 1) := by decide +kernel
theorem d_Model_rotate_49 : decode b_Model_rotate 49 = .ok (.getfield 96, 3) := by decide +kernel
theorem d_Model_rotate_52 : decode b_Model_rotate 52 = .ok (.if_icmp .ge 9, 3) := by decide +kernel
theorem d_Model_rotate_55 : decode b_Model_rotate 55 = .ok (.iload_n 2, 1) := by decide +kernel
theorem d_Model_rotate_56 : decode b_Model_rotate 56 = .ok (.iload_n 1, 1) := by decide +kernel
theorem d_Model_rotate_57 : decode b_Model_rotate 57 = .ok (.iadd, 1) := by decide +kernel
theorem d_Model_rotate_58 : decode b_Model_rotate 58 = .ok (.goto 7, 3) := by decide +kernel
theorem d_Model_rotate_61 : decode b_Model_rotate 61 = .ok (.aload_n 0, 1) := by decide +kernel
theorem d_Model_rotate_62 : decode b_Model_rotate 62 = .ok (.getfield 96, 3) := by decide +kernel
theorem d_Model_rotate_65 : decode b_Model_rotate 65 = .ok (.iload_n 2, 1) := by decide +kernel
theorem d_Model_rotate_66 : decode b_Model_rotate 66 = .ok (.iconst 2, 1) := by decide +kernel
theorem d_Model_rotate_67 : decode b_Model_rotate 67 = .ok (.iload_n 1, 1) := by decide +kernel
theorem d_Model_rotate_68 : decode b_Model_rotate 68 = .ok (.imul, 1) := by decide +kernel
theorem d_Model_rotate_69 : decode b_Model_rotate 69 = .ok (.iadd, 1) := by decide +kernel
theorem d_Model_rotate_70 : decode b_Model_rotate 70 = .ok (.aload_n 0, 1) := by decide +kernel
theorem d_Model_rotate_71 : decode b_Model_rotate 71 = .ok (.getfield 96, 3) := by decide +kernel
theorem d_Model_rotate_74 : decode b_Model_rotate 74 = .ok (.if_icmp .ge 11, 3) := by decide +kernel
theorem d_Model_rotate_77 : decode b_Model_rotate 77 = .ok (.iload_n 2, 1) := by decide +kernel
theorem d_Model_rotate_78 : decode b_Model_rotate 78 = .ok (.iconst 2, 1) := by decide +kernel
theorem d_Model_rotate_79 : decode b_Model_rotate 79 = .ok (.iload_n 1, 1) := by decide +kernel
theorem d_Model_rotate_80 : decode b_Model_rotate 80 = .ok (.imul, 1) := by decide +kernel
theorem d_Model_rotate_81 : decode b_Model_rotate 81 = .ok (.iadd, 1) := by decide +kernel
theorem d_Model_rotate_82 : decode b_Model_rotate 82 = .ok (.goto 7, 3) := by decide +kernel
theorem d_Model_rotate_85 : decode b_Model_rotate 85 = .ok (.aload_n 0, 1) := by decide +kernel
theorem d_Model_rotate_86 : decode b_Model_rotate 86 = .ok (.getfield 96, 3) := by decide +kernel
theorem d_Model_rotate_89 : decode b_Model_rotate 89 = .ok (.invokevirtual 99, 3) := by decide +kernel
theorem d_Model_rotate_92 : decode b_Model_rotate 92 = .ok (.iload_n 2, 1) := by decide +kernel
theorem d_Model_rotate_93 : decode b_Model_rotate 93 = .ok (.iconst 2, 1) := by decide +kernel
theorem d_Model_rotate_94 : decode b_Model_rotate 94 = .ok (.iload_n 1, 1) := by decide +kernel
theorem d_Model_rotate_95 : decode b_Model_rotate 95 = .ok (.imul, 1) := by decide +kernel
theorem d_Model_rotate_96 : decode b_Model_rotate 96 = .ok (.iadd, 1) := by decide +kernel
theorem d_Model_rotate_97 : decode b_Model_rotate 97 = .ok (.istore_n 2, 1) := by decide +kernel
theorem d_Model_rotate_98 : decode b_Model_rotate 98 = .ok (.goto (-63), 3) := by decide +kernel
theorem d_Model_rotate_101 : decode b_Model_rotate 101 = .ok (.iconst 0, 1) := by decide +kernel
theorem d_Model_rotate_102 : decode b_Model_rotate 102 = .ok (.istore_n 2, 1) := by decide +kernel
theorem d_Model_rotate_103 : decode b_Model_rotate 103 = .ok (.iload_n 2, 1) := by decide +kernel
theorem d_Model_rotate_104 : decode b_Model_rotate 104 = .ok (.aload_n 0, 1) := by decide +kernel
theorem d_Model_rotate_105 : decode b_Model_rotate 105 = .ok (.getfield 96, 3) := by decide +kernel
theorem d_Model_rotate_108 : decode b_Model_rotate 108 = .ok (.if_icmp .ge 21, 3) := by decide +kernel
theorem d_Model_rotate_111 : decode b_Model_rotate 111 = .ok (.aload_n 0, 1) := by decide +kernel
theorem d_Model_rotate_112 : decode b_Model_rotate 112 = .ok (.getfield 25, 3) := by decide +kernel
theorem d_Model_rotate_115 : decode b_Model_rotate 115 = .ok (.iload_n 2, 1) := by decide +kernel
theorem d_Model_rotate_116 : decode b_Model_rotate 116 = .ok (.aload_n 0, 1) := by decide +kernel
theorem d_Model_rotate_117 : decode b_Model_rotate 117 = .ok (.getfield 28, 3) := by decide +kernel
theorem d_Model_rotate_120 : decode b_Model_rotate 120 = .ok (.iload_n 2, 1) := by decide +kernel
theorem d_Model_rotate_121 : decode b_Model_rotate 121 = .ok (.iaload, 1) := by decide +kernel
theorem d_Model_rotate_122 : decode b_Model_rotate 122 = .ok (.iastore, 1) := by decide +kernel
theorem d_Model_rotate_123 : decode b_Model_rotate 123 = .ok (.iinc 2 1, 3) := by decide +kernel
theorem d_Model_rotate_126 : decode b_Model_rotate 126 = .ok (.goto (-23), 3) := by decide +kernel
theorem d_Model_rotate_129 : decode b_Model_rotate 129 = .ok (.iload_n 1, 1) := by decide +kernel
theorem d_Model_rotate_130 : decode b_Model_rotate 130 = .ok (.iconst 2, 1) := by decide +kernel
theorem d_Model_rotate_131 : decode b_Model_rotate 131 = .ok (.imul, 1) := by decide +kernel
theorem d_Model_rotate_132 : decode b_Model_rotate 132 = .ok (.istore_n 1, 1) := by decide +kernel
theorem d_Model_rotate_133 : decode b_Model_rotate 133 = .ok (.goto (-108), 3) := by decide +kernel
theorem d_Model_rotate_136 : decode b_Model_rotate 136 = .ok (.iconst 0, 1) := by decide +kernel
theorem d_Model_rotate_137 : decode b_Model_rotate 137 = .ok (.istore_n 1, 1) := by decide +kernel
theorem d_Model_rotate_138 : decode b_Model_rotate 138 = .ok (.iload_n 1, 1) := by decide +kernel
theorem d_Model_rotate_139 : decode b_Model_rotate 139 = .ok (.aload_n 0, 1) := by decide +kernel
theorem d_Model_rotate_140 : decode b_Model_rotate 140 = .ok (.getfield 96, 3) := by decide +kernel
theorem d_Model_rotate_143 : decode b_Model_rotate 143 = .ok (.if_icmp .ge 52, 3) := by decide +kernel
theorem d_Model_rotate_146 : decode b_Model_rotate 146 = .ok (.aload_n 0, 1) := by decide +kernel
theorem d_Model_rotate_147 : decode b_Model_rotate 147 = .ok (.getfield 31, 3) := by decide +kernel
theorem d_Model_rotate_150 : decode b_Model_rotate 150 = .ok (.iload_n 1, 1) := by decide +kernel
theorem d_Model_rotate_151 : decode b_Model_rotate 151 = .ok (.aload_n 0, 1) := by decide +kernel
theorem d_Model_rotate_152 : decode b_Model_rotate 152 = .ok (.getfield 21, 3) := by decide +kernel
theorem d_Model_rotate_155 : decode b_Model_rotate 155 = .ok (.aload_n 0, 1) := by decide +kernel
theorem d_Model_rotate_156 : decode b_Model_rotate 156 = .ok (.getfield 25, 3) := by decide +kernel
theorem d_Model_rotate_159 : decode b_Model_rotate 159 = .ok (.iload_n 1, 1) := by decide +kernel
theorem d_Model_rotate_160 : decode b_Model_rotate 160 = .ok (.iaload, 1) := by decide +kernel
theorem d_Model_rotate_161 : decode b_Model_rotate 161 = .ok (.aload_n 0, 1) := by decide +kernel
theorem d_Model_rotate_162 : decode b_Model_rotate 162 = .ok (.getfield 96, 3) := by decide +kernel
theorem d_Model_rotate_165 : decode b_Model_rotate 165 = .ok (.iadd, 1) := by decide +kernel
theorem d_Model_rotate_166 : decode b_Model_rotate 166 = .ok (.iconst 1, 1) := by decide +kernel
theorem d_Model_rotate_167 : decode b_Model_rotate 167 = .ok (.isub, 1) := by decide +kernel
theorem d_Model_rotate_168 : decode b_Model_rotate 168 = .ok (.aload_n 0, 1) := by decide +kernel
theorem d_Model_rotate_169 : decode b_Model_rotate 169 = .ok (.getfield 96, 3) := by decide +kernel
theorem d_Model_rotate_172 : decode b_Model_rotate 172 = .ok (.irem, 1) := by decide +kernel
theorem d_Model_rotate_173 : decode b_Model_rotate 173 = .ok (.iaload, 1) := by decide +kernel
theorem d_Model_rotate_174 : decode b_Model_rotate 174 = .ok (.iastore, 1) := by decide +kernel
theorem d_Model_rotate_175 : decode b_Model_rotate 175 = .ok (.aload_n 0, 1) := by decide +kernel
theorem d_Model_rotate_176 : decode b_Model_rotate 176 = .ok (.getfield 25, 3) := by decide +kernel
theorem d_Model_rotate_179 : decode b_Model_rotate 179 = .ok (.iload_n 1, 1) := by decide +kernel
theorem d_Model_rotate_180 : decode b_Model_rotate 180 = .ok (.iaload, 1) := by decide +kernel
theorem d_Model_rotate_181 : decode b_Model_rotate 181 = .ok (.ifCond .ne 8, 3) := by decide +kernel
theorem d_Model_rotate_184 : decode b_Model_rotate 184 = .ok (.aload_n 0, 1) := by decide +kernel
theorem d_Model_rotate_185 : decode b_Model_rotate 185 = .ok (.iload_n 1, 1) := by decide +kernel
theorem d_Model_rotate_186 : decode b_Model_rotate 186 = .ok (.putfield 103, 3) := by decide +kernel
theorem d_Model_rotate_189 : decode b_Model_rotate 189 = .ok (.iinc 1 1, 3) := by decide +kernel
theorem d_Model_rotate_192 : decode b_Model_rotate 192 = .ok (.goto (-54), 3) := by decide +kernel
theorem d_Model_rotate_195 : decode b_Model_rotate 195 = .ok (.return_, 1) := by decide +kernel
theorem k1239 : (Jvm.Cond.fieldLink "RotationPressModel" (31 : Nat) "RotationPressModel" "last" "[I") ∈ g_tbl := List.mem_filter.mpr ⟨List.mem_append_right (k2_sels lw_privs) (List.mem_append_right _ (List.mem_append_right _ (List.mem_append_right _ (List.mem_append_right _ (List.mem_append_right _ (List.mem_append_left _ (List.mem_of_getElem? (l := tables_1_6) (i := 39) rfl))))))), rfl⟩
theorem k1253 : (Jvm.Cond.fieldLink "RotationPressModel" (103 : Nat) "RotationPressModel" "origin" "I") ∈ g_tbl := List.mem_filter.mpr ⟨List.mem_append_right (k2_sels lw_privs) (List.mem_append_right _ (List.mem_append_right _ (List.mem_append_right _ (List.mem_append_right _ (List.mem_append_right _ (List.mem_append_left _ (List.mem_of_getElem? (l := tables_1_6) (i := 53) rfl))))))), rfl⟩
theorem k1415 : (Jvm.Cond.code ({ cls := "RotationPressModel", name := "merge", desc := "(III)V" } : Jvm.MethodName) prog_14_method_13_code (8 : Nat) (Option.none : Option Jvm.ClassFile.FieldType)) ∈ g_tbl := List.mem_filter.mpr ⟨List.mem_append_right (k2_sels lw_privs) (List.mem_append_right _ (List.mem_append_right _ (List.mem_append_right _ (List.mem_append_right _ (List.mem_append_right _ (List.mem_append_left _ (List.mem_of_getElem? (l := tables_1_6) (i := 215) rfl))))))), rfl⟩
theorem k1412 : (Jvm.Cond.methodLink "RotationPressModel" (99 : Nat) ({ cls := "RotationPressModel", name := "merge", desc := "(III)V" } : Jvm.MethodName)) ∈ g_tbl := List.mem_filter.mpr ⟨List.mem_append_right (k2_sels lw_privs) (List.mem_append_right _ (List.mem_append_right _ (List.mem_append_right _ (List.mem_append_right _ (List.mem_append_right _ (List.mem_append_left _ (List.mem_of_getElem? (l := tables_1_6) (i := 212) rfl))))))), rfl⟩
theorem k1414 : (Jvm.Cond.instanceMethod ({ cls := "RotationPressModel", name := "merge", desc := "(III)V" } : Jvm.MethodName)) ∈ g_tbl := List.mem_filter.mpr ⟨List.mem_append_right (k2_sels lw_privs) (List.mem_append_right _ (List.mem_append_right _ (List.mem_append_right _ (List.mem_append_right _ (List.mem_append_right _ (List.mem_append_left _ (List.mem_of_getElem? (l := tables_1_6) (i := 214) rfl))))))), rfl⟩
theorem ks42 : (Jvm.Cond.selects "RotationPressModel" ({ cls := "RotationPressModel", name := "merge", desc := "(III)V" } : Jvm.MethodName) ({ cls := "RotationPressModel", name := "merge", desc := "(III)V" } : Jvm.MethodName)) ∈ g_tbl := List.mem_filter.mpr ⟨List.mem_append_left _ (List.mem_map.mpr ⟨(({ cls := "RotationPressModel", name := "merge", desc := "(III)V" } : Jvm.MethodName), _), List.mem_of_getElem? (i := 42) rfl, rfl⟩), rfl⟩
set_option maxRecDepth 100000 in
set_option maxHeartbeats 4000000 in
theorem m_Model_rotate {C : gT} (hC : gOk C b_Model_rotate R_Model { frames := 2, cells := 0, slots := 0, locals := 52 } 3) (q_a0 : Nat) (r_a0_tape : Nat) (x_a0_fed : Int32) (r_a0_out : Nat) (x_a0_size : Int32) (x_a0_thrown : Int32) (x_a0_place : Int32) (q_a0_told : Nat) (x_a0_tells : Int32) (q_a0_order : Nat) (q_a0_merged : Nat) (q_a0_last : Nat) (r_a0_up : Nat) (r_a0_symbols : Nat) (x_a0_many : Int32) (r_a0_list : Nat) (x_a0_listed : Int32) (r_a0_tables : Nat) (x_a0_groups : Int32) (x_a0_tableCount : Int32) (r_a0_lengths : Nat) (r_a0_codes : Nat) (r_a0_weights : Nat) (r_a0_parents : Nat) (r_a0_counts : Nat) (x_a0_origin : Int32) (x_a0_check : Int32) (x_a0_blocks : Int32) (x_a0_fresh : Int32) (x_a0_allTells : Int32) (x_a0_allSymbols : Int32) (x_a0_allGroups : Int32) (x_a0_bit : Int32) (x_a0_checkOfAll : Int32) (x_a0_fault : Int32) (x_a0_total : Int32) (r_a0_rows : Nat) (r_a0_from : Nat) (x_a0_rowCount : Int32) (r_a0_chosen : Nat) (x_a0_chosenCount : Int32) (r_a0_seen : Nat) (r_a0_prefix : Nat) (x_a0_seenTables : Int32) (x_a0_seenBytes : Int32) (x_a0_limit : Int32) (x_a0_count : Int32) (f_a0_order : (Nat → Int32)) (f_a0_told : (Nat → Int32)) (f_a0_merged : (Nat → Int32)) (f_a0_last : (Nat → Int32)) (out : ((Nat → Int32) × (Nat → Int32) × (Nat → Int32) × Int32)) (hf : Model_rotate_f x_a0_tells f_a0_order f_a0_told f_a0_merged f_a0_last x_a0_origin = some out) (kr : ∀ (x : Unit) (o9 : ((Nat → Int32) × (Nat → Int32) × (Nat → Int32) × Int32)) (pc : Nat) (lv : List (Nat × Value)), o9 = out → decode b_Model_rotate pc = .ok (.return_, 1) → gAt C 0 0 [(q_a0, .inr (12, [.ref r_a0_tape, .int x_a0_fed, .ref r_a0_out, .int x_a0_size, .int x_a0_thrown, .int x_a0_place, .ref q_a0_told, .int x_a0_tells, .ref q_a0_order, .ref q_a0_merged, .ref q_a0_last, .ref r_a0_up, .ref r_a0_symbols, .int x_a0_many, .ref r_a0_list, .int x_a0_listed, .ref r_a0_tables, .int x_a0_groups, .int x_a0_tableCount, .ref r_a0_lengths, .ref r_a0_codes, .ref r_a0_weights, .ref r_a0_parents, .ref r_a0_counts, .int o9.2.2.2, .int x_a0_check, .int x_a0_blocks, .int x_a0_fresh, .int x_a0_allTells, .int x_a0_allSymbols, .int x_a0_allGroups, .int x_a0_bit, .int x_a0_checkOfAll, .int x_a0_fault, .int x_a0_total, .ref r_a0_rows, .ref r_a0_from, .int x_a0_rowCount, .ref r_a0_chosen, .int x_a0_chosenCount, .ref r_a0_seen, .ref r_a0_prefix, .int x_a0_seenTables, .int x_a0_seenBytes, .int x_a0_limit, .int x_a0_count])), (q_a0_order, .inl (g_K C 0, 2250, .inl o9.1)), (q_a0_told, .inl (g_K C 0, 2250, .inl f_a0_told)), (q_a0_merged, .inl (g_K C 0, 2250, .inl o9.2.1)), (q_a0_last, .inl (g_K C 0, 2250, .inl o9.2.2.1))] lv pc []) : gAt C 0 0 [(q_a0, .inr (12, [.ref r_a0_tape, .int x_a0_fed, .ref r_a0_out, .int x_a0_size, .int x_a0_thrown, .int x_a0_place, .ref q_a0_told, .int x_a0_tells, .ref q_a0_order, .ref q_a0_merged, .ref q_a0_last, .ref r_a0_up, .ref r_a0_symbols, .int x_a0_many, .ref r_a0_list, .int x_a0_listed, .ref r_a0_tables, .int x_a0_groups, .int x_a0_tableCount, .ref r_a0_lengths, .ref r_a0_codes, .ref r_a0_weights, .ref r_a0_parents, .ref r_a0_counts, .int x_a0_origin, .int x_a0_check, .int x_a0_blocks, .int x_a0_fresh, .int x_a0_allTells, .int x_a0_allSymbols, .int x_a0_allGroups, .int x_a0_bit, .int x_a0_checkOfAll, .int x_a0_fault, .int x_a0_total, .ref r_a0_rows, .ref r_a0_from, .int x_a0_rowCount, .ref r_a0_chosen, .int x_a0_chosenCount, .ref r_a0_seen, .ref r_a0_prefix, .int x_a0_seenTables, .int x_a0_seenBytes, .int x_a0_limit, .int x_a0_count])), (q_a0_order, .inl (g_K C 0, 2250, .inl f_a0_order)), (q_a0_told, .inl (g_K C 0, 2250, .inl f_a0_told)), (q_a0_merged, .inl (g_K C 0, 2250, .inl f_a0_merged)), (q_a0_last, .inl (g_K C 0, 2250, .inl f_a0_last))] [(0, .ref q_a0)] 0 [] := by
  unfold Model_rotate_f at hf
  refine g_iconst 0 hC (0 : Int32) (by decide) d_Model_rotate_0 ?_
  refine g_istore_n 1 hC (lv2 := [(1, .int (0 : Int32)), (0, .ref q_a0)]) (hn := (by decide)) (hl2 := rfl) (hd := d_Model_rotate_1) ?_
  obtain ⟨u2, hu2, hf⟩ := bd_some hf
  have Xu2_0 : ∀ (v3 : (Nat → Int32)), v3 = u2 → gAt C 0 0 [(q_a0, .inr (12, [.ref r_a0_tape, .int x_a0_fed, .ref r_a0_out, .int x_a0_size, .int x_a0_thrown, .int x_a0_place, .ref q_a0_told, .int x_a0_tells, .ref q_a0_order, .ref q_a0_merged, .ref q_a0_last, .ref r_a0_up, .ref r_a0_symbols, .int x_a0_many, .ref r_a0_list, .int x_a0_listed, .ref r_a0_tables, .int x_a0_groups, .int x_a0_tableCount, .ref r_a0_lengths, .ref r_a0_codes, .ref r_a0_weights, .ref r_a0_parents, .ref r_a0_counts, .int x_a0_origin, .int x_a0_check, .int x_a0_blocks, .int x_a0_fresh, .int x_a0_allTells, .int x_a0_allSymbols, .int x_a0_allGroups, .int x_a0_bit, .int x_a0_checkOfAll, .int x_a0_fault, .int x_a0_total, .ref r_a0_rows, .ref r_a0_from, .int x_a0_rowCount, .ref r_a0_chosen, .int x_a0_chosenCount, .ref r_a0_seen, .ref r_a0_prefix, .int x_a0_seenTables, .int x_a0_seenBytes, .int x_a0_limit, .int x_a0_count])), (q_a0_order, .inl (g_K C 0, 2250, .inl v3)), (q_a0_told, .inl (g_K C 0, 2250, .inl f_a0_told)), (q_a0_merged, .inl (g_K C 0, 2250, .inl f_a0_merged)), (q_a0_last, .inl (g_K C 0, 2250, .inl f_a0_last))] [(0, .ref q_a0)] 23 [] := by
    intro v3 hv
    rw [← hv] at hf
    refine g_iconst 23 hC (1 : Int32) (by decide) d_Model_rotate_23 ?_
    refine g_istore_n 24 hC (lv2 := [(1, .int (1 : Int32)), (0, .ref q_a0)]) (hn := (by decide)) (hl2 := rfl) (hd := d_Model_rotate_24) ?_
    obtain ⟨u5, hu5, hf⟩ := bd_some hf
    have Xu5_0 : ∀ (v6 : ((Nat → Int32) × (Nat → Int32))), v6 = u5 → gAt C 0 0 [(q_a0, .inr (12, [.ref r_a0_tape, .int x_a0_fed, .ref r_a0_out, .int x_a0_size, .int x_a0_thrown, .int x_a0_place, .ref q_a0_told, .int x_a0_tells, .ref q_a0_order, .ref q_a0_merged, .ref q_a0_last, .ref r_a0_up, .ref r_a0_symbols, .int x_a0_many, .ref r_a0_list, .int x_a0_listed, .ref r_a0_tables, .int x_a0_groups, .int x_a0_tableCount, .ref r_a0_lengths, .ref r_a0_codes, .ref r_a0_weights, .ref r_a0_parents, .ref r_a0_counts, .int x_a0_origin, .int x_a0_check, .int x_a0_blocks, .int x_a0_fresh, .int x_a0_allTells, .int x_a0_allSymbols, .int x_a0_allGroups, .int x_a0_bit, .int x_a0_checkOfAll, .int x_a0_fault, .int x_a0_total, .ref r_a0_rows, .ref r_a0_from, .int x_a0_rowCount, .ref r_a0_chosen, .int x_a0_chosenCount, .ref r_a0_seen, .ref r_a0_prefix, .int x_a0_seenTables, .int x_a0_seenBytes, .int x_a0_limit, .int x_a0_count])), (q_a0_order, .inl (g_K C 0, 2250, .inl v6.1)), (q_a0_told, .inl (g_K C 0, 2250, .inl f_a0_told)), (q_a0_merged, .inl (g_K C 0, 2250, .inl v6.2)), (q_a0_last, .inl (g_K C 0, 2250, .inl f_a0_last))] [(0, .ref q_a0)] 136 [] := by
      intro v6 hv
      rw [← hv] at hf
      refine g_iconst 136 hC (0 : Int32) (by decide) d_Model_rotate_136 ?_
      refine g_istore_n 137 hC (lv2 := [(1, .int (0 : Int32)), (0, .ref q_a0)]) (hn := (by decide)) (hl2 := rfl) (hd := d_Model_rotate_137) ?_
      obtain ⟨u8, hu8, hf⟩ := bd_some hf
      have Xu8_0 : ∀ (v9 : ((Nat → Int32) × Int32)), v9 = u8 → gAt C 0 0 [(q_a0, .inr (12, [.ref r_a0_tape, .int x_a0_fed, .ref r_a0_out, .int x_a0_size, .int x_a0_thrown, .int x_a0_place, .ref q_a0_told, .int x_a0_tells, .ref q_a0_order, .ref q_a0_merged, .ref q_a0_last, .ref r_a0_up, .ref r_a0_symbols, .int x_a0_many, .ref r_a0_list, .int x_a0_listed, .ref r_a0_tables, .int x_a0_groups, .int x_a0_tableCount, .ref r_a0_lengths, .ref r_a0_codes, .ref r_a0_weights, .ref r_a0_parents, .ref r_a0_counts, .int v9.2, .int x_a0_check, .int x_a0_blocks, .int x_a0_fresh, .int x_a0_allTells, .int x_a0_allSymbols, .int x_a0_allGroups, .int x_a0_bit, .int x_a0_checkOfAll, .int x_a0_fault, .int x_a0_total, .ref r_a0_rows, .ref r_a0_from, .int x_a0_rowCount, .ref r_a0_chosen, .int x_a0_chosenCount, .ref r_a0_seen, .ref r_a0_prefix, .int x_a0_seenTables, .int x_a0_seenBytes, .int x_a0_limit, .int x_a0_count])), (q_a0_order, .inl (g_K C 0, 2250, .inl v6.1)), (q_a0_told, .inl (g_K C 0, 2250, .inl f_a0_told)), (q_a0_merged, .inl (g_K C 0, 2250, .inl v6.2)), (q_a0_last, .inl (g_K C 0, 2250, .inl v9.1))] [] 195 [] := by
        intro v9 hv
        rw [← hv] at hf
        exact kr () (v6.1, v6.2, v9.1, v9.2) 195 [] (Option.some.inj hf) d_Model_rotate_195
      have Gu8 := lp_ind (b := (Model_rotate_L138 x_a0_tells v6 f_a0_told)) (G := fun (s7 : (Int32 × (Nat → Int32) × Int32)) => gAt C 0 0 [(q_a0, .inr (12, [.ref r_a0_tape, .int x_a0_fed, .ref r_a0_out, .int x_a0_size, .int x_a0_thrown, .int x_a0_place, .ref q_a0_told, .int x_a0_tells, .ref q_a0_order, .ref q_a0_merged, .ref q_a0_last, .ref r_a0_up, .ref r_a0_symbols, .int x_a0_many, .ref r_a0_list, .int x_a0_listed, .ref r_a0_tables, .int x_a0_groups, .int x_a0_tableCount, .ref r_a0_lengths, .ref r_a0_codes, .ref r_a0_weights, .ref r_a0_parents, .ref r_a0_counts, .int s7.2.2, .int x_a0_check, .int x_a0_blocks, .int x_a0_fresh, .int x_a0_allTells, .int x_a0_allSymbols, .int x_a0_allGroups, .int x_a0_bit, .int x_a0_checkOfAll, .int x_a0_fault, .int x_a0_total, .ref r_a0_rows, .ref r_a0_from, .int x_a0_rowCount, .ref r_a0_chosen, .int x_a0_chosenCount, .ref r_a0_seen, .ref r_a0_prefix, .int x_a0_seenTables, .int x_a0_seenBytes, .int x_a0_limit, .int x_a0_count])), (q_a0_order, .inl (g_K C 0, 2250, .inl v6.1)), (q_a0_told, .inl (g_K C 0, 2250, .inl f_a0_told)), (q_a0_merged, .inl (g_K C 0, 2250, .inl v6.2)), (q_a0_last, .inl (g_K C 0, 2250, .inl s7.2.1))] [(0, .ref q_a0), (1, .int s7.1)] 138 []) (o := u8) (by
          intro s7 u10 hf hI hX
          unfold Model_rotate_L138 at hf
          have J189 : ∀ (j189_0 : (Nat → Int32)) (j189_1 : Int32), Model_rotate_J189 s7 j189_0 j189_1 = some u10 → gAt C 0 0 [(q_a0, .inr (12, [.ref r_a0_tape, .int x_a0_fed, .ref r_a0_out, .int x_a0_size, .int x_a0_thrown, .int x_a0_place, .ref q_a0_told, .int x_a0_tells, .ref q_a0_order, .ref q_a0_merged, .ref q_a0_last, .ref r_a0_up, .ref r_a0_symbols, .int x_a0_many, .ref r_a0_list, .int x_a0_listed, .ref r_a0_tables, .int x_a0_groups, .int x_a0_tableCount, .ref r_a0_lengths, .ref r_a0_codes, .ref r_a0_weights, .ref r_a0_parents, .ref r_a0_counts, .int j189_1, .int x_a0_check, .int x_a0_blocks, .int x_a0_fresh, .int x_a0_allTells, .int x_a0_allSymbols, .int x_a0_allGroups, .int x_a0_bit, .int x_a0_checkOfAll, .int x_a0_fault, .int x_a0_total, .ref r_a0_rows, .ref r_a0_from, .int x_a0_rowCount, .ref r_a0_chosen, .int x_a0_chosenCount, .ref r_a0_seen, .ref r_a0_prefix, .int x_a0_seenTables, .int x_a0_seenBytes, .int x_a0_limit, .int x_a0_count])), (q_a0_order, .inl (g_K C 0, 2250, .inl v6.1)), (q_a0_told, .inl (g_K C 0, 2250, .inl f_a0_told)), (q_a0_merged, .inl (g_K C 0, 2250, .inl v6.2)), (q_a0_last, .inl (g_K C 0, 2250, .inl j189_0))] [(0, .ref q_a0), (1, .int s7.1)] 189 [] := by
            intro j189_0 j189_1 hf
            unfold Model_rotate_J189 at hf
            refine g_iinc 189 hC 1 (1 : Int32) [(1, .int (s7.1 + (1 : Int32))), (0, .ref q_a0)] rfl (by decide) (by decide) rfl d_Model_rotate_189 ?_
            refine g_goto 192 hC 138 (by decide) d_Model_rotate_192 ?_
            exact g_re [0, 1, 2, 3, 4] [1, 0] rfl rfl rfl (hI ((s7.1 + (1 : Int32)), j189_0, j189_1) hf)
          refine g_iload_n 138 hC (j := 1) (hj := rfl) (hd := d_Model_rotate_138) ?_
          refine g_aload_n 139 hC (j := 0) (hj := rfl) (hd := d_Model_rotate_139) ?_
          refine g_get 140 hC i_Model rfl 0 rfl 7 (by decide) k1236 rfl d_Model_rotate_140 ?_
          refine g_icmp_ge 143 hC 195 (by decide) d_Model_rotate_143 (fun c11 => ?_) (fun c11 => ?_)
          · have hf := it_t c11 hf
            exact g_re [0, 1, 2, 3, 4] [] rfl rfl rfl (Xu8_0 (s7.2.1, s7.2.2) (hX (s7.2.1, s7.2.2) hf))
          · have hf := it_f c11 hf
            refine g_aload_n 146 hC (j := 0) (hj := rfl) (hd := d_Model_rotate_146) ?_
            refine g_get 147 hC i_Model rfl 0 rfl 10 (by decide) k1239 rfl d_Model_rotate_147 ?_
            refine g_iload_n 150 hC (j := 1) (hj := rfl) (hd := d_Model_rotate_150) ?_
            refine g_aload_n 151 hC (j := 0) (hj := rfl) (hd := d_Model_rotate_151) ?_
            refine g_get 152 hC i_Model rfl 0 rfl 6 (by decide) k1235 rfl d_Model_rotate_152 ?_
            refine g_aload_n 155 hC (j := 0) (hj := rfl) (hd := d_Model_rotate_155) ?_
            refine g_get 156 hC i_Model rfl 0 rfl 8 (by decide) k1237 rfl d_Model_rotate_156 ?_
            refine g_iload_n 159 hC (j := 1) (hj := rfl) (hd := d_Model_rotate_159) ?_
            obtain ⟨e12, hf⟩ := gd_some hf
            refine g_iald 160 hC 1 rfl e12 d_Model_rotate_160 ?_
            refine g_aload_n 161 hC (j := 0) (hj := rfl) (hd := d_Model_rotate_161) ?_
            refine g_get 162 hC i_Model rfl 0 rfl 7 (by decide) k1236 rfl d_Model_rotate_162 ?_
            refine g_iadd 165 hC d_Model_rotate_165 ?_
            refine g_iconst 166 hC (1 : Int32) (by decide) d_Model_rotate_166 ?_
            refine g_isub 167 hC d_Model_rotate_167 ?_
            refine g_aload_n 168 hC (j := 0) (hj := rfl) (hd := d_Model_rotate_168) ?_
            refine g_get 169 hC i_Model rfl 0 rfl 7 (by decide) k1236 rfl d_Model_rotate_169 ?_
            obtain ⟨e13, hf⟩ := gd_some hf
            refine g_irem 172 hC (hne := e13) (hd := d_Model_rotate_172) ?_
            obtain ⟨e14, hf⟩ := gd_some hf
            refine g_iald 173 hC 2 rfl e14 d_Model_rotate_173 ?_
            obtain ⟨e15, hf⟩ := gd_some hf
            refine g_iast 174 hC 4 rfl e15 [(q_a0, .inr (12, [.ref r_a0_tape, .int x_a0_fed, .ref r_a0_out, .int x_a0_size, .int x_a0_thrown, .int x_a0_place, .ref q_a0_told, .int x_a0_tells, .ref q_a0_order, .ref q_a0_merged, .ref q_a0_last, .ref r_a0_up, .ref r_a0_symbols, .int x_a0_many, .ref r_a0_list, .int x_a0_listed, .ref r_a0_tables, .int x_a0_groups, .int x_a0_tableCount, .ref r_a0_lengths, .ref r_a0_codes, .ref r_a0_weights, .ref r_a0_parents, .ref r_a0_counts, .int s7.2.2, .int x_a0_check, .int x_a0_blocks, .int x_a0_fresh, .int x_a0_allTells, .int x_a0_allSymbols, .int x_a0_allGroups, .int x_a0_bit, .int x_a0_checkOfAll, .int x_a0_fault, .int x_a0_total, .ref r_a0_rows, .ref r_a0_from, .int x_a0_rowCount, .ref r_a0_chosen, .int x_a0_chosenCount, .ref r_a0_seen, .ref r_a0_prefix, .int x_a0_seenTables, .int x_a0_seenBytes, .int x_a0_limit, .int x_a0_count])), (q_a0_order, .inl (g_K C 0, 2250, .inl v6.1)), (q_a0_told, .inl (g_K C 0, 2250, .inl f_a0_told)), (q_a0_merged, .inl (g_K C 0, 2250, .inl v6.2)), (q_a0_last, .inl (g_K C 0, 2250, .inl (upd s7.2.1 s7.1.toNatClampNeg (f_a0_told ((((v6.1 s7.1.toNatClampNeg) + x_a0_tells) - (1 : Int32)) - (((v6.1 s7.1.toNatClampNeg) + x_a0_tells) - (1 : Int32)) / x_a0_tells * x_a0_tells).toNatClampNeg))))] rfl d_Model_rotate_174 ?_
            refine g_aload_n 175 hC (j := 0) (hj := rfl) (hd := d_Model_rotate_175) ?_
            refine g_get 176 hC i_Model rfl 0 rfl 8 (by decide) k1237 rfl d_Model_rotate_176 ?_
            refine g_iload_n 179 hC (j := 1) (hj := rfl) (hd := d_Model_rotate_179) ?_
            obtain ⟨e16, hf⟩ := gd_some hf
            refine g_iald 180 hC 1 rfl e16 d_Model_rotate_180 ?_
            refine g_if_ne 181 hC 189 (by decide) d_Model_rotate_181 (fun c17 => ?_) (fun c17 => ?_)
            · have hf := it_f c17 hf
              exact J189 (upd s7.2.1 s7.1.toNatClampNeg (f_a0_told ((((v6.1 s7.1.toNatClampNeg) + x_a0_tells) - (1 : Int32)) - (((v6.1 s7.1.toNatClampNeg) + x_a0_tells) - (1 : Int32)) / x_a0_tells * x_a0_tells).toNatClampNeg)) s7.2.2 hf
            · have hf := it_t c17 hf
              refine g_aload_n 184 hC (j := 0) (hj := rfl) (hd := d_Model_rotate_184) ?_
              refine g_iload_n 185 hC (j := 1) (hj := rfl) (hd := d_Model_rotate_185) ?_
              refine g_put 186 hC i_Model rfl 0 rfl 24 (by decide) t_Model tk_Model n_Model k1253 rfl rfl rfl (Nat.le_of_ble_eq_true rfl) [(q_a0, .inr (12, [.ref r_a0_tape, .int x_a0_fed, .ref r_a0_out, .int x_a0_size, .int x_a0_thrown, .int x_a0_place, .ref q_a0_told, .int x_a0_tells, .ref q_a0_order, .ref q_a0_merged, .ref q_a0_last, .ref r_a0_up, .ref r_a0_symbols, .int x_a0_many, .ref r_a0_list, .int x_a0_listed, .ref r_a0_tables, .int x_a0_groups, .int x_a0_tableCount, .ref r_a0_lengths, .ref r_a0_codes, .ref r_a0_weights, .ref r_a0_parents, .ref r_a0_counts, .int s7.1, .int x_a0_check, .int x_a0_blocks, .int x_a0_fresh, .int x_a0_allTells, .int x_a0_allSymbols, .int x_a0_allGroups, .int x_a0_bit, .int x_a0_checkOfAll, .int x_a0_fault, .int x_a0_total, .ref r_a0_rows, .ref r_a0_from, .int x_a0_rowCount, .ref r_a0_chosen, .int x_a0_chosenCount, .ref r_a0_seen, .ref r_a0_prefix, .int x_a0_seenTables, .int x_a0_seenBytes, .int x_a0_limit, .int x_a0_count])), (q_a0_order, .inl (g_K C 0, 2250, .inl v6.1)), (q_a0_told, .inl (g_K C 0, 2250, .inl f_a0_told)), (q_a0_merged, .inl (g_K C 0, 2250, .inl v6.2)), (q_a0_last, .inl (g_K C 0, 2250, .inl (upd s7.2.1 s7.1.toNatClampNeg (f_a0_told ((((v6.1 s7.1.toNatClampNeg) + x_a0_tells) - (1 : Int32)) - (((v6.1 s7.1.toNatClampNeg) + x_a0_tells) - (1 : Int32)) / x_a0_tells * x_a0_tells).toNatClampNeg))))] rfl d_Model_rotate_186 ?_
              exact J189 (upd s7.2.1 s7.1.toNatClampNeg (f_a0_told ((((v6.1 s7.1.toNatClampNeg) + x_a0_tells) - (1 : Int32)) - (((v6.1 s7.1.toNatClampNeg) + x_a0_tells) - (1 : Int32)) / x_a0_tells * x_a0_tells).toNatClampNeg)) s7.1 hf) gas
      exact g_re [0, 1, 2, 3, 4] [1, 0] rfl rfl rfl (Gu8 ((0 : Int32), f_a0_last, x_a0_origin) hu8)
    have Gu5 := lp_ind (b := (Model_rotate_L25 x_a0_tells f_a0_told)) (G := fun (s4 : (Int32 × (Nat → Int32) × (Nat → Int32))) => gAt C 0 0 [(q_a0, .inr (12, [.ref r_a0_tape, .int x_a0_fed, .ref r_a0_out, .int x_a0_size, .int x_a0_thrown, .int x_a0_place, .ref q_a0_told, .int x_a0_tells, .ref q_a0_order, .ref q_a0_merged, .ref q_a0_last, .ref r_a0_up, .ref r_a0_symbols, .int x_a0_many, .ref r_a0_list, .int x_a0_listed, .ref r_a0_tables, .int x_a0_groups, .int x_a0_tableCount, .ref r_a0_lengths, .ref r_a0_codes, .ref r_a0_weights, .ref r_a0_parents, .ref r_a0_counts, .int x_a0_origin, .int x_a0_check, .int x_a0_blocks, .int x_a0_fresh, .int x_a0_allTells, .int x_a0_allSymbols, .int x_a0_allGroups, .int x_a0_bit, .int x_a0_checkOfAll, .int x_a0_fault, .int x_a0_total, .ref r_a0_rows, .ref r_a0_from, .int x_a0_rowCount, .ref r_a0_chosen, .int x_a0_chosenCount, .ref r_a0_seen, .ref r_a0_prefix, .int x_a0_seenTables, .int x_a0_seenBytes, .int x_a0_limit, .int x_a0_count])), (q_a0_order, .inl (g_K C 0, 2250, .inl s4.2.1)), (q_a0_told, .inl (g_K C 0, 2250, .inl f_a0_told)), (q_a0_merged, .inl (g_K C 0, 2250, .inl s4.2.2)), (q_a0_last, .inl (g_K C 0, 2250, .inl f_a0_last))] [(0, .ref q_a0), (1, .int s4.1)] 25 []) (o := u5) (by
        intro s4 u18 hf hI hX
        unfold Model_rotate_L25 at hf
        refine g_iload_n 25 hC (j := 1) (hj := rfl) (hd := d_Model_rotate_25) ?_
        refine g_aload_n 26 hC (j := 0) (hj := rfl) (hd := d_Model_rotate_26) ?_
        refine g_get 27 hC i_Model rfl 0 rfl 7 (by decide) k1236 rfl d_Model_rotate_27 ?_
        refine g_icmp_ge 30 hC 136 (by decide) d_Model_rotate_30 (fun c19 => ?_) (fun c19 => ?_)
        · have hf := it_t c19 hf
          exact g_re [0, 1, 2, 3, 4] [0] rfl rfl rfl (Xu5_0 (s4.2.1, s4.2.2) (hX (s4.2.1, s4.2.2) hf))
        · have hf := it_f c19 hf
          refine g_iconst 33 hC (0 : Int32) (by decide) d_Model_rotate_33 ?_
          refine g_istore_n 34 hC (lv2 := [(2, .int (0 : Int32)), (0, .ref q_a0), (1, .int s4.1)]) (hn := (by decide)) (hl2 := rfl) (hd := d_Model_rotate_34) ?_
          obtain ⟨u21, hu21, hf⟩ := bd_some hf
          have Xu21_0 : ∀ (v22 : (Nat → Int32)), v22 = u21 → gAt C 0 0 [(q_a0, .inr (12, [.ref r_a0_tape, .int x_a0_fed, .ref r_a0_out, .int x_a0_size, .int x_a0_thrown, .int x_a0_place, .ref q_a0_told, .int x_a0_tells, .ref q_a0_order, .ref q_a0_merged, .ref q_a0_last, .ref r_a0_up, .ref r_a0_symbols, .int x_a0_many, .ref r_a0_list, .int x_a0_listed, .ref r_a0_tables, .int x_a0_groups, .int x_a0_tableCount, .ref r_a0_lengths, .ref r_a0_codes, .ref r_a0_weights, .ref r_a0_parents, .ref r_a0_counts, .int x_a0_origin, .int x_a0_check, .int x_a0_blocks, .int x_a0_fresh, .int x_a0_allTells, .int x_a0_allSymbols, .int x_a0_allGroups, .int x_a0_bit, .int x_a0_checkOfAll, .int x_a0_fault, .int x_a0_total, .ref r_a0_rows, .ref r_a0_from, .int x_a0_rowCount, .ref r_a0_chosen, .int x_a0_chosenCount, .ref r_a0_seen, .ref r_a0_prefix, .int x_a0_seenTables, .int x_a0_seenBytes, .int x_a0_limit, .int x_a0_count])), (q_a0_order, .inl (g_K C 0, 2250, .inl s4.2.1)), (q_a0_told, .inl (g_K C 0, 2250, .inl f_a0_told)), (q_a0_merged, .inl (g_K C 0, 2250, .inl v22)), (q_a0_last, .inl (g_K C 0, 2250, .inl f_a0_last))] [(0, .ref q_a0), (1, .int s4.1)] 101 [] := by
            intro v22 hv
            rw [← hv] at hf
            refine g_iconst 101 hC (0 : Int32) (by decide) d_Model_rotate_101 ?_
            refine g_istore_n 102 hC (lv2 := [(2, .int (0 : Int32)), (0, .ref q_a0), (1, .int s4.1)]) (hn := (by decide)) (hl2 := rfl) (hd := d_Model_rotate_102) ?_
            obtain ⟨u24, hu24, hf⟩ := bd_some hf
            have Xu24_0 : ∀ (v25 : (Nat → Int32)), v25 = u24 → gAt C 0 0 [(q_a0, .inr (12, [.ref r_a0_tape, .int x_a0_fed, .ref r_a0_out, .int x_a0_size, .int x_a0_thrown, .int x_a0_place, .ref q_a0_told, .int x_a0_tells, .ref q_a0_order, .ref q_a0_merged, .ref q_a0_last, .ref r_a0_up, .ref r_a0_symbols, .int x_a0_many, .ref r_a0_list, .int x_a0_listed, .ref r_a0_tables, .int x_a0_groups, .int x_a0_tableCount, .ref r_a0_lengths, .ref r_a0_codes, .ref r_a0_weights, .ref r_a0_parents, .ref r_a0_counts, .int x_a0_origin, .int x_a0_check, .int x_a0_blocks, .int x_a0_fresh, .int x_a0_allTells, .int x_a0_allSymbols, .int x_a0_allGroups, .int x_a0_bit, .int x_a0_checkOfAll, .int x_a0_fault, .int x_a0_total, .ref r_a0_rows, .ref r_a0_from, .int x_a0_rowCount, .ref r_a0_chosen, .int x_a0_chosenCount, .ref r_a0_seen, .ref r_a0_prefix, .int x_a0_seenTables, .int x_a0_seenBytes, .int x_a0_limit, .int x_a0_count])), (q_a0_order, .inl (g_K C 0, 2250, .inl v25)), (q_a0_told, .inl (g_K C 0, 2250, .inl f_a0_told)), (q_a0_merged, .inl (g_K C 0, 2250, .inl v22)), (q_a0_last, .inl (g_K C 0, 2250, .inl f_a0_last))] [(0, .ref q_a0), (1, .int s4.1)] 129 [] := by
              intro v25 hv
              rw [← hv] at hf
              refine g_iload_n 129 hC (j := 1) (hj := rfl) (hd := d_Model_rotate_129) ?_
              refine g_iconst 130 hC (2 : Int32) (by decide) d_Model_rotate_130 ?_
              refine g_imul 131 hC d_Model_rotate_131 ?_
              refine g_istore_n 132 hC (lv2 := [(1, .int (s4.1 * (2 : Int32))), (0, .ref q_a0)]) (hn := (by decide)) (hl2 := rfl) (hd := d_Model_rotate_132) ?_
              refine g_goto 133 hC 25 (by decide) d_Model_rotate_133 ?_
              exact g_re [0, 1, 2, 3, 4] [1, 0] rfl rfl rfl (hI ((s4.1 * (2 : Int32)), v25, v22) hf)
            have Gu24 := lp_ind (b := (Model_rotate_L103 x_a0_tells v22)) (G := fun (s23 : (Int32 × (Nat → Int32))) => gAt C 0 0 [(q_a0, .inr (12, [.ref r_a0_tape, .int x_a0_fed, .ref r_a0_out, .int x_a0_size, .int x_a0_thrown, .int x_a0_place, .ref q_a0_told, .int x_a0_tells, .ref q_a0_order, .ref q_a0_merged, .ref q_a0_last, .ref r_a0_up, .ref r_a0_symbols, .int x_a0_many, .ref r_a0_list, .int x_a0_listed, .ref r_a0_tables, .int x_a0_groups, .int x_a0_tableCount, .ref r_a0_lengths, .ref r_a0_codes, .ref r_a0_weights, .ref r_a0_parents, .ref r_a0_counts, .int x_a0_origin, .int x_a0_check, .int x_a0_blocks, .int x_a0_fresh, .int x_a0_allTells, .int x_a0_allSymbols, .int x_a0_allGroups, .int x_a0_bit, .int x_a0_checkOfAll, .int x_a0_fault, .int x_a0_total, .ref r_a0_rows, .ref r_a0_from, .int x_a0_rowCount, .ref r_a0_chosen, .int x_a0_chosenCount, .ref r_a0_seen, .ref r_a0_prefix, .int x_a0_seenTables, .int x_a0_seenBytes, .int x_a0_limit, .int x_a0_count])), (q_a0_order, .inl (g_K C 0, 2250, .inl s23.2)), (q_a0_told, .inl (g_K C 0, 2250, .inl f_a0_told)), (q_a0_merged, .inl (g_K C 0, 2250, .inl v22)), (q_a0_last, .inl (g_K C 0, 2250, .inl f_a0_last))] [(0, .ref q_a0), (1, .int s4.1), (2, .int s23.1)] 103 []) (o := u24) (by
                intro s23 u26 hf hI hX
                unfold Model_rotate_L103 at hf
                refine g_iload_n 103 hC (j := 2) (hj := rfl) (hd := d_Model_rotate_103) ?_
                refine g_aload_n 104 hC (j := 0) (hj := rfl) (hd := d_Model_rotate_104) ?_
                refine g_get 105 hC i_Model rfl 0 rfl 7 (by decide) k1236 rfl d_Model_rotate_105 ?_
                refine g_icmp_ge 108 hC 129 (by decide) d_Model_rotate_108 (fun c27 => ?_) (fun c27 => ?_)
                · have hf := it_t c27 hf
                  exact g_re [0, 1, 2, 3, 4] [0, 1] rfl rfl rfl (Xu24_0 s23.2 (hX s23.2 hf))
                · have hf := it_f c27 hf
                  refine g_aload_n 111 hC (j := 0) (hj := rfl) (hd := d_Model_rotate_111) ?_
                  refine g_get 112 hC i_Model rfl 0 rfl 8 (by decide) k1237 rfl d_Model_rotate_112 ?_
                  refine g_iload_n 115 hC (j := 2) (hj := rfl) (hd := d_Model_rotate_115) ?_
                  refine g_aload_n 116 hC (j := 0) (hj := rfl) (hd := d_Model_rotate_116) ?_
                  refine g_get 117 hC i_Model rfl 0 rfl 9 (by decide) k1238 rfl d_Model_rotate_117 ?_
                  refine g_iload_n 120 hC (j := 2) (hj := rfl) (hd := d_Model_rotate_120) ?_
                  obtain ⟨e28, hf⟩ := gd_some hf
                  refine g_iald 121 hC 3 rfl e28 d_Model_rotate_121 ?_
                  obtain ⟨e29, hf⟩ := gd_some hf
                  refine g_iast 122 hC 1 rfl e29 [(q_a0, .inr (12, [.ref r_a0_tape, .int x_a0_fed, .ref r_a0_out, .int x_a0_size, .int x_a0_thrown, .int x_a0_place, .ref q_a0_told, .int x_a0_tells, .ref q_a0_order, .ref q_a0_merged, .ref q_a0_last, .ref r_a0_up, .ref r_a0_symbols, .int x_a0_many, .ref r_a0_list, .int x_a0_listed, .ref r_a0_tables, .int x_a0_groups, .int x_a0_tableCount, .ref r_a0_lengths, .ref r_a0_codes, .ref r_a0_weights, .ref r_a0_parents, .ref r_a0_counts, .int x_a0_origin, .int x_a0_check, .int x_a0_blocks, .int x_a0_fresh, .int x_a0_allTells, .int x_a0_allSymbols, .int x_a0_allGroups, .int x_a0_bit, .int x_a0_checkOfAll, .int x_a0_fault, .int x_a0_total, .ref r_a0_rows, .ref r_a0_from, .int x_a0_rowCount, .ref r_a0_chosen, .int x_a0_chosenCount, .ref r_a0_seen, .ref r_a0_prefix, .int x_a0_seenTables, .int x_a0_seenBytes, .int x_a0_limit, .int x_a0_count])), (q_a0_order, .inl (g_K C 0, 2250, .inl (upd s23.2 s23.1.toNatClampNeg (v22 s23.1.toNatClampNeg)))), (q_a0_told, .inl (g_K C 0, 2250, .inl f_a0_told)), (q_a0_merged, .inl (g_K C 0, 2250, .inl v22)), (q_a0_last, .inl (g_K C 0, 2250, .inl f_a0_last))] rfl d_Model_rotate_122 ?_
                  refine g_iinc 123 hC 2 (1 : Int32) [(2, .int (s23.1 + (1 : Int32))), (0, .ref q_a0), (1, .int s4.1)] rfl (by decide) (by decide) rfl d_Model_rotate_123 ?_
                  refine g_goto 126 hC 103 (by decide) d_Model_rotate_126 ?_
                  exact g_re [0, 1, 2, 3, 4] [1, 2, 0] rfl rfl rfl (hI ((s23.1 + (1 : Int32)), (upd s23.2 s23.1.toNatClampNeg (v22 s23.1.toNatClampNeg))) hf)) gas
            exact g_re [0, 1, 2, 3, 4] [1, 2, 0] rfl rfl rfl (Gu24 ((0 : Int32), s4.2.1) hu24)
          have Gu21 := lp_ind (b := (Model_rotate_L35 x_a0_tells s4 f_a0_told)) (G := fun (s20 : (Int32 × (Nat → Int32))) => gAt C 0 0 [(q_a0, .inr (12, [.ref r_a0_tape, .int x_a0_fed, .ref r_a0_out, .int x_a0_size, .int x_a0_thrown, .int x_a0_place, .ref q_a0_told, .int x_a0_tells, .ref q_a0_order, .ref q_a0_merged, .ref q_a0_last, .ref r_a0_up, .ref r_a0_symbols, .int x_a0_many, .ref r_a0_list, .int x_a0_listed, .ref r_a0_tables, .int x_a0_groups, .int x_a0_tableCount, .ref r_a0_lengths, .ref r_a0_codes, .ref r_a0_weights, .ref r_a0_parents, .ref r_a0_counts, .int x_a0_origin, .int x_a0_check, .int x_a0_blocks, .int x_a0_fresh, .int x_a0_allTells, .int x_a0_allSymbols, .int x_a0_allGroups, .int x_a0_bit, .int x_a0_checkOfAll, .int x_a0_fault, .int x_a0_total, .ref r_a0_rows, .ref r_a0_from, .int x_a0_rowCount, .ref r_a0_chosen, .int x_a0_chosenCount, .ref r_a0_seen, .ref r_a0_prefix, .int x_a0_seenTables, .int x_a0_seenBytes, .int x_a0_limit, .int x_a0_count])), (q_a0_order, .inl (g_K C 0, 2250, .inl s4.2.1)), (q_a0_told, .inl (g_K C 0, 2250, .inl f_a0_told)), (q_a0_merged, .inl (g_K C 0, 2250, .inl s20.2)), (q_a0_last, .inl (g_K C 0, 2250, .inl f_a0_last))] [(0, .ref q_a0), (1, .int s4.1), (2, .int s20.1)] 35 []) (o := u21) (by
              intro s20 u30 hf hI hX
              unfold Model_rotate_L35 at hf
              have J89 : ∀ (j89_0 : Int32) (j89_1 : Int32) (j89_2 : Int32), Model_rotate_J89 s4 x_a0_tells f_a0_told s20 j89_0 j89_1 j89_2 = some u30 → gAt C 0 0 [(q_a0, .inr (12, [.ref r_a0_tape, .int x_a0_fed, .ref r_a0_out, .int x_a0_size, .int x_a0_thrown, .int x_a0_place, .ref q_a0_told, .int x_a0_tells, .ref q_a0_order, .ref q_a0_merged, .ref q_a0_last, .ref r_a0_up, .ref r_a0_symbols, .int x_a0_many, .ref r_a0_list, .int x_a0_listed, .ref r_a0_tables, .int x_a0_groups, .int x_a0_tableCount, .ref r_a0_lengths, .ref r_a0_codes, .ref r_a0_weights, .ref r_a0_parents, .ref r_a0_counts, .int x_a0_origin, .int x_a0_check, .int x_a0_blocks, .int x_a0_fresh, .int x_a0_allTells, .int x_a0_allSymbols, .int x_a0_allGroups, .int x_a0_bit, .int x_a0_checkOfAll, .int x_a0_fault, .int x_a0_total, .ref r_a0_rows, .ref r_a0_from, .int x_a0_rowCount, .ref r_a0_chosen, .int x_a0_chosenCount, .ref r_a0_seen, .ref r_a0_prefix, .int x_a0_seenTables, .int x_a0_seenBytes, .int x_a0_limit, .int x_a0_count])), (q_a0_order, .inl (g_K C 0, 2250, .inl s4.2.1)), (q_a0_told, .inl (g_K C 0, 2250, .inl f_a0_told)), (q_a0_merged, .inl (g_K C 0, 2250, .inl s20.2)), (q_a0_last, .inl (g_K C 0, 2250, .inl f_a0_last))] [(0, .ref q_a0), (1, .int s4.1), (2, .int s20.1)] 89 [.int j89_0, .int j89_1, .int j89_2, .ref q_a0] := by
                intro j89_0 j89_1 j89_2 hf
                unfold Model_rotate_J89 at hf
                obtain ⟨u31, hu31, hf⟩ := bd_some hf
                refine g_callVv 89 hC (c_Model_merge (g_l C) (g_D C) (g_K C) q_a0 r_a0_tape x_a0_fed r_a0_out x_a0_size x_a0_thrown x_a0_place q_a0_told x_a0_tells q_a0_order q_a0_merged q_a0_last r_a0_up r_a0_symbols x_a0_many r_a0_list x_a0_listed r_a0_tables x_a0_groups x_a0_tableCount r_a0_lengths r_a0_codes r_a0_weights r_a0_parents r_a0_counts x_a0_origin x_a0_check x_a0_blocks x_a0_fresh x_a0_allTells x_a0_allSymbols x_a0_allGroups x_a0_bit x_a0_checkOfAll x_a0_fault x_a0_total r_a0_rows r_a0_from x_a0_rowCount r_a0_chosen x_a0_chosenCount r_a0_seen r_a0_prefix x_a0_seenTables x_a0_seenBytes x_a0_limit x_a0_count s4.2.1 f_a0_told s20.2 j89_2 j89_1 j89_0 u31 hu31) k1415 k14 k1412 k1414 ks42 3 rfl (by decide +kernel) (by decide) [0, 1, 2, 3] [4] [(q_a0_last, .inl (g_K C 0, 2250, .inl f_a0_last))] rfl rfl rfl rfl rfl 0 12 rfl rfl rfl rfl (Nat.le_of_ble_eq_true rfl) ⟨Nat.le_of_ble_eq_true rfl, Nat.le_of_ble_eq_true rfl⟩ (fun (_ : Unit) => [(q_a0_last, .inl (g_K C 0, 2250, .inl f_a0_last)), (q_a0, .inr (12, [.ref r_a0_tape, .int x_a0_fed, .ref r_a0_out, .int x_a0_size, .int x_a0_thrown, .int x_a0_place, .ref q_a0_told, .int x_a0_tells, .ref q_a0_order, .ref q_a0_merged, .ref q_a0_last, .ref r_a0_up, .ref r_a0_symbols, .int x_a0_many, .ref r_a0_list, .int x_a0_listed, .ref r_a0_tables, .int x_a0_groups, .int x_a0_tableCount, .ref r_a0_lengths, .ref r_a0_codes, .ref r_a0_weights, .ref r_a0_parents, .ref r_a0_counts, .int x_a0_origin, .int x_a0_check, .int x_a0_blocks, .int x_a0_fresh, .int x_a0_allTells, .int x_a0_allSymbols, .int x_a0_allGroups, .int x_a0_bit, .int x_a0_checkOfAll, .int x_a0_fault, .int x_a0_total, .ref r_a0_rows, .ref r_a0_from, .int x_a0_rowCount, .ref r_a0_chosen, .int x_a0_chosenCount, .ref r_a0_seen, .ref r_a0_prefix, .int x_a0_seenTables, .int x_a0_seenBytes, .int x_a0_limit, .int x_a0_count])), (q_a0_order, .inl (g_K C 0, 2250, .inl s4.2.1)), (q_a0_told, .inl (g_K C 0, 2250, .inl f_a0_told)), (q_a0_merged, .inl (g_K C 0, 2250, .inl u31))]) (fun _ => rfl) d_Model_rotate_89 0 0 rfl rfl (fun _ => ?_)
                refine g_iload_n 92 hC (j := 2) (hj := rfl) (hd := d_Model_rotate_92) ?_
                refine g_iconst 93 hC (2 : Int32) (by decide) d_Model_rotate_93 ?_
                refine g_iload_n 94 hC (j := 1) (hj := rfl) (hd := d_Model_rotate_94) ?_
                refine g_imul 95 hC d_Model_rotate_95 ?_
                refine g_iadd 96 hC d_Model_rotate_96 ?_
                refine g_istore_n 97 hC (lv2 := [(2, .int (s20.1 + ((2 : Int32) * s4.1))), (0, .ref q_a0), (1, .int s4.1)]) (hn := (by decide)) (hl2 := rfl) (hd := d_Model_rotate_97) ?_
                refine g_goto 98 hC 35 (by decide) d_Model_rotate_98 ?_
                exact g_re [1, 2, 3, 4, 0] [1, 2, 0] rfl rfl rfl (hI ((s20.1 + ((2 : Int32) * s4.1)), u31) hf)
              have J65 : ∀ (j65_0 : Int32) (j65_1 : Int32), Model_rotate_J65 x_a0_tells s20 s4 f_a0_told j65_0 j65_1 = some u30 → gAt C 0 0 [(q_a0, .inr (12, [.ref r_a0_tape, .int x_a0_fed, .ref r_a0_out, .int x_a0_size, .int x_a0_thrown, .int x_a0_place, .ref q_a0_told, .int x_a0_tells, .ref q_a0_order, .ref q_a0_merged, .ref q_a0_last, .ref r_a0_up, .ref r_a0_symbols, .int x_a0_many, .ref r_a0_list, .int x_a0_listed, .ref r_a0_tables, .int x_a0_groups, .int x_a0_tableCount, .ref r_a0_lengths, .ref r_a0_codes, .ref r_a0_weights, .ref r_a0_parents, .ref r_a0_counts, .int x_a0_origin, .int x_a0_check, .int x_a0_blocks, .int x_a0_fresh, .int x_a0_allTells, .int x_a0_allSymbols, .int x_a0_allGroups, .int x_a0_bit, .int x_a0_checkOfAll, .int x_a0_fault, .int x_a0_total, .ref r_a0_rows, .ref r_a0_from, .int x_a0_rowCount, .ref r_a0_chosen, .int x_a0_chosenCount, .ref r_a0_seen, .ref r_a0_prefix, .int x_a0_seenTables, .int x_a0_seenBytes, .int x_a0_limit, .int x_a0_count])), (q_a0_order, .inl (g_K C 0, 2250, .inl s4.2.1)), (q_a0_told, .inl (g_K C 0, 2250, .inl f_a0_told)), (q_a0_merged, .inl (g_K C 0, 2250, .inl s20.2)), (q_a0_last, .inl (g_K C 0, 2250, .inl f_a0_last))] [(0, .ref q_a0), (1, .int s4.1), (2, .int s20.1)] 65 [.int j65_0, .int j65_1, .ref q_a0] := by
                intro j65_0 j65_1 hf
                unfold Model_rotate_J65 at hf
                refine g_iload_n 65 hC (j := 2) (hj := rfl) (hd := d_Model_rotate_65) ?_
                refine g_iconst 66 hC (2 : Int32) (by decide) d_Model_rotate_66 ?_
                refine g_iload_n 67 hC (j := 1) (hj := rfl) (hd := d_Model_rotate_67) ?_
                refine g_imul 68 hC d_Model_rotate_68 ?_
                refine g_iadd 69 hC d_Model_rotate_69 ?_
                refine g_aload_n 70 hC (j := 0) (hj := rfl) (hd := d_Model_rotate_70) ?_
                refine g_get 71 hC i_Model rfl 0 rfl 7 (by decide) k1236 rfl d_Model_rotate_71 ?_
                refine g_icmp_ge 74 hC 85 (by decide) d_Model_rotate_74 (fun c32 => ?_) (fun c32 => ?_)
                · have hf := it_t c32 hf
                  refine g_aload_n 85 hC (j := 0) (hj := rfl) (hd := d_Model_rotate_85) ?_
                  refine g_get 86 hC i_Model rfl 0 rfl 7 (by decide) k1236 rfl d_Model_rotate_86 ?_
                  exact J89 x_a0_tells j65_0 j65_1 hf
                · have hf := it_f c32 hf
                  refine g_iload_n 77 hC (j := 2) (hj := rfl) (hd := d_Model_rotate_77) ?_
                  refine g_iconst 78 hC (2 : Int32) (by decide) d_Model_rotate_78 ?_
                  refine g_iload_n 79 hC (j := 1) (hj := rfl) (hd := d_Model_rotate_79) ?_
                  refine g_imul 80 hC d_Model_rotate_80 ?_
                  refine g_iadd 81 hC d_Model_rotate_81 ?_
                  refine g_goto 82 hC 89 (by decide) d_Model_rotate_82 ?_
                  exact J89 (s20.1 + ((2 : Int32) * s4.1)) j65_0 j65_1 hf
              refine g_iload_n 35 hC (j := 2) (hj := rfl) (hd := d_Model_rotate_35) ?_
              refine g_aload_n 36 hC (j := 0) (hj := rfl) (hd := d_Model_rotate_36) ?_
              refine g_get 37 hC i_Model rfl 0 rfl 7 (by decide) k1236 rfl d_Model_rotate_37 ?_
              refine g_icmp_ge 40 hC 101 (by decide) d_Model_rotate_40 (fun c33 => ?_) (fun c33 => ?_)
              · have hf := it_t c33 hf
                exact g_re [0, 1, 2, 3, 4] [0, 1] rfl rfl rfl (Xu21_0 s20.2 (hX s20.2 hf))
              · have hf := it_f c33 hf
                refine g_aload_n 43 hC (j := 0) (hj := rfl) (hd := d_Model_rotate_43) ?_
                refine g_iload_n 44 hC (j := 2) (hj := rfl) (hd := d_Model_rotate_44) ?_
                refine g_iload_n 45 hC (j := 2) (hj := rfl) (hd := d_Model_rotate_45) ?_
                refine g_iload_n 46 hC (j := 1) (hj := rfl) (hd := d_Model_rotate_46) ?_
                refine g_iadd 47 hC d_Model_rotate_47 ?_
                refine g_aload_n 48 hC (j := 0) (hj := rfl) (hd := d_Model_rotate_48) ?_
                refine g_get 49 hC i_Model rfl 0 rfl 7 (by decide) k1236 rfl d_Model_rotate_49 ?_
                refine g_icmp_ge 52 hC 61 (by decide) d_Model_rotate_52 (fun c34 => ?_) (fun c34 => ?_)
                · have hf := it_t c34 hf
                  refine g_aload_n 61 hC (j := 0) (hj := rfl) (hd := d_Model_rotate_61) ?_
                  refine g_get 62 hC i_Model rfl 0 rfl 7 (by decide) k1236 rfl d_Model_rotate_62 ?_
                  exact J65 x_a0_tells s20.1 hf
                · have hf := it_f c34 hf
                  refine g_iload_n 55 hC (j := 2) (hj := rfl) (hd := d_Model_rotate_55) ?_
                  refine g_iload_n 56 hC (j := 1) (hj := rfl) (hd := d_Model_rotate_56) ?_
                  refine g_iadd 57 hC d_Model_rotate_57 ?_
                  refine g_goto 58 hC 65 (by decide) d_Model_rotate_58 ?_
                  exact J65 (s20.1 + s4.1) s20.1 hf) gas
          exact g_re [0, 1, 2, 3, 4] [1, 2, 0] rfl rfl rfl (Gu21 ((0 : Int32), s4.2.2) hu21)) gas
    exact g_re [0, 1, 2, 3, 4] [1, 0] rfl rfl rfl (Gu5 ((1 : Int32), v3, f_a0_merged) hu5)
  have Gu2 := lp_ind (b := (Model_rotate_L2 x_a0_tells)) (G := fun (s1 : (Int32 × (Nat → Int32))) => gAt C 0 0 [(q_a0, .inr (12, [.ref r_a0_tape, .int x_a0_fed, .ref r_a0_out, .int x_a0_size, .int x_a0_thrown, .int x_a0_place, .ref q_a0_told, .int x_a0_tells, .ref q_a0_order, .ref q_a0_merged, .ref q_a0_last, .ref r_a0_up, .ref r_a0_symbols, .int x_a0_many, .ref r_a0_list, .int x_a0_listed, .ref r_a0_tables, .int x_a0_groups, .int x_a0_tableCount, .ref r_a0_lengths, .ref r_a0_codes, .ref r_a0_weights, .ref r_a0_parents, .ref r_a0_counts, .int x_a0_origin, .int x_a0_check, .int x_a0_blocks, .int x_a0_fresh, .int x_a0_allTells, .int x_a0_allSymbols, .int x_a0_allGroups, .int x_a0_bit, .int x_a0_checkOfAll, .int x_a0_fault, .int x_a0_total, .ref r_a0_rows, .ref r_a0_from, .int x_a0_rowCount, .ref r_a0_chosen, .int x_a0_chosenCount, .ref r_a0_seen, .ref r_a0_prefix, .int x_a0_seenTables, .int x_a0_seenBytes, .int x_a0_limit, .int x_a0_count])), (q_a0_order, .inl (g_K C 0, 2250, .inl s1.2)), (q_a0_told, .inl (g_K C 0, 2250, .inl f_a0_told)), (q_a0_merged, .inl (g_K C 0, 2250, .inl f_a0_merged)), (q_a0_last, .inl (g_K C 0, 2250, .inl f_a0_last))] [(0, .ref q_a0), (1, .int s1.1)] 2 []) (o := u2) (by
      intro s1 u35 hf hI hX
      unfold Model_rotate_L2 at hf
      refine g_iload_n 2 hC (j := 1) (hj := rfl) (hd := d_Model_rotate_2) ?_
      refine g_aload_n 3 hC (j := 0) (hj := rfl) (hd := d_Model_rotate_3) ?_
      refine g_get 4 hC i_Model rfl 0 rfl 7 (by decide) k1236 rfl d_Model_rotate_4 ?_
      refine g_icmp_ge 7 hC 23 (by decide) d_Model_rotate_7 (fun c36 => ?_) (fun c36 => ?_)
      · have hf := it_t c36 hf
        exact g_re [0, 1, 2, 3, 4] [0] rfl rfl rfl (Xu2_0 s1.2 (hX s1.2 hf))
      · have hf := it_f c36 hf
        refine g_aload_n 10 hC (j := 0) (hj := rfl) (hd := d_Model_rotate_10) ?_
        refine g_get 11 hC i_Model rfl 0 rfl 8 (by decide) k1237 rfl d_Model_rotate_11 ?_
        refine g_iload_n 14 hC (j := 1) (hj := rfl) (hd := d_Model_rotate_14) ?_
        refine g_iload_n 15 hC (j := 1) (hj := rfl) (hd := d_Model_rotate_15) ?_
        obtain ⟨e37, hf⟩ := gd_some hf
        refine g_iast 16 hC 1 rfl e37 [(q_a0, .inr (12, [.ref r_a0_tape, .int x_a0_fed, .ref r_a0_out, .int x_a0_size, .int x_a0_thrown, .int x_a0_place, .ref q_a0_told, .int x_a0_tells, .ref q_a0_order, .ref q_a0_merged, .ref q_a0_last, .ref r_a0_up, .ref r_a0_symbols, .int x_a0_many, .ref r_a0_list, .int x_a0_listed, .ref r_a0_tables, .int x_a0_groups, .int x_a0_tableCount, .ref r_a0_lengths, .ref r_a0_codes, .ref r_a0_weights, .ref r_a0_parents, .ref r_a0_counts, .int x_a0_origin, .int x_a0_check, .int x_a0_blocks, .int x_a0_fresh, .int x_a0_allTells, .int x_a0_allSymbols, .int x_a0_allGroups, .int x_a0_bit, .int x_a0_checkOfAll, .int x_a0_fault, .int x_a0_total, .ref r_a0_rows, .ref r_a0_from, .int x_a0_rowCount, .ref r_a0_chosen, .int x_a0_chosenCount, .ref r_a0_seen, .ref r_a0_prefix, .int x_a0_seenTables, .int x_a0_seenBytes, .int x_a0_limit, .int x_a0_count])), (q_a0_order, .inl (g_K C 0, 2250, .inl (upd s1.2 s1.1.toNatClampNeg s1.1))), (q_a0_told, .inl (g_K C 0, 2250, .inl f_a0_told)), (q_a0_merged, .inl (g_K C 0, 2250, .inl f_a0_merged)), (q_a0_last, .inl (g_K C 0, 2250, .inl f_a0_last))] rfl d_Model_rotate_16 ?_
        refine g_iinc 17 hC 1 (1 : Int32) [(1, .int (s1.1 + (1 : Int32))), (0, .ref q_a0)] rfl (by decide) (by decide) rfl d_Model_rotate_17 ?_
        refine g_goto 20 hC 2 (by decide) d_Model_rotate_20 ?_
        exact g_re [0, 1, 2, 3, 4] [1, 0] rfl rfl rfl (hI ((s1.1 + (1 : Int32)), (upd s1.2 s1.1.toNatClampNeg s1.1)) hf)) gas
  exact g_re [0, 1, 2, 3, 4] [1, 0] rfl rfl rfl (Gu2 ((0 : Int32), f_a0_order) hu2)
theorem c_Model_rotate (l : Launch) (D : va_G) (K : Nat → ClassId) (q_a0 : Nat) (r_a0_tape : Nat) (x_a0_fed : Int32) (r_a0_out : Nat) (x_a0_size : Int32) (x_a0_thrown : Int32) (x_a0_place : Int32) (q_a0_told : Nat) (x_a0_tells : Int32) (q_a0_order : Nat) (q_a0_merged : Nat) (q_a0_last : Nat) (r_a0_up : Nat) (r_a0_symbols : Nat) (x_a0_many : Int32) (r_a0_list : Nat) (x_a0_listed : Int32) (r_a0_tables : Nat) (x_a0_groups : Int32) (x_a0_tableCount : Int32) (r_a0_lengths : Nat) (r_a0_codes : Nat) (r_a0_weights : Nat) (r_a0_parents : Nat) (r_a0_counts : Nat) (x_a0_origin : Int32) (x_a0_check : Int32) (x_a0_blocks : Int32) (x_a0_fresh : Int32) (x_a0_allTells : Int32) (x_a0_allSymbols : Int32) (x_a0_allGroups : Int32) (x_a0_bit : Int32) (x_a0_checkOfAll : Int32) (x_a0_fault : Int32) (x_a0_total : Int32) (r_a0_rows : Nat) (r_a0_from : Nat) (x_a0_rowCount : Int32) (r_a0_chosen : Nat) (x_a0_chosenCount : Int32) (r_a0_seen : Nat) (r_a0_prefix : Nat) (x_a0_seenTables : Int32) (x_a0_seenBytes : Int32) (x_a0_limit : Int32) (x_a0_count : Int32) (f_a0_order : (Nat → Int32)) (f_a0_told : (Nat → Int32)) (f_a0_merged : (Nat → Int32)) (f_a0_last : (Nat → Int32)) (out : ((Nat → Int32) × (Nat → Int32) × (Nat → Int32) × Int32)) (hf : Model_rotate_f x_a0_tells f_a0_order f_a0_told f_a0_merged f_a0_last x_a0_origin = some out) : Cv l D K y_Model_rotate (g_wd y_Model_rotate b_Model_rotate 3 none) { frames := 2, cells := 0, slots := 0, locals := 52 } [.ref q_a0] [(q_a0, .inr (12, [.ref r_a0_tape, .int x_a0_fed, .ref r_a0_out, .int x_a0_size, .int x_a0_thrown, .int x_a0_place, .ref q_a0_told, .int x_a0_tells, .ref q_a0_order, .ref q_a0_merged, .ref q_a0_last, .ref r_a0_up, .ref r_a0_symbols, .int x_a0_many, .ref r_a0_list, .int x_a0_listed, .ref r_a0_tables, .int x_a0_groups, .int x_a0_tableCount, .ref r_a0_lengths, .ref r_a0_codes, .ref r_a0_weights, .ref r_a0_parents, .ref r_a0_counts, .int x_a0_origin, .int x_a0_check, .int x_a0_blocks, .int x_a0_fresh, .int x_a0_allTells, .int x_a0_allSymbols, .int x_a0_allGroups, .int x_a0_bit, .int x_a0_checkOfAll, .int x_a0_fault, .int x_a0_total, .ref r_a0_rows, .ref r_a0_from, .int x_a0_rowCount, .ref r_a0_chosen, .int x_a0_chosenCount, .ref r_a0_seen, .ref r_a0_prefix, .int x_a0_seenTables, .int x_a0_seenBytes, .int x_a0_limit, .int x_a0_count])), (q_a0_order, .inl (K 0, 2250, .inl f_a0_order)), (q_a0_told, .inl (K 0, 2250, .inl f_a0_told)), (q_a0_merged, .inl (K 0, 2250, .inl f_a0_merged)), (q_a0_last, .inl (K 0, 2250, .inl f_a0_last))] (fun (x : Unit) => [(q_a0, .inr (12, [.ref r_a0_tape, .int x_a0_fed, .ref r_a0_out, .int x_a0_size, .int x_a0_thrown, .int x_a0_place, .ref q_a0_told, .int x_a0_tells, .ref q_a0_order, .ref q_a0_merged, .ref q_a0_last, .ref r_a0_up, .ref r_a0_symbols, .int x_a0_many, .ref r_a0_list, .int x_a0_listed, .ref r_a0_tables, .int x_a0_groups, .int x_a0_tableCount, .ref r_a0_lengths, .ref r_a0_codes, .ref r_a0_weights, .ref r_a0_parents, .ref r_a0_counts, .int out.2.2.2, .int x_a0_check, .int x_a0_blocks, .int x_a0_fresh, .int x_a0_allTells, .int x_a0_allSymbols, .int x_a0_allGroups, .int x_a0_bit, .int x_a0_checkOfAll, .int x_a0_fault, .int x_a0_total, .ref r_a0_rows, .ref r_a0_from, .int x_a0_rowCount, .ref r_a0_chosen, .int x_a0_chosenCount, .ref r_a0_seen, .ref r_a0_prefix, .int x_a0_seenTables, .int x_a0_seenBytes, .int x_a0_limit, .int x_a0_count])), (q_a0_order, .inl (K 0, 2250, .inl out.1)), (q_a0_told, .inl (K 0, 2250, .inl f_a0_told)), (q_a0_merged, .inl (K 0, 2250, .inl out.2.1)), (q_a0_last, .inl (K 0, 2250, .inl out.2.2.1))]) := mk_v (by decide) (Nat.le_of_ble_eq_true rfl) (fun p e s m below meth c A Q hC kr => m_Model_rotate hC q_a0 r_a0_tape x_a0_fed r_a0_out x_a0_size x_a0_thrown x_a0_place q_a0_told x_a0_tells q_a0_order q_a0_merged q_a0_last r_a0_up r_a0_symbols x_a0_many r_a0_list x_a0_listed r_a0_tables x_a0_groups x_a0_tableCount r_a0_lengths r_a0_codes r_a0_weights r_a0_parents r_a0_counts x_a0_origin x_a0_check x_a0_blocks x_a0_fresh x_a0_allTells x_a0_allSymbols x_a0_allGroups x_a0_bit x_a0_checkOfAll x_a0_fault x_a0_total r_a0_rows r_a0_from x_a0_rowCount r_a0_chosen x_a0_chosenCount r_a0_seen r_a0_prefix x_a0_seenTables x_a0_seenBytes x_a0_limit x_a0_count f_a0_order f_a0_told f_a0_merged f_a0_last out hf (fun x o9 pc lv ho => by subst ho; exact kr x pc lv))
