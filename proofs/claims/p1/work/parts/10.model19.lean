abbrev b_Model_piece : ByteArray := prog_14_method_29_code
def y_Model_piece : MethodName := ⟨R_Model, "piece", "(II)I"⟩
theorem d_Model_piece_0 : decode b_Model_piece 0 = .ok (.aload_n 0, 1) := by decide +kernel
theorem d_Model_piece_1 : decode b_Model_piece 1 = .ok (.iload_n 1, 1) := by decide +kernel
theorem d_Model_piece_2 : decode b_Model_piece 2 = .ok (.ifCond .lt 9, 3) := by decide +kernel
theorem d_Model_piece_5 : decode b_Model_piece 5 = .ok (.iload_n 1, 1) := by decide +kernel
theorem d_Model_piece_6 : decode b_Model_piece 6 = .ok (.bipush 10, 2) := by decide +kernel
theorem d_Model_piece_8 : decode b_Model_piece 8 = .ok (.if_icmp .le 7, 3) := by decide +kernel
theorem d_Model_piece_11 : decode b_Model_piece 11 = .ok (.iconst 1, 1) := by decide +kernel
theorem d_Model_piece_12 : decode b_Model_piece 12 = .ok (.goto 4, 3) := by decide +kernel
theorem d_Model_piece_15 : decode b_Model_piece 15 = .ok (.iconst 0, 1) := by decide +kernel
theorem d_Model_piece_16 : decode b_Model_piece 16 = .ok (.iconst 1, 1) := by decide +kernel
theorem d_Model_piece_17 : decode b_Model_piece 17 = .ok (.invokevirtual 82, 3) := by decide +kernel
theorem d_Model_piece_20 : decode b_Model_piece 20 = .ok (.ifCond .eq 5, 3) := by decide +kernel
theorem d_Model_piece_23 : decode b_Model_piece 23 = .ok (.iconst 0, 1) := by decide +kernel
theorem d_Model_piece_24 : decode b_Model_piece 24 = .ok (.ireturn, 1) := by decide +kernel
theorem d_Model_piece_25 : decode b_Model_piece 25 = .ok (.aload_n 0, 1) := by decide +kernel
theorem d_Model_piece_26 : decode b_Model_piece 26 = .ok (.getfield 177, 3) := by decide +kernel
theorem d_Model_piece_29 : decode b_Model_piece 29 = .ok (.ifCond .eq 14, 3) := by decide +kernel
theorem d_Model_piece_32 : decode b_Model_piece 32 = .ok (.aload_n 0, 1) := by decide +kernel
theorem d_Model_piece_33 : decode b_Model_piece 33 = .ok (.getfield 189, 3) := by decide +kernel
theorem d_Model_piece_36 : decode b_Model_piece 36 = .ok (.ifCond .eq 7, 3) := by decide +kernel
theorem d_Model_piece_39 : decode b_Model_piece 39 = .ok (.iload_n 2, 1) := by decide +kernel
theorem d_Model_piece_40 : decode b_Model_piece 40 = .ok (.ifCond .ge 5, 3) := by decide +kernel
theorem d_Model_piece_43 : decode b_Model_piece 43 = .ok (.iconst (-1), 1) := by decide +kernel
theorem d_Model_piece_44 : decode b_Model_piece 44 = .ok (.ireturn, 1) := by decide +kernel
theorem d_Model_piece_45 : decode b_Model_piece 45 = .ok (.iload_n 1, 1) := by decide +kernel
theorem d_Model_piece_46 : decode b_Model_piece 46 = .ok (.tableswitch 129 0 4 #[34, 53, 72, 91, 110], 34) := by decide +kernel
theorem d_Model_piece_80 : decode b_Model_piece 80 = .ok (.iload_n 2, 1) := by decide +kernel
theorem d_Model_piece_81 : decode b_Model_piece 81 = .ok (.aload_n 0, 1) := by decide +kernel
theorem d_Model_piece_82 : decode b_Model_piece 82 = .ok (.getfield 96, 3) := by decide +kernel
theorem d_Model_piece_85 : decode b_Model_piece 85 = .ok (.if_icmp .ge 12, 3) := by decide +kernel
theorem d_Model_piece_88 : decode b_Model_piece 88 = .ok (.aload_n 0, 1) := by decide +kernel
theorem d_Model_piece_89 : decode b_Model_piece 89 = .ok (.getfield 21, 3) := by decide +kernel
theorem d_Model_piece_92 : decode b_Model_piece 92 = .ok (.iload_n 2, 1) := by decide +kernel
theorem d_Model_piece_93 : decode b_Model_piece 93 = .ok (.iaload, 1) := by decide +kernel
theorem d_Model_piece_94 : decode b_Model_piece 94 = .ok (.goto 4, 3) := by decide +kernel
theorem d_Model_piece_97 : decode b_Model_piece 97 = .ok (.iconst (-1), 1) := by decide +kernel
theorem d_Model_piece_98 : decode b_Model_piece 98 = .ok (.ireturn, 1) := by decide +kernel
theorem d_Model_piece_99 : decode b_Model_piece 99 = .ok (.iload_n 2, 1) := by decide +kernel
theorem d_Model_piece_100 : decode b_Model_piece 100 = .ok (.aload_n 0, 1) := by decide +kernel
theorem d_Model_piece_101 : decode b_Model_piece 101 = .ok (.getfield 96, 3) := by decide +kernel
theorem d_Model_piece_104 : decode b_Model_piece 104 = .ok (.if_icmp .ge 12, 3) := by decide +kernel
theorem d_Model_piece_107 : decode b_Model_piece 107 = .ok (.aload_n 0, 1) := by decide +kernel
theorem d_Model_piece_108 : decode b_Model_piece 108 = .ok (.getfield 31, 3) := by decide +kernel
theorem d_Model_piece_111 : decode b_Model_piece 111 = .ok (.iload_n 2, 1) := by decide +kernel
theorem d_Model_piece_112 : decode b_Model_piece 112 = .ok (.iaload, 1) := by decide +kernel
theorem d_Model_piece_113 : decode b_Model_piece 113 = .ok (.goto 4, 3) := by decide +kernel
theorem d_Model_piece_116 : decode b_Model_piece 116 = .ok (.iconst (-1), 1) := by decide +kernel
theorem d_Model_piece_117 : decode b_Model_piece 117 = .ok (.ireturn, 1) := by decide +kernel
theorem d_Model_piece_118 : decode b_Model_piece 118 = .ok (.iload_n 2, 1) := by decide +kernel
theorem d_Model_piece_119 : decode b_Model_piece 119 = .ok (.aload_n 0, 1) := by decide +kernel
theorem d_Model_piece_120 : decode b_Model_piece 120 = .ok (.getfield 96, 3) := by decide +kernel
theorem d_Model_piece_123 : decode b_Model_piece 123 = .ok (.if_icmp .ge 12, 3) := by decide +kernel
theorem d_Model_piece_126 : decode b_Model_piece 126 = .ok (.aload_n 0, 1) := by decide +kernel
theorem d_Model_piece_127 : decode b_Model_piece 127 = .ok (.getfield 34, 3) := by decide +kernel
theorem d_Model_piece_130 : decode b_Model_piece 130 = .ok (.iload_n 2, 1) := by decide +kernel
theorem d_Model_piece_131 : decode b_Model_piece 131 = .ok (.iaload, 1) := by decide +kernel
theorem d_Model_piece_132 : decode b_Model_piece 132 = .ok (.goto 4, 3) := by decide +kernel
theorem d_Model_piece_135 : decode b_Model_piece 135 = .ok (.iconst (-1), 1) := by decide +kernel
theorem d_Model_piece_136 : decode b_Model_piece 136 = .ok (.ireturn, 1) := by decide +kernel
theorem d_Model_piece_137 : decode b_Model_piece 137 = .ok (.iload_n 2, 1) := by decide +kernel
theorem d_Model_piece_138 : decode b_Model_piece 138 = .ok (.aload_n 0, 1) := by decide +kernel
theorem d_Model_piece_139 : decode b_Model_piece 139 = .ok (.getfield 113, 3) := by decide +kernel
theorem d_Model_piece_142 : decode b_Model_piece 142 = .ok (.if_icmp .ge 12, 3) := by decide +kernel
theorem d_Model_piece_145 : decode b_Model_piece 145 = .ok (.aload_n 0, 1) := by decide +kernel
theorem d_Model_piece_146 : decode b_Model_piece 146 = .ok (.getfield 37, 3) := by decide +kernel
theorem d_Model_piece_149 : decode b_Model_piece 149 = .ok (.iload_n 2, 1) := by decide +kernel
theorem d_Model_piece_150 : decode b_Model_piece 150 = .ok (.iaload, 1) := by decide +kernel
theorem d_Model_piece_151 : decode b_Model_piece 151 = .ok (.goto 4, 3) := by decide +kernel
theorem d_Model_piece_154 : decode b_Model_piece 154 = .ok (.iconst (-1), 1) := by decide +kernel
theorem d_Model_piece_155 : decode b_Model_piece 155 = .ok (.ireturn, 1) := by decide +kernel
theorem d_Model_piece_156 : decode b_Model_piece 156 = .ok (.iload_n 2, 1) := by decide +kernel
theorem d_Model_piece_157 : decode b_Model_piece 157 = .ok (.aload_n 0, 1) := by decide +kernel
theorem d_Model_piece_158 : decode b_Model_piece 158 = .ok (.getfield 134, 3) := by decide +kernel
theorem d_Model_piece_161 : decode b_Model_piece 161 = .ok (.if_icmp .ge 12, 3) := by decide +kernel
theorem d_Model_piece_164 : decode b_Model_piece 164 = .ok (.aload_n 0, 1) := by decide +kernel
theorem d_Model_piece_165 : decode b_Model_piece 165 = .ok (.getfield 43, 3) := by decide +kernel
theorem d_Model_piece_168 : decode b_Model_piece 168 = .ok (.iload_n 2, 1) := by decide +kernel
theorem d_Model_piece_169 : decode b_Model_piece 169 = .ok (.iaload, 1) := by decide +kernel
theorem d_Model_piece_170 : decode b_Model_piece 170 = .ok (.goto 4, 3) := by decide +kernel
theorem d_Model_piece_173 : decode b_Model_piece 173 = .ok (.iconst (-1), 1) := by decide +kernel
theorem d_Model_piece_174 : decode b_Model_piece 174 = .ok (.ireturn, 1) := by decide +kernel
theorem d_Model_piece_175 : decode b_Model_piece 175 = .ok (.iload_n 1, 1) := by decide +kernel
theorem d_Model_piece_176 : decode b_Model_piece 176 = .ok (.iconst 5, 1) := by decide +kernel
theorem d_Model_piece_177 : decode b_Model_piece 177 = .ok (.isub, 1) := by decide +kernel
theorem d_Model_piece_178 : decode b_Model_piece 178 = .ok (.aload_n 0, 1) := by decide +kernel
theorem d_Model_piece_179 : decode b_Model_piece 179 = .ok (.getfield 137, 3) := by decide +kernel
theorem d_Model_piece_182 : decode b_Model_piece 182 = .ok (.if_icmp .ge 30, 3) := by decide +kernel
theorem d_Model_piece_185 : decode b_Model_piece 185 = .ok (.iload_n 2, 1) := by decide +kernel
theorem d_Model_piece_186 : decode b_Model_piece 186 = .ok (.aload_n 0, 1) := by decide +kernel
theorem d_Model_piece_187 : decode b_Model_piece 187 = .ok (.getfield 110, 3) := by decide +kernel
theorem d_Model_piece_190 : decode b_Model_piece 190 = .ok (.iconst 2, 1) := by decide +kernel
theorem d_Model_piece_191 : decode b_Model_piece 191 = .ok (.iadd, 1) := by decide +kernel
theorem d_Model_piece_192 : decode b_Model_piece 192 = .ok (.if_icmp .ge 20, 3) := by decide +kernel
theorem d_Model_piece_195 : decode b_Model_piece 195 = .ok (.aload_n 0, 1) := by decide +kernel
theorem d_Model_piece_196 : decode b_Model_piece 196 = .ok (.getfield 46, 3) := by decide +kernel
theorem d_Model_piece_199 : decode b_Model_piece 199 = .ok (.sipush 258, 3) := by decide +kernel
theorem d_Model_piece_202 : decode b_Model_piece 202 = .ok (.iload_n 1, 1) := by decide +kernel
theorem d_Model_piece_203 : decode b_Model_piece 203 = .ok (.iconst 5, 1) := by decide +kernel
theorem d_Model_piece_204 : decode b_Model_piece 204 = .ok (.isub, 1) := by decide +kernel
theorem d_Model_piece_205 : decode b_Model_piece 205 = .ok (.imul, 1) := by decide +kernel
theorem d_Model_piece_206 : decode b_Model_piece 206 = .ok (.iload_n 2, 1) := by decide +kernel
theorem d_Model_piece_207 : decode b_Model_piece 207 = .ok (.iadd, 1) := by decide +kernel
theorem d_Model_piece_208 : decode b_Model_piece 208 = .ok (.iaload, 1) := by decide +kernel
theorem d_Model_piece_209 : decode b_Model_piece 209 = .ok (.goto 4, 3) := by decide +kernel
theorem d_Model_piece_212 : decode b_Model_piece 212 = .ok (.iconst (-1), 1) := by decide +kernel
theorem d_Model_piece_213 : decode b_Model_piece 213 = .ok (.ireturn, 1) := by decide +kernel
set_option maxRecDepth 100000 in
set_option maxHeartbeats 4000000 in
theorem m_Model_piece {C : gT} (hC : gOk C b_Model_piece R_Model { frames := 1, cells := 0, slots := 0, locals := 22 } 3) (q_a0 : Nat) (r_a0_tape : Nat) (x_a0_fed : Int32) (r_a0_out : Nat) (x_a0_size : Int32) (x_a0_thrown : Int32) (x_a0_place : Int32) (q_a0_told : Nat) (x_a0_tells : Int32) (r_a0_order : Nat) (r_a0_merged : Nat) (q_a0_last : Nat) (q_a0_up : Nat) (q_a0_symbols : Nat) (x_a0_many : Int32) (r_a0_list : Nat) (x_a0_listed : Int32) (q_a0_tables : Nat) (x_a0_groups : Int32) (x_a0_tableCount : Int32) (q_a0_lengths : Nat) (r_a0_codes : Nat) (r_a0_weights : Nat) (r_a0_parents : Nat) (r_a0_counts : Nat) (x_a0_origin : Int32) (x_a0_check : Int32) (x_a0_blocks : Int32) (x_a0_fresh : Int32) (x_a0_allTells : Int32) (x_a0_allSymbols : Int32) (x_a0_allGroups : Int32) (x_a0_bit : Int32) (x_a0_checkOfAll : Int32) (x_a0_fault : Int32) (x_a0_total : Int32) (r_a0_rows : Nat) (r_a0_from : Nat) (x_a0_rowCount : Int32) (r_a0_chosen : Nat) (x_a0_chosenCount : Int32) (r_a0_seen : Nat) (r_a0_prefix : Nat) (x_a0_seenTables : Int32) (x_a0_seenBytes : Int32) (x_a0_limit : Int32) (x_a0_count : Int32) (f_a0_lengths : (Nat → Int32)) (f_a0_tables : (Nat → Int32)) (f_a0_symbols : (Nat → Int32)) (f_a0_up : (Nat → Int32)) (f_a0_last : (Nat → Int32)) (f_a0_told : (Nat → Int32)) (p1 : Int32) (p2 : Int32) (out : (Int32 × Int32)) (hf : Model_piece_f p1 x_a0_blocks x_a0_fresh p2 x_a0_tells f_a0_told f_a0_last f_a0_up x_a0_many f_a0_symbols x_a0_groups f_a0_tables x_a0_tableCount x_a0_listed f_a0_lengths = some out) (kr : ∀ (x : Unit) (o9 : (Int32 × Int32)) (pc : Nat) (lv : List (Nat × Value)), o9 = out → decode b_Model_piece pc = .ok (.ireturn, 1) → narrow .int (.int o9.1) = .int o9.1 → gAt C 0 0 [(q_a0, .inr (12, [.ref r_a0_tape, .int x_a0_fed, .ref r_a0_out, .int x_a0_size, .int o9.2, .int x_a0_place, .ref q_a0_told, .int x_a0_tells, .ref r_a0_order, .ref r_a0_merged, .ref q_a0_last, .ref q_a0_up, .ref q_a0_symbols, .int x_a0_many, .ref r_a0_list, .int x_a0_listed, .ref q_a0_tables, .int x_a0_groups, .int x_a0_tableCount, .ref q_a0_lengths, .ref r_a0_codes, .ref r_a0_weights, .ref r_a0_parents, .ref r_a0_counts, .int x_a0_origin, .int x_a0_check, .int x_a0_blocks, .int x_a0_fresh, .int x_a0_allTells, .int x_a0_allSymbols, .int x_a0_allGroups, .int x_a0_bit, .int x_a0_checkOfAll, .int x_a0_fault, .int x_a0_total, .ref r_a0_rows, .ref r_a0_from, .int x_a0_rowCount, .ref r_a0_chosen, .int x_a0_chosenCount, .ref r_a0_seen, .ref r_a0_prefix, .int x_a0_seenTables, .int x_a0_seenBytes, .int x_a0_limit, .int x_a0_count])), (q_a0_lengths, .inl (g_K C 0, 1548, .inl f_a0_lengths)), (q_a0_tables, .inl (g_K C 0, 64, .inl f_a0_tables)), (q_a0_symbols, .inl (g_K C 0, 2251, .inl f_a0_symbols)), (q_a0_up, .inl (g_K C 0, 2250, .inl f_a0_up)), (q_a0_last, .inl (g_K C 0, 2250, .inl f_a0_last)), (q_a0_told, .inl (g_K C 0, 2250, .inl f_a0_told))] lv pc [.int o9.1]) : gAt C 0 0 [(q_a0, .inr (12, [.ref r_a0_tape, .int x_a0_fed, .ref r_a0_out, .int x_a0_size, .int x_a0_thrown, .int x_a0_place, .ref q_a0_told, .int x_a0_tells, .ref r_a0_order, .ref r_a0_merged, .ref q_a0_last, .ref q_a0_up, .ref q_a0_symbols, .int x_a0_many, .ref r_a0_list, .int x_a0_listed, .ref q_a0_tables, .int x_a0_groups, .int x_a0_tableCount, .ref q_a0_lengths, .ref r_a0_codes, .ref r_a0_weights, .ref r_a0_parents, .ref r_a0_counts, .int x_a0_origin, .int x_a0_check, .int x_a0_blocks, .int x_a0_fresh, .int x_a0_allTells, .int x_a0_allSymbols, .int x_a0_allGroups, .int x_a0_bit, .int x_a0_checkOfAll, .int x_a0_fault, .int x_a0_total, .ref r_a0_rows, .ref r_a0_from, .int x_a0_rowCount, .ref r_a0_chosen, .int x_a0_chosenCount, .ref r_a0_seen, .ref r_a0_prefix, .int x_a0_seenTables, .int x_a0_seenBytes, .int x_a0_limit, .int x_a0_count])), (q_a0_lengths, .inl (g_K C 0, 1548, .inl f_a0_lengths)), (q_a0_tables, .inl (g_K C 0, 64, .inl f_a0_tables)), (q_a0_symbols, .inl (g_K C 0, 2251, .inl f_a0_symbols)), (q_a0_up, .inl (g_K C 0, 2250, .inl f_a0_up)), (q_a0_last, .inl (g_K C 0, 2250, .inl f_a0_last)), (q_a0_told, .inl (g_K C 0, 2250, .inl f_a0_told))] [(0, .ref q_a0), (1, .int p1), (2, .int p2)] 0 [] := by
  unfold Model_piece_f at hf
  have J213 : ∀ (j213_0 : Int32) (j213_1 : Int32), Model_piece_J213 j213_0 j213_1 = some out → gAt C 0 0 [(q_a0, .inr (12, [.ref r_a0_tape, .int x_a0_fed, .ref r_a0_out, .int x_a0_size, .int j213_1, .int x_a0_place, .ref q_a0_told, .int x_a0_tells, .ref r_a0_order, .ref r_a0_merged, .ref q_a0_last, .ref q_a0_up, .ref q_a0_symbols, .int x_a0_many, .ref r_a0_list, .int x_a0_listed, .ref q_a0_tables, .int x_a0_groups, .int x_a0_tableCount, .ref q_a0_lengths, .ref r_a0_codes, .ref r_a0_weights, .ref r_a0_parents, .ref r_a0_counts, .int x_a0_origin, .int x_a0_check, .int x_a0_blocks, .int x_a0_fresh, .int x_a0_allTells, .int x_a0_allSymbols, .int x_a0_allGroups, .int x_a0_bit, .int x_a0_checkOfAll, .int x_a0_fault, .int x_a0_total, .ref r_a0_rows, .ref r_a0_from, .int x_a0_rowCount, .ref r_a0_chosen, .int x_a0_chosenCount, .ref r_a0_seen, .ref r_a0_prefix, .int x_a0_seenTables, .int x_a0_seenBytes, .int x_a0_limit, .int x_a0_count])), (q_a0_lengths, .inl (g_K C 0, 1548, .inl f_a0_lengths)), (q_a0_tables, .inl (g_K C 0, 64, .inl f_a0_tables)), (q_a0_symbols, .inl (g_K C 0, 2251, .inl f_a0_symbols)), (q_a0_up, .inl (g_K C 0, 2250, .inl f_a0_up)), (q_a0_last, .inl (g_K C 0, 2250, .inl f_a0_last)), (q_a0_told, .inl (g_K C 0, 2250, .inl f_a0_told))] [] 213 [.int j213_0] := by
    intro j213_0 j213_1 hf
    unfold Model_piece_J213 at hf
    exact kr () (j213_0, j213_1) 213 [] (Option.some.inj hf) d_Model_piece_213 rfl
  have J212 : ∀ (j212_0 : Int32), Model_piece_J212 j212_0 = some out → gAt C 0 0 [(q_a0, .inr (12, [.ref r_a0_tape, .int x_a0_fed, .ref r_a0_out, .int x_a0_size, .int j212_0, .int x_a0_place, .ref q_a0_told, .int x_a0_tells, .ref r_a0_order, .ref r_a0_merged, .ref q_a0_last, .ref q_a0_up, .ref q_a0_symbols, .int x_a0_many, .ref r_a0_list, .int x_a0_listed, .ref q_a0_tables, .int x_a0_groups, .int x_a0_tableCount, .ref q_a0_lengths, .ref r_a0_codes, .ref r_a0_weights, .ref r_a0_parents, .ref r_a0_counts, .int x_a0_origin, .int x_a0_check, .int x_a0_blocks, .int x_a0_fresh, .int x_a0_allTells, .int x_a0_allSymbols, .int x_a0_allGroups, .int x_a0_bit, .int x_a0_checkOfAll, .int x_a0_fault, .int x_a0_total, .ref r_a0_rows, .ref r_a0_from, .int x_a0_rowCount, .ref r_a0_chosen, .int x_a0_chosenCount, .ref r_a0_seen, .ref r_a0_prefix, .int x_a0_seenTables, .int x_a0_seenBytes, .int x_a0_limit, .int x_a0_count])), (q_a0_lengths, .inl (g_K C 0, 1548, .inl f_a0_lengths)), (q_a0_tables, .inl (g_K C 0, 64, .inl f_a0_tables)), (q_a0_symbols, .inl (g_K C 0, 2251, .inl f_a0_symbols)), (q_a0_up, .inl (g_K C 0, 2250, .inl f_a0_up)), (q_a0_last, .inl (g_K C 0, 2250, .inl f_a0_last)), (q_a0_told, .inl (g_K C 0, 2250, .inl f_a0_told))] [] 212 [] := by
    intro j212_0 hf
    unfold Model_piece_J212 at hf
    refine g_iconst 212 hC (-1 : Int32) (by decide) d_Model_piece_212 ?_
    exact J213 (-1 : Int32) j212_0 hf
  have J174 : ∀ (j174_0 : Int32) (j174_1 : Int32), Model_piece_J174 j174_0 j174_1 = some out → gAt C 0 0 [(q_a0, .inr (12, [.ref r_a0_tape, .int x_a0_fed, .ref r_a0_out, .int x_a0_size, .int j174_1, .int x_a0_place, .ref q_a0_told, .int x_a0_tells, .ref r_a0_order, .ref r_a0_merged, .ref q_a0_last, .ref q_a0_up, .ref q_a0_symbols, .int x_a0_many, .ref r_a0_list, .int x_a0_listed, .ref q_a0_tables, .int x_a0_groups, .int x_a0_tableCount, .ref q_a0_lengths, .ref r_a0_codes, .ref r_a0_weights, .ref r_a0_parents, .ref r_a0_counts, .int x_a0_origin, .int x_a0_check, .int x_a0_blocks, .int x_a0_fresh, .int x_a0_allTells, .int x_a0_allSymbols, .int x_a0_allGroups, .int x_a0_bit, .int x_a0_checkOfAll, .int x_a0_fault, .int x_a0_total, .ref r_a0_rows, .ref r_a0_from, .int x_a0_rowCount, .ref r_a0_chosen, .int x_a0_chosenCount, .ref r_a0_seen, .ref r_a0_prefix, .int x_a0_seenTables, .int x_a0_seenBytes, .int x_a0_limit, .int x_a0_count])), (q_a0_lengths, .inl (g_K C 0, 1548, .inl f_a0_lengths)), (q_a0_tables, .inl (g_K C 0, 64, .inl f_a0_tables)), (q_a0_symbols, .inl (g_K C 0, 2251, .inl f_a0_symbols)), (q_a0_up, .inl (g_K C 0, 2250, .inl f_a0_up)), (q_a0_last, .inl (g_K C 0, 2250, .inl f_a0_last)), (q_a0_told, .inl (g_K C 0, 2250, .inl f_a0_told))] [] 174 [.int j174_0] := by
    intro j174_0 j174_1 hf
    unfold Model_piece_J174 at hf
    exact kr () (j174_0, j174_1) 174 [] (Option.some.inj hf) d_Model_piece_174 rfl
  have J155 : ∀ (j155_0 : Int32) (j155_1 : Int32), Model_piece_J155 j155_0 j155_1 = some out → gAt C 0 0 [(q_a0, .inr (12, [.ref r_a0_tape, .int x_a0_fed, .ref r_a0_out, .int x_a0_size, .int j155_1, .int x_a0_place, .ref q_a0_told, .int x_a0_tells, .ref r_a0_order, .ref r_a0_merged, .ref q_a0_last, .ref q_a0_up, .ref q_a0_symbols, .int x_a0_many, .ref r_a0_list, .int x_a0_listed, .ref q_a0_tables, .int x_a0_groups, .int x_a0_tableCount, .ref q_a0_lengths, .ref r_a0_codes, .ref r_a0_weights, .ref r_a0_parents, .ref r_a0_counts, .int x_a0_origin, .int x_a0_check, .int x_a0_blocks, .int x_a0_fresh, .int x_a0_allTells, .int x_a0_allSymbols, .int x_a0_allGroups, .int x_a0_bit, .int x_a0_checkOfAll, .int x_a0_fault, .int x_a0_total, .ref r_a0_rows, .ref r_a0_from, .int x_a0_rowCount, .ref r_a0_chosen, .int x_a0_chosenCount, .ref r_a0_seen, .ref r_a0_prefix, .int x_a0_seenTables, .int x_a0_seenBytes, .int x_a0_limit, .int x_a0_count])), (q_a0_lengths, .inl (g_K C 0, 1548, .inl f_a0_lengths)), (q_a0_tables, .inl (g_K C 0, 64, .inl f_a0_tables)), (q_a0_symbols, .inl (g_K C 0, 2251, .inl f_a0_symbols)), (q_a0_up, .inl (g_K C 0, 2250, .inl f_a0_up)), (q_a0_last, .inl (g_K C 0, 2250, .inl f_a0_last)), (q_a0_told, .inl (g_K C 0, 2250, .inl f_a0_told))] [] 155 [.int j155_0] := by
    intro j155_0 j155_1 hf
    unfold Model_piece_J155 at hf
    exact kr () (j155_0, j155_1) 155 [] (Option.some.inj hf) d_Model_piece_155 rfl
  have J136 : ∀ (j136_0 : Int32) (j136_1 : Int32), Model_piece_J136 j136_0 j136_1 = some out → gAt C 0 0 [(q_a0, .inr (12, [.ref r_a0_tape, .int x_a0_fed, .ref r_a0_out, .int x_a0_size, .int j136_1, .int x_a0_place, .ref q_a0_told, .int x_a0_tells, .ref r_a0_order, .ref r_a0_merged, .ref q_a0_last, .ref q_a0_up, .ref q_a0_symbols, .int x_a0_many, .ref r_a0_list, .int x_a0_listed, .ref q_a0_tables, .int x_a0_groups, .int x_a0_tableCount, .ref q_a0_lengths, .ref r_a0_codes, .ref r_a0_weights, .ref r_a0_parents, .ref r_a0_counts, .int x_a0_origin, .int x_a0_check, .int x_a0_blocks, .int x_a0_fresh, .int x_a0_allTells, .int x_a0_allSymbols, .int x_a0_allGroups, .int x_a0_bit, .int x_a0_checkOfAll, .int x_a0_fault, .int x_a0_total, .ref r_a0_rows, .ref r_a0_from, .int x_a0_rowCount, .ref r_a0_chosen, .int x_a0_chosenCount, .ref r_a0_seen, .ref r_a0_prefix, .int x_a0_seenTables, .int x_a0_seenBytes, .int x_a0_limit, .int x_a0_count])), (q_a0_lengths, .inl (g_K C 0, 1548, .inl f_a0_lengths)), (q_a0_tables, .inl (g_K C 0, 64, .inl f_a0_tables)), (q_a0_symbols, .inl (g_K C 0, 2251, .inl f_a0_symbols)), (q_a0_up, .inl (g_K C 0, 2250, .inl f_a0_up)), (q_a0_last, .inl (g_K C 0, 2250, .inl f_a0_last)), (q_a0_told, .inl (g_K C 0, 2250, .inl f_a0_told))] [] 136 [.int j136_0] := by
    intro j136_0 j136_1 hf
    unfold Model_piece_J136 at hf
    exact kr () (j136_0, j136_1) 136 [] (Option.some.inj hf) d_Model_piece_136 rfl
  have J117 : ∀ (j117_0 : Int32) (j117_1 : Int32), Model_piece_J117 j117_0 j117_1 = some out → gAt C 0 0 [(q_a0, .inr (12, [.ref r_a0_tape, .int x_a0_fed, .ref r_a0_out, .int x_a0_size, .int j117_1, .int x_a0_place, .ref q_a0_told, .int x_a0_tells, .ref r_a0_order, .ref r_a0_merged, .ref q_a0_last, .ref q_a0_up, .ref q_a0_symbols, .int x_a0_many, .ref r_a0_list, .int x_a0_listed, .ref q_a0_tables, .int x_a0_groups, .int x_a0_tableCount, .ref q_a0_lengths, .ref r_a0_codes, .ref r_a0_weights, .ref r_a0_parents, .ref r_a0_counts, .int x_a0_origin, .int x_a0_check, .int x_a0_blocks, .int x_a0_fresh, .int x_a0_allTells, .int x_a0_allSymbols, .int x_a0_allGroups, .int x_a0_bit, .int x_a0_checkOfAll, .int x_a0_fault, .int x_a0_total, .ref r_a0_rows, .ref r_a0_from, .int x_a0_rowCount, .ref r_a0_chosen, .int x_a0_chosenCount, .ref r_a0_seen, .ref r_a0_prefix, .int x_a0_seenTables, .int x_a0_seenBytes, .int x_a0_limit, .int x_a0_count])), (q_a0_lengths, .inl (g_K C 0, 1548, .inl f_a0_lengths)), (q_a0_tables, .inl (g_K C 0, 64, .inl f_a0_tables)), (q_a0_symbols, .inl (g_K C 0, 2251, .inl f_a0_symbols)), (q_a0_up, .inl (g_K C 0, 2250, .inl f_a0_up)), (q_a0_last, .inl (g_K C 0, 2250, .inl f_a0_last)), (q_a0_told, .inl (g_K C 0, 2250, .inl f_a0_told))] [] 117 [.int j117_0] := by
    intro j117_0 j117_1 hf
    unfold Model_piece_J117 at hf
    exact kr () (j117_0, j117_1) 117 [] (Option.some.inj hf) d_Model_piece_117 rfl
  have J98 : ∀ (j98_0 : Int32) (j98_1 : Int32), Model_piece_J98 j98_0 j98_1 = some out → gAt C 0 0 [(q_a0, .inr (12, [.ref r_a0_tape, .int x_a0_fed, .ref r_a0_out, .int x_a0_size, .int j98_1, .int x_a0_place, .ref q_a0_told, .int x_a0_tells, .ref r_a0_order, .ref r_a0_merged, .ref q_a0_last, .ref q_a0_up, .ref q_a0_symbols, .int x_a0_many, .ref r_a0_list, .int x_a0_listed, .ref q_a0_tables, .int x_a0_groups, .int x_a0_tableCount, .ref q_a0_lengths, .ref r_a0_codes, .ref r_a0_weights, .ref r_a0_parents, .ref r_a0_counts, .int x_a0_origin, .int x_a0_check, .int x_a0_blocks, .int x_a0_fresh, .int x_a0_allTells, .int x_a0_allSymbols, .int x_a0_allGroups, .int x_a0_bit, .int x_a0_checkOfAll, .int x_a0_fault, .int x_a0_total, .ref r_a0_rows, .ref r_a0_from, .int x_a0_rowCount, .ref r_a0_chosen, .int x_a0_chosenCount, .ref r_a0_seen, .ref r_a0_prefix, .int x_a0_seenTables, .int x_a0_seenBytes, .int x_a0_limit, .int x_a0_count])), (q_a0_lengths, .inl (g_K C 0, 1548, .inl f_a0_lengths)), (q_a0_tables, .inl (g_K C 0, 64, .inl f_a0_tables)), (q_a0_symbols, .inl (g_K C 0, 2251, .inl f_a0_symbols)), (q_a0_up, .inl (g_K C 0, 2250, .inl f_a0_up)), (q_a0_last, .inl (g_K C 0, 2250, .inl f_a0_last)), (q_a0_told, .inl (g_K C 0, 2250, .inl f_a0_told))] [] 98 [.int j98_0] := by
    intro j98_0 j98_1 hf
    unfold Model_piece_J98 at hf
    exact kr () (j98_0, j98_1) 98 [] (Option.some.inj hf) d_Model_piece_98 rfl
  have J43 : ∀ (j43_0 : Int32), Model_piece_J43 j43_0 = some out → gAt C 0 0 [(q_a0, .inr (12, [.ref r_a0_tape, .int x_a0_fed, .ref r_a0_out, .int x_a0_size, .int j43_0, .int x_a0_place, .ref q_a0_told, .int x_a0_tells, .ref r_a0_order, .ref r_a0_merged, .ref q_a0_last, .ref q_a0_up, .ref q_a0_symbols, .int x_a0_many, .ref r_a0_list, .int x_a0_listed, .ref q_a0_tables, .int x_a0_groups, .int x_a0_tableCount, .ref q_a0_lengths, .ref r_a0_codes, .ref r_a0_weights, .ref r_a0_parents, .ref r_a0_counts, .int x_a0_origin, .int x_a0_check, .int x_a0_blocks, .int x_a0_fresh, .int x_a0_allTells, .int x_a0_allSymbols, .int x_a0_allGroups, .int x_a0_bit, .int x_a0_checkOfAll, .int x_a0_fault, .int x_a0_total, .ref r_a0_rows, .ref r_a0_from, .int x_a0_rowCount, .ref r_a0_chosen, .int x_a0_chosenCount, .ref r_a0_seen, .ref r_a0_prefix, .int x_a0_seenTables, .int x_a0_seenBytes, .int x_a0_limit, .int x_a0_count])), (q_a0_lengths, .inl (g_K C 0, 1548, .inl f_a0_lengths)), (q_a0_tables, .inl (g_K C 0, 64, .inl f_a0_tables)), (q_a0_symbols, .inl (g_K C 0, 2251, .inl f_a0_symbols)), (q_a0_up, .inl (g_K C 0, 2250, .inl f_a0_up)), (q_a0_last, .inl (g_K C 0, 2250, .inl f_a0_last)), (q_a0_told, .inl (g_K C 0, 2250, .inl f_a0_told))] [] 43 [] := by
    intro j43_0 hf
    unfold Model_piece_J43 at hf
    refine g_iconst 43 hC (-1 : Int32) (by decide) d_Model_piece_43 ?_
    exact kr () ((-1 : Int32), j43_0) 44 [] (Option.some.inj hf) d_Model_piece_44 rfl
  have J16 : ∀ (j16_0 : Int32), Model_piece_J16 x_a0_blocks x_a0_fresh p2 p1 x_a0_tells f_a0_told f_a0_last f_a0_up x_a0_many f_a0_symbols x_a0_groups f_a0_tables x_a0_tableCount x_a0_listed f_a0_lengths j16_0 = some out → gAt C 0 0 [(q_a0, .inr (12, [.ref r_a0_tape, .int x_a0_fed, .ref r_a0_out, .int x_a0_size, .int x_a0_thrown, .int x_a0_place, .ref q_a0_told, .int x_a0_tells, .ref r_a0_order, .ref r_a0_merged, .ref q_a0_last, .ref q_a0_up, .ref q_a0_symbols, .int x_a0_many, .ref r_a0_list, .int x_a0_listed, .ref q_a0_tables, .int x_a0_groups, .int x_a0_tableCount, .ref q_a0_lengths, .ref r_a0_codes, .ref r_a0_weights, .ref r_a0_parents, .ref r_a0_counts, .int x_a0_origin, .int x_a0_check, .int x_a0_blocks, .int x_a0_fresh, .int x_a0_allTells, .int x_a0_allSymbols, .int x_a0_allGroups, .int x_a0_bit, .int x_a0_checkOfAll, .int x_a0_fault, .int x_a0_total, .ref r_a0_rows, .ref r_a0_from, .int x_a0_rowCount, .ref r_a0_chosen, .int x_a0_chosenCount, .ref r_a0_seen, .ref r_a0_prefix, .int x_a0_seenTables, .int x_a0_seenBytes, .int x_a0_limit, .int x_a0_count])), (q_a0_lengths, .inl (g_K C 0, 1548, .inl f_a0_lengths)), (q_a0_tables, .inl (g_K C 0, 64, .inl f_a0_tables)), (q_a0_symbols, .inl (g_K C 0, 2251, .inl f_a0_symbols)), (q_a0_up, .inl (g_K C 0, 2250, .inl f_a0_up)), (q_a0_last, .inl (g_K C 0, 2250, .inl f_a0_last)), (q_a0_told, .inl (g_K C 0, 2250, .inl f_a0_told))] [(0, .ref q_a0), (1, .int p1), (2, .int p2)] 16 [.int j16_0, .ref q_a0] := by
    intro j16_0 hf
    unfold Model_piece_J16 at hf
    refine g_iconst 16 hC (1 : Int32) (by decide) d_Model_piece_16 ?_
    obtain ⟨u1, hu1, hf⟩ := bd_some hf
    refine g_callVi 17 hC (c_Model_fails (g_l C) (g_D C) (g_K C) q_a0 r_a0_tape x_a0_fed r_a0_out x_a0_size x_a0_thrown x_a0_place q_a0_told x_a0_tells r_a0_order r_a0_merged q_a0_last q_a0_up q_a0_symbols x_a0_many r_a0_list x_a0_listed q_a0_tables x_a0_groups x_a0_tableCount q_a0_lengths r_a0_codes r_a0_weights r_a0_parents r_a0_counts x_a0_origin x_a0_check x_a0_blocks x_a0_fresh x_a0_allTells x_a0_allSymbols x_a0_allGroups x_a0_bit x_a0_checkOfAll x_a0_fault x_a0_total r_a0_rows r_a0_from x_a0_rowCount r_a0_chosen x_a0_chosenCount r_a0_seen r_a0_prefix x_a0_seenTables x_a0_seenBytes x_a0_limit x_a0_count j16_0 (1 : Int32) u1 hu1) k1379 k14 k1376 k1378 ks37 2 rfl (by decide +kernel) (by decide) [0] [1, 2, 3, 4, 5, 6] [(q_a0_lengths, .inl (g_K C 0, 1548, .inl f_a0_lengths)), (q_a0_tables, .inl (g_K C 0, 64, .inl f_a0_tables)), (q_a0_symbols, .inl (g_K C 0, 2251, .inl f_a0_symbols)), (q_a0_up, .inl (g_K C 0, 2250, .inl f_a0_up)), (q_a0_last, .inl (g_K C 0, 2250, .inl f_a0_last)), (q_a0_told, .inl (g_K C 0, 2250, .inl f_a0_told))] rfl rfl rfl rfl rfl 0 12 rfl rfl rfl rfl (Nat.le_of_ble_eq_true rfl) ⟨Nat.le_of_ble_eq_true rfl, Nat.le_of_ble_eq_true rfl⟩ (fun (_ : Unit) => [(q_a0_lengths, .inl (g_K C 0, 1548, .inl f_a0_lengths)), (q_a0_tables, .inl (g_K C 0, 64, .inl f_a0_tables)), (q_a0_symbols, .inl (g_K C 0, 2251, .inl f_a0_symbols)), (q_a0_up, .inl (g_K C 0, 2250, .inl f_a0_up)), (q_a0_last, .inl (g_K C 0, 2250, .inl f_a0_last)), (q_a0_told, .inl (g_K C 0, 2250, .inl f_a0_told)), (q_a0, .inr (12, [.ref r_a0_tape, .int x_a0_fed, .ref r_a0_out, .int x_a0_size, .int u1.2, .int x_a0_place, .ref q_a0_told, .int x_a0_tells, .ref r_a0_order, .ref r_a0_merged, .ref q_a0_last, .ref q_a0_up, .ref q_a0_symbols, .int x_a0_many, .ref r_a0_list, .int x_a0_listed, .ref q_a0_tables, .int x_a0_groups, .int x_a0_tableCount, .ref q_a0_lengths, .ref r_a0_codes, .ref r_a0_weights, .ref r_a0_parents, .ref r_a0_counts, .int x_a0_origin, .int x_a0_check, .int x_a0_blocks, .int x_a0_fresh, .int x_a0_allTells, .int x_a0_allSymbols, .int x_a0_allGroups, .int x_a0_bit, .int x_a0_checkOfAll, .int x_a0_fault, .int x_a0_total, .ref r_a0_rows, .ref r_a0_from, .int x_a0_rowCount, .ref r_a0_chosen, .int x_a0_chosenCount, .ref r_a0_seen, .ref r_a0_prefix, .int x_a0_seenTables, .int x_a0_seenBytes, .int x_a0_limit, .int x_a0_count]))]) (fun _ => rfl) d_Model_piece_17 0 0 rfl rfl (fun _ => ?_)
    refine g_if_eq 20 hC 25 (by decide) d_Model_piece_20 (fun c2 => ?_) (fun c2 => ?_)
    · have hf := it_t c2 hf
      refine g_aload_n 25 hC (j := 0) (hj := rfl) (hd := d_Model_piece_25) ?_
      refine g_get 26 hC i_Model rfl 6 rfl 26 (by decide) k1255 rfl d_Model_piece_26 ?_
      refine g_if_eq 29 hC 43 (by decide) d_Model_piece_29 (fun c3 => ?_) (fun c3 => ?_)
      · have hf := it_t c3 hf
        exact g_re [6, 0, 1, 2, 3, 4, 5] [] rfl rfl rfl (J43 u1.2 hf)
      · have hf := it_f c3 hf
        refine g_aload_n 32 hC (j := 0) (hj := rfl) (hd := d_Model_piece_32) ?_
        refine g_get 33 hC i_Model rfl 6 rfl 27 (by decide) k1256 rfl d_Model_piece_33 ?_
        refine g_if_eq 36 hC 43 (by decide) d_Model_piece_36 (fun c4 => ?_) (fun c4 => ?_)
        · have hf := it_t c4 hf
          exact g_re [6, 0, 1, 2, 3, 4, 5] [] rfl rfl rfl (J43 u1.2 hf)
        · have hf := it_f c4 hf
          refine g_iload_n 39 hC (j := 2) (hj := rfl) (hd := d_Model_piece_39) ?_
          refine g_if_ge 40 hC 45 (by decide) d_Model_piece_40 (fun c5 => ?_) (fun c5 => ?_)
          · have hf := it_t c5 hf
            refine g_iload_n 45 hC (j := 1) (hj := rfl) (hd := d_Model_piece_45) ?_
            by_cases c6 : p1 = (0 : Int32)
            · have hf := it_t c6 hf
              refine g_tabIn 46 hC 34 (0 : Int32) 80 c6 d_Model_piece_46 (by decide) (by decide) (by decide) (by decide) ?_
              refine g_iload_n 80 hC (j := 2) (hj := rfl) (hd := d_Model_piece_80) ?_
              refine g_aload_n 81 hC (j := 0) (hj := rfl) (hd := d_Model_piece_81) ?_
              refine g_get 82 hC i_Model rfl 6 rfl 7 (by decide) k1236 rfl d_Model_piece_82 ?_
              refine g_icmp_ge 85 hC 97 (by decide) d_Model_piece_85 (fun c7 => ?_) (fun c7 => ?_)
              · have hf := it_t c7 hf
                refine g_iconst 97 hC (-1 : Int32) (by decide) d_Model_piece_97 ?_
                exact g_re [6, 0, 1, 2, 3, 4, 5] [] rfl rfl rfl (J98 (-1 : Int32) u1.2 hf)
              · have hf := it_f c7 hf
                refine g_aload_n 88 hC (j := 0) (hj := rfl) (hd := d_Model_piece_88) ?_
                refine g_get 89 hC i_Model rfl 6 rfl 6 (by decide) k1235 rfl d_Model_piece_89 ?_
                refine g_iload_n 92 hC (j := 2) (hj := rfl) (hd := d_Model_piece_92) ?_
                obtain ⟨e8, hf⟩ := gd_some hf
                refine g_iald 93 hC 5 rfl e8 d_Model_piece_93 ?_
                refine g_goto 94 hC 98 (by decide) d_Model_piece_94 ?_
                exact g_re [6, 0, 1, 2, 3, 4, 5] [] rfl rfl rfl (J98 (f_a0_told p2.toNatClampNeg) u1.2 hf)
            · have hf := it_f c6 hf
              by_cases c9 : p1 = (1 : Int32)
              · have hf := it_t c9 hf
                refine g_tabIn 46 hC 53 (1 : Int32) 99 c9 d_Model_piece_46 (by decide) (by decide) (by decide) (by decide) ?_
                refine g_iload_n 99 hC (j := 2) (hj := rfl) (hd := d_Model_piece_99) ?_
                refine g_aload_n 100 hC (j := 0) (hj := rfl) (hd := d_Model_piece_100) ?_
                refine g_get 101 hC i_Model rfl 6 rfl 7 (by decide) k1236 rfl d_Model_piece_101 ?_
                refine g_icmp_ge 104 hC 116 (by decide) d_Model_piece_104 (fun c10 => ?_) (fun c10 => ?_)
                · have hf := it_t c10 hf
                  refine g_iconst 116 hC (-1 : Int32) (by decide) d_Model_piece_116 ?_
                  exact g_re [6, 0, 1, 2, 3, 4, 5] [] rfl rfl rfl (J117 (-1 : Int32) u1.2 hf)
                · have hf := it_f c10 hf
                  refine g_aload_n 107 hC (j := 0) (hj := rfl) (hd := d_Model_piece_107) ?_
                  refine g_get 108 hC i_Model rfl 6 rfl 10 (by decide) k1239 rfl d_Model_piece_108 ?_
                  refine g_iload_n 111 hC (j := 2) (hj := rfl) (hd := d_Model_piece_111) ?_
                  obtain ⟨e11, hf⟩ := gd_some hf
                  refine g_iald 112 hC 4 rfl e11 d_Model_piece_112 ?_
                  refine g_goto 113 hC 117 (by decide) d_Model_piece_113 ?_
                  exact g_re [6, 0, 1, 2, 3, 4, 5] [] rfl rfl rfl (J117 (f_a0_last p2.toNatClampNeg) u1.2 hf)
              · have hf := it_f c9 hf
                by_cases c12 : p1 = (2 : Int32)
                · have hf := it_t c12 hf
                  refine g_tabIn 46 hC 72 (2 : Int32) 118 c12 d_Model_piece_46 (by decide) (by decide) (by decide) (by decide) ?_
                  refine g_iload_n 118 hC (j := 2) (hj := rfl) (hd := d_Model_piece_118) ?_
                  refine g_aload_n 119 hC (j := 0) (hj := rfl) (hd := d_Model_piece_119) ?_
                  refine g_get 120 hC i_Model rfl 6 rfl 7 (by decide) k1236 rfl d_Model_piece_120 ?_
                  refine g_icmp_ge 123 hC 135 (by decide) d_Model_piece_123 (fun c13 => ?_) (fun c13 => ?_)
                  · have hf := it_t c13 hf
                    refine g_iconst 135 hC (-1 : Int32) (by decide) d_Model_piece_135 ?_
                    exact g_re [6, 0, 1, 2, 3, 4, 5] [] rfl rfl rfl (J136 (-1 : Int32) u1.2 hf)
                  · have hf := it_f c13 hf
                    refine g_aload_n 126 hC (j := 0) (hj := rfl) (hd := d_Model_piece_126) ?_
                    refine g_get 127 hC i_Model rfl 6 rfl 11 (by decide) k1240 rfl d_Model_piece_127 ?_
                    refine g_iload_n 130 hC (j := 2) (hj := rfl) (hd := d_Model_piece_130) ?_
                    obtain ⟨e14, hf⟩ := gd_some hf
                    refine g_iald 131 hC 3 rfl e14 d_Model_piece_131 ?_
                    refine g_goto 132 hC 136 (by decide) d_Model_piece_132 ?_
                    exact g_re [6, 0, 1, 2, 3, 4, 5] [] rfl rfl rfl (J136 (f_a0_up p2.toNatClampNeg) u1.2 hf)
                · have hf := it_f c12 hf
                  by_cases c15 : p1 = (3 : Int32)
                  · have hf := it_t c15 hf
                    refine g_tabIn 46 hC 91 (3 : Int32) 137 c15 d_Model_piece_46 (by decide) (by decide) (by decide) (by decide) ?_
                    refine g_iload_n 137 hC (j := 2) (hj := rfl) (hd := d_Model_piece_137) ?_
                    refine g_aload_n 138 hC (j := 0) (hj := rfl) (hd := d_Model_piece_138) ?_
                    refine g_get 139 hC i_Model rfl 6 rfl 13 (by decide) k1242 rfl d_Model_piece_139 ?_
                    refine g_icmp_ge 142 hC 154 (by decide) d_Model_piece_142 (fun c16 => ?_) (fun c16 => ?_)
                    · have hf := it_t c16 hf
                      refine g_iconst 154 hC (-1 : Int32) (by decide) d_Model_piece_154 ?_
                      exact g_re [6, 0, 1, 2, 3, 4, 5] [] rfl rfl rfl (J155 (-1 : Int32) u1.2 hf)
                    · have hf := it_f c16 hf
                      refine g_aload_n 145 hC (j := 0) (hj := rfl) (hd := d_Model_piece_145) ?_
                      refine g_get 146 hC i_Model rfl 6 rfl 12 (by decide) k1241 rfl d_Model_piece_146 ?_
                      refine g_iload_n 149 hC (j := 2) (hj := rfl) (hd := d_Model_piece_149) ?_
                      obtain ⟨e17, hf⟩ := gd_some hf
                      refine g_iald 150 hC 2 rfl e17 d_Model_piece_150 ?_
                      refine g_goto 151 hC 155 (by decide) d_Model_piece_151 ?_
                      exact g_re [6, 0, 1, 2, 3, 4, 5] [] rfl rfl rfl (J155 (f_a0_symbols p2.toNatClampNeg) u1.2 hf)
                  · have hf := it_f c15 hf
                    by_cases c18 : p1 = (4 : Int32)
                    · have hf := it_t c18 hf
                      refine g_tabIn 46 hC 110 (4 : Int32) 156 c18 d_Model_piece_46 (by decide) (by decide) (by decide) (by decide) ?_
                      refine g_iload_n 156 hC (j := 2) (hj := rfl) (hd := d_Model_piece_156) ?_
                      refine g_aload_n 157 hC (j := 0) (hj := rfl) (hd := d_Model_piece_157) ?_
                      refine g_get 158 hC i_Model rfl 6 rfl 17 (by decide) k1246 rfl d_Model_piece_158 ?_
                      refine g_icmp_ge 161 hC 173 (by decide) d_Model_piece_161 (fun c19 => ?_) (fun c19 => ?_)
                      · have hf := it_t c19 hf
                        refine g_iconst 173 hC (-1 : Int32) (by decide) d_Model_piece_173 ?_
                        exact g_re [6, 0, 1, 2, 3, 4, 5] [] rfl rfl rfl (J174 (-1 : Int32) u1.2 hf)
                      · have hf := it_f c19 hf
                        refine g_aload_n 164 hC (j := 0) (hj := rfl) (hd := d_Model_piece_164) ?_
                        refine g_get 165 hC i_Model rfl 6 rfl 16 (by decide) k1245 rfl d_Model_piece_165 ?_
                        refine g_iload_n 168 hC (j := 2) (hj := rfl) (hd := d_Model_piece_168) ?_
                        obtain ⟨e20, hf⟩ := gd_some hf
                        refine g_iald 169 hC 1 rfl e20 d_Model_piece_169 ?_
                        refine g_goto 170 hC 174 (by decide) d_Model_piece_170 ?_
                        exact g_re [6, 0, 1, 2, 3, 4, 5] [] rfl rfl rfl (J174 (f_a0_tables p2.toNatClampNeg) u1.2 hf)
                    · have hf := it_f c18 hf
                      have nc6 := tne (z := 0) c6 (by decide)
                      have nc9 := tne (z := 1) c9 (by decide)
                      have nc12 := tne (z := 2) c12 (by decide)
                      have nc15 := tne (z := 3) c15 (by decide)
                      have nc18 := tne (z := 4) c18 (by decide)
                      refine g_tabOut 46 hC 175 d_Model_piece_46 (by omega) (by decide) ?_
                      refine g_iload_n 175 hC (j := 1) (hj := rfl) (hd := d_Model_piece_175) ?_
                      refine g_iconst 176 hC (5 : Int32) (by decide) d_Model_piece_176 ?_
                      refine g_isub 177 hC d_Model_piece_177 ?_
                      refine g_aload_n 178 hC (j := 0) (hj := rfl) (hd := d_Model_piece_178) ?_
                      refine g_get 179 hC i_Model rfl 6 rfl 18 (by decide) k1247 rfl d_Model_piece_179 ?_
                      refine g_icmp_ge 182 hC 212 (by decide) d_Model_piece_182 (fun c21 => ?_) (fun c21 => ?_)
                      · have hf := it_t c21 hf
                        exact g_re [6, 0, 1, 2, 3, 4, 5] [] rfl rfl rfl (J212 u1.2 hf)
                      · have hf := it_f c21 hf
                        refine g_iload_n 185 hC (j := 2) (hj := rfl) (hd := d_Model_piece_185) ?_
                        refine g_aload_n 186 hC (j := 0) (hj := rfl) (hd := d_Model_piece_186) ?_
                        refine g_get 187 hC i_Model rfl 6 rfl 15 (by decide) k1244 rfl d_Model_piece_187 ?_
                        refine g_iconst 190 hC (2 : Int32) (by decide) d_Model_piece_190 ?_
                        refine g_iadd 191 hC d_Model_piece_191 ?_
                        refine g_icmp_ge 192 hC 212 (by decide) d_Model_piece_192 (fun c22 => ?_) (fun c22 => ?_)
                        · have hf := it_t c22 hf
                          exact g_re [6, 0, 1, 2, 3, 4, 5] [] rfl rfl rfl (J212 u1.2 hf)
                        · have hf := it_f c22 hf
                          refine g_aload_n 195 hC (j := 0) (hj := rfl) (hd := d_Model_piece_195) ?_
                          refine g_get 196 hC i_Model rfl 6 rfl 19 (by decide) k1248 rfl d_Model_piece_196 ?_
                          refine g_sipush 199 hC (258 : Int32) (by decide) d_Model_piece_199 ?_
                          refine g_iload_n 202 hC (j := 1) (hj := rfl) (hd := d_Model_piece_202) ?_
                          refine g_iconst 203 hC (5 : Int32) (by decide) d_Model_piece_203 ?_
                          refine g_isub 204 hC d_Model_piece_204 ?_
                          refine g_imul 205 hC d_Model_piece_205 ?_
                          refine g_iload_n 206 hC (j := 2) (hj := rfl) (hd := d_Model_piece_206) ?_
                          refine g_iadd 207 hC d_Model_piece_207 ?_
                          obtain ⟨e23, hf⟩ := gd_some hf
                          refine g_iald 208 hC 0 rfl e23 d_Model_piece_208 ?_
                          refine g_goto 209 hC 213 (by decide) d_Model_piece_209 ?_
                          exact g_re [6, 0, 1, 2, 3, 4, 5] [] rfl rfl rfl (J213 (f_a0_lengths (((258 : Int32) * (p1 - (5 : Int32))) + p2).toNatClampNeg) u1.2 hf)
          · have hf := it_f c5 hf
            exact g_re [6, 0, 1, 2, 3, 4, 5] [] rfl rfl rfl (J43 u1.2 hf)
    · have hf := it_f c2 hf
      refine g_iconst 23 hC (0 : Int32) (by decide) d_Model_piece_23 ?_
      exact g_re [6, 0, 1, 2, 3, 4, 5] [] rfl rfl rfl (kr () ((0 : Int32), u1.2) 24 [] (Option.some.inj hf) d_Model_piece_24 rfl)
  have J11 : Model_piece_J11 x_a0_blocks x_a0_fresh p2 p1 x_a0_tells f_a0_told f_a0_last f_a0_up x_a0_many f_a0_symbols x_a0_groups f_a0_tables x_a0_tableCount x_a0_listed f_a0_lengths = some out → gAt C 0 0 [(q_a0, .inr (12, [.ref r_a0_tape, .int x_a0_fed, .ref r_a0_out, .int x_a0_size, .int x_a0_thrown, .int x_a0_place, .ref q_a0_told, .int x_a0_tells, .ref r_a0_order, .ref r_a0_merged, .ref q_a0_last, .ref q_a0_up, .ref q_a0_symbols, .int x_a0_many, .ref r_a0_list, .int x_a0_listed, .ref q_a0_tables, .int x_a0_groups, .int x_a0_tableCount, .ref q_a0_lengths, .ref r_a0_codes, .ref r_a0_weights, .ref r_a0_parents, .ref r_a0_counts, .int x_a0_origin, .int x_a0_check, .int x_a0_blocks, .int x_a0_fresh, .int x_a0_allTells, .int x_a0_allSymbols, .int x_a0_allGroups, .int x_a0_bit, .int x_a0_checkOfAll, .int x_a0_fault, .int x_a0_total, .ref r_a0_rows, .ref r_a0_from, .int x_a0_rowCount, .ref r_a0_chosen, .int x_a0_chosenCount, .ref r_a0_seen, .ref r_a0_prefix, .int x_a0_seenTables, .int x_a0_seenBytes, .int x_a0_limit, .int x_a0_count])), (q_a0_lengths, .inl (g_K C 0, 1548, .inl f_a0_lengths)), (q_a0_tables, .inl (g_K C 0, 64, .inl f_a0_tables)), (q_a0_symbols, .inl (g_K C 0, 2251, .inl f_a0_symbols)), (q_a0_up, .inl (g_K C 0, 2250, .inl f_a0_up)), (q_a0_last, .inl (g_K C 0, 2250, .inl f_a0_last)), (q_a0_told, .inl (g_K C 0, 2250, .inl f_a0_told))] [(0, .ref q_a0), (1, .int p1), (2, .int p2)] 11 [.ref q_a0] := by
    intro hf
    unfold Model_piece_J11 at hf
    refine g_iconst 11 hC (1 : Int32) (by decide) d_Model_piece_11 ?_
    refine g_goto 12 hC 16 (by decide) d_Model_piece_12 ?_
    exact J16 (1 : Int32) hf
  refine g_aload_n 0 hC (j := 0) (hj := rfl) (hd := d_Model_piece_0) ?_
  refine g_iload_n 1 hC (j := 1) (hj := rfl) (hd := d_Model_piece_1) ?_
  refine g_if_lt 2 hC 11 (by decide) d_Model_piece_2 (fun c24 => ?_) (fun c24 => ?_)
  · have hf := it_t c24 hf
    exact J11 hf
  · have hf := it_f c24 hf
    refine g_iload_n 5 hC (j := 1) (hj := rfl) (hd := d_Model_piece_5) ?_
    refine g_bipush 6 hC (10 : Int32) (by decide) d_Model_piece_6 ?_
    refine g_icmp_le 8 hC 15 (by decide) d_Model_piece_8 (fun c25 => ?_) (fun c25 => ?_)
    · have hf := it_t c25 hf
      refine g_iconst 15 hC (0 : Int32) (by decide) d_Model_piece_15 ?_
      exact J16 (0 : Int32) hf
    · have hf := it_f c25 hf
      exact J11 hf
theorem c_Model_piece (l : Launch) (D : va_G) (K : Nat → ClassId) (q_a0 : Nat) (r_a0_tape : Nat) (x_a0_fed : Int32) (r_a0_out : Nat) (x_a0_size : Int32) (x_a0_thrown : Int32) (x_a0_place : Int32) (q_a0_told : Nat) (x_a0_tells : Int32) (r_a0_order : Nat) (r_a0_merged : Nat) (q_a0_last : Nat) (q_a0_up : Nat) (q_a0_symbols : Nat) (x_a0_many : Int32) (r_a0_list : Nat) (x_a0_listed : Int32) (q_a0_tables : Nat) (x_a0_groups : Int32) (x_a0_tableCount : Int32) (q_a0_lengths : Nat) (r_a0_codes : Nat) (r_a0_weights : Nat) (r_a0_parents : Nat) (r_a0_counts : Nat) (x_a0_origin : Int32) (x_a0_check : Int32) (x_a0_blocks : Int32) (x_a0_fresh : Int32) (x_a0_allTells : Int32) (x_a0_allSymbols : Int32) (x_a0_allGroups : Int32) (x_a0_bit : Int32) (x_a0_checkOfAll : Int32) (x_a0_fault : Int32) (x_a0_total : Int32) (r_a0_rows : Nat) (r_a0_from : Nat) (x_a0_rowCount : Int32) (r_a0_chosen : Nat) (x_a0_chosenCount : Int32) (r_a0_seen : Nat) (r_a0_prefix : Nat) (x_a0_seenTables : Int32) (x_a0_seenBytes : Int32) (x_a0_limit : Int32) (x_a0_count : Int32) (f_a0_lengths : (Nat → Int32)) (f_a0_tables : (Nat → Int32)) (f_a0_symbols : (Nat → Int32)) (f_a0_up : (Nat → Int32)) (f_a0_last : (Nat → Int32)) (f_a0_told : (Nat → Int32)) (p1 : Int32) (p2 : Int32) (out : (Int32 × Int32)) (hf : Model_piece_f p1 x_a0_blocks x_a0_fresh p2 x_a0_tells f_a0_told f_a0_last f_a0_up x_a0_many f_a0_symbols x_a0_groups f_a0_tables x_a0_tableCount x_a0_listed f_a0_lengths = some out) : Ci l D K y_Model_piece (g_wd y_Model_piece b_Model_piece 3 (some .int)) { frames := 1, cells := 0, slots := 0, locals := 22 } [.ref q_a0, .int p1, .int p2] [(q_a0, .inr (12, [.ref r_a0_tape, .int x_a0_fed, .ref r_a0_out, .int x_a0_size, .int x_a0_thrown, .int x_a0_place, .ref q_a0_told, .int x_a0_tells, .ref r_a0_order, .ref r_a0_merged, .ref q_a0_last, .ref q_a0_up, .ref q_a0_symbols, .int x_a0_many, .ref r_a0_list, .int x_a0_listed, .ref q_a0_tables, .int x_a0_groups, .int x_a0_tableCount, .ref q_a0_lengths, .ref r_a0_codes, .ref r_a0_weights, .ref r_a0_parents, .ref r_a0_counts, .int x_a0_origin, .int x_a0_check, .int x_a0_blocks, .int x_a0_fresh, .int x_a0_allTells, .int x_a0_allSymbols, .int x_a0_allGroups, .int x_a0_bit, .int x_a0_checkOfAll, .int x_a0_fault, .int x_a0_total, .ref r_a0_rows, .ref r_a0_from, .int x_a0_rowCount, .ref r_a0_chosen, .int x_a0_chosenCount, .ref r_a0_seen, .ref r_a0_prefix, .int x_a0_seenTables, .int x_a0_seenBytes, .int x_a0_limit, .int x_a0_count])), (q_a0_lengths, .inl (K 0, 1548, .inl f_a0_lengths)), (q_a0_tables, .inl (K 0, 64, .inl f_a0_tables)), (q_a0_symbols, .inl (K 0, 2251, .inl f_a0_symbols)), (q_a0_up, .inl (K 0, 2250, .inl f_a0_up)), (q_a0_last, .inl (K 0, 2250, .inl f_a0_last)), (q_a0_told, .inl (K 0, 2250, .inl f_a0_told))] (fun (x : Unit) => [(q_a0, .inr (12, [.ref r_a0_tape, .int x_a0_fed, .ref r_a0_out, .int x_a0_size, .int out.2, .int x_a0_place, .ref q_a0_told, .int x_a0_tells, .ref r_a0_order, .ref r_a0_merged, .ref q_a0_last, .ref q_a0_up, .ref q_a0_symbols, .int x_a0_many, .ref r_a0_list, .int x_a0_listed, .ref q_a0_tables, .int x_a0_groups, .int x_a0_tableCount, .ref q_a0_lengths, .ref r_a0_codes, .ref r_a0_weights, .ref r_a0_parents, .ref r_a0_counts, .int x_a0_origin, .int x_a0_check, .int x_a0_blocks, .int x_a0_fresh, .int x_a0_allTells, .int x_a0_allSymbols, .int x_a0_allGroups, .int x_a0_bit, .int x_a0_checkOfAll, .int x_a0_fault, .int x_a0_total, .ref r_a0_rows, .ref r_a0_from, .int x_a0_rowCount, .ref r_a0_chosen, .int x_a0_chosenCount, .ref r_a0_seen, .ref r_a0_prefix, .int x_a0_seenTables, .int x_a0_seenBytes, .int x_a0_limit, .int x_a0_count])), (q_a0_lengths, .inl (K 0, 1548, .inl f_a0_lengths)), (q_a0_tables, .inl (K 0, 64, .inl f_a0_tables)), (q_a0_symbols, .inl (K 0, 2251, .inl f_a0_symbols)), (q_a0_up, .inl (K 0, 2250, .inl f_a0_up)), (q_a0_last, .inl (K 0, 2250, .inl f_a0_last)), (q_a0_told, .inl (K 0, 2250, .inl f_a0_told))]) out.1 := mk_i (by decide) (Nat.le_of_ble_eq_true rfl) (fun p e s m below meth c A Q hC kr => m_Model_piece hC q_a0 r_a0_tape x_a0_fed r_a0_out x_a0_size x_a0_thrown x_a0_place q_a0_told x_a0_tells r_a0_order r_a0_merged q_a0_last q_a0_up q_a0_symbols x_a0_many r_a0_list x_a0_listed q_a0_tables x_a0_groups x_a0_tableCount q_a0_lengths r_a0_codes r_a0_weights r_a0_parents r_a0_counts x_a0_origin x_a0_check x_a0_blocks x_a0_fresh x_a0_allTells x_a0_allSymbols x_a0_allGroups x_a0_bit x_a0_checkOfAll x_a0_fault x_a0_total r_a0_rows r_a0_from x_a0_rowCount r_a0_chosen x_a0_chosenCount r_a0_seen r_a0_prefix x_a0_seenTables x_a0_seenBytes x_a0_limit x_a0_count f_a0_lengths f_a0_tables f_a0_symbols f_a0_up f_a0_last f_a0_told p1 p2 out hf (fun x o9 pc lv ho => by subst ho; exact kr x pc lv))
