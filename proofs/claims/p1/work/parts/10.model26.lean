abbrev b_Model_readSymbol : ByteArray := prog_14_method_42_code
def y_Model_readSymbol : MethodName := ⟨R_Model, "readSymbol", "(I)I"⟩
theorem d_Model_readSymbol_0 : decode b_Model_readSymbol 0 = .ok (.aload_n 0, 1) := by decide +kernel
theorem d_Model_readSymbol_1 : decode b_Model_readSymbol 1 = .ok (.getfield 93, 3) := by decide +kernel
theorem d_Model_readSymbol_4 : decode b_Model_readSymbol 4 = .ok (.istore_n 2, 1) := by decide +kernel
theorem d_Model_readSymbol_5 : decode b_Model_readSymbol 5 = .ok (.iconst 0, 1) := by decide +kernel
theorem d_Model_readSymbol_6 : decode b_Model_readSymbol 6 = .ok (.istore_n 3, 1) := by decide +kernel
theorem d_Model_readSymbol_7 : decode b_Model_readSymbol 7 = .ok (.iconst 1, 1) := by decide +kernel
theorem d_Model_readSymbol_8 : decode b_Model_readSymbol 8 = .ok (.istore 4, 2) := by decide +kernel
theorem d_Model_readSymbol_10 : decode b_Model_readSymbol 10 = .ok (.iload 4, 2) := by decide +kernel
theorem d_Model_readSymbol_12 : decode b_Model_readSymbol 12 = .ok (.bipush 20, 2) := by decide +kernel
theorem d_Model_readSymbol_14 : decode b_Model_readSymbol 14 = .ok (.if_icmp .gt 151, 3) := by decide +kernel
theorem d_Model_readSymbol_17 : decode b_Model_readSymbol 17 = .ok (.aload_n 0, 1) := by decide +kernel
theorem d_Model_readSymbol_18 : decode b_Model_readSymbol 18 = .ok (.invokevirtual 212, 3) := by decide +kernel
theorem d_Model_readSymbol_21 : decode b_Model_readSymbol 21 = .ok (.ifCond .eq 144, 3) := by decide +kernel
theorem d_Model_readSymbol_24 : decode b_Model_readSymbol 24 = .ok (.iload_n 3, 1) := by decide +kernel
theorem d_Model_readSymbol_25 : decode b_Model_readSymbol 25 = .ok (.iconst 1, 1) := by decide +kernel
theorem d_Model_readSymbol_26 : decode b_Model_readSymbol 26 = .ok (.ishl, 1) := by decide +kernel
theorem d_Model_readSymbol_27 : decode b_Model_readSymbol 27 = .ok (.aload_n 0, 1) := by decide +kernel
theorem d_Model_readSymbol_28 : decode b_Model_readSymbol 28 = .ok (.iconst 1, 1) := by decide +kernel
theorem d_Model_readSymbol_29 : decode b_Model_readSymbol 29 = .ok (.invokevirtual 209, 3) := by decide +kernel
theorem d_Model_readSymbol_32 : decode b_Model_readSymbol 32 = .ok (.ior, 1) := by decide +kernel
theorem d_Model_readSymbol_33 : decode b_Model_readSymbol 33 = .ok (.istore_n 3, 1) := by decide +kernel
theorem d_Model_readSymbol_34 : decode b_Model_readSymbol 34 = .ok (.iconst 0, 1) := by decide +kernel
theorem d_Model_readSymbol_35 : decode b_Model_readSymbol 35 = .ok (.istore 5, 2) := by decide +kernel
theorem d_Model_readSymbol_37 : decode b_Model_readSymbol 37 = .ok (.iconst 0, 1) := by decide +kernel
theorem d_Model_readSymbol_38 : decode b_Model_readSymbol 38 = .ok (.istore 6, 2) := by decide +kernel
theorem d_Model_readSymbol_40 : decode b_Model_readSymbol 40 = .ok (.iload 6, 2) := by decide +kernel
theorem d_Model_readSymbol_42 : decode b_Model_readSymbol 42 = .ok (.aload_n 0, 1) := by decide +kernel
theorem d_Model_readSymbol_43 : decode b_Model_readSymbol 43 = .ok (.getfield 216, 3) := by decide +kernel
theorem d_Model_readSymbol_46 : decode b_Model_readSymbol 46 = .ok (.iconst 2, 1) := by decide +kernel
theorem d_Model_readSymbol_47 : decode b_Model_readSymbol 47 = .ok (.iadd, 1) := by decide +kernel
theorem d_Model_readSymbol_48 : decode b_Model_readSymbol 48 = .ok (.if_icmp .ge 91, 3) := by decide +kernel
theorem d_Model_readSymbol_51 : decode b_Model_readSymbol 51 = .ok (.aload_n 0, 1) := by decide +kernel
theorem d_Model_readSymbol_52 : decode b_Model_readSymbol 52 = .ok (.invokevirtual 212, 3) := by decide +kernel
theorem d_Model_readSymbol_55 : decode b_Model_readSymbol 55 = .ok (.ifCond .eq 84, 3) := by decide +kernel
theorem d_Model_readSymbol_58 : decode b_Model_readSymbol 58 = .ok (.aload_n 0, 1) := by decide +kernel
theorem d_Model_readSymbol_59 : decode b_Model_readSymbol 59 = .ok (.getfield 70, 3) := by decide +kernel
theorem d_Model_readSymbol_62 : decode b_Model_readSymbol 62 = .ok (.sipush 258, 3) := by decide +kernel
theorem d_Model_readSymbol_65 : decode b_Model_readSymbol 65 = .ok (.iload_n 1, 1) := by decide +kernel
theorem d_Model_readSymbol_66 : decode b_Model_readSymbol 66 = .ok (.imul, 1) := by decide +kernel
theorem d_Model_readSymbol_67 : decode b_Model_readSymbol 67 = .ok (.iload 6, 2) := by decide +kernel
theorem d_Model_readSymbol_69 : decode b_Model_readSymbol 69 = .ok (.iadd, 1) := by decide +kernel
theorem d_Model_readSymbol_70 : decode b_Model_readSymbol 70 = .ok (.iaload, 1) := by decide +kernel
theorem d_Model_readSymbol_71 : decode b_Model_readSymbol 71 = .ok (.istore 7, 2) := by decide +kernel
theorem d_Model_readSymbol_73 : decode b_Model_readSymbol 73 = .ok (.aload_n 0, 1) := by decide +kernel
theorem d_Model_readSymbol_74 : decode b_Model_readSymbol 74 = .ok (.getfield 73, 3) := by decide +kernel
theorem d_Model_readSymbol_77 : decode b_Model_readSymbol 77 = .ok (.sipush 258, 3) := by decide +kernel
theorem d_Model_readSymbol_80 : decode b_Model_readSymbol 80 = .ok (.iload_n 1, 1) := by decide +kernel
theorem d_Model_readSymbol_81 : decode b_Model_readSymbol 81 = .ok (.imul, 1) := by decide +kernel
theorem d_Model_readSymbol_82 : decode b_Model_readSymbol 82 = .ok (.iload 6, 2) := by decide +kernel
theorem d_Model_readSymbol_84 : decode b_Model_readSymbol 84 = .ok (.iadd, 1) := by decide +kernel
theorem d_Model_readSymbol_85 : decode b_Model_readSymbol 85 = .ok (.iaload, 1) := by decide +kernel
theorem d_Model_readSymbol_86 : decode b_Model_readSymbol 86 = .ok (.istore 8, 2) := by decide +kernel
theorem d_Model_readSymbol_88 : decode b_Model_readSymbol 88 = .ok (.iload 7, 2) := by decide +kernel
theorem d_Model_readSymbol_90 : decode b_Model_readSymbol 90 = .ok (.iload 4, 2) := by decide +kernel
theorem d_Model_readSymbol_92 : decode b_Model_readSymbol 92 = .ok (.if_icmp .ne 12, 3) := by decide +kernel
theorem d_Model_readSymbol_95 : decode b_Model_readSymbol 95 = .ok (.iload 8, 2) := by decide +kernel
theorem d_Model_readSymbol_97 : decode b_Model_readSymbol 97 = .ok (.iload_n 3, 1) := by decide +kernel
theorem d_Model_readSymbol_98 : decode b_Model_readSymbol 98 = .ok (.if_icmp .ne 6, 3) := by decide +kernel
theorem d_Model_readSymbol_101 : decode b_Model_readSymbol 101 = .ok (.iload 6, 2) := by decide +kernel
theorem d_Model_readSymbol_103 : decode b_Model_readSymbol 103 = .ok (.ireturn, 1) := by decide +kernel
theorem d_Model_readSymbol_104 : decode b_Model_readSymbol 104 = .ok (.iload 5, 2) := by decide +kernel
theorem d_Model_readSymbol_106 : decode b_Model_readSymbol 106 = .ok (.iload 7, 2) := by decide +kernel
theorem d_Model_readSymbol_108 : decode b_Model_readSymbol 108 = .ok (.iload 4, 2) := by decide +kernel
theorem d_Model_readSymbol_110 : decode b_Model_readSymbol 110 = .ok (.if_icmp .le 19, 3) := by decide +kernel
theorem d_Model_readSymbol_113 : decode b_Model_readSymbol 113 = .ok (.iload 8, 2) := by decide +kernel
theorem d_Model_readSymbol_115 : decode b_Model_readSymbol 115 = .ok (.iload 7, 2) := by decide +kernel
theorem d_Model_readSymbol_117 : decode b_Model_readSymbol 117 = .ok (.iload 4, 2) := by decide +kernel
theorem d_Model_readSymbol_119 : decode b_Model_readSymbol 119 = .ok (.isub, 1) := by decide +kernel
theorem d_Model_readSymbol_120 : decode b_Model_readSymbol 120 = .ok (.ishr, 1) := by decide +kernel
theorem d_Model_readSymbol_121 : decode b_Model_readSymbol 121 = .ok (.iload_n 3, 1) := by decide +kernel
theorem d_Model_readSymbol_122 : decode b_Model_readSymbol 122 = .ok (.if_icmp .ne 7, 3) := by decide +kernel
theorem d_Model_readSymbol_125 : decode b_Model_readSymbol 125 = .ok (.iconst 1, 1) := by decide +kernel
theorem d_Model_readSymbol_126 : decode b_Model_readSymbol 126 = .ok (.goto 4, 3) := by decide +kernel
theorem d_Model_readSymbol_129 : decode b_Model_readSymbol 129 = .ok (.iconst 0, 1) := by decide +kernel
theorem d_Model_readSymbol_130 : decode b_Model_readSymbol 130 = .ok (.ior, 1) := by decide +kernel
theorem d_Model_readSymbol_131 : decode b_Model_readSymbol 131 = .ok (.istore 5, 2) := by decide +kernel
theorem d_Model_readSymbol_133 : decode b_Model_readSymbol 133 = .ok (.iinc 6 1, 3) := by decide +kernel
theorem d_Model_readSymbol_136 : decode b_Model_readSymbol 136 = .ok (.goto (-96), 3) := by decide +kernel
theorem d_Model_readSymbol_139 : decode b_Model_readSymbol 139 = .ok (.aload_n 0, 1) := by decide +kernel
theorem d_Model_readSymbol_140 : decode b_Model_readSymbol 140 = .ok (.invokevirtual 212, 3) := by decide +kernel
theorem d_Model_readSymbol_143 : decode b_Model_readSymbol 143 = .ok (.ifCond .eq 16, 3) := by decide +kernel
theorem d_Model_readSymbol_146 : decode b_Model_readSymbol 146 = .ok (.iload 5, 2) := by decide +kernel
theorem d_Model_readSymbol_148 : decode b_Model_readSymbol 148 = .ok (.ifCond .ne 11, 3) := by decide +kernel
theorem d_Model_readSymbol_151 : decode b_Model_readSymbol 151 = .ok (.aload_n 0, 1) := by decide +kernel
theorem d_Model_readSymbol_152 : decode b_Model_readSymbol 152 = .ok (.bipush 7, 2) := by decide +kernel
theorem d_Model_readSymbol_154 : decode b_Model_readSymbol 154 = .ok (.iload_n 2, 1) := by decide +kernel
theorem d_Model_readSymbol_155 : decode b_Model_readSymbol 155 = .ok (.invokevirtual 205, 3) := by decide +kernel
theorem d_Model_readSymbol_158 : decode b_Model_readSymbol 158 = .ok (.pop, 1) := by decide +kernel
theorem d_Model_readSymbol_159 : decode b_Model_readSymbol 159 = .ok (.iinc 4 1, 3) := by decide +kernel
theorem d_Model_readSymbol_162 : decode b_Model_readSymbol 162 = .ok (.goto (-152), 3) := by decide +kernel
theorem d_Model_readSymbol_165 : decode b_Model_readSymbol 165 = .ok (.iconst (-1), 1) := by decide +kernel
theorem d_Model_readSymbol_166 : decode b_Model_readSymbol 166 = .ok (.ireturn, 1) := by decide +kernel
set_option maxRecDepth 100000 in
set_option maxHeartbeats 4000000 in
theorem m_Model_readSymbol {C : gT} (hC : gOk C b_Model_readSymbol R_Model { frames := 2, cells := 0, slots := 0, locals := 45 } 9) (q_a0 : Nat) (q_a0_tape : Nat) (x_a0_fed : Int32) (r_a0_out : Nat) (x_a0_size : Int32) (x_a0_thrown : Int32) (x_a0_place : Int32) (r_a0_told : Nat) (x_a0_tells : Int32) (r_a0_order : Nat) (r_a0_merged : Nat) (r_a0_last : Nat) (r_a0_up : Nat) (r_a0_symbols : Nat) (x_a0_many : Int32) (r_a0_list : Nat) (x_a0_listed : Int32) (r_a0_tables : Nat) (x_a0_groups : Int32) (x_a0_tableCount : Int32) (r_a0_lengths : Nat) (r_a0_codes : Nat) (r_a0_weights : Nat) (r_a0_parents : Nat) (r_a0_counts : Nat) (x_a0_origin : Int32) (x_a0_check : Int32) (x_a0_blocks : Int32) (x_a0_fresh : Int32) (x_a0_allTells : Int32) (x_a0_allSymbols : Int32) (x_a0_allGroups : Int32) (x_a0_bit : Int32) (x_a0_checkOfAll : Int32) (x_a0_fault : Int32) (x_a0_total : Int32) (r_a0_rows : Nat) (r_a0_from : Nat) (x_a0_rowCount : Int32) (r_a0_chosen : Nat) (x_a0_chosenCount : Int32) (q_a0_seen : Nat) (q_a0_prefix : Nat) (x_a0_seenTables : Int32) (x_a0_seenBytes : Int32) (x_a0_limit : Int32) (x_a0_count : Int32) (f_a0_tape : (Nat → Int32)) (f_a0_seen : (Nat → Int32)) (f_a0_prefix : (Nat → Int32)) (p1 : Int32) (out : (Int32 × Int32 × Int32 × Int32)) (hf : Model_readSymbol_f x_a0_total f_a0_tape x_a0_seenBytes p1 f_a0_seen f_a0_prefix x_a0_bit x_a0_fault x_a0_place = some out) (kr : ∀ (x : Unit) (o9 : (Int32 × Int32 × Int32 × Int32)) (pc : Nat) (lv : List (Nat × Value)), o9 = out → decode b_Model_readSymbol pc = .ok (.ireturn, 1) → narrow .int (.int o9.1) = .int o9.1 → gAt C 0 0 [(q_a0, .inr (12, [.ref q_a0_tape, .int x_a0_fed, .ref r_a0_out, .int x_a0_size, .int x_a0_thrown, .int o9.2.2.1, .ref r_a0_told, .int x_a0_tells, .ref r_a0_order, .ref r_a0_merged, .ref r_a0_last, .ref r_a0_up, .ref r_a0_symbols, .int x_a0_many, .ref r_a0_list, .int x_a0_listed, .ref r_a0_tables, .int x_a0_groups, .int x_a0_tableCount, .ref r_a0_lengths, .ref r_a0_codes, .ref r_a0_weights, .ref r_a0_parents, .ref r_a0_counts, .int x_a0_origin, .int x_a0_check, .int x_a0_blocks, .int x_a0_fresh, .int x_a0_allTells, .int x_a0_allSymbols, .int x_a0_allGroups, .int o9.2.2.2, .int x_a0_checkOfAll, .int o9.2.1, .int x_a0_total, .ref r_a0_rows, .ref r_a0_from, .int x_a0_rowCount, .ref r_a0_chosen, .int x_a0_chosenCount, .ref q_a0_seen, .ref q_a0_prefix, .int x_a0_seenTables, .int x_a0_seenBytes, .int x_a0_limit, .int x_a0_count])), (q_a0_tape, .inl (g_K C 1, 10240, .inl f_a0_tape)), (q_a0_seen, .inl (g_K C 0, 1548, .inl f_a0_seen)), (q_a0_prefix, .inl (g_K C 0, 1548, .inl f_a0_prefix))] lv pc [.int o9.1]) : gAt C 0 0 [(q_a0, .inr (12, [.ref q_a0_tape, .int x_a0_fed, .ref r_a0_out, .int x_a0_size, .int x_a0_thrown, .int x_a0_place, .ref r_a0_told, .int x_a0_tells, .ref r_a0_order, .ref r_a0_merged, .ref r_a0_last, .ref r_a0_up, .ref r_a0_symbols, .int x_a0_many, .ref r_a0_list, .int x_a0_listed, .ref r_a0_tables, .int x_a0_groups, .int x_a0_tableCount, .ref r_a0_lengths, .ref r_a0_codes, .ref r_a0_weights, .ref r_a0_parents, .ref r_a0_counts, .int x_a0_origin, .int x_a0_check, .int x_a0_blocks, .int x_a0_fresh, .int x_a0_allTells, .int x_a0_allSymbols, .int x_a0_allGroups, .int x_a0_bit, .int x_a0_checkOfAll, .int x_a0_fault, .int x_a0_total, .ref r_a0_rows, .ref r_a0_from, .int x_a0_rowCount, .ref r_a0_chosen, .int x_a0_chosenCount, .ref q_a0_seen, .ref q_a0_prefix, .int x_a0_seenTables, .int x_a0_seenBytes, .int x_a0_limit, .int x_a0_count])), (q_a0_tape, .inl (g_K C 1, 10240, .inl f_a0_tape)), (q_a0_seen, .inl (g_K C 0, 1548, .inl f_a0_seen)), (q_a0_prefix, .inl (g_K C 0, 1548, .inl f_a0_prefix))] [(0, .ref q_a0), (1, .int p1)] 0 [] := by
  unfold Model_readSymbol_f at hf
  refine g_aload_n 0 hC (j := 0) (hj := rfl) (hd := d_Model_readSymbol_0) ?_
  refine g_get 1 hC i_Model rfl 0 rfl 31 (by decide) k1260 rfl d_Model_readSymbol_1 ?_
  refine g_istore_n 4 hC (lv2 := [(2, .int x_a0_bit), (0, .ref q_a0), (1, .int p1)]) (hn := (by decide)) (hl2 := rfl) (hd := d_Model_readSymbol_4) ?_
  refine g_iconst 5 hC (0 : Int32) (by decide) d_Model_readSymbol_5 ?_
  refine g_istore_n 6 hC (lv2 := [(3, .int (0 : Int32)), (2, .int x_a0_bit), (0, .ref q_a0), (1, .int p1)]) (hn := (by decide)) (hl2 := rfl) (hd := d_Model_readSymbol_6) ?_
  refine g_iconst 7 hC (1 : Int32) (by decide) d_Model_readSymbol_7 ?_
  refine g_istore 8 hC (lv2 := [(4, .int (1 : Int32)), (3, .int (0 : Int32)), (2, .int x_a0_bit), (0, .ref q_a0), (1, .int p1)]) (hn := (by decide)) (hl2 := rfl) (hd := d_Model_readSymbol_8) ?_
  obtain ⟨u2, hu2, hf⟩ := bd_some hf
  have Xu2_0 : ∀ (v3 : (Int32 × Int32 × Int32 × Int32)), Sum.inl v3 = u2 → gAt C 0 0 [(q_a0, .inr (12, [.ref q_a0_tape, .int x_a0_fed, .ref r_a0_out, .int x_a0_size, .int x_a0_thrown, .int v3.2.2.1, .ref r_a0_told, .int x_a0_tells, .ref r_a0_order, .ref r_a0_merged, .ref r_a0_last, .ref r_a0_up, .ref r_a0_symbols, .int x_a0_many, .ref r_a0_list, .int x_a0_listed, .ref r_a0_tables, .int x_a0_groups, .int x_a0_tableCount, .ref r_a0_lengths, .ref r_a0_codes, .ref r_a0_weights, .ref r_a0_parents, .ref r_a0_counts, .int x_a0_origin, .int x_a0_check, .int x_a0_blocks, .int x_a0_fresh, .int x_a0_allTells, .int x_a0_allSymbols, .int x_a0_allGroups, .int v3.2.2.2, .int x_a0_checkOfAll, .int v3.2.1, .int x_a0_total, .ref r_a0_rows, .ref r_a0_from, .int x_a0_rowCount, .ref r_a0_chosen, .int x_a0_chosenCount, .ref q_a0_seen, .ref q_a0_prefix, .int x_a0_seenTables, .int x_a0_seenBytes, .int x_a0_limit, .int x_a0_count])), (q_a0_tape, .inl (g_K C 1, 10240, .inl f_a0_tape)), (q_a0_seen, .inl (g_K C 0, 1548, .inl f_a0_seen)), (q_a0_prefix, .inl (g_K C 0, 1548, .inl f_a0_prefix))] [(6, .int v3.1)] 101 [] := by
    intro v3 hv
    rw [← hv] at hf
    have hf := el_l hf
    refine g_iload 101 hC (j := 0) (hj := rfl) (hd := d_Model_readSymbol_101) ?_
    exact g_re [0, 1, 2, 3] [] rfl rfl rfl (kr () (v3.1, v3.2.1, v3.2.2.1, v3.2.2.2) 103 [] (Option.some.inj hf) d_Model_readSymbol_103 rfl)
  have Xu2_1 : ∀ (v4 : (Int32 × Int32 × Int32)), Sum.inr v4 = u2 → gAt C 0 0 [(q_a0, .inr (12, [.ref q_a0_tape, .int x_a0_fed, .ref r_a0_out, .int x_a0_size, .int x_a0_thrown, .int v4.2.1, .ref r_a0_told, .int x_a0_tells, .ref r_a0_order, .ref r_a0_merged, .ref r_a0_last, .ref r_a0_up, .ref r_a0_symbols, .int x_a0_many, .ref r_a0_list, .int x_a0_listed, .ref r_a0_tables, .int x_a0_groups, .int x_a0_tableCount, .ref r_a0_lengths, .ref r_a0_codes, .ref r_a0_weights, .ref r_a0_parents, .ref r_a0_counts, .int x_a0_origin, .int x_a0_check, .int x_a0_blocks, .int x_a0_fresh, .int x_a0_allTells, .int x_a0_allSymbols, .int x_a0_allGroups, .int v4.2.2, .int x_a0_checkOfAll, .int v4.1, .int x_a0_total, .ref r_a0_rows, .ref r_a0_from, .int x_a0_rowCount, .ref r_a0_chosen, .int x_a0_chosenCount, .ref q_a0_seen, .ref q_a0_prefix, .int x_a0_seenTables, .int x_a0_seenBytes, .int x_a0_limit, .int x_a0_count])), (q_a0_tape, .inl (g_K C 1, 10240, .inl f_a0_tape)), (q_a0_seen, .inl (g_K C 0, 1548, .inl f_a0_seen)), (q_a0_prefix, .inl (g_K C 0, 1548, .inl f_a0_prefix))] [] 165 [] := by
    intro v4 hv
    rw [← hv] at hf
    have hf := el_r hf
    refine g_iconst 165 hC (-1 : Int32) (by decide) d_Model_readSymbol_165 ?_
    exact kr () ((-1 : Int32), v4.1, v4.2.1, v4.2.2) 166 [] (Option.some.inj hf) d_Model_readSymbol_166 rfl
  have Gu2 := lp_ind (b := (Model_readSymbol_L10 x_a0_total f_a0_tape x_a0_seenBytes p1 f_a0_seen f_a0_prefix x_a0_bit)) (G := fun (s1 : (Int32 × Int32 × Int32 × Int32 × Int32)) => gAt C 0 0 [(q_a0, .inr (12, [.ref q_a0_tape, .int x_a0_fed, .ref r_a0_out, .int x_a0_size, .int x_a0_thrown, .int s1.2.2.2.1, .ref r_a0_told, .int x_a0_tells, .ref r_a0_order, .ref r_a0_merged, .ref r_a0_last, .ref r_a0_up, .ref r_a0_symbols, .int x_a0_many, .ref r_a0_list, .int x_a0_listed, .ref r_a0_tables, .int x_a0_groups, .int x_a0_tableCount, .ref r_a0_lengths, .ref r_a0_codes, .ref r_a0_weights, .ref r_a0_parents, .ref r_a0_counts, .int x_a0_origin, .int x_a0_check, .int x_a0_blocks, .int x_a0_fresh, .int x_a0_allTells, .int x_a0_allSymbols, .int x_a0_allGroups, .int s1.2.2.2.2, .int x_a0_checkOfAll, .int s1.2.2.1, .int x_a0_total, .ref r_a0_rows, .ref r_a0_from, .int x_a0_rowCount, .ref r_a0_chosen, .int x_a0_chosenCount, .ref q_a0_seen, .ref q_a0_prefix, .int x_a0_seenTables, .int x_a0_seenBytes, .int x_a0_limit, .int x_a0_count])), (q_a0_tape, .inl (g_K C 1, 10240, .inl f_a0_tape)), (q_a0_seen, .inl (g_K C 0, 1548, .inl f_a0_seen)), (q_a0_prefix, .inl (g_K C 0, 1548, .inl f_a0_prefix))] [(0, .ref q_a0), (1, .int p1), (2, .int x_a0_bit), (3, .int s1.1), (4, .int s1.2.1)] 10 []) (o := u2) (by
      intro s1 u5 hf hI hX
      unfold Model_readSymbol_L10 at hf
      have J159 : ∀ (j159_0 : Int32) (j159_1 : Int32) (j159_2 : Int32) (j159_3 : Int32), Model_readSymbol_J159 s1 j159_0 j159_1 j159_2 j159_3 = some u5 → gAt C 0 0 [(q_a0, .inr (12, [.ref q_a0_tape, .int x_a0_fed, .ref r_a0_out, .int x_a0_size, .int x_a0_thrown, .int j159_2, .ref r_a0_told, .int x_a0_tells, .ref r_a0_order, .ref r_a0_merged, .ref r_a0_last, .ref r_a0_up, .ref r_a0_symbols, .int x_a0_many, .ref r_a0_list, .int x_a0_listed, .ref r_a0_tables, .int x_a0_groups, .int x_a0_tableCount, .ref r_a0_lengths, .ref r_a0_codes, .ref r_a0_weights, .ref r_a0_parents, .ref r_a0_counts, .int x_a0_origin, .int x_a0_check, .int x_a0_blocks, .int x_a0_fresh, .int x_a0_allTells, .int x_a0_allSymbols, .int x_a0_allGroups, .int j159_3, .int x_a0_checkOfAll, .int j159_1, .int x_a0_total, .ref r_a0_rows, .ref r_a0_from, .int x_a0_rowCount, .ref r_a0_chosen, .int x_a0_chosenCount, .ref q_a0_seen, .ref q_a0_prefix, .int x_a0_seenTables, .int x_a0_seenBytes, .int x_a0_limit, .int x_a0_count])), (q_a0_tape, .inl (g_K C 1, 10240, .inl f_a0_tape)), (q_a0_seen, .inl (g_K C 0, 1548, .inl f_a0_seen)), (q_a0_prefix, .inl (g_K C 0, 1548, .inl f_a0_prefix))] [(0, .ref q_a0), (1, .int p1), (2, .int x_a0_bit), (3, .int j159_0), (4, .int s1.2.1)] 159 [] := by
        intro j159_0 j159_1 j159_2 j159_3 hf
        unfold Model_readSymbol_J159 at hf
        refine g_iinc 159 hC 4 (1 : Int32) [(4, .int (s1.2.1 + (1 : Int32))), (0, .ref q_a0), (1, .int p1), (2, .int x_a0_bit), (3, .int j159_0)] rfl (by decide) (by decide) rfl d_Model_readSymbol_159 ?_
        refine g_goto 162 hC 10 (by decide) d_Model_readSymbol_162 ?_
        exact g_re [0, 1, 2, 3] [1, 2, 3, 4, 0] rfl rfl rfl (hI (j159_0, (s1.2.1 + (1 : Int32)), j159_1, j159_2, j159_3) hf)
      refine g_iload 10 hC (j := 4) (hj := rfl) (hd := d_Model_readSymbol_10) ?_
      refine g_bipush 12 hC (20 : Int32) (by decide) d_Model_readSymbol_12 ?_
      refine g_icmp_gt 14 hC 165 (by decide) d_Model_readSymbol_14 (fun c6 => ?_) (fun c6 => ?_)
      · have hf := it_t c6 hf
        exact g_re [0, 1, 2, 3] [] rfl rfl rfl (Xu2_1 (s1.2.2.1, s1.2.2.2.1, s1.2.2.2.2) (hX (Sum.inr (s1.2.2.1, s1.2.2.2.1, s1.2.2.2.2)) hf))
      · have hf := it_f c6 hf
        refine g_aload_n 17 hC (j := 0) (hj := rfl) (hd := d_Model_readSymbol_17) ?_
        obtain ⟨u7, hu7, hf⟩ := bd_some hf
        refine g_callVi 18 hC (c_Model_isFine (g_l C) (g_D C) (g_K C) q_a0 q_a0_tape x_a0_fed r_a0_out x_a0_size x_a0_thrown s1.2.2.2.1 r_a0_told x_a0_tells r_a0_order r_a0_merged r_a0_last r_a0_up r_a0_symbols x_a0_many r_a0_list x_a0_listed r_a0_tables x_a0_groups x_a0_tableCount r_a0_lengths r_a0_codes r_a0_weights r_a0_parents r_a0_counts x_a0_origin x_a0_check x_a0_blocks x_a0_fresh x_a0_allTells x_a0_allSymbols x_a0_allGroups s1.2.2.2.2 x_a0_checkOfAll s1.2.2.1 x_a0_total r_a0_rows r_a0_from x_a0_rowCount r_a0_chosen x_a0_chosenCount q_a0_seen q_a0_prefix x_a0_seenTables x_a0_seenBytes x_a0_limit x_a0_count u7 hu7) k1521 k14 k1518 k1520 ks60 0 rfl (by decide +kernel) (by decide) [0] [1, 2, 3] [(q_a0_tape, .inl (g_K C 1, 10240, .inl f_a0_tape)), (q_a0_seen, .inl (g_K C 0, 1548, .inl f_a0_seen)), (q_a0_prefix, .inl (g_K C 0, 1548, .inl f_a0_prefix))] rfl rfl rfl rfl rfl 0 12 rfl rfl rfl rfl (Nat.le_of_ble_eq_true rfl) ⟨Nat.le_of_ble_eq_true rfl, Nat.le_of_ble_eq_true rfl⟩ (fun (_ : Unit) => [(q_a0_tape, .inl (g_K C 1, 10240, .inl f_a0_tape)), (q_a0_seen, .inl (g_K C 0, 1548, .inl f_a0_seen)), (q_a0_prefix, .inl (g_K C 0, 1548, .inl f_a0_prefix)), (q_a0, .inr (12, [.ref q_a0_tape, .int x_a0_fed, .ref r_a0_out, .int x_a0_size, .int x_a0_thrown, .int s1.2.2.2.1, .ref r_a0_told, .int x_a0_tells, .ref r_a0_order, .ref r_a0_merged, .ref r_a0_last, .ref r_a0_up, .ref r_a0_symbols, .int x_a0_many, .ref r_a0_list, .int x_a0_listed, .ref r_a0_tables, .int x_a0_groups, .int x_a0_tableCount, .ref r_a0_lengths, .ref r_a0_codes, .ref r_a0_weights, .ref r_a0_parents, .ref r_a0_counts, .int x_a0_origin, .int x_a0_check, .int x_a0_blocks, .int x_a0_fresh, .int x_a0_allTells, .int x_a0_allSymbols, .int x_a0_allGroups, .int s1.2.2.2.2, .int x_a0_checkOfAll, .int s1.2.2.1, .int x_a0_total, .ref r_a0_rows, .ref r_a0_from, .int x_a0_rowCount, .ref r_a0_chosen, .int x_a0_chosenCount, .ref q_a0_seen, .ref q_a0_prefix, .int x_a0_seenTables, .int x_a0_seenBytes, .int x_a0_limit, .int x_a0_count]))]) (fun _ => rfl) d_Model_readSymbol_18 0 0 rfl rfl (fun _ => ?_)
        refine g_if_eq 21 hC 165 (by decide) d_Model_readSymbol_21 (fun c8 => ?_) (fun c8 => ?_)
        · have hf := it_t c8 hf
          exact g_re [3, 0, 1, 2] [] rfl rfl rfl (Xu2_1 (s1.2.2.1, s1.2.2.2.1, s1.2.2.2.2) (hX (Sum.inr (s1.2.2.1, s1.2.2.2.1, s1.2.2.2.2)) hf))
        · have hf := it_f c8 hf
          refine g_iload_n 24 hC (j := 3) (hj := rfl) (hd := d_Model_readSymbol_24) ?_
          refine g_iconst 25 hC (1 : Int32) (by decide) d_Model_readSymbol_25 ?_
          refine g_ishl 26 hC d_Model_readSymbol_26 ?_
          refine g_aload_n 27 hC (j := 0) (hj := rfl) (hd := d_Model_readSymbol_27) ?_
          refine g_iconst 28 hC (1 : Int32) (by decide) d_Model_readSymbol_28 ?_
          obtain ⟨u9, hu9, hf⟩ := bd_some hf
          refine g_callVi 29 hC (c_Model_read (g_l C) (g_D C) (g_K C) q_a0 q_a0_tape x_a0_fed r_a0_out x_a0_size x_a0_thrown s1.2.2.2.1 r_a0_told x_a0_tells r_a0_order r_a0_merged r_a0_last r_a0_up r_a0_symbols x_a0_many r_a0_list x_a0_listed r_a0_tables x_a0_groups x_a0_tableCount r_a0_lengths r_a0_codes r_a0_weights r_a0_parents r_a0_counts x_a0_origin x_a0_check x_a0_blocks x_a0_fresh x_a0_allTells x_a0_allSymbols x_a0_allGroups s1.2.2.2.2 x_a0_checkOfAll s1.2.2.1 x_a0_total r_a0_rows r_a0_from x_a0_rowCount r_a0_chosen x_a0_chosenCount q_a0_seen q_a0_prefix x_a0_seenTables x_a0_seenBytes x_a0_limit x_a0_count f_a0_tape (1 : Int32) u9 hu9) k1513 k14 k1510 k1512 ks58 1 rfl (by decide +kernel) (by decide) [3, 0] [1, 2] [(q_a0_seen, .inl (g_K C 0, 1548, .inl f_a0_seen)), (q_a0_prefix, .inl (g_K C 0, 1548, .inl f_a0_prefix))] rfl rfl rfl rfl rfl 0 12 rfl rfl rfl rfl (Nat.le_of_ble_eq_true rfl) ⟨Nat.le_of_ble_eq_true rfl, Nat.le_of_ble_eq_true rfl⟩ (fun (_ : Unit) => [(q_a0_seen, .inl (g_K C 0, 1548, .inl f_a0_seen)), (q_a0_prefix, .inl (g_K C 0, 1548, .inl f_a0_prefix)), (q_a0, .inr (12, [.ref q_a0_tape, .int x_a0_fed, .ref r_a0_out, .int x_a0_size, .int x_a0_thrown, .int u9.2.2.1, .ref r_a0_told, .int x_a0_tells, .ref r_a0_order, .ref r_a0_merged, .ref r_a0_last, .ref r_a0_up, .ref r_a0_symbols, .int x_a0_many, .ref r_a0_list, .int x_a0_listed, .ref r_a0_tables, .int x_a0_groups, .int x_a0_tableCount, .ref r_a0_lengths, .ref r_a0_codes, .ref r_a0_weights, .ref r_a0_parents, .ref r_a0_counts, .int x_a0_origin, .int x_a0_check, .int x_a0_blocks, .int x_a0_fresh, .int x_a0_allTells, .int x_a0_allSymbols, .int x_a0_allGroups, .int u9.2.2.2, .int x_a0_checkOfAll, .int u9.2.1, .int x_a0_total, .ref r_a0_rows, .ref r_a0_from, .int x_a0_rowCount, .ref r_a0_chosen, .int x_a0_chosenCount, .ref q_a0_seen, .ref q_a0_prefix, .int x_a0_seenTables, .int x_a0_seenBytes, .int x_a0_limit, .int x_a0_count])), (q_a0_tape, .inl (g_K C 1, 10240, .inl f_a0_tape))]) (fun _ => rfl) d_Model_readSymbol_29 0 0 rfl rfl (fun _ => ?_)
          refine g_ior 32 hC d_Model_readSymbol_32 ?_
          refine g_istore_n 33 hC (lv2 := [(3, .int ((s1.1 <<< ((1 : Int32) &&& 31)) ||| u9.1)), (0, .ref q_a0), (1, .int p1), (2, .int x_a0_bit), (4, .int s1.2.1)]) (hn := (by decide)) (hl2 := rfl) (hd := d_Model_readSymbol_33) ?_
          refine g_iconst 34 hC (0 : Int32) (by decide) d_Model_readSymbol_34 ?_
          refine g_istore 35 hC (lv2 := [(5, .int (0 : Int32)), (3, .int ((s1.1 <<< ((1 : Int32) &&& 31)) ||| u9.1)), (0, .ref q_a0), (1, .int p1), (2, .int x_a0_bit), (4, .int s1.2.1)]) (hn := (by decide)) (hl2 := rfl) (hd := d_Model_readSymbol_35) ?_
          refine g_iconst 37 hC (0 : Int32) (by decide) d_Model_readSymbol_37 ?_
          refine g_istore 38 hC (lv2 := [(6, .int (0 : Int32)), (5, .int (0 : Int32)), (3, .int ((s1.1 <<< ((1 : Int32) &&& 31)) ||| u9.1)), (0, .ref q_a0), (1, .int p1), (2, .int x_a0_bit), (4, .int s1.2.1)]) (hn := (by decide)) (hl2 := rfl) (hd := d_Model_readSymbol_38) ?_
          obtain ⟨u11, hu11, hf⟩ := bd_some hf
          have Xu11_0 : ∀ (v12 : Int32), Sum.inl v12 = u11 → gAt C 0 0 [(q_a0, .inr (12, [.ref q_a0_tape, .int x_a0_fed, .ref r_a0_out, .int x_a0_size, .int x_a0_thrown, .int u9.2.2.1, .ref r_a0_told, .int x_a0_tells, .ref r_a0_order, .ref r_a0_merged, .ref r_a0_last, .ref r_a0_up, .ref r_a0_symbols, .int x_a0_many, .ref r_a0_list, .int x_a0_listed, .ref r_a0_tables, .int x_a0_groups, .int x_a0_tableCount, .ref r_a0_lengths, .ref r_a0_codes, .ref r_a0_weights, .ref r_a0_parents, .ref r_a0_counts, .int x_a0_origin, .int x_a0_check, .int x_a0_blocks, .int x_a0_fresh, .int x_a0_allTells, .int x_a0_allSymbols, .int x_a0_allGroups, .int u9.2.2.2, .int x_a0_checkOfAll, .int u9.2.1, .int x_a0_total, .ref r_a0_rows, .ref r_a0_from, .int x_a0_rowCount, .ref r_a0_chosen, .int x_a0_chosenCount, .ref q_a0_seen, .ref q_a0_prefix, .int x_a0_seenTables, .int x_a0_seenBytes, .int x_a0_limit, .int x_a0_count])), (q_a0_tape, .inl (g_K C 1, 10240, .inl f_a0_tape)), (q_a0_seen, .inl (g_K C 0, 1548, .inl f_a0_seen)), (q_a0_prefix, .inl (g_K C 0, 1548, .inl f_a0_prefix))] [(6, .int v12)] 101 [] := by
            intro v12 hv
            rw [← hv] at hf
            have hf := el_l hf
            exact Xu2_0 (v12, u9.2.1, u9.2.2.1, u9.2.2.2) (hX (Sum.inl (v12, u9.2.1, u9.2.2.1, u9.2.2.2)) hf)
          have Xu11_1 : ∀ (v13 : Int32), Sum.inr v13 = u11 → gAt C 0 0 [(q_a0, .inr (12, [.ref q_a0_tape, .int x_a0_fed, .ref r_a0_out, .int x_a0_size, .int x_a0_thrown, .int u9.2.2.1, .ref r_a0_told, .int x_a0_tells, .ref r_a0_order, .ref r_a0_merged, .ref r_a0_last, .ref r_a0_up, .ref r_a0_symbols, .int x_a0_many, .ref r_a0_list, .int x_a0_listed, .ref r_a0_tables, .int x_a0_groups, .int x_a0_tableCount, .ref r_a0_lengths, .ref r_a0_codes, .ref r_a0_weights, .ref r_a0_parents, .ref r_a0_counts, .int x_a0_origin, .int x_a0_check, .int x_a0_blocks, .int x_a0_fresh, .int x_a0_allTells, .int x_a0_allSymbols, .int x_a0_allGroups, .int u9.2.2.2, .int x_a0_checkOfAll, .int u9.2.1, .int x_a0_total, .ref r_a0_rows, .ref r_a0_from, .int x_a0_rowCount, .ref r_a0_chosen, .int x_a0_chosenCount, .ref q_a0_seen, .ref q_a0_prefix, .int x_a0_seenTables, .int x_a0_seenBytes, .int x_a0_limit, .int x_a0_count])), (q_a0_tape, .inl (g_K C 1, 10240, .inl f_a0_tape)), (q_a0_seen, .inl (g_K C 0, 1548, .inl f_a0_seen)), (q_a0_prefix, .inl (g_K C 0, 1548, .inl f_a0_prefix))] [(0, .ref q_a0), (1, .int p1), (2, .int x_a0_bit), (3, .int ((s1.1 <<< ((1 : Int32) &&& 31)) ||| u9.1)), (4, .int s1.2.1), (5, .int v13)] 139 [] := by
            intro v13 hv
            rw [← hv] at hf
            have hf := el_r hf
            refine g_aload_n 139 hC (j := 0) (hj := rfl) (hd := d_Model_readSymbol_139) ?_
            obtain ⟨u14, hu14, hf⟩ := bd_some hf
            refine g_callVi 140 hC (c_Model_isFine (g_l C) (g_D C) (g_K C) q_a0 q_a0_tape x_a0_fed r_a0_out x_a0_size x_a0_thrown u9.2.2.1 r_a0_told x_a0_tells r_a0_order r_a0_merged r_a0_last r_a0_up r_a0_symbols x_a0_many r_a0_list x_a0_listed r_a0_tables x_a0_groups x_a0_tableCount r_a0_lengths r_a0_codes r_a0_weights r_a0_parents r_a0_counts x_a0_origin x_a0_check x_a0_blocks x_a0_fresh x_a0_allTells x_a0_allSymbols x_a0_allGroups u9.2.2.2 x_a0_checkOfAll u9.2.1 x_a0_total r_a0_rows r_a0_from x_a0_rowCount r_a0_chosen x_a0_chosenCount q_a0_seen q_a0_prefix x_a0_seenTables x_a0_seenBytes x_a0_limit x_a0_count u14 hu14) k1521 k14 k1518 k1520 ks60 0 rfl (by decide +kernel) (by decide) [0] [1, 2, 3] [(q_a0_tape, .inl (g_K C 1, 10240, .inl f_a0_tape)), (q_a0_seen, .inl (g_K C 0, 1548, .inl f_a0_seen)), (q_a0_prefix, .inl (g_K C 0, 1548, .inl f_a0_prefix))] rfl rfl rfl rfl rfl 0 12 rfl rfl rfl rfl (Nat.le_of_ble_eq_true rfl) ⟨Nat.le_of_ble_eq_true rfl, Nat.le_of_ble_eq_true rfl⟩ (fun (_ : Unit) => [(q_a0_tape, .inl (g_K C 1, 10240, .inl f_a0_tape)), (q_a0_seen, .inl (g_K C 0, 1548, .inl f_a0_seen)), (q_a0_prefix, .inl (g_K C 0, 1548, .inl f_a0_prefix)), (q_a0, .inr (12, [.ref q_a0_tape, .int x_a0_fed, .ref r_a0_out, .int x_a0_size, .int x_a0_thrown, .int u9.2.2.1, .ref r_a0_told, .int x_a0_tells, .ref r_a0_order, .ref r_a0_merged, .ref r_a0_last, .ref r_a0_up, .ref r_a0_symbols, .int x_a0_many, .ref r_a0_list, .int x_a0_listed, .ref r_a0_tables, .int x_a0_groups, .int x_a0_tableCount, .ref r_a0_lengths, .ref r_a0_codes, .ref r_a0_weights, .ref r_a0_parents, .ref r_a0_counts, .int x_a0_origin, .int x_a0_check, .int x_a0_blocks, .int x_a0_fresh, .int x_a0_allTells, .int x_a0_allSymbols, .int x_a0_allGroups, .int u9.2.2.2, .int x_a0_checkOfAll, .int u9.2.1, .int x_a0_total, .ref r_a0_rows, .ref r_a0_from, .int x_a0_rowCount, .ref r_a0_chosen, .int x_a0_chosenCount, .ref q_a0_seen, .ref q_a0_prefix, .int x_a0_seenTables, .int x_a0_seenBytes, .int x_a0_limit, .int x_a0_count]))]) (fun _ => rfl) d_Model_readSymbol_140 0 0 rfl rfl (fun _ => ?_)
            refine g_if_eq 143 hC 159 (by decide) d_Model_readSymbol_143 (fun c15 => ?_) (fun c15 => ?_)
            · have hf := it_t c15 hf
              exact g_re [3, 0, 1, 2] [0, 1, 2, 3, 4] rfl rfl rfl (J159 ((s1.1 <<< ((1 : Int32) &&& 31)) ||| u9.1) u9.2.1 u9.2.2.1 u9.2.2.2 hf)
            · have hf := it_f c15 hf
              refine g_iload 146 hC (j := 5) (hj := rfl) (hd := d_Model_readSymbol_146) ?_
              refine g_if_ne 148 hC 159 (by decide) d_Model_readSymbol_148 (fun c16 => ?_) (fun c16 => ?_)
              · have hf := it_f c16 hf
                exact g_re [3, 0, 1, 2] [0, 1, 2, 3, 4] rfl rfl rfl (J159 ((s1.1 <<< ((1 : Int32) &&& 31)) ||| u9.1) u9.2.1 u9.2.2.1 u9.2.2.2 hf)
              · have hf := it_t c16 hf
                refine g_aload_n 151 hC (j := 0) (hj := rfl) (hd := d_Model_readSymbol_151) ?_
                refine g_bipush 152 hC (7 : Int32) (by decide) d_Model_readSymbol_152 ?_
                refine g_iload_n 154 hC (j := 2) (hj := rfl) (hd := d_Model_readSymbol_154) ?_
                obtain ⟨u17, hu17, hf⟩ := bd_some hf
                refine g_callVi 155 hC (c_Model_stop (g_l C) (g_D C) (g_K C) q_a0 q_a0_tape x_a0_fed r_a0_out x_a0_size x_a0_thrown u9.2.2.1 r_a0_told x_a0_tells r_a0_order r_a0_merged r_a0_last r_a0_up r_a0_symbols x_a0_many r_a0_list x_a0_listed r_a0_tables x_a0_groups x_a0_tableCount r_a0_lengths r_a0_codes r_a0_weights r_a0_parents r_a0_counts x_a0_origin x_a0_check x_a0_blocks x_a0_fresh x_a0_allTells x_a0_allSymbols x_a0_allGroups u9.2.2.2 x_a0_checkOfAll u9.2.1 x_a0_total r_a0_rows r_a0_from x_a0_rowCount r_a0_chosen x_a0_chosenCount q_a0_seen q_a0_prefix x_a0_seenTables x_a0_seenBytes x_a0_limit x_a0_count (7 : Int32) x_a0_bit u17 hu17) k1517 k14 k1514 k1516 ks59 2 rfl (by decide +kernel) (by decide) [3] [0, 1, 2] [(q_a0_tape, .inl (g_K C 1, 10240, .inl f_a0_tape)), (q_a0_seen, .inl (g_K C 0, 1548, .inl f_a0_seen)), (q_a0_prefix, .inl (g_K C 0, 1548, .inl f_a0_prefix))] rfl rfl rfl rfl rfl 0 12 rfl rfl rfl rfl (Nat.le_of_ble_eq_true rfl) ⟨Nat.le_of_ble_eq_true rfl, Nat.le_of_ble_eq_true rfl⟩ (fun (_ : Unit) => [(q_a0_tape, .inl (g_K C 1, 10240, .inl f_a0_tape)), (q_a0_seen, .inl (g_K C 0, 1548, .inl f_a0_seen)), (q_a0_prefix, .inl (g_K C 0, 1548, .inl f_a0_prefix)), (q_a0, .inr (12, [.ref q_a0_tape, .int x_a0_fed, .ref r_a0_out, .int x_a0_size, .int x_a0_thrown, .int u17.2.2, .ref r_a0_told, .int x_a0_tells, .ref r_a0_order, .ref r_a0_merged, .ref r_a0_last, .ref r_a0_up, .ref r_a0_symbols, .int x_a0_many, .ref r_a0_list, .int x_a0_listed, .ref r_a0_tables, .int x_a0_groups, .int x_a0_tableCount, .ref r_a0_lengths, .ref r_a0_codes, .ref r_a0_weights, .ref r_a0_parents, .ref r_a0_counts, .int x_a0_origin, .int x_a0_check, .int x_a0_blocks, .int x_a0_fresh, .int x_a0_allTells, .int x_a0_allSymbols, .int x_a0_allGroups, .int u9.2.2.2, .int x_a0_checkOfAll, .int u17.2.1, .int x_a0_total, .ref r_a0_rows, .ref r_a0_from, .int x_a0_rowCount, .ref r_a0_chosen, .int x_a0_chosenCount, .ref q_a0_seen, .ref q_a0_prefix, .int x_a0_seenTables, .int x_a0_seenBytes, .int x_a0_limit, .int x_a0_count]))]) (fun _ => rfl) d_Model_readSymbol_155 0 0 rfl rfl (fun _ => ?_)
                refine g_pop 158 hC rfl d_Model_readSymbol_158 ?_
                exact g_re [3, 0, 1, 2] [0, 1, 2, 3, 4] rfl rfl rfl (J159 ((s1.1 <<< ((1 : Int32) &&& 31)) ||| u9.1) u17.2.1 u17.2.2 u9.2.2.2 hf)
          have Gu11 := lp_ind (b := (Model_readSymbol_L40 x_a0_seenBytes u9 p1 f_a0_seen s1 f_a0_prefix)) (G := fun (s10 : (Int32 × Int32)) => gAt C 0 0 [(q_a0, .inr (12, [.ref q_a0_tape, .int x_a0_fed, .ref r_a0_out, .int x_a0_size, .int x_a0_thrown, .int u9.2.2.1, .ref r_a0_told, .int x_a0_tells, .ref r_a0_order, .ref r_a0_merged, .ref r_a0_last, .ref r_a0_up, .ref r_a0_symbols, .int x_a0_many, .ref r_a0_list, .int x_a0_listed, .ref r_a0_tables, .int x_a0_groups, .int x_a0_tableCount, .ref r_a0_lengths, .ref r_a0_codes, .ref r_a0_weights, .ref r_a0_parents, .ref r_a0_counts, .int x_a0_origin, .int x_a0_check, .int x_a0_blocks, .int x_a0_fresh, .int x_a0_allTells, .int x_a0_allSymbols, .int x_a0_allGroups, .int u9.2.2.2, .int x_a0_checkOfAll, .int u9.2.1, .int x_a0_total, .ref r_a0_rows, .ref r_a0_from, .int x_a0_rowCount, .ref r_a0_chosen, .int x_a0_chosenCount, .ref q_a0_seen, .ref q_a0_prefix, .int x_a0_seenTables, .int x_a0_seenBytes, .int x_a0_limit, .int x_a0_count])), (q_a0_tape, .inl (g_K C 1, 10240, .inl f_a0_tape)), (q_a0_seen, .inl (g_K C 0, 1548, .inl f_a0_seen)), (q_a0_prefix, .inl (g_K C 0, 1548, .inl f_a0_prefix))] [(0, .ref q_a0), (1, .int p1), (2, .int x_a0_bit), (3, .int ((s1.1 <<< ((1 : Int32) &&& 31)) ||| u9.1)), (4, .int s1.2.1), (5, .int s10.1), (6, .int s10.2)] 40 []) (o := u11) (by
              intro s10 u18 hf hI hX
              unfold Model_readSymbol_L40 at hf
              have J130 : ∀ (j130_0 : Int32) (j130_1 : Int32), Model_readSymbol_J130 s10 j130_0 j130_1 = some u18 → gAt C 0 0 [(q_a0, .inr (12, [.ref q_a0_tape, .int x_a0_fed, .ref r_a0_out, .int x_a0_size, .int x_a0_thrown, .int u9.2.2.1, .ref r_a0_told, .int x_a0_tells, .ref r_a0_order, .ref r_a0_merged, .ref r_a0_last, .ref r_a0_up, .ref r_a0_symbols, .int x_a0_many, .ref r_a0_list, .int x_a0_listed, .ref r_a0_tables, .int x_a0_groups, .int x_a0_tableCount, .ref r_a0_lengths, .ref r_a0_codes, .ref r_a0_weights, .ref r_a0_parents, .ref r_a0_counts, .int x_a0_origin, .int x_a0_check, .int x_a0_blocks, .int x_a0_fresh, .int x_a0_allTells, .int x_a0_allSymbols, .int x_a0_allGroups, .int u9.2.2.2, .int x_a0_checkOfAll, .int u9.2.1, .int x_a0_total, .ref r_a0_rows, .ref r_a0_from, .int x_a0_rowCount, .ref r_a0_chosen, .int x_a0_chosenCount, .ref q_a0_seen, .ref q_a0_prefix, .int x_a0_seenTables, .int x_a0_seenBytes, .int x_a0_limit, .int x_a0_count])), (q_a0_tape, .inl (g_K C 1, 10240, .inl f_a0_tape)), (q_a0_seen, .inl (g_K C 0, 1548, .inl f_a0_seen)), (q_a0_prefix, .inl (g_K C 0, 1548, .inl f_a0_prefix))] [(0, .ref q_a0), (1, .int p1), (2, .int x_a0_bit), (3, .int ((s1.1 <<< ((1 : Int32) &&& 31)) ||| u9.1)), (4, .int s1.2.1), (6, .int s10.2)] 130 [.int j130_0, .int j130_1] := by
                intro j130_0 j130_1 hf
                unfold Model_readSymbol_J130 at hf
                refine g_ior 130 hC d_Model_readSymbol_130 ?_
                refine g_istore 131 hC (lv2 := [(5, .int (j130_1 ||| j130_0)), (0, .ref q_a0), (1, .int p1), (2, .int x_a0_bit), (3, .int ((s1.1 <<< ((1 : Int32) &&& 31)) ||| u9.1)), (4, .int s1.2.1), (6, .int s10.2)]) (hn := (by decide)) (hl2 := rfl) (hd := d_Model_readSymbol_131) ?_
                refine g_iinc 133 hC 6 (1 : Int32) [(6, .int (s10.2 + (1 : Int32))), (5, .int (j130_1 ||| j130_0)), (0, .ref q_a0), (1, .int p1), (2, .int x_a0_bit), (3, .int ((s1.1 <<< ((1 : Int32) &&& 31)) ||| u9.1)), (4, .int s1.2.1)] rfl (by decide) (by decide) rfl d_Model_readSymbol_133 ?_
                refine g_goto 136 hC 40 (by decide) d_Model_readSymbol_136 ?_
                exact g_re [0, 1, 2, 3] [2, 3, 4, 5, 6, 1, 0] rfl rfl rfl (hI ((j130_1 ||| j130_0), (s10.2 + (1 : Int32))) hf)
              have J129 : ∀ (j129_0 : Int32), Model_readSymbol_J129 s10 j129_0 = some u18 → gAt C 0 0 [(q_a0, .inr (12, [.ref q_a0_tape, .int x_a0_fed, .ref r_a0_out, .int x_a0_size, .int x_a0_thrown, .int u9.2.2.1, .ref r_a0_told, .int x_a0_tells, .ref r_a0_order, .ref r_a0_merged, .ref r_a0_last, .ref r_a0_up, .ref r_a0_symbols, .int x_a0_many, .ref r_a0_list, .int x_a0_listed, .ref r_a0_tables, .int x_a0_groups, .int x_a0_tableCount, .ref r_a0_lengths, .ref r_a0_codes, .ref r_a0_weights, .ref r_a0_parents, .ref r_a0_counts, .int x_a0_origin, .int x_a0_check, .int x_a0_blocks, .int x_a0_fresh, .int x_a0_allTells, .int x_a0_allSymbols, .int x_a0_allGroups, .int u9.2.2.2, .int x_a0_checkOfAll, .int u9.2.1, .int x_a0_total, .ref r_a0_rows, .ref r_a0_from, .int x_a0_rowCount, .ref r_a0_chosen, .int x_a0_chosenCount, .ref q_a0_seen, .ref q_a0_prefix, .int x_a0_seenTables, .int x_a0_seenBytes, .int x_a0_limit, .int x_a0_count])), (q_a0_tape, .inl (g_K C 1, 10240, .inl f_a0_tape)), (q_a0_seen, .inl (g_K C 0, 1548, .inl f_a0_seen)), (q_a0_prefix, .inl (g_K C 0, 1548, .inl f_a0_prefix))] [(0, .ref q_a0), (1, .int p1), (2, .int x_a0_bit), (3, .int ((s1.1 <<< ((1 : Int32) &&& 31)) ||| u9.1)), (4, .int s1.2.1), (6, .int s10.2)] 129 [.int j129_0] := by
                intro j129_0 hf
                unfold Model_readSymbol_J129 at hf
                refine g_iconst 129 hC (0 : Int32) (by decide) d_Model_readSymbol_129 ?_
                exact J130 (0 : Int32) j129_0 hf
              have J104 : ∀ (j104_0 : Int32) (j104_1 : Int32), Model_readSymbol_J104 s1 s10 u9 j104_0 j104_1 = some u18 → gAt C 0 0 [(q_a0, .inr (12, [.ref q_a0_tape, .int x_a0_fed, .ref r_a0_out, .int x_a0_size, .int x_a0_thrown, .int u9.2.2.1, .ref r_a0_told, .int x_a0_tells, .ref r_a0_order, .ref r_a0_merged, .ref r_a0_last, .ref r_a0_up, .ref r_a0_symbols, .int x_a0_many, .ref r_a0_list, .int x_a0_listed, .ref r_a0_tables, .int x_a0_groups, .int x_a0_tableCount, .ref r_a0_lengths, .ref r_a0_codes, .ref r_a0_weights, .ref r_a0_parents, .ref r_a0_counts, .int x_a0_origin, .int x_a0_check, .int x_a0_blocks, .int x_a0_fresh, .int x_a0_allTells, .int x_a0_allSymbols, .int x_a0_allGroups, .int u9.2.2.2, .int x_a0_checkOfAll, .int u9.2.1, .int x_a0_total, .ref r_a0_rows, .ref r_a0_from, .int x_a0_rowCount, .ref r_a0_chosen, .int x_a0_chosenCount, .ref q_a0_seen, .ref q_a0_prefix, .int x_a0_seenTables, .int x_a0_seenBytes, .int x_a0_limit, .int x_a0_count])), (q_a0_tape, .inl (g_K C 1, 10240, .inl f_a0_tape)), (q_a0_seen, .inl (g_K C 0, 1548, .inl f_a0_seen)), (q_a0_prefix, .inl (g_K C 0, 1548, .inl f_a0_prefix))] [(0, .ref q_a0), (1, .int p1), (2, .int x_a0_bit), (3, .int ((s1.1 <<< ((1 : Int32) &&& 31)) ||| u9.1)), (4, .int s1.2.1), (5, .int s10.1), (6, .int s10.2), (7, .int j104_0), (8, .int j104_1)] 104 [] := by
                intro j104_0 j104_1 hf
                unfold Model_readSymbol_J104 at hf
                refine g_iload 104 hC (j := 5) (hj := rfl) (hd := d_Model_readSymbol_104) ?_
                refine g_iload 106 hC (j := 7) (hj := rfl) (hd := d_Model_readSymbol_106) ?_
                refine g_iload 108 hC (j := 4) (hj := rfl) (hd := d_Model_readSymbol_108) ?_
                refine g_icmp_le 110 hC 129 (by decide) d_Model_readSymbol_110 (fun c19 => ?_) (fun c19 => ?_)
                · have hf := it_t c19 hf
                  exact g_re [0, 1, 2, 3] [0, 1, 2, 3, 4, 6] rfl rfl rfl (J129 s10.1 hf)
                · have hf := it_f c19 hf
                  refine g_iload 113 hC (j := 8) (hj := rfl) (hd := d_Model_readSymbol_113) ?_
                  refine g_iload 115 hC (j := 7) (hj := rfl) (hd := d_Model_readSymbol_115) ?_
                  refine g_iload 117 hC (j := 4) (hj := rfl) (hd := d_Model_readSymbol_117) ?_
                  refine g_isub 119 hC d_Model_readSymbol_119 ?_
                  refine g_ishr 120 hC d_Model_readSymbol_120 ?_
                  refine g_iload_n 121 hC (j := 3) (hj := rfl) (hd := d_Model_readSymbol_121) ?_
                  refine g_icmp_ne 122 hC 129 (by decide) d_Model_readSymbol_122 (fun c20 => ?_) (fun c20 => ?_)
                  · have hf := it_f c20 hf
                    exact g_re [0, 1, 2, 3] [0, 1, 2, 3, 4, 6] rfl rfl rfl (J129 s10.1 hf)
                  · have hf := it_t c20 hf
                    refine g_iconst 125 hC (1 : Int32) (by decide) d_Model_readSymbol_125 ?_
                    refine g_goto 126 hC 130 (by decide) d_Model_readSymbol_126 ?_
                    exact g_re [0, 1, 2, 3] [0, 1, 2, 3, 4, 6] rfl rfl rfl (J130 (1 : Int32) s10.1 hf)
              refine g_iload 40 hC (j := 6) (hj := rfl) (hd := d_Model_readSymbol_40) ?_
              refine g_aload_n 42 hC (j := 0) (hj := rfl) (hd := d_Model_readSymbol_42) ?_
              refine g_get 43 hC i_Model rfl 0 rfl 43 (by decide) k1272 rfl d_Model_readSymbol_43 ?_
              refine g_iconst 46 hC (2 : Int32) (by decide) d_Model_readSymbol_46 ?_
              refine g_iadd 47 hC d_Model_readSymbol_47 ?_
              refine g_icmp_ge 48 hC 139 (by decide) d_Model_readSymbol_48 (fun c21 => ?_) (fun c21 => ?_)
              · have hf := it_t c21 hf
                exact g_re [0, 1, 2, 3] [0, 1, 2, 3, 4, 5] rfl rfl rfl (Xu11_1 s10.1 (hX (Sum.inr s10.1) hf))
              · have hf := it_f c21 hf
                refine g_aload_n 51 hC (j := 0) (hj := rfl) (hd := d_Model_readSymbol_51) ?_
                obtain ⟨u22, hu22, hf⟩ := bd_some hf
                refine g_callVi 52 hC (c_Model_isFine (g_l C) (g_D C) (g_K C) q_a0 q_a0_tape x_a0_fed r_a0_out x_a0_size x_a0_thrown u9.2.2.1 r_a0_told x_a0_tells r_a0_order r_a0_merged r_a0_last r_a0_up r_a0_symbols x_a0_many r_a0_list x_a0_listed r_a0_tables x_a0_groups x_a0_tableCount r_a0_lengths r_a0_codes r_a0_weights r_a0_parents r_a0_counts x_a0_origin x_a0_check x_a0_blocks x_a0_fresh x_a0_allTells x_a0_allSymbols x_a0_allGroups u9.2.2.2 x_a0_checkOfAll u9.2.1 x_a0_total r_a0_rows r_a0_from x_a0_rowCount r_a0_chosen x_a0_chosenCount q_a0_seen q_a0_prefix x_a0_seenTables x_a0_seenBytes x_a0_limit x_a0_count u22 hu22) k1521 k14 k1518 k1520 ks60 0 rfl (by decide +kernel) (by decide) [0] [1, 2, 3] [(q_a0_tape, .inl (g_K C 1, 10240, .inl f_a0_tape)), (q_a0_seen, .inl (g_K C 0, 1548, .inl f_a0_seen)), (q_a0_prefix, .inl (g_K C 0, 1548, .inl f_a0_prefix))] rfl rfl rfl rfl rfl 0 12 rfl rfl rfl rfl (Nat.le_of_ble_eq_true rfl) ⟨Nat.le_of_ble_eq_true rfl, Nat.le_of_ble_eq_true rfl⟩ (fun (_ : Unit) => [(q_a0_tape, .inl (g_K C 1, 10240, .inl f_a0_tape)), (q_a0_seen, .inl (g_K C 0, 1548, .inl f_a0_seen)), (q_a0_prefix, .inl (g_K C 0, 1548, .inl f_a0_prefix)), (q_a0, .inr (12, [.ref q_a0_tape, .int x_a0_fed, .ref r_a0_out, .int x_a0_size, .int x_a0_thrown, .int u9.2.2.1, .ref r_a0_told, .int x_a0_tells, .ref r_a0_order, .ref r_a0_merged, .ref r_a0_last, .ref r_a0_up, .ref r_a0_symbols, .int x_a0_many, .ref r_a0_list, .int x_a0_listed, .ref r_a0_tables, .int x_a0_groups, .int x_a0_tableCount, .ref r_a0_lengths, .ref r_a0_codes, .ref r_a0_weights, .ref r_a0_parents, .ref r_a0_counts, .int x_a0_origin, .int x_a0_check, .int x_a0_blocks, .int x_a0_fresh, .int x_a0_allTells, .int x_a0_allSymbols, .int x_a0_allGroups, .int u9.2.2.2, .int x_a0_checkOfAll, .int u9.2.1, .int x_a0_total, .ref r_a0_rows, .ref r_a0_from, .int x_a0_rowCount, .ref r_a0_chosen, .int x_a0_chosenCount, .ref q_a0_seen, .ref q_a0_prefix, .int x_a0_seenTables, .int x_a0_seenBytes, .int x_a0_limit, .int x_a0_count]))]) (fun _ => rfl) d_Model_readSymbol_52 0 0 rfl rfl (fun _ => ?_)
                refine g_if_eq 55 hC 139 (by decide) d_Model_readSymbol_55 (fun c23 => ?_) (fun c23 => ?_)
                · have hf := it_t c23 hf
                  exact g_re [3, 0, 1, 2] [0, 1, 2, 3, 4, 5] rfl rfl rfl (Xu11_1 s10.1 (hX (Sum.inr s10.1) hf))
                · have hf := it_f c23 hf
                  refine g_aload_n 58 hC (j := 0) (hj := rfl) (hd := d_Model_readSymbol_58) ?_
                  refine g_get 59 hC i_Model rfl 3 rfl 40 (by decide) k1269 rfl d_Model_readSymbol_59 ?_
                  refine g_sipush 62 hC (258 : Int32) (by decide) d_Model_readSymbol_62 ?_
                  refine g_iload_n 65 hC (j := 1) (hj := rfl) (hd := d_Model_readSymbol_65) ?_
                  refine g_imul 66 hC d_Model_readSymbol_66 ?_
                  refine g_iload 67 hC (j := 6) (hj := rfl) (hd := d_Model_readSymbol_67) ?_
                  refine g_iadd 69 hC d_Model_readSymbol_69 ?_
                  obtain ⟨e24, hf⟩ := gd_some hf
                  refine g_iald 70 hC 1 rfl e24 d_Model_readSymbol_70 ?_
                  refine g_istore 71 hC (lv2 := [(7, .int (f_a0_seen (((258 : Int32) * p1) + s10.2).toNatClampNeg)), (0, .ref q_a0), (1, .int p1), (2, .int x_a0_bit), (3, .int ((s1.1 <<< ((1 : Int32) &&& 31)) ||| u9.1)), (4, .int s1.2.1), (5, .int s10.1), (6, .int s10.2)]) (hn := (by decide)) (hl2 := rfl) (hd := d_Model_readSymbol_71) ?_
                  refine g_aload_n 73 hC (j := 1) (hj := rfl) (hd := d_Model_readSymbol_73) ?_
                  refine g_get 74 hC i_Model rfl 3 rfl 41 (by decide) k1270 rfl d_Model_readSymbol_74 ?_
                  refine g_sipush 77 hC (258 : Int32) (by decide) d_Model_readSymbol_77 ?_
                  refine g_iload_n 80 hC (j := 2) (hj := rfl) (hd := d_Model_readSymbol_80) ?_
                  refine g_imul 81 hC d_Model_readSymbol_81 ?_
                  refine g_iload 82 hC (j := 7) (hj := rfl) (hd := d_Model_readSymbol_82) ?_
                  refine g_iadd 84 hC d_Model_readSymbol_84 ?_
                  obtain ⟨e25, hf⟩ := gd_some hf
                  refine g_iald 85 hC 2 rfl e25 d_Model_readSymbol_85 ?_
                  refine g_istore 86 hC (lv2 := [(8, .int (f_a0_prefix (((258 : Int32) * p1) + s10.2).toNatClampNeg)), (7, .int (f_a0_seen (((258 : Int32) * p1) + s10.2).toNatClampNeg)), (0, .ref q_a0), (1, .int p1), (2, .int x_a0_bit), (3, .int ((s1.1 <<< ((1 : Int32) &&& 31)) ||| u9.1)), (4, .int s1.2.1), (5, .int s10.1), (6, .int s10.2)]) (hn := (by decide)) (hl2 := rfl) (hd := d_Model_readSymbol_86) ?_
                  refine g_iload 88 hC (j := 1) (hj := rfl) (hd := d_Model_readSymbol_88) ?_
                  refine g_iload 90 hC (j := 6) (hj := rfl) (hd := d_Model_readSymbol_90) ?_
                  refine g_icmp_ne 92 hC 104 (by decide) d_Model_readSymbol_92 (fun c26 => ?_) (fun c26 => ?_)
                  · have hf := it_f c26 hf
                    exact g_re [3, 0, 1, 2] [2, 3, 4, 5, 6, 7, 8, 1, 0] rfl rfl rfl (J104 (f_a0_seen (((258 : Int32) * p1) + s10.2).toNatClampNeg) (f_a0_prefix (((258 : Int32) * p1) + s10.2).toNatClampNeg) hf)
                  · have hf := it_t c26 hf
                    refine g_iload 95 hC (j := 0) (hj := rfl) (hd := d_Model_readSymbol_95) ?_
                    refine g_iload_n 97 hC (j := 5) (hj := rfl) (hd := d_Model_readSymbol_97) ?_
                    refine g_icmp_ne 98 hC 104 (by decide) d_Model_readSymbol_98 (fun c27 => ?_) (fun c27 => ?_)
                    · have hf := it_f c27 hf
                      exact g_re [3, 0, 1, 2] [2, 3, 4, 5, 6, 7, 8, 1, 0] rfl rfl rfl (J104 (f_a0_seen (((258 : Int32) * p1) + s10.2).toNatClampNeg) (f_a0_prefix (((258 : Int32) * p1) + s10.2).toNatClampNeg) hf)
                    · have hf := it_t c27 hf
                      exact g_re [3, 0, 1, 2] [8] rfl rfl rfl (Xu11_0 s10.2 (hX (Sum.inl s10.2) hf))) gas
          exact g_re [2, 3, 0, 1] [3, 4, 5, 2, 6, 1, 0] rfl rfl rfl (Gu11 ((0 : Int32), (0 : Int32)) hu11)) gas
  exact g_re [0, 1, 2, 3] [3, 4, 2, 1, 0] rfl rfl rfl (Gu2 ((0 : Int32), (1 : Int32), x_a0_fault, x_a0_place, x_a0_bit) hu2)
theorem c_Model_readSymbol (l : Launch) (D : va_G) (K : Nat → ClassId) (q_a0 : Nat) (q_a0_tape : Nat) (x_a0_fed : Int32) (r_a0_out : Nat) (x_a0_size : Int32) (x_a0_thrown : Int32) (x_a0_place : Int32) (r_a0_told : Nat) (x_a0_tells : Int32) (r_a0_order : Nat) (r_a0_merged : Nat) (r_a0_last : Nat) (r_a0_up : Nat) (r_a0_symbols : Nat) (x_a0_many : Int32) (r_a0_list : Nat) (x_a0_listed : Int32) (r_a0_tables : Nat) (x_a0_groups : Int32) (x_a0_tableCount : Int32) (r_a0_lengths : Nat) (r_a0_codes : Nat) (r_a0_weights : Nat) (r_a0_parents : Nat) (r_a0_counts : Nat) (x_a0_origin : Int32) (x_a0_check : Int32) (x_a0_blocks : Int32) (x_a0_fresh : Int32) (x_a0_allTells : Int32) (x_a0_allSymbols : Int32) (x_a0_allGroups : Int32) (x_a0_bit : Int32) (x_a0_checkOfAll : Int32) (x_a0_fault : Int32) (x_a0_total : Int32) (r_a0_rows : Nat) (r_a0_from : Nat) (x_a0_rowCount : Int32) (r_a0_chosen : Nat) (x_a0_chosenCount : Int32) (q_a0_seen : Nat) (q_a0_prefix : Nat) (x_a0_seenTables : Int32) (x_a0_seenBytes : Int32) (x_a0_limit : Int32) (x_a0_count : Int32) (f_a0_tape : (Nat → Int32)) (f_a0_seen : (Nat → Int32)) (f_a0_prefix : (Nat → Int32)) (p1 : Int32) (out : (Int32 × Int32 × Int32 × Int32)) (hf : Model_readSymbol_f x_a0_total f_a0_tape x_a0_seenBytes p1 f_a0_seen f_a0_prefix x_a0_bit x_a0_fault x_a0_place = some out) : Ci l D K y_Model_readSymbol (g_wd y_Model_readSymbol b_Model_readSymbol 9 (some .int)) { frames := 2, cells := 0, slots := 0, locals := 45 } [.ref q_a0, .int p1] [(q_a0, .inr (12, [.ref q_a0_tape, .int x_a0_fed, .ref r_a0_out, .int x_a0_size, .int x_a0_thrown, .int x_a0_place, .ref r_a0_told, .int x_a0_tells, .ref r_a0_order, .ref r_a0_merged, .ref r_a0_last, .ref r_a0_up, .ref r_a0_symbols, .int x_a0_many, .ref r_a0_list, .int x_a0_listed, .ref r_a0_tables, .int x_a0_groups, .int x_a0_tableCount, .ref r_a0_lengths, .ref r_a0_codes, .ref r_a0_weights, .ref r_a0_parents, .ref r_a0_counts, .int x_a0_origin, .int x_a0_check, .int x_a0_blocks, .int x_a0_fresh, .int x_a0_allTells, .int x_a0_allSymbols, .int x_a0_allGroups, .int x_a0_bit, .int x_a0_checkOfAll, .int x_a0_fault, .int x_a0_total, .ref r_a0_rows, .ref r_a0_from, .int x_a0_rowCount, .ref r_a0_chosen, .int x_a0_chosenCount, .ref q_a0_seen, .ref q_a0_prefix, .int x_a0_seenTables, .int x_a0_seenBytes, .int x_a0_limit, .int x_a0_count])), (q_a0_tape, .inl (K 1, 10240, .inl f_a0_tape)), (q_a0_seen, .inl (K 0, 1548, .inl f_a0_seen)), (q_a0_prefix, .inl (K 0, 1548, .inl f_a0_prefix))] (fun (x : Unit) => [(q_a0, .inr (12, [.ref q_a0_tape, .int x_a0_fed, .ref r_a0_out, .int x_a0_size, .int x_a0_thrown, .int out.2.2.1, .ref r_a0_told, .int x_a0_tells, .ref r_a0_order, .ref r_a0_merged, .ref r_a0_last, .ref r_a0_up, .ref r_a0_symbols, .int x_a0_many, .ref r_a0_list, .int x_a0_listed, .ref r_a0_tables, .int x_a0_groups, .int x_a0_tableCount, .ref r_a0_lengths, .ref r_a0_codes, .ref r_a0_weights, .ref r_a0_parents, .ref r_a0_counts, .int x_a0_origin, .int x_a0_check, .int x_a0_blocks, .int x_a0_fresh, .int x_a0_allTells, .int x_a0_allSymbols, .int x_a0_allGroups, .int out.2.2.2, .int x_a0_checkOfAll, .int out.2.1, .int x_a0_total, .ref r_a0_rows, .ref r_a0_from, .int x_a0_rowCount, .ref r_a0_chosen, .int x_a0_chosenCount, .ref q_a0_seen, .ref q_a0_prefix, .int x_a0_seenTables, .int x_a0_seenBytes, .int x_a0_limit, .int x_a0_count])), (q_a0_tape, .inl (K 1, 10240, .inl f_a0_tape)), (q_a0_seen, .inl (K 0, 1548, .inl f_a0_seen)), (q_a0_prefix, .inl (K 0, 1548, .inl f_a0_prefix))]) out.1 := mk_i (by decide) (Nat.le_of_ble_eq_true rfl) (fun p e s m below meth c A Q hC kr => m_Model_readSymbol hC q_a0 q_a0_tape x_a0_fed r_a0_out x_a0_size x_a0_thrown x_a0_place r_a0_told x_a0_tells r_a0_order r_a0_merged r_a0_last r_a0_up r_a0_symbols x_a0_many r_a0_list x_a0_listed r_a0_tables x_a0_groups x_a0_tableCount r_a0_lengths r_a0_codes r_a0_weights r_a0_parents r_a0_counts x_a0_origin x_a0_check x_a0_blocks x_a0_fresh x_a0_allTells x_a0_allSymbols x_a0_allGroups x_a0_bit x_a0_checkOfAll x_a0_fault x_a0_total r_a0_rows r_a0_from x_a0_rowCount r_a0_chosen x_a0_chosenCount q_a0_seen q_a0_prefix x_a0_seenTables x_a0_seenBytes x_a0_limit x_a0_count f_a0_tape f_a0_seen f_a0_prefix p1 out hf (fun x o9 pc lv ho => by subst ho; exact kr x pc lv))
