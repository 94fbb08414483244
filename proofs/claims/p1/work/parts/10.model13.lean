abbrev b_Model_bitsOf : ByteArray := prog_14_method_22_code
def y_Model_bitsOf : MethodName := ⟨R_Model, "bitsOf", "(II)I"⟩
theorem d_Model_bitsOf_0 : decode b_Model_bitsOf 0 = .ok (.iconst 0, 1) := by decide +kernel
theorem d_Model_bitsOf_1 : decode b_Model_bitsOf 1 = .ok (.istore_n 3, 1) := by decide +kernel
theorem d_Model_bitsOf_2 : decode b_Model_bitsOf 2 = .ok (.bipush 50, 2) := by decide +kernel
theorem d_Model_bitsOf_4 : decode b_Model_bitsOf 4 = .ok (.iload_n 1, 1) := by decide +kernel
theorem d_Model_bitsOf_5 : decode b_Model_bitsOf 5 = .ok (.imul, 1) := by decide +kernel
theorem d_Model_bitsOf_6 : decode b_Model_bitsOf 6 = .ok (.istore 4, 2) := by decide +kernel
theorem d_Model_bitsOf_8 : decode b_Model_bitsOf 8 = .ok (.iload 4, 2) := by decide +kernel
theorem d_Model_bitsOf_10 : decode b_Model_bitsOf 10 = .ok (.aload_n 0, 1) := by decide +kernel
theorem d_Model_bitsOf_11 : decode b_Model_bitsOf 11 = .ok (.getfield 113, 3) := by decide +kernel
theorem d_Model_bitsOf_14 : decode b_Model_bitsOf 14 = .ok (.if_icmp .ge 42, 3) := by decide +kernel
theorem d_Model_bitsOf_17 : decode b_Model_bitsOf 17 = .ok (.iload 4, 2) := by decide +kernel
theorem d_Model_bitsOf_19 : decode b_Model_bitsOf 19 = .ok (.bipush 50, 2) := by decide +kernel
theorem d_Model_bitsOf_21 : decode b_Model_bitsOf 21 = .ok (.iload_n 1, 1) := by decide +kernel
theorem d_Model_bitsOf_22 : decode b_Model_bitsOf 22 = .ok (.imul, 1) := by decide +kernel
theorem d_Model_bitsOf_23 : decode b_Model_bitsOf 23 = .ok (.bipush 50, 2) := by decide +kernel
theorem d_Model_bitsOf_25 : decode b_Model_bitsOf 25 = .ok (.iadd, 1) := by decide +kernel
theorem d_Model_bitsOf_26 : decode b_Model_bitsOf 26 = .ok (.if_icmp .ge 30, 3) := by decide +kernel
theorem d_Model_bitsOf_29 : decode b_Model_bitsOf 29 = .ok (.iload_n 3, 1) := by decide +kernel
theorem d_Model_bitsOf_30 : decode b_Model_bitsOf 30 = .ok (.aload_n 0, 1) := by decide +kernel
theorem d_Model_bitsOf_31 : decode b_Model_bitsOf 31 = .ok (.getfield 46, 3) := by decide +kernel
theorem d_Model_bitsOf_34 : decode b_Model_bitsOf 34 = .ok (.sipush 258, 3) := by decide +kernel
theorem d_Model_bitsOf_37 : decode b_Model_bitsOf 37 = .ok (.iload_n 2, 1) := by decide +kernel
theorem d_Model_bitsOf_38 : decode b_Model_bitsOf 38 = .ok (.imul, 1) := by decide +kernel
theorem d_Model_bitsOf_39 : decode b_Model_bitsOf 39 = .ok (.aload_n 0, 1) := by decide +kernel
theorem d_Model_bitsOf_40 : decode b_Model_bitsOf 40 = .ok (.getfield 37, 3) := by decide +kernel
theorem d_Model_bitsOf_43 : decode b_Model_bitsOf 43 = .ok (.iload 4, 2) := by decide +kernel
theorem d_Model_bitsOf_45 : decode b_Model_bitsOf 45 = .ok (.iaload, 1) := by decide +kernel
theorem d_Model_bitsOf_46 : decode b_Model_bitsOf 46 = .ok (.iadd, 1) := by decide +kernel
theorem d_Model_bitsOf_47 : decode b_Model_bitsOf 47 = .ok (.iaload, 1) := by decide +kernel
theorem d_Model_bitsOf_48 : decode b_Model_bitsOf 48 = .ok (.iadd, 1) := by decide +kernel
theorem d_Model_bitsOf_49 : decode b_Model_bitsOf 49 = .ok (.istore_n 3, 1) := by decide +kernel
theorem d_Model_bitsOf_50 : decode b_Model_bitsOf 50 = .ok (.iinc 4 1, 3) := by decide +kernel
theorem d_Model_bitsOf_53 : decode b_Model_bitsOf 53 = .ok (.goto (-45), 3) := by decide +kernel
theorem d_Model_bitsOf_56 : decode b_Model_bitsOf 56 = .ok (.iload_n 3, 1) := by decide +kernel
theorem d_Model_bitsOf_57 : decode b_Model_bitsOf 57 = .ok (.ireturn, 1) := by decide +kernel
set_option maxRecDepth 100000 in
set_option maxHeartbeats 4000000 in
theorem m_Model_bitsOf {C : gT} (hC : gOk C b_Model_bitsOf R_Model { frames := 0, cells := 0, slots := 0, locals := 0 } 5) (q_a0 : Nat) (r_a0_tape : Nat) (x_a0_fed : Int32) (r_a0_out : Nat) (x_a0_size : Int32) (x_a0_thrown : Int32) (x_a0_place : Int32) (r_a0_told : Nat) (x_a0_tells : Int32) (r_a0_order : Nat) (r_a0_merged : Nat) (r_a0_last : Nat) (r_a0_up : Nat) (q_a0_symbols : Nat) (x_a0_many : Int32) (r_a0_list : Nat) (x_a0_listed : Int32) (r_a0_tables : Nat) (x_a0_groups : Int32) (x_a0_tableCount : Int32) (q_a0_lengths : Nat) (r_a0_codes : Nat) (r_a0_weights : Nat) (r_a0_parents : Nat) (r_a0_counts : Nat) (x_a0_origin : Int32) (x_a0_check : Int32) (x_a0_blocks : Int32) (x_a0_fresh : Int32) (x_a0_allTells : Int32) (x_a0_allSymbols : Int32) (x_a0_allGroups : Int32) (x_a0_bit : Int32) (x_a0_checkOfAll : Int32) (x_a0_fault : Int32) (x_a0_total : Int32) (r_a0_rows : Nat) (r_a0_from : Nat) (x_a0_rowCount : Int32) (r_a0_chosen : Nat) (x_a0_chosenCount : Int32) (r_a0_seen : Nat) (r_a0_prefix : Nat) (x_a0_seenTables : Int32) (x_a0_seenBytes : Int32) (x_a0_limit : Int32) (x_a0_count : Int32) (f_a0_symbols : (Nat → Int32)) (f_a0_lengths : (Nat → Int32)) (p1 : Int32) (p2 : Int32) (out : Int32) (hf : Model_bitsOf_f x_a0_many p1 p2 f_a0_symbols f_a0_lengths = some out) (kr : ∀ (x : Unit) (o9 : Int32) (pc : Nat) (lv : List (Nat × Value)), o9 = out → decode b_Model_bitsOf pc = .ok (.ireturn, 1) → narrow .int (.int o9) = .int o9 → gAt C 0 0 [(q_a0, .inr (12, [.ref r_a0_tape, .int x_a0_fed, .ref r_a0_out, .int x_a0_size, .int x_a0_thrown, .int x_a0_place, .ref r_a0_told, .int x_a0_tells, .ref r_a0_order, .ref r_a0_merged, .ref r_a0_last, .ref r_a0_up, .ref q_a0_symbols, .int x_a0_many, .ref r_a0_list, .int x_a0_listed, .ref r_a0_tables, .int x_a0_groups, .int x_a0_tableCount, .ref q_a0_lengths, .ref r_a0_codes, .ref r_a0_weights, .ref r_a0_parents, .ref r_a0_counts, .int x_a0_origin, .int x_a0_check, .int x_a0_blocks, .int x_a0_fresh, .int x_a0_allTells, .int x_a0_allSymbols, .int x_a0_allGroups, .int x_a0_bit, .int x_a0_checkOfAll, .int x_a0_fault, .int x_a0_total, .ref r_a0_rows, .ref r_a0_from, .int x_a0_rowCount, .ref r_a0_chosen, .int x_a0_chosenCount, .ref r_a0_seen, .ref r_a0_prefix, .int x_a0_seenTables, .int x_a0_seenBytes, .int x_a0_limit, .int x_a0_count])), (q_a0_symbols, .inl (g_K C 0, 2251, .inl f_a0_symbols)), (q_a0_lengths, .inl (g_K C 0, 1548, .inl f_a0_lengths))] lv pc [.int o9]) : gAt C 0 0 [(q_a0, .inr (12, [.ref r_a0_tape, .int x_a0_fed, .ref r_a0_out, .int x_a0_size, .int x_a0_thrown, .int x_a0_place, .ref r_a0_told, .int x_a0_tells, .ref r_a0_order, .ref r_a0_merged, .ref r_a0_last, .ref r_a0_up, .ref q_a0_symbols, .int x_a0_many, .ref r_a0_list, .int x_a0_listed, .ref r_a0_tables, .int x_a0_groups, .int x_a0_tableCount, .ref q_a0_lengths, .ref r_a0_codes, .ref r_a0_weights, .ref r_a0_parents, .ref r_a0_counts, .int x_a0_origin, .int x_a0_check, .int x_a0_blocks, .int x_a0_fresh, .int x_a0_allTells, .int x_a0_allSymbols, .int x_a0_allGroups, .int x_a0_bit, .int x_a0_checkOfAll, .int x_a0_fault, .int x_a0_total, .ref r_a0_rows, .ref r_a0_from, .int x_a0_rowCount, .ref r_a0_chosen, .int x_a0_chosenCount, .ref r_a0_seen, .ref r_a0_prefix, .int x_a0_seenTables, .int x_a0_seenBytes, .int x_a0_limit, .int x_a0_count])), (q_a0_symbols, .inl (g_K C 0, 2251, .inl f_a0_symbols)), (q_a0_lengths, .inl (g_K C 0, 1548, .inl f_a0_lengths))] [(0, .ref q_a0), (1, .int p1), (2, .int p2)] 0 [] := by
  unfold Model_bitsOf_f at hf
  refine g_iconst 0 hC (0 : Int32) (by decide) d_Model_bitsOf_0 ?_
  refine g_istore_n 1 hC (lv2 := [(3, .int (0 : Int32)), (0, .ref q_a0), (1, .int p1), (2, .int p2)]) (hn := (by decide)) (hl2 := rfl) (hd := d_Model_bitsOf_1) ?_
  refine g_bipush 2 hC (50 : Int32) (by decide) d_Model_bitsOf_2 ?_
  refine g_iload_n 4 hC (j := 2) (hj := rfl) (hd := d_Model_bitsOf_4) ?_
  refine g_imul 5 hC d_Model_bitsOf_5 ?_
  refine g_istore 6 hC (lv2 := [(4, .int ((50 : Int32) * p1)), (3, .int (0 : Int32)), (0, .ref q_a0), (1, .int p1), (2, .int p2)]) (hn := (by decide)) (hl2 := rfl) (hd := d_Model_bitsOf_6) ?_
  obtain ⟨u2, hu2, hf⟩ := bd_some hf
  have Xu2_0 : ∀ (v3 : Int32), v3 = u2 → gAt C 0 0 [(q_a0, .inr (12, [.ref r_a0_tape, .int x_a0_fed, .ref r_a0_out, .int x_a0_size, .int x_a0_thrown, .int x_a0_place, .ref r_a0_told, .int x_a0_tells, .ref r_a0_order, .ref r_a0_merged, .ref r_a0_last, .ref r_a0_up, .ref q_a0_symbols, .int x_a0_many, .ref r_a0_list, .int x_a0_listed, .ref r_a0_tables, .int x_a0_groups, .int x_a0_tableCount, .ref q_a0_lengths, .ref r_a0_codes, .ref r_a0_weights, .ref r_a0_parents, .ref r_a0_counts, .int x_a0_origin, .int x_a0_check, .int x_a0_blocks, .int x_a0_fresh, .int x_a0_allTells, .int x_a0_allSymbols, .int x_a0_allGroups, .int x_a0_bit, .int x_a0_checkOfAll, .int x_a0_fault, .int x_a0_total, .ref r_a0_rows, .ref r_a0_from, .int x_a0_rowCount, .ref r_a0_chosen, .int x_a0_chosenCount, .ref r_a0_seen, .ref r_a0_prefix, .int x_a0_seenTables, .int x_a0_seenBytes, .int x_a0_limit, .int x_a0_count])), (q_a0_symbols, .inl (g_K C 0, 2251, .inl f_a0_symbols)), (q_a0_lengths, .inl (g_K C 0, 1548, .inl f_a0_lengths))] [(3, .int v3)] 56 [] := by
    intro v3 hv
    rw [← hv] at hf
    refine g_iload_n 56 hC (j := 0) (hj := rfl) (hd := d_Model_bitsOf_56) ?_
    exact g_re [0, 1, 2] [] rfl rfl rfl (kr () v3 57 [] (Option.some.inj hf) d_Model_bitsOf_57 rfl)
  have Gu2 := lp_ind (b := (Model_bitsOf_L8 x_a0_many p1 p2 f_a0_symbols f_a0_lengths)) (G := fun (s1 : (Int32 × Int32)) => gAt C 0 0 [(q_a0, .inr (12, [.ref r_a0_tape, .int x_a0_fed, .ref r_a0_out, .int x_a0_size, .int x_a0_thrown, .int x_a0_place, .ref r_a0_told, .int x_a0_tells, .ref r_a0_order, .ref r_a0_merged, .ref r_a0_last, .ref r_a0_up, .ref q_a0_symbols, .int x_a0_many, .ref r_a0_list, .int x_a0_listed, .ref r_a0_tables, .int x_a0_groups, .int x_a0_tableCount, .ref q_a0_lengths, .ref r_a0_codes, .ref r_a0_weights, .ref r_a0_parents, .ref r_a0_counts, .int x_a0_origin, .int x_a0_check, .int x_a0_blocks, .int x_a0_fresh, .int x_a0_allTells, .int x_a0_allSymbols, .int x_a0_allGroups, .int x_a0_bit, .int x_a0_checkOfAll, .int x_a0_fault, .int x_a0_total, .ref r_a0_rows, .ref r_a0_from, .int x_a0_rowCount, .ref r_a0_chosen, .int x_a0_chosenCount, .ref r_a0_seen, .ref r_a0_prefix, .int x_a0_seenTables, .int x_a0_seenBytes, .int x_a0_limit, .int x_a0_count])), (q_a0_symbols, .inl (g_K C 0, 2251, .inl f_a0_symbols)), (q_a0_lengths, .inl (g_K C 0, 1548, .inl f_a0_lengths))] [(0, .ref q_a0), (1, .int p1), (2, .int p2), (3, .int s1.1), (4, .int s1.2)] 8 []) (o := u2) (by
      intro s1 u4 hf hI hX
      unfold Model_bitsOf_L8 at hf
      refine g_iload 8 hC (j := 4) (hj := rfl) (hd := d_Model_bitsOf_8) ?_
      refine g_aload_n 10 hC (j := 0) (hj := rfl) (hd := d_Model_bitsOf_10) ?_
      refine g_get 11 hC i_Model rfl 0 rfl 13 (by decide) k1242 rfl d_Model_bitsOf_11 ?_
      refine g_icmp_ge 14 hC 56 (by decide) d_Model_bitsOf_14 (fun c5 => ?_) (fun c5 => ?_)
      · have hf := it_t c5 hf
        exact g_re [0, 1, 2] [3] rfl rfl rfl (Xu2_0 s1.1 (hX s1.1 hf))
      · have hf := it_f c5 hf
        refine g_iload 17 hC (j := 4) (hj := rfl) (hd := d_Model_bitsOf_17) ?_
        refine g_bipush 19 hC (50 : Int32) (by decide) d_Model_bitsOf_19 ?_
        refine g_iload_n 21 hC (j := 1) (hj := rfl) (hd := d_Model_bitsOf_21) ?_
        refine g_imul 22 hC d_Model_bitsOf_22 ?_
        refine g_bipush 23 hC (50 : Int32) (by decide) d_Model_bitsOf_23 ?_
        refine g_iadd 25 hC d_Model_bitsOf_25 ?_
        refine g_icmp_ge 26 hC 56 (by decide) d_Model_bitsOf_26 (fun c6 => ?_) (fun c6 => ?_)
        · have hf := it_t c6 hf
          exact g_re [0, 1, 2] [3] rfl rfl rfl (Xu2_0 s1.1 (hX s1.1 hf))
        · have hf := it_f c6 hf
          refine g_iload_n 29 hC (j := 3) (hj := rfl) (hd := d_Model_bitsOf_29) ?_
          refine g_aload_n 30 hC (j := 0) (hj := rfl) (hd := d_Model_bitsOf_30) ?_
          refine g_get 31 hC i_Model rfl 0 rfl 19 (by decide) k1248 rfl d_Model_bitsOf_31 ?_
          refine g_sipush 34 hC (258 : Int32) (by decide) d_Model_bitsOf_34 ?_
          refine g_iload_n 37 hC (j := 2) (hj := rfl) (hd := d_Model_bitsOf_37) ?_
          refine g_imul 38 hC d_Model_bitsOf_38 ?_
          refine g_aload_n 39 hC (j := 0) (hj := rfl) (hd := d_Model_bitsOf_39) ?_
          refine g_get 40 hC i_Model rfl 0 rfl 12 (by decide) k1241 rfl d_Model_bitsOf_40 ?_
          refine g_iload 43 hC (j := 4) (hj := rfl) (hd := d_Model_bitsOf_43) ?_
          obtain ⟨e7, hf⟩ := gd_some hf
          refine g_iald 45 hC 1 rfl e7 d_Model_bitsOf_45 ?_
          refine g_iadd 46 hC d_Model_bitsOf_46 ?_
          obtain ⟨e8, hf⟩ := gd_some hf
          refine g_iald 47 hC 2 rfl e8 d_Model_bitsOf_47 ?_
          refine g_iadd 48 hC d_Model_bitsOf_48 ?_
          refine g_istore_n 49 hC (lv2 := [(3, .int (s1.1 + (f_a0_lengths (((258 : Int32) * p2) + (f_a0_symbols s1.2.toNatClampNeg)).toNatClampNeg))), (0, .ref q_a0), (1, .int p1), (2, .int p2), (4, .int s1.2)]) (hn := (by decide)) (hl2 := rfl) (hd := d_Model_bitsOf_49) ?_
          refine g_iinc 50 hC 4 (1 : Int32) [(4, .int (s1.2 + (1 : Int32))), (3, .int (s1.1 + (f_a0_lengths (((258 : Int32) * p2) + (f_a0_symbols s1.2.toNatClampNeg)).toNatClampNeg))), (0, .ref q_a0), (1, .int p1), (2, .int p2)] rfl (by decide) (by decide) rfl d_Model_bitsOf_50 ?_
          refine g_goto 53 hC 8 (by decide) d_Model_bitsOf_53 ?_
          exact g_re [0, 1, 2] [2, 3, 4, 1, 0] rfl rfl rfl (hI ((s1.1 + (f_a0_lengths (((258 : Int32) * p2) + (f_a0_symbols s1.2.toNatClampNeg)).toNatClampNeg)), (s1.2 + (1 : Int32))) hf)) gas
  exact g_re [0, 1, 2] [2, 3, 4, 1, 0] rfl rfl rfl (Gu2 ((0 : Int32), ((50 : Int32) * p1)) hu2)
theorem c_Model_bitsOf (l : Launch) (D : va_G) (K : Nat → ClassId) (q_a0 : Nat) (r_a0_tape : Nat) (x_a0_fed : Int32) (r_a0_out : Nat) (x_a0_size : Int32) (x_a0_thrown : Int32) (x_a0_place : Int32) (r_a0_told : Nat) (x_a0_tells : Int32) (r_a0_order : Nat) (r_a0_merged : Nat) (r_a0_last : Nat) (r_a0_up : Nat) (q_a0_symbols : Nat) (x_a0_many : Int32) (r_a0_list : Nat) (x_a0_listed : Int32) (r_a0_tables : Nat) (x_a0_groups : Int32) (x_a0_tableCount : Int32) (q_a0_lengths : Nat) (r_a0_codes : Nat) (r_a0_weights : Nat) (r_a0_parents : Nat) (r_a0_counts : Nat) (x_a0_origin : Int32) (x_a0_check : Int32) (x_a0_blocks : Int32) (x_a0_fresh : Int32) (x_a0_allTells : Int32) (x_a0_allSymbols : Int32) (x_a0_allGroups : Int32) (x_a0_bit : Int32) (x_a0_checkOfAll : Int32) (x_a0_fault : Int32) (x_a0_total : Int32) (r_a0_rows : Nat) (r_a0_from : Nat) (x_a0_rowCount : Int32) (r_a0_chosen : Nat) (x_a0_chosenCount : Int32) (r_a0_seen : Nat) (r_a0_prefix : Nat) (x_a0_seenTables : Int32) (x_a0_seenBytes : Int32) (x_a0_limit : Int32) (x_a0_count : Int32) (f_a0_symbols : (Nat → Int32)) (f_a0_lengths : (Nat → Int32)) (p1 : Int32) (p2 : Int32) (out : Int32) (hf : Model_bitsOf_f x_a0_many p1 p2 f_a0_symbols f_a0_lengths = some out) : Ci l D K y_Model_bitsOf (g_wd y_Model_bitsOf b_Model_bitsOf 5 (some .int)) { frames := 0, cells := 0, slots := 0, locals := 0 } [.ref q_a0, .int p1, .int p2] [(q_a0, .inr (12, [.ref r_a0_tape, .int x_a0_fed, .ref r_a0_out, .int x_a0_size, .int x_a0_thrown, .int x_a0_place, .ref r_a0_told, .int x_a0_tells, .ref r_a0_order, .ref r_a0_merged, .ref r_a0_last, .ref r_a0_up, .ref q_a0_symbols, .int x_a0_many, .ref r_a0_list, .int x_a0_listed, .ref r_a0_tables, .int x_a0_groups, .int x_a0_tableCount, .ref q_a0_lengths, .ref r_a0_codes, .ref r_a0_weights, .ref r_a0_parents, .ref r_a0_counts, .int x_a0_origin, .int x_a0_check, .int x_a0_blocks, .int x_a0_fresh, .int x_a0_allTells, .int x_a0_allSymbols, .int x_a0_allGroups, .int x_a0_bit, .int x_a0_checkOfAll, .int x_a0_fault, .int x_a0_total, .ref r_a0_rows, .ref r_a0_from, .int x_a0_rowCount, .ref r_a0_chosen, .int x_a0_chosenCount, .ref r_a0_seen, .ref r_a0_prefix, .int x_a0_seenTables, .int x_a0_seenBytes, .int x_a0_limit, .int x_a0_count])), (q_a0_symbols, .inl (K 0, 2251, .inl f_a0_symbols)), (q_a0_lengths, .inl (K 0, 1548, .inl f_a0_lengths))] (fun (x : Unit) => [(q_a0, .inr (12, [.ref r_a0_tape, .int x_a0_fed, .ref r_a0_out, .int x_a0_size, .int x_a0_thrown, .int x_a0_place, .ref r_a0_told, .int x_a0_tells, .ref r_a0_order, .ref r_a0_merged, .ref r_a0_last, .ref r_a0_up, .ref q_a0_symbols, .int x_a0_many, .ref r_a0_list, .int x_a0_listed, .ref r_a0_tables, .int x_a0_groups, .int x_a0_tableCount, .ref q_a0_lengths, .ref r_a0_codes, .ref r_a0_weights, .ref r_a0_parents, .ref r_a0_counts, .int x_a0_origin, .int x_a0_check, .int x_a0_blocks, .int x_a0_fresh, .int x_a0_allTells, .int x_a0_allSymbols, .int x_a0_allGroups, .int x_a0_bit, .int x_a0_checkOfAll, .int x_a0_fault, .int x_a0_total, .ref r_a0_rows, .ref r_a0_from, .int x_a0_rowCount, .ref r_a0_chosen, .int x_a0_chosenCount, .ref r_a0_seen, .ref r_a0_prefix, .int x_a0_seenTables, .int x_a0_seenBytes, .int x_a0_limit, .int x_a0_count])), (q_a0_symbols, .inl (K 0, 2251, .inl f_a0_symbols)), (q_a0_lengths, .inl (K 0, 1548, .inl f_a0_lengths))]) out := mk_i (by decide) (Nat.le_of_ble_eq_true rfl) (fun p e s m below meth c A Q hC kr => m_Model_bitsOf hC q_a0 r_a0_tape x_a0_fed r_a0_out x_a0_size x_a0_thrown x_a0_place r_a0_told x_a0_tells r_a0_order r_a0_merged r_a0_last r_a0_up q_a0_symbols x_a0_many r_a0_list x_a0_listed r_a0_tables x_a0_groups x_a0_tableCount q_a0_lengths r_a0_codes r_a0_weights r_a0_parents r_a0_counts x_a0_origin x_a0_check x_a0_blocks x_a0_fresh x_a0_allTells x_a0_allSymbols x_a0_allGroups x_a0_bit x_a0_checkOfAll x_a0_fault x_a0_total r_a0_rows r_a0_from x_a0_rowCount r_a0_chosen x_a0_chosenCount r_a0_seen r_a0_prefix x_a0_seenTables x_a0_seenBytes x_a0_limit x_a0_count f_a0_symbols f_a0_lengths p1 p2 out hf (fun x o9 pc lv ho => by subst ho; exact kr x pc lv))
