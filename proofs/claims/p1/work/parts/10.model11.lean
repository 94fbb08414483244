abbrev b_Model_number : ByteArray := prog_14_method_21_code
def y_Model_number : MethodName := ⟨R_Model, "number", "(II)V"⟩
theorem d_Model_number_0 : decode b_Model_number 0 = .ok (.iconst 0, 1) := by decide +kernel
theorem d_Model_number_1 : decode b_Model_number 1 = .ok (.istore_n 3, 1) := by decide +kernel
theorem d_Model_number_2 : decode b_Model_number 2 = .ok (.iconst 1, 1) := by decide +kernel
theorem d_Model_number_3 : decode b_Model_number 3 = .ok (.istore 4, 2) := by decide +kernel
theorem d_Model_number_5 : decode b_Model_number 5 = .ok (.iload 4, 2) := by decide +kernel
theorem d_Model_number_7 : decode b_Model_number 7 = .ok (.bipush 20, 2) := by decide +kernel
theorem d_Model_number_9 : decode b_Model_number 9 = .ok (.if_icmp .gt 66, 3) := by decide +kernel
theorem d_Model_number_12 : decode b_Model_number 12 = .ok (.iconst 0, 1) := by decide +kernel
theorem d_Model_number_13 : decode b_Model_number 13 = .ok (.istore 5, 2) := by decide +kernel
theorem d_Model_number_15 : decode b_Model_number 15 = .ok (.iload 5, 2) := by decide +kernel
theorem d_Model_number_17 : decode b_Model_number 17 = .ok (.iload_n 2, 1) := by decide +kernel
theorem d_Model_number_18 : decode b_Model_number 18 = .ok (.if_icmp .ge 47, 3) := by decide +kernel
theorem d_Model_number_21 : decode b_Model_number 21 = .ok (.aload_n 0, 1) := by decide +kernel
theorem d_Model_number_22 : decode b_Model_number 22 = .ok (.getfield 46, 3) := by decide +kernel
theorem d_Model_number_25 : decode b_Model_number 25 = .ok (.sipush 258, 3) := by decide +kernel
theorem d_Model_number_28 : decode b_Model_number 28 = .ok (.iload_n 1, 1) := by decide +kernel
theorem d_Model_number_29 : decode b_Model_number 29 = .ok (.imul, 1) := by decide +kernel
theorem d_Model_number_30 : decode b_Model_number 30 = .ok (.iload 5, 2) := by decide +kernel
theorem d_Model_number_32 : decode b_Model_number 32 = .ok (.iadd, 1) := by decide +kernel
theorem d_Model_number_33 : decode b_Model_number 33 = .ok (.iaload, 1) := by decide +kernel
theorem d_Model_number_34 : decode b_Model_number 34 = .ok (.iload 4, 2) := by decide +kernel
theorem d_Model_number_36 : decode b_Model_number 36 = .ok (.if_icmp .eq 6, 3) := by decide +kernel
theorem d_Model_number_39 : decode b_Model_number 39 = .ok (.goto 20, 3) := by decide +kernel
theorem d_Model_number_42 : decode b_Model_number 42 = .ok (.aload_n 0, 1) := by decide +kernel
theorem d_Model_number_43 : decode b_Model_number 43 = .ok (.getfield 49, 3) := by decide +kernel
theorem d_Model_number_46 : decode b_Model_number 46 = .ok (.sipush 258, 3) := by decide +kernel
theorem d_Model_number_49 : decode b_Model_number 49 = .ok (.iload_n 1, 1) := by decide +kernel
theorem d_Model_number_50 : decode b_Model_number 50 = .ok (.imul, 1) := by decide +kernel
theorem d_Model_number_51 : decode b_Model_number 51 = .ok (.iload 5, 2) := by decide +kernel
theorem d_Model_number_53 : decode b_Model_number 53 = .ok (.iadd, 1) := by decide +kernel
theorem d_Model_number_54 : decode b_Model_number 54 = .ok (.iload_n 3, 1) := by decide +kernel
theorem d_Model_number_55 : decode b_Model_number 55 = .ok (.iastore, 1) := by decide +kernel
theorem d_Model_number_56 : decode b_Model_number 56 = .ok (.iinc 3 1, 3) := by decide +kernel
theorem d_Model_number_59 : decode b_Model_number 59 = .ok (.iinc 5 1, 3) := by decide +kernel
theorem d_Model_number_62 : decode b_Model_number 62 = .ok (.goto (-47), 3) := by decide +kernel
theorem d_Model_number_65 : decode b_Model_number 65 = .ok (.iload_n 3, 1) := by decide +kernel
theorem d_Model_number_66 : decode b_Model_number 66 = .ok (.iconst 1, 1) := by decide +kernel
theorem d_Model_number_67 : decode b_Model_number 67 = .ok (.ishl, 1) := by decide +kernel
theorem d_Model_number_68 : decode b_Model_number 68 = .ok (.istore_n 3, 1) := by decide +kernel
theorem d_Model_number_69 : decode b_Model_number 69 = .ok (.iinc 4 1, 3) := by decide +kernel
theorem d_Model_number_72 : decode b_Model_number 72 = .ok (.goto (-67), 3) := by decide +kernel
theorem d_Model_number_75 : decode b_Model_number 75 = .ok (.return_, 1) := by decide +kernel
theorem k1249 : (Jvm.Cond.fieldLink "RotationPressModel" (49 : Nat) "RotationPressModel" "codes" "[I") ∈ g_tbl := List.mem_filter.mpr ⟨List.mem_append_right (k2_sels lw_privs) (List.mem_append_right _ (List.mem_append_right _ (List.mem_append_right _ (List.mem_append_right _ (List.mem_append_right _ (List.mem_append_left _ (List.mem_of_getElem? (l := tables_1_6) (i := 49) rfl))))))), rfl⟩
set_option maxRecDepth 100000 in
set_option maxHeartbeats 4000000 in
theorem m_Model_number {C : gT} (hC : gOk C b_Model_number R_Model { frames := 0, cells := 0, slots := 0, locals := 0 } 6) (q_a0 : Nat) (r_a0_tape : Nat) (x_a0_fed : Int32) (r_a0_out : Nat) (x_a0_size : Int32) (x_a0_thrown : Int32) (x_a0_place : Int32) (r_a0_told : Nat) (x_a0_tells : Int32) (r_a0_order : Nat) (r_a0_merged : Nat) (r_a0_last : Nat) (r_a0_up : Nat) (r_a0_symbols : Nat) (x_a0_many : Int32) (r_a0_list : Nat) (x_a0_listed : Int32) (r_a0_tables : Nat) (x_a0_groups : Int32) (x_a0_tableCount : Int32) (q_a0_lengths : Nat) (q_a0_codes : Nat) (r_a0_weights : Nat) (r_a0_parents : Nat) (r_a0_counts : Nat) (x_a0_origin : Int32) (x_a0_check : Int32) (x_a0_blocks : Int32) (x_a0_fresh : Int32) (x_a0_allTells : Int32) (x_a0_allSymbols : Int32) (x_a0_allGroups : Int32) (x_a0_bit : Int32) (x_a0_checkOfAll : Int32) (x_a0_fault : Int32) (x_a0_total : Int32) (r_a0_rows : Nat) (r_a0_from : Nat) (x_a0_rowCount : Int32) (r_a0_chosen : Nat) (x_a0_chosenCount : Int32) (r_a0_seen : Nat) (r_a0_prefix : Nat) (x_a0_seenTables : Int32) (x_a0_seenBytes : Int32) (x_a0_limit : Int32) (x_a0_count : Int32) (f_a0_lengths : (Nat → Int32)) (f_a0_codes : (Nat → Int32)) (p1 : Int32) (p2 : Int32) (out : (Nat → Int32)) (hf : Model_number_f p2 p1 f_a0_lengths f_a0_codes = some out) (kr : ∀ (x : Unit) (o9 : (Nat → Int32)) (pc : Nat) (lv : List (Nat × Value)), o9 = out → decode b_Model_number pc = .ok (.return_, 1) → gAt C 0 0 [(q_a0, .inr (12, [.ref r_a0_tape, .int x_a0_fed, .ref r_a0_out, .int x_a0_size, .int x_a0_thrown, .int x_a0_place, .ref r_a0_told, .int x_a0_tells, .ref r_a0_order, .ref r_a0_merged, .ref r_a0_last, .ref r_a0_up, .ref r_a0_symbols, .int x_a0_many, .ref r_a0_list, .int x_a0_listed, .ref r_a0_tables, .int x_a0_groups, .int x_a0_tableCount, .ref q_a0_lengths, .ref q_a0_codes, .ref r_a0_weights, .ref r_a0_parents, .ref r_a0_counts, .int x_a0_origin, .int x_a0_check, .int x_a0_blocks, .int x_a0_fresh, .int x_a0_allTells, .int x_a0_allSymbols, .int x_a0_allGroups, .int x_a0_bit, .int x_a0_checkOfAll, .int x_a0_fault, .int x_a0_total, .ref r_a0_rows, .ref r_a0_from, .int x_a0_rowCount, .ref r_a0_chosen, .int x_a0_chosenCount, .ref r_a0_seen, .ref r_a0_prefix, .int x_a0_seenTables, .int x_a0_seenBytes, .int x_a0_limit, .int x_a0_count])), (q_a0_lengths, .inl (g_K C 0, 1548, .inl f_a0_lengths)), (q_a0_codes, .inl (g_K C 0, 1548, .inl o9))] lv pc []) : gAt C 0 0 [(q_a0, .inr (12, [.ref r_a0_tape, .int x_a0_fed, .ref r_a0_out, .int x_a0_size, .int x_a0_thrown, .int x_a0_place, .ref r_a0_told, .int x_a0_tells, .ref r_a0_order, .ref r_a0_merged, .ref r_a0_last, .ref r_a0_up, .ref r_a0_symbols, .int x_a0_many, .ref r_a0_list, .int x_a0_listed, .ref r_a0_tables, .int x_a0_groups, .int x_a0_tableCount, .ref q_a0_lengths, .ref q_a0_codes, .ref r_a0_weights, .ref r_a0_parents, .ref r_a0_counts, .int x_a0_origin, .int x_a0_check, .int x_a0_blocks, .int x_a0_fresh, .int x_a0_allTells, .int x_a0_allSymbols, .int x_a0_allGroups, .int x_a0_bit, .int x_a0_checkOfAll, .int x_a0_fault, .int x_a0_total, .ref r_a0_rows, .ref r_a0_from, .int x_a0_rowCount, .ref r_a0_chosen, .int x_a0_chosenCount, .ref r_a0_seen, .ref r_a0_prefix, .int x_a0_seenTables, .int x_a0_seenBytes, .int x_a0_limit, .int x_a0_count])), (q_a0_lengths, .inl (g_K C 0, 1548, .inl f_a0_lengths)), (q_a0_codes, .inl (g_K C 0, 1548, .inl f_a0_codes))] [(0, .ref q_a0), (1, .int p1), (2, .int p2)] 0 [] := by
  unfold Model_number_f at hf
  refine g_iconst 0 hC (0 : Int32) (by decide) d_Model_number_0 ?_
  refine g_istore_n 1 hC (lv2 := [(3, .int (0 : Int32)), (0, .ref q_a0), (1, .int p1), (2, .int p2)]) (hn := (by decide)) (hl2 := rfl) (hd := d_Model_number_1) ?_
  refine g_iconst 2 hC (1 : Int32) (by decide) d_Model_number_2 ?_
  refine g_istore 3 hC (lv2 := [(4, .int (1 : Int32)), (3, .int (0 : Int32)), (0, .ref q_a0), (1, .int p1), (2, .int p2)]) (hn := (by decide)) (hl2 := rfl) (hd := d_Model_number_3) ?_
  obtain ⟨u2, hu2, hf⟩ := bd_some hf
  have Xu2_0 : ∀ (v3 : (Nat → Int32)), v3 = u2 → gAt C 0 0 [(q_a0, .inr (12, [.ref r_a0_tape, .int x_a0_fed, .ref r_a0_out, .int x_a0_size, .int x_a0_thrown, .int x_a0_place, .ref r_a0_told, .int x_a0_tells, .ref r_a0_order, .ref r_a0_merged, .ref r_a0_last, .ref r_a0_up, .ref r_a0_symbols, .int x_a0_many, .ref r_a0_list, .int x_a0_listed, .ref r_a0_tables, .int x_a0_groups, .int x_a0_tableCount, .ref q_a0_lengths, .ref q_a0_codes, .ref r_a0_weights, .ref r_a0_parents, .ref r_a0_counts, .int x_a0_origin, .int x_a0_check, .int x_a0_blocks, .int x_a0_fresh, .int x_a0_allTells, .int x_a0_allSymbols, .int x_a0_allGroups, .int x_a0_bit, .int x_a0_checkOfAll, .int x_a0_fault, .int x_a0_total, .ref r_a0_rows, .ref r_a0_from, .int x_a0_rowCount, .ref r_a0_chosen, .int x_a0_chosenCount, .ref r_a0_seen, .ref r_a0_prefix, .int x_a0_seenTables, .int x_a0_seenBytes, .int x_a0_limit, .int x_a0_count])), (q_a0_lengths, .inl (g_K C 0, 1548, .inl f_a0_lengths)), (q_a0_codes, .inl (g_K C 0, 1548, .inl v3))] [] 75 [] := by
    intro v3 hv
    rw [← hv] at hf
    exact kr () v3 75 [] (Option.some.inj hf) d_Model_number_75
  have Gu2 := lp_ind (b := (Model_number_L5 p2 p1 f_a0_lengths)) (G := fun (s1 : (Int32 × Int32 × (Nat → Int32))) => gAt C 0 0 [(q_a0, .inr (12, [.ref r_a0_tape, .int x_a0_fed, .ref r_a0_out, .int x_a0_size, .int x_a0_thrown, .int x_a0_place, .ref r_a0_told, .int x_a0_tells, .ref r_a0_order, .ref r_a0_merged, .ref r_a0_last, .ref r_a0_up, .ref r_a0_symbols, .int x_a0_many, .ref r_a0_list, .int x_a0_listed, .ref r_a0_tables, .int x_a0_groups, .int x_a0_tableCount, .ref q_a0_lengths, .ref q_a0_codes, .ref r_a0_weights, .ref r_a0_parents, .ref r_a0_counts, .int x_a0_origin, .int x_a0_check, .int x_a0_blocks, .int x_a0_fresh, .int x_a0_allTells, .int x_a0_allSymbols, .int x_a0_allGroups, .int x_a0_bit, .int x_a0_checkOfAll, .int x_a0_fault, .int x_a0_total, .ref r_a0_rows, .ref r_a0_from, .int x_a0_rowCount, .ref r_a0_chosen, .int x_a0_chosenCount, .ref r_a0_seen, .ref r_a0_prefix, .int x_a0_seenTables, .int x_a0_seenBytes, .int x_a0_limit, .int x_a0_count])), (q_a0_lengths, .inl (g_K C 0, 1548, .inl f_a0_lengths)), (q_a0_codes, .inl (g_K C 0, 1548, .inl s1.2.2))] [(0, .ref q_a0), (1, .int p1), (2, .int p2), (3, .int s1.1), (4, .int s1.2.1)] 5 []) (o := u2) (by
      intro s1 u4 hf hI hX
      unfold Model_number_L5 at hf
      refine g_iload 5 hC (j := 4) (hj := rfl) (hd := d_Model_number_5) ?_
      refine g_bipush 7 hC (20 : Int32) (by decide) d_Model_number_7 ?_
      refine g_icmp_gt 9 hC 75 (by decide) d_Model_number_9 (fun c5 => ?_) (fun c5 => ?_)
      · have hf := it_t c5 hf
        exact g_re [0, 1, 2] [] rfl rfl rfl (Xu2_0 s1.2.2 (hX s1.2.2 hf))
      · have hf := it_f c5 hf
        refine g_iconst 12 hC (0 : Int32) (by decide) d_Model_number_12 ?_
        refine g_istore 13 hC (lv2 := [(5, .int (0 : Int32)), (0, .ref q_a0), (1, .int p1), (2, .int p2), (3, .int s1.1), (4, .int s1.2.1)]) (hn := (by decide)) (hl2 := rfl) (hd := d_Model_number_13) ?_
        obtain ⟨u7, hu7, hf⟩ := bd_some hf
        have Xu7_0 : ∀ (v8 : (Int32 × (Nat → Int32))), v8 = u7 → gAt C 0 0 [(q_a0, .inr (12, [.ref r_a0_tape, .int x_a0_fed, .ref r_a0_out, .int x_a0_size, .int x_a0_thrown, .int x_a0_place, .ref r_a0_told, .int x_a0_tells, .ref r_a0_order, .ref r_a0_merged, .ref r_a0_last, .ref r_a0_up, .ref r_a0_symbols, .int x_a0_many, .ref r_a0_list, .int x_a0_listed, .ref r_a0_tables, .int x_a0_groups, .int x_a0_tableCount, .ref q_a0_lengths, .ref q_a0_codes, .ref r_a0_weights, .ref r_a0_parents, .ref r_a0_counts, .int x_a0_origin, .int x_a0_check, .int x_a0_blocks, .int x_a0_fresh, .int x_a0_allTells, .int x_a0_allSymbols, .int x_a0_allGroups, .int x_a0_bit, .int x_a0_checkOfAll, .int x_a0_fault, .int x_a0_total, .ref r_a0_rows, .ref r_a0_from, .int x_a0_rowCount, .ref r_a0_chosen, .int x_a0_chosenCount, .ref r_a0_seen, .ref r_a0_prefix, .int x_a0_seenTables, .int x_a0_seenBytes, .int x_a0_limit, .int x_a0_count])), (q_a0_lengths, .inl (g_K C 0, 1548, .inl f_a0_lengths)), (q_a0_codes, .inl (g_K C 0, 1548, .inl v8.2))] [(0, .ref q_a0), (1, .int p1), (2, .int p2), (3, .int v8.1), (4, .int s1.2.1)] 65 [] := by
          intro v8 hv
          rw [← hv] at hf
          refine g_iload_n 65 hC (j := 3) (hj := rfl) (hd := d_Model_number_65) ?_
          refine g_iconst 66 hC (1 : Int32) (by decide) d_Model_number_66 ?_
          refine g_ishl 67 hC d_Model_number_67 ?_
          refine g_istore_n 68 hC (lv2 := [(3, .int (v8.1 <<< ((1 : Int32) &&& 31))), (0, .ref q_a0), (1, .int p1), (2, .int p2), (4, .int s1.2.1)]) (hn := (by decide)) (hl2 := rfl) (hd := d_Model_number_68) ?_
          refine g_iinc 69 hC 4 (1 : Int32) [(4, .int (s1.2.1 + (1 : Int32))), (3, .int (v8.1 <<< ((1 : Int32) &&& 31))), (0, .ref q_a0), (1, .int p1), (2, .int p2)] rfl (by decide) (by decide) rfl d_Model_number_69 ?_
          refine g_goto 72 hC 5 (by decide) d_Model_number_72 ?_
          exact g_re [0, 1, 2] [2, 3, 4, 1, 0] rfl rfl rfl (hI ((v8.1 <<< ((1 : Int32) &&& 31)), (s1.2.1 + (1 : Int32)), v8.2) hf)
        have Gu7 := lp_ind (b := (Model_number_L15 p2 p1 f_a0_lengths s1)) (G := fun (s6 : (Int32 × Int32 × (Nat → Int32))) => gAt C 0 0 [(q_a0, .inr (12, [.ref r_a0_tape, .int x_a0_fed, .ref r_a0_out, .int x_a0_size, .int x_a0_thrown, .int x_a0_place, .ref r_a0_told, .int x_a0_tells, .ref r_a0_order, .ref r_a0_merged, .ref r_a0_last, .ref r_a0_up, .ref r_a0_symbols, .int x_a0_many, .ref r_a0_list, .int x_a0_listed, .ref r_a0_tables, .int x_a0_groups, .int x_a0_tableCount, .ref q_a0_lengths, .ref q_a0_codes, .ref r_a0_weights, .ref r_a0_parents, .ref r_a0_counts, .int x_a0_origin, .int x_a0_check, .int x_a0_blocks, .int x_a0_fresh, .int x_a0_allTells, .int x_a0_allSymbols, .int x_a0_allGroups, .int x_a0_bit, .int x_a0_checkOfAll, .int x_a0_fault, .int x_a0_total, .ref r_a0_rows, .ref r_a0_from, .int x_a0_rowCount, .ref r_a0_chosen, .int x_a0_chosenCount, .ref r_a0_seen, .ref r_a0_prefix, .int x_a0_seenTables, .int x_a0_seenBytes, .int x_a0_limit, .int x_a0_count])), (q_a0_lengths, .inl (g_K C 0, 1548, .inl f_a0_lengths)), (q_a0_codes, .inl (g_K C 0, 1548, .inl s6.2.2))] [(0, .ref q_a0), (1, .int p1), (2, .int p2), (3, .int s6.1), (4, .int s1.2.1), (5, .int s6.2.1)] 15 []) (o := u7) (by
            intro s6 u9 hf hI hX
            unfold Model_number_L15 at hf
            have J59 : ∀ (j59_0 : Int32) (j59_1 : (Nat → Int32)), Model_number_J59 s6 j59_0 j59_1 = some u9 → gAt C 0 0 [(q_a0, .inr (12, [.ref r_a0_tape, .int x_a0_fed, .ref r_a0_out, .int x_a0_size, .int x_a0_thrown, .int x_a0_place, .ref r_a0_told, .int x_a0_tells, .ref r_a0_order, .ref r_a0_merged, .ref r_a0_last, .ref r_a0_up, .ref r_a0_symbols, .int x_a0_many, .ref r_a0_list, .int x_a0_listed, .ref r_a0_tables, .int x_a0_groups, .int x_a0_tableCount, .ref q_a0_lengths, .ref q_a0_codes, .ref r_a0_weights, .ref r_a0_parents, .ref r_a0_counts, .int x_a0_origin, .int x_a0_check, .int x_a0_blocks, .int x_a0_fresh, .int x_a0_allTells, .int x_a0_allSymbols, .int x_a0_allGroups, .int x_a0_bit, .int x_a0_checkOfAll, .int x_a0_fault, .int x_a0_total, .ref r_a0_rows, .ref r_a0_from, .int x_a0_rowCount, .ref r_a0_chosen, .int x_a0_chosenCount, .ref r_a0_seen, .ref r_a0_prefix, .int x_a0_seenTables, .int x_a0_seenBytes, .int x_a0_limit, .int x_a0_count])), (q_a0_lengths, .inl (g_K C 0, 1548, .inl f_a0_lengths)), (q_a0_codes, .inl (g_K C 0, 1548, .inl j59_1))] [(0, .ref q_a0), (1, .int p1), (2, .int p2), (3, .int j59_0), (4, .int s1.2.1), (5, .int s6.2.1)] 59 [] := by
              intro j59_0 j59_1 hf
              unfold Model_number_J59 at hf
              refine g_iinc 59 hC 5 (1 : Int32) [(5, .int (s6.2.1 + (1 : Int32))), (0, .ref q_a0), (1, .int p1), (2, .int p2), (3, .int j59_0), (4, .int s1.2.1)] rfl (by decide) (by decide) rfl d_Model_number_59 ?_
              refine g_goto 62 hC 15 (by decide) d_Model_number_62 ?_
              exact g_re [0, 1, 2] [1, 2, 3, 4, 5, 0] rfl rfl rfl (hI (j59_0, (s6.2.1 + (1 : Int32)), j59_1) hf)
            refine g_iload 15 hC (j := 5) (hj := rfl) (hd := d_Model_number_15) ?_
            refine g_iload_n 17 hC (j := 2) (hj := rfl) (hd := d_Model_number_17) ?_
            refine g_icmp_ge 18 hC 65 (by decide) d_Model_number_18 (fun c10 => ?_) (fun c10 => ?_)
            · have hf := it_t c10 hf
              exact g_re [0, 1, 2] [0, 1, 2, 3, 4] rfl rfl rfl (Xu7_0 (s6.1, s6.2.2) (hX (s6.1, s6.2.2) hf))
            · have hf := it_f c10 hf
              refine g_aload_n 21 hC (j := 0) (hj := rfl) (hd := d_Model_number_21) ?_
              refine g_get 22 hC i_Model rfl 0 rfl 19 (by decide) k1248 rfl d_Model_number_22 ?_
              refine g_sipush 25 hC (258 : Int32) (by decide) d_Model_number_25 ?_
              refine g_iload_n 28 hC (j := 1) (hj := rfl) (hd := d_Model_number_28) ?_
              refine g_imul 29 hC d_Model_number_29 ?_
              refine g_iload 30 hC (j := 5) (hj := rfl) (hd := d_Model_number_30) ?_
              refine g_iadd 32 hC d_Model_number_32 ?_
              obtain ⟨e11, hf⟩ := gd_some hf
              refine g_iald 33 hC 1 rfl e11 d_Model_number_33 ?_
              refine g_iload 34 hC (j := 4) (hj := rfl) (hd := d_Model_number_34) ?_
              refine g_icmp_eq 36 hC 42 (by decide) d_Model_number_36 (fun c12 => ?_) (fun c12 => ?_)
              · have hf := it_t c12 hf
                refine g_aload_n 42 hC (j := 0) (hj := rfl) (hd := d_Model_number_42) ?_
                refine g_get 43 hC i_Model rfl 0 rfl 20 (by decide) k1249 rfl d_Model_number_43 ?_
                refine g_sipush 46 hC (258 : Int32) (by decide) d_Model_number_46 ?_
                refine g_iload_n 49 hC (j := 1) (hj := rfl) (hd := d_Model_number_49) ?_
                refine g_imul 50 hC d_Model_number_50 ?_
                refine g_iload 51 hC (j := 5) (hj := rfl) (hd := d_Model_number_51) ?_
                refine g_iadd 53 hC d_Model_number_53 ?_
                refine g_iload_n 54 hC (j := 3) (hj := rfl) (hd := d_Model_number_54) ?_
                obtain ⟨e13, hf⟩ := gd_some hf
                refine g_iast 55 hC 2 rfl e13 [(q_a0, .inr (12, [.ref r_a0_tape, .int x_a0_fed, .ref r_a0_out, .int x_a0_size, .int x_a0_thrown, .int x_a0_place, .ref r_a0_told, .int x_a0_tells, .ref r_a0_order, .ref r_a0_merged, .ref r_a0_last, .ref r_a0_up, .ref r_a0_symbols, .int x_a0_many, .ref r_a0_list, .int x_a0_listed, .ref r_a0_tables, .int x_a0_groups, .int x_a0_tableCount, .ref q_a0_lengths, .ref q_a0_codes, .ref r_a0_weights, .ref r_a0_parents, .ref r_a0_counts, .int x_a0_origin, .int x_a0_check, .int x_a0_blocks, .int x_a0_fresh, .int x_a0_allTells, .int x_a0_allSymbols, .int x_a0_allGroups, .int x_a0_bit, .int x_a0_checkOfAll, .int x_a0_fault, .int x_a0_total, .ref r_a0_rows, .ref r_a0_from, .int x_a0_rowCount, .ref r_a0_chosen, .int x_a0_chosenCount, .ref r_a0_seen, .ref r_a0_prefix, .int x_a0_seenTables, .int x_a0_seenBytes, .int x_a0_limit, .int x_a0_count])), (q_a0_lengths, .inl (g_K C 0, 1548, .inl f_a0_lengths)), (q_a0_codes, .inl (g_K C 0, 1548, .inl (upd s6.2.2 (((258 : Int32) * p1) + s6.2.1).toNatClampNeg s6.1)))] rfl d_Model_number_55 ?_
                refine g_iinc 56 hC 3 (1 : Int32) [(3, .int (s6.1 + (1 : Int32))), (0, .ref q_a0), (1, .int p1), (2, .int p2), (4, .int s1.2.1), (5, .int s6.2.1)] rfl (by decide) (by decide) rfl d_Model_number_56 ?_
                exact g_re [0, 1, 2] [1, 2, 3, 0, 4, 5] rfl rfl rfl (J59 (s6.1 + (1 : Int32)) (upd s6.2.2 (((258 : Int32) * p1) + s6.2.1).toNatClampNeg s6.1) hf)
              · have hf := it_f c12 hf
                refine g_goto 39 hC 59 (by decide) d_Model_number_39 ?_
                exact J59 s6.1 s6.2.2 hf) gas
        exact g_re [0, 1, 2] [1, 2, 3, 4, 5, 0] rfl rfl rfl (Gu7 (s1.1, (0 : Int32), s1.2.2) hu7)) gas
  exact g_re [0, 1, 2] [2, 3, 4, 1, 0] rfl rfl rfl (Gu2 ((0 : Int32), (1 : Int32), f_a0_codes) hu2)
theorem c_Model_number (l : Launch) (D : va_G) (K : Nat → ClassId) (q_a0 : Nat) (r_a0_tape : Nat) (x_a0_fed : Int32) (r_a0_out : Nat) (x_a0_size : Int32) (x_a0_thrown : Int32) (x_a0_place : Int32) (r_a0_told : Nat) (x_a0_tells : Int32) (r_a0_order : Nat) (r_a0_merged : Nat) (r_a0_last : Nat) (r_a0_up : Nat) (r_a0_symbols : Nat) (x_a0_many : Int32) (r_a0_list : Nat) (x_a0_listed : Int32) (r_a0_tables : Nat) (x_a0_groups : Int32) (x_a0_tableCount : Int32) (q_a0_lengths : Nat) (q_a0_codes : Nat) (r_a0_weights : Nat) (r_a0_parents : Nat) (r_a0_counts : Nat) (x_a0_origin : Int32) (x_a0_check : Int32) (x_a0_blocks : Int32) (x_a0_fresh : Int32) (x_a0_allTells : Int32) (x_a0_allSymbols : Int32) (x_a0_allGroups : Int32) (x_a0_bit : Int32) (x_a0_checkOfAll : Int32) (x_a0_fault : Int32) (x_a0_total : Int32) (r_a0_rows : Nat) (r_a0_from : Nat) (x_a0_rowCount : Int32) (r_a0_chosen : Nat) (x_a0_chosenCount : Int32) (r_a0_seen : Nat) (r_a0_prefix : Nat) (x_a0_seenTables : Int32) (x_a0_seenBytes : Int32) (x_a0_limit : Int32) (x_a0_count : Int32) (f_a0_lengths : (Nat → Int32)) (f_a0_codes : (Nat → Int32)) (p1 : Int32) (p2 : Int32) (out : (Nat → Int32)) (hf : Model_number_f p2 p1 f_a0_lengths f_a0_codes = some out) : Cv l D K y_Model_number (g_wd y_Model_number b_Model_number 6 none) { frames := 0, cells := 0, slots := 0, locals := 0 } [.ref q_a0, .int p1, .int p2] [(q_a0, .inr (12, [.ref r_a0_tape, .int x_a0_fed, .ref r_a0_out, .int x_a0_size, .int x_a0_thrown, .int x_a0_place, .ref r_a0_told, .int x_a0_tells, .ref r_a0_order, .ref r_a0_merged, .ref r_a0_last, .ref r_a0_up, .ref r_a0_symbols, .int x_a0_many, .ref r_a0_list, .int x_a0_listed, .ref r_a0_tables, .int x_a0_groups, .int x_a0_tableCount, .ref q_a0_lengths, .ref q_a0_codes, .ref r_a0_weights, .ref r_a0_parents, .ref r_a0_counts, .int x_a0_origin, .int x_a0_check, .int x_a0_blocks, .int x_a0_fresh, .int x_a0_allTells, .int x_a0_allSymbols, .int x_a0_allGroups, .int x_a0_bit, .int x_a0_checkOfAll, .int x_a0_fault, .int x_a0_total, .ref r_a0_rows, .ref r_a0_from, .int x_a0_rowCount, .ref r_a0_chosen, .int x_a0_chosenCount, .ref r_a0_seen, .ref r_a0_prefix, .int x_a0_seenTables, .int x_a0_seenBytes, .int x_a0_limit, .int x_a0_count])), (q_a0_lengths, .inl (K 0, 1548, .inl f_a0_lengths)), (q_a0_codes, .inl (K 0, 1548, .inl f_a0_codes))] (fun (x : Unit) => [(q_a0, .inr (12, [.ref r_a0_tape, .int x_a0_fed, .ref r_a0_out, .int x_a0_size, .int x_a0_thrown, .int x_a0_place, .ref r_a0_told, .int x_a0_tells, .ref r_a0_order, .ref r_a0_merged, .ref r_a0_last, .ref r_a0_up, .ref r_a0_symbols, .int x_a0_many, .ref r_a0_list, .int x_a0_listed, .ref r_a0_tables, .int x_a0_groups, .int x_a0_tableCount, .ref q_a0_lengths, .ref q_a0_codes, .ref r_a0_weights, .ref r_a0_parents, .ref r_a0_counts, .int x_a0_origin, .int x_a0_check, .int x_a0_blocks, .int x_a0_fresh, .int x_a0_allTells, .int x_a0_allSymbols, .int x_a0_allGroups, .int x_a0_bit, .int x_a0_checkOfAll, .int x_a0_fault, .int x_a0_total, .ref r_a0_rows, .ref r_a0_from, .int x_a0_rowCount, .ref r_a0_chosen, .int x_a0_chosenCount, .ref r_a0_seen, .ref r_a0_prefix, .int x_a0_seenTables, .int x_a0_seenBytes, .int x_a0_limit, .int x_a0_count])), (q_a0_lengths, .inl (K 0, 1548, .inl f_a0_lengths)), (q_a0_codes, .inl (K 0, 1548, .inl out))]) := mk_v (by decide) (Nat.le_of_ble_eq_true rfl) (fun p e s m below meth c A Q hC kr => m_Model_number hC q_a0 r_a0_tape x_a0_fed r_a0_out x_a0_size x_a0_thrown x_a0_place r_a0_told x_a0_tells r_a0_order r_a0_merged r_a0_last r_a0_up r_a0_symbols x_a0_many r_a0_list x_a0_listed r_a0_tables x_a0_groups x_a0_tableCount q_a0_lengths q_a0_codes r_a0_weights r_a0_parents r_a0_counts x_a0_origin x_a0_check x_a0_blocks x_a0_fresh x_a0_allTells x_a0_allSymbols x_a0_allGroups x_a0_bit x_a0_checkOfAll x_a0_fault x_a0_total r_a0_rows r_a0_from x_a0_rowCount r_a0_chosen x_a0_chosenCount r_a0_seen r_a0_prefix x_a0_seenTables x_a0_seenBytes x_a0_limit x_a0_count f_a0_lengths f_a0_codes p1 p2 out hf (fun x o9 pc lv ho => by subst ho; exact kr x pc lv))
