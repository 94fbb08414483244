abbrev b_Model_numberSeen : ByteArray := prog_14_method_41_code
def y_Model_numberSeen : MethodName := ⟨R_Model, "numberSeen", "(I)V"⟩
theorem d_Model_numberSeen_0 : decode b_Model_numberSeen 0 = .ok (.iconst 0, 1) := by decide +kernel
theorem d_Model_numberSeen_1 : decode b_Model_numberSeen 1 = .ok (.istore_n 2, 1) := by decide +kernel
theorem d_Model_numberSeen_2 : decode b_Model_numberSeen 2 = .ok (.iconst 1, 1) := by decide +kernel
theorem d_Model_numberSeen_3 : decode b_Model_numberSeen 3 = .ok (.istore_n 3, 1) := by decide +kernel
theorem d_Model_numberSeen_4 : decode b_Model_numberSeen 4 = .ok (.iload_n 3, 1) := by decide +kernel
theorem d_Model_numberSeen_5 : decode b_Model_numberSeen 5 = .ok (.bipush 20, 2) := by decide +kernel
theorem d_Model_numberSeen_7 : decode b_Model_numberSeen 7 = .ok (.if_icmp .gt 70, 3) := by decide +kernel
theorem d_Model_numberSeen_10 : decode b_Model_numberSeen 10 = .ok (.iconst 0, 1) := by decide +kernel
theorem d_Model_numberSeen_11 : decode b_Model_numberSeen 11 = .ok (.istore 4, 2) := by decide +kernel
theorem d_Model_numberSeen_13 : decode b_Model_numberSeen 13 = .ok (.iload 4, 2) := by decide +kernel
theorem d_Model_numberSeen_15 : decode b_Model_numberSeen 15 = .ok (.aload_n 0, 1) := by decide +kernel
theorem d_Model_numberSeen_16 : decode b_Model_numberSeen 16 = .ok (.getfield 216, 3) := by decide +kernel
theorem d_Model_numberSeen_19 : decode b_Model_numberSeen 19 = .ok (.iconst 2, 1) := by decide +kernel
theorem d_Model_numberSeen_20 : decode b_Model_numberSeen 20 = .ok (.iadd, 1) := by decide +kernel
theorem d_Model_numberSeen_21 : decode b_Model_numberSeen 21 = .ok (.if_icmp .ge 46, 3) := by decide +kernel
theorem d_Model_numberSeen_24 : decode b_Model_numberSeen 24 = .ok (.aload_n 0, 1) := by decide +kernel
theorem d_Model_numberSeen_25 : decode b_Model_numberSeen 25 = .ok (.getfield 70, 3) := by decide +kernel
theorem d_Model_numberSeen_28 : decode b_Model_numberSeen 28 = .ok (.sipush 258, 3) := by decide +kernel
theorem d_Model_numberSeen_31 : decode b_Model_numberSeen 31 = .ok (.iload_n 1, 1) := by decide +kernel
theorem d_Model_numberSeen_32 : decode b_Model_numberSeen 32 = .ok (.imul, 1) := by decide +kernel
theorem d_Model_numberSeen_33 : decode b_Model_numberSeen 33 = .ok (.iload 4, 2) := by decide +kernel
theorem d_Model_numberSeen_35 : decode b_Model_numberSeen 35 = .ok (.iadd, 1) := by decide +kernel
theorem d_Model_numberSeen_36 : decode b_Model_numberSeen 36 = .ok (.iaload, 1) := by decide +kernel
theorem d_Model_numberSeen_37 : decode b_Model_numberSeen 37 = .ok (.iload_n 3, 1) := by decide +kernel
theorem d_Model_numberSeen_38 : decode b_Model_numberSeen 38 = .ok (.if_icmp .eq 6, 3) := by decide +kernel
theorem d_Model_numberSeen_41 : decode b_Model_numberSeen 41 = .ok (.goto 20, 3) := by decide +kernel
theorem d_Model_numberSeen_44 : decode b_Model_numberSeen 44 = .ok (.aload_n 0, 1) := by decide +kernel
theorem d_Model_numberSeen_45 : decode b_Model_numberSeen 45 = .ok (.getfield 73, 3) := by decide +kernel
theorem d_Model_numberSeen_48 : decode b_Model_numberSeen 48 = .ok (.sipush 258, 3) := by decide +kernel
theorem d_Model_numberSeen_51 : decode b_Model_numberSeen 51 = .ok (.iload_n 1, 1) := by decide +kernel
theorem d_Model_numberSeen_52 : decode b_Model_numberSeen 52 = .ok (.imul, 1) := by decide +kernel
theorem d_Model_numberSeen_53 : decode b_Model_numberSeen 53 = .ok (.iload 4, 2) := by decide +kernel
theorem d_Model_numberSeen_55 : decode b_Model_numberSeen 55 = .ok (.iadd, 1) := by decide +kernel
theorem d_Model_numberSeen_56 : decode b_Model_numberSeen 56 = .ok (.iload_n 2, 1) := by decide +kernel
theorem d_Model_numberSeen_57 : decode b_Model_numberSeen 57 = .ok (.iastore, 1) := by decide +kernel
theorem d_Model_numberSeen_58 : decode b_Model_numberSeen 58 = .ok (.iinc 2 1, 3) := by decide +kernel
theorem d_Model_numberSeen_61 : decode b_Model_numberSeen 61 = .ok (.iinc 4 1, 3) := by decide +kernel
theorem d_Model_numberSeen_64 : decode b_Model_numberSeen 64 = .ok (.goto (-51), 3) := by decide +kernel
theorem d_Model_numberSeen_67 : decode b_Model_numberSeen 67 = .ok (.iload_n 2, 1) := by decide +kernel
theorem d_Model_numberSeen_68 : decode b_Model_numberSeen 68 = .ok (.iconst 1, 1) := by decide +kernel
theorem d_Model_numberSeen_69 : decode b_Model_numberSeen 69 = .ok (.ishl, 1) := by decide +kernel
theorem d_Model_numberSeen_70 : decode b_Model_numberSeen 70 = .ok (.istore_n 2, 1) := by decide +kernel
theorem d_Model_numberSeen_71 : decode b_Model_numberSeen 71 = .ok (.iinc 3 1, 3) := by decide +kernel
theorem d_Model_numberSeen_74 : decode b_Model_numberSeen 74 = .ok (.goto (-70), 3) := by decide +kernel
theorem d_Model_numberSeen_77 : decode b_Model_numberSeen 77 = .ok (.return_, 1) := by decide +kernel
theorem k1269 : (Jvm.Cond.fieldLink "RotationPressModel" (70 : Nat) "RotationPressModel" "seen" "[I") ∈ g_tbl := List.mem_filter.mpr ⟨List.mem_append_right (k2_sels lw_privs) (List.mem_append_right _ (List.mem_append_right _ (List.mem_append_right _ (List.mem_append_right _ (List.mem_append_right _ (List.mem_append_left _ (List.mem_of_getElem? (l := tables_1_6) (i := 69) rfl))))))), rfl⟩
theorem k1270 : (Jvm.Cond.fieldLink "RotationPressModel" (73 : Nat) "RotationPressModel" "prefix" "[I") ∈ g_tbl := List.mem_filter.mpr ⟨List.mem_append_right (k2_sels lw_privs) (List.mem_append_right _ (List.mem_append_right _ (List.mem_append_right _ (List.mem_append_right _ (List.mem_append_right _ (List.mem_append_left _ (List.mem_of_getElem? (l := tables_1_6) (i := 70) rfl))))))), rfl⟩
set_option maxRecDepth 100000 in
set_option maxHeartbeats 4000000 in
theorem m_Model_numberSeen {C : gT} (hC : gOk C b_Model_numberSeen R_Model { frames := 0, cells := 0, slots := 0, locals := 0 } 5) (q_a0 : Nat) (r_a0_tape : Nat) (x_a0_fed : Int32) (r_a0_out : Nat) (x_a0_size : Int32) (x_a0_thrown : Int32) (x_a0_place : Int32) (r_a0_told : Nat) (x_a0_tells : Int32) (r_a0_order : Nat) (r_a0_merged : Nat) (r_a0_last : Nat) (r_a0_up : Nat) (r_a0_symbols : Nat) (x_a0_many : Int32) (r_a0_list : Nat) (x_a0_listed : Int32) (r_a0_tables : Nat) (x_a0_groups : Int32) (x_a0_tableCount : Int32) (r_a0_lengths : Nat) (r_a0_codes : Nat) (r_a0_weights : Nat) (r_a0_parents : Nat) (r_a0_counts : Nat) (x_a0_origin : Int32) (x_a0_check : Int32) (x_a0_blocks : Int32) (x_a0_fresh : Int32) (x_a0_allTells : Int32) (x_a0_allSymbols : Int32) (x_a0_allGroups : Int32) (x_a0_bit : Int32) (x_a0_checkOfAll : Int32) (x_a0_fault : Int32) (x_a0_total : Int32) (r_a0_rows : Nat) (r_a0_from : Nat) (x_a0_rowCount : Int32) (r_a0_chosen : Nat) (x_a0_chosenCount : Int32) (q_a0_seen : Nat) (q_a0_prefix : Nat) (x_a0_seenTables : Int32) (x_a0_seenBytes : Int32) (x_a0_limit : Int32) (x_a0_count : Int32) (f_a0_seen : (Nat → Int32)) (f_a0_prefix : (Nat → Int32)) (p1 : Int32) (out : (Nat → Int32)) (hf : Model_numberSeen_f x_a0_seenBytes p1 f_a0_seen f_a0_prefix = some out) (kr : ∀ (x : Unit) (o9 : (Nat → Int32)) (pc : Nat) (lv : List (Nat × Value)), o9 = out → decode b_Model_numberSeen pc = .ok (.return_, 1) → gAt C 0 0 [(q_a0, .inr (12, [.ref r_a0_tape, .int x_a0_fed, .ref r_a0_out, .int x_a0_size, .int x_a0_thrown, .int x_a0_place, .ref r_a0_told, .int x_a0_tells, .ref r_a0_order, .ref r_a0_merged, .ref r_a0_last, .ref r_a0_up, .ref r_a0_symbols, .int x_a0_many, .ref r_a0_list, .int x_a0_listed, .ref r_a0_tables, .int x_a0_groups, .int x_a0_tableCount, .ref r_a0_lengths, .ref r_a0_codes, .ref r_a0_weights, .ref r_a0_parents, .ref r_a0_counts, .int x_a0_origin, .int x_a0_check, .int x_a0_blocks, .int x_a0_fresh, .int x_a0_allTells, .int x_a0_allSymbols, .int x_a0_allGroups, .int x_a0_bit, .int x_a0_checkOfAll, .int x_a0_fault, .int x_a0_total, .ref r_a0_rows, .ref r_a0_from, .int x_a0_rowCount, .ref r_a0_chosen, .int x_a0_chosenCount, .ref q_a0_seen, .ref q_a0_prefix, .int x_a0_seenTables, .int x_a0_seenBytes, .int x_a0_limit, .int x_a0_count])), (q_a0_seen, .inl (g_K C 0, 1548, .inl f_a0_seen)), (q_a0_prefix, .inl (g_K C 0, 1548, .inl o9))] lv pc []) : gAt C 0 0 [(q_a0, .inr (12, [.ref r_a0_tape, .int x_a0_fed, .ref r_a0_out, .int x_a0_size, .int x_a0_thrown, .int x_a0_place, .ref r_a0_told, .int x_a0_tells, .ref r_a0_order, .ref r_a0_merged, .ref r_a0_last, .ref r_a0_up, .ref r_a0_symbols, .int x_a0_many, .ref r_a0_list, .int x_a0_listed, .ref r_a0_tables, .int x_a0_groups, .int x_a0_tableCount, .ref r_a0_lengths, .ref r_a0_codes, .ref r_a0_weights, .ref r_a0_parents, .ref r_a0_counts, .int x_a0_origin, .int x_a0_check, .int x_a0_blocks, .int x_a0_fresh, .int x_a0_allTells, .int x_a0_allSymbols, .int x_a0_allGroups, .int x_a0_bit, .int x_a0_checkOfAll, .int x_a0_fault, .int x_a0_total, .ref r_a0_rows, .ref r_a0_from, .int x_a0_rowCount, .ref r_a0_chosen, .int x_a0_chosenCount, .ref q_a0_seen, .ref q_a0_prefix, .int x_a0_seenTables, .int x_a0_seenBytes, .int x_a0_limit, .int x_a0_count])), (q_a0_seen, .inl (g_K C 0, 1548, .inl f_a0_seen)), (q_a0_prefix, .inl (g_K C 0, 1548, .inl f_a0_prefix))] [(0, .ref q_a0), (1, .int p1)] 0 [] := by
  unfold Model_numberSeen_f at hf
  refine g_iconst 0 hC (0 : Int32) (by decide) d_Model_numberSeen_0 ?_
  refine g_istore_n 1 hC (lv2 := [(2, .int (0 : Int32)), (0, .ref q_a0), (1, .int p1)]) (hn := (by decide)) (hl2 := rfl) (hd := d_Model_numberSeen_1) ?_
  refine g_iconst 2 hC (1 : Int32) (by decide) d_Model_numberSeen_2 ?_
  refine g_istore_n 3 hC (lv2 := [(3, .int (1 : Int32)), (2, .int (0 : Int32)), (0, .ref q_a0), (1, .int p1)]) (hn := (by decide)) (hl2 := rfl) (hd := d_Model_numberSeen_3) ?_
  obtain ⟨u2, hu2, hf⟩ := bd_some hf
  have Xu2_0 : ∀ (v3 : (Nat → Int32)), v3 = u2 → gAt C 0 0 [(q_a0, .inr (12, [.ref r_a0_tape, .int x_a0_fed, .ref r_a0_out, .int x_a0_size, .int x_a0_thrown, .int x_a0_place, .ref r_a0_told, .int x_a0_tells, .ref r_a0_order, .ref r_a0_merged, .ref r_a0_last, .ref r_a0_up, .ref r_a0_symbols, .int x_a0_many, .ref r_a0_list, .int x_a0_listed, .ref r_a0_tables, .int x_a0_groups, .int x_a0_tableCount, .ref r_a0_lengths, .ref r_a0_codes, .ref r_a0_weights, .ref r_a0_parents, .ref r_a0_counts, .int x_a0_origin, .int x_a0_check, .int x_a0_blocks, .int x_a0_fresh, .int x_a0_allTells, .int x_a0_allSymbols, .int x_a0_allGroups, .int x_a0_bit, .int x_a0_checkOfAll, .int x_a0_fault, .int x_a0_total, .ref r_a0_rows, .ref r_a0_from, .int x_a0_rowCount, .ref r_a0_chosen, .int x_a0_chosenCount, .ref q_a0_seen, .ref q_a0_prefix, .int x_a0_seenTables, .int x_a0_seenBytes, .int x_a0_limit, .int x_a0_count])), (q_a0_seen, .inl (g_K C 0, 1548, .inl f_a0_seen)), (q_a0_prefix, .inl (g_K C 0, 1548, .inl v3))] [] 77 [] := by
    intro v3 hv
    rw [← hv] at hf
    exact kr () v3 77 [] (Option.some.inj hf) d_Model_numberSeen_77
  have Gu2 := lp_ind (b := (Model_numberSeen_L4 x_a0_seenBytes p1 f_a0_seen)) (G := fun (s1 : (Int32 × Int32 × (Nat → Int32))) => gAt C 0 0 [(q_a0, .inr (12, [.ref r_a0_tape, .int x_a0_fed, .ref r_a0_out, .int x_a0_size, .int x_a0_thrown, .int x_a0_place, .ref r_a0_told, .int x_a0_tells, .ref r_a0_order, .ref r_a0_merged, .ref r_a0_last, .ref r_a0_up, .ref r_a0_symbols, .int x_a0_many, .ref r_a0_list, .int x_a0_listed, .ref r_a0_tables, .int x_a0_groups, .int x_a0_tableCount, .ref r_a0_lengths, .ref r_a0_codes, .ref r_a0_weights, .ref r_a0_parents, .ref r_a0_counts, .int x_a0_origin, .int x_a0_check, .int x_a0_blocks, .int x_a0_fresh, .int x_a0_allTells, .int x_a0_allSymbols, .int x_a0_allGroups, .int x_a0_bit, .int x_a0_checkOfAll, .int x_a0_fault, .int x_a0_total, .ref r_a0_rows, .ref r_a0_from, .int x_a0_rowCount, .ref r_a0_chosen, .int x_a0_chosenCount, .ref q_a0_seen, .ref q_a0_prefix, .int x_a0_seenTables, .int x_a0_seenBytes, .int x_a0_limit, .int x_a0_count])), (q_a0_seen, .inl (g_K C 0, 1548, .inl f_a0_seen)), (q_a0_prefix, .inl (g_K C 0, 1548, .inl s1.2.2))] [(0, .ref q_a0), (1, .int p1), (2, .int s1.1), (3, .int s1.2.1)] 4 []) (o := u2) (by
      intro s1 u4 hf hI hX
      unfold Model_numberSeen_L4 at hf
      refine g_iload_n 4 hC (j := 3) (hj := rfl) (hd := d_Model_numberSeen_4) ?_
      refine g_bipush 5 hC (20 : Int32) (by decide) d_Model_numberSeen_5 ?_
      refine g_icmp_gt 7 hC 77 (by decide) d_Model_numberSeen_7 (fun c5 => ?_) (fun c5 => ?_)
      · have hf := it_t c5 hf
        exact g_re [0, 1, 2] [] rfl rfl rfl (Xu2_0 s1.2.2 (hX s1.2.2 hf))
      · have hf := it_f c5 hf
        refine g_iconst 10 hC (0 : Int32) (by decide) d_Model_numberSeen_10 ?_
        refine g_istore 11 hC (lv2 := [(4, .int (0 : Int32)), (0, .ref q_a0), (1, .int p1), (2, .int s1.1), (3, .int s1.2.1)]) (hn := (by decide)) (hl2 := rfl) (hd := d_Model_numberSeen_11) ?_
        obtain ⟨u7, hu7, hf⟩ := bd_some hf
        have Xu7_0 : ∀ (v8 : (Int32 × (Nat → Int32))), v8 = u7 → gAt C 0 0 [(q_a0, .inr (12, [.ref r_a0_tape, .int x_a0_fed, .ref r_a0_out, .int x_a0_size, .int x_a0_thrown, .int x_a0_place, .ref r_a0_told, .int x_a0_tells, .ref r_a0_order, .ref r_a0_merged, .ref r_a0_last, .ref r_a0_up, .ref r_a0_symbols, .int x_a0_many, .ref r_a0_list, .int x_a0_listed, .ref r_a0_tables, .int x_a0_groups, .int x_a0_tableCount, .ref r_a0_lengths, .ref r_a0_codes, .ref r_a0_weights, .ref r_a0_parents, .ref r_a0_counts, .int x_a0_origin, .int x_a0_check, .int x_a0_blocks, .int x_a0_fresh, .int x_a0_allTells, .int x_a0_allSymbols, .int x_a0_allGroups, .int x_a0_bit, .int x_a0_checkOfAll, .int x_a0_fault, .int x_a0_total, .ref r_a0_rows, .ref r_a0_from, .int x_a0_rowCount, .ref r_a0_chosen, .int x_a0_chosenCount, .ref q_a0_seen, .ref q_a0_prefix, .int x_a0_seenTables, .int x_a0_seenBytes, .int x_a0_limit, .int x_a0_count])), (q_a0_seen, .inl (g_K C 0, 1548, .inl f_a0_seen)), (q_a0_prefix, .inl (g_K C 0, 1548, .inl v8.2))] [(0, .ref q_a0), (1, .int p1), (2, .int v8.1), (3, .int s1.2.1)] 67 [] := by
          intro v8 hv
          rw [← hv] at hf
          refine g_iload_n 67 hC (j := 2) (hj := rfl) (hd := d_Model_numberSeen_67) ?_
          refine g_iconst 68 hC (1 : Int32) (by decide) d_Model_numberSeen_68 ?_
          refine g_ishl 69 hC d_Model_numberSeen_69 ?_
          refine g_istore_n 70 hC (lv2 := [(2, .int (v8.1 <<< ((1 : Int32) &&& 31))), (0, .ref q_a0), (1, .int p1), (3, .int s1.2.1)]) (hn := (by decide)) (hl2 := rfl) (hd := d_Model_numberSeen_70) ?_
          refine g_iinc 71 hC 3 (1 : Int32) [(3, .int (s1.2.1 + (1 : Int32))), (2, .int (v8.1 <<< ((1 : Int32) &&& 31))), (0, .ref q_a0), (1, .int p1)] rfl (by decide) (by decide) rfl d_Model_numberSeen_71 ?_
          refine g_goto 74 hC 4 (by decide) d_Model_numberSeen_74 ?_
          exact g_re [0, 1, 2] [2, 3, 1, 0] rfl rfl rfl (hI ((v8.1 <<< ((1 : Int32) &&& 31)), (s1.2.1 + (1 : Int32)), v8.2) hf)
        have Gu7 := lp_ind (b := (Model_numberSeen_L13 x_a0_seenBytes p1 f_a0_seen s1)) (G := fun (s6 : (Int32 × Int32 × (Nat → Int32))) => gAt C 0 0 [(q_a0, .inr (12, [.ref r_a0_tape, .int x_a0_fed, .ref r_a0_out, .int x_a0_size, .int x_a0_thrown, .int x_a0_place, .ref r_a0_told, .int x_a0_tells, .ref r_a0_order, .ref r_a0_merged, .ref r_a0_last, .ref r_a0_up, .ref r_a0_symbols, .int x_a0_many, .ref r_a0_list, .int x_a0_listed, .ref r_a0_tables, .int x_a0_groups, .int x_a0_tableCount, .ref r_a0_lengths, .ref r_a0_codes, .ref r_a0_weights, .ref r_a0_parents, .ref r_a0_counts, .int x_a0_origin, .int x_a0_check, .int x_a0_blocks, .int x_a0_fresh, .int x_a0_allTells, .int x_a0_allSymbols, .int x_a0_allGroups, .int x_a0_bit, .int x_a0_checkOfAll, .int x_a0_fault, .int x_a0_total, .ref r_a0_rows, .ref r_a0_from, .int x_a0_rowCount, .ref r_a0_chosen, .int x_a0_chosenCount, .ref q_a0_seen, .ref q_a0_prefix, .int x_a0_seenTables, .int x_a0_seenBytes, .int x_a0_limit, .int x_a0_count])), (q_a0_seen, .inl (g_K C 0, 1548, .inl f_a0_seen)), (q_a0_prefix, .inl (g_K C 0, 1548, .inl s6.2.2))] [(0, .ref q_a0), (1, .int p1), (2, .int s6.1), (3, .int s1.2.1), (4, .int s6.2.1)] 13 []) (o := u7) (by
            intro s6 u9 hf hI hX
            unfold Model_numberSeen_L13 at hf
            have J61 : ∀ (j61_0 : Int32) (j61_1 : (Nat → Int32)), Model_numberSeen_J61 s6 j61_0 j61_1 = some u9 → gAt C 0 0 [(q_a0, .inr (12, [.ref r_a0_tape, .int x_a0_fed, .ref r_a0_out, .int x_a0_size, .int x_a0_thrown, .int x_a0_place, .ref r_a0_told, .int x_a0_tells, .ref r_a0_order, .ref r_a0_merged, .ref r_a0_last, .ref r_a0_up, .ref r_a0_symbols, .int x_a0_many, .ref r_a0_list, .int x_a0_listed, .ref r_a0_tables, .int x_a0_groups, .int x_a0_tableCount, .ref r_a0_lengths, .ref r_a0_codes, .ref r_a0_weights, .ref r_a0_parents, .ref r_a0_counts, .int x_a0_origin, .int x_a0_check, .int x_a0_blocks, .int x_a0_fresh, .int x_a0_allTells, .int x_a0_allSymbols, .int x_a0_allGroups, .int x_a0_bit, .int x_a0_checkOfAll, .int x_a0_fault, .int x_a0_total, .ref r_a0_rows, .ref r_a0_from, .int x_a0_rowCount, .ref r_a0_chosen, .int x_a0_chosenCount, .ref q_a0_seen, .ref q_a0_prefix, .int x_a0_seenTables, .int x_a0_seenBytes, .int x_a0_limit, .int x_a0_count])), (q_a0_seen, .inl (g_K C 0, 1548, .inl f_a0_seen)), (q_a0_prefix, .inl (g_K C 0, 1548, .inl j61_1))] [(0, .ref q_a0), (1, .int p1), (2, .int j61_0), (3, .int s1.2.1), (4, .int s6.2.1)] 61 [] := by
              intro j61_0 j61_1 hf
              unfold Model_numberSeen_J61 at hf
              refine g_iinc 61 hC 4 (1 : Int32) [(4, .int (s6.2.1 + (1 : Int32))), (0, .ref q_a0), (1, .int p1), (2, .int j61_0), (3, .int s1.2.1)] rfl (by decide) (by decide) rfl d_Model_numberSeen_61 ?_
              refine g_goto 64 hC 13 (by decide) d_Model_numberSeen_64 ?_
              exact g_re [0, 1, 2] [1, 2, 3, 4, 0] rfl rfl rfl (hI (j61_0, (s6.2.1 + (1 : Int32)), j61_1) hf)
            refine g_iload 13 hC (j := 4) (hj := rfl) (hd := d_Model_numberSeen_13) ?_
            refine g_aload_n 15 hC (j := 0) (hj := rfl) (hd := d_Model_numberSeen_15) ?_
            refine g_get 16 hC i_Model rfl 0 rfl 43 (by decide) k1272 rfl d_Model_numberSeen_16 ?_
            refine g_iconst 19 hC (2 : Int32) (by decide) d_Model_numberSeen_19 ?_
            refine g_iadd 20 hC d_Model_numberSeen_20 ?_
            refine g_icmp_ge 21 hC 67 (by decide) d_Model_numberSeen_21 (fun c10 => ?_) (fun c10 => ?_)
            · have hf := it_t c10 hf
              exact g_re [0, 1, 2] [0, 1, 2, 3] rfl rfl rfl (Xu7_0 (s6.1, s6.2.2) (hX (s6.1, s6.2.2) hf))
            · have hf := it_f c10 hf
              refine g_aload_n 24 hC (j := 0) (hj := rfl) (hd := d_Model_numberSeen_24) ?_
              refine g_get 25 hC i_Model rfl 0 rfl 40 (by decide) k1269 rfl d_Model_numberSeen_25 ?_
              refine g_sipush 28 hC (258 : Int32) (by decide) d_Model_numberSeen_28 ?_
              refine g_iload_n 31 hC (j := 1) (hj := rfl) (hd := d_Model_numberSeen_31) ?_
              refine g_imul 32 hC d_Model_numberSeen_32 ?_
              refine g_iload 33 hC (j := 4) (hj := rfl) (hd := d_Model_numberSeen_33) ?_
              refine g_iadd 35 hC d_Model_numberSeen_35 ?_
              obtain ⟨e11, hf⟩ := gd_some hf
              refine g_iald 36 hC 1 rfl e11 d_Model_numberSeen_36 ?_
              refine g_iload_n 37 hC (j := 3) (hj := rfl) (hd := d_Model_numberSeen_37) ?_
              refine g_icmp_eq 38 hC 44 (by decide) d_Model_numberSeen_38 (fun c12 => ?_) (fun c12 => ?_)
              · have hf := it_t c12 hf
                refine g_aload_n 44 hC (j := 0) (hj := rfl) (hd := d_Model_numberSeen_44) ?_
                refine g_get 45 hC i_Model rfl 0 rfl 41 (by decide) k1270 rfl d_Model_numberSeen_45 ?_
                refine g_sipush 48 hC (258 : Int32) (by decide) d_Model_numberSeen_48 ?_
                refine g_iload_n 51 hC (j := 1) (hj := rfl) (hd := d_Model_numberSeen_51) ?_
                refine g_imul 52 hC d_Model_numberSeen_52 ?_
                refine g_iload 53 hC (j := 4) (hj := rfl) (hd := d_Model_numberSeen_53) ?_
                refine g_iadd 55 hC d_Model_numberSeen_55 ?_
                refine g_iload_n 56 hC (j := 2) (hj := rfl) (hd := d_Model_numberSeen_56) ?_
                obtain ⟨e13, hf⟩ := gd_some hf
                refine g_iast 57 hC 2 rfl e13 [(q_a0, .inr (12, [.ref r_a0_tape, .int x_a0_fed, .ref r_a0_out, .int x_a0_size, .int x_a0_thrown, .int x_a0_place, .ref r_a0_told, .int x_a0_tells, .ref r_a0_order, .ref r_a0_merged, .ref r_a0_last, .ref r_a0_up, .ref r_a0_symbols, .int x_a0_many, .ref r_a0_list, .int x_a0_listed, .ref r_a0_tables, .int x_a0_groups, .int x_a0_tableCount, .ref r_a0_lengths, .ref r_a0_codes, .ref r_a0_weights, .ref r_a0_parents, .ref r_a0_counts, .int x_a0_origin, .int x_a0_check, .int x_a0_blocks, .int x_a0_fresh, .int x_a0_allTells, .int x_a0_allSymbols, .int x_a0_allGroups, .int x_a0_bit, .int x_a0_checkOfAll, .int x_a0_fault, .int x_a0_total, .ref r_a0_rows, .ref r_a0_from, .int x_a0_rowCount, .ref r_a0_chosen, .int x_a0_chosenCount, .ref q_a0_seen, .ref q_a0_prefix, .int x_a0_seenTables, .int x_a0_seenBytes, .int x_a0_limit, .int x_a0_count])), (q_a0_seen, .inl (g_K C 0, 1548, .inl f_a0_seen)), (q_a0_prefix, .inl (g_K C 0, 1548, .inl (upd s6.2.2 (((258 : Int32) * p1) + s6.2.1).toNatClampNeg s6.1)))] rfl d_Model_numberSeen_57 ?_
                refine g_iinc 58 hC 2 (1 : Int32) [(2, .int (s6.1 + (1 : Int32))), (0, .ref q_a0), (1, .int p1), (3, .int s1.2.1), (4, .int s6.2.1)] rfl (by decide) (by decide) rfl d_Model_numberSeen_58 ?_
                exact g_re [0, 1, 2] [1, 2, 0, 3, 4] rfl rfl rfl (J61 (s6.1 + (1 : Int32)) (upd s6.2.2 (((258 : Int32) * p1) + s6.2.1).toNatClampNeg s6.1) hf)
              · have hf := it_f c12 hf
                refine g_goto 41 hC 61 (by decide) d_Model_numberSeen_41 ?_
                exact J61 s6.1 s6.2.2 hf) gas
        exact g_re [0, 1, 2] [1, 2, 3, 4, 0] rfl rfl rfl (Gu7 (s1.1, (0 : Int32), s1.2.2) hu7)) gas
  exact g_re [0, 1, 2] [2, 3, 1, 0] rfl rfl rfl (Gu2 ((0 : Int32), (1 : Int32), f_a0_prefix) hu2)
theorem c_Model_numberSeen (l : Launch) (D : va_G) (K : Nat → ClassId) (q_a0 : Nat) (r_a0_tape : Nat) (x_a0_fed : Int32) (r_a0_out : Nat) (x_a0_size : Int32) (x_a0_thrown : Int32) (x_a0_place : Int32) (r_a0_told : Nat) (x_a0_tells : Int32) (r_a0_order : Nat) (r_a0_merged : Nat) (r_a0_last : Nat) (r_a0_up : Nat) (r_a0_symbols : Nat) (x_a0_many : Int32) (r_a0_list : Nat) (x_a0_listed : Int32) (r_a0_tables : Nat) (x_a0_groups : Int32) (x_a0_tableCount : Int32) (r_a0_lengths : Nat) (r_a0_codes : Nat) (r_a0_weights : Nat) (r_a0_parents : Nat) (r_a0_counts : Nat) (x_a0_origin : Int32) (x_a0_check : Int32) (x_a0_blocks : Int32) (x_a0_fresh : Int32) (x_a0_allTells : Int32) (x_a0_allSymbols : Int32) (x_a0_allGroups : Int32) (x_a0_bit : Int32) (x_a0_checkOfAll : Int32) (x_a0_fault : Int32) (x_a0_total : Int32) (r_a0_rows : Nat) (r_a0_from : Nat) (x_a0_rowCount : Int32) (r_a0_chosen : Nat) (x_a0_chosenCount : Int32) (q_a0_seen : Nat) (q_a0_prefix : Nat) (x_a0_seenTables : Int32) (x_a0_seenBytes : Int32) (x_a0_limit : Int32) (x_a0_count : Int32) (f_a0_seen : (Nat → Int32)) (f_a0_prefix : (Nat → Int32)) (p1 : Int32) (out : (Nat → Int32)) (hf : Model_numberSeen_f x_a0_seenBytes p1 f_a0_seen f_a0_prefix = some out) : Cv l D K y_Model_numberSeen (g_wd y_Model_numberSeen b_Model_numberSeen 5 none) { frames := 0, cells := 0, slots := 0, locals := 0 } [.ref q_a0, .int p1] [(q_a0, .inr (12, [.ref r_a0_tape, .int x_a0_fed, .ref r_a0_out, .int x_a0_size, .int x_a0_thrown, .int x_a0_place, .ref r_a0_told, .int x_a0_tells, .ref r_a0_order, .ref r_a0_merged, .ref r_a0_last, .ref r_a0_up, .ref r_a0_symbols, .int x_a0_many, .ref r_a0_list, .int x_a0_listed, .ref r_a0_tables, .int x_a0_groups, .int x_a0_tableCount, .ref r_a0_lengths, .ref r_a0_codes, .ref r_a0_weights, .ref r_a0_parents, .ref r_a0_counts, .int x_a0_origin, .int x_a0_check, .int x_a0_blocks, .int x_a0_fresh, .int x_a0_allTells, .int x_a0_allSymbols, .int x_a0_allGroups, .int x_a0_bit, .int x_a0_checkOfAll, .int x_a0_fault, .int x_a0_total, .ref r_a0_rows, .ref r_a0_from, .int x_a0_rowCount, .ref r_a0_chosen, .int x_a0_chosenCount, .ref q_a0_seen, .ref q_a0_prefix, .int x_a0_seenTables, .int x_a0_seenBytes, .int x_a0_limit, .int x_a0_count])), (q_a0_seen, .inl (K 0, 1548, .inl f_a0_seen)), (q_a0_prefix, .inl (K 0, 1548, .inl f_a0_prefix))] (fun (x : Unit) => [(q_a0, .inr (12, [.ref r_a0_tape, .int x_a0_fed, .ref r_a0_out, .int x_a0_size, .int x_a0_thrown, .int x_a0_place, .ref r_a0_told, .int x_a0_tells, .ref r_a0_order, .ref r_a0_merged, .ref r_a0_last, .ref r_a0_up, .ref r_a0_symbols, .int x_a0_many, .ref r_a0_list, .int x_a0_listed, .ref r_a0_tables, .int x_a0_groups, .int x_a0_tableCount, .ref r_a0_lengths, .ref r_a0_codes, .ref r_a0_weights, .ref r_a0_parents, .ref r_a0_counts, .int x_a0_origin, .int x_a0_check, .int x_a0_blocks, .int x_a0_fresh, .int x_a0_allTells, .int x_a0_allSymbols, .int x_a0_allGroups, .int x_a0_bit, .int x_a0_checkOfAll, .int x_a0_fault, .int x_a0_total, .ref r_a0_rows, .ref r_a0_from, .int x_a0_rowCount, .ref r_a0_chosen, .int x_a0_chosenCount, .ref q_a0_seen, .ref q_a0_prefix, .int x_a0_seenTables, .int x_a0_seenBytes, .int x_a0_limit, .int x_a0_count])), (q_a0_seen, .inl (K 0, 1548, .inl f_a0_seen)), (q_a0_prefix, .inl (K 0, 1548, .inl out))]) := mk_v (by decide) (Nat.le_of_ble_eq_true rfl) (fun p e s m below meth c A Q hC kr => m_Model_numberSeen hC q_a0 r_a0_tape x_a0_fed r_a0_out x_a0_size x_a0_thrown x_a0_place r_a0_told x_a0_tells r_a0_order r_a0_merged r_a0_last r_a0_up r_a0_symbols x_a0_many r_a0_list x_a0_listed r_a0_tables x_a0_groups x_a0_tableCount r_a0_lengths r_a0_codes r_a0_weights r_a0_parents r_a0_counts x_a0_origin x_a0_check x_a0_blocks x_a0_fresh x_a0_allTells x_a0_allSymbols x_a0_allGroups x_a0_bit x_a0_checkOfAll x_a0_fault x_a0_total r_a0_rows r_a0_from x_a0_rowCount r_a0_chosen x_a0_chosenCount q_a0_seen q_a0_prefix x_a0_seenTables x_a0_seenBytes x_a0_limit x_a0_count f_a0_seen f_a0_prefix p1 out hf (fun x o9 pc lv ho => by subst ho; exact kr x pc lv))
