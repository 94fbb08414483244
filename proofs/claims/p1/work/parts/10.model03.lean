abbrev b_Model_compare : ByteArray := prog_14_method_11_code
def y_Model_compare : MethodName := ⟨R_Model, "compare", "(II)I"⟩
theorem d_Model_compare_0 : decode b_Model_compare 0 = .ok (.iconst 0, 1) := by decide +kernel
theorem d_Model_compare_1 : decode b_Model_compare 1 = .ok (.istore_n 3, 1) := by decide +kernel
theorem d_Model_compare_2 : decode b_Model_compare 2 = .ok (.iload_n 3, 1) := by decide +kernel
theorem d_Model_compare_3 : decode b_Model_compare 3 = .ok (.aload_n 0, 1) := by decide +kernel
theorem d_Model_compare_4 : decode b_Model_compare 4 = .ok (.getfield 96, 3) := by decide +kernel
theorem d_Model_compare_7 : decode b_Model_compare 7 = .ok (.if_icmp .ge 52, 3) := by decide +kernel
theorem d_Model_compare_10 : decode b_Model_compare 10 = .ok (.aload_n 0, 1) := by decide +kernel
theorem d_Model_compare_11 : decode b_Model_compare 11 = .ok (.getfield 21, 3) := by decide +kernel
theorem d_Model_compare_14 : decode b_Model_compare 14 = .ok (.iload_n 1, 1) := by decide +kernel
theorem d_Model_compare_15 : decode b_Model_compare 15 = .ok (.iload_n 3, 1) := by decide +kernel
theorem d_Model_compare_16 : decode b_Model_compare 16 = .ok (.iadd, 1) := by decide +kernel
theorem d_Model_compare_17 : decode b_Model_compare 17 = .ok (.aload_n 0, 1) := by decide +kernel
theorem d_Model_compare_18 : decode b_Model_compare 18 = .ok (.getfield 96, 3) := by decide +kernel
theorem d_Model_compare_21 : decode b_Model_compare 21 = .ok (.irem, 1) := by decide +kernel
theorem d_Model_compare_22 : decode b_Model_compare 22 = .ok (.iaload, 1) := by decide +kernel
theorem d_Model_compare_23 : decode b_Model_compare 23 = .ok (.istore 4, 2) := by decide +kernel
theorem d_Model_compare_25 : decode b_Model_compare 25 = .ok (.aload_n 0, 1) := by decide +kernel
theorem d_Model_compare_26 : decode b_Model_compare 26 = .ok (.getfield 21, 3) := by decide +kernel
theorem d_Model_compare_29 : decode b_Model_compare 29 = .ok (.iload_n 2, 1) := by decide +kernel
theorem d_Model_compare_30 : decode b_Model_compare 30 = .ok (.iload_n 3, 1) := by decide +kernel
theorem d_Model_compare_31 : decode b_Model_compare 31 = .ok (.iadd, 1) := by decide +kernel
theorem d_Model_compare_32 : decode b_Model_compare 32 = .ok (.aload_n 0, 1) := by decide +kernel
theorem d_Model_compare_33 : decode b_Model_compare 33 = .ok (.getfield 96, 3) := by decide +kernel
theorem d_Model_compare_36 : decode b_Model_compare 36 = .ok (.irem, 1) := by decide +kernel
theorem d_Model_compare_37 : decode b_Model_compare 37 = .ok (.iaload, 1) := by decide +kernel
theorem d_Model_compare_38 : decode b_Model_compare 38 = .ok (.istore 5, 2) := by decide +kernel
theorem d_Model_compare_40 : decode b_Model_compare 40 = .ok (.iload 4, 2) := by decide +kernel
theorem d_Model_compare_42 : decode b_Model_compare 42 = .ok (.iload 5, 2) := by decide +kernel
theorem d_Model_compare_44 : decode b_Model_compare 44 = .ok (.if_icmp .eq 9, 3) := by decide +kernel
theorem d_Model_compare_47 : decode b_Model_compare 47 = .ok (.iload 4, 2) := by decide +kernel
theorem d_Model_compare_49 : decode b_Model_compare 49 = .ok (.iload 5, 2) := by decide +kernel
theorem d_Model_compare_51 : decode b_Model_compare 51 = .ok (.isub, 1) := by decide +kernel
theorem d_Model_compare_52 : decode b_Model_compare 52 = .ok (.ireturn, 1) := by decide +kernel
theorem d_Model_compare_53 : decode b_Model_compare 53 = .ok (.iinc 3 1, 3) := by decide +kernel
theorem d_Model_compare_56 : decode b_Model_compare 56 = .ok (.goto (-54), 3) := by decide +kernel
theorem d_Model_compare_59 : decode b_Model_compare 59 = .ok (.iconst 0, 1) := by decide +kernel
theorem d_Model_compare_60 : decode b_Model_compare 60 = .ok (.ireturn, 1) := by decide +kernel
theorem k1236 : (Jvm.Cond.fieldLink "RotationPressModel" (96 : Nat) "RotationPressModel" "tells" "I") ∈ g_tbl := List.mem_filter.mpr ⟨List.mem_append_right (k2_sels lw_privs) (List.mem_append_right _ (List.mem_append_right _ (List.mem_append_right _ (List.mem_append_right _ (List.mem_append_right _ (List.mem_append_left _ (List.mem_of_getElem? (l := tables_1_6) (i := 36) rfl))))))), rfl⟩
theorem k1235 : (Jvm.Cond.fieldLink "RotationPressModel" (21 : Nat) "RotationPressModel" "told" "[I") ∈ g_tbl := List.mem_filter.mpr ⟨List.mem_append_right (k2_sels lw_privs) (List.mem_append_right _ (List.mem_append_right _ (List.mem_append_right _ (List.mem_append_right _ (List.mem_append_right _ (List.mem_append_left _ (List.mem_of_getElem? (l := tables_1_6) (i := 35) rfl))))))), rfl⟩
set_option maxRecDepth 100000 in
set_option maxHeartbeats 4000000 in
theorem m_Model_compare {C : gT} (hC : gOk C b_Model_compare R_Model { frames := 0, cells := 0, slots := 0, locals := 0 } 6) (q_a0 : Nat) (r_a0_tape : Nat) (x_a0_fed : Int32) (r_a0_out : Nat) (x_a0_size : Int32) (x_a0_thrown : Int32) (x_a0_place : Int32) (q_a0_told : Nat) (x_a0_tells : Int32) (r_a0_order : Nat) (r_a0_merged : Nat) (r_a0_last : Nat) (r_a0_up : Nat) (r_a0_symbols : Nat) (x_a0_many : Int32) (r_a0_list : Nat) (x_a0_listed : Int32) (r_a0_tables : Nat) (x_a0_groups : Int32) (x_a0_tableCount : Int32) (r_a0_lengths : Nat) (r_a0_codes : Nat) (r_a0_weights : Nat) (r_a0_parents : Nat) (r_a0_counts : Nat) (x_a0_origin : Int32) (x_a0_check : Int32) (x_a0_blocks : Int32) (x_a0_fresh : Int32) (x_a0_allTells : Int32) (x_a0_allSymbols : Int32) (x_a0_allGroups : Int32) (x_a0_bit : Int32) (x_a0_checkOfAll : Int32) (x_a0_fault : Int32) (x_a0_total : Int32) (r_a0_rows : Nat) (r_a0_from : Nat) (x_a0_rowCount : Int32) (r_a0_chosen : Nat) (x_a0_chosenCount : Int32) (r_a0_seen : Nat) (r_a0_prefix : Nat) (x_a0_seenTables : Int32) (x_a0_seenBytes : Int32) (x_a0_limit : Int32) (x_a0_count : Int32) (f_a0_told : (Nat → Int32)) (p1 : Int32) (p2 : Int32) (out : Int32) (hf : Model_compare_f x_a0_tells p1 p2 f_a0_told = some out) (kr : ∀ (x : Unit) (o9 : Int32) (pc : Nat) (lv : List (Nat × Value)), o9 = out → decode b_Model_compare pc = .ok (.ireturn, 1) → narrow .int (.int o9) = .int o9 → gAt C 0 0 [(q_a0, .inr (12, [.ref r_a0_tape, .int x_a0_fed, .ref r_a0_out, .int x_a0_size, .int x_a0_thrown, .int x_a0_place, .ref q_a0_told, .int x_a0_tells, .ref r_a0_order, .ref r_a0_merged, .ref r_a0_last, .ref r_a0_up, .ref r_a0_symbols, .int x_a0_many, .ref r_a0_list, .int x_a0_listed, .ref r_a0_tables, .int x_a0_groups, .int x_a0_tableCount, .ref r_a0_lengths, .ref r_a0_codes, .ref r_a0_weights, .ref r_a0_parents, .ref r_a0_counts, .int x_a0_origin, .int x_a0_check, .int x_a0_blocks, .int x_a0_fresh, .int x_a0_allTells, .int x_a0_allSymbols, .int x_a0_allGroups, .int x_a0_bit, .int x_a0_checkOfAll, .int x_a0_fault, .int x_a0_total, .ref r_a0_rows, .ref r_a0_from, .int x_a0_rowCount, .ref r_a0_chosen, .int x_a0_chosenCount, .ref r_a0_seen, .ref r_a0_prefix, .int x_a0_seenTables, .int x_a0_seenBytes, .int x_a0_limit, .int x_a0_count])), (q_a0_told, .inl (g_K C 0, 2250, .inl f_a0_told))] lv pc [.int o9]) : gAt C 0 0 [(q_a0, .inr (12, [.ref r_a0_tape, .int x_a0_fed, .ref r_a0_out, .int x_a0_size, .int x_a0_thrown, .int x_a0_place, .ref q_a0_told, .int x_a0_tells, .ref r_a0_order, .ref r_a0_merged, .ref r_a0_last, .ref r_a0_up, .ref r_a0_symbols, .int x_a0_many, .ref r_a0_list, .int x_a0_listed, .ref r_a0_tables, .int x_a0_groups, .int x_a0_tableCount, .ref r_a0_lengths, .ref r_a0_codes, .ref r_a0_weights, .ref r_a0_parents, .ref r_a0_counts, .int x_a0_origin, .int x_a0_check, .int x_a0_blocks, .int x_a0_fresh, .int x_a0_allTells, .int x_a0_allSymbols, .int x_a0_allGroups, .int x_a0_bit, .int x_a0_checkOfAll, .int x_a0_fault, .int x_a0_total, .ref r_a0_rows, .ref r_a0_from, .int x_a0_rowCount, .ref r_a0_chosen, .int x_a0_chosenCount, .ref r_a0_seen, .ref r_a0_prefix, .int x_a0_seenTables, .int x_a0_seenBytes, .int x_a0_limit, .int x_a0_count])), (q_a0_told, .inl (g_K C 0, 2250, .inl f_a0_told))] [(0, .ref q_a0), (1, .int p1), (2, .int p2)] 0 [] := by
  unfold Model_compare_f at hf
  refine g_iconst 0 hC (0 : Int32) (by decide) d_Model_compare_0 ?_
  refine g_istore_n 1 hC (lv2 := [(3, .int (0 : Int32)), (0, .ref q_a0), (1, .int p1), (2, .int p2)]) (hn := (by decide)) (hl2 := rfl) (hd := d_Model_compare_1) ?_
  obtain ⟨u2, hu2, hf⟩ := bd_some hf
  have Xu2_0 : ∀ (v3 : (Int32 × Int32)), Sum.inl v3 = u2 → gAt C 0 0 [(q_a0, .inr (12, [.ref r_a0_tape, .int x_a0_fed, .ref r_a0_out, .int x_a0_size, .int x_a0_thrown, .int x_a0_place, .ref q_a0_told, .int x_a0_tells, .ref r_a0_order, .ref r_a0_merged, .ref r_a0_last, .ref r_a0_up, .ref r_a0_symbols, .int x_a0_many, .ref r_a0_list, .int x_a0_listed, .ref r_a0_tables, .int x_a0_groups, .int x_a0_tableCount, .ref r_a0_lengths, .ref r_a0_codes, .ref r_a0_weights, .ref r_a0_parents, .ref r_a0_counts, .int x_a0_origin, .int x_a0_check, .int x_a0_blocks, .int x_a0_fresh, .int x_a0_allTells, .int x_a0_allSymbols, .int x_a0_allGroups, .int x_a0_bit, .int x_a0_checkOfAll, .int x_a0_fault, .int x_a0_total, .ref r_a0_rows, .ref r_a0_from, .int x_a0_rowCount, .ref r_a0_chosen, .int x_a0_chosenCount, .ref r_a0_seen, .ref r_a0_prefix, .int x_a0_seenTables, .int x_a0_seenBytes, .int x_a0_limit, .int x_a0_count])), (q_a0_told, .inl (g_K C 0, 2250, .inl f_a0_told))] [(4, .int v3.1), (5, .int v3.2)] 47 [] := by
    intro v3 hv
    rw [← hv] at hf
    have hf := el_l hf
    refine g_iload 47 hC (j := 0) (hj := rfl) (hd := d_Model_compare_47) ?_
    refine g_iload 49 hC (j := 1) (hj := rfl) (hd := d_Model_compare_49) ?_
    refine g_isub 51 hC d_Model_compare_51 ?_
    exact g_re [0, 1] [] rfl rfl rfl (kr () (v3.1 - v3.2) 52 [] (Option.some.inj hf) d_Model_compare_52 rfl)
  have Xu2_1 : ∀ (v4 : Unit), Sum.inr v4 = u2 → gAt C 0 0 [(q_a0, .inr (12, [.ref r_a0_tape, .int x_a0_fed, .ref r_a0_out, .int x_a0_size, .int x_a0_thrown, .int x_a0_place, .ref q_a0_told, .int x_a0_tells, .ref r_a0_order, .ref r_a0_merged, .ref r_a0_last, .ref r_a0_up, .ref r_a0_symbols, .int x_a0_many, .ref r_a0_list, .int x_a0_listed, .ref r_a0_tables, .int x_a0_groups, .int x_a0_tableCount, .ref r_a0_lengths, .ref r_a0_codes, .ref r_a0_weights, .ref r_a0_parents, .ref r_a0_counts, .int x_a0_origin, .int x_a0_check, .int x_a0_blocks, .int x_a0_fresh, .int x_a0_allTells, .int x_a0_allSymbols, .int x_a0_allGroups, .int x_a0_bit, .int x_a0_checkOfAll, .int x_a0_fault, .int x_a0_total, .ref r_a0_rows, .ref r_a0_from, .int x_a0_rowCount, .ref r_a0_chosen, .int x_a0_chosenCount, .ref r_a0_seen, .ref r_a0_prefix, .int x_a0_seenTables, .int x_a0_seenBytes, .int x_a0_limit, .int x_a0_count])), (q_a0_told, .inl (g_K C 0, 2250, .inl f_a0_told))] [] 59 [] := by
    intro v4 hv
    rw [← hv] at hf
    have hf := el_r hf
    refine g_iconst 59 hC (0 : Int32) (by decide) d_Model_compare_59 ?_
    exact kr () (0 : Int32) 60 [] (Option.some.inj hf) d_Model_compare_60 rfl
  have Gu2 := lp_ind (b := (Model_compare_L2 x_a0_tells p1 p2 f_a0_told)) (G := fun (s1 : Int32) => gAt C 0 0 [(q_a0, .inr (12, [.ref r_a0_tape, .int x_a0_fed, .ref r_a0_out, .int x_a0_size, .int x_a0_thrown, .int x_a0_place, .ref q_a0_told, .int x_a0_tells, .ref r_a0_order, .ref r_a0_merged, .ref r_a0_last, .ref r_a0_up, .ref r_a0_symbols, .int x_a0_many, .ref r_a0_list, .int x_a0_listed, .ref r_a0_tables, .int x_a0_groups, .int x_a0_tableCount, .ref r_a0_lengths, .ref r_a0_codes, .ref r_a0_weights, .ref r_a0_parents, .ref r_a0_counts, .int x_a0_origin, .int x_a0_check, .int x_a0_blocks, .int x_a0_fresh, .int x_a0_allTells, .int x_a0_allSymbols, .int x_a0_allGroups, .int x_a0_bit, .int x_a0_checkOfAll, .int x_a0_fault, .int x_a0_total, .ref r_a0_rows, .ref r_a0_from, .int x_a0_rowCount, .ref r_a0_chosen, .int x_a0_chosenCount, .ref r_a0_seen, .ref r_a0_prefix, .int x_a0_seenTables, .int x_a0_seenBytes, .int x_a0_limit, .int x_a0_count])), (q_a0_told, .inl (g_K C 0, 2250, .inl f_a0_told))] [(0, .ref q_a0), (1, .int p1), (2, .int p2), (3, .int s1)] 2 []) (o := u2) (by
      intro s1 u5 hf hI hX
      unfold Model_compare_L2 at hf
      refine g_iload_n 2 hC (j := 3) (hj := rfl) (hd := d_Model_compare_2) ?_
      refine g_aload_n 3 hC (j := 0) (hj := rfl) (hd := d_Model_compare_3) ?_
      refine g_get 4 hC i_Model rfl 0 rfl 7 (by decide) k1236 rfl d_Model_compare_4 ?_
      refine g_icmp_ge 7 hC 59 (by decide) d_Model_compare_7 (fun c6 => ?_) (fun c6 => ?_)
      · have hf := it_t c6 hf
        exact g_re [0, 1] [] rfl rfl rfl (Xu2_1 () (hX (Sum.inr ()) hf))
      · have hf := it_f c6 hf
        refine g_aload_n 10 hC (j := 0) (hj := rfl) (hd := d_Model_compare_10) ?_
        refine g_get 11 hC i_Model rfl 0 rfl 6 (by decide) k1235 rfl d_Model_compare_11 ?_
        refine g_iload_n 14 hC (j := 1) (hj := rfl) (hd := d_Model_compare_14) ?_
        refine g_iload_n 15 hC (j := 3) (hj := rfl) (hd := d_Model_compare_15) ?_
        refine g_iadd 16 hC d_Model_compare_16 ?_
        refine g_aload_n 17 hC (j := 0) (hj := rfl) (hd := d_Model_compare_17) ?_
        refine g_get 18 hC i_Model rfl 0 rfl 7 (by decide) k1236 rfl d_Model_compare_18 ?_
        obtain ⟨e7, hf⟩ := gd_some hf
        refine g_irem 21 hC (hne := e7) (hd := d_Model_compare_21) ?_
        obtain ⟨e8, hf⟩ := gd_some hf
        refine g_iald 22 hC 1 rfl e8 d_Model_compare_22 ?_
        refine g_istore 23 hC (lv2 := [(4, .int (f_a0_told ((p1 + s1) - (p1 + s1) / x_a0_tells * x_a0_tells).toNatClampNeg)), (0, .ref q_a0), (1, .int p1), (2, .int p2), (3, .int s1)]) (hn := (by decide)) (hl2 := rfl) (hd := d_Model_compare_23) ?_
        refine g_aload_n 25 hC (j := 1) (hj := rfl) (hd := d_Model_compare_25) ?_
        refine g_get 26 hC i_Model rfl 0 rfl 6 (by decide) k1235 rfl d_Model_compare_26 ?_
        refine g_iload_n 29 hC (j := 3) (hj := rfl) (hd := d_Model_compare_29) ?_
        refine g_iload_n 30 hC (j := 4) (hj := rfl) (hd := d_Model_compare_30) ?_
        refine g_iadd 31 hC d_Model_compare_31 ?_
        refine g_aload_n 32 hC (j := 1) (hj := rfl) (hd := d_Model_compare_32) ?_
        refine g_get 33 hC i_Model rfl 0 rfl 7 (by decide) k1236 rfl d_Model_compare_33 ?_
        obtain ⟨e9, hf⟩ := gd_some hf
        refine g_irem 36 hC (hne := e9) (hd := d_Model_compare_36) ?_
        obtain ⟨e10, hf⟩ := gd_some hf
        refine g_iald 37 hC 1 rfl e10 d_Model_compare_37 ?_
        refine g_istore 38 hC (lv2 := [(5, .int (f_a0_told ((p2 + s1) - (p2 + s1) / x_a0_tells * x_a0_tells).toNatClampNeg)), (4, .int (f_a0_told ((p1 + s1) - (p1 + s1) / x_a0_tells * x_a0_tells).toNatClampNeg)), (0, .ref q_a0), (1, .int p1), (2, .int p2), (3, .int s1)]) (hn := (by decide)) (hl2 := rfl) (hd := d_Model_compare_38) ?_
        refine g_iload 40 hC (j := 1) (hj := rfl) (hd := d_Model_compare_40) ?_
        refine g_iload 42 hC (j := 0) (hj := rfl) (hd := d_Model_compare_42) ?_
        refine g_icmp_eq 44 hC 53 (by decide) d_Model_compare_44 (fun c11 => ?_) (fun c11 => ?_)
        · have hf := it_t c11 hf
          refine g_iinc 53 hC 5 (1 : Int32) [(3, .int (s1 + (1 : Int32))), (5, .int (f_a0_told ((p2 + s1) - (p2 + s1) / x_a0_tells * x_a0_tells).toNatClampNeg)), (4, .int (f_a0_told ((p1 + s1) - (p1 + s1) / x_a0_tells * x_a0_tells).toNatClampNeg)), (0, .ref q_a0), (1, .int p1), (2, .int p2)] rfl (by decide) (by decide) rfl d_Model_compare_53 ?_
          refine g_goto 56 hC 2 (by decide) d_Model_compare_56 ?_
          exact g_re [0, 1] [3, 4, 5, 0] rfl rfl rfl (hI (s1 + (1 : Int32)) hf)
        · have hf := it_f c11 hf
          exact g_re [0, 1] [1, 0] rfl rfl rfl (Xu2_0 ((f_a0_told ((p1 + s1) - (p1 + s1) / x_a0_tells * x_a0_tells).toNatClampNeg), (f_a0_told ((p2 + s1) - (p2 + s1) / x_a0_tells * x_a0_tells).toNatClampNeg)) (hX (Sum.inl ((f_a0_told ((p1 + s1) - (p1 + s1) / x_a0_tells * x_a0_tells).toNatClampNeg), (f_a0_told ((p2 + s1) - (p2 + s1) / x_a0_tells * x_a0_tells).toNatClampNeg))) hf))) gas
  exact g_re [0, 1] [1, 2, 3, 0] rfl rfl rfl (Gu2 (0 : Int32) hu2)
theorem c_Model_compare (l : Launch) (D : va_G) (K : Nat → ClassId) (q_a0 : Nat) (r_a0_tape : Nat) (x_a0_fed : Int32) (r_a0_out : Nat) (x_a0_size : Int32) (x_a0_thrown : Int32) (x_a0_place : Int32) (q_a0_told : Nat) (x_a0_tells : Int32) (r_a0_order : Nat) (r_a0_merged : Nat) (r_a0_last : Nat) (r_a0_up : Nat) (r_a0_symbols : Nat) (x_a0_many : Int32) (r_a0_list : Nat) (x_a0_listed : Int32) (r_a0_tables : Nat) (x_a0_groups : Int32) (x_a0_tableCount : Int32) (r_a0_lengths : Nat) (r_a0_codes : Nat) (r_a0_weights : Nat) (r_a0_parents : Nat) (r_a0_counts : Nat) (x_a0_origin : Int32) (x_a0_check : Int32) (x_a0_blocks : Int32) (x_a0_fresh : Int32) (x_a0_allTells : Int32) (x_a0_allSymbols : Int32) (x_a0_allGroups : Int32) (x_a0_bit : Int32) (x_a0_checkOfAll : Int32) (x_a0_fault : Int32) (x_a0_total : Int32) (r_a0_rows : Nat) (r_a0_from : Nat) (x_a0_rowCount : Int32) (r_a0_chosen : Nat) (x_a0_chosenCount : Int32) (r_a0_seen : Nat) (r_a0_prefix : Nat) (x_a0_seenTables : Int32) (x_a0_seenBytes : Int32) (x_a0_limit : Int32) (x_a0_count : Int32) (f_a0_told : (Nat → Int32)) (p1 : Int32) (p2 : Int32) (out : Int32) (hf : Model_compare_f x_a0_tells p1 p2 f_a0_told = some out) : Ci l D K y_Model_compare (g_wd y_Model_compare b_Model_compare 6 (some .int)) { frames := 0, cells := 0, slots := 0, locals := 0 } [.ref q_a0, .int p1, .int p2] [(q_a0, .inr (12, [.ref r_a0_tape, .int x_a0_fed, .ref r_a0_out, .int x_a0_size, .int x_a0_thrown, .int x_a0_place, .ref q_a0_told, .int x_a0_tells, .ref r_a0_order, .ref r_a0_merged, .ref r_a0_last, .ref r_a0_up, .ref r_a0_symbols, .int x_a0_many, .ref r_a0_list, .int x_a0_listed, .ref r_a0_tables, .int x_a0_groups, .int x_a0_tableCount, .ref r_a0_lengths, .ref r_a0_codes, .ref r_a0_weights, .ref r_a0_parents, .ref r_a0_counts, .int x_a0_origin, .int x_a0_check, .int x_a0_blocks, .int x_a0_fresh, .int x_a0_allTells, .int x_a0_allSymbols, .int x_a0_allGroups, .int x_a0_bit, .int x_a0_checkOfAll, .int x_a0_fault, .int x_a0_total, .ref r_a0_rows, .ref r_a0_from, .int x_a0_rowCount, .ref r_a0_chosen, .int x_a0_chosenCount, .ref r_a0_seen, .ref r_a0_prefix, .int x_a0_seenTables, .int x_a0_seenBytes, .int x_a0_limit, .int x_a0_count])), (q_a0_told, .inl (K 0, 2250, .inl f_a0_told))] (fun (x : Unit) => [(q_a0, .inr (12, [.ref r_a0_tape, .int x_a0_fed, .ref r_a0_out, .int x_a0_size, .int x_a0_thrown, .int x_a0_place, .ref q_a0_told, .int x_a0_tells, .ref r_a0_order, .ref r_a0_merged, .ref r_a0_last, .ref r_a0_up, .ref r_a0_symbols, .int x_a0_many, .ref r_a0_list, .int x_a0_listed, .ref r_a0_tables, .int x_a0_groups, .int x_a0_tableCount, .ref r_a0_lengths, .ref r_a0_codes, .ref r_a0_weights, .ref r_a0_parents, .ref r_a0_counts, .int x_a0_origin, .int x_a0_check, .int x_a0_blocks, .int x_a0_fresh, .int x_a0_allTells, .int x_a0_allSymbols, .int x_a0_allGroups, .int x_a0_bit, .int x_a0_checkOfAll, .int x_a0_fault, .int x_a0_total, .ref r_a0_rows, .ref r_a0_from, .int x_a0_rowCount, .ref r_a0_chosen, .int x_a0_chosenCount, .ref r_a0_seen, .ref r_a0_prefix, .int x_a0_seenTables, .int x_a0_seenBytes, .int x_a0_limit, .int x_a0_count])), (q_a0_told, .inl (K 0, 2250, .inl f_a0_told))]) out := mk_i (by decide) (Nat.le_of_ble_eq_true rfl) (fun p e s m below meth c A Q hC kr => m_Model_compare hC q_a0 r_a0_tape x_a0_fed r_a0_out x_a0_size x_a0_thrown x_a0_place q_a0_told x_a0_tells r_a0_order r_a0_merged r_a0_last r_a0_up r_a0_symbols x_a0_many r_a0_list x_a0_listed r_a0_tables x_a0_groups x_a0_tableCount r_a0_lengths r_a0_codes r_a0_weights r_a0_parents r_a0_counts x_a0_origin x_a0_check x_a0_blocks x_a0_fresh x_a0_allTells x_a0_allSymbols x_a0_allGroups x_a0_bit x_a0_checkOfAll x_a0_fault x_a0_total r_a0_rows r_a0_from x_a0_rowCount r_a0_chosen x_a0_chosenCount r_a0_seen r_a0_prefix x_a0_seenTables x_a0_seenBytes x_a0_limit x_a0_count f_a0_told p1 p2 out hf (fun x o9 pc lv ho => by subst ho; exact kr x pc lv))
