abbrev b_Model_least : ByteArray := prog_14_method_20_code
def y_Model_least : MethodName := ⟨R_Model, "least", "(I)I"⟩
theorem d_Model_least_0 : decode b_Model_least 0 = .ok (.iconst (-1), 1) := by decide +kernel
theorem d_Model_least_1 : decode b_Model_least 1 = .ok (.istore_n 2, 1) := by decide +kernel
theorem d_Model_least_2 : decode b_Model_least 2 = .ok (.iconst 0, 1) := by decide +kernel
theorem d_Model_least_3 : decode b_Model_least 3 = .ok (.istore_n 3, 1) := by decide +kernel
theorem d_Model_least_4 : decode b_Model_least 4 = .ok (.iload_n 3, 1) := by decide +kernel
theorem d_Model_least_5 : decode b_Model_least 5 = .ok (.iload_n 1, 1) := by decide +kernel
theorem d_Model_least_6 : decode b_Model_least 6 = .ok (.if_icmp .ge 39, 3) := by decide +kernel
theorem d_Model_least_9 : decode b_Model_least 9 = .ok (.aload_n 0, 1) := by decide +kernel
theorem d_Model_least_10 : decode b_Model_least 10 = .ok (.getfield 55, 3) := by decide +kernel
theorem d_Model_least_13 : decode b_Model_least 13 = .ok (.iload_n 3, 1) := by decide +kernel
theorem d_Model_least_14 : decode b_Model_least 14 = .ok (.iaload, 1) := by decide +kernel
theorem d_Model_least_15 : decode b_Model_least 15 = .ok (.ifCond .ne 24, 3) := by decide +kernel
theorem d_Model_least_18 : decode b_Model_least 18 = .ok (.iload_n 2, 1) := by decide +kernel
theorem d_Model_least_19 : decode b_Model_least 19 = .ok (.ifCond .lt 18, 3) := by decide +kernel
theorem d_Model_least_22 : decode b_Model_least 22 = .ok (.aload_n 0, 1) := by decide +kernel
theorem d_Model_least_23 : decode b_Model_least 23 = .ok (.getfield 52, 3) := by decide +kernel
theorem d_Model_least_26 : decode b_Model_least 26 = .ok (.iload_n 3, 1) := by decide +kernel
theorem d_Model_least_27 : decode b_Model_least 27 = .ok (.iaload, 1) := by decide +kernel
theorem d_Model_least_28 : decode b_Model_least 28 = .ok (.aload_n 0, 1) := by decide +kernel
theorem d_Model_least_29 : decode b_Model_least 29 = .ok (.getfield 52, 3) := by decide +kernel
theorem d_Model_least_32 : decode b_Model_least 32 = .ok (.iload_n 2, 1) := by decide +kernel
theorem d_Model_least_33 : decode b_Model_least 33 = .ok (.iaload, 1) := by decide +kernel
theorem d_Model_least_34 : decode b_Model_least 34 = .ok (.if_icmp .ge 5, 3) := by decide +kernel
theorem d_Model_least_37 : decode b_Model_least 37 = .ok (.iload_n 3, 1) := by decide +kernel
theorem d_Model_least_38 : decode b_Model_least 38 = .ok (.istore_n 2, 1) := by decide +kernel
theorem d_Model_least_39 : decode b_Model_least 39 = .ok (.iinc 3 1, 3) := by decide +kernel
theorem d_Model_least_42 : decode b_Model_least 42 = .ok (.goto (-38), 3) := by decide +kernel
theorem d_Model_least_45 : decode b_Model_least 45 = .ok (.iload_n 2, 1) := by decide +kernel
theorem d_Model_least_46 : decode b_Model_least 46 = .ok (.ireturn, 1) := by decide +kernel
theorem k1251 : (Jvm.Cond.fieldLink "RotationPressModel" (55 : Nat) "RotationPressModel" "parents" "[I") ∈ g_tbl := List.mem_filter.mpr ⟨List.mem_append_right (k2_sels lw_privs) (List.mem_append_right _ (List.mem_append_right _ (List.mem_append_right _ (List.mem_append_right _ (List.mem_append_right _ (List.mem_append_left _ (List.mem_of_getElem? (l := tables_1_6) (i := 51) rfl))))))), rfl⟩
theorem k1250 : (Jvm.Cond.fieldLink "RotationPressModel" (52 : Nat) "RotationPressModel" "weights" "[I") ∈ g_tbl := List.mem_filter.mpr ⟨List.mem_append_right (k2_sels lw_privs) (List.mem_append_right _ (List.mem_append_right _ (List.mem_append_right _ (List.mem_append_right _ (List.mem_append_right _ (List.mem_append_left _ (List.mem_of_getElem? (l := tables_1_6) (i := 50) rfl))))))), rfl⟩
set_option maxRecDepth 100000 in
set_option maxHeartbeats 4000000 in
theorem m_Model_least {C : gT} (hC : gOk C b_Model_least R_Model { frames := 0, cells := 0, slots := 0, locals := 0 } 4) (q_a0 : Nat) (r_a0_tape : Nat) (x_a0_fed : Int32) (r_a0_out : Nat) (x_a0_size : Int32) (x_a0_thrown : Int32) (x_a0_place : Int32) (r_a0_told : Nat) (x_a0_tells : Int32) (r_a0_order : Nat) (r_a0_merged : Nat) (r_a0_last : Nat) (r_a0_up : Nat) (r_a0_symbols : Nat) (x_a0_many : Int32) (r_a0_list : Nat) (x_a0_listed : Int32) (r_a0_tables : Nat) (x_a0_groups : Int32) (x_a0_tableCount : Int32) (r_a0_lengths : Nat) (r_a0_codes : Nat) (q_a0_weights : Nat) (q_a0_parents : Nat) (r_a0_counts : Nat) (x_a0_origin : Int32) (x_a0_check : Int32) (x_a0_blocks : Int32) (x_a0_fresh : Int32) (x_a0_allTells : Int32) (x_a0_allSymbols : Int32) (x_a0_allGroups : Int32) (x_a0_bit : Int32) (x_a0_checkOfAll : Int32) (x_a0_fault : Int32) (x_a0_total : Int32) (r_a0_rows : Nat) (r_a0_from : Nat) (x_a0_rowCount : Int32) (r_a0_chosen : Nat) (x_a0_chosenCount : Int32) (r_a0_seen : Nat) (r_a0_prefix : Nat) (x_a0_seenTables : Int32) (x_a0_seenBytes : Int32) (x_a0_limit : Int32) (x_a0_count : Int32) (f_a0_parents : (Nat → Int32)) (f_a0_weights : (Nat → Int32)) (p1 : Int32) (out : Int32) (hf : Model_least_f p1 f_a0_parents f_a0_weights = some out) (kr : ∀ (x : Unit) (o9 : Int32) (pc : Nat) (lv : List (Nat × Value)), o9 = out → decode b_Model_least pc = .ok (.ireturn, 1) → narrow .int (.int o9) = .int o9 → gAt C 0 0 [(q_a0, .inr (12, [.ref r_a0_tape, .int x_a0_fed, .ref r_a0_out, .int x_a0_size, .int x_a0_thrown, .int x_a0_place, .ref r_a0_told, .int x_a0_tells, .ref r_a0_order, .ref r_a0_merged, .ref r_a0_last, .ref r_a0_up, .ref r_a0_symbols, .int x_a0_many, .ref r_a0_list, .int x_a0_listed, .ref r_a0_tables, .int x_a0_groups, .int x_a0_tableCount, .ref r_a0_lengths, .ref r_a0_codes, .ref q_a0_weights, .ref q_a0_parents, .ref r_a0_counts, .int x_a0_origin, .int x_a0_check, .int x_a0_blocks, .int x_a0_fresh, .int x_a0_allTells, .int x_a0_allSymbols, .int x_a0_allGroups, .int x_a0_bit, .int x_a0_checkOfAll, .int x_a0_fault, .int x_a0_total, .ref r_a0_rows, .ref r_a0_from, .int x_a0_rowCount, .ref r_a0_chosen, .int x_a0_chosenCount, .ref r_a0_seen, .ref r_a0_prefix, .int x_a0_seenTables, .int x_a0_seenBytes, .int x_a0_limit, .int x_a0_count])), (q_a0_parents, .inl (g_K C 0, 516, .inl f_a0_parents)), (q_a0_weights, .inl (g_K C 0, 516, .inl f_a0_weights))] lv pc [.int o9]) : gAt C 0 0 [(q_a0, .inr (12, [.ref r_a0_tape, .int x_a0_fed, .ref r_a0_out, .int x_a0_size, .int x_a0_thrown, .int x_a0_place, .ref r_a0_told, .int x_a0_tells, .ref r_a0_order, .ref r_a0_merged, .ref r_a0_last, .ref r_a0_up, .ref r_a0_symbols, .int x_a0_many, .ref r_a0_list, .int x_a0_listed, .ref r_a0_tables, .int x_a0_groups, .int x_a0_tableCount, .ref r_a0_lengths, .ref r_a0_codes, .ref q_a0_weights, .ref q_a0_parents, .ref r_a0_counts, .int x_a0_origin, .int x_a0_check, .int x_a0_blocks, .int x_a0_fresh, .int x_a0_allTells, .int x_a0_allSymbols, .int x_a0_allGroups, .int x_a0_bit, .int x_a0_checkOfAll, .int x_a0_fault, .int x_a0_total, .ref r_a0_rows, .ref r_a0_from, .int x_a0_rowCount, .ref r_a0_chosen, .int x_a0_chosenCount, .ref r_a0_seen, .ref r_a0_prefix, .int x_a0_seenTables, .int x_a0_seenBytes, .int x_a0_limit, .int x_a0_count])), (q_a0_parents, .inl (g_K C 0, 516, .inl f_a0_parents)), (q_a0_weights, .inl (g_K C 0, 516, .inl f_a0_weights))] [(0, .ref q_a0), (1, .int p1)] 0 [] := by
  unfold Model_least_f at hf
  refine g_iconst 0 hC (-1 : Int32) (by decide) d_Model_least_0 ?_
  refine g_istore_n 1 hC (lv2 := [(2, .int (-1 : Int32)), (0, .ref q_a0), (1, .int p1)]) (hn := (by decide)) (hl2 := rfl) (hd := d_Model_least_1) ?_
  refine g_iconst 2 hC (0 : Int32) (by decide) d_Model_least_2 ?_
  refine g_istore_n 3 hC (lv2 := [(3, .int (0 : Int32)), (2, .int (-1 : Int32)), (0, .ref q_a0), (1, .int p1)]) (hn := (by decide)) (hl2 := rfl) (hd := d_Model_least_3) ?_
  obtain ⟨u2, hu2, hf⟩ := bd_some hf
  have Xu2_0 : ∀ (v3 : Int32), v3 = u2 → gAt C 0 0 [(q_a0, .inr (12, [.ref r_a0_tape, .int x_a0_fed, .ref r_a0_out, .int x_a0_size, .int x_a0_thrown, .int x_a0_place, .ref r_a0_told, .int x_a0_tells, .ref r_a0_order, .ref r_a0_merged, .ref r_a0_last, .ref r_a0_up, .ref r_a0_symbols, .int x_a0_many, .ref r_a0_list, .int x_a0_listed, .ref r_a0_tables, .int x_a0_groups, .int x_a0_tableCount, .ref r_a0_lengths, .ref r_a0_codes, .ref q_a0_weights, .ref q_a0_parents, .ref r_a0_counts, .int x_a0_origin, .int x_a0_check, .int x_a0_blocks, .int x_a0_fresh, .int x_a0_allTells, .int x_a0_allSymbols, .int x_a0_allGroups, .int x_a0_bit, .int x_a0_checkOfAll, .int x_a0_fault, .int x_a0_total, .ref r_a0_rows, .ref r_a0_from, .int x_a0_rowCount, .ref r_a0_chosen, .int x_a0_chosenCount, .ref r_a0_seen, .ref r_a0_prefix, .int x_a0_seenTables, .int x_a0_seenBytes, .int x_a0_limit, .int x_a0_count])), (q_a0_parents, .inl (g_K C 0, 516, .inl f_a0_parents)), (q_a0_weights, .inl (g_K C 0, 516, .inl f_a0_weights))] [(2, .int v3)] 45 [] := by
    intro v3 hv
    rw [← hv] at hf
    refine g_iload_n 45 hC (j := 0) (hj := rfl) (hd := d_Model_least_45) ?_
    exact g_re [0, 1, 2] [] rfl rfl rfl (kr () v3 46 [] (Option.some.inj hf) d_Model_least_46 rfl)
  have Gu2 := lp_ind (b := (Model_least_L4 p1 f_a0_parents f_a0_weights)) (G := fun (s1 : (Int32 × Int32)) => gAt C 0 0 [(q_a0, .inr (12, [.ref r_a0_tape, .int x_a0_fed, .ref r_a0_out, .int x_a0_size, .int x_a0_thrown, .int x_a0_place, .ref r_a0_told, .int x_a0_tells, .ref r_a0_order, .ref r_a0_merged, .ref r_a0_last, .ref r_a0_up, .ref r_a0_symbols, .int x_a0_many, .ref r_a0_list, .int x_a0_listed, .ref r_a0_tables, .int x_a0_groups, .int x_a0_tableCount, .ref r_a0_lengths, .ref r_a0_codes, .ref q_a0_weights, .ref q_a0_parents, .ref r_a0_counts, .int x_a0_origin, .int x_a0_check, .int x_a0_blocks, .int x_a0_fresh, .int x_a0_allTells, .int x_a0_allSymbols, .int x_a0_allGroups, .int x_a0_bit, .int x_a0_checkOfAll, .int x_a0_fault, .int x_a0_total, .ref r_a0_rows, .ref r_a0_from, .int x_a0_rowCount, .ref r_a0_chosen, .int x_a0_chosenCount, .ref r_a0_seen, .ref r_a0_prefix, .int x_a0_seenTables, .int x_a0_seenBytes, .int x_a0_limit, .int x_a0_count])), (q_a0_parents, .inl (g_K C 0, 516, .inl f_a0_parents)), (q_a0_weights, .inl (g_K C 0, 516, .inl f_a0_weights))] [(0, .ref q_a0), (1, .int p1), (2, .int s1.1), (3, .int s1.2)] 4 []) (o := u2) (by
      intro s1 u4 hf hI hX
      unfold Model_least_L4 at hf
      have J39 : ∀ (j39_0 : Int32), Model_least_J39 s1 j39_0 = some u4 → gAt C 0 0 [(q_a0, .inr (12, [.ref r_a0_tape, .int x_a0_fed, .ref r_a0_out, .int x_a0_size, .int x_a0_thrown, .int x_a0_place, .ref r_a0_told, .int x_a0_tells, .ref r_a0_order, .ref r_a0_merged, .ref r_a0_last, .ref r_a0_up, .ref r_a0_symbols, .int x_a0_many, .ref r_a0_list, .int x_a0_listed, .ref r_a0_tables, .int x_a0_groups, .int x_a0_tableCount, .ref r_a0_lengths, .ref r_a0_codes, .ref q_a0_weights, .ref q_a0_parents, .ref r_a0_counts, .int x_a0_origin, .int x_a0_check, .int x_a0_blocks, .int x_a0_fresh, .int x_a0_allTells, .int x_a0_allSymbols, .int x_a0_allGroups, .int x_a0_bit, .int x_a0_checkOfAll, .int x_a0_fault, .int x_a0_total, .ref r_a0_rows, .ref r_a0_from, .int x_a0_rowCount, .ref r_a0_chosen, .int x_a0_chosenCount, .ref r_a0_seen, .ref r_a0_prefix, .int x_a0_seenTables, .int x_a0_seenBytes, .int x_a0_limit, .int x_a0_count])), (q_a0_parents, .inl (g_K C 0, 516, .inl f_a0_parents)), (q_a0_weights, .inl (g_K C 0, 516, .inl f_a0_weights))] [(0, .ref q_a0), (1, .int p1), (2, .int j39_0), (3, .int s1.2)] 39 [] := by
        intro j39_0 hf
        unfold Model_least_J39 at hf
        refine g_iinc 39 hC 3 (1 : Int32) [(3, .int (s1.2 + (1 : Int32))), (0, .ref q_a0), (1, .int p1), (2, .int j39_0)] rfl (by decide) (by decide) rfl d_Model_least_39 ?_
        refine g_goto 42 hC 4 (by decide) d_Model_least_42 ?_
        exact g_re [0, 1, 2] [1, 2, 3, 0] rfl rfl rfl (hI (j39_0, (s1.2 + (1 : Int32))) hf)
      have J37 : Model_least_J37 s1 = some u4 → gAt C 0 0 [(q_a0, .inr (12, [.ref r_a0_tape, .int x_a0_fed, .ref r_a0_out, .int x_a0_size, .int x_a0_thrown, .int x_a0_place, .ref r_a0_told, .int x_a0_tells, .ref r_a0_order, .ref r_a0_merged, .ref r_a0_last, .ref r_a0_up, .ref r_a0_symbols, .int x_a0_many, .ref r_a0_list, .int x_a0_listed, .ref r_a0_tables, .int x_a0_groups, .int x_a0_tableCount, .ref r_a0_lengths, .ref r_a0_codes, .ref q_a0_weights, .ref q_a0_parents, .ref r_a0_counts, .int x_a0_origin, .int x_a0_check, .int x_a0_blocks, .int x_a0_fresh, .int x_a0_allTells, .int x_a0_allSymbols, .int x_a0_allGroups, .int x_a0_bit, .int x_a0_checkOfAll, .int x_a0_fault, .int x_a0_total, .ref r_a0_rows, .ref r_a0_from, .int x_a0_rowCount, .ref r_a0_chosen, .int x_a0_chosenCount, .ref r_a0_seen, .ref r_a0_prefix, .int x_a0_seenTables, .int x_a0_seenBytes, .int x_a0_limit, .int x_a0_count])), (q_a0_parents, .inl (g_K C 0, 516, .inl f_a0_parents)), (q_a0_weights, .inl (g_K C 0, 516, .inl f_a0_weights))] [(0, .ref q_a0), (1, .int p1), (3, .int s1.2)] 37 [] := by
        intro hf
        unfold Model_least_J37 at hf
        refine g_iload_n 37 hC (j := 2) (hj := rfl) (hd := d_Model_least_37) ?_
        refine g_istore_n 38 hC (lv2 := [(2, .int s1.2), (0, .ref q_a0), (1, .int p1), (3, .int s1.2)]) (hn := (by decide)) (hl2 := rfl) (hd := d_Model_least_38) ?_
        exact g_re [0, 1, 2] [1, 2, 0, 3] rfl rfl rfl (J39 s1.2 hf)
      refine g_iload_n 4 hC (j := 3) (hj := rfl) (hd := d_Model_least_4) ?_
      refine g_iload_n 5 hC (j := 1) (hj := rfl) (hd := d_Model_least_5) ?_
      refine g_icmp_ge 6 hC 45 (by decide) d_Model_least_6 (fun c5 => ?_) (fun c5 => ?_)
      · have hf := it_t c5 hf
        exact g_re [0, 1, 2] [2] rfl rfl rfl (Xu2_0 s1.1 (hX s1.1 hf))
      · have hf := it_f c5 hf
        refine g_aload_n 9 hC (j := 0) (hj := rfl) (hd := d_Model_least_9) ?_
        refine g_get 10 hC i_Model rfl 0 rfl 22 (by decide) k1251 rfl d_Model_least_10 ?_
        refine g_iload_n 13 hC (j := 3) (hj := rfl) (hd := d_Model_least_13) ?_
        obtain ⟨e6, hf⟩ := gd_some hf
        refine g_iald 14 hC 1 rfl e6 d_Model_least_14 ?_
        refine g_if_ne 15 hC 39 (by decide) d_Model_least_15 (fun c7 => ?_) (fun c7 => ?_)
        · have hf := it_f c7 hf
          exact J39 s1.1 hf
        · have hf := it_t c7 hf
          refine g_iload_n 18 hC (j := 2) (hj := rfl) (hd := d_Model_least_18) ?_
          refine g_if_lt 19 hC 37 (by decide) d_Model_least_19 (fun c8 => ?_) (fun c8 => ?_)
          · have hf := it_t c8 hf
            exact g_re [0, 1, 2] [0, 1, 3] rfl rfl rfl (J37 hf)
          · have hf := it_f c8 hf
            refine g_aload_n 22 hC (j := 0) (hj := rfl) (hd := d_Model_least_22) ?_
            refine g_get 23 hC i_Model rfl 0 rfl 21 (by decide) k1250 rfl d_Model_least_23 ?_
            refine g_iload_n 26 hC (j := 3) (hj := rfl) (hd := d_Model_least_26) ?_
            obtain ⟨e9, hf⟩ := gd_some hf
            refine g_iald 27 hC 2 rfl e9 d_Model_least_27 ?_
            refine g_aload_n 28 hC (j := 0) (hj := rfl) (hd := d_Model_least_28) ?_
            refine g_get 29 hC i_Model rfl 0 rfl 21 (by decide) k1250 rfl d_Model_least_29 ?_
            refine g_iload_n 32 hC (j := 2) (hj := rfl) (hd := d_Model_least_32) ?_
            obtain ⟨e10, hf⟩ := gd_some hf
            refine g_iald 33 hC 2 rfl e10 d_Model_least_33 ?_
            refine g_icmp_ge 34 hC 39 (by decide) d_Model_least_34 (fun c11 => ?_) (fun c11 => ?_)
            · have hf := it_t c11 hf
              exact J39 s1.1 hf
            · have hf := it_f c11 hf
              exact g_re [0, 1, 2] [0, 1, 3] rfl rfl rfl (J37 hf)) gas
  exact g_re [0, 1, 2] [2, 3, 1, 0] rfl rfl rfl (Gu2 ((-1 : Int32), (0 : Int32)) hu2)
theorem c_Model_least (l : Launch) (D : va_G) (K : Nat → ClassId) (q_a0 : Nat) (r_a0_tape : Nat) (x_a0_fed : Int32) (r_a0_out : Nat) (x_a0_size : Int32) (x_a0_thrown : Int32) (x_a0_place : Int32) (r_a0_told : Nat) (x_a0_tells : Int32) (r_a0_order : Nat) (r_a0_merged : Nat) (r_a0_last : Nat) (r_a0_up : Nat) (r_a0_symbols : Nat) (x_a0_many : Int32) (r_a0_list : Nat) (x_a0_listed : Int32) (r_a0_tables : Nat) (x_a0_groups : Int32) (x_a0_tableCount : Int32) (r_a0_lengths : Nat) (r_a0_codes : Nat) (q_a0_weights : Nat) (q_a0_parents : Nat) (r_a0_counts : Nat) (x_a0_origin : Int32) (x_a0_check : Int32) (x_a0_blocks : Int32) (x_a0_fresh : Int32) (x_a0_allTells : Int32) (x_a0_allSymbols : Int32) (x_a0_allGroups : Int32) (x_a0_bit : Int32) (x_a0_checkOfAll : Int32) (x_a0_fault : Int32) (x_a0_total : Int32) (r_a0_rows : Nat) (r_a0_from : Nat) (x_a0_rowCount : Int32) (r_a0_chosen : Nat) (x_a0_chosenCount : Int32) (r_a0_seen : Nat) (r_a0_prefix : Nat) (x_a0_seenTables : Int32) (x_a0_seenBytes : Int32) (x_a0_limit : Int32) (x_a0_count : Int32) (f_a0_parents : (Nat → Int32)) (f_a0_weights : (Nat → Int32)) (p1 : Int32) (out : Int32) (hf : Model_least_f p1 f_a0_parents f_a0_weights = some out) : Ci l D K y_Model_least (g_wd y_Model_least b_Model_least 4 (some .int)) { frames := 0, cells := 0, slots := 0, locals := 0 } [.ref q_a0, .int p1] [(q_a0, .inr (12, [.ref r_a0_tape, .int x_a0_fed, .ref r_a0_out, .int x_a0_size, .int x_a0_thrown, .int x_a0_place, .ref r_a0_told, .int x_a0_tells, .ref r_a0_order, .ref r_a0_merged, .ref r_a0_last, .ref r_a0_up, .ref r_a0_symbols, .int x_a0_many, .ref r_a0_list, .int x_a0_listed, .ref r_a0_tables, .int x_a0_groups, .int x_a0_tableCount, .ref r_a0_lengths, .ref r_a0_codes, .ref q_a0_weights, .ref q_a0_parents, .ref r_a0_counts, .int x_a0_origin, .int x_a0_check, .int x_a0_blocks, .int x_a0_fresh, .int x_a0_allTells, .int x_a0_allSymbols, .int x_a0_allGroups, .int x_a0_bit, .int x_a0_checkOfAll, .int x_a0_fault, .int x_a0_total, .ref r_a0_rows, .ref r_a0_from, .int x_a0_rowCount, .ref r_a0_chosen, .int x_a0_chosenCount, .ref r_a0_seen, .ref r_a0_prefix, .int x_a0_seenTables, .int x_a0_seenBytes, .int x_a0_limit, .int x_a0_count])), (q_a0_parents, .inl (K 0, 516, .inl f_a0_parents)), (q_a0_weights, .inl (K 0, 516, .inl f_a0_weights))] (fun (x : Unit) => [(q_a0, .inr (12, [.ref r_a0_tape, .int x_a0_fed, .ref r_a0_out, .int x_a0_size, .int x_a0_thrown, .int x_a0_place, .ref r_a0_told, .int x_a0_tells, .ref r_a0_order, .ref r_a0_merged, .ref r_a0_last, .ref r_a0_up, .ref r_a0_symbols, .int x_a0_many, .ref r_a0_list, .int x_a0_listed, .ref r_a0_tables, .int x_a0_groups, .int x_a0_tableCount, .ref r_a0_lengths, .ref r_a0_codes, .ref q_a0_weights, .ref q_a0_parents, .ref r_a0_counts, .int x_a0_origin, .int x_a0_check, .int x_a0_blocks, .int x_a0_fresh, .int x_a0_allTells, .int x_a0_allSymbols, .int x_a0_allGroups, .int x_a0_bit, .int x_a0_checkOfAll, .int x_a0_fault, .int x_a0_total, .ref r_a0_rows, .ref r_a0_from, .int x_a0_rowCount, .ref r_a0_chosen, .int x_a0_chosenCount, .ref r_a0_seen, .ref r_a0_prefix, .int x_a0_seenTables, .int x_a0_seenBytes, .int x_a0_limit, .int x_a0_count])), (q_a0_parents, .inl (K 0, 516, .inl f_a0_parents)), (q_a0_weights, .inl (K 0, 516, .inl f_a0_weights))]) out := mk_i (by decide) (Nat.le_of_ble_eq_true rfl) (fun p e s m below meth c A Q hC kr => m_Model_least hC q_a0 r_a0_tape x_a0_fed r_a0_out x_a0_size x_a0_thrown x_a0_place r_a0_told x_a0_tells r_a0_order r_a0_merged r_a0_last r_a0_up r_a0_symbols x_a0_many r_a0_list x_a0_listed r_a0_tables x_a0_groups x_a0_tableCount r_a0_lengths r_a0_codes q_a0_weights q_a0_parents r_a0_counts x_a0_origin x_a0_check x_a0_blocks x_a0_fresh x_a0_allTells x_a0_allSymbols x_a0_allGroups x_a0_bit x_a0_checkOfAll x_a0_fault x_a0_total r_a0_rows r_a0_from x_a0_rowCount r_a0_chosen x_a0_chosenCount r_a0_seen r_a0_prefix x_a0_seenTables x_a0_seenBytes x_a0_limit x_a0_count f_a0_parents f_a0_weights p1 out hf (fun x o9 pc lv ho => by subst ho; exact kr x pc lv))
