abbrev b_Model_merge : ByteArray := prog_14_method_13_code
def y_Model_merge : MethodName := ⟨R_Model, "merge", "(III)V"⟩
theorem d_Model_merge_0 : decode b_Model_merge 0 = .ok (.iload_n 1, 1) := by decide +kernel
theorem d_Model_merge_1 : decode b_Model_merge 1 = .ok (.istore 4, 2) := by decide +kernel
theorem d_Model_merge_3 : decode b_Model_merge 3 = .ok (.iload_n 2, 1) := by decide +kernel
theorem d_Model_merge_4 : decode b_Model_merge 4 = .ok (.istore 5, 2) := by decide +kernel
theorem d_Model_merge_6 : decode b_Model_merge 6 = .ok (.iload_n 1, 1) := by decide +kernel
theorem d_Model_merge_7 : decode b_Model_merge 7 = .ok (.istore 6, 2) := by decide +kernel
theorem d_Model_merge_9 : decode b_Model_merge 9 = .ok (.iload 6, 2) := by decide +kernel
theorem d_Model_merge_11 : decode b_Model_merge 11 = .ok (.iload_n 3, 1) := by decide +kernel
theorem d_Model_merge_12 : decode b_Model_merge 12 = .ok (.if_icmp .ge 108, 3) := by decide +kernel
theorem d_Model_merge_15 : decode b_Model_merge 15 = .ok (.iload 5, 2) := by decide +kernel
theorem d_Model_merge_17 : decode b_Model_merge 17 = .ok (.iload_n 3, 1) := by decide +kernel
theorem d_Model_merge_18 : decode b_Model_merge 18 = .ok (.if_icmp .eq 30, 3) := by decide +kernel
theorem d_Model_merge_21 : decode b_Model_merge 21 = .ok (.iload 4, 2) := by decide +kernel
theorem d_Model_merge_23 : decode b_Model_merge 23 = .ok (.iload_n 2, 1) := by decide +kernel
theorem d_Model_merge_24 : decode b_Model_merge 24 = .ok (.if_icmp .ge 28, 3) := by decide +kernel
theorem d_Model_merge_27 : decode b_Model_merge 27 = .ok (.aload_n 0, 1) := by decide +kernel
theorem d_Model_merge_28 : decode b_Model_merge 28 = .ok (.aload_n 0, 1) := by decide +kernel
theorem d_Model_merge_29 : decode b_Model_merge 29 = .ok (.getfield 25, 3) := by decide +kernel
theorem d_Model_merge_32 : decode b_Model_merge 32 = .ok (.iload 4, 2) := by decide +kernel
theorem d_Model_merge_34 : decode b_Model_merge 34 = .ok (.iaload, 1) := by decide +kernel
theorem d_Model_merge_35 : decode b_Model_merge 35 = .ok (.aload_n 0, 1) := by decide +kernel
theorem d_Model_merge_36 : decode b_Model_merge 36 = .ok (.getfield 25, 3) := by decide +kernel
theorem d_Model_merge_39 : decode b_Model_merge 39 = .ok (.iload 5, 2) := by decide +kernel
theorem d_Model_merge_41 : decode b_Model_merge 41 = .ok (.iaload, 1) := by decide +kernel
theorem d_Model_merge_42 : decode b_Model_merge 42 = .ok (.invokevirtual 106, 3) := by decide +kernel
theorem d_Model_merge_45 : decode b_Model_merge 45 = .ok (.ifCond .gt 7, 3) := by decide +kernel
theorem d_Model_merge_48 : decode b_Model_merge 48 = .ok (.iconst 1, 1) := by decide +kernel
theorem d_Model_merge_49 : decode b_Model_merge 49 = .ok (.goto 4, 3) := by decide +kernel
theorem d_Model_merge_52 : decode b_Model_merge 52 = .ok (.iconst 0, 1) := by decide +kernel
theorem d_Model_merge_53 : decode b_Model_merge 53 = .ok (.istore 7, 2) := by decide +kernel
theorem d_Model_merge_55 : decode b_Model_merge 55 = .ok (.aload_n 0, 1) := by decide +kernel
theorem d_Model_merge_56 : decode b_Model_merge 56 = .ok (.getfield 28, 3) := by decide +kernel
theorem d_Model_merge_59 : decode b_Model_merge 59 = .ok (.iload 6, 2) := by decide +kernel
theorem d_Model_merge_61 : decode b_Model_merge 61 = .ok (.iload 7, 2) := by decide +kernel
theorem d_Model_merge_63 : decode b_Model_merge 63 = .ok (.ifCond .eq 13, 3) := by decide +kernel
theorem d_Model_merge_66 : decode b_Model_merge 66 = .ok (.aload_n 0, 1) := by decide +kernel
theorem d_Model_merge_67 : decode b_Model_merge 67 = .ok (.getfield 25, 3) := by decide +kernel
theorem d_Model_merge_70 : decode b_Model_merge 70 = .ok (.iload 4, 2) := by decide +kernel
theorem d_Model_merge_72 : decode b_Model_merge 72 = .ok (.iaload, 1) := by decide +kernel
theorem d_Model_merge_73 : decode b_Model_merge 73 = .ok (.goto 10, 3) := by decide +kernel
theorem d_Model_merge_76 : decode b_Model_merge 76 = .ok (.aload_n 0, 1) := by decide +kernel
theorem d_Model_merge_77 : decode b_Model_merge 77 = .ok (.getfield 25, 3) := by decide +kernel
theorem d_Model_merge_80 : decode b_Model_merge 80 = .ok (.iload 5, 2) := by decide +kernel
theorem d_Model_merge_82 : decode b_Model_merge 82 = .ok (.iaload, 1) := by decide +kernel
theorem d_Model_merge_83 : decode b_Model_merge 83 = .ok (.iastore, 1) := by decide +kernel
theorem d_Model_merge_84 : decode b_Model_merge 84 = .ok (.iload 4, 2) := by decide +kernel
theorem d_Model_merge_86 : decode b_Model_merge 86 = .ok (.iload 7, 2) := by decide +kernel
theorem d_Model_merge_88 : decode b_Model_merge 88 = .ok (.ifCond .eq 7, 3) := by decide +kernel
theorem d_Model_merge_91 : decode b_Model_merge 91 = .ok (.iconst 1, 1) := by decide +kernel
theorem d_Model_merge_92 : decode b_Model_merge 92 = .ok (.goto 4, 3) := by decide +kernel
theorem d_Model_merge_95 : decode b_Model_merge 95 = .ok (.iconst 0, 1) := by decide +kernel
theorem d_Model_merge_96 : decode b_Model_merge 96 = .ok (.iadd, 1) := by decide +kernel
theorem d_Model_merge_97 : decode b_Model_merge 97 = .ok (.istore 4, 2) := by decide +kernel
theorem d_Model_merge_99 : decode b_Model_merge 99 = .ok (.iload 5, 2) := by decide +kernel
theorem d_Model_merge_101 : decode b_Model_merge 101 = .ok (.iload 7, 2) := by decide +kernel
theorem d_Model_merge_103 : decode b_Model_merge 103 = .ok (.ifCond .eq 7, 3) := by decide +kernel
theorem d_Model_merge_106 : decode b_Model_merge 106 = .ok (.iconst 0, 1) := by decide +kernel
theorem d_Model_merge_107 : decode b_Model_merge 107 = .ok (.goto 4, 3) := by decide +kernel
theorem d_Model_merge_110 : decode b_Model_merge 110 = .ok (.iconst 1, 1) := by decide +kernel
theorem d_Model_merge_111 : decode b_Model_merge 111 = .ok (.iadd, 1) := by decide +kernel
theorem d_Model_merge_112 : decode b_Model_merge 112 = .ok (.istore 5, 2) := by decide +kernel
theorem d_Model_merge_114 : decode b_Model_merge 114 = .ok (.iinc 6 1, 3) := by decide +kernel
theorem d_Model_merge_117 : decode b_Model_merge 117 = .ok (.goto (-108), 3) := by decide +kernel
theorem d_Model_merge_120 : decode b_Model_merge 120 = .ok (.return_, 1) := by decide +kernel
theorem k1238 : (Jvm.Cond.fieldLink "RotationPressModel" (28 : Nat) "RotationPressModel" "merged" "[I") ∈ g_tbl := List.mem_filter.mpr ⟨List.mem_append_right (k2_sels lw_privs) (List.mem_append_right _ (List.mem_append_right _ (List.mem_append_right _ (List.mem_append_right _ (List.mem_append_right _ (List.mem_append_left _ (List.mem_of_getElem? (l := tables_1_6) (i := 38) rfl))))))), rfl⟩
theorem k1237 : (Jvm.Cond.fieldLink "RotationPressModel" (25 : Nat) "RotationPressModel" "order" "[I") ∈ g_tbl := List.mem_filter.mpr ⟨List.mem_append_right (k2_sels lw_privs) (List.mem_append_right _ (List.mem_append_right _ (List.mem_append_right _ (List.mem_append_right _ (List.mem_append_right _ (List.mem_append_left _ (List.mem_of_getElem? (l := tables_1_6) (i := 37) rfl))))))), rfl⟩
theorem k1419 : (Jvm.Cond.code ({ cls := "RotationPressModel", name := "compare", desc := "(II)I" } : Jvm.MethodName) prog_14_method_11_code (6 : Nat) (Option.some Jvm.ClassFile.FieldType.int)) ∈ g_tbl := List.mem_filter.mpr ⟨List.mem_append_right (k2_sels lw_privs) (List.mem_append_right _ (List.mem_append_right _ (List.mem_append_right _ (List.mem_append_right _ (List.mem_append_right _ (List.mem_append_left _ (List.mem_of_getElem? (l := tables_1_6) (i := 219) rfl))))))), rfl⟩
theorem k1416 : (Jvm.Cond.methodLink "RotationPressModel" (106 : Nat) ({ cls := "RotationPressModel", name := "compare", desc := "(II)I" } : Jvm.MethodName)) ∈ g_tbl := List.mem_filter.mpr ⟨List.mem_append_right (k2_sels lw_privs) (List.mem_append_right _ (List.mem_append_right _ (List.mem_append_right _ (List.mem_append_right _ (List.mem_append_right _ (List.mem_append_left _ (List.mem_of_getElem? (l := tables_1_6) (i := 216) rfl))))))), rfl⟩
theorem k1418 : (Jvm.Cond.instanceMethod ({ cls := "RotationPressModel", name := "compare", desc := "(II)I" } : Jvm.MethodName)) ∈ g_tbl := List.mem_filter.mpr ⟨List.mem_append_right (k2_sels lw_privs) (List.mem_append_right _ (List.mem_append_right _ (List.mem_append_right _ (List.mem_append_right _ (List.mem_append_right _ (List.mem_append_left _ (List.mem_of_getElem? (l := tables_1_6) (i := 218) rfl))))))), rfl⟩
theorem ks43 : (Jvm.Cond.selects "RotationPressModel" ({ cls := "RotationPressModel", name := "compare", desc := "(II)I" } : Jvm.MethodName) ({ cls := "RotationPressModel", name := "compare", desc := "(II)I" } : Jvm.MethodName)) ∈ g_tbl := List.mem_filter.mpr ⟨List.mem_append_left _ (List.mem_map.mpr ⟨(({ cls := "RotationPressModel", name := "compare", desc := "(II)I" } : Jvm.MethodName), _), List.mem_of_getElem? (i := 43) rfl, rfl⟩), rfl⟩
set_option maxRecDepth 100000 in
set_option maxHeartbeats 4000000 in
theorem m_Model_merge {C : gT} (hC : gOk C b_Model_merge R_Model { frames := 1, cells := 0, slots := 0, locals := 25 } 8) (q_a0 : Nat) (r_a0_tape : Nat) (x_a0_fed : Int32) (r_a0_out : Nat) (x_a0_size : Int32) (x_a0_thrown : Int32) (x_a0_place : Int32) (q_a0_told : Nat) (x_a0_tells : Int32) (q_a0_order : Nat) (q_a0_merged : Nat) (r_a0_last : Nat) (r_a0_up : Nat) (r_a0_symbols : Nat) (x_a0_many : Int32) (r_a0_list : Nat) (x_a0_listed : Int32) (r_a0_tables : Nat) (x_a0_groups : Int32) (x_a0_tableCount : Int32) (r_a0_lengths : Nat) (r_a0_codes : Nat) (r_a0_weights : Nat) (r_a0_parents : Nat) (r_a0_counts : Nat) (x_a0_origin : Int32) (x_a0_check : Int32) (x_a0_blocks : Int32) (x_a0_fresh : Int32) (x_a0_allTells : Int32) (x_a0_allSymbols : Int32) (x_a0_allGroups : Int32) (x_a0_bit : Int32) (x_a0_checkOfAll : Int32) (x_a0_fault : Int32) (x_a0_total : Int32) (r_a0_rows : Nat) (r_a0_from : Nat) (x_a0_rowCount : Int32) (r_a0_chosen : Nat) (x_a0_chosenCount : Int32) (r_a0_seen : Nat) (r_a0_prefix : Nat) (x_a0_seenTables : Int32) (x_a0_seenBytes : Int32) (x_a0_limit : Int32) (x_a0_count : Int32) (f_a0_order : (Nat → Int32)) (f_a0_told : (Nat → Int32)) (f_a0_merged : (Nat → Int32)) (p1 : Int32) (p2 : Int32) (p3 : Int32) (out : (Nat → Int32)) (hf : Model_merge_f p3 f_a0_order p2 x_a0_tells f_a0_told p1 f_a0_merged = some out) (kr : ∀ (x : Unit) (o9 : (Nat → Int32)) (pc : Nat) (lv : List (Nat × Value)), o9 = out → decode b_Model_merge pc = .ok (.return_, 1) → gAt C 0 0 [(q_a0, .inr (12, [.ref r_a0_tape, .int x_a0_fed, .ref r_a0_out, .int x_a0_size, .int x_a0_thrown, .int x_a0_place, .ref q_a0_told, .int x_a0_tells, .ref q_a0_order, .ref q_a0_merged, .ref r_a0_last, .ref r_a0_up, .ref r_a0_symbols, .int x_a0_many, .ref r_a0_list, .int x_a0_listed, .ref r_a0_tables, .int x_a0_groups, .int x_a0_tableCount, .ref r_a0_lengths, .ref r_a0_codes, .ref r_a0_weights, .ref r_a0_parents, .ref r_a0_counts, .int x_a0_origin, .int x_a0_check, .int x_a0_blocks, .int x_a0_fresh, .int x_a0_allTells, .int x_a0_allSymbols, .int x_a0_allGroups, .int x_a0_bit, .int x_a0_checkOfAll, .int x_a0_fault, .int x_a0_total, .ref r_a0_rows, .ref r_a0_from, .int x_a0_rowCount, .ref r_a0_chosen, .int x_a0_chosenCount, .ref r_a0_seen, .ref r_a0_prefix, .int x_a0_seenTables, .int x_a0_seenBytes, .int x_a0_limit, .int x_a0_count])), (q_a0_order, .inl (g_K C 0, 2250, .inl f_a0_order)), (q_a0_told, .inl (g_K C 0, 2250, .inl f_a0_told)), (q_a0_merged, .inl (g_K C 0, 2250, .inl o9))] lv pc []) : gAt C 0 0 [(q_a0, .inr (12, [.ref r_a0_tape, .int x_a0_fed, .ref r_a0_out, .int x_a0_size, .int x_a0_thrown, .int x_a0_place, .ref q_a0_told, .int x_a0_tells, .ref q_a0_order, .ref q_a0_merged, .ref r_a0_last, .ref r_a0_up, .ref r_a0_symbols, .int x_a0_many, .ref r_a0_list, .int x_a0_listed, .ref r_a0_tables, .int x_a0_groups, .int x_a0_tableCount, .ref r_a0_lengths, .ref r_a0_codes, .ref r_a0_weights, .ref r_a0_parents, .ref r_a0_counts, .int x_a0_origin, .int x_a0_check, .int x_a0_blocks, .int x_a0_fresh, .int x_a0_allTells, .int x_a0_allSymbols, .int x_a0_allGroups, .int x_a0_bit, .int x_a0_checkOfAll, .int x_a0_fault, .int x_a0_total, .ref r_a0_rows, .ref r_a0_from, .int x_a0_rowCount, .ref r_a0_chosen, .int x_a0_chosenCount, .ref r_a0_seen, .ref r_a0_prefix, .int x_a0_seenTables, .int x_a0_seenBytes, .int x_a0_limit, .int x_a0_count])), (q_a0_order, .inl (g_K C 0, 2250, .inl f_a0_order)), (q_a0_told, .inl (g_K C 0, 2250, .inl f_a0_told)), (q_a0_merged, .inl (g_K C 0, 2250, .inl f_a0_merged))] [(0, .ref q_a0), (1, .int p1), (2, .int p2), (3, .int p3)] 0 [] := by
  unfold Model_merge_f at hf
  refine g_iload_n 0 hC (j := 1) (hj := rfl) (hd := d_Model_merge_0) ?_
  refine g_istore 1 hC (lv2 := [(4, .int p1), (0, .ref q_a0), (1, .int p1), (2, .int p2), (3, .int p3)]) (hn := (by decide)) (hl2 := rfl) (hd := d_Model_merge_1) ?_
  refine g_iload_n 3 hC (j := 3) (hj := rfl) (hd := d_Model_merge_3) ?_
  refine g_istore 4 hC (lv2 := [(5, .int p2), (4, .int p1), (0, .ref q_a0), (1, .int p1), (2, .int p2), (3, .int p3)]) (hn := (by decide)) (hl2 := rfl) (hd := d_Model_merge_4) ?_
  refine g_iload_n 6 hC (j := 3) (hj := rfl) (hd := d_Model_merge_6) ?_
  refine g_istore 7 hC (lv2 := [(6, .int p1), (5, .int p2), (4, .int p1), (0, .ref q_a0), (1, .int p1), (2, .int p2), (3, .int p3)]) (hn := (by decide)) (hl2 := rfl) (hd := d_Model_merge_7) ?_
  obtain ⟨u2, hu2, hf⟩ := bd_some hf
  have Xu2_0 : ∀ (v3 : (Nat → Int32)), v3 = u2 → gAt C 0 0 [(q_a0, .inr (12, [.ref r_a0_tape, .int x_a0_fed, .ref r_a0_out, .int x_a0_size, .int x_a0_thrown, .int x_a0_place, .ref q_a0_told, .int x_a0_tells, .ref q_a0_order, .ref q_a0_merged, .ref r_a0_last, .ref r_a0_up, .ref r_a0_symbols, .int x_a0_many, .ref r_a0_list, .int x_a0_listed, .ref r_a0_tables, .int x_a0_groups, .int x_a0_tableCount, .ref r_a0_lengths, .ref r_a0_codes, .ref r_a0_weights, .ref r_a0_parents, .ref r_a0_counts, .int x_a0_origin, .int x_a0_check, .int x_a0_blocks, .int x_a0_fresh, .int x_a0_allTells, .int x_a0_allSymbols, .int x_a0_allGroups, .int x_a0_bit, .int x_a0_checkOfAll, .int x_a0_fault, .int x_a0_total, .ref r_a0_rows, .ref r_a0_from, .int x_a0_rowCount, .ref r_a0_chosen, .int x_a0_chosenCount, .ref r_a0_seen, .ref r_a0_prefix, .int x_a0_seenTables, .int x_a0_seenBytes, .int x_a0_limit, .int x_a0_count])), (q_a0_order, .inl (g_K C 0, 2250, .inl f_a0_order)), (q_a0_told, .inl (g_K C 0, 2250, .inl f_a0_told)), (q_a0_merged, .inl (g_K C 0, 2250, .inl v3))] [] 120 [] := by
    intro v3 hv
    rw [← hv] at hf
    exact kr () v3 120 [] (Option.some.inj hf) d_Model_merge_120
  have Gu2 := lp_ind (b := (Model_merge_L9 p3 f_a0_order p2 x_a0_tells f_a0_told)) (G := fun (s1 : (Int32 × Int32 × Int32 × (Nat → Int32))) => gAt C 0 0 [(q_a0, .inr (12, [.ref r_a0_tape, .int x_a0_fed, .ref r_a0_out, .int x_a0_size, .int x_a0_thrown, .int x_a0_place, .ref q_a0_told, .int x_a0_tells, .ref q_a0_order, .ref q_a0_merged, .ref r_a0_last, .ref r_a0_up, .ref r_a0_symbols, .int x_a0_many, .ref r_a0_list, .int x_a0_listed, .ref r_a0_tables, .int x_a0_groups, .int x_a0_tableCount, .ref r_a0_lengths, .ref r_a0_codes, .ref r_a0_weights, .ref r_a0_parents, .ref r_a0_counts, .int x_a0_origin, .int x_a0_check, .int x_a0_blocks, .int x_a0_fresh, .int x_a0_allTells, .int x_a0_allSymbols, .int x_a0_allGroups, .int x_a0_bit, .int x_a0_checkOfAll, .int x_a0_fault, .int x_a0_total, .ref r_a0_rows, .ref r_a0_from, .int x_a0_rowCount, .ref r_a0_chosen, .int x_a0_chosenCount, .ref r_a0_seen, .ref r_a0_prefix, .int x_a0_seenTables, .int x_a0_seenBytes, .int x_a0_limit, .int x_a0_count])), (q_a0_order, .inl (g_K C 0, 2250, .inl f_a0_order)), (q_a0_told, .inl (g_K C 0, 2250, .inl f_a0_told)), (q_a0_merged, .inl (g_K C 0, 2250, .inl s1.2.2.2))] [(0, .ref q_a0), (2, .int p2), (3, .int p3), (4, .int s1.1), (5, .int s1.2.1), (6, .int s1.2.2.1)] 9 []) (o := u2) (by
      intro s1 u4 hf hI hX
      unfold Model_merge_L9 at hf
      have J111 : ∀ (j111_0 : Int32) (j111_1 : Int32) (j111_2 : Int32) (j111_3 : (Nat → Int32)), Model_merge_J111 s1 j111_0 j111_1 j111_2 j111_3 = some u4 → gAt C 0 0 [(q_a0, .inr (12, [.ref r_a0_tape, .int x_a0_fed, .ref r_a0_out, .int x_a0_size, .int x_a0_thrown, .int x_a0_place, .ref q_a0_told, .int x_a0_tells, .ref q_a0_order, .ref q_a0_merged, .ref r_a0_last, .ref r_a0_up, .ref r_a0_symbols, .int x_a0_many, .ref r_a0_list, .int x_a0_listed, .ref r_a0_tables, .int x_a0_groups, .int x_a0_tableCount, .ref r_a0_lengths, .ref r_a0_codes, .ref r_a0_weights, .ref r_a0_parents, .ref r_a0_counts, .int x_a0_origin, .int x_a0_check, .int x_a0_blocks, .int x_a0_fresh, .int x_a0_allTells, .int x_a0_allSymbols, .int x_a0_allGroups, .int x_a0_bit, .int x_a0_checkOfAll, .int x_a0_fault, .int x_a0_total, .ref r_a0_rows, .ref r_a0_from, .int x_a0_rowCount, .ref r_a0_chosen, .int x_a0_chosenCount, .ref r_a0_seen, .ref r_a0_prefix, .int x_a0_seenTables, .int x_a0_seenBytes, .int x_a0_limit, .int x_a0_count])), (q_a0_order, .inl (g_K C 0, 2250, .inl f_a0_order)), (q_a0_told, .inl (g_K C 0, 2250, .inl f_a0_told)), (q_a0_merged, .inl (g_K C 0, 2250, .inl j111_3))] [(0, .ref q_a0), (2, .int p2), (3, .int p3), (4, .int j111_0), (6, .int s1.2.2.1)] 111 [.int j111_1, .int j111_2] := by
        intro j111_0 j111_1 j111_2 j111_3 hf
        unfold Model_merge_J111 at hf
        refine g_iadd 111 hC d_Model_merge_111 ?_
        refine g_istore 112 hC (lv2 := [(5, .int (j111_2 + j111_1)), (0, .ref q_a0), (2, .int p2), (3, .int p3), (4, .int j111_0), (6, .int s1.2.2.1)]) (hn := (by decide)) (hl2 := rfl) (hd := d_Model_merge_112) ?_
        refine g_iinc 114 hC 5 (1 : Int32) [(6, .int (s1.2.2.1 + (1 : Int32))), (5, .int (j111_2 + j111_1)), (0, .ref q_a0), (2, .int p2), (3, .int p3), (4, .int j111_0)] rfl (by decide) (by decide) rfl d_Model_merge_114 ?_
        refine g_goto 117 hC 9 (by decide) d_Model_merge_117 ?_
        exact g_re [0, 1, 2, 3] [2, 3, 4, 5, 1, 0] rfl rfl rfl (hI (j111_0, (j111_2 + j111_1), (s1.2.2.1 + (1 : Int32)), j111_3) hf)
      have J96 : ∀ (j96_0 : Int32) (j96_1 : Int32) (j96_2 : Int32) (j96_3 : (Nat → Int32)), Model_merge_J96 s1 j96_0 j96_1 j96_2 j96_3 = some u4 → gAt C 0 0 [(q_a0, .inr (12, [.ref r_a0_tape, .int x_a0_fed, .ref r_a0_out, .int x_a0_size, .int x_a0_thrown, .int x_a0_place, .ref q_a0_told, .int x_a0_tells, .ref q_a0_order, .ref q_a0_merged, .ref r_a0_last, .ref r_a0_up, .ref r_a0_symbols, .int x_a0_many, .ref r_a0_list, .int x_a0_listed, .ref r_a0_tables, .int x_a0_groups, .int x_a0_tableCount, .ref r_a0_lengths, .ref r_a0_codes, .ref r_a0_weights, .ref r_a0_parents, .ref r_a0_counts, .int x_a0_origin, .int x_a0_check, .int x_a0_blocks, .int x_a0_fresh, .int x_a0_allTells, .int x_a0_allSymbols, .int x_a0_allGroups, .int x_a0_bit, .int x_a0_checkOfAll, .int x_a0_fault, .int x_a0_total, .ref r_a0_rows, .ref r_a0_from, .int x_a0_rowCount, .ref r_a0_chosen, .int x_a0_chosenCount, .ref r_a0_seen, .ref r_a0_prefix, .int x_a0_seenTables, .int x_a0_seenBytes, .int x_a0_limit, .int x_a0_count])), (q_a0_order, .inl (g_K C 0, 2250, .inl f_a0_order)), (q_a0_told, .inl (g_K C 0, 2250, .inl f_a0_told)), (q_a0_merged, .inl (g_K C 0, 2250, .inl j96_3))] [(0, .ref q_a0), (2, .int p2), (3, .int p3), (5, .int s1.2.1), (6, .int s1.2.2.1), (7, .int j96_0)] 96 [.int j96_1, .int j96_2] := by
        intro j96_0 j96_1 j96_2 j96_3 hf
        unfold Model_merge_J96 at hf
        refine g_iadd 96 hC d_Model_merge_96 ?_
        refine g_istore 97 hC (lv2 := [(4, .int (j96_2 + j96_1)), (0, .ref q_a0), (2, .int p2), (3, .int p3), (5, .int s1.2.1), (6, .int s1.2.2.1), (7, .int j96_0)]) (hn := (by decide)) (hl2 := rfl) (hd := d_Model_merge_97) ?_
        refine g_iload 99 hC (j := 4) (hj := rfl) (hd := d_Model_merge_99) ?_
        refine g_iload 101 hC (j := 6) (hj := rfl) (hd := d_Model_merge_101) ?_
        refine g_if_eq 103 hC 110 (by decide) d_Model_merge_103 (fun c5 => ?_) (fun c5 => ?_)
        · have hf := it_t c5 hf
          refine g_iconst 110 hC (1 : Int32) (by decide) d_Model_merge_110 ?_
          exact g_re [0, 1, 2, 3] [1, 2, 3, 0, 5] rfl rfl rfl (J111 (j96_2 + j96_1) (1 : Int32) s1.2.1 j96_3 hf)
        · have hf := it_f c5 hf
          refine g_iconst 106 hC (0 : Int32) (by decide) d_Model_merge_106 ?_
          refine g_goto 107 hC 111 (by decide) d_Model_merge_107 ?_
          exact g_re [0, 1, 2, 3] [1, 2, 3, 0, 5] rfl rfl rfl (J111 (j96_2 + j96_1) (0 : Int32) s1.2.1 j96_3 hf)
      have J83 : ∀ (j83_0 : Int32) (j83_1 : Int32) (j83_2 : Int32), Model_merge_J83 s1 j83_0 j83_1 j83_2 = some u4 → gAt C 0 0 [(q_a0, .inr (12, [.ref r_a0_tape, .int x_a0_fed, .ref r_a0_out, .int x_a0_size, .int x_a0_thrown, .int x_a0_place, .ref q_a0_told, .int x_a0_tells, .ref q_a0_order, .ref q_a0_merged, .ref r_a0_last, .ref r_a0_up, .ref r_a0_symbols, .int x_a0_many, .ref r_a0_list, .int x_a0_listed, .ref r_a0_tables, .int x_a0_groups, .int x_a0_tableCount, .ref r_a0_lengths, .ref r_a0_codes, .ref r_a0_weights, .ref r_a0_parents, .ref r_a0_counts, .int x_a0_origin, .int x_a0_check, .int x_a0_blocks, .int x_a0_fresh, .int x_a0_allTells, .int x_a0_allSymbols, .int x_a0_allGroups, .int x_a0_bit, .int x_a0_checkOfAll, .int x_a0_fault, .int x_a0_total, .ref r_a0_rows, .ref r_a0_from, .int x_a0_rowCount, .ref r_a0_chosen, .int x_a0_chosenCount, .ref r_a0_seen, .ref r_a0_prefix, .int x_a0_seenTables, .int x_a0_seenBytes, .int x_a0_limit, .int x_a0_count])), (q_a0_order, .inl (g_K C 0, 2250, .inl f_a0_order)), (q_a0_told, .inl (g_K C 0, 2250, .inl f_a0_told)), (q_a0_merged, .inl (g_K C 0, 2250, .inl s1.2.2.2))] [(0, .ref q_a0), (2, .int p2), (3, .int p3), (4, .int s1.1), (5, .int s1.2.1), (6, .int s1.2.2.1), (7, .int j83_0)] 83 [.int j83_1, .int j83_2, .ref q_a0_merged] := by
        intro j83_0 j83_1 j83_2 hf
        unfold Model_merge_J83 at hf
        obtain ⟨e6, hf⟩ := gd_some hf
        refine g_iast 83 hC 3 rfl e6 [(q_a0, .inr (12, [.ref r_a0_tape, .int x_a0_fed, .ref r_a0_out, .int x_a0_size, .int x_a0_thrown, .int x_a0_place, .ref q_a0_told, .int x_a0_tells, .ref q_a0_order, .ref q_a0_merged, .ref r_a0_last, .ref r_a0_up, .ref r_a0_symbols, .int x_a0_many, .ref r_a0_list, .int x_a0_listed, .ref r_a0_tables, .int x_a0_groups, .int x_a0_tableCount, .ref r_a0_lengths, .ref r_a0_codes, .ref r_a0_weights, .ref r_a0_parents, .ref r_a0_counts, .int x_a0_origin, .int x_a0_check, .int x_a0_blocks, .int x_a0_fresh, .int x_a0_allTells, .int x_a0_allSymbols, .int x_a0_allGroups, .int x_a0_bit, .int x_a0_checkOfAll, .int x_a0_fault, .int x_a0_total, .ref r_a0_rows, .ref r_a0_from, .int x_a0_rowCount, .ref r_a0_chosen, .int x_a0_chosenCount, .ref r_a0_seen, .ref r_a0_prefix, .int x_a0_seenTables, .int x_a0_seenBytes, .int x_a0_limit, .int x_a0_count])), (q_a0_order, .inl (g_K C 0, 2250, .inl f_a0_order)), (q_a0_told, .inl (g_K C 0, 2250, .inl f_a0_told)), (q_a0_merged, .inl (g_K C 0, 2250, .inl (upd s1.2.2.2 j83_2.toNatClampNeg j83_1)))] rfl d_Model_merge_83 ?_
        refine g_iload 84 hC (j := 3) (hj := rfl) (hd := d_Model_merge_84) ?_
        refine g_iload 86 hC (j := 6) (hj := rfl) (hd := d_Model_merge_86) ?_
        refine g_if_eq 88 hC 95 (by decide) d_Model_merge_88 (fun c7 => ?_) (fun c7 => ?_)
        · have hf := it_t c7 hf
          refine g_iconst 95 hC (0 : Int32) (by decide) d_Model_merge_95 ?_
          exact g_re [0, 1, 2, 3] [0, 1, 2, 4, 5, 6] rfl rfl rfl (J96 j83_0 (0 : Int32) s1.1 (upd s1.2.2.2 j83_2.toNatClampNeg j83_1) hf)
        · have hf := it_f c7 hf
          refine g_iconst 91 hC (1 : Int32) (by decide) d_Model_merge_91 ?_
          refine g_goto 92 hC 96 (by decide) d_Model_merge_92 ?_
          exact g_re [0, 1, 2, 3] [0, 1, 2, 4, 5, 6] rfl rfl rfl (J96 j83_0 (1 : Int32) s1.1 (upd s1.2.2.2 j83_2.toNatClampNeg j83_1) hf)
      have J53 : ∀ (j53_0 : Int32), Model_merge_J53 s1 f_a0_order j53_0 = some u4 → gAt C 0 0 [(q_a0, .inr (12, [.ref r_a0_tape, .int x_a0_fed, .ref r_a0_out, .int x_a0_size, .int x_a0_thrown, .int x_a0_place, .ref q_a0_told, .int x_a0_tells, .ref q_a0_order, .ref q_a0_merged, .ref r_a0_last, .ref r_a0_up, .ref r_a0_symbols, .int x_a0_many, .ref r_a0_list, .int x_a0_listed, .ref r_a0_tables, .int x_a0_groups, .int x_a0_tableCount, .ref r_a0_lengths, .ref r_a0_codes, .ref r_a0_weights, .ref r_a0_parents, .ref r_a0_counts, .int x_a0_origin, .int x_a0_check, .int x_a0_blocks, .int x_a0_fresh, .int x_a0_allTells, .int x_a0_allSymbols, .int x_a0_allGroups, .int x_a0_bit, .int x_a0_checkOfAll, .int x_a0_fault, .int x_a0_total, .ref r_a0_rows, .ref r_a0_from, .int x_a0_rowCount, .ref r_a0_chosen, .int x_a0_chosenCount, .ref r_a0_seen, .ref r_a0_prefix, .int x_a0_seenTables, .int x_a0_seenBytes, .int x_a0_limit, .int x_a0_count])), (q_a0_order, .inl (g_K C 0, 2250, .inl f_a0_order)), (q_a0_told, .inl (g_K C 0, 2250, .inl f_a0_told)), (q_a0_merged, .inl (g_K C 0, 2250, .inl s1.2.2.2))] [(0, .ref q_a0), (2, .int p2), (3, .int p3), (4, .int s1.1), (5, .int s1.2.1), (6, .int s1.2.2.1)] 53 [.int j53_0] := by
        intro j53_0 hf
        unfold Model_merge_J53 at hf
        refine g_istore 53 hC (lv2 := [(7, .int j53_0), (0, .ref q_a0), (2, .int p2), (3, .int p3), (4, .int s1.1), (5, .int s1.2.1), (6, .int s1.2.2.1)]) (hn := (by decide)) (hl2 := rfl) (hd := d_Model_merge_53) ?_
        refine g_aload_n 55 hC (j := 1) (hj := rfl) (hd := d_Model_merge_55) ?_
        refine g_get 56 hC i_Model rfl 0 rfl 9 (by decide) k1238 rfl d_Model_merge_56 ?_
        refine g_iload 59 hC (j := 6) (hj := rfl) (hd := d_Model_merge_59) ?_
        refine g_iload 61 hC (j := 0) (hj := rfl) (hd := d_Model_merge_61) ?_
        refine g_if_eq 63 hC 76 (by decide) d_Model_merge_63 (fun c8 => ?_) (fun c8 => ?_)
        · have hf := it_t c8 hf
          refine g_aload_n 76 hC (j := 1) (hj := rfl) (hd := d_Model_merge_76) ?_
          refine g_get 77 hC i_Model rfl 0 rfl 8 (by decide) k1237 rfl d_Model_merge_77 ?_
          refine g_iload 80 hC (j := 5) (hj := rfl) (hd := d_Model_merge_80) ?_
          obtain ⟨e9, hf⟩ := gd_some hf
          refine g_iald 82 hC 1 rfl e9 d_Model_merge_82 ?_
          exact g_re [0, 1, 2, 3] [1, 2, 3, 4, 5, 6, 0] rfl rfl rfl (J83 j53_0 (f_a0_order s1.2.1.toNatClampNeg) s1.2.2.1 hf)
        · have hf := it_f c8 hf
          refine g_aload_n 66 hC (j := 1) (hj := rfl) (hd := d_Model_merge_66) ?_
          refine g_get 67 hC i_Model rfl 0 rfl 8 (by decide) k1237 rfl d_Model_merge_67 ?_
          refine g_iload 70 hC (j := 4) (hj := rfl) (hd := d_Model_merge_70) ?_
          obtain ⟨e10, hf⟩ := gd_some hf
          refine g_iald 72 hC 1 rfl e10 d_Model_merge_72 ?_
          refine g_goto 73 hC 83 (by decide) d_Model_merge_73 ?_
          exact g_re [0, 1, 2, 3] [1, 2, 3, 4, 5, 6, 0] rfl rfl rfl (J83 j53_0 (f_a0_order s1.1.toNatClampNeg) s1.2.2.1 hf)
      have J52 : Model_merge_J52 s1 f_a0_order = some u4 → gAt C 0 0 [(q_a0, .inr (12, [.ref r_a0_tape, .int x_a0_fed, .ref r_a0_out, .int x_a0_size, .int x_a0_thrown, .int x_a0_place, .ref q_a0_told, .int x_a0_tells, .ref q_a0_order, .ref q_a0_merged, .ref r_a0_last, .ref r_a0_up, .ref r_a0_symbols, .int x_a0_many, .ref r_a0_list, .int x_a0_listed, .ref r_a0_tables, .int x_a0_groups, .int x_a0_tableCount, .ref r_a0_lengths, .ref r_a0_codes, .ref r_a0_weights, .ref r_a0_parents, .ref r_a0_counts, .int x_a0_origin, .int x_a0_check, .int x_a0_blocks, .int x_a0_fresh, .int x_a0_allTells, .int x_a0_allSymbols, .int x_a0_allGroups, .int x_a0_bit, .int x_a0_checkOfAll, .int x_a0_fault, .int x_a0_total, .ref r_a0_rows, .ref r_a0_from, .int x_a0_rowCount, .ref r_a0_chosen, .int x_a0_chosenCount, .ref r_a0_seen, .ref r_a0_prefix, .int x_a0_seenTables, .int x_a0_seenBytes, .int x_a0_limit, .int x_a0_count])), (q_a0_order, .inl (g_K C 0, 2250, .inl f_a0_order)), (q_a0_told, .inl (g_K C 0, 2250, .inl f_a0_told)), (q_a0_merged, .inl (g_K C 0, 2250, .inl s1.2.2.2))] [(0, .ref q_a0), (2, .int p2), (3, .int p3), (4, .int s1.1), (5, .int s1.2.1), (6, .int s1.2.2.1)] 52 [] := by
        intro hf
        unfold Model_merge_J52 at hf
        refine g_iconst 52 hC (0 : Int32) (by decide) d_Model_merge_52 ?_
        exact J53 (0 : Int32) hf
      have J48 : Model_merge_J48 s1 f_a0_order = some u4 → gAt C 0 0 [(q_a0, .inr (12, [.ref r_a0_tape, .int x_a0_fed, .ref r_a0_out, .int x_a0_size, .int x_a0_thrown, .int x_a0_place, .ref q_a0_told, .int x_a0_tells, .ref q_a0_order, .ref q_a0_merged, .ref r_a0_last, .ref r_a0_up, .ref r_a0_symbols, .int x_a0_many, .ref r_a0_list, .int x_a0_listed, .ref r_a0_tables, .int x_a0_groups, .int x_a0_tableCount, .ref r_a0_lengths, .ref r_a0_codes, .ref r_a0_weights, .ref r_a0_parents, .ref r_a0_counts, .int x_a0_origin, .int x_a0_check, .int x_a0_blocks, .int x_a0_fresh, .int x_a0_allTells, .int x_a0_allSymbols, .int x_a0_allGroups, .int x_a0_bit, .int x_a0_checkOfAll, .int x_a0_fault, .int x_a0_total, .ref r_a0_rows, .ref r_a0_from, .int x_a0_rowCount, .ref r_a0_chosen, .int x_a0_chosenCount, .ref r_a0_seen, .ref r_a0_prefix, .int x_a0_seenTables, .int x_a0_seenBytes, .int x_a0_limit, .int x_a0_count])), (q_a0_order, .inl (g_K C 0, 2250, .inl f_a0_order)), (q_a0_told, .inl (g_K C 0, 2250, .inl f_a0_told)), (q_a0_merged, .inl (g_K C 0, 2250, .inl s1.2.2.2))] [(0, .ref q_a0), (2, .int p2), (3, .int p3), (4, .int s1.1), (5, .int s1.2.1), (6, .int s1.2.2.1)] 48 [] := by
        intro hf
        unfold Model_merge_J48 at hf
        refine g_iconst 48 hC (1 : Int32) (by decide) d_Model_merge_48 ?_
        refine g_goto 49 hC 53 (by decide) d_Model_merge_49 ?_
        exact J53 (1 : Int32) hf
      refine g_iload 9 hC (j := 5) (hj := rfl) (hd := d_Model_merge_9) ?_
      refine g_iload_n 11 hC (j := 2) (hj := rfl) (hd := d_Model_merge_11) ?_
      refine g_icmp_ge 12 hC 120 (by decide) d_Model_merge_12 (fun c11 => ?_) (fun c11 => ?_)
      · have hf := it_t c11 hf
        exact g_re [0, 1, 2, 3] [] rfl rfl rfl (Xu2_0 s1.2.2.2 (hX s1.2.2.2 hf))
      · have hf := it_f c11 hf
        refine g_iload 15 hC (j := 4) (hj := rfl) (hd := d_Model_merge_15) ?_
        refine g_iload_n 17 hC (j := 2) (hj := rfl) (hd := d_Model_merge_17) ?_
        refine g_icmp_eq 18 hC 48 (by decide) d_Model_merge_18 (fun c12 => ?_) (fun c12 => ?_)
        · have hf := it_t c12 hf
          exact J48 hf
        · have hf := it_f c12 hf
          refine g_iload 21 hC (j := 3) (hj := rfl) (hd := d_Model_merge_21) ?_
          refine g_iload_n 23 hC (j := 1) (hj := rfl) (hd := d_Model_merge_23) ?_
          refine g_icmp_ge 24 hC 52 (by decide) d_Model_merge_24 (fun c13 => ?_) (fun c13 => ?_)
          · have hf := it_t c13 hf
            exact J52 hf
          · have hf := it_f c13 hf
            refine g_aload_n 27 hC (j := 0) (hj := rfl) (hd := d_Model_merge_27) ?_
            refine g_aload_n 28 hC (j := 0) (hj := rfl) (hd := d_Model_merge_28) ?_
            refine g_get 29 hC i_Model rfl 0 rfl 8 (by decide) k1237 rfl d_Model_merge_29 ?_
            refine g_iload 32 hC (j := 3) (hj := rfl) (hd := d_Model_merge_32) ?_
            obtain ⟨e14, hf⟩ := gd_some hf
            refine g_iald 34 hC 1 rfl e14 d_Model_merge_34 ?_
            refine g_aload_n 35 hC (j := 0) (hj := rfl) (hd := d_Model_merge_35) ?_
            refine g_get 36 hC i_Model rfl 0 rfl 8 (by decide) k1237 rfl d_Model_merge_36 ?_
            refine g_iload 39 hC (j := 4) (hj := rfl) (hd := d_Model_merge_39) ?_
            obtain ⟨e15, hf⟩ := gd_some hf
            refine g_iald 41 hC 1 rfl e15 d_Model_merge_41 ?_
            obtain ⟨u16, hu16, hf⟩ := bd_some hf
            refine g_callVi 42 hC (c_Model_compare (g_l C) (g_D C) (g_K C) q_a0 r_a0_tape x_a0_fed r_a0_out x_a0_size x_a0_thrown x_a0_place q_a0_told x_a0_tells q_a0_order q_a0_merged r_a0_last r_a0_up r_a0_symbols x_a0_many r_a0_list x_a0_listed r_a0_tables x_a0_groups x_a0_tableCount r_a0_lengths r_a0_codes r_a0_weights r_a0_parents r_a0_counts x_a0_origin x_a0_check x_a0_blocks x_a0_fresh x_a0_allTells x_a0_allSymbols x_a0_allGroups x_a0_bit x_a0_checkOfAll x_a0_fault x_a0_total r_a0_rows r_a0_from x_a0_rowCount r_a0_chosen x_a0_chosenCount r_a0_seen r_a0_prefix x_a0_seenTables x_a0_seenBytes x_a0_limit x_a0_count f_a0_told (f_a0_order s1.1.toNatClampNeg) (f_a0_order s1.2.1.toNatClampNeg) u16 hu16) k1419 k14 k1416 k1418 ks43 2 rfl (by decide +kernel) (by decide) [0, 2] [1, 3] [(q_a0_order, .inl (g_K C 0, 2250, .inl f_a0_order)), (q_a0_merged, .inl (g_K C 0, 2250, .inl s1.2.2.2))] rfl rfl rfl rfl rfl 0 12 rfl rfl rfl rfl (Nat.le_of_ble_eq_true rfl) ⟨Nat.le_of_ble_eq_true rfl, Nat.le_of_ble_eq_true rfl⟩ (fun (_ : Unit) => [(q_a0_order, .inl (g_K C 0, 2250, .inl f_a0_order)), (q_a0_merged, .inl (g_K C 0, 2250, .inl s1.2.2.2)), (q_a0, .inr (12, [.ref r_a0_tape, .int x_a0_fed, .ref r_a0_out, .int x_a0_size, .int x_a0_thrown, .int x_a0_place, .ref q_a0_told, .int x_a0_tells, .ref q_a0_order, .ref q_a0_merged, .ref r_a0_last, .ref r_a0_up, .ref r_a0_symbols, .int x_a0_many, .ref r_a0_list, .int x_a0_listed, .ref r_a0_tables, .int x_a0_groups, .int x_a0_tableCount, .ref r_a0_lengths, .ref r_a0_codes, .ref r_a0_weights, .ref r_a0_parents, .ref r_a0_counts, .int x_a0_origin, .int x_a0_check, .int x_a0_blocks, .int x_a0_fresh, .int x_a0_allTells, .int x_a0_allSymbols, .int x_a0_allGroups, .int x_a0_bit, .int x_a0_checkOfAll, .int x_a0_fault, .int x_a0_total, .ref r_a0_rows, .ref r_a0_from, .int x_a0_rowCount, .ref r_a0_chosen, .int x_a0_chosenCount, .ref r_a0_seen, .ref r_a0_prefix, .int x_a0_seenTables, .int x_a0_seenBytes, .int x_a0_limit, .int x_a0_count])), (q_a0_told, .inl (g_K C 0, 2250, .inl f_a0_told))]) (fun _ => rfl) d_Model_merge_42 0 0 rfl rfl (fun _ => ?_)
            refine g_if_gt 45 hC 52 (by decide) d_Model_merge_45 (fun c17 => ?_) (fun c17 => ?_)
            · have hf := it_t c17 hf
              exact g_re [2, 0, 3, 1] [0, 1, 2, 3, 4, 5] rfl rfl rfl (J52 hf)
            · have hf := it_f c17 hf
              exact g_re [2, 0, 3, 1] [0, 1, 2, 3, 4, 5] rfl rfl rfl (J48 hf)) gas
  exact g_re [0, 1, 2, 3] [3, 5, 6, 2, 1, 0] rfl rfl rfl (Gu2 (p1, p2, p1, f_a0_merged) hu2)
theorem c_Model_merge (l : Launch) (D : va_G) (K : Nat → ClassId) (q_a0 : Nat) (r_a0_tape : Nat) (x_a0_fed : Int32) (r_a0_out : Nat) (x_a0_size : Int32) (x_a0_thrown : Int32) (x_a0_place : Int32) (q_a0_told : Nat) (x_a0_tells : Int32) (q_a0_order : Nat) (q_a0_merged : Nat) (r_a0_last : Nat) (r_a0_up : Nat) (r_a0_symbols : Nat) (x_a0_many : Int32) (r_a0_list : Nat) (x_a0_listed : Int32) (r_a0_tables : Nat) (x_a0_groups : Int32) (x_a0_tableCount : Int32) (r_a0_lengths : Nat) (r_a0_codes : Nat) (r_a0_weights : Nat) (r_a0_parents : Nat) (r_a0_counts : Nat) (x_a0_origin : Int32) (x_a0_check : Int32) (x_a0_blocks : Int32) (x_a0_fresh : Int32) (x_a0_allTells : Int32) (x_a0_allSymbols : Int32) (x_a0_allGroups : Int32) (x_a0_bit : Int32) (x_a0_checkOfAll : Int32) (x_a0_fault : Int32) (x_a0_total : Int32) (r_a0_rows : Nat) (r_a0_from : Nat) (x_a0_rowCount : Int32) (r_a0_chosen : Nat) (x_a0_chosenCount : Int32) (r_a0_seen : Nat) (r_a0_prefix : Nat) (x_a0_seenTables : Int32) (x_a0_seenBytes : Int32) (x_a0_limit : Int32) (x_a0_count : Int32) (f_a0_order : (Nat → Int32)) (f_a0_told : (Nat → Int32)) (f_a0_merged : (Nat → Int32)) (p1 : Int32) (p2 : Int32) (p3 : Int32) (out : (Nat → Int32)) (hf : Model_merge_f p3 f_a0_order p2 x_a0_tells f_a0_told p1 f_a0_merged = some out) : Cv l D K y_Model_merge (g_wd y_Model_merge b_Model_merge 8 none) { frames := 1, cells := 0, slots := 0, locals := 25 } [.ref q_a0, .int p1, .int p2, .int p3] [(q_a0, .inr (12, [.ref r_a0_tape, .int x_a0_fed, .ref r_a0_out, .int x_a0_size, .int x_a0_thrown, .int x_a0_place, .ref q_a0_told, .int x_a0_tells, .ref q_a0_order, .ref q_a0_merged, .ref r_a0_last, .ref r_a0_up, .ref r_a0_symbols, .int x_a0_many, .ref r_a0_list, .int x_a0_listed, .ref r_a0_tables, .int x_a0_groups, .int x_a0_tableCount, .ref r_a0_lengths, .ref r_a0_codes, .ref r_a0_weights, .ref r_a0_parents, .ref r_a0_counts, .int x_a0_origin, .int x_a0_check, .int x_a0_blocks, .int x_a0_fresh, .int x_a0_allTells, .int x_a0_allSymbols, .int x_a0_allGroups, .int x_a0_bit, .int x_a0_checkOfAll, .int x_a0_fault, .int x_a0_total, .ref r_a0_rows, .ref r_a0_from, .int x_a0_rowCount, .ref r_a0_chosen, .int x_a0_chosenCount, .ref r_a0_seen, .ref r_a0_prefix, .int x_a0_seenTables, .int x_a0_seenBytes, .int x_a0_limit, .int x_a0_count])), (q_a0_order, .inl (K 0, 2250, .inl f_a0_order)), (q_a0_told, .inl (K 0, 2250, .inl f_a0_told)), (q_a0_merged, .inl (K 0, 2250, .inl f_a0_merged))] (fun (x : Unit) => [(q_a0, .inr (12, [.ref r_a0_tape, .int x_a0_fed, .ref r_a0_out, .int x_a0_size, .int x_a0_thrown, .int x_a0_place, .ref q_a0_told, .int x_a0_tells, .ref q_a0_order, .ref q_a0_merged, .ref r_a0_last, .ref r_a0_up, .ref r_a0_symbols, .int x_a0_many, .ref r_a0_list, .int x_a0_listed, .ref r_a0_tables, .int x_a0_groups, .int x_a0_tableCount, .ref r_a0_lengths, .ref r_a0_codes, .ref r_a0_weights, .ref r_a0_parents, .ref r_a0_counts, .int x_a0_origin, .int x_a0_check, .int x_a0_blocks, .int x_a0_fresh, .int x_a0_allTells, .int x_a0_allSymbols, .int x_a0_allGroups, .int x_a0_bit, .int x_a0_checkOfAll, .int x_a0_fault, .int x_a0_total, .ref r_a0_rows, .ref r_a0_from, .int x_a0_rowCount, .ref r_a0_chosen, .int x_a0_chosenCount, .ref r_a0_seen, .ref r_a0_prefix, .int x_a0_seenTables, .int x_a0_seenBytes, .int x_a0_limit, .int x_a0_count])), (q_a0_order, .inl (K 0, 2250, .inl f_a0_order)), (q_a0_told, .inl (K 0, 2250, .inl f_a0_told)), (q_a0_merged, .inl (K 0, 2250, .inl out))]) := mk_v (by decide) (Nat.le_of_ble_eq_true rfl) (fun p e s m below meth c A Q hC kr => m_Model_merge hC q_a0 r_a0_tape x_a0_fed r_a0_out x_a0_size x_a0_thrown x_a0_place q_a0_told x_a0_tells q_a0_order q_a0_merged r_a0_last r_a0_up r_a0_symbols x_a0_many r_a0_list x_a0_listed r_a0_tables x_a0_groups x_a0_tableCount r_a0_lengths r_a0_codes r_a0_weights r_a0_parents r_a0_counts x_a0_origin x_a0_check x_a0_blocks x_a0_fresh x_a0_allTells x_a0_allSymbols x_a0_allGroups x_a0_bit x_a0_checkOfAll x_a0_fault x_a0_total r_a0_rows r_a0_from x_a0_rowCount r_a0_chosen x_a0_chosenCount r_a0_seen r_a0_prefix x_a0_seenTables x_a0_seenBytes x_a0_limit x_a0_count f_a0_order f_a0_told f_a0_merged p1 p2 p3 out hf (fun x o9 pc lv ho => by subst ho; exact kr x pc lv))
