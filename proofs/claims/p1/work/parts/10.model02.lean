abbrev b_Model_checked : ByteArray := prog_14_method_8_code
def y_Model_checked : MethodName := ⟨R_Model, "checked", "(II)I"⟩
theorem d_Model_checked_0 : decode b_Model_checked 0 = .ok (.iload_n 0, 1) := by decide +kernel
theorem d_Model_checked_1 : decode b_Model_checked 1 = .ok (.istore_n 2, 1) := by decide +kernel
theorem d_Model_checked_2 : decode b_Model_checked 2 = .ok (.bipush 7, 2) := by decide +kernel
theorem d_Model_checked_4 : decode b_Model_checked 4 = .ok (.istore_n 3, 1) := by decide +kernel
theorem d_Model_checked_5 : decode b_Model_checked 5 = .ok (.iload_n 3, 1) := by decide +kernel
theorem d_Model_checked_6 : decode b_Model_checked 6 = .ok (.ifCond .lt 38, 3) := by decide +kernel
theorem d_Model_checked_9 : decode b_Model_checked 9 = .ok (.iload_n 2, 1) := by decide +kernel
theorem d_Model_checked_10 : decode b_Model_checked 10 = .ok (.bipush 31, 2) := by decide +kernel
theorem d_Model_checked_12 : decode b_Model_checked 12 = .ok (.iushr, 1) := by decide +kernel
theorem d_Model_checked_13 : decode b_Model_checked 13 = .ok (.iload_n 1, 1) := by decide +kernel
theorem d_Model_checked_14 : decode b_Model_checked 14 = .ok (.iload_n 3, 1) := by decide +kernel
theorem d_Model_checked_15 : decode b_Model_checked 15 = .ok (.ishr, 1) := by decide +kernel
theorem d_Model_checked_16 : decode b_Model_checked 16 = .ok (.iconst 1, 1) := by decide +kernel
theorem d_Model_checked_17 : decode b_Model_checked 17 = .ok (.iand, 1) := by decide +kernel
theorem d_Model_checked_18 : decode b_Model_checked 18 = .ok (.ixor, 1) := by decide +kernel
theorem d_Model_checked_19 : decode b_Model_checked 19 = .ok (.istore 4, 2) := by decide +kernel
theorem d_Model_checked_21 : decode b_Model_checked 21 = .ok (.iload_n 2, 1) := by decide +kernel
theorem d_Model_checked_22 : decode b_Model_checked 22 = .ok (.iconst 1, 1) := by decide +kernel
theorem d_Model_checked_23 : decode b_Model_checked 23 = .ok (.ishl, 1) := by decide +kernel
theorem d_Model_checked_24 : decode b_Model_checked 24 = .ok (.iload 4, 2) := by decide +kernel
theorem d_Model_checked_26 : decode b_Model_checked 26 = .ok (.iconst 1, 1) := by decide +kernel
theorem d_Model_checked_27 : decode b_Model_checked 27 = .ok (.if_icmp .ne 8, 3) := by decide +kernel
theorem d_Model_checked_30 : decode b_Model_checked 30 = .ok (.ldc 89, 2) := by decide +kernel
theorem d_Model_checked_32 : decode b_Model_checked 32 = .ok (.goto 4, 3) := by decide +kernel
theorem d_Model_checked_35 : decode b_Model_checked 35 = .ok (.iconst 0, 1) := by decide +kernel
theorem d_Model_checked_36 : decode b_Model_checked 36 = .ok (.ixor, 1) := by decide +kernel
theorem d_Model_checked_37 : decode b_Model_checked 37 = .ok (.istore_n 2, 1) := by decide +kernel
theorem d_Model_checked_38 : decode b_Model_checked 38 = .ok (.iinc 3 (-1), 3) := by decide +kernel
theorem d_Model_checked_41 : decode b_Model_checked 41 = .ok (.goto (-36), 3) := by decide +kernel
theorem d_Model_checked_44 : decode b_Model_checked 44 = .ok (.iload_n 2, 1) := by decide +kernel
theorem d_Model_checked_45 : decode b_Model_checked 45 = .ok (.ireturn, 1) := by decide +kernel
theorem k1476 : (Jvm.Cond.constant "RotationPressModel" (89 : Nat) (79764919 : Int32)) ∈ g_tbl := List.mem_filter.mpr ⟨List.mem_append_right (k2_sels lw_privs) (List.mem_append_right _ (List.mem_append_right _ (List.mem_append_right _ (List.mem_append_right _ (List.mem_append_right _ (List.mem_append_right _ (List.mem_of_getElem? (l := tables_1_7) (i := 36) rfl))))))), rfl⟩
set_option maxRecDepth 100000 in
set_option maxHeartbeats 4000000 in
theorem m_Model_checked {C : gT} (hC : gOk C b_Model_checked R_Model { frames := 0, cells := 0, slots := 0, locals := 0 } 5) (p0 : Int32) (p1 : Int32) (out : Int32) (hf : Model_checked_f p1 p0 = some out) (kr : ∀ (x : Unit) (o9 : Int32) (pc : Nat) (lv : List (Nat × Value)), o9 = out → decode b_Model_checked pc = .ok (.ireturn, 1) → narrow .int (.int o9) = .int o9 → gAt C 0 0 [] lv pc [.int o9]) : gAt C 0 0 [] [(0, .int p0), (1, .int p1)] 0 [] := by
  unfold Model_checked_f at hf
  refine g_iload_n 0 hC (j := 0) (hj := rfl) (hd := d_Model_checked_0) ?_
  refine g_istore_n 1 hC (lv2 := [(2, .int p0), (0, .int p0), (1, .int p1)]) (hn := (by decide)) (hl2 := rfl) (hd := d_Model_checked_1) ?_
  refine g_bipush 2 hC (7 : Int32) (by decide) d_Model_checked_2 ?_
  refine g_istore_n 4 hC (lv2 := [(3, .int (7 : Int32)), (2, .int p0), (0, .int p0), (1, .int p1)]) (hn := (by decide)) (hl2 := rfl) (hd := d_Model_checked_4) ?_
  obtain ⟨u2, hu2, hf⟩ := bd_some hf
  have Xu2_0 : ∀ (v3 : Int32), v3 = u2 → gAt C 0 0 [] [(2, .int v3)] 44 [] := by
    intro v3 hv
    rw [← hv] at hf
    refine g_iload_n 44 hC (j := 0) (hj := rfl) (hd := d_Model_checked_44) ?_
    exact g_re [] [] rfl rfl rfl (kr () v3 45 [] (Option.some.inj hf) d_Model_checked_45 rfl)
  have Gu2 := lp_ind (b := (Model_checked_L5 p1)) (G := fun (s1 : (Int32 × Int32)) => gAt C 0 0 [] [(1, .int p1), (2, .int s1.1), (3, .int s1.2)] 5 []) (o := u2) (by
      intro s1 u4 hf hI hX
      unfold Model_checked_L5 at hf
      have J36 : ∀ (j36_0 : Int32) (j36_1 : Int32), Model_checked_J36 s1 j36_0 j36_1 = some u4 → gAt C 0 0 [] [(1, .int p1), (3, .int s1.2)] 36 [.int j36_0, .int j36_1] := by
        intro j36_0 j36_1 hf
        unfold Model_checked_J36 at hf
        refine g_ixor 36 hC d_Model_checked_36 ?_
        refine g_istore_n 37 hC (lv2 := [(2, .int (j36_1 ^^^ j36_0)), (1, .int p1), (3, .int s1.2)]) (hn := (by decide)) (hl2 := rfl) (hd := d_Model_checked_37) ?_
        refine g_iinc 38 hC 2 (-1 : Int32) [(3, .int (s1.2 + (-1 : Int32))), (2, .int (j36_1 ^^^ j36_0)), (1, .int p1)] rfl (by decide) (by decide) rfl d_Model_checked_38 ?_
        refine g_goto 41 hC 5 (by decide) d_Model_checked_41 ?_
        exact g_re [] [2, 1, 0] rfl rfl rfl (hI ((j36_1 ^^^ j36_0), (s1.2 + (-1 : Int32))) hf)
      refine g_iload_n 5 hC (j := 2) (hj := rfl) (hd := d_Model_checked_5) ?_
      refine g_if_lt 6 hC 44 (by decide) d_Model_checked_6 (fun c5 => ?_) (fun c5 => ?_)
      · have hf := it_t c5 hf
        exact g_re [] [1] rfl rfl rfl (Xu2_0 s1.1 (hX s1.1 hf))
      · have hf := it_f c5 hf
        refine g_iload_n 9 hC (j := 1) (hj := rfl) (hd := d_Model_checked_9) ?_
        refine g_bipush 10 hC (31 : Int32) (by decide) d_Model_checked_10 ?_
        refine g_iushr 12 hC d_Model_checked_12 ?_
        refine g_iload_n 13 hC (j := 0) (hj := rfl) (hd := d_Model_checked_13) ?_
        refine g_iload_n 14 hC (j := 2) (hj := rfl) (hd := d_Model_checked_14) ?_
        refine g_ishr 15 hC d_Model_checked_15 ?_
        refine g_iconst 16 hC (1 : Int32) (by decide) d_Model_checked_16 ?_
        refine g_iand 17 hC d_Model_checked_17 ?_
        refine g_ixor 18 hC d_Model_checked_18 ?_
        refine g_istore 19 hC (lv2 := [(4, .int ((ush s1.1 (31 : Int32)) ^^^ ((p1 >>> (s1.2 &&& 31)) &&& (1 : Int32)))), (1, .int p1), (2, .int s1.1), (3, .int s1.2)]) (hn := (by decide)) (hl2 := rfl) (hd := d_Model_checked_19) ?_
        refine g_iload_n 21 hC (j := 2) (hj := rfl) (hd := d_Model_checked_21) ?_
        refine g_iconst 22 hC (1 : Int32) (by decide) d_Model_checked_22 ?_
        refine g_ishl 23 hC d_Model_checked_23 ?_
        refine g_iload 24 hC (j := 0) (hj := rfl) (hd := d_Model_checked_24) ?_
        refine g_iconst 26 hC (1 : Int32) (by decide) d_Model_checked_26 ?_
        refine g_icmp_ne 27 hC 35 (by decide) d_Model_checked_27 (fun c6 => ?_) (fun c6 => ?_)
        · have hf := it_f c6 hf
          refine g_iconst 35 hC (0 : Int32) (by decide) d_Model_checked_35 ?_
          exact g_re [] [1, 3] rfl rfl rfl (J36 (0 : Int32) (s1.1 <<< ((1 : Int32) &&& 31)) hf)
        · have hf := it_t c6 hf
          refine g_ldc 30 hC (79764919 : Int32) k1476 d_Model_checked_30 ?_
          refine g_goto 32 hC 36 (by decide) d_Model_checked_32 ?_
          exact g_re [] [1, 3] rfl rfl rfl (J36 (79764919 : Int32) (s1.1 <<< ((1 : Int32) &&& 31)) hf)) gas
  exact g_re [] [3, 1, 0] rfl rfl rfl (Gu2 (p0, (7 : Int32)) hu2)
theorem c_Model_checked (l : Launch) (D : va_G) (K : Nat → ClassId) (p0 : Int32) (p1 : Int32) (out : Int32) (hf : Model_checked_f p1 p0 = some out) : Ci l D K y_Model_checked (g_wd y_Model_checked b_Model_checked 5 (some .int)) { frames := 0, cells := 0, slots := 0, locals := 0 } [.int p0, .int p1] [] (fun (x : Unit) => []) out := mk_i (by decide) (Nat.le_of_ble_eq_true rfl) (fun p e s m below meth c A Q hC kr => m_Model_checked hC p0 p1 out hf (fun x o9 pc lv ho => by subst ho; exact kr x pc lv))
abbrev b_Model_join : ByteArray := prog_14_method_9_code
def y_Model_join : MethodName := ⟨R_Model, "join", "(I)V"⟩
theorem d_Model_join_0 : decode b_Model_join 0 = .ok (.aload_n 0, 1) := by decide +kernel
theorem d_Model_join_1 : decode b_Model_join 1 = .ok (.aload_n 0, 1) := by decide +kernel
theorem d_Model_join_2 : decode b_Model_join 2 = .ok (.getfield 90, 3) := by decide +kernel
theorem d_Model_join_5 : decode b_Model_join 5 = .ok (.iconst 1, 1) := by decide +kernel
theorem d_Model_join_6 : decode b_Model_join 6 = .ok (.ishl, 1) := by decide +kernel
theorem d_Model_join_7 : decode b_Model_join 7 = .ok (.aload_n 0, 1) := by decide +kernel
theorem d_Model_join_8 : decode b_Model_join 8 = .ok (.getfield 90, 3) := by decide +kernel
theorem d_Model_join_11 : decode b_Model_join 11 = .ok (.bipush 31, 2) := by decide +kernel
theorem d_Model_join_13 : decode b_Model_join 13 = .ok (.iushr, 1) := by decide +kernel
theorem d_Model_join_14 : decode b_Model_join 14 = .ok (.ior, 1) := by decide +kernel
theorem d_Model_join_15 : decode b_Model_join 15 = .ok (.iload_n 1, 1) := by decide +kernel
theorem d_Model_join_16 : decode b_Model_join 16 = .ok (.ixor, 1) := by decide +kernel
theorem d_Model_join_17 : decode b_Model_join 17 = .ok (.putfield 90, 3) := by decide +kernel
theorem d_Model_join_20 : decode b_Model_join 20 = .ok (.return_, 1) := by decide +kernel
theorem k1261 : (Jvm.Cond.fieldLink "RotationPressModel" (90 : Nat) "RotationPressModel" "checkOfAll" "I") ∈ g_tbl := List.mem_filter.mpr ⟨List.mem_append_right (k2_sels lw_privs) (List.mem_append_right _ (List.mem_append_right _ (List.mem_append_right _ (List.mem_append_right _ (List.mem_append_right _ (List.mem_append_left _ (List.mem_of_getElem? (l := tables_1_6) (i := 61) rfl))))))), rfl⟩
set_option maxRecDepth 100000 in
set_option maxHeartbeats 4000000 in
theorem m_Model_join {C : gT} (hC : gOk C b_Model_join R_Model { frames := 0, cells := 0, slots := 0, locals := 0 } 2) (q_a0 : Nat) (r_a0_tape : Nat) (x_a0_fed : Int32) (r_a0_out : Nat) (x_a0_size : Int32) (x_a0_thrown : Int32) (x_a0_place : Int32) (r_a0_told : Nat) (x_a0_tells : Int32) (r_a0_order : Nat) (r_a0_merged : Nat) (r_a0_last : Nat) (r_a0_up : Nat) (r_a0_symbols : Nat) (x_a0_many : Int32) (r_a0_list : Nat) (x_a0_listed : Int32) (r_a0_tables : Nat) (x_a0_groups : Int32) (x_a0_tableCount : Int32) (r_a0_lengths : Nat) (r_a0_codes : Nat) (r_a0_weights : Nat) (r_a0_parents : Nat) (r_a0_counts : Nat) (x_a0_origin : Int32) (x_a0_check : Int32) (x_a0_blocks : Int32) (x_a0_fresh : Int32) (x_a0_allTells : Int32) (x_a0_allSymbols : Int32) (x_a0_allGroups : Int32) (x_a0_bit : Int32) (x_a0_checkOfAll : Int32) (x_a0_fault : Int32) (x_a0_total : Int32) (r_a0_rows : Nat) (r_a0_from : Nat) (x_a0_rowCount : Int32) (r_a0_chosen : Nat) (x_a0_chosenCount : Int32) (r_a0_seen : Nat) (r_a0_prefix : Nat) (x_a0_seenTables : Int32) (x_a0_seenBytes : Int32) (x_a0_limit : Int32) (x_a0_count : Int32) (p1 : Int32) (out : Int32) (hf : Model_join_f x_a0_checkOfAll p1 = some out) (kr : ∀ (x : Unit) (o9 : Int32) (pc : Nat) (lv : List (Nat × Value)), o9 = out → decode b_Model_join pc = .ok (.return_, 1) → gAt C 0 0 [(q_a0, .inr (12, [.ref r_a0_tape, .int x_a0_fed, .ref r_a0_out, .int x_a0_size, .int x_a0_thrown, .int x_a0_place, .ref r_a0_told, .int x_a0_tells, .ref r_a0_order, .ref r_a0_merged, .ref r_a0_last, .ref r_a0_up, .ref r_a0_symbols, .int x_a0_many, .ref r_a0_list, .int x_a0_listed, .ref r_a0_tables, .int x_a0_groups, .int x_a0_tableCount, .ref r_a0_lengths, .ref r_a0_codes, .ref r_a0_weights, .ref r_a0_parents, .ref r_a0_counts, .int x_a0_origin, .int x_a0_check, .int x_a0_blocks, .int x_a0_fresh, .int x_a0_allTells, .int x_a0_allSymbols, .int x_a0_allGroups, .int x_a0_bit, .int o9, .int x_a0_fault, .int x_a0_total, .ref r_a0_rows, .ref r_a0_from, .int x_a0_rowCount, .ref r_a0_chosen, .int x_a0_chosenCount, .ref r_a0_seen, .ref r_a0_prefix, .int x_a0_seenTables, .int x_a0_seenBytes, .int x_a0_limit, .int x_a0_count]))] lv pc []) : gAt C 0 0 [(q_a0, .inr (12, [.ref r_a0_tape, .int x_a0_fed, .ref r_a0_out, .int x_a0_size, .int x_a0_thrown, .int x_a0_place, .ref r_a0_told, .int x_a0_tells, .ref r_a0_order, .ref r_a0_merged, .ref r_a0_last, .ref r_a0_up, .ref r_a0_symbols, .int x_a0_many, .ref r_a0_list, .int x_a0_listed, .ref r_a0_tables, .int x_a0_groups, .int x_a0_tableCount, .ref r_a0_lengths, .ref r_a0_codes, .ref r_a0_weights, .ref r_a0_parents, .ref r_a0_counts, .int x_a0_origin, .int x_a0_check, .int x_a0_blocks, .int x_a0_fresh, .int x_a0_allTells, .int x_a0_allSymbols, .int x_a0_allGroups, .int x_a0_bit, .int x_a0_checkOfAll, .int x_a0_fault, .int x_a0_total, .ref r_a0_rows, .ref r_a0_from, .int x_a0_rowCount, .ref r_a0_chosen, .int x_a0_chosenCount, .ref r_a0_seen, .ref r_a0_prefix, .int x_a0_seenTables, .int x_a0_seenBytes, .int x_a0_limit, .int x_a0_count]))] [(0, .ref q_a0), (1, .int p1)] 0 [] := by
  unfold Model_join_f at hf
  refine g_aload_n 0 hC (j := 0) (hj := rfl) (hd := d_Model_join_0) ?_
  refine g_aload_n 1 hC (j := 0) (hj := rfl) (hd := d_Model_join_1) ?_
  refine g_get 2 hC i_Model rfl 0 rfl 32 (by decide) k1261 rfl d_Model_join_2 ?_
  refine g_iconst 5 hC (1 : Int32) (by decide) d_Model_join_5 ?_
  refine g_ishl 6 hC d_Model_join_6 ?_
  refine g_aload_n 7 hC (j := 0) (hj := rfl) (hd := d_Model_join_7) ?_
  refine g_get 8 hC i_Model rfl 0 rfl 32 (by decide) k1261 rfl d_Model_join_8 ?_
  refine g_bipush 11 hC (31 : Int32) (by decide) d_Model_join_11 ?_
  refine g_iushr 13 hC d_Model_join_13 ?_
  refine g_ior 14 hC d_Model_join_14 ?_
  refine g_iload_n 15 hC (j := 1) (hj := rfl) (hd := d_Model_join_15) ?_
  refine g_ixor 16 hC d_Model_join_16 ?_
  refine g_put 17 hC i_Model rfl 0 rfl 32 (by decide) t_Model tk_Model n_Model k1261 rfl rfl rfl (Nat.le_of_ble_eq_true rfl) [(q_a0, .inr (12, [.ref r_a0_tape, .int x_a0_fed, .ref r_a0_out, .int x_a0_size, .int x_a0_thrown, .int x_a0_place, .ref r_a0_told, .int x_a0_tells, .ref r_a0_order, .ref r_a0_merged, .ref r_a0_last, .ref r_a0_up, .ref r_a0_symbols, .int x_a0_many, .ref r_a0_list, .int x_a0_listed, .ref r_a0_tables, .int x_a0_groups, .int x_a0_tableCount, .ref r_a0_lengths, .ref r_a0_codes, .ref r_a0_weights, .ref r_a0_parents, .ref r_a0_counts, .int x_a0_origin, .int x_a0_check, .int x_a0_blocks, .int x_a0_fresh, .int x_a0_allTells, .int x_a0_allSymbols, .int x_a0_allGroups, .int x_a0_bit, .int (((x_a0_checkOfAll <<< ((1 : Int32) &&& 31)) ||| (ush x_a0_checkOfAll (31 : Int32))) ^^^ p1), .int x_a0_fault, .int x_a0_total, .ref r_a0_rows, .ref r_a0_from, .int x_a0_rowCount, .ref r_a0_chosen, .int x_a0_chosenCount, .ref r_a0_seen, .ref r_a0_prefix, .int x_a0_seenTables, .int x_a0_seenBytes, .int x_a0_limit, .int x_a0_count]))] rfl d_Model_join_17 ?_
  exact g_re [0] [] rfl rfl rfl (kr () (((x_a0_checkOfAll <<< ((1 : Int32) &&& 31)) ||| (ush x_a0_checkOfAll (31 : Int32))) ^^^ p1) 20 [] (Option.some.inj hf) d_Model_join_20)
theorem c_Model_join (l : Launch) (D : va_G) (K : Nat → ClassId) (q_a0 : Nat) (r_a0_tape : Nat) (x_a0_fed : Int32) (r_a0_out : Nat) (x_a0_size : Int32) (x_a0_thrown : Int32) (x_a0_place : Int32) (r_a0_told : Nat) (x_a0_tells : Int32) (r_a0_order : Nat) (r_a0_merged : Nat) (r_a0_last : Nat) (r_a0_up : Nat) (r_a0_symbols : Nat) (x_a0_many : Int32) (r_a0_list : Nat) (x_a0_listed : Int32) (r_a0_tables : Nat) (x_a0_groups : Int32) (x_a0_tableCount : Int32) (r_a0_lengths : Nat) (r_a0_codes : Nat) (r_a0_weights : Nat) (r_a0_parents : Nat) (r_a0_counts : Nat) (x_a0_origin : Int32) (x_a0_check : Int32) (x_a0_blocks : Int32) (x_a0_fresh : Int32) (x_a0_allTells : Int32) (x_a0_allSymbols : Int32) (x_a0_allGroups : Int32) (x_a0_bit : Int32) (x_a0_checkOfAll : Int32) (x_a0_fault : Int32) (x_a0_total : Int32) (r_a0_rows : Nat) (r_a0_from : Nat) (x_a0_rowCount : Int32) (r_a0_chosen : Nat) (x_a0_chosenCount : Int32) (r_a0_seen : Nat) (r_a0_prefix : Nat) (x_a0_seenTables : Int32) (x_a0_seenBytes : Int32) (x_a0_limit : Int32) (x_a0_count : Int32) (p1 : Int32) (out : Int32) (hf : Model_join_f x_a0_checkOfAll p1 = some out) : Cv l D K y_Model_join (g_wd y_Model_join b_Model_join 2 none) { frames := 0, cells := 0, slots := 0, locals := 0 } [.ref q_a0, .int p1] [(q_a0, .inr (12, [.ref r_a0_tape, .int x_a0_fed, .ref r_a0_out, .int x_a0_size, .int x_a0_thrown, .int x_a0_place, .ref r_a0_told, .int x_a0_tells, .ref r_a0_order, .ref r_a0_merged, .ref r_a0_last, .ref r_a0_up, .ref r_a0_symbols, .int x_a0_many, .ref r_a0_list, .int x_a0_listed, .ref r_a0_tables, .int x_a0_groups, .int x_a0_tableCount, .ref r_a0_lengths, .ref r_a0_codes, .ref r_a0_weights, .ref r_a0_parents, .ref r_a0_counts, .int x_a0_origin, .int x_a0_check, .int x_a0_blocks, .int x_a0_fresh, .int x_a0_allTells, .int x_a0_allSymbols, .int x_a0_allGroups, .int x_a0_bit, .int x_a0_checkOfAll, .int x_a0_fault, .int x_a0_total, .ref r_a0_rows, .ref r_a0_from, .int x_a0_rowCount, .ref r_a0_chosen, .int x_a0_chosenCount, .ref r_a0_seen, .ref r_a0_prefix, .int x_a0_seenTables, .int x_a0_seenBytes, .int x_a0_limit, .int x_a0_count]))] (fun (x : Unit) => [(q_a0, .inr (12, [.ref r_a0_tape, .int x_a0_fed, .ref r_a0_out, .int x_a0_size, .int x_a0_thrown, .int x_a0_place, .ref r_a0_told, .int x_a0_tells, .ref r_a0_order, .ref r_a0_merged, .ref r_a0_last, .ref r_a0_up, .ref r_a0_symbols, .int x_a0_many, .ref r_a0_list, .int x_a0_listed, .ref r_a0_tables, .int x_a0_groups, .int x_a0_tableCount, .ref r_a0_lengths, .ref r_a0_codes, .ref r_a0_weights, .ref r_a0_parents, .ref r_a0_counts, .int x_a0_origin, .int x_a0_check, .int x_a0_blocks, .int x_a0_fresh, .int x_a0_allTells, .int x_a0_allSymbols, .int x_a0_allGroups, .int x_a0_bit, .int out, .int x_a0_fault, .int x_a0_total, .ref r_a0_rows, .ref r_a0_from, .int x_a0_rowCount, .ref r_a0_chosen, .int x_a0_chosenCount, .ref r_a0_seen, .ref r_a0_prefix, .int x_a0_seenTables, .int x_a0_seenBytes, .int x_a0_limit, .int x_a0_count]))]) := mk_v (by decide) (Nat.le_of_ble_eq_true rfl) (fun p e s m below meth c A Q hC kr => m_Model_join hC q_a0 r_a0_tape x_a0_fed r_a0_out x_a0_size x_a0_thrown x_a0_place r_a0_told x_a0_tells r_a0_order r_a0_merged r_a0_last r_a0_up r_a0_symbols x_a0_many r_a0_list x_a0_listed r_a0_tables x_a0_groups x_a0_tableCount r_a0_lengths r_a0_codes r_a0_weights r_a0_parents r_a0_counts x_a0_origin x_a0_check x_a0_blocks x_a0_fresh x_a0_allTells x_a0_allSymbols x_a0_allGroups x_a0_bit x_a0_checkOfAll x_a0_fault x_a0_total r_a0_rows r_a0_from x_a0_rowCount r_a0_chosen x_a0_chosenCount r_a0_seen r_a0_prefix x_a0_seenTables x_a0_seenBytes x_a0_limit x_a0_count p1 out hf (fun x o9 pc lv ho => by subst ho; exact kr x pc lv))
abbrev b_Model_put : ByteArray := prog_14_method_10_code
def y_Model_put : MethodName := ⟨R_Model, "put", "(II)V"⟩
theorem d_Model_put_0 : decode b_Model_put 0 = .ok (.iload_n 2, 1) := by decide +kernel
theorem d_Model_put_1 : decode b_Model_put 1 = .ok (.iconst 1, 1) := by decide +kernel
theorem d_Model_put_2 : decode b_Model_put 2 = .ok (.isub, 1) := by decide +kernel
theorem d_Model_put_3 : decode b_Model_put 3 = .ok (.istore_n 3, 1) := by decide +kernel
theorem d_Model_put_4 : decode b_Model_put 4 = .ok (.iload_n 3, 1) := by decide +kernel
theorem d_Model_put_5 : decode b_Model_put 5 = .ok (.ifCond .lt 78, 3) := by decide +kernel
theorem d_Model_put_8 : decode b_Model_put 8 = .ok (.aload_n 0, 1) := by decide +kernel
theorem d_Model_put_9 : decode b_Model_put 9 = .ok (.getfield 93, 3) := by decide +kernel
theorem d_Model_put_12 : decode b_Model_put 12 = .ok (.bipush 8, 2) := by decide +kernel
theorem d_Model_put_14 : decode b_Model_put 14 = .ok (.idiv, 1) := by decide +kernel
theorem d_Model_put_15 : decode b_Model_put 15 = .ok (.istore 4, 2) := by decide +kernel
theorem d_Model_put_17 : decode b_Model_put 17 = .ok (.aload_n 0, 1) := by decide +kernel
theorem d_Model_put_18 : decode b_Model_put 18 = .ok (.getfield 93, 3) := by decide +kernel
theorem d_Model_put_21 : decode b_Model_put 21 = .ok (.bipush 8, 2) := by decide +kernel
theorem d_Model_put_23 : decode b_Model_put 23 = .ok (.irem, 1) := by decide +kernel
theorem d_Model_put_24 : decode b_Model_put 24 = .ok (.ifCond .ne 11, 3) := by decide +kernel
theorem d_Model_put_27 : decode b_Model_put 27 = .ok (.aload_n 0, 1) := by decide +kernel
theorem d_Model_put_28 : decode b_Model_put 28 = .ok (.getfield 14, 3) := by decide +kernel
theorem d_Model_put_31 : decode b_Model_put 31 = .ok (.iload 4, 2) := by decide +kernel
theorem d_Model_put_33 : decode b_Model_put 33 = .ok (.iconst 0, 1) := by decide +kernel
theorem d_Model_put_34 : decode b_Model_put 34 = .ok (.bastore, 1) := by decide +kernel
theorem d_Model_put_35 : decode b_Model_put 35 = .ok (.aload_n 0, 1) := by decide +kernel
theorem d_Model_put_36 : decode b_Model_put 36 = .ok (.getfield 14, 3) := by decide +kernel
theorem d_Model_put_39 : decode b_Model_put 39 = .ok (.iload 4, 2) := by decide +kernel
theorem d_Model_put_41 : decode b_Model_put 41 = .ok (.aload_n 0, 1) := by decide +kernel
theorem d_Model_put_42 : decode b_Model_put 42 = .ok (.getfield 14, 3) := by decide +kernel
theorem d_Model_put_45 : decode b_Model_put 45 = .ok (.iload 4, 2) := by decide +kernel
theorem d_Model_put_47 : decode b_Model_put 47 = .ok (.baload, 1) := by decide +kernel
theorem d_Model_put_48 : decode b_Model_put 48 = .ok (.iload_n 1, 1) := by decide +kernel
theorem d_Model_put_49 : decode b_Model_put 49 = .ok (.iload_n 3, 1) := by decide +kernel
theorem d_Model_put_50 : decode b_Model_put 50 = .ok (.ishr, 1) := by decide +kernel
theorem d_Model_put_51 : decode b_Model_put 51 = .ok (.iconst 1, 1) := by decide +kernel
theorem d_Model_put_52 : decode b_Model_put 52 = .ok (.iand, 1) := by decide +kernel
theorem d_Model_put_53 : decode b_Model_put 53 = .ok (.bipush 7, 2) := by decide +kernel
theorem d_Model_put_55 : decode b_Model_put 55 = .ok (.aload_n 0, 1) := by decide +kernel
theorem d_Model_put_56 : decode b_Model_put 56 = .ok (.getfield 93, 3) := by decide +kernel
theorem d_Model_put_59 : decode b_Model_put 59 = .ok (.bipush 8, 2) := by decide +kernel
theorem d_Model_put_61 : decode b_Model_put 61 = .ok (.irem, 1) := by decide +kernel
theorem d_Model_put_62 : decode b_Model_put 62 = .ok (.isub, 1) := by decide +kernel
theorem d_Model_put_63 : decode b_Model_put 63 = .ok (.ishl, 1) := by decide +kernel
theorem d_Model_put_64 : decode b_Model_put 64 = .ok (.ior, 1) := by decide +kernel
theorem d_Model_put_65 : decode b_Model_put 65 = .ok (.i2b, 1) := by decide +kernel
theorem d_Model_put_66 : decode b_Model_put 66 = .ok (.bastore, 1) := by decide +kernel
theorem d_Model_put_67 : decode b_Model_put 67 = .ok (.aload_n 0, 1) := by decide +kernel
theorem d_Model_put_68 : decode b_Model_put 68 = .ok (.dup, 1) := by decide +kernel
theorem d_Model_put_69 : decode b_Model_put 69 = .ok (.getfield 93, 3) := by decide +kernel
theorem d_Model_put_72 : decode b_Model_put 72 = .ok (.iconst 1, 1) := by decide +kernel
theorem d_Model_put_73 : decode b_Model_put 73 = .ok (.iadd, 1) := by decide +kernel
theorem d_Model_put_74 : decode b_Model_put 74 = .ok (.putfield 93, 3) := by decide +kernel
theorem d_Model_put_77 : decode b_Model_put 77 = .ok (.iinc 3 (-1), 3) := by decide +kernel
theorem d_Model_put_80 : decode b_Model_put 80 = .ok (.goto (-76), 3) := by decide +kernel
theorem d_Model_put_83 : decode b_Model_put 83 = .ok (.return_, 1) := by decide +kernel
theorem k1260 : (Jvm.Cond.fieldLink "RotationPressModel" (93 : Nat) "RotationPressModel" "bit" "I") ∈ g_tbl := List.mem_filter.mpr ⟨List.mem_append_right (k2_sels lw_privs) (List.mem_append_right _ (List.mem_append_right _ (List.mem_append_right _ (List.mem_append_right _ (List.mem_append_right _ (List.mem_append_left _ (List.mem_of_getElem? (l := tables_1_6) (i := 60) rfl))))))), rfl⟩
set_option maxRecDepth 100000 in
set_option maxHeartbeats 4000000 in
theorem m_Model_put {C : gT} (hC : gOk C b_Model_put R_Model { frames := 0, cells := 0, slots := 0, locals := 0 } 5) (q_a0 : Nat) (r_a0_tape : Nat) (x_a0_fed : Int32) (q_a0_out : Nat) (x_a0_size : Int32) (x_a0_thrown : Int32) (x_a0_place : Int32) (r_a0_told : Nat) (x_a0_tells : Int32) (r_a0_order : Nat) (r_a0_merged : Nat) (r_a0_last : Nat) (r_a0_up : Nat) (r_a0_symbols : Nat) (x_a0_many : Int32) (r_a0_list : Nat) (x_a0_listed : Int32) (r_a0_tables : Nat) (x_a0_groups : Int32) (x_a0_tableCount : Int32) (r_a0_lengths : Nat) (r_a0_codes : Nat) (r_a0_weights : Nat) (r_a0_parents : Nat) (r_a0_counts : Nat) (x_a0_origin : Int32) (x_a0_check : Int32) (x_a0_blocks : Int32) (x_a0_fresh : Int32) (x_a0_allTells : Int32) (x_a0_allSymbols : Int32) (x_a0_allGroups : Int32) (x_a0_bit : Int32) (x_a0_checkOfAll : Int32) (x_a0_fault : Int32) (x_a0_total : Int32) (r_a0_rows : Nat) (r_a0_from : Nat) (x_a0_rowCount : Int32) (r_a0_chosen : Nat) (x_a0_chosenCount : Int32) (r_a0_seen : Nat) (r_a0_prefix : Nat) (x_a0_seenTables : Int32) (x_a0_seenBytes : Int32) (x_a0_limit : Int32) (x_a0_count : Int32) (f_a0_out : (Nat → Int32)) (p1 : Int32) (p2 : Int32) (out : ((Nat → Int32) × Int32)) (hf : Model_put_f p1 p2 f_a0_out x_a0_bit = some out) (kr : ∀ (x : Unit) (o9 : ((Nat → Int32) × Int32)) (pc : Nat) (lv : List (Nat × Value)), o9 = out → decode b_Model_put pc = .ok (.return_, 1) → gAt C 0 0 [(q_a0, .inr (12, [.ref r_a0_tape, .int x_a0_fed, .ref q_a0_out, .int x_a0_size, .int x_a0_thrown, .int x_a0_place, .ref r_a0_told, .int x_a0_tells, .ref r_a0_order, .ref r_a0_merged, .ref r_a0_last, .ref r_a0_up, .ref r_a0_symbols, .int x_a0_many, .ref r_a0_list, .int x_a0_listed, .ref r_a0_tables, .int x_a0_groups, .int x_a0_tableCount, .ref r_a0_lengths, .ref r_a0_codes, .ref r_a0_weights, .ref r_a0_parents, .ref r_a0_counts, .int x_a0_origin, .int x_a0_check, .int x_a0_blocks, .int x_a0_fresh, .int x_a0_allTells, .int x_a0_allSymbols, .int x_a0_allGroups, .int o9.2, .int x_a0_checkOfAll, .int x_a0_fault, .int x_a0_total, .ref r_a0_rows, .ref r_a0_from, .int x_a0_rowCount, .ref r_a0_chosen, .int x_a0_chosenCount, .ref r_a0_seen, .ref r_a0_prefix, .int x_a0_seenTables, .int x_a0_seenBytes, .int x_a0_limit, .int x_a0_count])), (q_a0_out, .inl (g_K C 1, 262144, .inl o9.1))] lv pc []) : gAt C 0 0 [(q_a0, .inr (12, [.ref r_a0_tape, .int x_a0_fed, .ref q_a0_out, .int x_a0_size, .int x_a0_thrown, .int x_a0_place, .ref r_a0_told, .int x_a0_tells, .ref r_a0_order, .ref r_a0_merged, .ref r_a0_last, .ref r_a0_up, .ref r_a0_symbols, .int x_a0_many, .ref r_a0_list, .int x_a0_listed, .ref r_a0_tables, .int x_a0_groups, .int x_a0_tableCount, .ref r_a0_lengths, .ref r_a0_codes, .ref r_a0_weights, .ref r_a0_parents, .ref r_a0_counts, .int x_a0_origin, .int x_a0_check, .int x_a0_blocks, .int x_a0_fresh, .int x_a0_allTells, .int x_a0_allSymbols, .int x_a0_allGroups, .int x_a0_bit, .int x_a0_checkOfAll, .int x_a0_fault, .int x_a0_total, .ref r_a0_rows, .ref r_a0_from, .int x_a0_rowCount, .ref r_a0_chosen, .int x_a0_chosenCount, .ref r_a0_seen, .ref r_a0_prefix, .int x_a0_seenTables, .int x_a0_seenBytes, .int x_a0_limit, .int x_a0_count])), (q_a0_out, .inl (g_K C 1, 262144, .inl f_a0_out))] [(0, .ref q_a0), (1, .int p1), (2, .int p2)] 0 [] := by
  unfold Model_put_f at hf
  refine g_iload_n 0 hC (j := 2) (hj := rfl) (hd := d_Model_put_0) ?_
  refine g_iconst 1 hC (1 : Int32) (by decide) d_Model_put_1 ?_
  refine g_isub 2 hC d_Model_put_2 ?_
  refine g_istore_n 3 hC (lv2 := [(3, .int (p2 - (1 : Int32))), (0, .ref q_a0), (1, .int p1), (2, .int p2)]) (hn := (by decide)) (hl2 := rfl) (hd := d_Model_put_3) ?_
  obtain ⟨u2, hu2, hf⟩ := bd_some hf
  have Xu2_0 : ∀ (v3 : ((Nat → Int32) × Int32)), v3 = u2 → gAt C 0 0 [(q_a0, .inr (12, [.ref r_a0_tape, .int x_a0_fed, .ref q_a0_out, .int x_a0_size, .int x_a0_thrown, .int x_a0_place, .ref r_a0_told, .int x_a0_tells, .ref r_a0_order, .ref r_a0_merged, .ref r_a0_last, .ref r_a0_up, .ref r_a0_symbols, .int x_a0_many, .ref r_a0_list, .int x_a0_listed, .ref r_a0_tables, .int x_a0_groups, .int x_a0_tableCount, .ref r_a0_lengths, .ref r_a0_codes, .ref r_a0_weights, .ref r_a0_parents, .ref r_a0_counts, .int x_a0_origin, .int x_a0_check, .int x_a0_blocks, .int x_a0_fresh, .int x_a0_allTells, .int x_a0_allSymbols, .int x_a0_allGroups, .int v3.2, .int x_a0_checkOfAll, .int x_a0_fault, .int x_a0_total, .ref r_a0_rows, .ref r_a0_from, .int x_a0_rowCount, .ref r_a0_chosen, .int x_a0_chosenCount, .ref r_a0_seen, .ref r_a0_prefix, .int x_a0_seenTables, .int x_a0_seenBytes, .int x_a0_limit, .int x_a0_count])), (q_a0_out, .inl (g_K C 1, 262144, .inl v3.1))] [] 83 [] := by
    intro v3 hv
    rw [← hv] at hf
    exact kr () (v3.1, v3.2) 83 [] (Option.some.inj hf) d_Model_put_83
  have Gu2 := lp_ind (b := (Model_put_L4 p1)) (G := fun (s1 : (Int32 × (Nat → Int32) × Int32)) => gAt C 0 0 [(q_a0, .inr (12, [.ref r_a0_tape, .int x_a0_fed, .ref q_a0_out, .int x_a0_size, .int x_a0_thrown, .int x_a0_place, .ref r_a0_told, .int x_a0_tells, .ref r_a0_order, .ref r_a0_merged, .ref r_a0_last, .ref r_a0_up, .ref r_a0_symbols, .int x_a0_many, .ref r_a0_list, .int x_a0_listed, .ref r_a0_tables, .int x_a0_groups, .int x_a0_tableCount, .ref r_a0_lengths, .ref r_a0_codes, .ref r_a0_weights, .ref r_a0_parents, .ref r_a0_counts, .int x_a0_origin, .int x_a0_check, .int x_a0_blocks, .int x_a0_fresh, .int x_a0_allTells, .int x_a0_allSymbols, .int x_a0_allGroups, .int s1.2.2, .int x_a0_checkOfAll, .int x_a0_fault, .int x_a0_total, .ref r_a0_rows, .ref r_a0_from, .int x_a0_rowCount, .ref r_a0_chosen, .int x_a0_chosenCount, .ref r_a0_seen, .ref r_a0_prefix, .int x_a0_seenTables, .int x_a0_seenBytes, .int x_a0_limit, .int x_a0_count])), (q_a0_out, .inl (g_K C 1, 262144, .inl s1.2.1))] [(0, .ref q_a0), (1, .int p1), (3, .int s1.1)] 4 []) (o := u2) (by
      intro s1 u4 hf hI hX
      unfold Model_put_L4 at hf
      have J35 : ∀ (j35_0 : Int32) (j35_1 : (Nat → Int32)), Model_put_J35 s1 p1 j35_0 j35_1 = some u4 → gAt C 0 0 [(q_a0, .inr (12, [.ref r_a0_tape, .int x_a0_fed, .ref q_a0_out, .int x_a0_size, .int x_a0_thrown, .int x_a0_place, .ref r_a0_told, .int x_a0_tells, .ref r_a0_order, .ref r_a0_merged, .ref r_a0_last, .ref r_a0_up, .ref r_a0_symbols, .int x_a0_many, .ref r_a0_list, .int x_a0_listed, .ref r_a0_tables, .int x_a0_groups, .int x_a0_tableCount, .ref r_a0_lengths, .ref r_a0_codes, .ref r_a0_weights, .ref r_a0_parents, .ref r_a0_counts, .int x_a0_origin, .int x_a0_check, .int x_a0_blocks, .int x_a0_fresh, .int x_a0_allTells, .int x_a0_allSymbols, .int x_a0_allGroups, .int s1.2.2, .int x_a0_checkOfAll, .int x_a0_fault, .int x_a0_total, .ref r_a0_rows, .ref r_a0_from, .int x_a0_rowCount, .ref r_a0_chosen, .int x_a0_chosenCount, .ref r_a0_seen, .ref r_a0_prefix, .int x_a0_seenTables, .int x_a0_seenBytes, .int x_a0_limit, .int x_a0_count])), (q_a0_out, .inl (g_K C 1, 262144, .inl j35_1))] [(0, .ref q_a0), (1, .int p1), (3, .int s1.1), (4, .int j35_0)] 35 [] := by
        intro j35_0 j35_1 hf
        unfold Model_put_J35 at hf
        refine g_aload_n 35 hC (j := 0) (hj := rfl) (hd := d_Model_put_35) ?_
        refine g_get 36 hC i_Model rfl 0 rfl 2 (by decide) k1231 rfl d_Model_put_36 ?_
        refine g_iload 39 hC (j := 3) (hj := rfl) (hd := d_Model_put_39) ?_
        refine g_aload_n 41 hC (j := 0) (hj := rfl) (hd := d_Model_put_41) ?_
        refine g_get 42 hC i_Model rfl 0 rfl 2 (by decide) k1231 rfl d_Model_put_42 ?_
        refine g_iload 45 hC (j := 3) (hj := rfl) (hd := d_Model_put_45) ?_
        obtain ⟨e5, hf⟩ := gd_some hf
        refine g_bald 47 hC 1 rfl e5 d_Model_put_47 ?_
        refine g_iload_n 48 hC (j := 1) (hj := rfl) (hd := d_Model_put_48) ?_
        refine g_iload_n 49 hC (j := 2) (hj := rfl) (hd := d_Model_put_49) ?_
        refine g_ishr 50 hC d_Model_put_50 ?_
        refine g_iconst 51 hC (1 : Int32) (by decide) d_Model_put_51 ?_
        refine g_iand 52 hC d_Model_put_52 ?_
        refine g_bipush 53 hC (7 : Int32) (by decide) d_Model_put_53 ?_
        refine g_aload_n 55 hC (j := 0) (hj := rfl) (hd := d_Model_put_55) ?_
        refine g_get 56 hC i_Model rfl 0 rfl 31 (by decide) k1260 rfl d_Model_put_56 ?_
        refine g_bipush 59 hC (8 : Int32) (by decide) d_Model_put_59 ?_
        refine g_irem 61 hC (hne := (by decide)) (hd := d_Model_put_61) ?_
        refine g_isub 62 hC d_Model_put_62 ?_
        refine g_ishl 63 hC d_Model_put_63 ?_
        refine g_ior 64 hC d_Model_put_64 ?_
        refine g_i2b 65 hC d_Model_put_65 ?_
        obtain ⟨e6, hf⟩ := gd_some hf
        refine g_bast 66 hC 1 rfl e6 [(q_a0, .inr (12, [.ref r_a0_tape, .int x_a0_fed, .ref q_a0_out, .int x_a0_size, .int x_a0_thrown, .int x_a0_place, .ref r_a0_told, .int x_a0_tells, .ref r_a0_order, .ref r_a0_merged, .ref r_a0_last, .ref r_a0_up, .ref r_a0_symbols, .int x_a0_many, .ref r_a0_list, .int x_a0_listed, .ref r_a0_tables, .int x_a0_groups, .int x_a0_tableCount, .ref r_a0_lengths, .ref r_a0_codes, .ref r_a0_weights, .ref r_a0_parents, .ref r_a0_counts, .int x_a0_origin, .int x_a0_check, .int x_a0_blocks, .int x_a0_fresh, .int x_a0_allTells, .int x_a0_allSymbols, .int x_a0_allGroups, .int s1.2.2, .int x_a0_checkOfAll, .int x_a0_fault, .int x_a0_total, .ref r_a0_rows, .ref r_a0_from, .int x_a0_rowCount, .ref r_a0_chosen, .int x_a0_chosenCount, .ref r_a0_seen, .ref r_a0_prefix, .int x_a0_seenTables, .int x_a0_seenBytes, .int x_a0_limit, .int x_a0_count])), (q_a0_out, .inl (g_K C 1, 262144, .inl (upd j35_1 j35_0.toNatClampNeg (vp_nar .byte (vp_nar .byte ((j35_1 j35_0.toNatClampNeg) ||| (((p1 >>> (s1.1 &&& 31)) &&& (1 : Int32)) <<< (((7 : Int32) - (s1.2.2 - s1.2.2 / (8 : Int32) * (8 : Int32))) &&& 31))))))))] rfl d_Model_put_66 ?_
        refine g_aload_n 67 hC (j := 0) (hj := rfl) (hd := d_Model_put_67) ?_
        refine g_dup 68 hC rfl d_Model_put_68 ?_
        refine g_get 69 hC i_Model rfl 0 rfl 31 (by decide) k1260 rfl d_Model_put_69 ?_
        refine g_iconst 72 hC (1 : Int32) (by decide) d_Model_put_72 ?_
        refine g_iadd 73 hC d_Model_put_73 ?_
        refine g_put 74 hC i_Model rfl 0 rfl 31 (by decide) t_Model tk_Model n_Model k1260 rfl rfl rfl (Nat.le_of_ble_eq_true rfl) [(q_a0, .inr (12, [.ref r_a0_tape, .int x_a0_fed, .ref q_a0_out, .int x_a0_size, .int x_a0_thrown, .int x_a0_place, .ref r_a0_told, .int x_a0_tells, .ref r_a0_order, .ref r_a0_merged, .ref r_a0_last, .ref r_a0_up, .ref r_a0_symbols, .int x_a0_many, .ref r_a0_list, .int x_a0_listed, .ref r_a0_tables, .int x_a0_groups, .int x_a0_tableCount, .ref r_a0_lengths, .ref r_a0_codes, .ref r_a0_weights, .ref r_a0_parents, .ref r_a0_counts, .int x_a0_origin, .int x_a0_check, .int x_a0_blocks, .int x_a0_fresh, .int x_a0_allTells, .int x_a0_allSymbols, .int x_a0_allGroups, .int (s1.2.2 + (1 : Int32)), .int x_a0_checkOfAll, .int x_a0_fault, .int x_a0_total, .ref r_a0_rows, .ref r_a0_from, .int x_a0_rowCount, .ref r_a0_chosen, .int x_a0_chosenCount, .ref r_a0_seen, .ref r_a0_prefix, .int x_a0_seenTables, .int x_a0_seenBytes, .int x_a0_limit, .int x_a0_count])), (q_a0_out, .inl (g_K C 1, 262144, .inl (upd j35_1 j35_0.toNatClampNeg (vp_nar .byte (vp_nar .byte ((j35_1 j35_0.toNatClampNeg) ||| (((p1 >>> (s1.1 &&& 31)) &&& (1 : Int32)) <<< (((7 : Int32) - (s1.2.2 - s1.2.2 / (8 : Int32) * (8 : Int32))) &&& 31))))))))] rfl d_Model_put_74 ?_
        refine g_iinc 77 hC 2 (-1 : Int32) [(3, .int (s1.1 + (-1 : Int32))), (0, .ref q_a0), (1, .int p1), (4, .int j35_0)] rfl (by decide) (by decide) rfl d_Model_put_77 ?_
        refine g_goto 80 hC 4 (by decide) d_Model_put_80 ?_
        exact g_re [0, 1] [1, 2, 0] rfl rfl rfl (hI ((s1.1 + (-1 : Int32)), (upd j35_1 j35_0.toNatClampNeg (vp_nar .byte (vp_nar .byte ((j35_1 j35_0.toNatClampNeg) ||| (((p1 >>> (s1.1 &&& 31)) &&& (1 : Int32)) <<< (((7 : Int32) - (s1.2.2 - s1.2.2 / (8 : Int32) * (8 : Int32))) &&& 31)))))), (s1.2.2 + (1 : Int32))) hf)
      refine g_iload_n 4 hC (j := 2) (hj := rfl) (hd := d_Model_put_4) ?_
      refine g_if_lt 5 hC 83 (by decide) d_Model_put_5 (fun c7 => ?_) (fun c7 => ?_)
      · have hf := it_t c7 hf
        exact g_re [0, 1] [] rfl rfl rfl (Xu2_0 (s1.2.1, s1.2.2) (hX (s1.2.1, s1.2.2) hf))
      · have hf := it_f c7 hf
        refine g_aload_n 8 hC (j := 0) (hj := rfl) (hd := d_Model_put_8) ?_
        refine g_get 9 hC i_Model rfl 0 rfl 31 (by decide) k1260 rfl d_Model_put_9 ?_
        refine g_bipush 12 hC (8 : Int32) (by decide) d_Model_put_12 ?_
        refine g_idiv 14 hC (hne := (by decide)) (hd := d_Model_put_14) ?_
        refine g_istore 15 hC (lv2 := [(4, .int (s1.2.2 / (8 : Int32))), (0, .ref q_a0), (1, .int p1), (3, .int s1.1)]) (hn := (by decide)) (hl2 := rfl) (hd := d_Model_put_15) ?_
        refine g_aload_n 17 hC (j := 1) (hj := rfl) (hd := d_Model_put_17) ?_
        refine g_get 18 hC i_Model rfl 0 rfl 31 (by decide) k1260 rfl d_Model_put_18 ?_
        refine g_bipush 21 hC (8 : Int32) (by decide) d_Model_put_21 ?_
        refine g_irem 23 hC (hne := (by decide)) (hd := d_Model_put_23) ?_
        refine g_if_ne 24 hC 35 (by decide) d_Model_put_24 (fun c8 => ?_) (fun c8 => ?_)
        · have hf := it_f c8 hf
          exact g_re [0, 1] [1, 2, 3, 0] rfl rfl rfl (J35 (s1.2.2 / (8 : Int32)) s1.2.1 hf)
        · have hf := it_t c8 hf
          refine g_aload_n 27 hC (j := 1) (hj := rfl) (hd := d_Model_put_27) ?_
          refine g_get 28 hC i_Model rfl 0 rfl 2 (by decide) k1231 rfl d_Model_put_28 ?_
          refine g_iload 31 hC (j := 0) (hj := rfl) (hd := d_Model_put_31) ?_
          refine g_iconst 33 hC (0 : Int32) (by decide) d_Model_put_33 ?_
          obtain ⟨e9, hf⟩ := gd_some hf
          refine g_bast 34 hC 1 rfl e9 [(q_a0, .inr (12, [.ref r_a0_tape, .int x_a0_fed, .ref q_a0_out, .int x_a0_size, .int x_a0_thrown, .int x_a0_place, .ref r_a0_told, .int x_a0_tells, .ref r_a0_order, .ref r_a0_merged, .ref r_a0_last, .ref r_a0_up, .ref r_a0_symbols, .int x_a0_many, .ref r_a0_list, .int x_a0_listed, .ref r_a0_tables, .int x_a0_groups, .int x_a0_tableCount, .ref r_a0_lengths, .ref r_a0_codes, .ref r_a0_weights, .ref r_a0_parents, .ref r_a0_counts, .int x_a0_origin, .int x_a0_check, .int x_a0_blocks, .int x_a0_fresh, .int x_a0_allTells, .int x_a0_allSymbols, .int x_a0_allGroups, .int s1.2.2, .int x_a0_checkOfAll, .int x_a0_fault, .int x_a0_total, .ref r_a0_rows, .ref r_a0_from, .int x_a0_rowCount, .ref r_a0_chosen, .int x_a0_chosenCount, .ref r_a0_seen, .ref r_a0_prefix, .int x_a0_seenTables, .int x_a0_seenBytes, .int x_a0_limit, .int x_a0_count])), (q_a0_out, .inl (g_K C 1, 262144, .inl (upd s1.2.1 (s1.2.2 / (8 : Int32)).toNatClampNeg (vp_nar .byte (0 : Int32)))))] rfl d_Model_put_34 ?_
          exact g_re [0, 1] [1, 2, 3, 0] rfl rfl rfl (J35 (s1.2.2 / (8 : Int32)) (upd s1.2.1 (s1.2.2 / (8 : Int32)).toNatClampNeg (vp_nar .byte (0 : Int32))) hf)) gas
  exact g_re [0, 1] [1, 2, 0] rfl rfl rfl (Gu2 ((p2 - (1 : Int32)), f_a0_out, x_a0_bit) hu2)
theorem c_Model_put (l : Launch) (D : va_G) (K : Nat → ClassId) (q_a0 : Nat) (r_a0_tape : Nat) (x_a0_fed : Int32) (q_a0_out : Nat) (x_a0_size : Int32) (x_a0_thrown : Int32) (x_a0_place : Int32) (r_a0_told : Nat) (x_a0_tells : Int32) (r_a0_order : Nat) (r_a0_merged : Nat) (r_a0_last : Nat) (r_a0_up : Nat) (r_a0_symbols : Nat) (x_a0_many : Int32) (r_a0_list : Nat) (x_a0_listed : Int32) (r_a0_tables : Nat) (x_a0_groups : Int32) (x_a0_tableCount : Int32) (r_a0_lengths : Nat) (r_a0_codes : Nat) (r_a0_weights : Nat) (r_a0_parents : Nat) (r_a0_counts : Nat) (x_a0_origin : Int32) (x_a0_check : Int32) (x_a0_blocks : Int32) (x_a0_fresh : Int32) (x_a0_allTells : Int32) (x_a0_allSymbols : Int32) (x_a0_allGroups : Int32) (x_a0_bit : Int32) (x_a0_checkOfAll : Int32) (x_a0_fault : Int32) (x_a0_total : Int32) (r_a0_rows : Nat) (r_a0_from : Nat) (x_a0_rowCount : Int32) (r_a0_chosen : Nat) (x_a0_chosenCount : Int32) (r_a0_seen : Nat) (r_a0_prefix : Nat) (x_a0_seenTables : Int32) (x_a0_seenBytes : Int32) (x_a0_limit : Int32) (x_a0_count : Int32) (f_a0_out : (Nat → Int32)) (p1 : Int32) (p2 : Int32) (out : ((Nat → Int32) × Int32)) (hf : Model_put_f p1 p2 f_a0_out x_a0_bit = some out) : Cv l D K y_Model_put (g_wd y_Model_put b_Model_put 5 none) { frames := 0, cells := 0, slots := 0, locals := 0 } [.ref q_a0, .int p1, .int p2] [(q_a0, .inr (12, [.ref r_a0_tape, .int x_a0_fed, .ref q_a0_out, .int x_a0_size, .int x_a0_thrown, .int x_a0_place, .ref r_a0_told, .int x_a0_tells, .ref r_a0_order, .ref r_a0_merged, .ref r_a0_last, .ref r_a0_up, .ref r_a0_symbols, .int x_a0_many, .ref r_a0_list, .int x_a0_listed, .ref r_a0_tables, .int x_a0_groups, .int x_a0_tableCount, .ref r_a0_lengths, .ref r_a0_codes, .ref r_a0_weights, .ref r_a0_parents, .ref r_a0_counts, .int x_a0_origin, .int x_a0_check, .int x_a0_blocks, .int x_a0_fresh, .int x_a0_allTells, .int x_a0_allSymbols, .int x_a0_allGroups, .int x_a0_bit, .int x_a0_checkOfAll, .int x_a0_fault, .int x_a0_total, .ref r_a0_rows, .ref r_a0_from, .int x_a0_rowCount, .ref r_a0_chosen, .int x_a0_chosenCount, .ref r_a0_seen, .ref r_a0_prefix, .int x_a0_seenTables, .int x_a0_seenBytes, .int x_a0_limit, .int x_a0_count])), (q_a0_out, .inl (K 1, 262144, .inl f_a0_out))] (fun (x : Unit) => [(q_a0, .inr (12, [.ref r_a0_tape, .int x_a0_fed, .ref q_a0_out, .int x_a0_size, .int x_a0_thrown, .int x_a0_place, .ref r_a0_told, .int x_a0_tells, .ref r_a0_order, .ref r_a0_merged, .ref r_a0_last, .ref r_a0_up, .ref r_a0_symbols, .int x_a0_many, .ref r_a0_list, .int x_a0_listed, .ref r_a0_tables, .int x_a0_groups, .int x_a0_tableCount, .ref r_a0_lengths, .ref r_a0_codes, .ref r_a0_weights, .ref r_a0_parents, .ref r_a0_counts, .int x_a0_origin, .int x_a0_check, .int x_a0_blocks, .int x_a0_fresh, .int x_a0_allTells, .int x_a0_allSymbols, .int x_a0_allGroups, .int out.2, .int x_a0_checkOfAll, .int x_a0_fault, .int x_a0_total, .ref r_a0_rows, .ref r_a0_from, .int x_a0_rowCount, .ref r_a0_chosen, .int x_a0_chosenCount, .ref r_a0_seen, .ref r_a0_prefix, .int x_a0_seenTables, .int x_a0_seenBytes, .int x_a0_limit, .int x_a0_count])), (q_a0_out, .inl (K 1, 262144, .inl out.1))]) := mk_v (by decide) (Nat.le_of_ble_eq_true rfl) (fun p e s m below meth c A Q hC kr => m_Model_put hC q_a0 r_a0_tape x_a0_fed q_a0_out x_a0_size x_a0_thrown x_a0_place r_a0_told x_a0_tells r_a0_order r_a0_merged r_a0_last r_a0_up r_a0_symbols x_a0_many r_a0_list x_a0_listed r_a0_tables x_a0_groups x_a0_tableCount r_a0_lengths r_a0_codes r_a0_weights r_a0_parents r_a0_counts x_a0_origin x_a0_check x_a0_blocks x_a0_fresh x_a0_allTells x_a0_allSymbols x_a0_allGroups x_a0_bit x_a0_checkOfAll x_a0_fault x_a0_total r_a0_rows r_a0_from x_a0_rowCount r_a0_chosen x_a0_chosenCount r_a0_seen r_a0_prefix x_a0_seenTables x_a0_seenBytes x_a0_limit x_a0_count f_a0_out p1 p2 out hf (fun x o9 pc lv ho => by subst ho; exact kr x pc lv))
