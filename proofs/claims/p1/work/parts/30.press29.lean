abbrev b_Unpacker_endLast : ByteArray := prog_12_method_17_code
def y_Unpacker_endLast : MethodName := ⟨R_Unpacker, "endLast", "(I)Z"⟩
theorem d_Unpacker_endLast_0 : decode b_Unpacker_endLast 0 = .ok (.iload_n 1, 1) := by decide +kernel
theorem d_Unpacker_endLast_1 : decode b_Unpacker_endLast 1 = .ok (.aload_n 0, 1) := by decide +kernel
theorem d_Unpacker_endLast_2 : decode b_Unpacker_endLast 2 = .ok (.getfield 155, 3) := by decide +kernel
theorem d_Unpacker_endLast_5 : decode b_Unpacker_endLast 5 = .ok (.iconst 1, 1) := by decide +kernel
theorem d_Unpacker_endLast_6 : decode b_Unpacker_endLast 6 = .ok (.isub, 1) := by decide +kernel
theorem d_Unpacker_endLast_7 : decode b_Unpacker_endLast 7 = .ok (.if_icmp .eq 17, 3) := by decide +kernel
theorem d_Unpacker_endLast_10 : decode b_Unpacker_endLast 10 = .ok (.aload_n 0, 1) := by decide +kernel
theorem d_Unpacker_endLast_11 : decode b_Unpacker_endLast 11 = .ok (.getfield 20, 3) := by decide +kernel
theorem d_Unpacker_endLast_14 : decode b_Unpacker_endLast 14 = .ok (.bipush 10, 2) := by decide +kernel
theorem d_Unpacker_endLast_16 : decode b_Unpacker_endLast 16 = .ok (.aload_n 0, 1) := by decide +kernel
theorem d_Unpacker_endLast_17 : decode b_Unpacker_endLast 17 = .ok (.getfield 83, 3) := by decide +kernel
theorem d_Unpacker_endLast_20 : decode b_Unpacker_endLast 20 = .ok (.invokevirtual 96, 3) := by decide +kernel
theorem d_Unpacker_endLast_23 : decode b_Unpacker_endLast 23 = .ok (.ireturn, 1) := by decide +kernel
theorem d_Unpacker_endLast_24 : decode b_Unpacker_endLast 24 = .ok (.aload_n 0, 1) := by decide +kernel
theorem d_Unpacker_endLast_25 : decode b_Unpacker_endLast 25 = .ok (.getfield 122, 3) := by decide +kernel
theorem d_Unpacker_endLast_28 : decode b_Unpacker_endLast 28 = .ok (.aload_n 0, 1) := by decide +kernel
theorem d_Unpacker_endLast_29 : decode b_Unpacker_endLast 29 = .ok (.getfield 188, 3) := by decide +kernel
theorem d_Unpacker_endLast_32 : decode b_Unpacker_endLast 32 = .ok (.if_icmp .lt 19, 3) := by decide +kernel
theorem d_Unpacker_endLast_35 : decode b_Unpacker_endLast 35 = .ok (.aload_n 0, 1) := by decide +kernel
theorem d_Unpacker_endLast_36 : decode b_Unpacker_endLast 36 = .ok (.getfield 20, 3) := by decide +kernel
theorem d_Unpacker_endLast_39 : decode b_Unpacker_endLast 39 = .ok (.bipush 9, 2) := by decide +kernel
theorem d_Unpacker_endLast_41 : decode b_Unpacker_endLast 41 = .ok (.aload_n 0, 1) := by decide +kernel
theorem d_Unpacker_endLast_42 : decode b_Unpacker_endLast 42 = .ok (.getfield 119, 3) := by decide +kernel
theorem d_Unpacker_endLast_45 : decode b_Unpacker_endLast 45 = .ok (.invokevirtual 96, 3) := by decide +kernel
theorem d_Unpacker_endLast_48 : decode b_Unpacker_endLast 48 = .ok (.ifCond .eq 7, 3) := by decide +kernel
theorem d_Unpacker_endLast_51 : decode b_Unpacker_endLast 51 = .ok (.iconst 1, 1) := by decide +kernel
theorem d_Unpacker_endLast_52 : decode b_Unpacker_endLast 52 = .ok (.goto 4, 3) := by decide +kernel
theorem d_Unpacker_endLast_55 : decode b_Unpacker_endLast 55 = .ok (.iconst 0, 1) := by decide +kernel
theorem d_Unpacker_endLast_56 : decode b_Unpacker_endLast 56 = .ok (.ireturn, 1) := by decide +kernel
theorem k373 : (Jvm.Cond.fieldLink "RotationPress$Unpacker" (122 : Nat) "RotationPress$Unpacker" "origin" "I") ∈ g_tbl := List.mem_filter.mpr ⟨List.mem_append_right (k2_sels lw_privs) (List.mem_append_right _ (List.mem_append_left _ (List.mem_of_getElem? (l := tables_1_2) (i := 133) rfl))), rfl⟩
theorem k377 : (Jvm.Cond.fieldLink "RotationPress$Unpacker" (188 : Nat) "RotationPress$Unpacker" "lastCount" "I") ∈ g_tbl := List.mem_filter.mpr ⟨List.mem_append_right (k2_sels lw_privs) (List.mem_append_right _ (List.mem_append_left _ (List.mem_of_getElem? (l := tables_1_2) (i := 137) rfl))), rfl⟩
theorem k372 : (Jvm.Cond.fieldLink "RotationPress$Unpacker" (119 : Nat) "RotationPress$Unpacker" "originAt" "I") ∈ g_tbl := List.mem_filter.mpr ⟨List.mem_append_right (k2_sels lw_privs) (List.mem_append_right _ (List.mem_append_left _ (List.mem_of_getElem? (l := tables_1_2) (i := 132) rfl))), rfl⟩
theorem k371 : (Jvm.Cond.fieldLink "RotationPress$Unpacker" (83 : Nat) "RotationPress$Unpacker" "blockAt" "I") ∈ g_tbl := List.mem_filter.mpr ⟨List.mem_append_right (k2_sels lw_privs) (List.mem_append_right _ (List.mem_append_left _ (List.mem_of_getElem? (l := tables_1_2) (i := 131) rfl))), rfl⟩
set_option maxRecDepth 100000 in
set_option maxHeartbeats 4000000 in
theorem m_Unpacker_endLast {C : gT} (hC : gOk C b_Unpacker_endLast R_Unpacker { frames := 1, cells := 0, slots := 0, locals := 22 } 2) (q_a0 : Nat) (r_a0_row : Nat) (q_a0_reader : Nat) (r_a0_check : Nat) (r_a0_list : Nat) (r_a0_tableList : Nat) (r_a0_tables : Nat) (r_a0_groupTables : Nat) (r_a0_last : Nat) (r_a0_nexts : Nat) (r_a0_slots : Nat) (x_a0_limit : Int32) (x_a0_most : Int32) (x_a0_blockAt : Int32) (x_a0_originAt : Int32) (x_a0_origin : Int32) (x_a0_blockCheck : Int32) (x_a0_tableCount : Int32) (x_a0_groupCount : Int32) (x_a0_lastCount : Int32) (r_a0_reader_row : Nat) (x_a0_reader_end : Int32) (x_a0_reader_at : Int32) (x_a0_reader_taken : Int32) (x_a0_reader_fault : Int32) (x_a0_reader_faultAt : Int32) (p1 : Int32) (out : (Int32 × Int32 × Int32)) (hf : Unpacker_endLast_f p1 x_a0_groupCount x_a0_origin x_a0_lastCount x_a0_reader_fault x_a0_reader_faultAt x_a0_originAt x_a0_blockAt = some out) (kr : ∀ (x : Unit) (o9 : (Int32 × Int32 × Int32)) (pc : Nat) (lv : List (Nat × Value)), o9 = out → decode b_Unpacker_endLast pc = .ok (.ireturn, 1) → narrow .boolean (.int o9.1) = .int o9.1 → gAt C 0 0 [(q_a0, .inr (11, [.ref r_a0_row, .ref q_a0_reader, .ref r_a0_check, .ref r_a0_list, .ref r_a0_tableList, .ref r_a0_tables, .ref r_a0_groupTables, .ref r_a0_last, .ref r_a0_nexts, .ref r_a0_slots, .int x_a0_limit, .int x_a0_most, .int x_a0_blockAt, .int x_a0_originAt, .int x_a0_origin, .int x_a0_blockCheck, .int x_a0_tableCount, .int x_a0_groupCount, .int x_a0_lastCount])), (q_a0_reader, .inr (1, [.ref r_a0_reader_row, .int x_a0_reader_end, .int x_a0_reader_at, .int x_a0_reader_taken, .int o9.2.1, .int o9.2.2]))] lv pc [.int o9.1]) : gAt C 0 0 [(q_a0, .inr (11, [.ref r_a0_row, .ref q_a0_reader, .ref r_a0_check, .ref r_a0_list, .ref r_a0_tableList, .ref r_a0_tables, .ref r_a0_groupTables, .ref r_a0_last, .ref r_a0_nexts, .ref r_a0_slots, .int x_a0_limit, .int x_a0_most, .int x_a0_blockAt, .int x_a0_originAt, .int x_a0_origin, .int x_a0_blockCheck, .int x_a0_tableCount, .int x_a0_groupCount, .int x_a0_lastCount])), (q_a0_reader, .inr (1, [.ref r_a0_reader_row, .int x_a0_reader_end, .int x_a0_reader_at, .int x_a0_reader_taken, .int x_a0_reader_fault, .int x_a0_reader_faultAt]))] [(0, .ref q_a0), (1, .int p1)] 0 [] := by
  unfold Unpacker_endLast_f at hf
  have J56 : ∀ (j56_0 : Int32) (j56_1 : Int32) (j56_2 : Int32), Unpacker_endLast_J56 j56_0 j56_1 j56_2 = some out → gAt C 0 0 [(q_a0, .inr (11, [.ref r_a0_row, .ref q_a0_reader, .ref r_a0_check, .ref r_a0_list, .ref r_a0_tableList, .ref r_a0_tables, .ref r_a0_groupTables, .ref r_a0_last, .ref r_a0_nexts, .ref r_a0_slots, .int x_a0_limit, .int x_a0_most, .int x_a0_blockAt, .int x_a0_originAt, .int x_a0_origin, .int x_a0_blockCheck, .int x_a0_tableCount, .int x_a0_groupCount, .int x_a0_lastCount])), (q_a0_reader, .inr (1, [.ref r_a0_reader_row, .int x_a0_reader_end, .int x_a0_reader_at, .int x_a0_reader_taken, .int j56_1, .int j56_2]))] [] 56 [.int j56_0] := by
    intro j56_0 j56_1 j56_2 hf
    unfold Unpacker_endLast_J56 at hf
    obtain ⟨e1, hf⟩ := gd_some hf
    exact kr () (j56_0, j56_1, j56_2) 56 [] (Option.some.inj hf) d_Unpacker_endLast_56 (bl_nar e1)
  have J51 : ∀ (j51_0 : Int32) (j51_1 : Int32), Unpacker_endLast_J51 j51_0 j51_1 = some out → gAt C 0 0 [(q_a0, .inr (11, [.ref r_a0_row, .ref q_a0_reader, .ref r_a0_check, .ref r_a0_list, .ref r_a0_tableList, .ref r_a0_tables, .ref r_a0_groupTables, .ref r_a0_last, .ref r_a0_nexts, .ref r_a0_slots, .int x_a0_limit, .int x_a0_most, .int x_a0_blockAt, .int x_a0_originAt, .int x_a0_origin, .int x_a0_blockCheck, .int x_a0_tableCount, .int x_a0_groupCount, .int x_a0_lastCount])), (q_a0_reader, .inr (1, [.ref r_a0_reader_row, .int x_a0_reader_end, .int x_a0_reader_at, .int x_a0_reader_taken, .int j51_0, .int j51_1]))] [] 51 [] := by
    intro j51_0 j51_1 hf
    unfold Unpacker_endLast_J51 at hf
    refine g_iconst 51 hC (1 : Int32) (by decide) d_Unpacker_endLast_51 ?_
    refine g_goto 52 hC 56 (by decide) d_Unpacker_endLast_52 ?_
    exact J56 (1 : Int32) j51_0 j51_1 hf
  refine g_iload_n 0 hC (j := 1) (hj := rfl) (hd := d_Unpacker_endLast_0) ?_
  refine g_aload_n 1 hC (j := 0) (hj := rfl) (hd := d_Unpacker_endLast_1) ?_
  refine g_get 2 hC i_Unpacker rfl 0 rfl 17 (by decide) k376 rfl d_Unpacker_endLast_2 ?_
  refine g_iconst 5 hC (1 : Int32) (by decide) d_Unpacker_endLast_5 ?_
  refine g_isub 6 hC d_Unpacker_endLast_6 ?_
  refine g_icmp_eq 7 hC 24 (by decide) d_Unpacker_endLast_7 (fun c2 => ?_) (fun c2 => ?_)
  · have hf := it_t c2 hf
    refine g_aload_n 24 hC (j := 0) (hj := rfl) (hd := d_Unpacker_endLast_24) ?_
    refine g_get 25 hC i_Unpacker rfl 0 rfl 14 (by decide) k373 rfl d_Unpacker_endLast_25 ?_
    refine g_aload_n 28 hC (j := 0) (hj := rfl) (hd := d_Unpacker_endLast_28) ?_
    refine g_get 29 hC i_Unpacker rfl 0 rfl 18 (by decide) k377 rfl d_Unpacker_endLast_29 ?_
    refine g_icmp_lt 32 hC 51 (by decide) d_Unpacker_endLast_32 (fun c3 => ?_) (fun c3 => ?_)
    · have hf := it_t c3 hf
      exact g_re [0, 1] [] rfl rfl rfl (J51 x_a0_reader_fault x_a0_reader_faultAt hf)
    · have hf := it_f c3 hf
      refine g_aload_n 35 hC (j := 0) (hj := rfl) (hd := d_Unpacker_endLast_35) ?_
      refine g_get 36 hC i_Unpacker rfl 0 rfl 1 (by decide) k359 rfl d_Unpacker_endLast_36 ?_
      refine g_bipush 39 hC (9 : Int32) (by decide) d_Unpacker_endLast_39 ?_
      refine g_aload_n 41 hC (j := 0) (hj := rfl) (hd := d_Unpacker_endLast_41) ?_
      refine g_get 42 hC i_Unpacker rfl 0 rfl 13 (by decide) k372 rfl d_Unpacker_endLast_42 ?_
      obtain ⟨u4, hu4, hf⟩ := bd_some hf
      refine g_callVi 45 hC (c_BitReader_fail (g_l C) (g_D C) (g_K C) q_a0_reader r_a0_reader_row x_a0_reader_end x_a0_reader_at x_a0_reader_taken x_a0_reader_fault x_a0_reader_faultAt (9 : Int32) x_a0_originAt u4 hu4) k1102 k13 k1104 k1100 k1101 2 rfl (by decide +kernel) (by decide) [1] [0] [(q_a0, .inr (11, [.ref r_a0_row, .ref q_a0_reader, .ref r_a0_check, .ref r_a0_list, .ref r_a0_tableList, .ref r_a0_tables, .ref r_a0_groupTables, .ref r_a0_last, .ref r_a0_nexts, .ref r_a0_slots, .int x_a0_limit, .int x_a0_most, .int x_a0_blockAt, .int x_a0_originAt, .int x_a0_origin, .int x_a0_blockCheck, .int x_a0_tableCount, .int x_a0_groupCount, .int x_a0_lastCount]))] rfl rfl rfl rfl rfl 0 1 rfl rfl rfl rfl (Nat.le_of_ble_eq_true rfl) ⟨Nat.le_of_ble_eq_true rfl, Nat.le_of_ble_eq_true rfl⟩ (fun (_ : Unit) => [(q_a0, .inr (11, [.ref r_a0_row, .ref q_a0_reader, .ref r_a0_check, .ref r_a0_list, .ref r_a0_tableList, .ref r_a0_tables, .ref r_a0_groupTables, .ref r_a0_last, .ref r_a0_nexts, .ref r_a0_slots, .int x_a0_limit, .int x_a0_most, .int x_a0_blockAt, .int x_a0_originAt, .int x_a0_origin, .int x_a0_blockCheck, .int x_a0_tableCount, .int x_a0_groupCount, .int x_a0_lastCount])), (q_a0_reader, .inr (1, [.ref r_a0_reader_row, .int x_a0_reader_end, .int x_a0_reader_at, .int x_a0_reader_taken, .int u4.2.1, .int u4.2.2]))]) (fun _ => rfl) d_Unpacker_endLast_45 0 0 rfl rfl (fun _ => ?_)
      refine g_if_eq 48 hC 55 (by decide) d_Unpacker_endLast_48 (fun c5 => ?_) (fun c5 => ?_)
      · have hf := it_t c5 hf
        refine g_iconst 55 hC (0 : Int32) (by decide) d_Unpacker_endLast_55 ?_
        exact g_re [0, 1] [] rfl rfl rfl (J56 (0 : Int32) u4.2.1 u4.2.2 hf)
      · have hf := it_f c5 hf
        exact g_re [0, 1] [] rfl rfl rfl (J51 u4.2.1 u4.2.2 hf)
  · have hf := it_f c2 hf
    refine g_aload_n 10 hC (j := 0) (hj := rfl) (hd := d_Unpacker_endLast_10) ?_
    refine g_get 11 hC i_Unpacker rfl 0 rfl 1 (by decide) k359 rfl d_Unpacker_endLast_11 ?_
    refine g_bipush 14 hC (10 : Int32) (by decide) d_Unpacker_endLast_14 ?_
    refine g_aload_n 16 hC (j := 0) (hj := rfl) (hd := d_Unpacker_endLast_16) ?_
    refine g_get 17 hC i_Unpacker rfl 0 rfl 12 (by decide) k371 rfl d_Unpacker_endLast_17 ?_
    obtain ⟨u6, hu6, hf⟩ := bd_some hf
    refine g_callVi 20 hC (c_BitReader_fail (g_l C) (g_D C) (g_K C) q_a0_reader r_a0_reader_row x_a0_reader_end x_a0_reader_at x_a0_reader_taken x_a0_reader_fault x_a0_reader_faultAt (10 : Int32) x_a0_blockAt u6 hu6) k1102 k13 k1104 k1100 k1101 2 rfl (by decide +kernel) (by decide) [1] [0] [(q_a0, .inr (11, [.ref r_a0_row, .ref q_a0_reader, .ref r_a0_check, .ref r_a0_list, .ref r_a0_tableList, .ref r_a0_tables, .ref r_a0_groupTables, .ref r_a0_last, .ref r_a0_nexts, .ref r_a0_slots, .int x_a0_limit, .int x_a0_most, .int x_a0_blockAt, .int x_a0_originAt, .int x_a0_origin, .int x_a0_blockCheck, .int x_a0_tableCount, .int x_a0_groupCount, .int x_a0_lastCount]))] rfl rfl rfl rfl rfl 0 1 rfl rfl rfl rfl (Nat.le_of_ble_eq_true rfl) ⟨Nat.le_of_ble_eq_true rfl, Nat.le_of_ble_eq_true rfl⟩ (fun (_ : Unit) => [(q_a0, .inr (11, [.ref r_a0_row, .ref q_a0_reader, .ref r_a0_check, .ref r_a0_list, .ref r_a0_tableList, .ref r_a0_tables, .ref r_a0_groupTables, .ref r_a0_last, .ref r_a0_nexts, .ref r_a0_slots, .int x_a0_limit, .int x_a0_most, .int x_a0_blockAt, .int x_a0_originAt, .int x_a0_origin, .int x_a0_blockCheck, .int x_a0_tableCount, .int x_a0_groupCount, .int x_a0_lastCount])), (q_a0_reader, .inr (1, [.ref r_a0_reader_row, .int x_a0_reader_end, .int x_a0_reader_at, .int x_a0_reader_taken, .int u6.2.1, .int u6.2.2]))]) (fun _ => rfl) d_Unpacker_endLast_20 0 0 rfl rfl (fun _ => ?_)
    obtain ⟨e7, hf⟩ := gd_some hf
    exact g_re [0, 1] [] rfl rfl rfl (kr () (u6.1, u6.2.1, u6.2.2) 23 [] (Option.some.inj hf) d_Unpacker_endLast_23 (bl_nar e7))
theorem c_Unpacker_endLast (l : Launch) (D : va_G) (K : Nat → ClassId) (q_a0 : Nat) (r_a0_row : Nat) (q_a0_reader : Nat) (r_a0_check : Nat) (r_a0_list : Nat) (r_a0_tableList : Nat) (r_a0_tables : Nat) (r_a0_groupTables : Nat) (r_a0_last : Nat) (r_a0_nexts : Nat) (r_a0_slots : Nat) (x_a0_limit : Int32) (x_a0_most : Int32) (x_a0_blockAt : Int32) (x_a0_originAt : Int32) (x_a0_origin : Int32) (x_a0_blockCheck : Int32) (x_a0_tableCount : Int32) (x_a0_groupCount : Int32) (x_a0_lastCount : Int32) (r_a0_reader_row : Nat) (x_a0_reader_end : Int32) (x_a0_reader_at : Int32) (x_a0_reader_taken : Int32) (x_a0_reader_fault : Int32) (x_a0_reader_faultAt : Int32) (p1 : Int32) (out : (Int32 × Int32 × Int32)) (hf : Unpacker_endLast_f p1 x_a0_groupCount x_a0_origin x_a0_lastCount x_a0_reader_fault x_a0_reader_faultAt x_a0_originAt x_a0_blockAt = some out) : Ci l D K y_Unpacker_endLast (g_wd y_Unpacker_endLast b_Unpacker_endLast 2 (some .boolean)) { frames := 1, cells := 0, slots := 0, locals := 22 } [.ref q_a0, .int p1] [(q_a0, .inr (11, [.ref r_a0_row, .ref q_a0_reader, .ref r_a0_check, .ref r_a0_list, .ref r_a0_tableList, .ref r_a0_tables, .ref r_a0_groupTables, .ref r_a0_last, .ref r_a0_nexts, .ref r_a0_slots, .int x_a0_limit, .int x_a0_most, .int x_a0_blockAt, .int x_a0_originAt, .int x_a0_origin, .int x_a0_blockCheck, .int x_a0_tableCount, .int x_a0_groupCount, .int x_a0_lastCount])), (q_a0_reader, .inr (1, [.ref r_a0_reader_row, .int x_a0_reader_end, .int x_a0_reader_at, .int x_a0_reader_taken, .int x_a0_reader_fault, .int x_a0_reader_faultAt]))] (fun (x : Unit) => [(q_a0, .inr (11, [.ref r_a0_row, .ref q_a0_reader, .ref r_a0_check, .ref r_a0_list, .ref r_a0_tableList, .ref r_a0_tables, .ref r_a0_groupTables, .ref r_a0_last, .ref r_a0_nexts, .ref r_a0_slots, .int x_a0_limit, .int x_a0_most, .int x_a0_blockAt, .int x_a0_originAt, .int x_a0_origin, .int x_a0_blockCheck, .int x_a0_tableCount, .int x_a0_groupCount, .int x_a0_lastCount])), (q_a0_reader, .inr (1, [.ref r_a0_reader_row, .int x_a0_reader_end, .int x_a0_reader_at, .int x_a0_reader_taken, .int out.2.1, .int out.2.2]))]) out.1 := mk_i (by decide) (Nat.le_of_ble_eq_true rfl) (fun p e s m below meth c A Q hC kr => m_Unpacker_endLast hC q_a0 r_a0_row q_a0_reader r_a0_check r_a0_list r_a0_tableList r_a0_tables r_a0_groupTables r_a0_last r_a0_nexts r_a0_slots x_a0_limit x_a0_most x_a0_blockAt x_a0_originAt x_a0_origin x_a0_blockCheck x_a0_tableCount x_a0_groupCount x_a0_lastCount r_a0_reader_row x_a0_reader_end x_a0_reader_at x_a0_reader_taken x_a0_reader_fault x_a0_reader_faultAt p1 out hf (fun x o9 pc lv ho => by subst ho; exact kr x pc lv))
