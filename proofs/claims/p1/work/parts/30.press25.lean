abbrev b_Unpacker_readCounts : ByteArray := prog_12_method_10_code
def y_Unpacker_readCounts : MethodName := ⟨R_Unpacker, "readCounts", "()Z"⟩
theorem d_Unpacker_readCounts_0 : decode b_Unpacker_readCounts 0 = .ok (.aload_n 0, 1) := by decide +kernel
theorem d_Unpacker_readCounts_1 : decode b_Unpacker_readCounts 1 = .ok (.getfield 20, 3) := by decide +kernel
theorem d_Unpacker_readCounts_4 : decode b_Unpacker_readCounts 4 = .ok (.getfield 80, 3) := by decide +kernel
theorem d_Unpacker_readCounts_7 : decode b_Unpacker_readCounts 7 = .ok (.istore_n 1, 1) := by decide +kernel
theorem d_Unpacker_readCounts_8 : decode b_Unpacker_readCounts 8 = .ok (.aload_n 0, 1) := by decide +kernel
theorem d_Unpacker_readCounts_9 : decode b_Unpacker_readCounts 9 = .ok (.getfield 20, 3) := by decide +kernel
theorem d_Unpacker_readCounts_12 : decode b_Unpacker_readCounts 12 = .ok (.iconst 3, 1) := by decide +kernel
theorem d_Unpacker_readCounts_13 : decode b_Unpacker_readCounts 13 = .ok (.invokevirtual 86, 3) := by decide +kernel
theorem d_Unpacker_readCounts_16 : decode b_Unpacker_readCounts 16 = .ok (.ifCond .ne 5, 3) := by decide +kernel
theorem d_Unpacker_readCounts_19 : decode b_Unpacker_readCounts 19 = .ok (.iconst 0, 1) := by decide +kernel
theorem d_Unpacker_readCounts_20 : decode b_Unpacker_readCounts 20 = .ok (.ireturn, 1) := by decide +kernel
theorem d_Unpacker_readCounts_21 : decode b_Unpacker_readCounts 21 = .ok (.aload_n 0, 1) := by decide +kernel
theorem d_Unpacker_readCounts_22 : decode b_Unpacker_readCounts 22 = .ok (.aload_n 0, 1) := by decide +kernel
theorem d_Unpacker_readCounts_23 : decode b_Unpacker_readCounts 23 = .ok (.getfield 20, 3) := by decide +kernel
theorem d_Unpacker_readCounts_26 : decode b_Unpacker_readCounts 26 = .ok (.getfield 90, 3) := by decide +kernel
theorem d_Unpacker_readCounts_29 : decode b_Unpacker_readCounts 29 = .ok (.putfield 152, 3) := by decide +kernel
theorem d_Unpacker_readCounts_32 : decode b_Unpacker_readCounts 32 = .ok (.aload_n 0, 1) := by decide +kernel
theorem d_Unpacker_readCounts_33 : decode b_Unpacker_readCounts 33 = .ok (.getfield 152, 3) := by decide +kernel
theorem d_Unpacker_readCounts_36 : decode b_Unpacker_readCounts 36 = .ok (.iconst 2, 1) := by decide +kernel
theorem d_Unpacker_readCounts_37 : decode b_Unpacker_readCounts 37 = .ok (.if_icmp .lt 12, 3) := by decide +kernel
theorem d_Unpacker_readCounts_40 : decode b_Unpacker_readCounts 40 = .ok (.aload_n 0, 1) := by decide +kernel
theorem d_Unpacker_readCounts_41 : decode b_Unpacker_readCounts 41 = .ok (.getfield 152, 3) := by decide +kernel
theorem d_Unpacker_readCounts_44 : decode b_Unpacker_readCounts 44 = .ok (.bipush 6, 2) := by decide +kernel
theorem d_Unpacker_readCounts_46 : decode b_Unpacker_readCounts 46 = .ok (.if_icmp .le 13, 3) := by decide +kernel
theorem d_Unpacker_readCounts_49 : decode b_Unpacker_readCounts 49 = .ok (.aload_n 0, 1) := by decide +kernel
theorem d_Unpacker_readCounts_50 : decode b_Unpacker_readCounts 50 = .ok (.getfield 20, 3) := by decide +kernel
theorem d_Unpacker_readCounts_53 : decode b_Unpacker_readCounts 53 = .ok (.iconst 5, 1) := by decide +kernel
theorem d_Unpacker_readCounts_54 : decode b_Unpacker_readCounts 54 = .ok (.iload_n 1, 1) := by decide +kernel
theorem d_Unpacker_readCounts_55 : decode b_Unpacker_readCounts 55 = .ok (.invokevirtual 96, 3) := by decide +kernel
theorem d_Unpacker_readCounts_58 : decode b_Unpacker_readCounts 58 = .ok (.ireturn, 1) := by decide +kernel
theorem d_Unpacker_readCounts_59 : decode b_Unpacker_readCounts 59 = .ok (.aload_n 0, 1) := by decide +kernel
theorem d_Unpacker_readCounts_60 : decode b_Unpacker_readCounts 60 = .ok (.getfield 20, 3) := by decide +kernel
theorem d_Unpacker_readCounts_63 : decode b_Unpacker_readCounts 63 = .ok (.getfield 80, 3) := by decide +kernel
theorem d_Unpacker_readCounts_66 : decode b_Unpacker_readCounts 66 = .ok (.istore_n 1, 1) := by decide +kernel
theorem d_Unpacker_readCounts_67 : decode b_Unpacker_readCounts 67 = .ok (.aload_n 0, 1) := by decide +kernel
theorem d_Unpacker_readCounts_68 : decode b_Unpacker_readCounts 68 = .ok (.getfield 20, 3) := by decide +kernel
theorem d_Unpacker_readCounts_71 : decode b_Unpacker_readCounts 71 = .ok (.bipush 15, 2) := by decide +kernel
theorem d_Unpacker_readCounts_73 : decode b_Unpacker_readCounts 73 = .ok (.invokevirtual 86, 3) := by decide +kernel
theorem d_Unpacker_readCounts_76 : decode b_Unpacker_readCounts 76 = .ok (.ifCond .ne 5, 3) := by decide +kernel
theorem d_Unpacker_readCounts_79 : decode b_Unpacker_readCounts 79 = .ok (.iconst 0, 1) := by decide +kernel
theorem d_Unpacker_readCounts_80 : decode b_Unpacker_readCounts 80 = .ok (.ireturn, 1) := by decide +kernel
theorem d_Unpacker_readCounts_81 : decode b_Unpacker_readCounts 81 = .ok (.aload_n 0, 1) := by decide +kernel
theorem d_Unpacker_readCounts_82 : decode b_Unpacker_readCounts 82 = .ok (.aload_n 0, 1) := by decide +kernel
theorem d_Unpacker_readCounts_83 : decode b_Unpacker_readCounts 83 = .ok (.getfield 20, 3) := by decide +kernel
theorem d_Unpacker_readCounts_86 : decode b_Unpacker_readCounts 86 = .ok (.getfield 90, 3) := by decide +kernel
theorem d_Unpacker_readCounts_89 : decode b_Unpacker_readCounts 89 = .ok (.putfield 155, 3) := by decide +kernel
theorem d_Unpacker_readCounts_92 : decode b_Unpacker_readCounts 92 = .ok (.aload_n 0, 1) := by decide +kernel
theorem d_Unpacker_readCounts_93 : decode b_Unpacker_readCounts 93 = .ok (.getfield 155, 3) := by decide +kernel
theorem d_Unpacker_readCounts_96 : decode b_Unpacker_readCounts 96 = .ok (.ifCond .gt 15, 3) := by decide +kernel
theorem d_Unpacker_readCounts_99 : decode b_Unpacker_readCounts 99 = .ok (.aload_n 0, 1) := by decide +kernel
theorem d_Unpacker_readCounts_100 : decode b_Unpacker_readCounts 100 = .ok (.getfield 20, 3) := by decide +kernel
theorem d_Unpacker_readCounts_103 : decode b_Unpacker_readCounts 103 = .ok (.iconst 5, 1) := by decide +kernel
theorem d_Unpacker_readCounts_104 : decode b_Unpacker_readCounts 104 = .ok (.iload_n 1, 1) := by decide +kernel
theorem d_Unpacker_readCounts_105 : decode b_Unpacker_readCounts 105 = .ok (.invokevirtual 96, 3) := by decide +kernel
theorem d_Unpacker_readCounts_108 : decode b_Unpacker_readCounts 108 = .ok (.ifCond .eq 7, 3) := by decide +kernel
theorem d_Unpacker_readCounts_111 : decode b_Unpacker_readCounts 111 = .ok (.iconst 1, 1) := by decide +kernel
theorem d_Unpacker_readCounts_112 : decode b_Unpacker_readCounts 112 = .ok (.goto 4, 3) := by decide +kernel
theorem d_Unpacker_readCounts_115 : decode b_Unpacker_readCounts 115 = .ok (.iconst 0, 1) := by decide +kernel
theorem d_Unpacker_readCounts_116 : decode b_Unpacker_readCounts 116 = .ok (.ireturn, 1) := by decide +kernel
theorem k375 : (Jvm.Cond.fieldLink "RotationPress$Unpacker" (152 : Nat) "RotationPress$Unpacker" "tableCount" "I") ∈ g_tbl := List.mem_filter.mpr ⟨List.mem_append_right (k2_sels lw_privs) (List.mem_append_right _ (List.mem_append_left _ (List.mem_of_getElem? (l := tables_1_2) (i := 135) rfl))), rfl⟩
theorem k376 : (Jvm.Cond.fieldLink "RotationPress$Unpacker" (155 : Nat) "RotationPress$Unpacker" "groupCount" "I") ∈ g_tbl := List.mem_filter.mpr ⟨List.mem_append_right (k2_sels lw_privs) (List.mem_append_right _ (List.mem_append_left _ (List.mem_of_getElem? (l := tables_1_2) (i := 136) rfl))), rfl⟩
set_option maxRecDepth 100000 in
set_option maxHeartbeats 4000000 in
theorem m_Unpacker_readCounts {C : gT} (hC : gOk C b_Unpacker_readCounts R_Unpacker { frames := 3, cells := 0, slots := 0, locals := 66 } 2) (q_a0 : Nat) (r_a0_row : Nat) (q_a0_reader : Nat) (r_a0_check : Nat) (r_a0_list : Nat) (r_a0_tableList : Nat) (r_a0_tables : Nat) (r_a0_groupTables : Nat) (r_a0_last : Nat) (r_a0_nexts : Nat) (r_a0_slots : Nat) (x_a0_limit : Int32) (x_a0_most : Int32) (x_a0_blockAt : Int32) (x_a0_originAt : Int32) (x_a0_origin : Int32) (x_a0_blockCheck : Int32) (x_a0_tableCount : Int32) (x_a0_groupCount : Int32) (x_a0_lastCount : Int32) (q_a0_reader_row : Nat) (x_a0_reader_end : Int32) (x_a0_reader_at : Int32) (x_a0_reader_taken : Int32) (x_a0_reader_fault : Int32) (x_a0_reader_faultAt : Int32) (q_a0_reader_row_bytes : Nat) (x_a0_reader_row_count : Int32) (n_a0_reader_row_bytes : Nat) (f_a0_reader_row_bytes : (Nat → Int32)) (out : (Int32 × Int32 × Int32 × Int32 × Int32 × Int32 × Int32)) (hf : Unpacker_readCounts_f x_a0_reader_end x_a0_reader_row_count n_a0_reader_row_bytes f_a0_reader_row_bytes x_a0_reader_fault x_a0_reader_faultAt x_a0_reader_at x_a0_tableCount x_a0_groupCount = some out) (kr : ∀ (x : Unit) (o9 : (Int32 × Int32 × Int32 × Int32 × Int32 × Int32 × Int32)) (pc : Nat) (lv : List (Nat × Value)), o9 = out → decode b_Unpacker_readCounts pc = .ok (.ireturn, 1) → narrow .boolean (.int o9.1) = .int o9.1 → gAt C 0 0 [(q_a0, .inr (11, [.ref r_a0_row, .ref q_a0_reader, .ref r_a0_check, .ref r_a0_list, .ref r_a0_tableList, .ref r_a0_tables, .ref r_a0_groupTables, .ref r_a0_last, .ref r_a0_nexts, .ref r_a0_slots, .int x_a0_limit, .int x_a0_most, .int x_a0_blockAt, .int x_a0_originAt, .int x_a0_origin, .int x_a0_blockCheck, .int o9.2.2.2.2.2.1, .int o9.2.2.2.2.2.2, .int x_a0_lastCount])), (q_a0_reader, .inr (1, [.ref q_a0_reader_row, .int x_a0_reader_end, .int o9.2.2.2.2.1, .int o9.2.1, .int o9.2.2.1, .int o9.2.2.2.1])), (q_a0_reader_row, .inr (4, [.ref q_a0_reader_row_bytes, .int x_a0_reader_row_count])), (q_a0_reader_row_bytes, .inl (g_K C 0, n_a0_reader_row_bytes, .inl f_a0_reader_row_bytes))] lv pc [.int o9.1]) : gAt C 0 0 [(q_a0, .inr (11, [.ref r_a0_row, .ref q_a0_reader, .ref r_a0_check, .ref r_a0_list, .ref r_a0_tableList, .ref r_a0_tables, .ref r_a0_groupTables, .ref r_a0_last, .ref r_a0_nexts, .ref r_a0_slots, .int x_a0_limit, .int x_a0_most, .int x_a0_blockAt, .int x_a0_originAt, .int x_a0_origin, .int x_a0_blockCheck, .int x_a0_tableCount, .int x_a0_groupCount, .int x_a0_lastCount])), (q_a0_reader, .inr (1, [.ref q_a0_reader_row, .int x_a0_reader_end, .int x_a0_reader_at, .int x_a0_reader_taken, .int x_a0_reader_fault, .int x_a0_reader_faultAt])), (q_a0_reader_row, .inr (4, [.ref q_a0_reader_row_bytes, .int x_a0_reader_row_count])), (q_a0_reader_row_bytes, .inl (g_K C 0, n_a0_reader_row_bytes, .inl f_a0_reader_row_bytes))] [(0, .ref q_a0)] 0 [] := by
  unfold Unpacker_readCounts_f at hf
  have J116 : ∀ (j116_0 : Int32) (j116_1 : Int32) (j116_2 : Int32) (j116_3 : Int32) (j116_4 : Int32) (j116_5 : Int32) (j116_6 : Int32), Unpacker_readCounts_J116 j116_0 j116_1 j116_2 j116_3 j116_4 j116_5 j116_6 = some out → gAt C 0 0 [(q_a0, .inr (11, [.ref r_a0_row, .ref q_a0_reader, .ref r_a0_check, .ref r_a0_list, .ref r_a0_tableList, .ref r_a0_tables, .ref r_a0_groupTables, .ref r_a0_last, .ref r_a0_nexts, .ref r_a0_slots, .int x_a0_limit, .int x_a0_most, .int x_a0_blockAt, .int x_a0_originAt, .int x_a0_origin, .int x_a0_blockCheck, .int j116_5, .int j116_6, .int x_a0_lastCount])), (q_a0_reader, .inr (1, [.ref q_a0_reader_row, .int x_a0_reader_end, .int j116_4, .int j116_1, .int j116_2, .int j116_3])), (q_a0_reader_row, .inr (4, [.ref q_a0_reader_row_bytes, .int x_a0_reader_row_count])), (q_a0_reader_row_bytes, .inl (g_K C 0, n_a0_reader_row_bytes, .inl f_a0_reader_row_bytes))] [] 116 [.int j116_0] := by
    intro j116_0 j116_1 j116_2 j116_3 j116_4 j116_5 j116_6 hf
    unfold Unpacker_readCounts_J116 at hf
    obtain ⟨e1, hf⟩ := gd_some hf
    exact kr () (j116_0, j116_1, j116_2, j116_3, j116_4, j116_5, j116_6) 116 [] (Option.some.inj hf) d_Unpacker_readCounts_116 (bl_nar e1)
  have J111 : ∀ (j111_0 : Int32) (j111_1 : Int32) (j111_2 : Int32) (j111_3 : Int32) (j111_4 : Int32) (j111_5 : Int32), Unpacker_readCounts_J111 j111_0 j111_1 j111_2 j111_3 j111_4 j111_5 = some out → gAt C 0 0 [(q_a0, .inr (11, [.ref r_a0_row, .ref q_a0_reader, .ref r_a0_check, .ref r_a0_list, .ref r_a0_tableList, .ref r_a0_tables, .ref r_a0_groupTables, .ref r_a0_last, .ref r_a0_nexts, .ref r_a0_slots, .int x_a0_limit, .int x_a0_most, .int x_a0_blockAt, .int x_a0_originAt, .int x_a0_origin, .int x_a0_blockCheck, .int j111_4, .int j111_5, .int x_a0_lastCount])), (q_a0_reader, .inr (1, [.ref q_a0_reader_row, .int x_a0_reader_end, .int j111_3, .int j111_0, .int j111_1, .int j111_2])), (q_a0_reader_row, .inr (4, [.ref q_a0_reader_row_bytes, .int x_a0_reader_row_count])), (q_a0_reader_row_bytes, .inl (g_K C 0, n_a0_reader_row_bytes, .inl f_a0_reader_row_bytes))] [] 111 [] := by
    intro j111_0 j111_1 j111_2 j111_3 j111_4 j111_5 hf
    unfold Unpacker_readCounts_J111 at hf
    refine g_iconst 111 hC (1 : Int32) (by decide) d_Unpacker_readCounts_111 ?_
    refine g_goto 112 hC 116 (by decide) d_Unpacker_readCounts_112 ?_
    exact J116 (1 : Int32) j111_0 j111_1 j111_2 j111_3 j111_4 j111_5 hf
  have J49 : ∀ (j49_0 : Int32) (j49_1 : Int32) (j49_2 : Int32) (j49_3 : Int32) (j49_4 : Int32) (j49_5 : Int32), Unpacker_readCounts_J49 x_a0_groupCount j49_0 j49_1 j49_2 j49_3 j49_4 j49_5 = some out → gAt C 0 0 [(q_a0, .inr (11, [.ref r_a0_row, .ref q_a0_reader, .ref r_a0_check, .ref r_a0_list, .ref r_a0_tableList, .ref r_a0_tables, .ref r_a0_groupTables, .ref r_a0_last, .ref r_a0_nexts, .ref r_a0_slots, .int x_a0_limit, .int x_a0_most, .int x_a0_blockAt, .int x_a0_originAt, .int x_a0_origin, .int x_a0_blockCheck, .int j49_5, .int x_a0_groupCount, .int x_a0_lastCount])), (q_a0_reader, .inr (1, [.ref q_a0_reader_row, .int x_a0_reader_end, .int j49_4, .int j49_1, .int j49_2, .int j49_3])), (q_a0_reader_row, .inr (4, [.ref q_a0_reader_row_bytes, .int x_a0_reader_row_count])), (q_a0_reader_row_bytes, .inl (g_K C 0, n_a0_reader_row_bytes, .inl f_a0_reader_row_bytes))] [(0, .ref q_a0), (1, .int j49_0)] 49 [] := by
    intro j49_0 j49_1 j49_2 j49_3 j49_4 j49_5 hf
    unfold Unpacker_readCounts_J49 at hf
    refine g_aload_n 49 hC (j := 0) (hj := rfl) (hd := d_Unpacker_readCounts_49) ?_
    refine g_get 50 hC i_Unpacker rfl 0 rfl 1 (by decide) k359 rfl d_Unpacker_readCounts_50 ?_
    refine g_iconst 53 hC (5 : Int32) (by decide) d_Unpacker_readCounts_53 ?_
    refine g_iload_n 54 hC (j := 1) (hj := rfl) (hd := d_Unpacker_readCounts_54) ?_
    obtain ⟨u2, hu2, hf⟩ := bd_some hf
    refine g_callVi 55 hC (c_BitReader_fail (g_l C) (g_D C) (g_K C) q_a0_reader q_a0_reader_row x_a0_reader_end j49_4 j49_1 j49_2 j49_3 (5 : Int32) j49_0 u2 hu2) k1102 k13 k1104 k1100 k1101 2 rfl (by decide +kernel) (by decide) [1] [0, 2, 3] [(q_a0, .inr (11, [.ref r_a0_row, .ref q_a0_reader, .ref r_a0_check, .ref r_a0_list, .ref r_a0_tableList, .ref r_a0_tables, .ref r_a0_groupTables, .ref r_a0_last, .ref r_a0_nexts, .ref r_a0_slots, .int x_a0_limit, .int x_a0_most, .int x_a0_blockAt, .int x_a0_originAt, .int x_a0_origin, .int x_a0_blockCheck, .int j49_5, .int x_a0_groupCount, .int x_a0_lastCount])), (q_a0_reader_row, .inr (4, [.ref q_a0_reader_row_bytes, .int x_a0_reader_row_count])), (q_a0_reader_row_bytes, .inl (g_K C 0, n_a0_reader_row_bytes, .inl f_a0_reader_row_bytes))] rfl rfl rfl rfl rfl 0 1 rfl rfl rfl rfl (Nat.le_of_ble_eq_true rfl) ⟨Nat.le_of_ble_eq_true rfl, Nat.le_of_ble_eq_true rfl⟩ (fun (_ : Unit) => [(q_a0, .inr (11, [.ref r_a0_row, .ref q_a0_reader, .ref r_a0_check, .ref r_a0_list, .ref r_a0_tableList, .ref r_a0_tables, .ref r_a0_groupTables, .ref r_a0_last, .ref r_a0_nexts, .ref r_a0_slots, .int x_a0_limit, .int x_a0_most, .int x_a0_blockAt, .int x_a0_originAt, .int x_a0_origin, .int x_a0_blockCheck, .int j49_5, .int x_a0_groupCount, .int x_a0_lastCount])), (q_a0_reader_row, .inr (4, [.ref q_a0_reader_row_bytes, .int x_a0_reader_row_count])), (q_a0_reader_row_bytes, .inl (g_K C 0, n_a0_reader_row_bytes, .inl f_a0_reader_row_bytes)), (q_a0_reader, .inr (1, [.ref q_a0_reader_row, .int x_a0_reader_end, .int j49_4, .int j49_1, .int u2.2.1, .int u2.2.2]))]) (fun _ => rfl) d_Unpacker_readCounts_55 0 0 rfl rfl (fun _ => ?_)
    obtain ⟨e3, hf⟩ := gd_some hf
    exact g_re [0, 3, 1, 2] [] rfl rfl rfl (kr () (u2.1, j49_1, u2.2.1, u2.2.2, j49_4, j49_5, x_a0_groupCount) 58 [] (Option.some.inj hf) d_Unpacker_readCounts_58 (bl_nar e3))
  refine g_aload_n 0 hC (j := 0) (hj := rfl) (hd := d_Unpacker_readCounts_0) ?_
  refine g_get 1 hC i_Unpacker rfl 0 rfl 1 (by decide) k359 rfl d_Unpacker_readCounts_1 ?_
  refine g_get 4 hC i_BitReader rfl 1 rfl 2 (by decide) k331 rfl d_Unpacker_readCounts_4 ?_
  refine g_istore_n 7 hC (lv2 := [(1, .int x_a0_reader_at), (0, .ref q_a0)]) (hn := (by decide)) (hl2 := rfl) (hd := d_Unpacker_readCounts_7) ?_
  refine g_aload_n 8 hC (j := 1) (hj := rfl) (hd := d_Unpacker_readCounts_8) ?_
  refine g_get 9 hC i_Unpacker rfl 0 rfl 1 (by decide) k359 rfl d_Unpacker_readCounts_9 ?_
  refine g_iconst 12 hC (3 : Int32) (by decide) d_Unpacker_readCounts_12 ?_
  obtain ⟨u4, hu4, hf⟩ := bd_some hf
  refine g_callVi 13 hC (c_BitReader_take (g_l C) (g_D C) (g_K C) q_a0_reader q_a0_reader_row x_a0_reader_end x_a0_reader_at x_a0_reader_taken x_a0_reader_fault x_a0_reader_faultAt q_a0_reader_row_bytes x_a0_reader_row_count n_a0_reader_row_bytes f_a0_reader_row_bytes (3 : Int32) u4 hu4) k1094 k13 k1091 k1092 k1093 1 rfl (by decide +kernel) (by decide) [1, 2, 3] [0] [(q_a0, .inr (11, [.ref r_a0_row, .ref q_a0_reader, .ref r_a0_check, .ref r_a0_list, .ref r_a0_tableList, .ref r_a0_tables, .ref r_a0_groupTables, .ref r_a0_last, .ref r_a0_nexts, .ref r_a0_slots, .int x_a0_limit, .int x_a0_most, .int x_a0_blockAt, .int x_a0_originAt, .int x_a0_origin, .int x_a0_blockCheck, .int x_a0_tableCount, .int x_a0_groupCount, .int x_a0_lastCount]))] rfl rfl rfl rfl rfl 0 1 rfl rfl rfl rfl (Nat.le_of_ble_eq_true rfl) ⟨Nat.le_of_ble_eq_true rfl, Nat.le_of_ble_eq_true rfl⟩ (fun (_ : Unit) => [(q_a0, .inr (11, [.ref r_a0_row, .ref q_a0_reader, .ref r_a0_check, .ref r_a0_list, .ref r_a0_tableList, .ref r_a0_tables, .ref r_a0_groupTables, .ref r_a0_last, .ref r_a0_nexts, .ref r_a0_slots, .int x_a0_limit, .int x_a0_most, .int x_a0_blockAt, .int x_a0_originAt, .int x_a0_origin, .int x_a0_blockCheck, .int x_a0_tableCount, .int x_a0_groupCount, .int x_a0_lastCount])), (q_a0_reader, .inr (1, [.ref q_a0_reader_row, .int x_a0_reader_end, .int u4.2.2.2.2, .int u4.2.1, .int u4.2.2.1, .int u4.2.2.2.1])), (q_a0_reader_row, .inr (4, [.ref q_a0_reader_row_bytes, .int x_a0_reader_row_count])), (q_a0_reader_row_bytes, .inl (g_K C 0, n_a0_reader_row_bytes, .inl f_a0_reader_row_bytes))]) (fun _ => rfl) d_Unpacker_readCounts_13 0 0 rfl rfl (fun _ => ?_)
  refine g_if_ne 16 hC 21 (by decide) d_Unpacker_readCounts_16 (fun c5 => ?_) (fun c5 => ?_)
  · have hf := it_f c5 hf
    refine g_aload_n 21 hC (j := 1) (hj := rfl) (hd := d_Unpacker_readCounts_21) ?_
    refine g_aload_n 22 hC (j := 1) (hj := rfl) (hd := d_Unpacker_readCounts_22) ?_
    refine g_get 23 hC i_Unpacker rfl 0 rfl 1 (by decide) k359 rfl d_Unpacker_readCounts_23 ?_
    refine g_get 26 hC i_BitReader rfl 1 rfl 3 (by decide) k334 rfl d_Unpacker_readCounts_26 ?_
    refine g_put 29 hC i_Unpacker rfl 0 rfl 16 (by decide) t_Unpacker tk_Unpacker n_Unpacker k375 rfl rfl rfl (Nat.le_of_ble_eq_true rfl) [(q_a0, .inr (11, [.ref r_a0_row, .ref q_a0_reader, .ref r_a0_check, .ref r_a0_list, .ref r_a0_tableList, .ref r_a0_tables, .ref r_a0_groupTables, .ref r_a0_last, .ref r_a0_nexts, .ref r_a0_slots, .int x_a0_limit, .int x_a0_most, .int x_a0_blockAt, .int x_a0_originAt, .int x_a0_origin, .int x_a0_blockCheck, .int u4.2.1, .int x_a0_groupCount, .int x_a0_lastCount])), (q_a0_reader, .inr (1, [.ref q_a0_reader_row, .int x_a0_reader_end, .int u4.2.2.2.2, .int u4.2.1, .int u4.2.2.1, .int u4.2.2.2.1])), (q_a0_reader_row, .inr (4, [.ref q_a0_reader_row_bytes, .int x_a0_reader_row_count])), (q_a0_reader_row_bytes, .inl (g_K C 0, n_a0_reader_row_bytes, .inl f_a0_reader_row_bytes))] rfl d_Unpacker_readCounts_29 ?_
    refine g_aload_n 32 hC (j := 1) (hj := rfl) (hd := d_Unpacker_readCounts_32) ?_
    refine g_get 33 hC i_Unpacker rfl 0 rfl 16 (by decide) k375 rfl d_Unpacker_readCounts_33 ?_
    refine g_iconst 36 hC (2 : Int32) (by decide) d_Unpacker_readCounts_36 ?_
    refine g_icmp_lt 37 hC 49 (by decide) d_Unpacker_readCounts_37 (fun c6 => ?_) (fun c6 => ?_)
    · have hf := it_t c6 hf
      exact g_re [0, 1, 2, 3] [1, 0] rfl rfl rfl (J49 x_a0_reader_at u4.2.1 u4.2.2.1 u4.2.2.2.1 u4.2.2.2.2 u4.2.1 hf)
    · have hf := it_f c6 hf
      refine g_aload_n 40 hC (j := 1) (hj := rfl) (hd := d_Unpacker_readCounts_40) ?_
      refine g_get 41 hC i_Unpacker rfl 0 rfl 16 (by decide) k375 rfl d_Unpacker_readCounts_41 ?_
      refine g_bipush 44 hC (6 : Int32) (by decide) d_Unpacker_readCounts_44 ?_
      refine g_icmp_le 46 hC 59 (by decide) d_Unpacker_readCounts_46 (fun c7 => ?_) (fun c7 => ?_)
      · have hf := it_t c7 hf
        refine g_aload_n 59 hC (j := 1) (hj := rfl) (hd := d_Unpacker_readCounts_59) ?_
        refine g_get 60 hC i_Unpacker rfl 0 rfl 1 (by decide) k359 rfl d_Unpacker_readCounts_60 ?_
        refine g_get 63 hC i_BitReader rfl 1 rfl 2 (by decide) k331 rfl d_Unpacker_readCounts_63 ?_
        refine g_istore_n 66 hC (lv2 := [(1, .int u4.2.2.2.2), (0, .ref q_a0)]) (hn := (by decide)) (hl2 := rfl) (hd := d_Unpacker_readCounts_66) ?_
        refine g_aload_n 67 hC (j := 1) (hj := rfl) (hd := d_Unpacker_readCounts_67) ?_
        refine g_get 68 hC i_Unpacker rfl 0 rfl 1 (by decide) k359 rfl d_Unpacker_readCounts_68 ?_
        refine g_bipush 71 hC (15 : Int32) (by decide) d_Unpacker_readCounts_71 ?_
        obtain ⟨u8, hu8, hf⟩ := bd_some hf
        refine g_callVi 73 hC (c_BitReader_take (g_l C) (g_D C) (g_K C) q_a0_reader q_a0_reader_row x_a0_reader_end u4.2.2.2.2 u4.2.1 u4.2.2.1 u4.2.2.2.1 q_a0_reader_row_bytes x_a0_reader_row_count n_a0_reader_row_bytes f_a0_reader_row_bytes (15 : Int32) u8 hu8) k1094 k13 k1091 k1092 k1093 1 rfl (by decide +kernel) (by decide) [1, 2, 3] [0] [(q_a0, .inr (11, [.ref r_a0_row, .ref q_a0_reader, .ref r_a0_check, .ref r_a0_list, .ref r_a0_tableList, .ref r_a0_tables, .ref r_a0_groupTables, .ref r_a0_last, .ref r_a0_nexts, .ref r_a0_slots, .int x_a0_limit, .int x_a0_most, .int x_a0_blockAt, .int x_a0_originAt, .int x_a0_origin, .int x_a0_blockCheck, .int u4.2.1, .int x_a0_groupCount, .int x_a0_lastCount]))] rfl rfl rfl rfl rfl 0 1 rfl rfl rfl rfl (Nat.le_of_ble_eq_true rfl) ⟨Nat.le_of_ble_eq_true rfl, Nat.le_of_ble_eq_true rfl⟩ (fun (_ : Unit) => [(q_a0, .inr (11, [.ref r_a0_row, .ref q_a0_reader, .ref r_a0_check, .ref r_a0_list, .ref r_a0_tableList, .ref r_a0_tables, .ref r_a0_groupTables, .ref r_a0_last, .ref r_a0_nexts, .ref r_a0_slots, .int x_a0_limit, .int x_a0_most, .int x_a0_blockAt, .int x_a0_originAt, .int x_a0_origin, .int x_a0_blockCheck, .int u4.2.1, .int x_a0_groupCount, .int x_a0_lastCount])), (q_a0_reader, .inr (1, [.ref q_a0_reader_row, .int x_a0_reader_end, .int u8.2.2.2.2, .int u8.2.1, .int u8.2.2.1, .int u8.2.2.2.1])), (q_a0_reader_row, .inr (4, [.ref q_a0_reader_row_bytes, .int x_a0_reader_row_count])), (q_a0_reader_row_bytes, .inl (g_K C 0, n_a0_reader_row_bytes, .inl f_a0_reader_row_bytes))]) (fun _ => rfl) d_Unpacker_readCounts_73 0 0 rfl rfl (fun _ => ?_)
        refine g_if_ne 76 hC 81 (by decide) d_Unpacker_readCounts_76 (fun c9 => ?_) (fun c9 => ?_)
        · have hf := it_f c9 hf
          refine g_aload_n 81 hC (j := 1) (hj := rfl) (hd := d_Unpacker_readCounts_81) ?_
          refine g_aload_n 82 hC (j := 1) (hj := rfl) (hd := d_Unpacker_readCounts_82) ?_
          refine g_get 83 hC i_Unpacker rfl 0 rfl 1 (by decide) k359 rfl d_Unpacker_readCounts_83 ?_
          refine g_get 86 hC i_BitReader rfl 1 rfl 3 (by decide) k334 rfl d_Unpacker_readCounts_86 ?_
          refine g_put 89 hC i_Unpacker rfl 0 rfl 17 (by decide) t_Unpacker tk_Unpacker n_Unpacker k376 rfl rfl rfl (Nat.le_of_ble_eq_true rfl) [(q_a0, .inr (11, [.ref r_a0_row, .ref q_a0_reader, .ref r_a0_check, .ref r_a0_list, .ref r_a0_tableList, .ref r_a0_tables, .ref r_a0_groupTables, .ref r_a0_last, .ref r_a0_nexts, .ref r_a0_slots, .int x_a0_limit, .int x_a0_most, .int x_a0_blockAt, .int x_a0_originAt, .int x_a0_origin, .int x_a0_blockCheck, .int u4.2.1, .int u8.2.1, .int x_a0_lastCount])), (q_a0_reader, .inr (1, [.ref q_a0_reader_row, .int x_a0_reader_end, .int u8.2.2.2.2, .int u8.2.1, .int u8.2.2.1, .int u8.2.2.2.1])), (q_a0_reader_row, .inr (4, [.ref q_a0_reader_row_bytes, .int x_a0_reader_row_count])), (q_a0_reader_row_bytes, .inl (g_K C 0, n_a0_reader_row_bytes, .inl f_a0_reader_row_bytes))] rfl d_Unpacker_readCounts_89 ?_
          refine g_aload_n 92 hC (j := 1) (hj := rfl) (hd := d_Unpacker_readCounts_92) ?_
          refine g_get 93 hC i_Unpacker rfl 0 rfl 17 (by decide) k376 rfl d_Unpacker_readCounts_93 ?_
          refine g_if_gt 96 hC 111 (by decide) d_Unpacker_readCounts_96 (fun c10 => ?_) (fun c10 => ?_)
          · have hf := it_t c10 hf
            exact g_re [0, 1, 2, 3] [] rfl rfl rfl (J111 u8.2.1 u8.2.2.1 u8.2.2.2.1 u8.2.2.2.2 u4.2.1 u8.2.1 hf)
          · have hf := it_f c10 hf
            refine g_aload_n 99 hC (j := 1) (hj := rfl) (hd := d_Unpacker_readCounts_99) ?_
            refine g_get 100 hC i_Unpacker rfl 0 rfl 1 (by decide) k359 rfl d_Unpacker_readCounts_100 ?_
            refine g_iconst 103 hC (5 : Int32) (by decide) d_Unpacker_readCounts_103 ?_
            refine g_iload_n 104 hC (j := 0) (hj := rfl) (hd := d_Unpacker_readCounts_104) ?_
            obtain ⟨u11, hu11, hf⟩ := bd_some hf
            refine g_callVi 105 hC (c_BitReader_fail (g_l C) (g_D C) (g_K C) q_a0_reader q_a0_reader_row x_a0_reader_end u8.2.2.2.2 u8.2.1 u8.2.2.1 u8.2.2.2.1 (5 : Int32) u4.2.2.2.2 u11 hu11) k1102 k13 k1104 k1100 k1101 2 rfl (by decide +kernel) (by decide) [1] [0, 2, 3] [(q_a0, .inr (11, [.ref r_a0_row, .ref q_a0_reader, .ref r_a0_check, .ref r_a0_list, .ref r_a0_tableList, .ref r_a0_tables, .ref r_a0_groupTables, .ref r_a0_last, .ref r_a0_nexts, .ref r_a0_slots, .int x_a0_limit, .int x_a0_most, .int x_a0_blockAt, .int x_a0_originAt, .int x_a0_origin, .int x_a0_blockCheck, .int u4.2.1, .int u8.2.1, .int x_a0_lastCount])), (q_a0_reader_row, .inr (4, [.ref q_a0_reader_row_bytes, .int x_a0_reader_row_count])), (q_a0_reader_row_bytes, .inl (g_K C 0, n_a0_reader_row_bytes, .inl f_a0_reader_row_bytes))] rfl rfl rfl rfl rfl 0 1 rfl rfl rfl rfl (Nat.le_of_ble_eq_true rfl) ⟨Nat.le_of_ble_eq_true rfl, Nat.le_of_ble_eq_true rfl⟩ (fun (_ : Unit) => [(q_a0, .inr (11, [.ref r_a0_row, .ref q_a0_reader, .ref r_a0_check, .ref r_a0_list, .ref r_a0_tableList, .ref r_a0_tables, .ref r_a0_groupTables, .ref r_a0_last, .ref r_a0_nexts, .ref r_a0_slots, .int x_a0_limit, .int x_a0_most, .int x_a0_blockAt, .int x_a0_originAt, .int x_a0_origin, .int x_a0_blockCheck, .int u4.2.1, .int u8.2.1, .int x_a0_lastCount])), (q_a0_reader_row, .inr (4, [.ref q_a0_reader_row_bytes, .int x_a0_reader_row_count])), (q_a0_reader_row_bytes, .inl (g_K C 0, n_a0_reader_row_bytes, .inl f_a0_reader_row_bytes)), (q_a0_reader, .inr (1, [.ref q_a0_reader_row, .int x_a0_reader_end, .int u8.2.2.2.2, .int u8.2.1, .int u11.2.1, .int u11.2.2]))]) (fun _ => rfl) d_Unpacker_readCounts_105 0 0 rfl rfl (fun _ => ?_)
            refine g_if_eq 108 hC 115 (by decide) d_Unpacker_readCounts_108 (fun c12 => ?_) (fun c12 => ?_)
            · have hf := it_t c12 hf
              refine g_iconst 115 hC (0 : Int32) (by decide) d_Unpacker_readCounts_115 ?_
              exact g_re [0, 3, 1, 2] [] rfl rfl rfl (J116 (0 : Int32) u8.2.1 u11.2.1 u11.2.2 u8.2.2.2.2 u4.2.1 u8.2.1 hf)
            · have hf := it_f c12 hf
              exact g_re [0, 3, 1, 2] [] rfl rfl rfl (J111 u8.2.1 u11.2.1 u11.2.2 u8.2.2.2.2 u4.2.1 u8.2.1 hf)
        · have hf := it_t c9 hf
          refine g_iconst 79 hC (0 : Int32) (by decide) d_Unpacker_readCounts_79 ?_
          exact g_re [0, 1, 2, 3] [] rfl rfl rfl (kr () ((0 : Int32), u8.2.1, u8.2.2.1, u8.2.2.2.1, u8.2.2.2.2, u4.2.1, x_a0_groupCount) 80 [] (Option.some.inj hf) d_Unpacker_readCounts_80 (bl_nar (x := (0 : Int32)) (by decide)))
      · have hf := it_f c7 hf
        exact g_re [0, 1, 2, 3] [1, 0] rfl rfl rfl (J49 x_a0_reader_at u4.2.1 u4.2.2.1 u4.2.2.2.1 u4.2.2.2.2 u4.2.1 hf)
  · have hf := it_t c5 hf
    refine g_iconst 19 hC (0 : Int32) (by decide) d_Unpacker_readCounts_19 ?_
    exact g_re [0, 1, 2, 3] [] rfl rfl rfl (kr () ((0 : Int32), u4.2.1, u4.2.2.1, u4.2.2.2.1, u4.2.2.2.2, x_a0_tableCount, x_a0_groupCount) 20 [] (Option.some.inj hf) d_Unpacker_readCounts_20 (bl_nar (x := (0 : Int32)) (by decide)))
theorem c_Unpacker_readCounts (l : Launch) (D : va_G) (K : Nat → ClassId) (q_a0 : Nat) (r_a0_row : Nat) (q_a0_reader : Nat) (r_a0_check : Nat) (r_a0_list : Nat) (r_a0_tableList : Nat) (r_a0_tables : Nat) (r_a0_groupTables : Nat) (r_a0_last : Nat) (r_a0_nexts : Nat) (r_a0_slots : Nat) (x_a0_limit : Int32) (x_a0_most : Int32) (x_a0_blockAt : Int32) (x_a0_originAt : Int32) (x_a0_origin : Int32) (x_a0_blockCheck : Int32) (x_a0_tableCount : Int32) (x_a0_groupCount : Int32) (x_a0_lastCount : Int32) (q_a0_reader_row : Nat) (x_a0_reader_end : Int32) (x_a0_reader_at : Int32) (x_a0_reader_taken : Int32) (x_a0_reader_fault : Int32) (x_a0_reader_faultAt : Int32) (q_a0_reader_row_bytes : Nat) (x_a0_reader_row_count : Int32) (n_a0_reader_row_bytes : Nat) (f_a0_reader_row_bytes : (Nat → Int32)) (out : (Int32 × Int32 × Int32 × Int32 × Int32 × Int32 × Int32)) (hf : Unpacker_readCounts_f x_a0_reader_end x_a0_reader_row_count n_a0_reader_row_bytes f_a0_reader_row_bytes x_a0_reader_fault x_a0_reader_faultAt x_a0_reader_at x_a0_tableCount x_a0_groupCount = some out) : Ci l D K y_Unpacker_readCounts (g_wd y_Unpacker_readCounts b_Unpacker_readCounts 2 (some .boolean)) { frames := 3, cells := 0, slots := 0, locals := 66 } [.ref q_a0] [(q_a0, .inr (11, [.ref r_a0_row, .ref q_a0_reader, .ref r_a0_check, .ref r_a0_list, .ref r_a0_tableList, .ref r_a0_tables, .ref r_a0_groupTables, .ref r_a0_last, .ref r_a0_nexts, .ref r_a0_slots, .int x_a0_limit, .int x_a0_most, .int x_a0_blockAt, .int x_a0_originAt, .int x_a0_origin, .int x_a0_blockCheck, .int x_a0_tableCount, .int x_a0_groupCount, .int x_a0_lastCount])), (q_a0_reader, .inr (1, [.ref q_a0_reader_row, .int x_a0_reader_end, .int x_a0_reader_at, .int x_a0_reader_taken, .int x_a0_reader_fault, .int x_a0_reader_faultAt])), (q_a0_reader_row, .inr (4, [.ref q_a0_reader_row_bytes, .int x_a0_reader_row_count])), (q_a0_reader_row_bytes, .inl (K 0, n_a0_reader_row_bytes, .inl f_a0_reader_row_bytes))] (fun (x : Unit) => [(q_a0, .inr (11, [.ref r_a0_row, .ref q_a0_reader, .ref r_a0_check, .ref r_a0_list, .ref r_a0_tableList, .ref r_a0_tables, .ref r_a0_groupTables, .ref r_a0_last, .ref r_a0_nexts, .ref r_a0_slots, .int x_a0_limit, .int x_a0_most, .int x_a0_blockAt, .int x_a0_originAt, .int x_a0_origin, .int x_a0_blockCheck, .int out.2.2.2.2.2.1, .int out.2.2.2.2.2.2, .int x_a0_lastCount])), (q_a0_reader, .inr (1, [.ref q_a0_reader_row, .int x_a0_reader_end, .int out.2.2.2.2.1, .int out.2.1, .int out.2.2.1, .int out.2.2.2.1])), (q_a0_reader_row, .inr (4, [.ref q_a0_reader_row_bytes, .int x_a0_reader_row_count])), (q_a0_reader_row_bytes, .inl (K 0, n_a0_reader_row_bytes, .inl f_a0_reader_row_bytes))]) out.1 := mk_i (by decide) (Nat.le_of_ble_eq_true rfl) (fun p e s m below meth c A Q hC kr => m_Unpacker_readCounts hC q_a0 r_a0_row q_a0_reader r_a0_check r_a0_list r_a0_tableList r_a0_tables r_a0_groupTables r_a0_last r_a0_nexts r_a0_slots x_a0_limit x_a0_most x_a0_blockAt x_a0_originAt x_a0_origin x_a0_blockCheck x_a0_tableCount x_a0_groupCount x_a0_lastCount q_a0_reader_row x_a0_reader_end x_a0_reader_at x_a0_reader_taken x_a0_reader_fault x_a0_reader_faultAt q_a0_reader_row_bytes x_a0_reader_row_count n_a0_reader_row_bytes f_a0_reader_row_bytes out hf (fun x o9 pc lv ho => by subst ho; exact kr x pc lv))
