abbrev b_Unpacker_readLength : ByteArray := prog_12_method_15_code
def y_Unpacker_readLength : MethodName := ⟨R_Unpacker, "readLength", "(I)I"⟩
theorem d_Unpacker_readLength_0 : decode b_Unpacker_readLength 0 = .ok (.iload_n 1, 1) := by decide +kernel
theorem d_Unpacker_readLength_1 : decode b_Unpacker_readLength 1 = .ok (.istore_n 2, 1) := by decide +kernel
theorem d_Unpacker_readLength_2 : decode b_Unpacker_readLength 2 = .ok (.iconst 0, 1) := by decide +kernel
theorem d_Unpacker_readLength_3 : decode b_Unpacker_readLength 3 = .ok (.istore_n 3, 1) := by decide +kernel
theorem d_Unpacker_readLength_4 : decode b_Unpacker_readLength 4 = .ok (.iload_n 3, 1) := by decide +kernel
theorem d_Unpacker_readLength_5 : decode b_Unpacker_readLength 5 = .ok (.aload_n 0, 1) := by decide +kernel
theorem d_Unpacker_readLength_6 : decode b_Unpacker_readLength 6 = .ok (.getfield 20, 3) := by decide +kernel
theorem d_Unpacker_readLength_9 : decode b_Unpacker_readLength 9 = .ok (.getfield 77, 3) := by decide +kernel
theorem d_Unpacker_readLength_12 : decode b_Unpacker_readLength 12 = .ok (.if_icmp .ge 96, 3) := by decide +kernel
theorem d_Unpacker_readLength_15 : decode b_Unpacker_readLength 15 = .ok (.aload_n 0, 1) := by decide +kernel
theorem d_Unpacker_readLength_16 : decode b_Unpacker_readLength 16 = .ok (.getfield 20, 3) := by decide +kernel
theorem d_Unpacker_readLength_19 : decode b_Unpacker_readLength 19 = .ok (.getfield 80, 3) := by decide +kernel
theorem d_Unpacker_readLength_22 : decode b_Unpacker_readLength 22 = .ok (.istore 4, 2) := by decide +kernel
theorem d_Unpacker_readLength_24 : decode b_Unpacker_readLength 24 = .ok (.aload_n 0, 1) := by decide +kernel
theorem d_Unpacker_readLength_25 : decode b_Unpacker_readLength 25 = .ok (.getfield 20, 3) := by decide +kernel
theorem d_Unpacker_readLength_28 : decode b_Unpacker_readLength 28 = .ok (.invokevirtual 161, 3) := by decide +kernel
theorem d_Unpacker_readLength_31 : decode b_Unpacker_readLength 31 = .ok (.istore 5, 2) := by decide +kernel
theorem d_Unpacker_readLength_33 : decode b_Unpacker_readLength 33 = .ok (.iload 5, 2) := by decide +kernel
theorem d_Unpacker_readLength_35 : decode b_Unpacker_readLength 35 = .ok (.ifCond .ne 5, 3) := by decide +kernel
theorem d_Unpacker_readLength_38 : decode b_Unpacker_readLength 38 = .ok (.iload_n 2, 1) := by decide +kernel
theorem d_Unpacker_readLength_39 : decode b_Unpacker_readLength 39 = .ok (.ireturn, 1) := by decide +kernel
theorem d_Unpacker_readLength_40 : decode b_Unpacker_readLength 40 = .ok (.iload 5, 2) := by decide +kernel
theorem d_Unpacker_readLength_42 : decode b_Unpacker_readLength 42 = .ok (.iconst (-1), 1) := by decide +kernel
theorem d_Unpacker_readLength_43 : decode b_Unpacker_readLength 43 = .ok (.if_icmp .ne 7, 3) := by decide +kernel
theorem d_Unpacker_readLength_46 : decode b_Unpacker_readLength 46 = .ok (.iconst (-1), 1) := by decide +kernel
theorem d_Unpacker_readLength_47 : decode b_Unpacker_readLength 47 = .ok (.goto 10, 3) := by decide +kernel
theorem d_Unpacker_readLength_50 : decode b_Unpacker_readLength 50 = .ok (.aload_n 0, 1) := by decide +kernel
theorem d_Unpacker_readLength_51 : decode b_Unpacker_readLength 51 = .ok (.getfield 20, 3) := by decide +kernel
theorem d_Unpacker_readLength_54 : decode b_Unpacker_readLength 54 = .ok (.invokevirtual 161, 3) := by decide +kernel
theorem d_Unpacker_readLength_57 : decode b_Unpacker_readLength 57 = .ok (.istore 6, 2) := by decide +kernel
theorem d_Unpacker_readLength_59 : decode b_Unpacker_readLength 59 = .ok (.iload 6, 2) := by decide +kernel
theorem d_Unpacker_readLength_61 : decode b_Unpacker_readLength 61 = .ok (.iconst (-1), 1) := by decide +kernel
theorem d_Unpacker_readLength_62 : decode b_Unpacker_readLength 62 = .ok (.if_icmp .ne 5, 3) := by decide +kernel
theorem d_Unpacker_readLength_65 : decode b_Unpacker_readLength 65 = .ok (.iconst (-1), 1) := by decide +kernel
theorem d_Unpacker_readLength_66 : decode b_Unpacker_readLength 66 = .ok (.ireturn, 1) := by decide +kernel
theorem d_Unpacker_readLength_67 : decode b_Unpacker_readLength 67 = .ok (.iload_n 2, 1) := by decide +kernel
theorem d_Unpacker_readLength_68 : decode b_Unpacker_readLength 68 = .ok (.iload 6, 2) := by decide +kernel
theorem d_Unpacker_readLength_70 : decode b_Unpacker_readLength 70 = .ok (.iconst 1, 1) := by decide +kernel
theorem d_Unpacker_readLength_71 : decode b_Unpacker_readLength 71 = .ok (.if_icmp .ne 7, 3) := by decide +kernel
theorem d_Unpacker_readLength_74 : decode b_Unpacker_readLength 74 = .ok (.iconst (-1), 1) := by decide +kernel
theorem d_Unpacker_readLength_75 : decode b_Unpacker_readLength 75 = .ok (.goto 4, 3) := by decide +kernel
theorem d_Unpacker_readLength_78 : decode b_Unpacker_readLength 78 = .ok (.iconst 1, 1) := by decide +kernel
theorem d_Unpacker_readLength_79 : decode b_Unpacker_readLength 79 = .ok (.iadd, 1) := by decide +kernel
theorem d_Unpacker_readLength_80 : decode b_Unpacker_readLength 80 = .ok (.istore_n 2, 1) := by decide +kernel
theorem d_Unpacker_readLength_81 : decode b_Unpacker_readLength 81 = .ok (.iload_n 2, 1) := by decide +kernel
theorem d_Unpacker_readLength_82 : decode b_Unpacker_readLength 82 = .ok (.invokestatic 176, 3) := by decide +kernel
theorem d_Unpacker_readLength_85 : decode b_Unpacker_readLength 85 = .ok (.ifCond .ne 17, 3) := by decide +kernel
theorem d_Unpacker_readLength_88 : decode b_Unpacker_readLength 88 = .ok (.aload_n 0, 1) := by decide +kernel
theorem d_Unpacker_readLength_89 : decode b_Unpacker_readLength 89 = .ok (.getfield 20, 3) := by decide +kernel
theorem d_Unpacker_readLength_92 : decode b_Unpacker_readLength 92 = .ok (.bipush 6, 2) := by decide +kernel
theorem d_Unpacker_readLength_94 : decode b_Unpacker_readLength 94 = .ok (.iload 4, 2) := by decide +kernel
theorem d_Unpacker_readLength_96 : decode b_Unpacker_readLength 96 = .ok (.invokevirtual 96, 3) := by decide +kernel
theorem d_Unpacker_readLength_99 : decode b_Unpacker_readLength 99 = .ok (.pop, 1) := by decide +kernel
theorem d_Unpacker_readLength_100 : decode b_Unpacker_readLength 100 = .ok (.iconst (-1), 1) := by decide +kernel
theorem d_Unpacker_readLength_101 : decode b_Unpacker_readLength 101 = .ok (.ireturn, 1) := by decide +kernel
theorem d_Unpacker_readLength_102 : decode b_Unpacker_readLength 102 = .ok (.iinc 3 1, 3) := by decide +kernel
theorem d_Unpacker_readLength_105 : decode b_Unpacker_readLength 105 = .ok (.goto (-101), 3) := by decide +kernel
theorem d_Unpacker_readLength_108 : decode b_Unpacker_readLength 108 = .ok (.aload_n 0, 1) := by decide +kernel
theorem d_Unpacker_readLength_109 : decode b_Unpacker_readLength 109 = .ok (.getfield 20, 3) := by decide +kernel
theorem d_Unpacker_readLength_112 : decode b_Unpacker_readLength 112 = .ok (.iconst 2, 1) := by decide +kernel
theorem d_Unpacker_readLength_113 : decode b_Unpacker_readLength 113 = .ok (.aload_n 0, 1) := by decide +kernel
theorem d_Unpacker_readLength_114 : decode b_Unpacker_readLength 114 = .ok (.getfield 20, 3) := by decide +kernel
theorem d_Unpacker_readLength_117 : decode b_Unpacker_readLength 117 = .ok (.getfield 77, 3) := by decide +kernel
theorem d_Unpacker_readLength_120 : decode b_Unpacker_readLength 120 = .ok (.invokevirtual 96, 3) := by decide +kernel
theorem d_Unpacker_readLength_123 : decode b_Unpacker_readLength 123 = .ok (.pop, 1) := by decide +kernel
theorem d_Unpacker_readLength_124 : decode b_Unpacker_readLength 124 = .ok (.iconst (-1), 1) := by decide +kernel
theorem d_Unpacker_readLength_125 : decode b_Unpacker_readLength 125 = .ok (.ireturn, 1) := by decide +kernel
theorem k1147 : (Jvm.Cond.code ({ cls := "RotationPress$Unpacker", name := "isLength", desc := "(I)Z" } : Jvm.MethodName) prog_12_method_13_code (1 : Nat) (Option.some Jvm.ClassFile.FieldType.boolean)) ∈ g_tbl := List.mem_filter.mpr ⟨List.mem_append_right (k2_sels lw_privs) (List.mem_append_right _ (List.mem_append_right _ (List.mem_append_right _ (List.mem_append_right _ (List.mem_append_left _ (List.mem_of_getElem? (l := tables_1_5) (i := 187) rfl)))))), rfl⟩
theorem k1145 : (Jvm.Cond.methodLink "RotationPress$Unpacker" (176 : Nat) ({ cls := "RotationPress$Unpacker", name := "isLength", desc := "(I)Z" } : Jvm.MethodName)) ∈ g_tbl := List.mem_filter.mpr ⟨List.mem_append_right (k2_sels lw_privs) (List.mem_append_right _ (List.mem_append_right _ (List.mem_append_right _ (List.mem_append_right _ (List.mem_append_left _ (List.mem_of_getElem? (l := tables_1_5) (i := 185) rfl)))))), rfl⟩
theorem k1146 : (Jvm.Cond.static ({ cls := "RotationPress$Unpacker", name := "isLength", desc := "(I)Z" } : Jvm.MethodName)) ∈ g_tbl := List.mem_filter.mpr ⟨List.mem_append_right (k2_sels lw_privs) (List.mem_append_right _ (List.mem_append_right _ (List.mem_append_right _ (List.mem_append_right _ (List.mem_append_left _ (List.mem_of_getElem? (l := tables_1_5) (i := 186) rfl)))))), rfl⟩
set_option maxRecDepth 100000 in
set_option maxHeartbeats 4000000 in
theorem m_Unpacker_readLength {C : gT} (hC : gOk C b_Unpacker_readLength R_Unpacker { frames := 2, cells := 0, slots := 0, locals := 43 } 7) (q_a0 : Nat) (r_a0_row : Nat) (q_a0_reader : Nat) (r_a0_check : Nat) (r_a0_list : Nat) (r_a0_tableList : Nat) (r_a0_tables : Nat) (r_a0_groupTables : Nat) (r_a0_last : Nat) (r_a0_nexts : Nat) (r_a0_slots : Nat) (x_a0_limit : Int32) (x_a0_most : Int32) (x_a0_blockAt : Int32) (x_a0_originAt : Int32) (x_a0_origin : Int32) (x_a0_blockCheck : Int32) (x_a0_tableCount : Int32) (x_a0_groupCount : Int32) (x_a0_lastCount : Int32) (q_a0_reader_row : Nat) (x_a0_reader_end : Int32) (x_a0_reader_at : Int32) (x_a0_reader_taken : Int32) (x_a0_reader_fault : Int32) (x_a0_reader_faultAt : Int32) (q_a0_reader_row_bytes : Nat) (x_a0_reader_row_count : Int32) (n_a0_reader_row_bytes : Nat) (f_a0_reader_row_bytes : (Nat → Int32)) (p1 : Int32) (out : (Int32 × Int32 × Int32 × Int32)) (hf : Unpacker_readLength_f x_a0_reader_end x_a0_reader_row_count n_a0_reader_row_bytes f_a0_reader_row_bytes p1 x_a0_reader_fault x_a0_reader_faultAt x_a0_reader_at = some out) (kr : ∀ (x : Unit) (o9 : (Int32 × Int32 × Int32 × Int32)) (pc : Nat) (lv : List (Nat × Value)), o9 = out → decode b_Unpacker_readLength pc = .ok (.ireturn, 1) → narrow .int (.int o9.1) = .int o9.1 → gAt C 0 0 [(q_a0, .inr (11, [.ref r_a0_row, .ref q_a0_reader, .ref r_a0_check, .ref r_a0_list, .ref r_a0_tableList, .ref r_a0_tables, .ref r_a0_groupTables, .ref r_a0_last, .ref r_a0_nexts, .ref r_a0_slots, .int x_a0_limit, .int x_a0_most, .int x_a0_blockAt, .int x_a0_originAt, .int x_a0_origin, .int x_a0_blockCheck, .int x_a0_tableCount, .int x_a0_groupCount, .int x_a0_lastCount])), (q_a0_reader, .inr (1, [.ref q_a0_reader_row, .int x_a0_reader_end, .int o9.2.2.2, .int x_a0_reader_taken, .int o9.2.1, .int o9.2.2.1])), (q_a0_reader_row, .inr (4, [.ref q_a0_reader_row_bytes, .int x_a0_reader_row_count])), (q_a0_reader_row_bytes, .inl (g_K C 0, n_a0_reader_row_bytes, .inl f_a0_reader_row_bytes))] lv pc [.int o9.1]) : gAt C 0 0 [(q_a0, .inr (11, [.ref r_a0_row, .ref q_a0_reader, .ref r_a0_check, .ref r_a0_list, .ref r_a0_tableList, .ref r_a0_tables, .ref r_a0_groupTables, .ref r_a0_last, .ref r_a0_nexts, .ref r_a0_slots, .int x_a0_limit, .int x_a0_most, .int x_a0_blockAt, .int x_a0_originAt, .int x_a0_origin, .int x_a0_blockCheck, .int x_a0_tableCount, .int x_a0_groupCount, .int x_a0_lastCount])), (q_a0_reader, .inr (1, [.ref q_a0_reader_row, .int x_a0_reader_end, .int x_a0_reader_at, .int x_a0_reader_taken, .int x_a0_reader_fault, .int x_a0_reader_faultAt])), (q_a0_reader_row, .inr (4, [.ref q_a0_reader_row_bytes, .int x_a0_reader_row_count])), (q_a0_reader_row_bytes, .inl (g_K C 0, n_a0_reader_row_bytes, .inl f_a0_reader_row_bytes))] [(0, .ref q_a0), (1, .int p1)] 0 [] := by
  unfold Unpacker_readLength_f at hf
  refine g_iload_n 0 hC (j := 1) (hj := rfl) (hd := d_Unpacker_readLength_0) ?_
  refine g_istore_n 1 hC (lv2 := [(2, .int p1), (0, .ref q_a0), (1, .int p1)]) (hn := (by decide)) (hl2 := rfl) (hd := d_Unpacker_readLength_1) ?_
  refine g_iconst 2 hC (0 : Int32) (by decide) d_Unpacker_readLength_2 ?_
  refine g_istore_n 3 hC (lv2 := [(3, .int (0 : Int32)), (2, .int p1), (0, .ref q_a0), (1, .int p1)]) (hn := (by decide)) (hl2 := rfl) (hd := d_Unpacker_readLength_3) ?_
  obtain ⟨u2, hu2, hf⟩ := bd_some hf
  have Xu2_0 : ∀ (v3 : (Int32 × Int32 × Int32 × Int32)), Sum.inl v3 = u2 → gAt C 0 0 [(q_a0, .inr (11, [.ref r_a0_row, .ref q_a0_reader, .ref r_a0_check, .ref r_a0_list, .ref r_a0_tableList, .ref r_a0_tables, .ref r_a0_groupTables, .ref r_a0_last, .ref r_a0_nexts, .ref r_a0_slots, .int x_a0_limit, .int x_a0_most, .int x_a0_blockAt, .int x_a0_originAt, .int x_a0_origin, .int x_a0_blockCheck, .int x_a0_tableCount, .int x_a0_groupCount, .int x_a0_lastCount])), (q_a0_reader, .inr (1, [.ref q_a0_reader_row, .int x_a0_reader_end, .int v3.2.2.2, .int x_a0_reader_taken, .int v3.2.1, .int v3.2.2.1])), (q_a0_reader_row, .inr (4, [.ref q_a0_reader_row_bytes, .int x_a0_reader_row_count])), (q_a0_reader_row_bytes, .inl (g_K C 0, n_a0_reader_row_bytes, .inl f_a0_reader_row_bytes))] [(2, .int v3.1)] 38 [] := by
    intro v3 hv
    rw [← hv] at hf
    have hf := el_l hf
    refine g_iload_n 38 hC (j := 0) (hj := rfl) (hd := d_Unpacker_readLength_38) ?_
    exact g_re [0, 1, 2, 3] [] rfl rfl rfl (kr () (v3.1, v3.2.1, v3.2.2.1, v3.2.2.2) 39 [] (Option.some.inj hf) d_Unpacker_readLength_39 rfl)
  have Xu2_1 : ∀ (v4 : (Int32 × Int32 × Int32)), Sum.inr (Sum.inl v4) = u2 → gAt C 0 0 [(q_a0, .inr (11, [.ref r_a0_row, .ref q_a0_reader, .ref r_a0_check, .ref r_a0_list, .ref r_a0_tableList, .ref r_a0_tables, .ref r_a0_groupTables, .ref r_a0_last, .ref r_a0_nexts, .ref r_a0_slots, .int x_a0_limit, .int x_a0_most, .int x_a0_blockAt, .int x_a0_originAt, .int x_a0_origin, .int x_a0_blockCheck, .int x_a0_tableCount, .int x_a0_groupCount, .int x_a0_lastCount])), (q_a0_reader, .inr (1, [.ref q_a0_reader_row, .int x_a0_reader_end, .int v4.2.2, .int x_a0_reader_taken, .int v4.1, .int v4.2.1])), (q_a0_reader_row, .inr (4, [.ref q_a0_reader_row_bytes, .int x_a0_reader_row_count])), (q_a0_reader_row_bytes, .inl (g_K C 0, n_a0_reader_row_bytes, .inl f_a0_reader_row_bytes))] [] 65 [] := by
    intro v4 hv
    rw [← hv] at hf
    have hf := el_r hf
    have hf := el_l hf
    refine g_iconst 65 hC (-1 : Int32) (by decide) d_Unpacker_readLength_65 ?_
    exact kr () ((-1 : Int32), v4.1, v4.2.1, v4.2.2) 66 [] (Option.some.inj hf) d_Unpacker_readLength_66 rfl
  have Xu2_2 : ∀ (v5 : (Int32 × Int32 × Int32 × Int32)), Sum.inr (Sum.inr (Sum.inl v5)) = u2 → gAt C 0 0 [(q_a0, .inr (11, [.ref r_a0_row, .ref q_a0_reader, .ref r_a0_check, .ref r_a0_list, .ref r_a0_tableList, .ref r_a0_tables, .ref r_a0_groupTables, .ref r_a0_last, .ref r_a0_nexts, .ref r_a0_slots, .int x_a0_limit, .int x_a0_most, .int x_a0_blockAt, .int x_a0_originAt, .int x_a0_origin, .int x_a0_blockCheck, .int x_a0_tableCount, .int x_a0_groupCount, .int x_a0_lastCount])), (q_a0_reader, .inr (1, [.ref q_a0_reader_row, .int x_a0_reader_end, .int v5.2.2.2, .int x_a0_reader_taken, .int v5.2.1, .int v5.2.2.1])), (q_a0_reader_row, .inr (4, [.ref q_a0_reader_row_bytes, .int x_a0_reader_row_count])), (q_a0_reader_row_bytes, .inl (g_K C 0, n_a0_reader_row_bytes, .inl f_a0_reader_row_bytes))] [(0, .ref q_a0), (4, .int v5.1)] 88 [] := by
    intro v5 hv
    rw [← hv] at hf
    have hf := el_r hf
    have hf := el_r hf
    have hf := el_l hf
    refine g_aload_n 88 hC (j := 0) (hj := rfl) (hd := d_Unpacker_readLength_88) ?_
    refine g_get 89 hC i_Unpacker rfl 0 rfl 1 (by decide) k359 rfl d_Unpacker_readLength_89 ?_
    refine g_bipush 92 hC (6 : Int32) (by decide) d_Unpacker_readLength_92 ?_
    refine g_iload 94 hC (j := 1) (hj := rfl) (hd := d_Unpacker_readLength_94) ?_
    obtain ⟨u6, hu6, hf⟩ := bd_some hf
    refine g_callVi 96 hC (c_BitReader_fail (g_l C) (g_D C) (g_K C) q_a0_reader q_a0_reader_row x_a0_reader_end v5.2.2.2 x_a0_reader_taken v5.2.1 v5.2.2.1 (6 : Int32) v5.1 u6 hu6) k1102 k13 k1104 k1100 k1101 2 rfl (by decide +kernel) (by decide) [1] [0, 2, 3] [(q_a0, .inr (11, [.ref r_a0_row, .ref q_a0_reader, .ref r_a0_check, .ref r_a0_list, .ref r_a0_tableList, .ref r_a0_tables, .ref r_a0_groupTables, .ref r_a0_last, .ref r_a0_nexts, .ref r_a0_slots, .int x_a0_limit, .int x_a0_most, .int x_a0_blockAt, .int x_a0_originAt, .int x_a0_origin, .int x_a0_blockCheck, .int x_a0_tableCount, .int x_a0_groupCount, .int x_a0_lastCount])), (q_a0_reader_row, .inr (4, [.ref q_a0_reader_row_bytes, .int x_a0_reader_row_count])), (q_a0_reader_row_bytes, .inl (g_K C 0, n_a0_reader_row_bytes, .inl f_a0_reader_row_bytes))] rfl rfl rfl rfl rfl 0 1 rfl rfl rfl rfl (Nat.le_of_ble_eq_true rfl) ⟨Nat.le_of_ble_eq_true rfl, Nat.le_of_ble_eq_true rfl⟩ (fun (_ : Unit) => [(q_a0, .inr (11, [.ref r_a0_row, .ref q_a0_reader, .ref r_a0_check, .ref r_a0_list, .ref r_a0_tableList, .ref r_a0_tables, .ref r_a0_groupTables, .ref r_a0_last, .ref r_a0_nexts, .ref r_a0_slots, .int x_a0_limit, .int x_a0_most, .int x_a0_blockAt, .int x_a0_originAt, .int x_a0_origin, .int x_a0_blockCheck, .int x_a0_tableCount, .int x_a0_groupCount, .int x_a0_lastCount])), (q_a0_reader_row, .inr (4, [.ref q_a0_reader_row_bytes, .int x_a0_reader_row_count])), (q_a0_reader_row_bytes, .inl (g_K C 0, n_a0_reader_row_bytes, .inl f_a0_reader_row_bytes)), (q_a0_reader, .inr (1, [.ref q_a0_reader_row, .int x_a0_reader_end, .int v5.2.2.2, .int x_a0_reader_taken, .int u6.2.1, .int u6.2.2]))]) (fun _ => rfl) d_Unpacker_readLength_96 0 0 rfl rfl (fun _ => ?_)
    refine g_pop 99 hC rfl d_Unpacker_readLength_99 ?_
    refine g_iconst 100 hC (-1 : Int32) (by decide) d_Unpacker_readLength_100 ?_
    exact g_re [0, 3, 1, 2] [] rfl rfl rfl (kr () ((-1 : Int32), u6.2.1, u6.2.2, v5.2.2.2) 101 [] (Option.some.inj hf) d_Unpacker_readLength_101 rfl)
  have Xu2_3 : ∀ (v7 : (Int32 × Int32 × Int32)), Sum.inr (Sum.inr (Sum.inr v7)) = u2 → gAt C 0 0 [(q_a0, .inr (11, [.ref r_a0_row, .ref q_a0_reader, .ref r_a0_check, .ref r_a0_list, .ref r_a0_tableList, .ref r_a0_tables, .ref r_a0_groupTables, .ref r_a0_last, .ref r_a0_nexts, .ref r_a0_slots, .int x_a0_limit, .int x_a0_most, .int x_a0_blockAt, .int x_a0_originAt, .int x_a0_origin, .int x_a0_blockCheck, .int x_a0_tableCount, .int x_a0_groupCount, .int x_a0_lastCount])), (q_a0_reader, .inr (1, [.ref q_a0_reader_row, .int x_a0_reader_end, .int v7.2.2, .int x_a0_reader_taken, .int v7.1, .int v7.2.1])), (q_a0_reader_row, .inr (4, [.ref q_a0_reader_row_bytes, .int x_a0_reader_row_count])), (q_a0_reader_row_bytes, .inl (g_K C 0, n_a0_reader_row_bytes, .inl f_a0_reader_row_bytes))] [(0, .ref q_a0)] 108 [] := by
    intro v7 hv
    rw [← hv] at hf
    have hf := el_r hf
    have hf := el_r hf
    have hf := el_r hf
    refine g_aload_n 108 hC (j := 0) (hj := rfl) (hd := d_Unpacker_readLength_108) ?_
    refine g_get 109 hC i_Unpacker rfl 0 rfl 1 (by decide) k359 rfl d_Unpacker_readLength_109 ?_
    refine g_iconst 112 hC (2 : Int32) (by decide) d_Unpacker_readLength_112 ?_
    refine g_aload_n 113 hC (j := 0) (hj := rfl) (hd := d_Unpacker_readLength_113) ?_
    refine g_get 114 hC i_Unpacker rfl 0 rfl 1 (by decide) k359 rfl d_Unpacker_readLength_114 ?_
    refine g_get 117 hC i_BitReader rfl 1 rfl 1 (by decide) k329 rfl d_Unpacker_readLength_117 ?_
    obtain ⟨u8, hu8, hf⟩ := bd_some hf
    refine g_callVi 120 hC (c_BitReader_fail (g_l C) (g_D C) (g_K C) q_a0_reader q_a0_reader_row x_a0_reader_end v7.2.2 x_a0_reader_taken v7.1 v7.2.1 (2 : Int32) x_a0_reader_end u8 hu8) k1102 k13 k1104 k1100 k1101 2 rfl (by decide +kernel) (by decide) [1] [0, 2, 3] [(q_a0, .inr (11, [.ref r_a0_row, .ref q_a0_reader, .ref r_a0_check, .ref r_a0_list, .ref r_a0_tableList, .ref r_a0_tables, .ref r_a0_groupTables, .ref r_a0_last, .ref r_a0_nexts, .ref r_a0_slots, .int x_a0_limit, .int x_a0_most, .int x_a0_blockAt, .int x_a0_originAt, .int x_a0_origin, .int x_a0_blockCheck, .int x_a0_tableCount, .int x_a0_groupCount, .int x_a0_lastCount])), (q_a0_reader_row, .inr (4, [.ref q_a0_reader_row_bytes, .int x_a0_reader_row_count])), (q_a0_reader_row_bytes, .inl (g_K C 0, n_a0_reader_row_bytes, .inl f_a0_reader_row_bytes))] rfl rfl rfl rfl rfl 0 1 rfl rfl rfl rfl (Nat.le_of_ble_eq_true rfl) ⟨Nat.le_of_ble_eq_true rfl, Nat.le_of_ble_eq_true rfl⟩ (fun (_ : Unit) => [(q_a0, .inr (11, [.ref r_a0_row, .ref q_a0_reader, .ref r_a0_check, .ref r_a0_list, .ref r_a0_tableList, .ref r_a0_tables, .ref r_a0_groupTables, .ref r_a0_last, .ref r_a0_nexts, .ref r_a0_slots, .int x_a0_limit, .int x_a0_most, .int x_a0_blockAt, .int x_a0_originAt, .int x_a0_origin, .int x_a0_blockCheck, .int x_a0_tableCount, .int x_a0_groupCount, .int x_a0_lastCount])), (q_a0_reader_row, .inr (4, [.ref q_a0_reader_row_bytes, .int x_a0_reader_row_count])), (q_a0_reader_row_bytes, .inl (g_K C 0, n_a0_reader_row_bytes, .inl f_a0_reader_row_bytes)), (q_a0_reader, .inr (1, [.ref q_a0_reader_row, .int x_a0_reader_end, .int v7.2.2, .int x_a0_reader_taken, .int u8.2.1, .int u8.2.2]))]) (fun _ => rfl) d_Unpacker_readLength_120 0 0 rfl rfl (fun _ => ?_)
    refine g_pop 123 hC rfl d_Unpacker_readLength_123 ?_
    refine g_iconst 124 hC (-1 : Int32) (by decide) d_Unpacker_readLength_124 ?_
    exact g_re [0, 3, 1, 2] [] rfl rfl rfl (kr () ((-1 : Int32), u8.2.1, u8.2.2, v7.2.2) 125 [] (Option.some.inj hf) d_Unpacker_readLength_125 rfl)
  have Gu2 := lp_ind (b := (Unpacker_readLength_L4 x_a0_reader_end x_a0_reader_row_count n_a0_reader_row_bytes f_a0_reader_row_bytes)) (G := fun (s1 : (Int32 × Int32 × Int32 × Int32 × Int32)) => gAt C 0 0 [(q_a0, .inr (11, [.ref r_a0_row, .ref q_a0_reader, .ref r_a0_check, .ref r_a0_list, .ref r_a0_tableList, .ref r_a0_tables, .ref r_a0_groupTables, .ref r_a0_last, .ref r_a0_nexts, .ref r_a0_slots, .int x_a0_limit, .int x_a0_most, .int x_a0_blockAt, .int x_a0_originAt, .int x_a0_origin, .int x_a0_blockCheck, .int x_a0_tableCount, .int x_a0_groupCount, .int x_a0_lastCount])), (q_a0_reader, .inr (1, [.ref q_a0_reader_row, .int x_a0_reader_end, .int s1.2.2.2.2, .int x_a0_reader_taken, .int s1.2.2.1, .int s1.2.2.2.1])), (q_a0_reader_row, .inr (4, [.ref q_a0_reader_row_bytes, .int x_a0_reader_row_count])), (q_a0_reader_row_bytes, .inl (g_K C 0, n_a0_reader_row_bytes, .inl f_a0_reader_row_bytes))] [(0, .ref q_a0), (2, .int s1.1), (3, .int s1.2.1)] 4 []) (o := u2) (by
      intro s1 u9 hf hI hX
      unfold Unpacker_readLength_L4 at hf
      have J79 : ∀ (j79_0 : Int32) (j79_1 : Int32) (j79_2 : Int32) (j79_3 : Int32) (j79_4 : Int32) (j79_5 : Int32), Unpacker_readLength_J79 s1 j79_0 j79_1 j79_2 j79_3 j79_4 j79_5 = some u9 → gAt C 0 0 [(q_a0, .inr (11, [.ref r_a0_row, .ref q_a0_reader, .ref r_a0_check, .ref r_a0_list, .ref r_a0_tableList, .ref r_a0_tables, .ref r_a0_groupTables, .ref r_a0_last, .ref r_a0_nexts, .ref r_a0_slots, .int x_a0_limit, .int x_a0_most, .int x_a0_blockAt, .int x_a0_originAt, .int x_a0_origin, .int x_a0_blockCheck, .int x_a0_tableCount, .int x_a0_groupCount, .int x_a0_lastCount])), (q_a0_reader, .inr (1, [.ref q_a0_reader_row, .int x_a0_reader_end, .int j79_5, .int x_a0_reader_taken, .int j79_3, .int j79_4])), (q_a0_reader_row, .inr (4, [.ref q_a0_reader_row_bytes, .int x_a0_reader_row_count])), (q_a0_reader_row_bytes, .inl (g_K C 0, n_a0_reader_row_bytes, .inl f_a0_reader_row_bytes))] [(0, .ref q_a0), (3, .int s1.2.1), (4, .int j79_0)] 79 [.int j79_1, .int j79_2] := by
        intro j79_0 j79_1 j79_2 j79_3 j79_4 j79_5 hf
        unfold Unpacker_readLength_J79 at hf
        refine g_iadd 79 hC d_Unpacker_readLength_79 ?_
        refine g_istore_n 80 hC (lv2 := [(2, .int (j79_2 + j79_1)), (0, .ref q_a0), (3, .int s1.2.1), (4, .int j79_0)]) (hn := (by decide)) (hl2 := rfl) (hd := d_Unpacker_readLength_80) ?_
        refine g_iload_n 81 hC (j := 0) (hj := rfl) (hd := d_Unpacker_readLength_81) ?_
        obtain ⟨u10, hu10, hf⟩ := bd_some hf
        refine g_callSi 82 hC (c_Unpacker_isLength (g_l C) (g_D C) (g_K C) (j79_2 + j79_1) u10 hu10) k1147 k12 k1145 k1146 1 rfl (by decide +kernel) (by decide) [] [0, 1, 2, 3] [(q_a0, .inr (11, [.ref r_a0_row, .ref q_a0_reader, .ref r_a0_check, .ref r_a0_list, .ref r_a0_tableList, .ref r_a0_tables, .ref r_a0_groupTables, .ref r_a0_last, .ref r_a0_nexts, .ref r_a0_slots, .int x_a0_limit, .int x_a0_most, .int x_a0_blockAt, .int x_a0_originAt, .int x_a0_origin, .int x_a0_blockCheck, .int x_a0_tableCount, .int x_a0_groupCount, .int x_a0_lastCount])), (q_a0_reader, .inr (1, [.ref q_a0_reader_row, .int x_a0_reader_end, .int j79_5, .int x_a0_reader_taken, .int j79_3, .int j79_4])), (q_a0_reader_row, .inr (4, [.ref q_a0_reader_row_bytes, .int x_a0_reader_row_count])), (q_a0_reader_row_bytes, .inl (g_K C 0, n_a0_reader_row_bytes, .inl f_a0_reader_row_bytes))] rfl rfl rfl rfl rfl rfl (Nat.le_of_ble_eq_true rfl) ⟨Nat.le_of_ble_eq_true rfl, Nat.le_of_ble_eq_true rfl⟩ (fun (_ : Unit) => [(q_a0, .inr (11, [.ref r_a0_row, .ref q_a0_reader, .ref r_a0_check, .ref r_a0_list, .ref r_a0_tableList, .ref r_a0_tables, .ref r_a0_groupTables, .ref r_a0_last, .ref r_a0_nexts, .ref r_a0_slots, .int x_a0_limit, .int x_a0_most, .int x_a0_blockAt, .int x_a0_originAt, .int x_a0_origin, .int x_a0_blockCheck, .int x_a0_tableCount, .int x_a0_groupCount, .int x_a0_lastCount])), (q_a0_reader, .inr (1, [.ref q_a0_reader_row, .int x_a0_reader_end, .int j79_5, .int x_a0_reader_taken, .int j79_3, .int j79_4])), (q_a0_reader_row, .inr (4, [.ref q_a0_reader_row_bytes, .int x_a0_reader_row_count])), (q_a0_reader_row_bytes, .inl (g_K C 0, n_a0_reader_row_bytes, .inl f_a0_reader_row_bytes))]) (fun _ => rfl) d_Unpacker_readLength_82 0 0 rfl rfl (fun _ => ?_)
        refine g_if_ne 85 hC 102 (by decide) d_Unpacker_readLength_85 (fun c11 => ?_) (fun c11 => ?_)
        · have hf := it_f c11 hf
          refine g_iinc 102 hC 2 (1 : Int32) [(3, .int (s1.2.1 + (1 : Int32))), (2, .int (j79_2 + j79_1)), (0, .ref q_a0), (4, .int j79_0)] rfl (by decide) (by decide) rfl d_Unpacker_readLength_102 ?_
          refine g_goto 105 hC 4 (by decide) d_Unpacker_readLength_105 ?_
          exact g_re [0, 1, 2, 3] [2, 1, 0] rfl rfl rfl (hI ((j79_2 + j79_1), (s1.2.1 + (1 : Int32)), j79_3, j79_4, j79_5) hf)
        · have hf := it_t c11 hf
          exact g_re [0, 1, 2, 3] [1, 3] rfl rfl rfl (Xu2_2 (j79_0, j79_3, j79_4, j79_5) (hX (Sum.inr (Sum.inr (Sum.inl (j79_0, j79_3, j79_4, j79_5)))) hf))
      have J57 : ∀ (j57_0 : Int32) (j57_1 : Int32) (j57_2 : Int32) (j57_3 : Int32) (j57_4 : Int32), Unpacker_readLength_J57 s1 j57_0 j57_1 j57_2 j57_3 j57_4 = some u9 → gAt C 0 0 [(q_a0, .inr (11, [.ref r_a0_row, .ref q_a0_reader, .ref r_a0_check, .ref r_a0_list, .ref r_a0_tableList, .ref r_a0_tables, .ref r_a0_groupTables, .ref r_a0_last, .ref r_a0_nexts, .ref r_a0_slots, .int x_a0_limit, .int x_a0_most, .int x_a0_blockAt, .int x_a0_originAt, .int x_a0_origin, .int x_a0_blockCheck, .int x_a0_tableCount, .int x_a0_groupCount, .int x_a0_lastCount])), (q_a0_reader, .inr (1, [.ref q_a0_reader_row, .int x_a0_reader_end, .int j57_4, .int x_a0_reader_taken, .int j57_2, .int j57_3])), (q_a0_reader_row, .inr (4, [.ref q_a0_reader_row_bytes, .int x_a0_reader_row_count])), (q_a0_reader_row_bytes, .inl (g_K C 0, n_a0_reader_row_bytes, .inl f_a0_reader_row_bytes))] [(0, .ref q_a0), (2, .int s1.1), (3, .int s1.2.1), (4, .int j57_0)] 57 [.int j57_1] := by
        intro j57_0 j57_1 j57_2 j57_3 j57_4 hf
        unfold Unpacker_readLength_J57 at hf
        refine g_istore 57 hC (lv2 := [(6, .int j57_1), (0, .ref q_a0), (2, .int s1.1), (3, .int s1.2.1), (4, .int j57_0)]) (hn := (by decide)) (hl2 := rfl) (hd := d_Unpacker_readLength_57) ?_
        refine g_iload 59 hC (j := 0) (hj := rfl) (hd := d_Unpacker_readLength_59) ?_
        refine g_iconst 61 hC (-1 : Int32) (by decide) d_Unpacker_readLength_61 ?_
        refine g_icmp_ne 62 hC 67 (by decide) d_Unpacker_readLength_62 (fun c12 => ?_) (fun c12 => ?_)
        · have hf := it_f c12 hf
          refine g_iload_n 67 hC (j := 2) (hj := rfl) (hd := d_Unpacker_readLength_67) ?_
          refine g_iload 68 hC (j := 0) (hj := rfl) (hd := d_Unpacker_readLength_68) ?_
          refine g_iconst 70 hC (1 : Int32) (by decide) d_Unpacker_readLength_70 ?_
          refine g_icmp_ne 71 hC 78 (by decide) d_Unpacker_readLength_71 (fun c13 => ?_) (fun c13 => ?_)
          · have hf := it_f c13 hf
            refine g_iconst 78 hC (1 : Int32) (by decide) d_Unpacker_readLength_78 ?_
            exact g_re [0, 1, 2, 3] [1, 3, 4] rfl rfl rfl (J79 j57_0 (1 : Int32) s1.1 j57_2 j57_3 j57_4 hf)
          · have hf := it_t c13 hf
            refine g_iconst 74 hC (-1 : Int32) (by decide) d_Unpacker_readLength_74 ?_
            refine g_goto 75 hC 79 (by decide) d_Unpacker_readLength_75 ?_
            exact g_re [0, 1, 2, 3] [1, 3, 4] rfl rfl rfl (J79 j57_0 (-1 : Int32) s1.1 j57_2 j57_3 j57_4 hf)
        · have hf := it_t c12 hf
          exact g_re [0, 1, 2, 3] [] rfl rfl rfl (Xu2_1 (j57_2, j57_3, j57_4) (hX (Sum.inr (Sum.inl (j57_2, j57_3, j57_4))) hf))
      refine g_iload_n 4 hC (j := 2) (hj := rfl) (hd := d_Unpacker_readLength_4) ?_
      refine g_aload_n 5 hC (j := 0) (hj := rfl) (hd := d_Unpacker_readLength_5) ?_
      refine g_get 6 hC i_Unpacker rfl 0 rfl 1 (by decide) k359 rfl d_Unpacker_readLength_6 ?_
      refine g_get 9 hC i_BitReader rfl 1 rfl 1 (by decide) k329 rfl d_Unpacker_readLength_9 ?_
      refine g_icmp_ge 12 hC 108 (by decide) d_Unpacker_readLength_12 (fun c14 => ?_) (fun c14 => ?_)
      · have hf := it_t c14 hf
        exact g_re [0, 1, 2, 3] [0] rfl rfl rfl (Xu2_3 (s1.2.2.1, s1.2.2.2.1, s1.2.2.2.2) (hX (Sum.inr (Sum.inr (Sum.inr (s1.2.2.1, s1.2.2.2.1, s1.2.2.2.2)))) hf))
      · have hf := it_f c14 hf
        refine g_aload_n 15 hC (j := 0) (hj := rfl) (hd := d_Unpacker_readLength_15) ?_
        refine g_get 16 hC i_Unpacker rfl 0 rfl 1 (by decide) k359 rfl d_Unpacker_readLength_16 ?_
        refine g_get 19 hC i_BitReader rfl 1 rfl 2 (by decide) k331 rfl d_Unpacker_readLength_19 ?_
        refine g_istore 22 hC (lv2 := [(4, .int s1.2.2.2.2), (0, .ref q_a0), (2, .int s1.1), (3, .int s1.2.1)]) (hn := (by decide)) (hl2 := rfl) (hd := d_Unpacker_readLength_22) ?_
        refine g_aload_n 24 hC (j := 1) (hj := rfl) (hd := d_Unpacker_readLength_24) ?_
        refine g_get 25 hC i_Unpacker rfl 0 rfl 1 (by decide) k359 rfl d_Unpacker_readLength_25 ?_
        obtain ⟨u15, hu15, hf⟩ := bd_some hf
        refine g_callVi 28 hC (c_BitReader_bit (g_l C) (g_D C) (g_K C) q_a0_reader q_a0_reader_row x_a0_reader_end s1.2.2.2.2 x_a0_reader_taken s1.2.2.1 s1.2.2.2.1 q_a0_reader_row_bytes x_a0_reader_row_count n_a0_reader_row_bytes f_a0_reader_row_bytes u15 hu15) k1098 k13 k1135 k1096 k1097 0 rfl (by decide +kernel) (by decide) [1, 2, 3] [0] [(q_a0, .inr (11, [.ref r_a0_row, .ref q_a0_reader, .ref r_a0_check, .ref r_a0_list, .ref r_a0_tableList, .ref r_a0_tables, .ref r_a0_groupTables, .ref r_a0_last, .ref r_a0_nexts, .ref r_a0_slots, .int x_a0_limit, .int x_a0_most, .int x_a0_blockAt, .int x_a0_originAt, .int x_a0_origin, .int x_a0_blockCheck, .int x_a0_tableCount, .int x_a0_groupCount, .int x_a0_lastCount]))] rfl rfl rfl rfl rfl 0 1 rfl rfl rfl rfl (Nat.le_of_ble_eq_true rfl) ⟨Nat.le_of_ble_eq_true rfl, Nat.le_of_ble_eq_true rfl⟩ (fun (_ : Unit) => [(q_a0, .inr (11, [.ref r_a0_row, .ref q_a0_reader, .ref r_a0_check, .ref r_a0_list, .ref r_a0_tableList, .ref r_a0_tables, .ref r_a0_groupTables, .ref r_a0_last, .ref r_a0_nexts, .ref r_a0_slots, .int x_a0_limit, .int x_a0_most, .int x_a0_blockAt, .int x_a0_originAt, .int x_a0_origin, .int x_a0_blockCheck, .int x_a0_tableCount, .int x_a0_groupCount, .int x_a0_lastCount])), (q_a0_reader, .inr (1, [.ref q_a0_reader_row, .int x_a0_reader_end, .int u15.2.2.2, .int x_a0_reader_taken, .int u15.2.1, .int u15.2.2.1])), (q_a0_reader_row, .inr (4, [.ref q_a0_reader_row_bytes, .int x_a0_reader_row_count])), (q_a0_reader_row_bytes, .inl (g_K C 0, n_a0_reader_row_bytes, .inl f_a0_reader_row_bytes))]) (fun _ => rfl) d_Unpacker_readLength_28 0 0 rfl rfl (fun _ => ?_)
        refine g_istore 31 hC (lv2 := [(5, .int u15.1), (4, .int s1.2.2.2.2), (0, .ref q_a0), (2, .int s1.1), (3, .int s1.2.1)]) (hn := (by decide)) (hl2 := rfl) (hd := d_Unpacker_readLength_31) ?_
        refine g_iload 33 hC (j := 0) (hj := rfl) (hd := d_Unpacker_readLength_33) ?_
        refine g_if_ne 35 hC 40 (by decide) d_Unpacker_readLength_35 (fun c16 => ?_) (fun c16 => ?_)
        · have hf := it_f c16 hf
          refine g_iload 40 hC (j := 0) (hj := rfl) (hd := d_Unpacker_readLength_40) ?_
          refine g_iconst 42 hC (-1 : Int32) (by decide) d_Unpacker_readLength_42 ?_
          refine g_icmp_ne 43 hC 50 (by decide) d_Unpacker_readLength_43 (fun c17 => ?_) (fun c17 => ?_)
          · have hf := it_f c17 hf
            refine g_aload_n 50 hC (j := 2) (hj := rfl) (hd := d_Unpacker_readLength_50) ?_
            refine g_get 51 hC i_Unpacker rfl 0 rfl 1 (by decide) k359 rfl d_Unpacker_readLength_51 ?_
            obtain ⟨u18, hu18, hf⟩ := bd_some hf
            refine g_callVi 54 hC (c_BitReader_bit (g_l C) (g_D C) (g_K C) q_a0_reader q_a0_reader_row x_a0_reader_end u15.2.2.2 x_a0_reader_taken u15.2.1 u15.2.2.1 q_a0_reader_row_bytes x_a0_reader_row_count n_a0_reader_row_bytes f_a0_reader_row_bytes u18 hu18) k1098 k13 k1135 k1096 k1097 0 rfl (by decide +kernel) (by decide) [1, 2, 3] [0] [(q_a0, .inr (11, [.ref r_a0_row, .ref q_a0_reader, .ref r_a0_check, .ref r_a0_list, .ref r_a0_tableList, .ref r_a0_tables, .ref r_a0_groupTables, .ref r_a0_last, .ref r_a0_nexts, .ref r_a0_slots, .int x_a0_limit, .int x_a0_most, .int x_a0_blockAt, .int x_a0_originAt, .int x_a0_origin, .int x_a0_blockCheck, .int x_a0_tableCount, .int x_a0_groupCount, .int x_a0_lastCount]))] rfl rfl rfl rfl rfl 0 1 rfl rfl rfl rfl (Nat.le_of_ble_eq_true rfl) ⟨Nat.le_of_ble_eq_true rfl, Nat.le_of_ble_eq_true rfl⟩ (fun (_ : Unit) => [(q_a0, .inr (11, [.ref r_a0_row, .ref q_a0_reader, .ref r_a0_check, .ref r_a0_list, .ref r_a0_tableList, .ref r_a0_tables, .ref r_a0_groupTables, .ref r_a0_last, .ref r_a0_nexts, .ref r_a0_slots, .int x_a0_limit, .int x_a0_most, .int x_a0_blockAt, .int x_a0_originAt, .int x_a0_origin, .int x_a0_blockCheck, .int x_a0_tableCount, .int x_a0_groupCount, .int x_a0_lastCount])), (q_a0_reader, .inr (1, [.ref q_a0_reader_row, .int x_a0_reader_end, .int u18.2.2.2, .int x_a0_reader_taken, .int u18.2.1, .int u18.2.2.1])), (q_a0_reader_row, .inr (4, [.ref q_a0_reader_row_bytes, .int x_a0_reader_row_count])), (q_a0_reader_row_bytes, .inl (g_K C 0, n_a0_reader_row_bytes, .inl f_a0_reader_row_bytes))]) (fun _ => rfl) d_Unpacker_readLength_54 0 0 rfl rfl (fun _ => ?_)
            exact g_re [0, 1, 2, 3] [2, 3, 4, 1] rfl rfl rfl (J57 s1.2.2.2.2 u18.1 u18.2.1 u18.2.2.1 u18.2.2.2 hf)
          · have hf := it_t c17 hf
            refine g_iconst 46 hC (-1 : Int32) (by decide) d_Unpacker_readLength_46 ?_
            refine g_goto 47 hC 57 (by decide) d_Unpacker_readLength_47 ?_
            exact g_re [0, 1, 2, 3] [2, 3, 4, 1] rfl rfl rfl (J57 s1.2.2.2.2 (-1 : Int32) u15.2.1 u15.2.2.1 u15.2.2.2 hf)
        · have hf := it_t c16 hf
          exact g_re [0, 1, 2, 3] [3] rfl rfl rfl (Xu2_0 (s1.1, u15.2.1, u15.2.2.1, u15.2.2.2) (hX (Sum.inl (s1.1, u15.2.1, u15.2.2.1, u15.2.2.2)) hf))) gas
  exact g_re [0, 1, 2, 3] [2, 1, 0] rfl rfl rfl (Gu2 (p1, (0 : Int32), x_a0_reader_fault, x_a0_reader_faultAt, x_a0_reader_at) hu2)
theorem c_Unpacker_readLength (l : Launch) (D : va_G) (K : Nat → ClassId) (q_a0 : Nat) (r_a0_row : Nat) (q_a0_reader : Nat) (r_a0_check : Nat) (r_a0_list : Nat) (r_a0_tableList : Nat) (r_a0_tables : Nat) (r_a0_groupTables : Nat) (r_a0_last : Nat) (r_a0_nexts : Nat) (r_a0_slots : Nat) (x_a0_limit : Int32) (x_a0_most : Int32) (x_a0_blockAt : Int32) (x_a0_originAt : Int32) (x_a0_origin : Int32) (x_a0_blockCheck : Int32) (x_a0_tableCount : Int32) (x_a0_groupCount : Int32) (x_a0_lastCount : Int32) (q_a0_reader_row : Nat) (x_a0_reader_end : Int32) (x_a0_reader_at : Int32) (x_a0_reader_taken : Int32) (x_a0_reader_fault : Int32) (x_a0_reader_faultAt : Int32) (q_a0_reader_row_bytes : Nat) (x_a0_reader_row_count : Int32) (n_a0_reader_row_bytes : Nat) (f_a0_reader_row_bytes : (Nat → Int32)) (p1 : Int32) (out : (Int32 × Int32 × Int32 × Int32)) (hf : Unpacker_readLength_f x_a0_reader_end x_a0_reader_row_count n_a0_reader_row_bytes f_a0_reader_row_bytes p1 x_a0_reader_fault x_a0_reader_faultAt x_a0_reader_at = some out) : Ci l D K y_Unpacker_readLength (g_wd y_Unpacker_readLength b_Unpacker_readLength 7 (some .int)) { frames := 2, cells := 0, slots := 0, locals := 43 } [.ref q_a0, .int p1] [(q_a0, .inr (11, [.ref r_a0_row, .ref q_a0_reader, .ref r_a0_check, .ref r_a0_list, .ref r_a0_tableList, .ref r_a0_tables, .ref r_a0_groupTables, .ref r_a0_last, .ref r_a0_nexts, .ref r_a0_slots, .int x_a0_limit, .int x_a0_most, .int x_a0_blockAt, .int x_a0_originAt, .int x_a0_origin, .int x_a0_blockCheck, .int x_a0_tableCount, .int x_a0_groupCount, .int x_a0_lastCount])), (q_a0_reader, .inr (1, [.ref q_a0_reader_row, .int x_a0_reader_end, .int x_a0_reader_at, .int x_a0_reader_taken, .int x_a0_reader_fault, .int x_a0_reader_faultAt])), (q_a0_reader_row, .inr (4, [.ref q_a0_reader_row_bytes, .int x_a0_reader_row_count])), (q_a0_reader_row_bytes, .inl (K 0, n_a0_reader_row_bytes, .inl f_a0_reader_row_bytes))] (fun (x : Unit) => [(q_a0, .inr (11, [.ref r_a0_row, .ref q_a0_reader, .ref r_a0_check, .ref r_a0_list, .ref r_a0_tableList, .ref r_a0_tables, .ref r_a0_groupTables, .ref r_a0_last, .ref r_a0_nexts, .ref r_a0_slots, .int x_a0_limit, .int x_a0_most, .int x_a0_blockAt, .int x_a0_originAt, .int x_a0_origin, .int x_a0_blockCheck, .int x_a0_tableCount, .int x_a0_groupCount, .int x_a0_lastCount])), (q_a0_reader, .inr (1, [.ref q_a0_reader_row, .int x_a0_reader_end, .int out.2.2.2, .int x_a0_reader_taken, .int out.2.1, .int out.2.2.1])), (q_a0_reader_row, .inr (4, [.ref q_a0_reader_row_bytes, .int x_a0_reader_row_count])), (q_a0_reader_row_bytes, .inl (K 0, n_a0_reader_row_bytes, .inl f_a0_reader_row_bytes))]) out.1 := mk_i (by decide) (Nat.le_of_ble_eq_true rfl) (fun p e s m below meth c A Q hC kr => m_Unpacker_readLength hC q_a0 r_a0_row q_a0_reader r_a0_check r_a0_list r_a0_tableList r_a0_tables r_a0_groupTables r_a0_last r_a0_nexts r_a0_slots x_a0_limit x_a0_most x_a0_blockAt x_a0_originAt x_a0_origin x_a0_blockCheck x_a0_tableCount x_a0_groupCount x_a0_lastCount q_a0_reader_row x_a0_reader_end x_a0_reader_at x_a0_reader_taken x_a0_reader_fault x_a0_reader_faultAt q_a0_reader_row_bytes x_a0_reader_row_count n_a0_reader_row_bytes f_a0_reader_row_bytes p1 out hf (fun x o9 pc lv ho => by subst ho; exact kr x pc lv))
