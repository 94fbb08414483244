abbrev b_CodeTable_read : ByteArray := prog_7_method_3_code
def y_CodeTable_read : MethodName := ⟨R_CodeTable, "read", "(LRotationPress$BitReader;)I"⟩
theorem d_CodeTable_read_0 : decode b_CodeTable_read 0 = .ok (.aload_n 1, 1) := by decide +kernel
theorem d_CodeTable_read_1 : decode b_CodeTable_read 1 = .ok (.getfield 44, 3) := by decide +kernel
theorem d_CodeTable_read_4 : decode b_CodeTable_read 4 = .ok (.istore_n 2, 1) := by decide +kernel
theorem d_CodeTable_read_5 : decode b_CodeTable_read 5 = .ok (.iconst 0, 1) := by decide +kernel
theorem d_CodeTable_read_6 : decode b_CodeTable_read 6 = .ok (.istore_n 3, 1) := by decide +kernel
theorem d_CodeTable_read_7 : decode b_CodeTable_read 7 = .ok (.iconst 1, 1) := by decide +kernel
theorem d_CodeTable_read_8 : decode b_CodeTable_read 8 = .ok (.istore 4, 2) := by decide +kernel
theorem d_CodeTable_read_10 : decode b_CodeTable_read 10 = .ok (.iload 4, 2) := by decide +kernel
theorem d_CodeTable_read_12 : decode b_CodeTable_read 12 = .ok (.bipush 20, 2) := by decide +kernel
theorem d_CodeTable_read_14 : decode b_CodeTable_read 14 = .ok (.if_icmp .gt 91, 3) := by decide +kernel
theorem d_CodeTable_read_17 : decode b_CodeTable_read 17 = .ok (.aload_n 1, 1) := by decide +kernel
theorem d_CodeTable_read_18 : decode b_CodeTable_read 18 = .ok (.invokevirtual 49, 3) := by decide +kernel
theorem d_CodeTable_read_21 : decode b_CodeTable_read 21 = .ok (.istore 5, 2) := by decide +kernel
theorem d_CodeTable_read_23 : decode b_CodeTable_read 23 = .ok (.iload 5, 2) := by decide +kernel
theorem d_CodeTable_read_25 : decode b_CodeTable_read 25 = .ok (.iconst (-1), 1) := by decide +kernel
theorem d_CodeTable_read_26 : decode b_CodeTable_read 26 = .ok (.if_icmp .ne 5, 3) := by decide +kernel
theorem d_CodeTable_read_29 : decode b_CodeTable_read 29 = .ok (.iconst (-1), 1) := by decide +kernel
theorem d_CodeTable_read_30 : decode b_CodeTable_read 30 = .ok (.ireturn, 1) := by decide +kernel
theorem d_CodeTable_read_31 : decode b_CodeTable_read 31 = .ok (.iload_n 3, 1) := by decide +kernel
theorem d_CodeTable_read_32 : decode b_CodeTable_read 32 = .ok (.iconst 1, 1) := by decide +kernel
theorem d_CodeTable_read_33 : decode b_CodeTable_read 33 = .ok (.ishl, 1) := by decide +kernel
theorem d_CodeTable_read_34 : decode b_CodeTable_read 34 = .ok (.iload 5, 2) := by decide +kernel
theorem d_CodeTable_read_36 : decode b_CodeTable_read 36 = .ok (.ior, 1) := by decide +kernel
theorem d_CodeTable_read_37 : decode b_CodeTable_read 37 = .ok (.istore_n 3, 1) := by decide +kernel
theorem d_CodeTable_read_38 : decode b_CodeTable_read 38 = .ok (.iload_n 3, 1) := by decide +kernel
theorem d_CodeTable_read_39 : decode b_CodeTable_read 39 = .ok (.aload_n 0, 1) := by decide +kernel
theorem d_CodeTable_read_40 : decode b_CodeTable_read 40 = .ok (.getfield 24, 3) := by decide +kernel
theorem d_CodeTable_read_43 : decode b_CodeTable_read 43 = .ok (.iload 4, 2) := by decide +kernel
theorem d_CodeTable_read_45 : decode b_CodeTable_read 45 = .ok (.iaload, 1) := by decide +kernel
theorem d_CodeTable_read_46 : decode b_CodeTable_read 46 = .ok (.isub, 1) := by decide +kernel
theorem d_CodeTable_read_47 : decode b_CodeTable_read 47 = .ok (.istore 6, 2) := by decide +kernel
theorem d_CodeTable_read_49 : decode b_CodeTable_read 49 = .ok (.iload 6, 2) := by decide +kernel
theorem d_CodeTable_read_51 : decode b_CodeTable_read 51 = .ok (.ifCond .lt 31, 3) := by decide +kernel
theorem d_CodeTable_read_54 : decode b_CodeTable_read 54 = .ok (.iload 6, 2) := by decide +kernel
theorem d_CodeTable_read_56 : decode b_CodeTable_read 56 = .ok (.aload_n 0, 1) := by decide +kernel
theorem d_CodeTable_read_57 : decode b_CodeTable_read 57 = .ok (.getfield 21, 3) := by decide +kernel
theorem d_CodeTable_read_60 : decode b_CodeTable_read 60 = .ok (.iload 4, 2) := by decide +kernel
theorem d_CodeTable_read_62 : decode b_CodeTable_read 62 = .ok (.iaload, 1) := by decide +kernel
theorem d_CodeTable_read_63 : decode b_CodeTable_read 63 = .ok (.if_icmp .ge 19, 3) := by decide +kernel
theorem d_CodeTable_read_66 : decode b_CodeTable_read 66 = .ok (.aload_n 0, 1) := by decide +kernel
theorem d_CodeTable_read_67 : decode b_CodeTable_read 67 = .ok (.getfield 18, 3) := by decide +kernel
theorem d_CodeTable_read_70 : decode b_CodeTable_read 70 = .ok (.aload_n 0, 1) := by decide +kernel
theorem d_CodeTable_read_71 : decode b_CodeTable_read 71 = .ok (.getfield 27, 3) := by decide +kernel
theorem d_CodeTable_read_74 : decode b_CodeTable_read 74 = .ok (.iload 4, 2) := by decide +kernel
theorem d_CodeTable_read_76 : decode b_CodeTable_read 76 = .ok (.iaload, 1) := by decide +kernel
theorem d_CodeTable_read_77 : decode b_CodeTable_read 77 = .ok (.iload 6, 2) := by decide +kernel
theorem d_CodeTable_read_79 : decode b_CodeTable_read 79 = .ok (.iadd, 1) := by decide +kernel
theorem d_CodeTable_read_80 : decode b_CodeTable_read 80 = .ok (.iaload, 1) := by decide +kernel
theorem d_CodeTable_read_81 : decode b_CodeTable_read 81 = .ok (.ireturn, 1) := by decide +kernel
theorem d_CodeTable_read_82 : decode b_CodeTable_read 82 = .ok (.iload_n 3, 1) := by decide +kernel
theorem d_CodeTable_read_83 : decode b_CodeTable_read 83 = .ok (.bipush 20, 2) := by decide +kernel
theorem d_CodeTable_read_85 : decode b_CodeTable_read 85 = .ok (.iload 4, 2) := by decide +kernel
theorem d_CodeTable_read_87 : decode b_CodeTable_read 87 = .ok (.isub, 1) := by decide +kernel
theorem d_CodeTable_read_88 : decode b_CodeTable_read 88 = .ok (.ishl, 1) := by decide +kernel
theorem d_CodeTable_read_89 : decode b_CodeTable_read 89 = .ok (.aload_n 0, 1) := by decide +kernel
theorem d_CodeTable_read_90 : decode b_CodeTable_read 90 = .ok (.getfield 34, 3) := by decide +kernel
theorem d_CodeTable_read_93 : decode b_CodeTable_read 93 = .ok (.if_icmp .lt 6, 3) := by decide +kernel
theorem d_CodeTable_read_96 : decode b_CodeTable_read 96 = .ok (.goto 9, 3) := by decide +kernel
theorem d_CodeTable_read_99 : decode b_CodeTable_read 99 = .ok (.iinc 4 1, 3) := by decide +kernel
theorem d_CodeTable_read_102 : decode b_CodeTable_read 102 = .ok (.goto (-92), 3) := by decide +kernel
theorem d_CodeTable_read_105 : decode b_CodeTable_read 105 = .ok (.aload_n 1, 1) := by decide +kernel
theorem d_CodeTable_read_106 : decode b_CodeTable_read 106 = .ok (.bipush 7, 2) := by decide +kernel
theorem d_CodeTable_read_108 : decode b_CodeTable_read 108 = .ok (.iload_n 2, 1) := by decide +kernel
theorem d_CodeTable_read_109 : decode b_CodeTable_read 109 = .ok (.invokevirtual 53, 3) := by decide +kernel
theorem d_CodeTable_read_112 : decode b_CodeTable_read 112 = .ok (.pop, 1) := by decide +kernel
theorem d_CodeTable_read_113 : decode b_CodeTable_read 113 = .ok (.iconst (-1), 1) := by decide +kernel
theorem d_CodeTable_read_114 : decode b_CodeTable_read 114 = .ok (.ireturn, 1) := by decide +kernel
theorem k1162 : (Jvm.Cond.methodLink "RotationPress$CodeTable" (53 : Nat) ({ cls := "RotationPress$BitReader", name := "fail", desc := "(II)Z" } : Jvm.MethodName)) ∈ g_tbl := List.mem_filter.mpr ⟨List.mem_append_right (k2_sels lw_privs) (List.mem_append_right _ (List.mem_append_right _ (List.mem_append_right _ (List.mem_append_right _ (List.mem_append_left _ (List.mem_of_getElem? (l := tables_1_5) (i := 202) rfl)))))), rfl⟩
theorem k332 : (Jvm.Cond.fieldLink "RotationPress$CodeTable" (44 : Nat) "RotationPress$BitReader" "at" "I") ∈ g_tbl := List.mem_filter.mpr ⟨List.mem_append_right (k2_sels lw_privs) (List.mem_append_right _ (List.mem_append_left _ (List.mem_of_getElem? (l := tables_1_2) (i := 92) rfl))), rfl⟩
theorem k1161 : (Jvm.Cond.methodLink "RotationPress$CodeTable" (49 : Nat) ({ cls := "RotationPress$BitReader", name := "bit", desc := "()I" } : Jvm.MethodName)) ∈ g_tbl := List.mem_filter.mpr ⟨List.mem_append_right (k2_sels lw_privs) (List.mem_append_right _ (List.mem_append_right _ (List.mem_append_right _ (List.mem_append_right _ (List.mem_append_left _ (List.mem_of_getElem? (l := tables_1_5) (i := 201) rfl)))))), rfl⟩
set_option maxRecDepth 100000 in
set_option maxHeartbeats 4000000 in
theorem m_CodeTable_read {C : gT} (hC : gOk C b_CodeTable_read R_CodeTable { frames := 2, cells := 0, slots := 0, locals := 43 } 7) (q_a1 : Nat) (q_a1_row : Nat) (x_a1_end : Int32) (x_a1_at : Int32) (x_a1_taken : Int32) (x_a1_fault : Int32) (x_a1_faultAt : Int32) (q_a1_row_bytes : Nat) (x_a1_row_count : Int32) (n_a1_row_bytes : Nat) (f_a1_row_bytes : (Nat → Int32)) (q_a0 : Nat) (r_a0_lengths : Nat) (r_a0_codes : Nat) (x_a0_kinds : Int32) (q_a0_sorted : Nat) (q_a0_counts : Nat) (q_a0_firsts : Nat) (q_a0_places : Nat) (x_a0_filled : Int32) (f_a0_firsts : (Nat → Int32)) (f_a0_counts : (Nat → Int32)) (f_a0_places : (Nat → Int32)) (f_a0_sorted : (Nat → Int32)) (out : (Int32 × Int32 × Int32 × Int32)) (hf : CodeTable_read_f x_a1_end x_a1_row_count n_a1_row_bytes f_a1_row_bytes f_a0_firsts x_a0_filled f_a0_counts x_a1_fault x_a1_faultAt x_a1_at f_a0_places f_a0_sorted = some out) (kr : ∀ (x : Unit) (o9 : (Int32 × Int32 × Int32 × Int32)) (pc : Nat) (lv : List (Nat × Value)), o9 = out → decode b_CodeTable_read pc = .ok (.ireturn, 1) → narrow .int (.int o9.1) = .int o9.1 → gAt C 0 0 [(q_a1, .inr (1, [.ref q_a1_row, .int x_a1_end, .int o9.2.2.2, .int x_a1_taken, .int o9.2.1, .int o9.2.2.1])), (q_a1_row, .inr (4, [.ref q_a1_row_bytes, .int x_a1_row_count])), (q_a1_row_bytes, .inl (g_K C 0, n_a1_row_bytes, .inl f_a1_row_bytes)), (q_a0, .inr (6, [.ref r_a0_lengths, .ref r_a0_codes, .int x_a0_kinds, .ref q_a0_sorted, .ref q_a0_counts, .ref q_a0_firsts, .ref q_a0_places, .int x_a0_filled])), (q_a0_firsts, .inl (g_K C 0, 21, .inl f_a0_firsts)), (q_a0_counts, .inl (g_K C 0, 21, .inl f_a0_counts)), (q_a0_places, .inl (g_K C 0, 21, .inl f_a0_places)), (q_a0_sorted, .inl (g_K C 0, 258, .inl f_a0_sorted))] lv pc [.int o9.1]) : gAt C 0 0 [(q_a1, .inr (1, [.ref q_a1_row, .int x_a1_end, .int x_a1_at, .int x_a1_taken, .int x_a1_fault, .int x_a1_faultAt])), (q_a1_row, .inr (4, [.ref q_a1_row_bytes, .int x_a1_row_count])), (q_a1_row_bytes, .inl (g_K C 0, n_a1_row_bytes, .inl f_a1_row_bytes)), (q_a0, .inr (6, [.ref r_a0_lengths, .ref r_a0_codes, .int x_a0_kinds, .ref q_a0_sorted, .ref q_a0_counts, .ref q_a0_firsts, .ref q_a0_places, .int x_a0_filled])), (q_a0_firsts, .inl (g_K C 0, 21, .inl f_a0_firsts)), (q_a0_counts, .inl (g_K C 0, 21, .inl f_a0_counts)), (q_a0_places, .inl (g_K C 0, 21, .inl f_a0_places)), (q_a0_sorted, .inl (g_K C 0, 258, .inl f_a0_sorted))] [(0, .ref q_a0), (1, .ref q_a1)] 0 [] := by
  unfold CodeTable_read_f at hf
  have J105 : ∀ (j105_0 : Int32) (j105_1 : Int32) (j105_2 : Int32) (j105_3 : Int32), CodeTable_read_J105 j105_0 j105_1 j105_2 j105_3 = some out → gAt C 0 0 [(q_a1, .inr (1, [.ref q_a1_row, .int x_a1_end, .int j105_3, .int x_a1_taken, .int j105_1, .int j105_2])), (q_a1_row, .inr (4, [.ref q_a1_row_bytes, .int x_a1_row_count])), (q_a1_row_bytes, .inl (g_K C 0, n_a1_row_bytes, .inl f_a1_row_bytes)), (q_a0, .inr (6, [.ref r_a0_lengths, .ref r_a0_codes, .int x_a0_kinds, .ref q_a0_sorted, .ref q_a0_counts, .ref q_a0_firsts, .ref q_a0_places, .int x_a0_filled])), (q_a0_firsts, .inl (g_K C 0, 21, .inl f_a0_firsts)), (q_a0_counts, .inl (g_K C 0, 21, .inl f_a0_counts)), (q_a0_places, .inl (g_K C 0, 21, .inl f_a0_places)), (q_a0_sorted, .inl (g_K C 0, 258, .inl f_a0_sorted))] [(1, .ref q_a1), (2, .int j105_0)] 105 [] := by
    intro j105_0 j105_1 j105_2 j105_3 hf
    unfold CodeTable_read_J105 at hf
    refine g_aload_n 105 hC (j := 0) (hj := rfl) (hd := d_CodeTable_read_105) ?_
    refine g_bipush 106 hC (7 : Int32) (by decide) d_CodeTable_read_106 ?_
    refine g_iload_n 108 hC (j := 1) (hj := rfl) (hd := d_CodeTable_read_108) ?_
    obtain ⟨u1, hu1, hf⟩ := bd_some hf
    refine g_callVi 109 hC (c_BitReader_fail (g_l C) (g_D C) (g_K C) q_a1 q_a1_row x_a1_end j105_3 x_a1_taken j105_1 j105_2 (7 : Int32) j105_0 u1 hu1) k1102 k13 k1162 k1100 k1101 2 rfl (by decide +kernel) (by decide) [0] [1, 2, 3, 4, 5, 6, 7] [(q_a1_row, .inr (4, [.ref q_a1_row_bytes, .int x_a1_row_count])), (q_a1_row_bytes, .inl (g_K C 0, n_a1_row_bytes, .inl f_a1_row_bytes)), (q_a0, .inr (6, [.ref r_a0_lengths, .ref r_a0_codes, .int x_a0_kinds, .ref q_a0_sorted, .ref q_a0_counts, .ref q_a0_firsts, .ref q_a0_places, .int x_a0_filled])), (q_a0_firsts, .inl (g_K C 0, 21, .inl f_a0_firsts)), (q_a0_counts, .inl (g_K C 0, 21, .inl f_a0_counts)), (q_a0_places, .inl (g_K C 0, 21, .inl f_a0_places)), (q_a0_sorted, .inl (g_K C 0, 258, .inl f_a0_sorted))] rfl rfl rfl rfl rfl 0 1 rfl rfl rfl rfl (Nat.le_of_ble_eq_true rfl) ⟨Nat.le_of_ble_eq_true rfl, Nat.le_of_ble_eq_true rfl⟩ (fun (_ : Unit) => [(q_a1_row, .inr (4, [.ref q_a1_row_bytes, .int x_a1_row_count])), (q_a1_row_bytes, .inl (g_K C 0, n_a1_row_bytes, .inl f_a1_row_bytes)), (q_a0, .inr (6, [.ref r_a0_lengths, .ref r_a0_codes, .int x_a0_kinds, .ref q_a0_sorted, .ref q_a0_counts, .ref q_a0_firsts, .ref q_a0_places, .int x_a0_filled])), (q_a0_firsts, .inl (g_K C 0, 21, .inl f_a0_firsts)), (q_a0_counts, .inl (g_K C 0, 21, .inl f_a0_counts)), (q_a0_places, .inl (g_K C 0, 21, .inl f_a0_places)), (q_a0_sorted, .inl (g_K C 0, 258, .inl f_a0_sorted)), (q_a1, .inr (1, [.ref q_a1_row, .int x_a1_end, .int j105_3, .int x_a1_taken, .int u1.2.1, .int u1.2.2]))]) (fun _ => rfl) d_CodeTable_read_109 0 0 rfl rfl (fun _ => ?_)
    refine g_pop 112 hC rfl d_CodeTable_read_112 ?_
    refine g_iconst 113 hC (-1 : Int32) (by decide) d_CodeTable_read_113 ?_
    exact g_re [7, 0, 1, 2, 3, 4, 5, 6] [] rfl rfl rfl (kr () ((-1 : Int32), u1.2.1, u1.2.2, j105_3) 114 [] (Option.some.inj hf) d_CodeTable_read_114 rfl)
  refine g_aload_n 0 hC (j := 1) (hj := rfl) (hd := d_CodeTable_read_0) ?_
  refine g_get 1 hC i_BitReader rfl 0 rfl 2 (by decide) k332 rfl d_CodeTable_read_1 ?_
  refine g_istore_n 4 hC (lv2 := [(2, .int x_a1_at), (0, .ref q_a0), (1, .ref q_a1)]) (hn := (by decide)) (hl2 := rfl) (hd := d_CodeTable_read_4) ?_
  refine g_iconst 5 hC (0 : Int32) (by decide) d_CodeTable_read_5 ?_
  refine g_istore_n 6 hC (lv2 := [(3, .int (0 : Int32)), (2, .int x_a1_at), (0, .ref q_a0), (1, .ref q_a1)]) (hn := (by decide)) (hl2 := rfl) (hd := d_CodeTable_read_6) ?_
  refine g_iconst 7 hC (1 : Int32) (by decide) d_CodeTable_read_7 ?_
  refine g_istore 8 hC (lv2 := [(4, .int (1 : Int32)), (3, .int (0 : Int32)), (2, .int x_a1_at), (0, .ref q_a0), (1, .ref q_a1)]) (hn := (by decide)) (hl2 := rfl) (hd := d_CodeTable_read_8) ?_
  obtain ⟨u3, hu3, hf⟩ := bd_some hf
  have Xu3_0 : ∀ (v4 : (Int32 × Int32 × Int32)), Sum.inl v4 = u3 → gAt C 0 0 [(q_a1, .inr (1, [.ref q_a1_row, .int x_a1_end, .int v4.2.2, .int x_a1_taken, .int v4.1, .int v4.2.1])), (q_a1_row, .inr (4, [.ref q_a1_row_bytes, .int x_a1_row_count])), (q_a1_row_bytes, .inl (g_K C 0, n_a1_row_bytes, .inl f_a1_row_bytes)), (q_a0, .inr (6, [.ref r_a0_lengths, .ref r_a0_codes, .int x_a0_kinds, .ref q_a0_sorted, .ref q_a0_counts, .ref q_a0_firsts, .ref q_a0_places, .int x_a0_filled])), (q_a0_firsts, .inl (g_K C 0, 21, .inl f_a0_firsts)), (q_a0_counts, .inl (g_K C 0, 21, .inl f_a0_counts)), (q_a0_places, .inl (g_K C 0, 21, .inl f_a0_places)), (q_a0_sorted, .inl (g_K C 0, 258, .inl f_a0_sorted))] [] 29 [] := by
    intro v4 hv
    rw [← hv] at hf
    have hf := el_l hf
    refine g_iconst 29 hC (-1 : Int32) (by decide) d_CodeTable_read_29 ?_
    exact kr () ((-1 : Int32), v4.1, v4.2.1, v4.2.2) 30 [] (Option.some.inj hf) d_CodeTable_read_30 rfl
  have Xu3_1 : ∀ (v5 : (Int32 × Int32 × Int32 × Int32 × Int32)), Sum.inr (Sum.inl v5) = u3 → gAt C 0 0 [(q_a1, .inr (1, [.ref q_a1_row, .int x_a1_end, .int v5.2.2.2.2, .int x_a1_taken, .int v5.2.2.1, .int v5.2.2.2.1])), (q_a1_row, .inr (4, [.ref q_a1_row_bytes, .int x_a1_row_count])), (q_a1_row_bytes, .inl (g_K C 0, n_a1_row_bytes, .inl f_a1_row_bytes)), (q_a0, .inr (6, [.ref r_a0_lengths, .ref r_a0_codes, .int x_a0_kinds, .ref q_a0_sorted, .ref q_a0_counts, .ref q_a0_firsts, .ref q_a0_places, .int x_a0_filled])), (q_a0_firsts, .inl (g_K C 0, 21, .inl f_a0_firsts)), (q_a0_counts, .inl (g_K C 0, 21, .inl f_a0_counts)), (q_a0_places, .inl (g_K C 0, 21, .inl f_a0_places)), (q_a0_sorted, .inl (g_K C 0, 258, .inl f_a0_sorted))] [(0, .ref q_a0), (4, .int v5.1), (6, .int v5.2.1)] 66 [] := by
    intro v5 hv
    rw [← hv] at hf
    have hf := el_r hf
    have hf := el_l hf
    refine g_aload_n 66 hC (j := 0) (hj := rfl) (hd := d_CodeTable_read_66) ?_
    refine g_get 67 hC i_CodeTable rfl 3 rfl 3 (by decide) k111 rfl d_CodeTable_read_67 ?_
    refine g_aload_n 70 hC (j := 0) (hj := rfl) (hd := d_CodeTable_read_70) ?_
    refine g_get 71 hC i_CodeTable rfl 3 rfl 6 (by decide) k114 rfl d_CodeTable_read_71 ?_
    refine g_iload 74 hC (j := 1) (hj := rfl) (hd := d_CodeTable_read_74) ?_
    obtain ⟨e6, hf⟩ := gd_some hf
    refine g_iald 76 hC 6 rfl e6 d_CodeTable_read_76 ?_
    refine g_iload 77 hC (j := 2) (hj := rfl) (hd := d_CodeTable_read_77) ?_
    refine g_iadd 79 hC d_CodeTable_read_79 ?_
    obtain ⟨e7, hf⟩ := gd_some hf
    refine g_iald 80 hC 7 rfl e7 d_CodeTable_read_80 ?_
    exact g_re [0, 1, 2, 3, 4, 5, 6, 7] [] rfl rfl rfl (kr () ((f_a0_sorted ((f_a0_places v5.1.toNatClampNeg) + v5.2.1).toNatClampNeg), v5.2.2.1, v5.2.2.2.1, v5.2.2.2.2) 81 [] (Option.some.inj hf) d_CodeTable_read_81 rfl)
  have Xu3_2 : ∀ (v8 : (Int32 × Int32 × Int32)), Sum.inr (Sum.inr (Sum.inl v8)) = u3 → gAt C 0 0 [(q_a1, .inr (1, [.ref q_a1_row, .int x_a1_end, .int v8.2.2, .int x_a1_taken, .int v8.1, .int v8.2.1])), (q_a1_row, .inr (4, [.ref q_a1_row_bytes, .int x_a1_row_count])), (q_a1_row_bytes, .inl (g_K C 0, n_a1_row_bytes, .inl f_a1_row_bytes)), (q_a0, .inr (6, [.ref r_a0_lengths, .ref r_a0_codes, .int x_a0_kinds, .ref q_a0_sorted, .ref q_a0_counts, .ref q_a0_firsts, .ref q_a0_places, .int x_a0_filled])), (q_a0_firsts, .inl (g_K C 0, 21, .inl f_a0_firsts)), (q_a0_counts, .inl (g_K C 0, 21, .inl f_a0_counts)), (q_a0_places, .inl (g_K C 0, 21, .inl f_a0_places)), (q_a0_sorted, .inl (g_K C 0, 258, .inl f_a0_sorted))] [(1, .ref q_a1), (2, .int x_a1_at)] 96 [] := by
    intro v8 hv
    rw [← hv] at hf
    have hf := el_r hf
    have hf := el_r hf
    have hf := el_l hf
    refine g_goto 96 hC 105 (by decide) d_CodeTable_read_96 ?_
    exact J105 x_a1_at v8.1 v8.2.1 v8.2.2 hf
  have Xu3_3 : ∀ (v9 : (Int32 × Int32 × Int32)), Sum.inr (Sum.inr (Sum.inr v9)) = u3 → gAt C 0 0 [(q_a1, .inr (1, [.ref q_a1_row, .int x_a1_end, .int v9.2.2, .int x_a1_taken, .int v9.1, .int v9.2.1])), (q_a1_row, .inr (4, [.ref q_a1_row_bytes, .int x_a1_row_count])), (q_a1_row_bytes, .inl (g_K C 0, n_a1_row_bytes, .inl f_a1_row_bytes)), (q_a0, .inr (6, [.ref r_a0_lengths, .ref r_a0_codes, .int x_a0_kinds, .ref q_a0_sorted, .ref q_a0_counts, .ref q_a0_firsts, .ref q_a0_places, .int x_a0_filled])), (q_a0_firsts, .inl (g_K C 0, 21, .inl f_a0_firsts)), (q_a0_counts, .inl (g_K C 0, 21, .inl f_a0_counts)), (q_a0_places, .inl (g_K C 0, 21, .inl f_a0_places)), (q_a0_sorted, .inl (g_K C 0, 258, .inl f_a0_sorted))] [(1, .ref q_a1), (2, .int x_a1_at)] 105 [] := by
    intro v9 hv
    rw [← hv] at hf
    have hf := el_r hf
    have hf := el_r hf
    have hf := el_r hf
    exact J105 x_a1_at v9.1 v9.2.1 v9.2.2 hf
  have Gu3 := lp_ind (b := (CodeTable_read_L10 x_a1_end x_a1_row_count n_a1_row_bytes f_a1_row_bytes f_a0_firsts x_a0_filled f_a0_counts)) (G := fun (s2 : (Int32 × Int32 × Int32 × Int32 × Int32)) => gAt C 0 0 [(q_a1, .inr (1, [.ref q_a1_row, .int x_a1_end, .int s2.2.2.2.2, .int x_a1_taken, .int s2.2.2.1, .int s2.2.2.2.1])), (q_a1_row, .inr (4, [.ref q_a1_row_bytes, .int x_a1_row_count])), (q_a1_row_bytes, .inl (g_K C 0, n_a1_row_bytes, .inl f_a1_row_bytes)), (q_a0, .inr (6, [.ref r_a0_lengths, .ref r_a0_codes, .int x_a0_kinds, .ref q_a0_sorted, .ref q_a0_counts, .ref q_a0_firsts, .ref q_a0_places, .int x_a0_filled])), (q_a0_firsts, .inl (g_K C 0, 21, .inl f_a0_firsts)), (q_a0_counts, .inl (g_K C 0, 21, .inl f_a0_counts)), (q_a0_places, .inl (g_K C 0, 21, .inl f_a0_places)), (q_a0_sorted, .inl (g_K C 0, 258, .inl f_a0_sorted))] [(0, .ref q_a0), (1, .ref q_a1), (2, .int x_a1_at), (3, .int s2.1), (4, .int s2.2.1)] 10 []) (o := u3) (by
      intro s2 u10 hf hI hX
      unfold CodeTable_read_L10 at hf
      have J82 : ∀ (j82_0 : Int32) (j82_1 : Int32) (j82_2 : Int32) (j82_3 : Int32), CodeTable_read_J82 s2 x_a0_filled j82_0 j82_1 j82_2 j82_3 = some u10 → gAt C 0 0 [(q_a1, .inr (1, [.ref q_a1_row, .int x_a1_end, .int j82_3, .int x_a1_taken, .int j82_1, .int j82_2])), (q_a1_row, .inr (4, [.ref q_a1_row_bytes, .int x_a1_row_count])), (q_a1_row_bytes, .inl (g_K C 0, n_a1_row_bytes, .inl f_a1_row_bytes)), (q_a0, .inr (6, [.ref r_a0_lengths, .ref r_a0_codes, .int x_a0_kinds, .ref q_a0_sorted, .ref q_a0_counts, .ref q_a0_firsts, .ref q_a0_places, .int x_a0_filled])), (q_a0_firsts, .inl (g_K C 0, 21, .inl f_a0_firsts)), (q_a0_counts, .inl (g_K C 0, 21, .inl f_a0_counts)), (q_a0_places, .inl (g_K C 0, 21, .inl f_a0_places)), (q_a0_sorted, .inl (g_K C 0, 258, .inl f_a0_sorted))] [(0, .ref q_a0), (1, .ref q_a1), (2, .int x_a1_at), (3, .int j82_0), (4, .int s2.2.1)] 82 [] := by
        intro j82_0 j82_1 j82_2 j82_3 hf
        unfold CodeTable_read_J82 at hf
        refine g_iload_n 82 hC (j := 3) (hj := rfl) (hd := d_CodeTable_read_82) ?_
        refine g_bipush 83 hC (20 : Int32) (by decide) d_CodeTable_read_83 ?_
        refine g_iload 85 hC (j := 4) (hj := rfl) (hd := d_CodeTable_read_85) ?_
        refine g_isub 87 hC d_CodeTable_read_87 ?_
        refine g_ishl 88 hC d_CodeTable_read_88 ?_
        refine g_aload_n 89 hC (j := 0) (hj := rfl) (hd := d_CodeTable_read_89) ?_
        refine g_get 90 hC i_CodeTable rfl 3 rfl 7 (by decide) k115 rfl d_CodeTable_read_90 ?_
        refine g_icmp_lt 93 hC 99 (by decide) d_CodeTable_read_93 (fun c11 => ?_) (fun c11 => ?_)
        · have hf := it_t c11 hf
          refine g_iinc 99 hC 4 (1 : Int32) [(4, .int (s2.2.1 + (1 : Int32))), (0, .ref q_a0), (1, .ref q_a1), (2, .int x_a1_at), (3, .int j82_0)] rfl (by decide) (by decide) rfl d_CodeTable_read_99 ?_
          refine g_goto 102 hC 10 (by decide) d_CodeTable_read_102 ?_
          exact g_re [0, 1, 2, 3, 4, 5, 6, 7] [1, 2, 3, 4, 0] rfl rfl rfl (hI (j82_0, (s2.2.1 + (1 : Int32)), j82_1, j82_2, j82_3) hf)
        · have hf := it_f c11 hf
          exact g_re [0, 1, 2, 3, 4, 5, 6, 7] [1, 2] rfl rfl rfl (Xu3_2 (j82_1, j82_2, j82_3) (hX (Sum.inr (Sum.inr (Sum.inl (j82_1, j82_2, j82_3)))) hf))
      refine g_iload 10 hC (j := 4) (hj := rfl) (hd := d_CodeTable_read_10) ?_
      refine g_bipush 12 hC (20 : Int32) (by decide) d_CodeTable_read_12 ?_
      refine g_icmp_gt 14 hC 105 (by decide) d_CodeTable_read_14 (fun c12 => ?_) (fun c12 => ?_)
      · have hf := it_t c12 hf
        exact g_re [0, 1, 2, 3, 4, 5, 6, 7] [1, 2] rfl rfl rfl (Xu3_3 (s2.2.2.1, s2.2.2.2.1, s2.2.2.2.2) (hX (Sum.inr (Sum.inr (Sum.inr (s2.2.2.1, s2.2.2.2.1, s2.2.2.2.2)))) hf))
      · have hf := it_f c12 hf
        refine g_aload_n 17 hC (j := 1) (hj := rfl) (hd := d_CodeTable_read_17) ?_
        obtain ⟨u13, hu13, hf⟩ := bd_some hf
        refine g_callVi 18 hC (c_BitReader_bit (g_l C) (g_D C) (g_K C) q_a1 q_a1_row x_a1_end s2.2.2.2.2 x_a1_taken s2.2.2.1 s2.2.2.2.1 q_a1_row_bytes x_a1_row_count n_a1_row_bytes f_a1_row_bytes u13 hu13) k1098 k13 k1161 k1096 k1097 0 rfl (by decide +kernel) (by decide) [0, 1, 2] [3, 4, 5, 6, 7] [(q_a0, .inr (6, [.ref r_a0_lengths, .ref r_a0_codes, .int x_a0_kinds, .ref q_a0_sorted, .ref q_a0_counts, .ref q_a0_firsts, .ref q_a0_places, .int x_a0_filled])), (q_a0_firsts, .inl (g_K C 0, 21, .inl f_a0_firsts)), (q_a0_counts, .inl (g_K C 0, 21, .inl f_a0_counts)), (q_a0_places, .inl (g_K C 0, 21, .inl f_a0_places)), (q_a0_sorted, .inl (g_K C 0, 258, .inl f_a0_sorted))] rfl rfl rfl rfl rfl 0 1 rfl rfl rfl rfl (Nat.le_of_ble_eq_true rfl) ⟨Nat.le_of_ble_eq_true rfl, Nat.le_of_ble_eq_true rfl⟩ (fun (_ : Unit) => [(q_a0, .inr (6, [.ref r_a0_lengths, .ref r_a0_codes, .int x_a0_kinds, .ref q_a0_sorted, .ref q_a0_counts, .ref q_a0_firsts, .ref q_a0_places, .int x_a0_filled])), (q_a0_firsts, .inl (g_K C 0, 21, .inl f_a0_firsts)), (q_a0_counts, .inl (g_K C 0, 21, .inl f_a0_counts)), (q_a0_places, .inl (g_K C 0, 21, .inl f_a0_places)), (q_a0_sorted, .inl (g_K C 0, 258, .inl f_a0_sorted)), (q_a1, .inr (1, [.ref q_a1_row, .int x_a1_end, .int u13.2.2.2, .int x_a1_taken, .int u13.2.1, .int u13.2.2.1])), (q_a1_row, .inr (4, [.ref q_a1_row_bytes, .int x_a1_row_count])), (q_a1_row_bytes, .inl (g_K C 0, n_a1_row_bytes, .inl f_a1_row_bytes))]) (fun _ => rfl) d_CodeTable_read_18 0 0 rfl rfl (fun _ => ?_)
        refine g_istore 21 hC (lv2 := [(5, .int u13.1), (0, .ref q_a0), (1, .ref q_a1), (2, .int x_a1_at), (3, .int s2.1), (4, .int s2.2.1)]) (hn := (by decide)) (hl2 := rfl) (hd := d_CodeTable_read_21) ?_
        refine g_iload 23 hC (j := 0) (hj := rfl) (hd := d_CodeTable_read_23) ?_
        refine g_iconst 25 hC (-1 : Int32) (by decide) d_CodeTable_read_25 ?_
        refine g_icmp_ne 26 hC 31 (by decide) d_CodeTable_read_26 (fun c14 => ?_) (fun c14 => ?_)
        · have hf := it_f c14 hf
          refine g_iload_n 31 hC (j := 4) (hj := rfl) (hd := d_CodeTable_read_31) ?_
          refine g_iconst 32 hC (1 : Int32) (by decide) d_CodeTable_read_32 ?_
          refine g_ishl 33 hC d_CodeTable_read_33 ?_
          refine g_iload 34 hC (j := 0) (hj := rfl) (hd := d_CodeTable_read_34) ?_
          refine g_ior 36 hC d_CodeTable_read_36 ?_
          refine g_istore_n 37 hC (lv2 := [(3, .int ((s2.1 <<< ((1 : Int32) &&& 31)) ||| u13.1)), (5, .int u13.1), (0, .ref q_a0), (1, .ref q_a1), (2, .int x_a1_at), (4, .int s2.2.1)]) (hn := (by decide)) (hl2 := rfl) (hd := d_CodeTable_read_37) ?_
          refine g_iload_n 38 hC (j := 0) (hj := rfl) (hd := d_CodeTable_read_38) ?_
          refine g_aload_n 39 hC (j := 2) (hj := rfl) (hd := d_CodeTable_read_39) ?_
          refine g_get 40 hC i_CodeTable rfl 0 rfl 5 (by decide) k113 rfl d_CodeTable_read_40 ?_
          refine g_iload 43 hC (j := 5) (hj := rfl) (hd := d_CodeTable_read_43) ?_
          obtain ⟨e15, hf⟩ := gd_some hf
          refine g_iald 45 hC 1 rfl e15 d_CodeTable_read_45 ?_
          refine g_isub 46 hC d_CodeTable_read_46 ?_
          refine g_istore 47 hC (lv2 := [(6, .int (((s2.1 <<< ((1 : Int32) &&& 31)) ||| u13.1) - (f_a0_firsts s2.2.1.toNatClampNeg))), (3, .int ((s2.1 <<< ((1 : Int32) &&& 31)) ||| u13.1)), (5, .int u13.1), (0, .ref q_a0), (1, .ref q_a1), (2, .int x_a1_at), (4, .int s2.2.1)]) (hn := (by decide)) (hl2 := rfl) (hd := d_CodeTable_read_47) ?_
          refine g_iload 49 hC (j := 0) (hj := rfl) (hd := d_CodeTable_read_49) ?_
          refine g_if_lt 51 hC 82 (by decide) d_CodeTable_read_51 (fun c16 => ?_) (fun c16 => ?_)
          · have hf := it_t c16 hf
            exact g_re [5, 6, 7, 0, 1, 2, 3, 4] [3, 4, 5, 1, 6] rfl rfl rfl (J82 ((s2.1 <<< ((1 : Int32) &&& 31)) ||| u13.1) u13.2.1 u13.2.2.1 u13.2.2.2 hf)
          · have hf := it_f c16 hf
            refine g_iload 54 hC (j := 0) (hj := rfl) (hd := d_CodeTable_read_54) ?_
            refine g_aload_n 56 hC (j := 3) (hj := rfl) (hd := d_CodeTable_read_56) ?_
            refine g_get 57 hC i_CodeTable rfl 0 rfl 4 (by decide) k112 rfl d_CodeTable_read_57 ?_
            refine g_iload 60 hC (j := 6) (hj := rfl) (hd := d_CodeTable_read_60) ?_
            obtain ⟨e17, hf⟩ := gd_some hf
            refine g_iald 62 hC 2 rfl e17 d_CodeTable_read_62 ?_
            refine g_icmp_ge 63 hC 82 (by decide) d_CodeTable_read_63 (fun c18 => ?_) (fun c18 => ?_)
            · have hf := it_t c18 hf
              exact g_re [5, 6, 7, 0, 1, 2, 3, 4] [3, 4, 5, 1, 6] rfl rfl rfl (J82 ((s2.1 <<< ((1 : Int32) &&& 31)) ||| u13.1) u13.2.1 u13.2.2.1 u13.2.2.2 hf)
            · have hf := it_f c18 hf
              exact g_re [5, 6, 7, 0, 1, 2, 3, 4] [3, 6, 0] rfl rfl rfl (Xu3_1 (s2.2.1, (((s2.1 <<< ((1 : Int32) &&& 31)) ||| u13.1) - (f_a0_firsts s2.2.1.toNatClampNeg)), u13.2.1, u13.2.2.1, u13.2.2.2) (hX (Sum.inr (Sum.inl (s2.2.1, (((s2.1 <<< ((1 : Int32) &&& 31)) ||| u13.1) - (f_a0_firsts s2.2.1.toNatClampNeg)), u13.2.1, u13.2.2.1, u13.2.2.2))) hf))
        · have hf := it_t c14 hf
          exact g_re [5, 6, 7, 0, 1, 2, 3, 4] [] rfl rfl rfl (Xu3_0 (u13.2.1, u13.2.2.1, u13.2.2.2) (hX (Sum.inl (u13.2.1, u13.2.2.1, u13.2.2.2)) hf))) gas
  exact g_re [0, 1, 2, 3, 4, 5, 6, 7] [3, 4, 2, 1, 0] rfl rfl rfl (Gu3 ((0 : Int32), (1 : Int32), x_a1_fault, x_a1_faultAt, x_a1_at) hu3)
theorem c_CodeTable_read (l : Launch) (D : va_G) (K : Nat → ClassId) (q_a1 : Nat) (q_a1_row : Nat) (x_a1_end : Int32) (x_a1_at : Int32) (x_a1_taken : Int32) (x_a1_fault : Int32) (x_a1_faultAt : Int32) (q_a1_row_bytes : Nat) (x_a1_row_count : Int32) (n_a1_row_bytes : Nat) (f_a1_row_bytes : (Nat → Int32)) (q_a0 : Nat) (r_a0_lengths : Nat) (r_a0_codes : Nat) (x_a0_kinds : Int32) (q_a0_sorted : Nat) (q_a0_counts : Nat) (q_a0_firsts : Nat) (q_a0_places : Nat) (x_a0_filled : Int32) (f_a0_firsts : (Nat → Int32)) (f_a0_counts : (Nat → Int32)) (f_a0_places : (Nat → Int32)) (f_a0_sorted : (Nat → Int32)) (out : (Int32 × Int32 × Int32 × Int32)) (hf : CodeTable_read_f x_a1_end x_a1_row_count n_a1_row_bytes f_a1_row_bytes f_a0_firsts x_a0_filled f_a0_counts x_a1_fault x_a1_faultAt x_a1_at f_a0_places f_a0_sorted = some out) : Ci l D K y_CodeTable_read (g_wd y_CodeTable_read b_CodeTable_read 7 (some .int)) { frames := 2, cells := 0, slots := 0, locals := 43 } [.ref q_a0, .ref q_a1] [(q_a1, .inr (1, [.ref q_a1_row, .int x_a1_end, .int x_a1_at, .int x_a1_taken, .int x_a1_fault, .int x_a1_faultAt])), (q_a1_row, .inr (4, [.ref q_a1_row_bytes, .int x_a1_row_count])), (q_a1_row_bytes, .inl (K 0, n_a1_row_bytes, .inl f_a1_row_bytes)), (q_a0, .inr (6, [.ref r_a0_lengths, .ref r_a0_codes, .int x_a0_kinds, .ref q_a0_sorted, .ref q_a0_counts, .ref q_a0_firsts, .ref q_a0_places, .int x_a0_filled])), (q_a0_firsts, .inl (K 0, 21, .inl f_a0_firsts)), (q_a0_counts, .inl (K 0, 21, .inl f_a0_counts)), (q_a0_places, .inl (K 0, 21, .inl f_a0_places)), (q_a0_sorted, .inl (K 0, 258, .inl f_a0_sorted))] (fun (x : Unit) => [(q_a1, .inr (1, [.ref q_a1_row, .int x_a1_end, .int out.2.2.2, .int x_a1_taken, .int out.2.1, .int out.2.2.1])), (q_a1_row, .inr (4, [.ref q_a1_row_bytes, .int x_a1_row_count])), (q_a1_row_bytes, .inl (K 0, n_a1_row_bytes, .inl f_a1_row_bytes)), (q_a0, .inr (6, [.ref r_a0_lengths, .ref r_a0_codes, .int x_a0_kinds, .ref q_a0_sorted, .ref q_a0_counts, .ref q_a0_firsts, .ref q_a0_places, .int x_a0_filled])), (q_a0_firsts, .inl (K 0, 21, .inl f_a0_firsts)), (q_a0_counts, .inl (K 0, 21, .inl f_a0_counts)), (q_a0_places, .inl (K 0, 21, .inl f_a0_places)), (q_a0_sorted, .inl (K 0, 258, .inl f_a0_sorted))]) out.1 := mk_i (by decide) (Nat.le_of_ble_eq_true rfl) (fun p e s m below meth c A Q hC kr => m_CodeTable_read hC q_a1 q_a1_row x_a1_end x_a1_at x_a1_taken x_a1_fault x_a1_faultAt q_a1_row_bytes x_a1_row_count n_a1_row_bytes f_a1_row_bytes q_a0 r_a0_lengths r_a0_codes x_a0_kinds q_a0_sorted q_a0_counts q_a0_firsts q_a0_places x_a0_filled f_a0_firsts f_a0_counts f_a0_places f_a0_sorted out hf (fun x o9 pc lv ho => by subst ho; exact kr x pc lv))
abbrev b_Block_element : ByteArray := prog_4_method_4_code
def y_Block_element : MethodName := ⟨R_Block, "element", "([III)I"⟩
theorem d_Block_element_0 : decode b_Block_element 0 = .ok (.iload_n 2, 1) := by decide +kernel
theorem d_Block_element_1 : decode b_Block_element 1 = .ok (.ifCond .lt 20, 3) := by decide +kernel
theorem d_Block_element_4 : decode b_Block_element 4 = .ok (.iload_n 2, 1) := by decide +kernel
theorem d_Block_element_5 : decode b_Block_element 5 = .ok (.iload_n 1, 1) := by decide +kernel
theorem d_Block_element_6 : decode b_Block_element 6 = .ok (.if_icmp .ge 15, 3) := by decide +kernel
theorem d_Block_element_9 : decode b_Block_element 9 = .ok (.iload_n 2, 1) := by decide +kernel
theorem d_Block_element_10 : decode b_Block_element 10 = .ok (.aload_n 0, 1) := by decide +kernel
theorem d_Block_element_11 : decode b_Block_element 11 = .ok (.arraylength, 1) := by decide +kernel
theorem d_Block_element_12 : decode b_Block_element 12 = .ok (.if_icmp .ge 9, 3) := by decide +kernel
theorem d_Block_element_15 : decode b_Block_element 15 = .ok (.aload_n 0, 1) := by decide +kernel
theorem d_Block_element_16 : decode b_Block_element 16 = .ok (.iload_n 2, 1) := by decide +kernel
theorem d_Block_element_17 : decode b_Block_element 17 = .ok (.iaload, 1) := by decide +kernel
theorem d_Block_element_18 : decode b_Block_element 18 = .ok (.goto 4, 3) := by decide +kernel
theorem d_Block_element_21 : decode b_Block_element 21 = .ok (.iconst (-1), 1) := by decide +kernel
theorem d_Block_element_22 : decode b_Block_element 22 = .ok (.ireturn, 1) := by decide +kernel
set_option maxRecDepth 100000 in
set_option maxHeartbeats 4000000 in
theorem m_Block_element {C : gT} (hC : gOk C b_Block_element R_Block { frames := 0, cells := 0, slots := 0, locals := 0 } 3) (q_a0 : Nat) (n_a0 : Nat) (f_a0 : (Nat → Int32)) (p1 : Int32) (p2 : Int32) (out : Int32) (hf : Block_element_f p2 p1 n_a0 f_a0 = some out) (kr : ∀ (x : Unit) (o9 : Int32) (pc : Nat) (lv : List (Nat × Value)), o9 = out → decode b_Block_element pc = .ok (.ireturn, 1) → narrow .int (.int o9) = .int o9 → gAt C 0 0 [(q_a0, .inl (g_K C 0, n_a0, .inl f_a0))] lv pc [.int o9]) : gAt C 0 0 [(q_a0, .inl (g_K C 0, n_a0, .inl f_a0))] [(0, .ref q_a0), (1, .int p1), (2, .int p2)] 0 [] := by
  unfold Block_element_f at hf
  have J22 : ∀ (j22_0 : Int32), Block_element_J22 j22_0 = some out → gAt C 0 0 [(q_a0, .inl (g_K C 0, n_a0, .inl f_a0))] [] 22 [.int j22_0] := by
    intro j22_0 hf
    unfold Block_element_J22 at hf
    exact kr () j22_0 22 [] (Option.some.inj hf) d_Block_element_22 rfl
  have J21 : Block_element_J21 = some out → gAt C 0 0 [(q_a0, .inl (g_K C 0, n_a0, .inl f_a0))] [] 21 [] := by
    intro hf
    unfold Block_element_J21 at hf
    refine g_iconst 21 hC (-1 : Int32) (by decide) d_Block_element_21 ?_
    exact J22 (-1 : Int32) hf
  refine g_iload_n 0 hC (j := 2) (hj := rfl) (hd := d_Block_element_0) ?_
  refine g_if_lt 1 hC 21 (by decide) d_Block_element_1 (fun c1 => ?_) (fun c1 => ?_)
  · have hf := it_t c1 hf
    exact g_re [0] [] rfl rfl rfl (J21 hf)
  · have hf := it_f c1 hf
    refine g_iload_n 4 hC (j := 2) (hj := rfl) (hd := d_Block_element_4) ?_
    refine g_iload_n 5 hC (j := 1) (hj := rfl) (hd := d_Block_element_5) ?_
    refine g_icmp_ge 6 hC 21 (by decide) d_Block_element_6 (fun c2 => ?_) (fun c2 => ?_)
    · have hf := it_t c2 hf
      exact g_re [0] [] rfl rfl rfl (J21 hf)
    · have hf := it_f c2 hf
      refine g_iload_n 9 hC (j := 2) (hj := rfl) (hd := d_Block_element_9) ?_
      refine g_aload_n 10 hC (j := 0) (hj := rfl) (hd := d_Block_element_10) ?_
      refine g_alen 11 hC 0 rfl d_Block_element_11 ?_
      refine g_icmp_ge 12 hC 21 (by decide) d_Block_element_12 (fun c3 => ?_) (fun c3 => ?_)
      · have hf := it_t c3 hf
        exact g_re [0] [] rfl rfl rfl (J21 hf)
      · have hf := it_f c3 hf
        refine g_aload_n 15 hC (j := 0) (hj := rfl) (hd := d_Block_element_15) ?_
        refine g_iload_n 16 hC (j := 2) (hj := rfl) (hd := d_Block_element_16) ?_
        obtain ⟨e4, hf⟩ := gd_some hf
        refine g_iald 17 hC 0 rfl e4 d_Block_element_17 ?_
        refine g_goto 18 hC 22 (by decide) d_Block_element_18 ?_
        exact g_re [0] [] rfl rfl rfl (J22 (f_a0 p2.toNatClampNeg) hf)
theorem c_Block_element (l : Launch) (D : va_G) (K : Nat → ClassId) (q_a0 : Nat) (n_a0 : Nat) (f_a0 : (Nat → Int32)) (p1 : Int32) (p2 : Int32) (out : Int32) (hf : Block_element_f p2 p1 n_a0 f_a0 = some out) : Ci l D K y_Block_element (g_wd y_Block_element b_Block_element 3 (some .int)) { frames := 0, cells := 0, slots := 0, locals := 0 } [.ref q_a0, .int p1, .int p2] [(q_a0, .inl (K 0, n_a0, .inl f_a0))] (fun (x : Unit) => [(q_a0, .inl (K 0, n_a0, .inl f_a0))]) out := mk_i (by decide) (Nat.le_of_ble_eq_true rfl) (fun p e s m below meth c A Q hC kr => m_Block_element hC q_a0 n_a0 f_a0 p1 p2 out hf (fun x o9 pc lv ho => by subst ho; exact kr x pc lv))
