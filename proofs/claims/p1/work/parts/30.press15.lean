abbrev b_Coder_weigh : ByteArray := prog_8_method_5_code
def y_Coder_weigh : MethodName := ⟨R_Coder, "weigh", "(LRotationPress$Block;II)V"⟩
theorem d_Coder_weigh_0 : decode b_Coder_weigh 0 = .ok (.aload_n 0, 1) := by decide +kernel
theorem d_Coder_weigh_1 : decode b_Coder_weigh 1 = .ok (.getfield 9, 3) := by decide +kernel
theorem d_Coder_weigh_4 : decode b_Coder_weigh 4 = .ok (.iconst 0, 1) := by decide +kernel
theorem d_Coder_weigh_5 : decode b_Coder_weigh 5 = .ok (.iload_n 3, 1) := by decide +kernel
theorem d_Coder_weigh_6 : decode b_Coder_weigh 6 = .ok (.iconst 1, 1) := by decide +kernel
theorem d_Coder_weigh_7 : decode b_Coder_weigh 7 = .ok (.invokestatic 89, 3) := by decide +kernel
theorem d_Coder_weigh_10 : decode b_Coder_weigh 10 = .ok (.iconst 0, 1) := by decide +kernel
theorem d_Coder_weigh_11 : decode b_Coder_weigh 11 = .ok (.istore 4, 2) := by decide +kernel
theorem d_Coder_weigh_13 : decode b_Coder_weigh 13 = .ok (.iload 4, 2) := by decide +kernel
theorem d_Coder_weigh_15 : decode b_Coder_weigh 15 = .ok (.aload_n 1, 1) := by decide +kernel
theorem d_Coder_weigh_16 : decode b_Coder_weigh 16 = .ok (.getfield 42, 3) := by decide +kernel
theorem d_Coder_weigh_19 : decode b_Coder_weigh 19 = .ok (.if_icmp .ge 64, 3) := by decide +kernel
theorem d_Coder_weigh_22 : decode b_Coder_weigh 22 = .ok (.aload_n 1, 1) := by decide +kernel
theorem d_Coder_weigh_23 : decode b_Coder_weigh 23 = .ok (.getfield 52, 3) := by decide +kernel
theorem d_Coder_weigh_26 : decode b_Coder_weigh 26 = .ok (.iload 4, 2) := by decide +kernel
theorem d_Coder_weigh_28 : decode b_Coder_weigh 28 = .ok (.iaload, 1) := by decide +kernel
theorem d_Coder_weigh_29 : decode b_Coder_weigh 29 = .ok (.iload_n 2, 1) := by decide +kernel
theorem d_Coder_weigh_30 : decode b_Coder_weigh 30 = .ok (.if_icmp .ne 47, 3) := by decide +kernel
theorem d_Coder_weigh_33 : decode b_Coder_weigh 33 = .ok (.aload_n 1, 1) := by decide +kernel
theorem d_Coder_weigh_34 : decode b_Coder_weigh 34 = .ok (.iload 4, 2) := by decide +kernel
theorem d_Coder_weigh_36 : decode b_Coder_weigh 36 = .ok (.invokestatic 95, 3) := by decide +kernel
theorem d_Coder_weigh_39 : decode b_Coder_weigh 39 = .ok (.istore 5, 2) := by decide +kernel
theorem d_Coder_weigh_41 : decode b_Coder_weigh 41 = .ok (.iload 4, 2) := by decide +kernel
theorem d_Coder_weigh_43 : decode b_Coder_weigh 43 = .ok (.bipush 50, 2) := by decide +kernel
theorem d_Coder_weigh_45 : decode b_Coder_weigh 45 = .ok (.imul, 1) := by decide +kernel
theorem d_Coder_weigh_46 : decode b_Coder_weigh 46 = .ok (.istore 6, 2) := by decide +kernel
theorem d_Coder_weigh_48 : decode b_Coder_weigh 48 = .ok (.iload 6, 2) := by decide +kernel
theorem d_Coder_weigh_50 : decode b_Coder_weigh 50 = .ok (.iload 5, 2) := by decide +kernel
theorem d_Coder_weigh_52 : decode b_Coder_weigh 52 = .ok (.if_icmp .ge 25, 3) := by decide +kernel
theorem d_Coder_weigh_55 : decode b_Coder_weigh 55 = .ok (.aload_n 0, 1) := by decide +kernel
theorem d_Coder_weigh_56 : decode b_Coder_weigh 56 = .ok (.getfield 9, 3) := by decide +kernel
theorem d_Coder_weigh_59 : decode b_Coder_weigh 59 = .ok (.aload_n 1, 1) := by decide +kernel
theorem d_Coder_weigh_60 : decode b_Coder_weigh 60 = .ok (.getfield 99, 3) := by decide +kernel
theorem d_Coder_weigh_63 : decode b_Coder_weigh 63 = .ok (.iload 6, 2) := by decide +kernel
theorem d_Coder_weigh_65 : decode b_Coder_weigh 65 = .ok (.iaload, 1) := by decide +kernel
theorem d_Coder_weigh_66 : decode b_Coder_weigh 66 = .ok (.dup2, 1) := by decide +kernel
theorem d_Coder_weigh_67 : decode b_Coder_weigh 67 = .ok (.iaload, 1) := by decide +kernel
theorem d_Coder_weigh_68 : decode b_Coder_weigh 68 = .ok (.iconst 1, 1) := by decide +kernel
theorem d_Coder_weigh_69 : decode b_Coder_weigh 69 = .ok (.iadd, 1) := by decide +kernel
theorem d_Coder_weigh_70 : decode b_Coder_weigh 70 = .ok (.iastore, 1) := by decide +kernel
theorem d_Coder_weigh_71 : decode b_Coder_weigh 71 = .ok (.iinc 6 1, 3) := by decide +kernel
theorem d_Coder_weigh_74 : decode b_Coder_weigh 74 = .ok (.goto (-26), 3) := by decide +kernel
theorem d_Coder_weigh_77 : decode b_Coder_weigh 77 = .ok (.iinc 4 1, 3) := by decide +kernel
theorem d_Coder_weigh_80 : decode b_Coder_weigh 80 = .ok (.goto (-67), 3) := by decide +kernel
theorem d_Coder_weigh_83 : decode b_Coder_weigh 83 = .ok (.return_, 1) := by decide +kernel
theorem k245 : (Jvm.Cond.fieldLink "RotationPress$Coder" (9 : Nat) "RotationPress$Coder" "weights" "[I") ∈ g_tbl := List.mem_filter.mpr ⟨List.mem_append_right (k2_sels lw_privs) (List.mem_append_right _ (List.mem_append_left _ (List.mem_of_getElem? (l := tables_1_2) (i := 5) rfl))), rfl⟩
theorem k991 : (Jvm.Cond.methodLink "RotationPress$Coder" (89 : Nat) ({ cls := "java/util/Arrays", name := "fill", desc := "([IIII)V" } : Jvm.MethodName)) ∈ g_tbl := List.mem_filter.mpr ⟨List.mem_append_right (k2_sels lw_privs) (List.mem_append_right _ (List.mem_append_right _ (List.mem_append_right _ (List.mem_append_right _ (List.mem_append_left _ (List.mem_of_getElem? (l := tables_1_5) (i := 31) rfl)))))), rfl⟩
theorem k160 : (Jvm.Cond.fieldLink "RotationPress$Coder" (42 : Nat) "RotationPress$Block" "groupCount" "I") ∈ g_tbl := List.mem_filter.mpr ⟨List.mem_append_right (k2_sels lw_privs) (List.mem_append_left _ (List.mem_of_getElem? (l := tables_1_1) (i := 160) rfl)), rfl⟩
theorem k158 : (Jvm.Cond.fieldLink "RotationPress$Coder" (52 : Nat) "RotationPress$Block" "groupTables" "[I") ∈ g_tbl := List.mem_filter.mpr ⟨List.mem_append_right (k2_sels lw_privs) (List.mem_append_left _ (List.mem_of_getElem? (l := tables_1_1) (i := 158) rfl)), rfl⟩
theorem k994 : (Jvm.Cond.code ({ cls := "RotationPress$Coder", name := "endOf", desc := "(LRotationPress$Block;I)I" } : Jvm.MethodName) prog_8_method_4_code (2 : Nat) (Option.some Jvm.ClassFile.FieldType.int)) ∈ g_tbl := List.mem_filter.mpr ⟨List.mem_append_right (k2_sels lw_privs) (List.mem_append_right _ (List.mem_append_right _ (List.mem_append_right _ (List.mem_append_right _ (List.mem_append_left _ (List.mem_of_getElem? (l := tables_1_5) (i := 34) rfl)))))), rfl⟩
theorem k10 : (Jvm.Cond.initialized "RotationPress$Coder") ∈ g_tbl := List.mem_filter.mpr ⟨List.mem_append_right (k2_sels lw_privs) (List.mem_append_left _ (List.mem_of_getElem? (l := tables_1_1) (i := 10) rfl)), rfl⟩
theorem k992 : (Jvm.Cond.methodLink "RotationPress$Coder" (95 : Nat) ({ cls := "RotationPress$Coder", name := "endOf", desc := "(LRotationPress$Block;I)I" } : Jvm.MethodName)) ∈ g_tbl := List.mem_filter.mpr ⟨List.mem_append_right (k2_sels lw_privs) (List.mem_append_right _ (List.mem_append_right _ (List.mem_append_right _ (List.mem_append_right _ (List.mem_append_left _ (List.mem_of_getElem? (l := tables_1_5) (i := 32) rfl)))))), rfl⟩
theorem k993 : (Jvm.Cond.static ({ cls := "RotationPress$Coder", name := "endOf", desc := "(LRotationPress$Block;I)I" } : Jvm.MethodName)) ∈ g_tbl := List.mem_filter.mpr ⟨List.mem_append_right (k2_sels lw_privs) (List.mem_append_right _ (List.mem_append_right _ (List.mem_append_right _ (List.mem_append_right _ (List.mem_append_left _ (List.mem_of_getElem? (l := tables_1_5) (i := 33) rfl)))))), rfl⟩
theorem k141 : (Jvm.Cond.fieldLink "RotationPress$Coder" (99 : Nat) "RotationPress$Block" "symbols" "[I") ∈ g_tbl := List.mem_filter.mpr ⟨List.mem_append_right (k2_sels lw_privs) (List.mem_append_left _ (List.mem_of_getElem? (l := tables_1_1) (i := 141) rfl)), rfl⟩
set_option maxRecDepth 100000 in
set_option maxHeartbeats 4000000 in
theorem m_Coder_weigh {C : gT} (hC : gOk C b_Coder_weigh R_Coder { frames := 2, cells := 0, slots := 0, locals := 46 } 7) (q_a0 : Nat) (q_a0_weights : Nat) (r_a0_sums : Nat) (r_a0_depths : Nat) (r_a0_sorted : Nat) (r_a0_slots : Nat) (f_a0_weights : (Nat → Int32)) (q_a1 : Nat) (r_a1_told : Nat) (x_a1_toldCount : Int32) (r_a1_last : Nat) (r_a1_ups : Nat) (q_a1_symbols : Nat) (x_a1_symbolCount : Int32) (r_a1_used : Nat) (r_a1_list : Nat) (x_a1_origin : Int32) (x_a1_check : Int32) (q_a1_groupTables : Nat) (x_a1_groupCount : Int32) (x_a1_tableCount : Int32) (r_a1_tables : Nat) (f_a1_groupTables : (Nat → Int32)) (f_a1_symbols : (Nat → Int32)) (p2 : Int32) (p3 : Int32) (out : (Nat → Int32)) (hf : Coder_weigh_f p3 f_a0_weights x_a1_groupCount f_a1_groupTables p2 x_a1_symbolCount f_a1_symbols = some out) (kr : ∀ (x : Unit) (o9 : (Nat → Int32)) (pc : Nat) (lv : List (Nat × Value)), o9 = out → decode b_Coder_weigh pc = .ok (.return_, 1) → gAt C 0 0 [(q_a0, .inr (7, [.ref q_a0_weights, .ref r_a0_sums, .ref r_a0_depths, .ref r_a0_sorted, .ref r_a0_slots])), (q_a0_weights, .inl (g_K C 0, 516, .inl o9)), (q_a1, .inr (3, [.ref r_a1_told, .int x_a1_toldCount, .ref r_a1_last, .ref r_a1_ups, .ref q_a1_symbols, .int x_a1_symbolCount, .ref r_a1_used, .ref r_a1_list, .int x_a1_origin, .int x_a1_check, .ref q_a1_groupTables, .int x_a1_groupCount, .int x_a1_tableCount, .ref r_a1_tables])), (q_a1_groupTables, .inl (g_K C 0, 46, .inl f_a1_groupTables)), (q_a1_symbols, .inl (g_K C 0, 2251, .inl f_a1_symbols))] lv pc []) : gAt C 0 0 [(q_a0, .inr (7, [.ref q_a0_weights, .ref r_a0_sums, .ref r_a0_depths, .ref r_a0_sorted, .ref r_a0_slots])), (q_a0_weights, .inl (g_K C 0, 516, .inl f_a0_weights)), (q_a1, .inr (3, [.ref r_a1_told, .int x_a1_toldCount, .ref r_a1_last, .ref r_a1_ups, .ref q_a1_symbols, .int x_a1_symbolCount, .ref r_a1_used, .ref r_a1_list, .int x_a1_origin, .int x_a1_check, .ref q_a1_groupTables, .int x_a1_groupCount, .int x_a1_tableCount, .ref r_a1_tables])), (q_a1_groupTables, .inl (g_K C 0, 46, .inl f_a1_groupTables)), (q_a1_symbols, .inl (g_K C 0, 2251, .inl f_a1_symbols))] [(0, .ref q_a0), (1, .ref q_a1), (2, .int p2), (3, .int p3)] 0 [] := by
  unfold Coder_weigh_f at hf
  refine g_aload_n 0 hC (j := 0) (hj := rfl) (hd := d_Coder_weigh_0) ?_
  refine g_get 1 hC i_Coder rfl 0 rfl 0 (by decide) k245 rfl d_Coder_weigh_1 ?_
  refine g_iconst 4 hC (0 : Int32) (by decide) d_Coder_weigh_4 ?_
  refine g_iload_n 5 hC (j := 3) (hj := rfl) (hd := d_Coder_weigh_5) ?_
  refine g_iconst 6 hC (1 : Int32) (by decide) d_Coder_weigh_6 ?_
  obtain ⟨u1, hu1, hf⟩ := bd_some hf
  refine g_callSv 7 hC (c_Arrays_fill1 (g_l C) (g_D C) (g_K C) q_a0_weights 516 f_a0_weights (0 : Int32) p3 (1 : Int32) u1 hu1) k677 k19 k991 k676 4 rfl (by decide +kernel) (by decide) [1] [0, 2, 3, 4] [(q_a0, .inr (7, [.ref q_a0_weights, .ref r_a0_sums, .ref r_a0_depths, .ref r_a0_sorted, .ref r_a0_slots])), (q_a1, .inr (3, [.ref r_a1_told, .int x_a1_toldCount, .ref r_a1_last, .ref r_a1_ups, .ref q_a1_symbols, .int x_a1_symbolCount, .ref r_a1_used, .ref r_a1_list, .int x_a1_origin, .int x_a1_check, .ref q_a1_groupTables, .int x_a1_groupCount, .int x_a1_tableCount, .ref r_a1_tables])), (q_a1_groupTables, .inl (g_K C 0, 46, .inl f_a1_groupTables)), (q_a1_symbols, .inl (g_K C 0, 2251, .inl f_a1_symbols))] rfl rfl rfl rfl rfl rfl (Nat.le_of_ble_eq_true rfl) ⟨Nat.le_of_ble_eq_true rfl, Nat.le_of_ble_eq_true rfl⟩ (fun (_ : Unit) => [(q_a0, .inr (7, [.ref q_a0_weights, .ref r_a0_sums, .ref r_a0_depths, .ref r_a0_sorted, .ref r_a0_slots])), (q_a1, .inr (3, [.ref r_a1_told, .int x_a1_toldCount, .ref r_a1_last, .ref r_a1_ups, .ref q_a1_symbols, .int x_a1_symbolCount, .ref r_a1_used, .ref r_a1_list, .int x_a1_origin, .int x_a1_check, .ref q_a1_groupTables, .int x_a1_groupCount, .int x_a1_tableCount, .ref r_a1_tables])), (q_a1_groupTables, .inl (g_K C 0, 46, .inl f_a1_groupTables)), (q_a1_symbols, .inl (g_K C 0, 2251, .inl f_a1_symbols)), (q_a0_weights, .inl (g_K C 0, 516, .inl u1))]) (fun _ => rfl) d_Coder_weigh_7 0 0 rfl rfl (fun _ => ?_)
  refine g_iconst 10 hC (0 : Int32) (by decide) d_Coder_weigh_10 ?_
  refine g_istore 11 hC (lv2 := [(4, .int (0 : Int32)), (0, .ref q_a0), (1, .ref q_a1), (2, .int p2), (3, .int p3)]) (hn := (by decide)) (hl2 := rfl) (hd := d_Coder_weigh_11) ?_
  obtain ⟨u3, hu3, hf⟩ := bd_some hf
  have Xu3_0 : ∀ (v4 : (Nat → Int32)), v4 = u3 → gAt C 0 0 [(q_a0, .inr (7, [.ref q_a0_weights, .ref r_a0_sums, .ref r_a0_depths, .ref r_a0_sorted, .ref r_a0_slots])), (q_a0_weights, .inl (g_K C 0, 516, .inl v4)), (q_a1, .inr (3, [.ref r_a1_told, .int x_a1_toldCount, .ref r_a1_last, .ref r_a1_ups, .ref q_a1_symbols, .int x_a1_symbolCount, .ref r_a1_used, .ref r_a1_list, .int x_a1_origin, .int x_a1_check, .ref q_a1_groupTables, .int x_a1_groupCount, .int x_a1_tableCount, .ref r_a1_tables])), (q_a1_groupTables, .inl (g_K C 0, 46, .inl f_a1_groupTables)), (q_a1_symbols, .inl (g_K C 0, 2251, .inl f_a1_symbols))] [] 83 [] := by
    intro v4 hv
    rw [← hv] at hf
    exact kr () v4 83 [] (Option.some.inj hf) d_Coder_weigh_83
  have Gu3 := lp_ind (b := (Coder_weigh_L13 x_a1_groupCount f_a1_groupTables p2 x_a1_symbolCount f_a1_symbols)) (G := fun (s2 : (Int32 × (Nat → Int32))) => gAt C 0 0 [(q_a0, .inr (7, [.ref q_a0_weights, .ref r_a0_sums, .ref r_a0_depths, .ref r_a0_sorted, .ref r_a0_slots])), (q_a0_weights, .inl (g_K C 0, 516, .inl s2.2)), (q_a1, .inr (3, [.ref r_a1_told, .int x_a1_toldCount, .ref r_a1_last, .ref r_a1_ups, .ref q_a1_symbols, .int x_a1_symbolCount, .ref r_a1_used, .ref r_a1_list, .int x_a1_origin, .int x_a1_check, .ref q_a1_groupTables, .int x_a1_groupCount, .int x_a1_tableCount, .ref r_a1_tables])), (q_a1_groupTables, .inl (g_K C 0, 46, .inl f_a1_groupTables)), (q_a1_symbols, .inl (g_K C 0, 2251, .inl f_a1_symbols))] [(0, .ref q_a0), (1, .ref q_a1), (2, .int p2), (4, .int s2.1)] 13 []) (o := u3) (by
      intro s2 u5 hf hI hX
      unfold Coder_weigh_L13 at hf
      have J77 : ∀ (j77_0 : (Nat → Int32)), Coder_weigh_J77 s2 j77_0 = some u5 → gAt C 0 0 [(q_a0, .inr (7, [.ref q_a0_weights, .ref r_a0_sums, .ref r_a0_depths, .ref r_a0_sorted, .ref r_a0_slots])), (q_a0_weights, .inl (g_K C 0, 516, .inl j77_0)), (q_a1, .inr (3, [.ref r_a1_told, .int x_a1_toldCount, .ref r_a1_last, .ref r_a1_ups, .ref q_a1_symbols, .int x_a1_symbolCount, .ref r_a1_used, .ref r_a1_list, .int x_a1_origin, .int x_a1_check, .ref q_a1_groupTables, .int x_a1_groupCount, .int x_a1_tableCount, .ref r_a1_tables])), (q_a1_groupTables, .inl (g_K C 0, 46, .inl f_a1_groupTables)), (q_a1_symbols, .inl (g_K C 0, 2251, .inl f_a1_symbols))] [(0, .ref q_a0), (1, .ref q_a1), (2, .int p2), (4, .int s2.1)] 77 [] := by
        intro j77_0 hf
        unfold Coder_weigh_J77 at hf
        refine g_iinc 77 hC 3 (1 : Int32) [(4, .int (s2.1 + (1 : Int32))), (0, .ref q_a0), (1, .ref q_a1), (2, .int p2)] rfl (by decide) (by decide) rfl d_Coder_weigh_77 ?_
        refine g_goto 80 hC 13 (by decide) d_Coder_weigh_80 ?_
        exact g_re [0, 1, 2, 3, 4] [1, 2, 3, 0] rfl rfl rfl (hI ((s2.1 + (1 : Int32)), j77_0) hf)
      refine g_iload 13 hC (j := 3) (hj := rfl) (hd := d_Coder_weigh_13) ?_
      refine g_aload_n 15 hC (j := 1) (hj := rfl) (hd := d_Coder_weigh_15) ?_
      refine g_get 16 hC i_Block rfl 2 rfl 11 (by decide) k160 rfl d_Coder_weigh_16 ?_
      refine g_icmp_ge 19 hC 83 (by decide) d_Coder_weigh_19 (fun c6 => ?_) (fun c6 => ?_)
      · have hf := it_t c6 hf
        exact g_re [0, 1, 2, 3, 4] [] rfl rfl rfl (Xu3_0 s2.2 (hX s2.2 hf))
      · have hf := it_f c6 hf
        refine g_aload_n 22 hC (j := 1) (hj := rfl) (hd := d_Coder_weigh_22) ?_
        refine g_get 23 hC i_Block rfl 2 rfl 10 (by decide) k158 rfl d_Coder_weigh_23 ?_
        refine g_iload 26 hC (j := 3) (hj := rfl) (hd := d_Coder_weigh_26) ?_
        obtain ⟨e7, hf⟩ := gd_some hf
        refine g_iald 28 hC 3 rfl e7 d_Coder_weigh_28 ?_
        refine g_iload_n 29 hC (j := 2) (hj := rfl) (hd := d_Coder_weigh_29) ?_
        refine g_icmp_ne 30 hC 77 (by decide) d_Coder_weigh_30 (fun c8 => ?_) (fun c8 => ?_)
        · have hf := it_f c8 hf
          exact J77 s2.2 hf
        · have hf := it_t c8 hf
          refine g_aload_n 33 hC (j := 1) (hj := rfl) (hd := d_Coder_weigh_33) ?_
          refine g_iload 34 hC (j := 3) (hj := rfl) (hd := d_Coder_weigh_34) ?_
          obtain ⟨u9, hu9, hf⟩ := bd_some hf
          refine g_callSi 36 hC (c_Coder_endOf (g_l C) (g_D C) (g_K C) q_a1 r_a1_told x_a1_toldCount r_a1_last r_a1_ups q_a1_symbols x_a1_symbolCount r_a1_used r_a1_list x_a1_origin x_a1_check q_a1_groupTables x_a1_groupCount x_a1_tableCount r_a1_tables s2.1 u9 hu9) k994 k10 k992 k993 2 rfl (by decide +kernel) (by decide) [2] [0, 1, 3, 4] [(q_a0, .inr (7, [.ref q_a0_weights, .ref r_a0_sums, .ref r_a0_depths, .ref r_a0_sorted, .ref r_a0_slots])), (q_a0_weights, .inl (g_K C 0, 516, .inl s2.2)), (q_a1_groupTables, .inl (g_K C 0, 46, .inl f_a1_groupTables)), (q_a1_symbols, .inl (g_K C 0, 2251, .inl f_a1_symbols))] rfl rfl rfl rfl rfl rfl (Nat.le_of_ble_eq_true rfl) ⟨Nat.le_of_ble_eq_true rfl, Nat.le_of_ble_eq_true rfl⟩ (fun (_ : Unit) => [(q_a0, .inr (7, [.ref q_a0_weights, .ref r_a0_sums, .ref r_a0_depths, .ref r_a0_sorted, .ref r_a0_slots])), (q_a0_weights, .inl (g_K C 0, 516, .inl s2.2)), (q_a1_groupTables, .inl (g_K C 0, 46, .inl f_a1_groupTables)), (q_a1_symbols, .inl (g_K C 0, 2251, .inl f_a1_symbols)), (q_a1, .inr (3, [.ref r_a1_told, .int x_a1_toldCount, .ref r_a1_last, .ref r_a1_ups, .ref q_a1_symbols, .int x_a1_symbolCount, .ref r_a1_used, .ref r_a1_list, .int x_a1_origin, .int x_a1_check, .ref q_a1_groupTables, .int x_a1_groupCount, .int x_a1_tableCount, .ref r_a1_tables]))]) (fun _ => rfl) d_Coder_weigh_36 0 0 rfl rfl (fun _ => ?_)
          refine g_istore 39 hC (lv2 := [(5, .int u9), (0, .ref q_a0), (1, .ref q_a1), (2, .int p2), (4, .int s2.1)]) (hn := (by decide)) (hl2 := rfl) (hd := d_Coder_weigh_39) ?_
          refine g_iload 41 hC (j := 4) (hj := rfl) (hd := d_Coder_weigh_41) ?_
          refine g_bipush 43 hC (50 : Int32) (by decide) d_Coder_weigh_43 ?_
          refine g_imul 45 hC d_Coder_weigh_45 ?_
          refine g_istore 46 hC (lv2 := [(6, .int (s2.1 * (50 : Int32))), (5, .int u9), (0, .ref q_a0), (1, .ref q_a1), (2, .int p2), (4, .int s2.1)]) (hn := (by decide)) (hl2 := rfl) (hd := d_Coder_weigh_46) ?_
          obtain ⟨u11, hu11, hf⟩ := bd_some hf
          have Xu11_0 : ∀ (v12 : (Nat → Int32)), v12 = u11 → gAt C 0 0 [(q_a0, .inr (7, [.ref q_a0_weights, .ref r_a0_sums, .ref r_a0_depths, .ref r_a0_sorted, .ref r_a0_slots])), (q_a0_weights, .inl (g_K C 0, 516, .inl v12)), (q_a1, .inr (3, [.ref r_a1_told, .int x_a1_toldCount, .ref r_a1_last, .ref r_a1_ups, .ref q_a1_symbols, .int x_a1_symbolCount, .ref r_a1_used, .ref r_a1_list, .int x_a1_origin, .int x_a1_check, .ref q_a1_groupTables, .int x_a1_groupCount, .int x_a1_tableCount, .ref r_a1_tables])), (q_a1_groupTables, .inl (g_K C 0, 46, .inl f_a1_groupTables)), (q_a1_symbols, .inl (g_K C 0, 2251, .inl f_a1_symbols))] [(0, .ref q_a0), (1, .ref q_a1), (2, .int p2), (4, .int s2.1)] 77 [] := by
            intro v12 hv
            rw [← hv] at hf
            exact J77 v12 hf
          have Gu11 := lp_ind (b := (Coder_weigh_L48 u9 f_a1_symbols)) (G := fun (s10 : (Int32 × (Nat → Int32))) => gAt C 0 0 [(q_a0, .inr (7, [.ref q_a0_weights, .ref r_a0_sums, .ref r_a0_depths, .ref r_a0_sorted, .ref r_a0_slots])), (q_a0_weights, .inl (g_K C 0, 516, .inl s10.2)), (q_a1, .inr (3, [.ref r_a1_told, .int x_a1_toldCount, .ref r_a1_last, .ref r_a1_ups, .ref q_a1_symbols, .int x_a1_symbolCount, .ref r_a1_used, .ref r_a1_list, .int x_a1_origin, .int x_a1_check, .ref q_a1_groupTables, .int x_a1_groupCount, .int x_a1_tableCount, .ref r_a1_tables])), (q_a1_groupTables, .inl (g_K C 0, 46, .inl f_a1_groupTables)), (q_a1_symbols, .inl (g_K C 0, 2251, .inl f_a1_symbols))] [(0, .ref q_a0), (1, .ref q_a1), (2, .int p2), (4, .int s2.1), (5, .int u9), (6, .int s10.1)] 48 []) (o := u11) (by
              intro s10 u13 hf hI hX
              unfold Coder_weigh_L48 at hf
              refine g_iload 48 hC (j := 5) (hj := rfl) (hd := d_Coder_weigh_48) ?_
              refine g_iload 50 hC (j := 4) (hj := rfl) (hd := d_Coder_weigh_50) ?_
              refine g_icmp_ge 52 hC 77 (by decide) d_Coder_weigh_52 (fun c14 => ?_) (fun c14 => ?_)
              · have hf := it_t c14 hf
                exact g_re [0, 1, 2, 3, 4] [0, 1, 2, 3] rfl rfl rfl (Xu11_0 s10.2 (hX s10.2 hf))
              · have hf := it_f c14 hf
                refine g_aload_n 55 hC (j := 0) (hj := rfl) (hd := d_Coder_weigh_55) ?_
                refine g_get 56 hC i_Coder rfl 0 rfl 0 (by decide) k245 rfl d_Coder_weigh_56 ?_
                refine g_aload_n 59 hC (j := 1) (hj := rfl) (hd := d_Coder_weigh_59) ?_
                refine g_get 60 hC i_Block rfl 2 rfl 4 (by decide) k141 rfl d_Coder_weigh_60 ?_
                refine g_iload 63 hC (j := 5) (hj := rfl) (hd := d_Coder_weigh_63) ?_
                obtain ⟨e15, hf⟩ := gd_some hf
                refine g_iald 65 hC 4 rfl e15 d_Coder_weigh_65 ?_
                refine g_dup2 66 hC rfl rfl d_Coder_weigh_66 ?_
                obtain ⟨e16, hf⟩ := gd_some hf
                refine g_iald 67 hC 1 rfl e16 d_Coder_weigh_67 ?_
                refine g_iconst 68 hC (1 : Int32) (by decide) d_Coder_weigh_68 ?_
                refine g_iadd 69 hC d_Coder_weigh_69 ?_
                obtain ⟨e17, hf⟩ := gd_some hf
                refine g_iast 70 hC 1 rfl e17 [(q_a0, .inr (7, [.ref q_a0_weights, .ref r_a0_sums, .ref r_a0_depths, .ref r_a0_sorted, .ref r_a0_slots])), (q_a0_weights, .inl (g_K C 0, 516, .inl (upd s10.2 (f_a1_symbols s10.1.toNatClampNeg).toNatClampNeg ((s10.2 (f_a1_symbols s10.1.toNatClampNeg).toNatClampNeg) + (1 : Int32))))), (q_a1, .inr (3, [.ref r_a1_told, .int x_a1_toldCount, .ref r_a1_last, .ref r_a1_ups, .ref q_a1_symbols, .int x_a1_symbolCount, .ref r_a1_used, .ref r_a1_list, .int x_a1_origin, .int x_a1_check, .ref q_a1_groupTables, .int x_a1_groupCount, .int x_a1_tableCount, .ref r_a1_tables])), (q_a1_groupTables, .inl (g_K C 0, 46, .inl f_a1_groupTables)), (q_a1_symbols, .inl (g_K C 0, 2251, .inl f_a1_symbols))] rfl d_Coder_weigh_70 ?_
                refine g_iinc 71 hC 5 (1 : Int32) [(6, .int (s10.1 + (1 : Int32))), (0, .ref q_a0), (1, .ref q_a1), (2, .int p2), (4, .int s2.1), (5, .int u9)] rfl (by decide) (by decide) rfl d_Coder_weigh_71 ?_
                refine g_goto 74 hC 48 (by decide) d_Coder_weigh_74 ?_
                exact g_re [0, 1, 2, 3, 4] [1, 2, 3, 4, 5, 0] rfl rfl rfl (hI ((s10.1 + (1 : Int32)), (upd s10.2 (f_a1_symbols s10.1.toNatClampNeg).toNatClampNeg ((s10.2 (f_a1_symbols s10.1.toNatClampNeg).toNatClampNeg) + (1 : Int32)))) hf)) gas
          exact g_re [0, 1, 4, 2, 3] [2, 3, 4, 5, 1, 0] rfl rfl rfl (Gu11 ((s2.1 * (50 : Int32)), s2.2) hu11)) gas
  exact g_re [0, 4, 1, 2, 3] [1, 2, 3, 0] rfl rfl rfl (Gu3 ((0 : Int32), u1) hu3)
theorem c_Coder_weigh (l : Launch) (D : va_G) (K : Nat → ClassId) (q_a0 : Nat) (q_a0_weights : Nat) (r_a0_sums : Nat) (r_a0_depths : Nat) (r_a0_sorted : Nat) (r_a0_slots : Nat) (f_a0_weights : (Nat → Int32)) (q_a1 : Nat) (r_a1_told : Nat) (x_a1_toldCount : Int32) (r_a1_last : Nat) (r_a1_ups : Nat) (q_a1_symbols : Nat) (x_a1_symbolCount : Int32) (r_a1_used : Nat) (r_a1_list : Nat) (x_a1_origin : Int32) (x_a1_check : Int32) (q_a1_groupTables : Nat) (x_a1_groupCount : Int32) (x_a1_tableCount : Int32) (r_a1_tables : Nat) (f_a1_groupTables : (Nat → Int32)) (f_a1_symbols : (Nat → Int32)) (p2 : Int32) (p3 : Int32) (out : (Nat → Int32)) (hf : Coder_weigh_f p3 f_a0_weights x_a1_groupCount f_a1_groupTables p2 x_a1_symbolCount f_a1_symbols = some out) : Cv l D K y_Coder_weigh (g_wd y_Coder_weigh b_Coder_weigh 7 none) { frames := 2, cells := 0, slots := 0, locals := 46 } [.ref q_a0, .ref q_a1, .int p2, .int p3] [(q_a0, .inr (7, [.ref q_a0_weights, .ref r_a0_sums, .ref r_a0_depths, .ref r_a0_sorted, .ref r_a0_slots])), (q_a0_weights, .inl (K 0, 516, .inl f_a0_weights)), (q_a1, .inr (3, [.ref r_a1_told, .int x_a1_toldCount, .ref r_a1_last, .ref r_a1_ups, .ref q_a1_symbols, .int x_a1_symbolCount, .ref r_a1_used, .ref r_a1_list, .int x_a1_origin, .int x_a1_check, .ref q_a1_groupTables, .int x_a1_groupCount, .int x_a1_tableCount, .ref r_a1_tables])), (q_a1_groupTables, .inl (K 0, 46, .inl f_a1_groupTables)), (q_a1_symbols, .inl (K 0, 2251, .inl f_a1_symbols))] (fun (x : Unit) => [(q_a0, .inr (7, [.ref q_a0_weights, .ref r_a0_sums, .ref r_a0_depths, .ref r_a0_sorted, .ref r_a0_slots])), (q_a0_weights, .inl (K 0, 516, .inl out)), (q_a1, .inr (3, [.ref r_a1_told, .int x_a1_toldCount, .ref r_a1_last, .ref r_a1_ups, .ref q_a1_symbols, .int x_a1_symbolCount, .ref r_a1_used, .ref r_a1_list, .int x_a1_origin, .int x_a1_check, .ref q_a1_groupTables, .int x_a1_groupCount, .int x_a1_tableCount, .ref r_a1_tables])), (q_a1_groupTables, .inl (K 0, 46, .inl f_a1_groupTables)), (q_a1_symbols, .inl (K 0, 2251, .inl f_a1_symbols))]) := mk_v (by decide) (Nat.le_of_ble_eq_true rfl) (fun p e s m below meth c A Q hC kr => m_Coder_weigh hC q_a0 q_a0_weights r_a0_sums r_a0_depths r_a0_sorted r_a0_slots f_a0_weights q_a1 r_a1_told x_a1_toldCount r_a1_last r_a1_ups q_a1_symbols x_a1_symbolCount r_a1_used r_a1_list x_a1_origin x_a1_check q_a1_groupTables x_a1_groupCount x_a1_tableCount r_a1_tables f_a1_groupTables f_a1_symbols p2 p3 out hf (fun x o9 pc lv ho => by subst ho; exact kr x pc lv))
abbrev b_Coder_bitsOf : ByteArray := prog_8_method_7_code
def y_Coder_bitsOf : MethodName := ⟨R_Coder, "bitsOf", "(LRotationPress$Block;I[I)I"⟩
theorem d_Coder_bitsOf_0 : decode b_Coder_bitsOf 0 = .ok (.aload_n 0, 1) := by decide +kernel
theorem d_Coder_bitsOf_1 : decode b_Coder_bitsOf 1 = .ok (.iload_n 1, 1) := by decide +kernel
theorem d_Coder_bitsOf_2 : decode b_Coder_bitsOf 2 = .ok (.invokestatic 95, 3) := by decide +kernel
theorem d_Coder_bitsOf_5 : decode b_Coder_bitsOf 5 = .ok (.istore_n 3, 1) := by decide +kernel
theorem d_Coder_bitsOf_6 : decode b_Coder_bitsOf 6 = .ok (.iconst 0, 1) := by decide +kernel
theorem d_Coder_bitsOf_7 : decode b_Coder_bitsOf 7 = .ok (.istore 4, 2) := by decide +kernel
theorem d_Coder_bitsOf_9 : decode b_Coder_bitsOf 9 = .ok (.iload_n 1, 1) := by decide +kernel
theorem d_Coder_bitsOf_10 : decode b_Coder_bitsOf 10 = .ok (.bipush 50, 2) := by decide +kernel
theorem d_Coder_bitsOf_12 : decode b_Coder_bitsOf 12 = .ok (.imul, 1) := by decide +kernel
theorem d_Coder_bitsOf_13 : decode b_Coder_bitsOf 13 = .ok (.istore 5, 2) := by decide +kernel
theorem d_Coder_bitsOf_15 : decode b_Coder_bitsOf 15 = .ok (.iload 5, 2) := by decide +kernel
theorem d_Coder_bitsOf_17 : decode b_Coder_bitsOf 17 = .ok (.iload_n 3, 1) := by decide +kernel
theorem d_Coder_bitsOf_18 : decode b_Coder_bitsOf 18 = .ok (.if_icmp .ge 23, 3) := by decide +kernel
theorem d_Coder_bitsOf_21 : decode b_Coder_bitsOf 21 = .ok (.iload 4, 2) := by decide +kernel
theorem d_Coder_bitsOf_23 : decode b_Coder_bitsOf 23 = .ok (.aload_n 2, 1) := by decide +kernel
theorem d_Coder_bitsOf_24 : decode b_Coder_bitsOf 24 = .ok (.aload_n 0, 1) := by decide +kernel
theorem d_Coder_bitsOf_25 : decode b_Coder_bitsOf 25 = .ok (.getfield 99, 3) := by decide +kernel
theorem d_Coder_bitsOf_28 : decode b_Coder_bitsOf 28 = .ok (.iload 5, 2) := by decide +kernel
theorem d_Coder_bitsOf_30 : decode b_Coder_bitsOf 30 = .ok (.iaload, 1) := by decide +kernel
theorem d_Coder_bitsOf_31 : decode b_Coder_bitsOf 31 = .ok (.iaload, 1) := by decide +kernel
theorem d_Coder_bitsOf_32 : decode b_Coder_bitsOf 32 = .ok (.iadd, 1) := by decide +kernel
theorem d_Coder_bitsOf_33 : decode b_Coder_bitsOf 33 = .ok (.istore 4, 2) := by decide +kernel
theorem d_Coder_bitsOf_35 : decode b_Coder_bitsOf 35 = .ok (.iinc 5 1, 3) := by decide +kernel
theorem d_Coder_bitsOf_38 : decode b_Coder_bitsOf 38 = .ok (.goto (-23), 3) := by decide +kernel
theorem d_Coder_bitsOf_41 : decode b_Coder_bitsOf 41 = .ok (.iload 4, 2) := by decide +kernel
theorem d_Coder_bitsOf_43 : decode b_Coder_bitsOf 43 = .ok (.ireturn, 1) := by decide +kernel
set_option maxRecDepth 100000 in
set_option maxHeartbeats 4000000 in
theorem m_Coder_bitsOf {C : gT} (hC : gOk C b_Coder_bitsOf R_Coder { frames := 2, cells := 0, slots := 0, locals := 42 } 6) (q_a0 : Nat) (r_a0_told : Nat) (x_a0_toldCount : Int32) (r_a0_last : Nat) (r_a0_ups : Nat) (q_a0_symbols : Nat) (x_a0_symbolCount : Int32) (r_a0_used : Nat) (r_a0_list : Nat) (x_a0_origin : Int32) (x_a0_check : Int32) (r_a0_groupTables : Nat) (x_a0_groupCount : Int32) (x_a0_tableCount : Int32) (r_a0_tables : Nat) (f_a0_symbols : (Nat → Int32)) (q_a2 : Nat) (n_a2 : Nat) (f_a2 : (Nat → Int32)) (p1 : Int32) (out : Int32) (hf : Coder_bitsOf_f x_a0_symbolCount p1 f_a0_symbols n_a2 f_a2 = some out) (kr : ∀ (x : Unit) (o9 : Int32) (pc : Nat) (lv : List (Nat × Value)), o9 = out → decode b_Coder_bitsOf pc = .ok (.ireturn, 1) → narrow .int (.int o9) = .int o9 → gAt C 0 0 [(q_a0, .inr (3, [.ref r_a0_told, .int x_a0_toldCount, .ref r_a0_last, .ref r_a0_ups, .ref q_a0_symbols, .int x_a0_symbolCount, .ref r_a0_used, .ref r_a0_list, .int x_a0_origin, .int x_a0_check, .ref r_a0_groupTables, .int x_a0_groupCount, .int x_a0_tableCount, .ref r_a0_tables])), (q_a0_symbols, .inl (g_K C 0, 2251, .inl f_a0_symbols)), (q_a2, .inl (g_K C 0, n_a2, .inl f_a2))] lv pc [.int o9]) : gAt C 0 0 [(q_a0, .inr (3, [.ref r_a0_told, .int x_a0_toldCount, .ref r_a0_last, .ref r_a0_ups, .ref q_a0_symbols, .int x_a0_symbolCount, .ref r_a0_used, .ref r_a0_list, .int x_a0_origin, .int x_a0_check, .ref r_a0_groupTables, .int x_a0_groupCount, .int x_a0_tableCount, .ref r_a0_tables])), (q_a0_symbols, .inl (g_K C 0, 2251, .inl f_a0_symbols)), (q_a2, .inl (g_K C 0, n_a2, .inl f_a2))] [(0, .ref q_a0), (1, .int p1), (2, .ref q_a2)] 0 [] := by
  unfold Coder_bitsOf_f at hf
  refine g_aload_n 0 hC (j := 0) (hj := rfl) (hd := d_Coder_bitsOf_0) ?_
  refine g_iload_n 1 hC (j := 1) (hj := rfl) (hd := d_Coder_bitsOf_1) ?_
  obtain ⟨u1, hu1, hf⟩ := bd_some hf
  refine g_callSi 2 hC (c_Coder_endOf (g_l C) (g_D C) (g_K C) q_a0 r_a0_told x_a0_toldCount r_a0_last r_a0_ups q_a0_symbols x_a0_symbolCount r_a0_used r_a0_list x_a0_origin x_a0_check r_a0_groupTables x_a0_groupCount x_a0_tableCount r_a0_tables p1 u1 hu1) k994 k10 k992 k993 2 rfl (by decide +kernel) (by decide) [0] [1, 2] [(q_a0_symbols, .inl (g_K C 0, 2251, .inl f_a0_symbols)), (q_a2, .inl (g_K C 0, n_a2, .inl f_a2))] rfl rfl rfl rfl rfl rfl (Nat.le_of_ble_eq_true rfl) ⟨Nat.le_of_ble_eq_true rfl, Nat.le_of_ble_eq_true rfl⟩ (fun (_ : Unit) => [(q_a0_symbols, .inl (g_K C 0, 2251, .inl f_a0_symbols)), (q_a2, .inl (g_K C 0, n_a2, .inl f_a2)), (q_a0, .inr (3, [.ref r_a0_told, .int x_a0_toldCount, .ref r_a0_last, .ref r_a0_ups, .ref q_a0_symbols, .int x_a0_symbolCount, .ref r_a0_used, .ref r_a0_list, .int x_a0_origin, .int x_a0_check, .ref r_a0_groupTables, .int x_a0_groupCount, .int x_a0_tableCount, .ref r_a0_tables]))]) (fun _ => rfl) d_Coder_bitsOf_2 0 0 rfl rfl (fun _ => ?_)
  refine g_istore_n 5 hC (lv2 := [(3, .int u1), (0, .ref q_a0), (1, .int p1), (2, .ref q_a2)]) (hn := (by decide)) (hl2 := rfl) (hd := d_Coder_bitsOf_5) ?_
  refine g_iconst 6 hC (0 : Int32) (by decide) d_Coder_bitsOf_6 ?_
  refine g_istore 7 hC (lv2 := [(4, .int (0 : Int32)), (3, .int u1), (0, .ref q_a0), (1, .int p1), (2, .ref q_a2)]) (hn := (by decide)) (hl2 := rfl) (hd := d_Coder_bitsOf_7) ?_
  refine g_iload_n 9 hC (j := 3) (hj := rfl) (hd := d_Coder_bitsOf_9) ?_
  refine g_bipush 10 hC (50 : Int32) (by decide) d_Coder_bitsOf_10 ?_
  refine g_imul 12 hC d_Coder_bitsOf_12 ?_
  refine g_istore 13 hC (lv2 := [(5, .int (p1 * (50 : Int32))), (4, .int (0 : Int32)), (3, .int u1), (0, .ref q_a0), (1, .int p1), (2, .ref q_a2)]) (hn := (by decide)) (hl2 := rfl) (hd := d_Coder_bitsOf_13) ?_
  obtain ⟨u3, hu3, hf⟩ := bd_some hf
  have Xu3_0 : ∀ (v4 : Int32), v4 = u3 → gAt C 0 0 [(q_a0, .inr (3, [.ref r_a0_told, .int x_a0_toldCount, .ref r_a0_last, .ref r_a0_ups, .ref q_a0_symbols, .int x_a0_symbolCount, .ref r_a0_used, .ref r_a0_list, .int x_a0_origin, .int x_a0_check, .ref r_a0_groupTables, .int x_a0_groupCount, .int x_a0_tableCount, .ref r_a0_tables])), (q_a0_symbols, .inl (g_K C 0, 2251, .inl f_a0_symbols)), (q_a2, .inl (g_K C 0, n_a2, .inl f_a2))] [(4, .int v4)] 41 [] := by
    intro v4 hv
    rw [← hv] at hf
    refine g_iload 41 hC (j := 0) (hj := rfl) (hd := d_Coder_bitsOf_41) ?_
    exact g_re [0, 1, 2] [] rfl rfl rfl (kr () v4 43 [] (Option.some.inj hf) d_Coder_bitsOf_43 rfl)
  have Gu3 := lp_ind (b := (Coder_bitsOf_L15 u1 f_a0_symbols n_a2 f_a2)) (G := fun (s2 : (Int32 × Int32)) => gAt C 0 0 [(q_a0, .inr (3, [.ref r_a0_told, .int x_a0_toldCount, .ref r_a0_last, .ref r_a0_ups, .ref q_a0_symbols, .int x_a0_symbolCount, .ref r_a0_used, .ref r_a0_list, .int x_a0_origin, .int x_a0_check, .ref r_a0_groupTables, .int x_a0_groupCount, .int x_a0_tableCount, .ref r_a0_tables])), (q_a0_symbols, .inl (g_K C 0, 2251, .inl f_a0_symbols)), (q_a2, .inl (g_K C 0, n_a2, .inl f_a2))] [(0, .ref q_a0), (2, .ref q_a2), (3, .int u1), (4, .int s2.1), (5, .int s2.2)] 15 []) (o := u3) (by
      intro s2 u5 hf hI hX
      unfold Coder_bitsOf_L15 at hf
      refine g_iload 15 hC (j := 4) (hj := rfl) (hd := d_Coder_bitsOf_15) ?_
      refine g_iload_n 17 hC (j := 2) (hj := rfl) (hd := d_Coder_bitsOf_17) ?_
      refine g_icmp_ge 18 hC 41 (by decide) d_Coder_bitsOf_18 (fun c6 => ?_) (fun c6 => ?_)
      · have hf := it_t c6 hf
        exact g_re [0, 1, 2] [3] rfl rfl rfl (Xu3_0 s2.1 (hX s2.1 hf))
      · have hf := it_f c6 hf
        refine g_iload 21 hC (j := 3) (hj := rfl) (hd := d_Coder_bitsOf_21) ?_
        refine g_aload_n 23 hC (j := 1) (hj := rfl) (hd := d_Coder_bitsOf_23) ?_
        refine g_aload_n 24 hC (j := 0) (hj := rfl) (hd := d_Coder_bitsOf_24) ?_
        refine g_get 25 hC i_Block rfl 0 rfl 4 (by decide) k141 rfl d_Coder_bitsOf_25 ?_
        refine g_iload 28 hC (j := 4) (hj := rfl) (hd := d_Coder_bitsOf_28) ?_
        obtain ⟨e7, hf⟩ := gd_some hf
        refine g_iald 30 hC 1 rfl e7 d_Coder_bitsOf_30 ?_
        obtain ⟨e8, hf⟩ := gd_some hf
        refine g_iald 31 hC 2 rfl e8 d_Coder_bitsOf_31 ?_
        refine g_iadd 32 hC d_Coder_bitsOf_32 ?_
        refine g_istore 33 hC (lv2 := [(4, .int (s2.1 + (f_a2 (f_a0_symbols s2.2.toNatClampNeg).toNatClampNeg))), (0, .ref q_a0), (2, .ref q_a2), (3, .int u1), (5, .int s2.2)]) (hn := (by decide)) (hl2 := rfl) (hd := d_Coder_bitsOf_33) ?_
        refine g_iinc 35 hC 4 (1 : Int32) [(5, .int (s2.2 + (1 : Int32))), (4, .int (s2.1 + (f_a2 (f_a0_symbols s2.2.toNatClampNeg).toNatClampNeg))), (0, .ref q_a0), (2, .ref q_a2), (3, .int u1)] rfl (by decide) (by decide) rfl d_Coder_bitsOf_35 ?_
        refine g_goto 38 hC 15 (by decide) d_Coder_bitsOf_38 ?_
        exact g_re [0, 1, 2] [2, 3, 4, 1, 0] rfl rfl rfl (hI ((s2.1 + (f_a2 (f_a0_symbols s2.2.toNatClampNeg).toNatClampNeg)), (s2.2 + (1 : Int32))) hf)) gas
  exact g_re [2, 0, 1] [3, 5, 2, 1, 0] rfl rfl rfl (Gu3 ((0 : Int32), (p1 * (50 : Int32))) hu3)
theorem c_Coder_bitsOf (l : Launch) (D : va_G) (K : Nat → ClassId) (q_a0 : Nat) (r_a0_told : Nat) (x_a0_toldCount : Int32) (r_a0_last : Nat) (r_a0_ups : Nat) (q_a0_symbols : Nat) (x_a0_symbolCount : Int32) (r_a0_used : Nat) (r_a0_list : Nat) (x_a0_origin : Int32) (x_a0_check : Int32) (r_a0_groupTables : Nat) (x_a0_groupCount : Int32) (x_a0_tableCount : Int32) (r_a0_tables : Nat) (f_a0_symbols : (Nat → Int32)) (q_a2 : Nat) (n_a2 : Nat) (f_a2 : (Nat → Int32)) (p1 : Int32) (out : Int32) (hf : Coder_bitsOf_f x_a0_symbolCount p1 f_a0_symbols n_a2 f_a2 = some out) : Ci l D K y_Coder_bitsOf (g_wd y_Coder_bitsOf b_Coder_bitsOf 6 (some .int)) { frames := 2, cells := 0, slots := 0, locals := 42 } [.ref q_a0, .int p1, .ref q_a2] [(q_a0, .inr (3, [.ref r_a0_told, .int x_a0_toldCount, .ref r_a0_last, .ref r_a0_ups, .ref q_a0_symbols, .int x_a0_symbolCount, .ref r_a0_used, .ref r_a0_list, .int x_a0_origin, .int x_a0_check, .ref r_a0_groupTables, .int x_a0_groupCount, .int x_a0_tableCount, .ref r_a0_tables])), (q_a0_symbols, .inl (K 0, 2251, .inl f_a0_symbols)), (q_a2, .inl (K 0, n_a2, .inl f_a2))] (fun (x : Unit) => [(q_a0, .inr (3, [.ref r_a0_told, .int x_a0_toldCount, .ref r_a0_last, .ref r_a0_ups, .ref q_a0_symbols, .int x_a0_symbolCount, .ref r_a0_used, .ref r_a0_list, .int x_a0_origin, .int x_a0_check, .ref r_a0_groupTables, .int x_a0_groupCount, .int x_a0_tableCount, .ref r_a0_tables])), (q_a0_symbols, .inl (K 0, 2251, .inl f_a0_symbols)), (q_a2, .inl (K 0, n_a2, .inl f_a2))]) out := mk_i (by decide) (Nat.le_of_ble_eq_true rfl) (fun p e s m below meth c A Q hC kr => m_Coder_bitsOf hC q_a0 r_a0_told x_a0_toldCount r_a0_last r_a0_ups q_a0_symbols x_a0_symbolCount r_a0_used r_a0_list x_a0_origin x_a0_check r_a0_groupTables x_a0_groupCount x_a0_tableCount r_a0_tables f_a0_symbols q_a2 n_a2 f_a2 p1 out hf (fun x o9 pc lv ho => by subst ho; exact kr x pc lv))
