abbrev b_Block_makeUps : ByteArray := prog_4_method_8_code
def y_Block_makeUps : MethodName := ⟨R_Block, "makeUps", "()V"⟩
theorem d_Block_makeUps_0 : decode b_Block_makeUps 0 = .ok (.aload_n 0, 1) := by decide +kernel
theorem d_Block_makeUps_1 : decode b_Block_makeUps 1 = .ok (.getfield 24, 3) := by decide +kernel
theorem d_Block_makeUps_4 : decode b_Block_makeUps 4 = .ok (.iconst 0, 1) := by decide +kernel
theorem d_Block_makeUps_5 : decode b_Block_makeUps 5 = .ok (.invokestatic 104, 3) := by decide +kernel
theorem d_Block_makeUps_8 : decode b_Block_makeUps 8 = .ok (.iconst 0, 1) := by decide +kernel
theorem d_Block_makeUps_9 : decode b_Block_makeUps 9 = .ok (.istore_n 1, 1) := by decide +kernel
theorem d_Block_makeUps_10 : decode b_Block_makeUps 10 = .ok (.iload_n 1, 1) := by decide +kernel
theorem d_Block_makeUps_11 : decode b_Block_makeUps 11 = .ok (.aload_n 0, 1) := by decide +kernel
theorem d_Block_makeUps_12 : decode b_Block_makeUps 12 = .ok (.getfield 44, 3) := by decide +kernel
theorem d_Block_makeUps_15 : decode b_Block_makeUps 15 = .ok (.if_icmp .ge 21, 3) := by decide +kernel
theorem d_Block_makeUps_18 : decode b_Block_makeUps 18 = .ok (.aload_n 0, 1) := by decide +kernel
theorem d_Block_makeUps_19 : decode b_Block_makeUps 19 = .ok (.getfield 24, 3) := by decide +kernel
theorem d_Block_makeUps_22 : decode b_Block_makeUps 22 = .ok (.aload_n 0, 1) := by decide +kernel
theorem d_Block_makeUps_23 : decode b_Block_makeUps 23 = .ok (.getfield 15, 3) := by decide +kernel
theorem d_Block_makeUps_26 : decode b_Block_makeUps 26 = .ok (.iload_n 1, 1) := by decide +kernel
theorem d_Block_makeUps_27 : decode b_Block_makeUps 27 = .ok (.iaload, 1) := by decide +kernel
theorem d_Block_makeUps_28 : decode b_Block_makeUps 28 = .ok (.iconst 1, 1) := by decide +kernel
theorem d_Block_makeUps_29 : decode b_Block_makeUps 29 = .ok (.iastore, 1) := by decide +kernel
theorem d_Block_makeUps_30 : decode b_Block_makeUps 30 = .ok (.iinc 1 1, 3) := by decide +kernel
theorem d_Block_makeUps_33 : decode b_Block_makeUps 33 = .ok (.goto (-23), 3) := by decide +kernel
theorem d_Block_makeUps_36 : decode b_Block_makeUps 36 = .ok (.aload_n 0, 1) := by decide +kernel
theorem d_Block_makeUps_37 : decode b_Block_makeUps 37 = .ok (.getfield 30, 3) := by decide +kernel
theorem d_Block_makeUps_40 : decode b_Block_makeUps 40 = .ok (.iconst 0, 1) := by decide +kernel
theorem d_Block_makeUps_41 : decode b_Block_makeUps 41 = .ok (.putfield 110, 3) := by decide +kernel
theorem d_Block_makeUps_44 : decode b_Block_makeUps 44 = .ok (.iconst 0, 1) := by decide +kernel
theorem d_Block_makeUps_45 : decode b_Block_makeUps 45 = .ok (.istore_n 1, 1) := by decide +kernel
theorem d_Block_makeUps_46 : decode b_Block_makeUps 46 = .ok (.iload_n 1, 1) := by decide +kernel
theorem d_Block_makeUps_47 : decode b_Block_makeUps 47 = .ok (.sipush 256, 3) := by decide +kernel
theorem d_Block_makeUps_50 : decode b_Block_makeUps 50 = .ok (.if_icmp .ge 27, 3) := by decide +kernel
theorem d_Block_makeUps_53 : decode b_Block_makeUps 53 = .ok (.aload_n 0, 1) := by decide +kernel
theorem d_Block_makeUps_54 : decode b_Block_makeUps 54 = .ok (.getfield 24, 3) := by decide +kernel
theorem d_Block_makeUps_57 : decode b_Block_makeUps 57 = .ok (.iload_n 1, 1) := by decide +kernel
theorem d_Block_makeUps_58 : decode b_Block_makeUps 58 = .ok (.iaload, 1) := by decide +kernel
theorem d_Block_makeUps_59 : decode b_Block_makeUps 59 = .ok (.iconst 1, 1) := by decide +kernel
theorem d_Block_makeUps_60 : decode b_Block_makeUps 60 = .ok (.if_icmp .ne 11, 3) := by decide +kernel
theorem d_Block_makeUps_63 : decode b_Block_makeUps 63 = .ok (.aload_n 0, 1) := by decide +kernel
theorem d_Block_makeUps_64 : decode b_Block_makeUps 64 = .ok (.getfield 30, 3) := by decide +kernel
theorem d_Block_makeUps_67 : decode b_Block_makeUps 67 = .ok (.iload_n 1, 1) := by decide +kernel
theorem d_Block_makeUps_68 : decode b_Block_makeUps 68 = .ok (.invokevirtual 111, 3) := by decide +kernel
theorem d_Block_makeUps_71 : decode b_Block_makeUps 71 = .ok (.iinc 1 1, 3) := by decide +kernel
theorem d_Block_makeUps_74 : decode b_Block_makeUps 74 = .ok (.goto (-28), 3) := by decide +kernel
theorem d_Block_makeUps_77 : decode b_Block_makeUps 77 = .ok (.iconst 0, 1) := by decide +kernel
theorem d_Block_makeUps_78 : decode b_Block_makeUps 78 = .ok (.istore_n 1, 1) := by decide +kernel
theorem d_Block_makeUps_79 : decode b_Block_makeUps 79 = .ok (.iload_n 1, 1) := by decide +kernel
theorem d_Block_makeUps_80 : decode b_Block_makeUps 80 = .ok (.aload_n 0, 1) := by decide +kernel
theorem d_Block_makeUps_81 : decode b_Block_makeUps 81 = .ok (.getfield 44, 3) := by decide +kernel
theorem d_Block_makeUps_84 : decode b_Block_makeUps 84 = .ok (.if_icmp .ge 28, 3) := by decide +kernel
theorem d_Block_makeUps_87 : decode b_Block_makeUps 87 = .ok (.aload_n 0, 1) := by decide +kernel
theorem d_Block_makeUps_88 : decode b_Block_makeUps 88 = .ok (.getfield 18, 3) := by decide +kernel
theorem d_Block_makeUps_91 : decode b_Block_makeUps 91 = .ok (.iload_n 1, 1) := by decide +kernel
theorem d_Block_makeUps_92 : decode b_Block_makeUps 92 = .ok (.aload_n 0, 1) := by decide +kernel
theorem d_Block_makeUps_93 : decode b_Block_makeUps 93 = .ok (.getfield 30, 3) := by decide +kernel
theorem d_Block_makeUps_96 : decode b_Block_makeUps 96 = .ok (.aload_n 0, 1) := by decide +kernel
theorem d_Block_makeUps_97 : decode b_Block_makeUps 97 = .ok (.getfield 15, 3) := by decide +kernel
theorem d_Block_makeUps_100 : decode b_Block_makeUps 100 = .ok (.iload_n 1, 1) := by decide +kernel
theorem d_Block_makeUps_101 : decode b_Block_makeUps 101 = .ok (.iaload, 1) := by decide +kernel
theorem d_Block_makeUps_102 : decode b_Block_makeUps 102 = .ok (.invokevirtual 114, 3) := by decide +kernel
theorem d_Block_makeUps_105 : decode b_Block_makeUps 105 = .ok (.iastore, 1) := by decide +kernel
theorem d_Block_makeUps_106 : decode b_Block_makeUps 106 = .ok (.iinc 1 1, 3) := by decide +kernel
theorem d_Block_makeUps_109 : decode b_Block_makeUps 109 = .ok (.goto (-30), 3) := by decide +kernel
theorem d_Block_makeUps_112 : decode b_Block_makeUps 112 = .ok (.return_, 1) := by decide +kernel
theorem k147 : (Jvm.Cond.fieldLink "RotationPress$Block" (24 : Nat) "RotationPress$Block" "used" "[I") ∈ g_tbl := List.mem_filter.mpr ⟨List.mem_append_right (k2_sels lw_privs) (List.mem_append_left _ (List.mem_of_getElem? (l := tables_1_1) (i := 147) rfl)), rfl⟩
theorem k956 : (Jvm.Cond.methodLink "RotationPress$Block" (104 : Nat) ({ cls := "java/util/Arrays", name := "fill", desc := "([II)V" } : Jvm.MethodName)) ∈ g_tbl := List.mem_filter.mpr ⟨List.mem_append_right (k2_sels lw_privs) (List.mem_append_right _ (List.mem_append_right _ (List.mem_append_right _ (List.mem_append_left _ (List.mem_of_getElem? (l := tables_1_4) (i := 236) rfl))))), rfl⟩
theorem k149 : (Jvm.Cond.fieldLink "RotationPress$Block" (30 : Nat) "RotationPress$Block" "list" "LRotationPress$FrontList;") ∈ g_tbl := List.mem_filter.mpr ⟨List.mem_append_right (k2_sels lw_privs) (List.mem_append_left _ (List.mem_of_getElem? (l := tables_1_1) (i := 149) rfl)), rfl⟩
theorem k86 : (Jvm.Cond.fieldLink "RotationPress$Block" (110 : Nat) "RotationPress$FrontList" "count" "I") ∈ g_tbl := List.mem_filter.mpr ⟨List.mem_append_right (k2_sels lw_privs) (List.mem_append_left _ (List.mem_of_getElem? (l := tables_1_1) (i := 86) rfl)), rfl⟩
theorem k966 : (Jvm.Cond.code ({ cls := "RotationPress$FrontList", name := "raise", desc := "(I)I" } : Jvm.MethodName) prog_9_method_4_code (3 : Nat) (Option.some Jvm.ClassFile.FieldType.int)) ∈ g_tbl := List.mem_filter.mpr ⟨List.mem_append_right (k2_sels lw_privs) (List.mem_append_right _ (List.mem_append_right _ (List.mem_append_right _ (List.mem_append_right _ (List.mem_append_left _ (List.mem_of_getElem? (l := tables_1_5) (i := 6) rfl)))))), rfl⟩
theorem k963 : (Jvm.Cond.methodLink "RotationPress$Block" (114 : Nat) ({ cls := "RotationPress$FrontList", name := "raise", desc := "(I)I" } : Jvm.MethodName)) ∈ g_tbl := List.mem_filter.mpr ⟨List.mem_append_right (k2_sels lw_privs) (List.mem_append_right _ (List.mem_append_right _ (List.mem_append_right _ (List.mem_append_right _ (List.mem_append_left _ (List.mem_of_getElem? (l := tables_1_5) (i := 3) rfl)))))), rfl⟩
theorem k964 : (Jvm.Cond.instanceMethod ({ cls := "RotationPress$FrontList", name := "raise", desc := "(I)I" } : Jvm.MethodName)) ∈ g_tbl := List.mem_filter.mpr ⟨List.mem_append_right (k2_sels lw_privs) (List.mem_append_right _ (List.mem_append_right _ (List.mem_append_right _ (List.mem_append_right _ (List.mem_append_left _ (List.mem_of_getElem? (l := tables_1_5) (i := 4) rfl)))))), rfl⟩
theorem k965 : (Jvm.Cond.selects "RotationPress$FrontList" ({ cls := "RotationPress$FrontList", name := "raise", desc := "(I)I" } : Jvm.MethodName) ({ cls := "RotationPress$FrontList", name := "raise", desc := "(I)I" } : Jvm.MethodName)) ∈ g_tbl := List.mem_filter.mpr ⟨List.mem_append_right (k2_sels lw_privs) (List.mem_append_right _ (List.mem_append_right _ (List.mem_append_right _ (List.mem_append_right _ (List.mem_append_left _ (List.mem_of_getElem? (l := tables_1_5) (i := 5) rfl)))))), rfl⟩
theorem k959 : (Jvm.Cond.methodLink "RotationPress$Block" (111 : Nat) ({ cls := "RotationPress$FrontList", name := "append", desc := "(I)V" } : Jvm.MethodName)) ∈ g_tbl := List.mem_filter.mpr ⟨List.mem_append_right (k2_sels lw_privs) (List.mem_append_right _ (List.mem_append_right _ (List.mem_append_right _ (List.mem_append_left _ (List.mem_of_getElem? (l := tables_1_4) (i := 239) rfl))))), rfl⟩
set_option maxRecDepth 100000 in
set_option maxHeartbeats 4000000 in
theorem m_Block_makeUps {C : gT} (hC : gOk C b_Block_makeUps R_Block { frames := 3, cells := 0, slots := 0, locals := 84 } 2) (q_a0 : Nat) (r_a0_told : Nat) (x_a0_toldCount : Int32) (q_a0_last : Nat) (q_a0_ups : Nat) (r_a0_symbols : Nat) (x_a0_symbolCount : Int32) (q_a0_used : Nat) (q_a0_list : Nat) (x_a0_origin : Int32) (x_a0_check : Int32) (r_a0_groupTables : Nat) (x_a0_groupCount : Int32) (x_a0_tableCount : Int32) (r_a0_tables : Nat) (f_a0_used : (Nat → Int32)) (f_a0_last : (Nat → Int32)) (q_a0_list_members : Nat) (x_a0_list_count : Int32) (f_a0_list_members : (Nat → Int32)) (f_a0_ups : (Nat → Int32)) (out : ((Nat → Int32) × Int32 × (Nat → Int32) × (Nat → Int32))) (hf : Block_makeUps_f f_a0_used x_a0_toldCount f_a0_last f_a0_list_members f_a0_ups = some out) (kr : ∀ (x : Unit) (o9 : ((Nat → Int32) × Int32 × (Nat → Int32) × (Nat → Int32))) (pc : Nat) (lv : List (Nat × Value)), o9 = out → decode b_Block_makeUps pc = .ok (.return_, 1) → gAt C 0 0 [(q_a0, .inr (3, [.ref r_a0_told, .int x_a0_toldCount, .ref q_a0_last, .ref q_a0_ups, .ref r_a0_symbols, .int x_a0_symbolCount, .ref q_a0_used, .ref q_a0_list, .int x_a0_origin, .int x_a0_check, .ref r_a0_groupTables, .int x_a0_groupCount, .int x_a0_tableCount, .ref r_a0_tables])), (q_a0_used, .inl (g_K C 0, 256, .inl o9.1)), (q_a0_last, .inl (g_K C 0, 2250, .inl f_a0_last)), (q_a0_list, .inr (8, [.ref q_a0_list_members, .int o9.2.1])), (q_a0_list_members, .inl (g_K C 0, 256, .inl o9.2.2.1)), (q_a0_ups, .inl (g_K C 0, 2250, .inl o9.2.2.2))] lv pc []) : gAt C 0 0 [(q_a0, .inr (3, [.ref r_a0_told, .int x_a0_toldCount, .ref q_a0_last, .ref q_a0_ups, .ref r_a0_symbols, .int x_a0_symbolCount, .ref q_a0_used, .ref q_a0_list, .int x_a0_origin, .int x_a0_check, .ref r_a0_groupTables, .int x_a0_groupCount, .int x_a0_tableCount, .ref r_a0_tables])), (q_a0_used, .inl (g_K C 0, 256, .inl f_a0_used)), (q_a0_last, .inl (g_K C 0, 2250, .inl f_a0_last)), (q_a0_list, .inr (8, [.ref q_a0_list_members, .int x_a0_list_count])), (q_a0_list_members, .inl (g_K C 0, 256, .inl f_a0_list_members)), (q_a0_ups, .inl (g_K C 0, 2250, .inl f_a0_ups))] [(0, .ref q_a0)] 0 [] := by
  unfold Block_makeUps_f at hf
  refine g_aload_n 0 hC (j := 0) (hj := rfl) (hd := d_Block_makeUps_0) ?_
  refine g_get 1 hC i_Block rfl 0 rfl 6 (by decide) k147 rfl d_Block_makeUps_1 ?_
  refine g_iconst 4 hC (0 : Int32) (by decide) d_Block_makeUps_4 ?_
  obtain ⟨u1, hu1, hf⟩ := bd_some hf
  refine g_callSv 5 hC (c_Arrays_fill0 (g_l C) (g_D C) (g_K C) q_a0_used 256 f_a0_used (0 : Int32) u1 hu1) k958 k19 k956 k957 2 rfl (by decide +kernel) (by decide) [1] [0, 2, 3, 4, 5] [(q_a0, .inr (3, [.ref r_a0_told, .int x_a0_toldCount, .ref q_a0_last, .ref q_a0_ups, .ref r_a0_symbols, .int x_a0_symbolCount, .ref q_a0_used, .ref q_a0_list, .int x_a0_origin, .int x_a0_check, .ref r_a0_groupTables, .int x_a0_groupCount, .int x_a0_tableCount, .ref r_a0_tables])), (q_a0_last, .inl (g_K C 0, 2250, .inl f_a0_last)), (q_a0_list, .inr (8, [.ref q_a0_list_members, .int x_a0_list_count])), (q_a0_list_members, .inl (g_K C 0, 256, .inl f_a0_list_members)), (q_a0_ups, .inl (g_K C 0, 2250, .inl f_a0_ups))] rfl rfl rfl rfl rfl rfl (Nat.le_of_ble_eq_true rfl) ⟨Nat.le_of_ble_eq_true rfl, Nat.le_of_ble_eq_true rfl⟩ (fun (_ : Unit) => [(q_a0, .inr (3, [.ref r_a0_told, .int x_a0_toldCount, .ref q_a0_last, .ref q_a0_ups, .ref r_a0_symbols, .int x_a0_symbolCount, .ref q_a0_used, .ref q_a0_list, .int x_a0_origin, .int x_a0_check, .ref r_a0_groupTables, .int x_a0_groupCount, .int x_a0_tableCount, .ref r_a0_tables])), (q_a0_last, .inl (g_K C 0, 2250, .inl f_a0_last)), (q_a0_list, .inr (8, [.ref q_a0_list_members, .int x_a0_list_count])), (q_a0_list_members, .inl (g_K C 0, 256, .inl f_a0_list_members)), (q_a0_ups, .inl (g_K C 0, 2250, .inl f_a0_ups)), (q_a0_used, .inl (g_K C 0, 256, .inl u1))]) (fun _ => rfl) d_Block_makeUps_5 0 0 rfl rfl (fun _ => ?_)
  refine g_iconst 8 hC (0 : Int32) (by decide) d_Block_makeUps_8 ?_
  refine g_istore_n 9 hC (lv2 := [(1, .int (0 : Int32)), (0, .ref q_a0)]) (hn := (by decide)) (hl2 := rfl) (hd := d_Block_makeUps_9) ?_
  obtain ⟨u3, hu3, hf⟩ := bd_some hf
  have Xu3_0 : ∀ (v4 : (Nat → Int32)), v4 = u3 → gAt C 0 0 [(q_a0, .inr (3, [.ref r_a0_told, .int x_a0_toldCount, .ref q_a0_last, .ref q_a0_ups, .ref r_a0_symbols, .int x_a0_symbolCount, .ref q_a0_used, .ref q_a0_list, .int x_a0_origin, .int x_a0_check, .ref r_a0_groupTables, .int x_a0_groupCount, .int x_a0_tableCount, .ref r_a0_tables])), (q_a0_used, .inl (g_K C 0, 256, .inl v4)), (q_a0_last, .inl (g_K C 0, 2250, .inl f_a0_last)), (q_a0_list, .inr (8, [.ref q_a0_list_members, .int x_a0_list_count])), (q_a0_list_members, .inl (g_K C 0, 256, .inl f_a0_list_members)), (q_a0_ups, .inl (g_K C 0, 2250, .inl f_a0_ups))] [(0, .ref q_a0)] 36 [] := by
    intro v4 hv
    rw [← hv] at hf
    refine g_aload_n 36 hC (j := 0) (hj := rfl) (hd := d_Block_makeUps_36) ?_
    refine g_get 37 hC i_Block rfl 0 rfl 7 (by decide) k149 rfl d_Block_makeUps_37 ?_
    refine g_iconst 40 hC (0 : Int32) (by decide) d_Block_makeUps_40 ?_
    refine g_put 41 hC i_FrontList rfl 3 rfl 1 (by decide) t_FrontList tk_FrontList n_FrontList k86 rfl rfl rfl (Nat.le_of_ble_eq_true rfl) [(q_a0, .inr (3, [.ref r_a0_told, .int x_a0_toldCount, .ref q_a0_last, .ref q_a0_ups, .ref r_a0_symbols, .int x_a0_symbolCount, .ref q_a0_used, .ref q_a0_list, .int x_a0_origin, .int x_a0_check, .ref r_a0_groupTables, .int x_a0_groupCount, .int x_a0_tableCount, .ref r_a0_tables])), (q_a0_used, .inl (g_K C 0, 256, .inl v4)), (q_a0_last, .inl (g_K C 0, 2250, .inl f_a0_last)), (q_a0_list, .inr (8, [.ref q_a0_list_members, .int (0 : Int32)])), (q_a0_list_members, .inl (g_K C 0, 256, .inl f_a0_list_members)), (q_a0_ups, .inl (g_K C 0, 2250, .inl f_a0_ups))] rfl d_Block_makeUps_41 ?_
    refine g_iconst 44 hC (0 : Int32) (by decide) d_Block_makeUps_44 ?_
    refine g_istore_n 45 hC (lv2 := [(1, .int (0 : Int32)), (0, .ref q_a0)]) (hn := (by decide)) (hl2 := rfl) (hd := d_Block_makeUps_45) ?_
    obtain ⟨u6, hu6, hf⟩ := bd_some hf
    have Xu6_0 : ∀ (v7 : (Int32 × (Nat → Int32))), v7 = u6 → gAt C 0 0 [(q_a0, .inr (3, [.ref r_a0_told, .int x_a0_toldCount, .ref q_a0_last, .ref q_a0_ups, .ref r_a0_symbols, .int x_a0_symbolCount, .ref q_a0_used, .ref q_a0_list, .int x_a0_origin, .int x_a0_check, .ref r_a0_groupTables, .int x_a0_groupCount, .int x_a0_tableCount, .ref r_a0_tables])), (q_a0_used, .inl (g_K C 0, 256, .inl v4)), (q_a0_last, .inl (g_K C 0, 2250, .inl f_a0_last)), (q_a0_list, .inr (8, [.ref q_a0_list_members, .int v7.1])), (q_a0_list_members, .inl (g_K C 0, 256, .inl v7.2)), (q_a0_ups, .inl (g_K C 0, 2250, .inl f_a0_ups))] [(0, .ref q_a0)] 77 [] := by
      intro v7 hv
      rw [← hv] at hf
      refine g_iconst 77 hC (0 : Int32) (by decide) d_Block_makeUps_77 ?_
      refine g_istore_n 78 hC (lv2 := [(1, .int (0 : Int32)), (0, .ref q_a0)]) (hn := (by decide)) (hl2 := rfl) (hd := d_Block_makeUps_78) ?_
      obtain ⟨u9, hu9, hf⟩ := bd_some hf
      have Xu9_0 : ∀ (v10 : ((Nat → Int32) × (Nat → Int32))), v10 = u9 → gAt C 0 0 [(q_a0, .inr (3, [.ref r_a0_told, .int x_a0_toldCount, .ref q_a0_last, .ref q_a0_ups, .ref r_a0_symbols, .int x_a0_symbolCount, .ref q_a0_used, .ref q_a0_list, .int x_a0_origin, .int x_a0_check, .ref r_a0_groupTables, .int x_a0_groupCount, .int x_a0_tableCount, .ref r_a0_tables])), (q_a0_used, .inl (g_K C 0, 256, .inl v4)), (q_a0_last, .inl (g_K C 0, 2250, .inl f_a0_last)), (q_a0_list, .inr (8, [.ref q_a0_list_members, .int v7.1])), (q_a0_list_members, .inl (g_K C 0, 256, .inl v10.1)), (q_a0_ups, .inl (g_K C 0, 2250, .inl v10.2))] [] 112 [] := by
        intro v10 hv
        rw [← hv] at hf
        exact kr () (v4, v7.1, v10.1, v10.2) 112 [] (Option.some.inj hf) d_Block_makeUps_112
      have Gu9 := lp_ind (b := (Block_makeUps_L79 x_a0_toldCount v7 f_a0_last)) (G := fun (s8 : (Int32 × (Nat → Int32) × (Nat → Int32))) => gAt C 0 0 [(q_a0, .inr (3, [.ref r_a0_told, .int x_a0_toldCount, .ref q_a0_last, .ref q_a0_ups, .ref r_a0_symbols, .int x_a0_symbolCount, .ref q_a0_used, .ref q_a0_list, .int x_a0_origin, .int x_a0_check, .ref r_a0_groupTables, .int x_a0_groupCount, .int x_a0_tableCount, .ref r_a0_tables])), (q_a0_used, .inl (g_K C 0, 256, .inl v4)), (q_a0_last, .inl (g_K C 0, 2250, .inl f_a0_last)), (q_a0_list, .inr (8, [.ref q_a0_list_members, .int v7.1])), (q_a0_list_members, .inl (g_K C 0, 256, .inl s8.2.1)), (q_a0_ups, .inl (g_K C 0, 2250, .inl s8.2.2))] [(0, .ref q_a0), (1, .int s8.1)] 79 []) (o := u9) (by
          intro s8 u11 hf hI hX
          unfold Block_makeUps_L79 at hf
          refine g_iload_n 79 hC (j := 1) (hj := rfl) (hd := d_Block_makeUps_79) ?_
          refine g_aload_n 80 hC (j := 0) (hj := rfl) (hd := d_Block_makeUps_80) ?_
          refine g_get 81 hC i_Block rfl 0 rfl 1 (by decide) k135 rfl d_Block_makeUps_81 ?_
          refine g_icmp_ge 84 hC 112 (by decide) d_Block_makeUps_84 (fun c12 => ?_) (fun c12 => ?_)
          · have hf := it_t c12 hf
            exact g_re [0, 1, 2, 3, 4, 5] [] rfl rfl rfl (Xu9_0 (s8.2.1, s8.2.2) (hX (s8.2.1, s8.2.2) hf))
          · have hf := it_f c12 hf
            refine g_aload_n 87 hC (j := 0) (hj := rfl) (hd := d_Block_makeUps_87) ?_
            refine g_get 88 hC i_Block rfl 0 rfl 3 (by decide) k139 rfl d_Block_makeUps_88 ?_
            refine g_iload_n 91 hC (j := 1) (hj := rfl) (hd := d_Block_makeUps_91) ?_
            refine g_aload_n 92 hC (j := 0) (hj := rfl) (hd := d_Block_makeUps_92) ?_
            refine g_get 93 hC i_Block rfl 0 rfl 7 (by decide) k149 rfl d_Block_makeUps_93 ?_
            refine g_aload_n 96 hC (j := 0) (hj := rfl) (hd := d_Block_makeUps_96) ?_
            refine g_get 97 hC i_Block rfl 0 rfl 2 (by decide) k137 rfl d_Block_makeUps_97 ?_
            refine g_iload_n 100 hC (j := 1) (hj := rfl) (hd := d_Block_makeUps_100) ?_
            obtain ⟨e13, hf⟩ := gd_some hf
            refine g_iald 101 hC 2 rfl e13 d_Block_makeUps_101 ?_
            obtain ⟨u14, hu14, hf⟩ := bd_some hf
            refine g_callVi 102 hC (c_FrontList_raise (g_l C) (g_D C) (g_K C) q_a0_list q_a0_list_members v7.1 s8.2.1 (f_a0_last s8.1.toNatClampNeg) u14 hu14) k966 k6 k963 k964 k965 1 rfl (by decide +kernel) (by decide) [3, 4] [0, 1, 2, 5] [(q_a0, .inr (3, [.ref r_a0_told, .int x_a0_toldCount, .ref q_a0_last, .ref q_a0_ups, .ref r_a0_symbols, .int x_a0_symbolCount, .ref q_a0_used, .ref q_a0_list, .int x_a0_origin, .int x_a0_check, .ref r_a0_groupTables, .int x_a0_groupCount, .int x_a0_tableCount, .ref r_a0_tables])), (q_a0_used, .inl (g_K C 0, 256, .inl v4)), (q_a0_last, .inl (g_K C 0, 2250, .inl f_a0_last)), (q_a0_ups, .inl (g_K C 0, 2250, .inl s8.2.2))] rfl rfl rfl rfl rfl 0 8 rfl rfl rfl rfl (Nat.le_of_ble_eq_true rfl) ⟨Nat.le_of_ble_eq_true rfl, Nat.le_of_ble_eq_true rfl⟩ (fun (_ : Unit) => [(q_a0, .inr (3, [.ref r_a0_told, .int x_a0_toldCount, .ref q_a0_last, .ref q_a0_ups, .ref r_a0_symbols, .int x_a0_symbolCount, .ref q_a0_used, .ref q_a0_list, .int x_a0_origin, .int x_a0_check, .ref r_a0_groupTables, .int x_a0_groupCount, .int x_a0_tableCount, .ref r_a0_tables])), (q_a0_used, .inl (g_K C 0, 256, .inl v4)), (q_a0_last, .inl (g_K C 0, 2250, .inl f_a0_last)), (q_a0_ups, .inl (g_K C 0, 2250, .inl s8.2.2)), (q_a0_list, .inr (8, [.ref q_a0_list_members, .int v7.1])), (q_a0_list_members, .inl (g_K C 0, 256, .inl u14.2))]) (fun _ => rfl) d_Block_makeUps_102 0 0 rfl rfl (fun _ => ?_)
            obtain ⟨e15, hf⟩ := gd_some hf
            refine g_iast 105 hC 3 rfl e15 [(q_a0, .inr (3, [.ref r_a0_told, .int x_a0_toldCount, .ref q_a0_last, .ref q_a0_ups, .ref r_a0_symbols, .int x_a0_symbolCount, .ref q_a0_used, .ref q_a0_list, .int x_a0_origin, .int x_a0_check, .ref r_a0_groupTables, .int x_a0_groupCount, .int x_a0_tableCount, .ref r_a0_tables])), (q_a0_used, .inl (g_K C 0, 256, .inl v4)), (q_a0_last, .inl (g_K C 0, 2250, .inl f_a0_last)), (q_a0_ups, .inl (g_K C 0, 2250, .inl (upd s8.2.2 s8.1.toNatClampNeg u14.1))), (q_a0_list, .inr (8, [.ref q_a0_list_members, .int v7.1])), (q_a0_list_members, .inl (g_K C 0, 256, .inl u14.2))] rfl d_Block_makeUps_105 ?_
            refine g_iinc 106 hC 1 (1 : Int32) [(1, .int (s8.1 + (1 : Int32))), (0, .ref q_a0)] rfl (by decide) (by decide) rfl d_Block_makeUps_106 ?_
            refine g_goto 109 hC 79 (by decide) d_Block_makeUps_109 ?_
            exact g_re [0, 1, 2, 4, 5, 3] [1, 0] rfl rfl rfl (hI ((s8.1 + (1 : Int32)), u14.2, (upd s8.2.2 s8.1.toNatClampNeg u14.1)) hf)) gas
      exact g_re [0, 1, 2, 3, 4, 5] [1, 0] rfl rfl rfl (Gu9 ((0 : Int32), v7.2, f_a0_ups) hu9)
    have Gu6 := lp_ind (b := (Block_makeUps_L46 v4)) (G := fun (s5 : (Int32 × Int32 × (Nat → Int32))) => gAt C 0 0 [(q_a0, .inr (3, [.ref r_a0_told, .int x_a0_toldCount, .ref q_a0_last, .ref q_a0_ups, .ref r_a0_symbols, .int x_a0_symbolCount, .ref q_a0_used, .ref q_a0_list, .int x_a0_origin, .int x_a0_check, .ref r_a0_groupTables, .int x_a0_groupCount, .int x_a0_tableCount, .ref r_a0_tables])), (q_a0_used, .inl (g_K C 0, 256, .inl v4)), (q_a0_last, .inl (g_K C 0, 2250, .inl f_a0_last)), (q_a0_list, .inr (8, [.ref q_a0_list_members, .int s5.2.1])), (q_a0_list_members, .inl (g_K C 0, 256, .inl s5.2.2)), (q_a0_ups, .inl (g_K C 0, 2250, .inl f_a0_ups))] [(0, .ref q_a0), (1, .int s5.1)] 46 []) (o := u6) (by
        intro s5 u16 hf hI hX
        unfold Block_makeUps_L46 at hf
        have J71 : ∀ (j71_0 : Int32) (j71_1 : (Nat → Int32)), Block_makeUps_J71 s5 j71_0 j71_1 = some u16 → gAt C 0 0 [(q_a0, .inr (3, [.ref r_a0_told, .int x_a0_toldCount, .ref q_a0_last, .ref q_a0_ups, .ref r_a0_symbols, .int x_a0_symbolCount, .ref q_a0_used, .ref q_a0_list, .int x_a0_origin, .int x_a0_check, .ref r_a0_groupTables, .int x_a0_groupCount, .int x_a0_tableCount, .ref r_a0_tables])), (q_a0_used, .inl (g_K C 0, 256, .inl v4)), (q_a0_last, .inl (g_K C 0, 2250, .inl f_a0_last)), (q_a0_list, .inr (8, [.ref q_a0_list_members, .int j71_0])), (q_a0_list_members, .inl (g_K C 0, 256, .inl j71_1)), (q_a0_ups, .inl (g_K C 0, 2250, .inl f_a0_ups))] [(0, .ref q_a0), (1, .int s5.1)] 71 [] := by
          intro j71_0 j71_1 hf
          unfold Block_makeUps_J71 at hf
          refine g_iinc 71 hC 1 (1 : Int32) [(1, .int (s5.1 + (1 : Int32))), (0, .ref q_a0)] rfl (by decide) (by decide) rfl d_Block_makeUps_71 ?_
          refine g_goto 74 hC 46 (by decide) d_Block_makeUps_74 ?_
          exact g_re [0, 1, 2, 3, 4, 5] [1, 0] rfl rfl rfl (hI ((s5.1 + (1 : Int32)), j71_0, j71_1) hf)
        refine g_iload_n 46 hC (j := 1) (hj := rfl) (hd := d_Block_makeUps_46) ?_
        refine g_sipush 47 hC (256 : Int32) (by decide) d_Block_makeUps_47 ?_
        refine g_icmp_ge 50 hC 77 (by decide) d_Block_makeUps_50 (fun c17 => ?_) (fun c17 => ?_)
        · have hf := it_t c17 hf
          exact g_re [0, 1, 2, 3, 4, 5] [0] rfl rfl rfl (Xu6_0 (s5.2.1, s5.2.2) (hX (s5.2.1, s5.2.2) hf))
        · have hf := it_f c17 hf
          refine g_aload_n 53 hC (j := 0) (hj := rfl) (hd := d_Block_makeUps_53) ?_
          refine g_get 54 hC i_Block rfl 0 rfl 6 (by decide) k147 rfl d_Block_makeUps_54 ?_
          refine g_iload_n 57 hC (j := 1) (hj := rfl) (hd := d_Block_makeUps_57) ?_
          obtain ⟨e18, hf⟩ := gd_some hf
          refine g_iald 58 hC 1 rfl e18 d_Block_makeUps_58 ?_
          refine g_iconst 59 hC (1 : Int32) (by decide) d_Block_makeUps_59 ?_
          refine g_icmp_ne 60 hC 71 (by decide) d_Block_makeUps_60 (fun c19 => ?_) (fun c19 => ?_)
          · have hf := it_f c19 hf
            exact J71 s5.2.1 s5.2.2 hf
          · have hf := it_t c19 hf
            refine g_aload_n 63 hC (j := 0) (hj := rfl) (hd := d_Block_makeUps_63) ?_
            refine g_get 64 hC i_Block rfl 0 rfl 7 (by decide) k149 rfl d_Block_makeUps_64 ?_
            refine g_iload_n 67 hC (j := 1) (hj := rfl) (hd := d_Block_makeUps_67) ?_
            obtain ⟨u20, hu20, hf⟩ := bd_some hf
            refine g_callVv 68 hC (c_FrontList_append (g_l C) (g_D C) (g_K C) q_a0_list q_a0_list_members s5.2.1 s5.2.2 s5.1 u20 hu20) k962 k6 k959 k960 k961 1 rfl (by decide +kernel) (by decide) [3, 4] [0, 1, 2, 5] [(q_a0, .inr (3, [.ref r_a0_told, .int x_a0_toldCount, .ref q_a0_last, .ref q_a0_ups, .ref r_a0_symbols, .int x_a0_symbolCount, .ref q_a0_used, .ref q_a0_list, .int x_a0_origin, .int x_a0_check, .ref r_a0_groupTables, .int x_a0_groupCount, .int x_a0_tableCount, .ref r_a0_tables])), (q_a0_used, .inl (g_K C 0, 256, .inl v4)), (q_a0_last, .inl (g_K C 0, 2250, .inl f_a0_last)), (q_a0_ups, .inl (g_K C 0, 2250, .inl f_a0_ups))] rfl rfl rfl rfl rfl 0 8 rfl rfl rfl rfl (Nat.le_of_ble_eq_true rfl) ⟨Nat.le_of_ble_eq_true rfl, Nat.le_of_ble_eq_true rfl⟩ (fun (_ : Unit) => [(q_a0, .inr (3, [.ref r_a0_told, .int x_a0_toldCount, .ref q_a0_last, .ref q_a0_ups, .ref r_a0_symbols, .int x_a0_symbolCount, .ref q_a0_used, .ref q_a0_list, .int x_a0_origin, .int x_a0_check, .ref r_a0_groupTables, .int x_a0_groupCount, .int x_a0_tableCount, .ref r_a0_tables])), (q_a0_used, .inl (g_K C 0, 256, .inl v4)), (q_a0_last, .inl (g_K C 0, 2250, .inl f_a0_last)), (q_a0_ups, .inl (g_K C 0, 2250, .inl f_a0_ups)), (q_a0_list, .inr (8, [.ref q_a0_list_members, .int u20.2])), (q_a0_list_members, .inl (g_K C 0, 256, .inl u20.1))]) (fun _ => rfl) d_Block_makeUps_68 0 0 rfl rfl (fun _ => ?_)
            exact g_re [0, 1, 2, 4, 5, 3] [0, 1] rfl rfl rfl (J71 u20.2 u20.1 hf)) gas
    exact g_re [0, 1, 2, 3, 4, 5] [1, 0] rfl rfl rfl (Gu6 ((0 : Int32), (0 : Int32), f_a0_list_members) hu6)
  have Gu3 := lp_ind (b := (Block_makeUps_L10 x_a0_toldCount f_a0_last)) (G := fun (s2 : (Int32 × (Nat → Int32))) => gAt C 0 0 [(q_a0, .inr (3, [.ref r_a0_told, .int x_a0_toldCount, .ref q_a0_last, .ref q_a0_ups, .ref r_a0_symbols, .int x_a0_symbolCount, .ref q_a0_used, .ref q_a0_list, .int x_a0_origin, .int x_a0_check, .ref r_a0_groupTables, .int x_a0_groupCount, .int x_a0_tableCount, .ref r_a0_tables])), (q_a0_used, .inl (g_K C 0, 256, .inl s2.2)), (q_a0_last, .inl (g_K C 0, 2250, .inl f_a0_last)), (q_a0_list, .inr (8, [.ref q_a0_list_members, .int x_a0_list_count])), (q_a0_list_members, .inl (g_K C 0, 256, .inl f_a0_list_members)), (q_a0_ups, .inl (g_K C 0, 2250, .inl f_a0_ups))] [(0, .ref q_a0), (1, .int s2.1)] 10 []) (o := u3) (by
      intro s2 u21 hf hI hX
      unfold Block_makeUps_L10 at hf
      refine g_iload_n 10 hC (j := 1) (hj := rfl) (hd := d_Block_makeUps_10) ?_
      refine g_aload_n 11 hC (j := 0) (hj := rfl) (hd := d_Block_makeUps_11) ?_
      refine g_get 12 hC i_Block rfl 0 rfl 1 (by decide) k135 rfl d_Block_makeUps_12 ?_
      refine g_icmp_ge 15 hC 36 (by decide) d_Block_makeUps_15 (fun c22 => ?_) (fun c22 => ?_)
      · have hf := it_t c22 hf
        exact g_re [0, 1, 2, 3, 4, 5] [0] rfl rfl rfl (Xu3_0 s2.2 (hX s2.2 hf))
      · have hf := it_f c22 hf
        refine g_aload_n 18 hC (j := 0) (hj := rfl) (hd := d_Block_makeUps_18) ?_
        refine g_get 19 hC i_Block rfl 0 rfl 6 (by decide) k147 rfl d_Block_makeUps_19 ?_
        refine g_aload_n 22 hC (j := 0) (hj := rfl) (hd := d_Block_makeUps_22) ?_
        refine g_get 23 hC i_Block rfl 0 rfl 2 (by decide) k137 rfl d_Block_makeUps_23 ?_
        refine g_iload_n 26 hC (j := 1) (hj := rfl) (hd := d_Block_makeUps_26) ?_
        obtain ⟨e23, hf⟩ := gd_some hf
        refine g_iald 27 hC 2 rfl e23 d_Block_makeUps_27 ?_
        refine g_iconst 28 hC (1 : Int32) (by decide) d_Block_makeUps_28 ?_
        obtain ⟨e24, hf⟩ := gd_some hf
        refine g_iast 29 hC 1 rfl e24 [(q_a0, .inr (3, [.ref r_a0_told, .int x_a0_toldCount, .ref q_a0_last, .ref q_a0_ups, .ref r_a0_symbols, .int x_a0_symbolCount, .ref q_a0_used, .ref q_a0_list, .int x_a0_origin, .int x_a0_check, .ref r_a0_groupTables, .int x_a0_groupCount, .int x_a0_tableCount, .ref r_a0_tables])), (q_a0_used, .inl (g_K C 0, 256, .inl (upd s2.2 (f_a0_last s2.1.toNatClampNeg).toNatClampNeg (1 : Int32)))), (q_a0_last, .inl (g_K C 0, 2250, .inl f_a0_last)), (q_a0_list, .inr (8, [.ref q_a0_list_members, .int x_a0_list_count])), (q_a0_list_members, .inl (g_K C 0, 256, .inl f_a0_list_members)), (q_a0_ups, .inl (g_K C 0, 2250, .inl f_a0_ups))] rfl d_Block_makeUps_29 ?_
        refine g_iinc 30 hC 1 (1 : Int32) [(1, .int (s2.1 + (1 : Int32))), (0, .ref q_a0)] rfl (by decide) (by decide) rfl d_Block_makeUps_30 ?_
        refine g_goto 33 hC 10 (by decide) d_Block_makeUps_33 ?_
        exact g_re [0, 1, 2, 3, 4, 5] [1, 0] rfl rfl rfl (hI ((s2.1 + (1 : Int32)), (upd s2.2 (f_a0_last s2.1.toNatClampNeg).toNatClampNeg (1 : Int32))) hf)) gas
  exact g_re [0, 5, 1, 2, 3, 4] [1, 0] rfl rfl rfl (Gu3 ((0 : Int32), u1) hu3)
theorem c_Block_makeUps (l : Launch) (D : va_G) (K : Nat → ClassId) (q_a0 : Nat) (r_a0_told : Nat) (x_a0_toldCount : Int32) (q_a0_last : Nat) (q_a0_ups : Nat) (r_a0_symbols : Nat) (x_a0_symbolCount : Int32) (q_a0_used : Nat) (q_a0_list : Nat) (x_a0_origin : Int32) (x_a0_check : Int32) (r_a0_groupTables : Nat) (x_a0_groupCount : Int32) (x_a0_tableCount : Int32) (r_a0_tables : Nat) (f_a0_used : (Nat → Int32)) (f_a0_last : (Nat → Int32)) (q_a0_list_members : Nat) (x_a0_list_count : Int32) (f_a0_list_members : (Nat → Int32)) (f_a0_ups : (Nat → Int32)) (out : ((Nat → Int32) × Int32 × (Nat → Int32) × (Nat → Int32))) (hf : Block_makeUps_f f_a0_used x_a0_toldCount f_a0_last f_a0_list_members f_a0_ups = some out) : Cv l D K y_Block_makeUps (g_wd y_Block_makeUps b_Block_makeUps 2 none) { frames := 3, cells := 0, slots := 0, locals := 84 } [.ref q_a0] [(q_a0, .inr (3, [.ref r_a0_told, .int x_a0_toldCount, .ref q_a0_last, .ref q_a0_ups, .ref r_a0_symbols, .int x_a0_symbolCount, .ref q_a0_used, .ref q_a0_list, .int x_a0_origin, .int x_a0_check, .ref r_a0_groupTables, .int x_a0_groupCount, .int x_a0_tableCount, .ref r_a0_tables])), (q_a0_used, .inl (K 0, 256, .inl f_a0_used)), (q_a0_last, .inl (K 0, 2250, .inl f_a0_last)), (q_a0_list, .inr (8, [.ref q_a0_list_members, .int x_a0_list_count])), (q_a0_list_members, .inl (K 0, 256, .inl f_a0_list_members)), (q_a0_ups, .inl (K 0, 2250, .inl f_a0_ups))] (fun (x : Unit) => [(q_a0, .inr (3, [.ref r_a0_told, .int x_a0_toldCount, .ref q_a0_last, .ref q_a0_ups, .ref r_a0_symbols, .int x_a0_symbolCount, .ref q_a0_used, .ref q_a0_list, .int x_a0_origin, .int x_a0_check, .ref r_a0_groupTables, .int x_a0_groupCount, .int x_a0_tableCount, .ref r_a0_tables])), (q_a0_used, .inl (K 0, 256, .inl out.1)), (q_a0_last, .inl (K 0, 2250, .inl f_a0_last)), (q_a0_list, .inr (8, [.ref q_a0_list_members, .int out.2.1])), (q_a0_list_members, .inl (K 0, 256, .inl out.2.2.1)), (q_a0_ups, .inl (K 0, 2250, .inl out.2.2.2))]) := mk_v (by decide) (Nat.le_of_ble_eq_true rfl) (fun p e s m below meth c A Q hC kr => m_Block_makeUps hC q_a0 r_a0_told x_a0_toldCount q_a0_last q_a0_ups r_a0_symbols x_a0_symbolCount q_a0_used q_a0_list x_a0_origin x_a0_check r_a0_groupTables x_a0_groupCount x_a0_tableCount r_a0_tables f_a0_used f_a0_last q_a0_list_members x_a0_list_count f_a0_list_members f_a0_ups out hf (fun x o9 pc lv ho => by subst ho; exact kr x pc lv))
abbrev b_Block_tellZeros : ByteArray := prog_4_method_10_code
def y_Block_tellZeros : MethodName := ⟨R_Block, "tellZeros", "(I)V"⟩
theorem d_Block_tellZeros_0 : decode b_Block_tellZeros 0 = .ok (.iload_n 1, 1) := by decide +kernel
theorem d_Block_tellZeros_1 : decode b_Block_tellZeros 1 = .ok (.istore_n 2, 1) := by decide +kernel
theorem d_Block_tellZeros_2 : decode b_Block_tellZeros 2 = .ok (.iload_n 2, 1) := by decide +kernel
theorem d_Block_tellZeros_3 : decode b_Block_tellZeros 3 = .ok (.ifCond .le 36, 3) := by decide +kernel
theorem d_Block_tellZeros_6 : decode b_Block_tellZeros 6 = .ok (.aload_n 0, 1) := by decide +kernel
theorem d_Block_tellZeros_7 : decode b_Block_tellZeros 7 = .ok (.getfield 21, 3) := by decide +kernel
theorem d_Block_tellZeros_10 : decode b_Block_tellZeros 10 = .ok (.aload_n 0, 1) := by decide +kernel
theorem d_Block_tellZeros_11 : decode b_Block_tellZeros 11 = .ok (.getfield 52, 3) := by decide +kernel
theorem d_Block_tellZeros_14 : decode b_Block_tellZeros 14 = .ok (.iload_n 2, 1) := by decide +kernel
theorem d_Block_tellZeros_15 : decode b_Block_tellZeros 15 = .ok (.iconst 1, 1) := by decide +kernel
theorem d_Block_tellZeros_16 : decode b_Block_tellZeros 16 = .ok (.isub, 1) := by decide +kernel
theorem d_Block_tellZeros_17 : decode b_Block_tellZeros 17 = .ok (.iconst 1, 1) := by decide +kernel
theorem d_Block_tellZeros_18 : decode b_Block_tellZeros 18 = .ok (.iand, 1) := by decide +kernel
theorem d_Block_tellZeros_19 : decode b_Block_tellZeros 19 = .ok (.iastore, 1) := by decide +kernel
theorem d_Block_tellZeros_20 : decode b_Block_tellZeros 20 = .ok (.aload_n 0, 1) := by decide +kernel
theorem d_Block_tellZeros_21 : decode b_Block_tellZeros 21 = .ok (.dup, 1) := by decide +kernel
theorem d_Block_tellZeros_22 : decode b_Block_tellZeros 22 = .ok (.getfield 52, 3) := by decide +kernel
theorem d_Block_tellZeros_25 : decode b_Block_tellZeros 25 = .ok (.iconst 1, 1) := by decide +kernel
theorem d_Block_tellZeros_26 : decode b_Block_tellZeros 26 = .ok (.iadd, 1) := by decide +kernel
theorem d_Block_tellZeros_27 : decode b_Block_tellZeros 27 = .ok (.putfield 52, 3) := by decide +kernel
theorem d_Block_tellZeros_30 : decode b_Block_tellZeros 30 = .ok (.iload_n 2, 1) := by decide +kernel
theorem d_Block_tellZeros_31 : decode b_Block_tellZeros 31 = .ok (.iconst 1, 1) := by decide +kernel
theorem d_Block_tellZeros_32 : decode b_Block_tellZeros 32 = .ok (.isub, 1) := by decide +kernel
theorem d_Block_tellZeros_33 : decode b_Block_tellZeros 33 = .ok (.iconst 1, 1) := by decide +kernel
theorem d_Block_tellZeros_34 : decode b_Block_tellZeros 34 = .ok (.ishr, 1) := by decide +kernel
theorem d_Block_tellZeros_35 : decode b_Block_tellZeros 35 = .ok (.istore_n 2, 1) := by decide +kernel
theorem d_Block_tellZeros_36 : decode b_Block_tellZeros 36 = .ok (.goto (-34), 3) := by decide +kernel
theorem d_Block_tellZeros_39 : decode b_Block_tellZeros 39 = .ok (.return_, 1) := by decide +kernel
set_option maxRecDepth 100000 in
set_option maxHeartbeats 4000000 in
theorem m_Block_tellZeros {C : gT} (hC : gOk C b_Block_tellZeros R_Block { frames := 0, cells := 0, slots := 0, locals := 0 } 3) (q_a0 : Nat) (r_a0_told : Nat) (x_a0_toldCount : Int32) (r_a0_last : Nat) (r_a0_ups : Nat) (q_a0_symbols : Nat) (x_a0_symbolCount : Int32) (r_a0_used : Nat) (r_a0_list : Nat) (x_a0_origin : Int32) (x_a0_check : Int32) (r_a0_groupTables : Nat) (x_a0_groupCount : Int32) (x_a0_tableCount : Int32) (r_a0_tables : Nat) (f_a0_symbols : (Nat → Int32)) (p1 : Int32) (out : ((Nat → Int32) × Int32)) (hf : Block_tellZeros_f p1 f_a0_symbols x_a0_symbolCount = some out) (kr : ∀ (x : Unit) (o9 : ((Nat → Int32) × Int32)) (pc : Nat) (lv : List (Nat × Value)), o9 = out → decode b_Block_tellZeros pc = .ok (.return_, 1) → gAt C 0 0 [(q_a0, .inr (3, [.ref r_a0_told, .int x_a0_toldCount, .ref r_a0_last, .ref r_a0_ups, .ref q_a0_symbols, .int o9.2, .ref r_a0_used, .ref r_a0_list, .int x_a0_origin, .int x_a0_check, .ref r_a0_groupTables, .int x_a0_groupCount, .int x_a0_tableCount, .ref r_a0_tables])), (q_a0_symbols, .inl (g_K C 0, 2251, .inl o9.1))] lv pc []) : gAt C 0 0 [(q_a0, .inr (3, [.ref r_a0_told, .int x_a0_toldCount, .ref r_a0_last, .ref r_a0_ups, .ref q_a0_symbols, .int x_a0_symbolCount, .ref r_a0_used, .ref r_a0_list, .int x_a0_origin, .int x_a0_check, .ref r_a0_groupTables, .int x_a0_groupCount, .int x_a0_tableCount, .ref r_a0_tables])), (q_a0_symbols, .inl (g_K C 0, 2251, .inl f_a0_symbols))] [(0, .ref q_a0), (1, .int p1)] 0 [] := by
  unfold Block_tellZeros_f at hf
  refine g_iload_n 0 hC (j := 1) (hj := rfl) (hd := d_Block_tellZeros_0) ?_
  refine g_istore_n 1 hC (lv2 := [(2, .int p1), (0, .ref q_a0), (1, .int p1)]) (hn := (by decide)) (hl2 := rfl) (hd := d_Block_tellZeros_1) ?_
  obtain ⟨u2, hu2, hf⟩ := bd_some hf
  have Xu2_0 : ∀ (v3 : ((Nat → Int32) × Int32)), v3 = u2 → gAt C 0 0 [(q_a0, .inr (3, [.ref r_a0_told, .int x_a0_toldCount, .ref r_a0_last, .ref r_a0_ups, .ref q_a0_symbols, .int v3.2, .ref r_a0_used, .ref r_a0_list, .int x_a0_origin, .int x_a0_check, .ref r_a0_groupTables, .int x_a0_groupCount, .int x_a0_tableCount, .ref r_a0_tables])), (q_a0_symbols, .inl (g_K C 0, 2251, .inl v3.1))] [] 39 [] := by
    intro v3 hv
    rw [← hv] at hf
    exact kr () (v3.1, v3.2) 39 [] (Option.some.inj hf) d_Block_tellZeros_39
  have Gu2 := lp_ind (b := Block_tellZeros_L2) (G := fun (s1 : (Int32 × (Nat → Int32) × Int32)) => gAt C 0 0 [(q_a0, .inr (3, [.ref r_a0_told, .int x_a0_toldCount, .ref r_a0_last, .ref r_a0_ups, .ref q_a0_symbols, .int s1.2.2, .ref r_a0_used, .ref r_a0_list, .int x_a0_origin, .int x_a0_check, .ref r_a0_groupTables, .int x_a0_groupCount, .int x_a0_tableCount, .ref r_a0_tables])), (q_a0_symbols, .inl (g_K C 0, 2251, .inl s1.2.1))] [(0, .ref q_a0), (2, .int s1.1)] 2 []) (o := u2) (by
      intro s1 u4 hf hI hX
      unfold Block_tellZeros_L2 at hf
      refine g_iload_n 2 hC (j := 1) (hj := rfl) (hd := d_Block_tellZeros_2) ?_
      refine g_if_le 3 hC 39 (by decide) d_Block_tellZeros_3 (fun c5 => ?_) (fun c5 => ?_)
      · have hf := it_t c5 hf
        exact g_re [0, 1] [] rfl rfl rfl (Xu2_0 (s1.2.1, s1.2.2) (hX (s1.2.1, s1.2.2) hf))
      · have hf := it_f c5 hf
        refine g_aload_n 6 hC (j := 0) (hj := rfl) (hd := d_Block_tellZeros_6) ?_
        refine g_get 7 hC i_Block rfl 0 rfl 4 (by decide) k140 rfl d_Block_tellZeros_7 ?_
        refine g_aload_n 10 hC (j := 0) (hj := rfl) (hd := d_Block_tellZeros_10) ?_
        refine g_get 11 hC i_Block rfl 0 rfl 5 (by decide) k144 rfl d_Block_tellZeros_11 ?_
        refine g_iload_n 14 hC (j := 1) (hj := rfl) (hd := d_Block_tellZeros_14) ?_
        refine g_iconst 15 hC (1 : Int32) (by decide) d_Block_tellZeros_15 ?_
        refine g_isub 16 hC d_Block_tellZeros_16 ?_
        refine g_iconst 17 hC (1 : Int32) (by decide) d_Block_tellZeros_17 ?_
        refine g_iand 18 hC d_Block_tellZeros_18 ?_
        obtain ⟨e6, hf⟩ := gd_some hf
        refine g_iast 19 hC 1 rfl e6 [(q_a0, .inr (3, [.ref r_a0_told, .int x_a0_toldCount, .ref r_a0_last, .ref r_a0_ups, .ref q_a0_symbols, .int s1.2.2, .ref r_a0_used, .ref r_a0_list, .int x_a0_origin, .int x_a0_check, .ref r_a0_groupTables, .int x_a0_groupCount, .int x_a0_tableCount, .ref r_a0_tables])), (q_a0_symbols, .inl (g_K C 0, 2251, .inl (upd s1.2.1 s1.2.2.toNatClampNeg ((s1.1 - (1 : Int32)) &&& (1 : Int32)))))] rfl d_Block_tellZeros_19 ?_
        refine g_aload_n 20 hC (j := 0) (hj := rfl) (hd := d_Block_tellZeros_20) ?_
        refine g_dup 21 hC rfl d_Block_tellZeros_21 ?_
        refine g_get 22 hC i_Block rfl 0 rfl 5 (by decide) k144 rfl d_Block_tellZeros_22 ?_
        refine g_iconst 25 hC (1 : Int32) (by decide) d_Block_tellZeros_25 ?_
        refine g_iadd 26 hC d_Block_tellZeros_26 ?_
        refine g_put 27 hC i_Block rfl 0 rfl 5 (by decide) t_Block tk_Block n_Block k144 rfl rfl rfl (Nat.le_of_ble_eq_true rfl) [(q_a0, .inr (3, [.ref r_a0_told, .int x_a0_toldCount, .ref r_a0_last, .ref r_a0_ups, .ref q_a0_symbols, .int (s1.2.2 + (1 : Int32)), .ref r_a0_used, .ref r_a0_list, .int x_a0_origin, .int x_a0_check, .ref r_a0_groupTables, .int x_a0_groupCount, .int x_a0_tableCount, .ref r_a0_tables])), (q_a0_symbols, .inl (g_K C 0, 2251, .inl (upd s1.2.1 s1.2.2.toNatClampNeg ((s1.1 - (1 : Int32)) &&& (1 : Int32)))))] rfl d_Block_tellZeros_27 ?_
        refine g_iload_n 30 hC (j := 1) (hj := rfl) (hd := d_Block_tellZeros_30) ?_
        refine g_iconst 31 hC (1 : Int32) (by decide) d_Block_tellZeros_31 ?_
        refine g_isub 32 hC d_Block_tellZeros_32 ?_
        refine g_iconst 33 hC (1 : Int32) (by decide) d_Block_tellZeros_33 ?_
        refine g_ishr 34 hC d_Block_tellZeros_34 ?_
        refine g_istore_n 35 hC (lv2 := [(2, .int ((s1.1 - (1 : Int32)) >>> ((1 : Int32) &&& 31))), (0, .ref q_a0)]) (hn := (by decide)) (hl2 := rfl) (hd := d_Block_tellZeros_35) ?_
        refine g_goto 36 hC 2 (by decide) d_Block_tellZeros_36 ?_
        exact g_re [0, 1] [1, 0] rfl rfl rfl (hI (((s1.1 - (1 : Int32)) >>> ((1 : Int32) &&& 31)), (upd s1.2.1 s1.2.2.toNatClampNeg ((s1.1 - (1 : Int32)) &&& (1 : Int32))), (s1.2.2 + (1 : Int32))) hf)) gas
  exact g_re [0, 1] [1, 0] rfl rfl rfl (Gu2 (p1, f_a0_symbols, x_a0_symbolCount) hu2)
theorem c_Block_tellZeros (l : Launch) (D : va_G) (K : Nat → ClassId) (q_a0 : Nat) (r_a0_told : Nat) (x_a0_toldCount : Int32) (r_a0_last : Nat) (r_a0_ups : Nat) (q_a0_symbols : Nat) (x_a0_symbolCount : Int32) (r_a0_used : Nat) (r_a0_list : Nat) (x_a0_origin : Int32) (x_a0_check : Int32) (r_a0_groupTables : Nat) (x_a0_groupCount : Int32) (x_a0_tableCount : Int32) (r_a0_tables : Nat) (f_a0_symbols : (Nat → Int32)) (p1 : Int32) (out : ((Nat → Int32) × Int32)) (hf : Block_tellZeros_f p1 f_a0_symbols x_a0_symbolCount = some out) : Cv l D K y_Block_tellZeros (g_wd y_Block_tellZeros b_Block_tellZeros 3 none) { frames := 0, cells := 0, slots := 0, locals := 0 } [.ref q_a0, .int p1] [(q_a0, .inr (3, [.ref r_a0_told, .int x_a0_toldCount, .ref r_a0_last, .ref r_a0_ups, .ref q_a0_symbols, .int x_a0_symbolCount, .ref r_a0_used, .ref r_a0_list, .int x_a0_origin, .int x_a0_check, .ref r_a0_groupTables, .int x_a0_groupCount, .int x_a0_tableCount, .ref r_a0_tables])), (q_a0_symbols, .inl (K 0, 2251, .inl f_a0_symbols))] (fun (x : Unit) => [(q_a0, .inr (3, [.ref r_a0_told, .int x_a0_toldCount, .ref r_a0_last, .ref r_a0_ups, .ref q_a0_symbols, .int out.2, .ref r_a0_used, .ref r_a0_list, .int x_a0_origin, .int x_a0_check, .ref r_a0_groupTables, .int x_a0_groupCount, .int x_a0_tableCount, .ref r_a0_tables])), (q_a0_symbols, .inl (K 0, 2251, .inl out.1))]) := mk_v (by decide) (Nat.le_of_ble_eq_true rfl) (fun p e s m below meth c A Q hC kr => m_Block_tellZeros hC q_a0 r_a0_told x_a0_toldCount r_a0_last r_a0_ups q_a0_symbols x_a0_symbolCount r_a0_used r_a0_list x_a0_origin x_a0_check r_a0_groupTables x_a0_groupCount x_a0_tableCount r_a0_tables f_a0_symbols p1 out hf (fun x o9 pc lv ho => by subst ho; exact kr x pc lv))
