abbrev b_Block_tellRun : ByteArray := prog_4_method_7_code
def y_Block_tellRun : MethodName := ⟨R_Block, "tellRun", "(IILRotationPress$Check;)V"⟩
theorem d_Block_tellRun_0 : decode b_Block_tellRun 0 = .ok (.iconst 0, 1) := by decide +kernel
theorem d_Block_tellRun_1 : decode b_Block_tellRun 1 = .ok (.istore 4, 2) := by decide +kernel
theorem d_Block_tellRun_3 : decode b_Block_tellRun 3 = .ok (.iload 4, 2) := by decide +kernel
theorem d_Block_tellRun_5 : decode b_Block_tellRun 5 = .ok (.iload_n 2, 1) := by decide +kernel
theorem d_Block_tellRun_6 : decode b_Block_tellRun 6 = .ok (.if_icmp .ge 40, 3) := by decide +kernel
theorem d_Block_tellRun_9 : decode b_Block_tellRun 9 = .ok (.aload_n 3, 1) := by decide +kernel
theorem d_Block_tellRun_10 : decode b_Block_tellRun 10 = .ok (.iload_n 1, 1) := by decide +kernel
theorem d_Block_tellRun_11 : decode b_Block_tellRun 11 = .ok (.invokevirtual 100, 3) := by decide +kernel
theorem d_Block_tellRun_14 : decode b_Block_tellRun 14 = .ok (.iload 4, 2) := by decide +kernel
theorem d_Block_tellRun_16 : decode b_Block_tellRun 16 = .ok (.iconst 4, 1) := by decide +kernel
theorem d_Block_tellRun_17 : decode b_Block_tellRun 17 = .ok (.if_icmp .ge 23, 3) := by decide +kernel
theorem d_Block_tellRun_20 : decode b_Block_tellRun 20 = .ok (.aload_n 0, 1) := by decide +kernel
theorem d_Block_tellRun_21 : decode b_Block_tellRun 21 = .ok (.getfield 9, 3) := by decide +kernel
theorem d_Block_tellRun_24 : decode b_Block_tellRun 24 = .ok (.aload_n 0, 1) := by decide +kernel
theorem d_Block_tellRun_25 : decode b_Block_tellRun 25 = .ok (.getfield 44, 3) := by decide +kernel
theorem d_Block_tellRun_28 : decode b_Block_tellRun 28 = .ok (.iload_n 1, 1) := by decide +kernel
theorem d_Block_tellRun_29 : decode b_Block_tellRun 29 = .ok (.iastore, 1) := by decide +kernel
theorem d_Block_tellRun_30 : decode b_Block_tellRun 30 = .ok (.aload_n 0, 1) := by decide +kernel
theorem d_Block_tellRun_31 : decode b_Block_tellRun 31 = .ok (.dup, 1) := by decide +kernel
theorem d_Block_tellRun_32 : decode b_Block_tellRun 32 = .ok (.getfield 44, 3) := by decide +kernel
theorem d_Block_tellRun_35 : decode b_Block_tellRun 35 = .ok (.iconst 1, 1) := by decide +kernel
theorem d_Block_tellRun_36 : decode b_Block_tellRun 36 = .ok (.iadd, 1) := by decide +kernel
theorem d_Block_tellRun_37 : decode b_Block_tellRun 37 = .ok (.putfield 44, 3) := by decide +kernel
theorem d_Block_tellRun_40 : decode b_Block_tellRun 40 = .ok (.iinc 4 1, 3) := by decide +kernel
theorem d_Block_tellRun_43 : decode b_Block_tellRun 43 = .ok (.goto (-40), 3) := by decide +kernel
theorem d_Block_tellRun_46 : decode b_Block_tellRun 46 = .ok (.iload_n 2, 1) := by decide +kernel
theorem d_Block_tellRun_47 : decode b_Block_tellRun 47 = .ok (.iconst 4, 1) := by decide +kernel
theorem d_Block_tellRun_48 : decode b_Block_tellRun 48 = .ok (.if_icmp .lt 25, 3) := by decide +kernel
theorem d_Block_tellRun_51 : decode b_Block_tellRun 51 = .ok (.aload_n 0, 1) := by decide +kernel
theorem d_Block_tellRun_52 : decode b_Block_tellRun 52 = .ok (.getfield 9, 3) := by decide +kernel
theorem d_Block_tellRun_55 : decode b_Block_tellRun 55 = .ok (.aload_n 0, 1) := by decide +kernel
theorem d_Block_tellRun_56 : decode b_Block_tellRun 56 = .ok (.getfield 44, 3) := by decide +kernel
theorem d_Block_tellRun_59 : decode b_Block_tellRun 59 = .ok (.iload_n 2, 1) := by decide +kernel
theorem d_Block_tellRun_60 : decode b_Block_tellRun 60 = .ok (.iconst 4, 1) := by decide +kernel
theorem d_Block_tellRun_61 : decode b_Block_tellRun 61 = .ok (.isub, 1) := by decide +kernel
theorem d_Block_tellRun_62 : decode b_Block_tellRun 62 = .ok (.iastore, 1) := by decide +kernel
theorem d_Block_tellRun_63 : decode b_Block_tellRun 63 = .ok (.aload_n 0, 1) := by decide +kernel
theorem d_Block_tellRun_64 : decode b_Block_tellRun 64 = .ok (.dup, 1) := by decide +kernel
theorem d_Block_tellRun_65 : decode b_Block_tellRun 65 = .ok (.getfield 44, 3) := by decide +kernel
theorem d_Block_tellRun_68 : decode b_Block_tellRun 68 = .ok (.iconst 1, 1) := by decide +kernel
theorem d_Block_tellRun_69 : decode b_Block_tellRun 69 = .ok (.iadd, 1) := by decide +kernel
theorem d_Block_tellRun_70 : decode b_Block_tellRun 70 = .ok (.putfield 44, 3) := by decide +kernel
theorem d_Block_tellRun_73 : decode b_Block_tellRun 73 = .ok (.return_, 1) := by decide +kernel
theorem k663 : (Jvm.Cond.code ({ cls := "RotationPress$Check", name := "add", desc := "(I)V" } : Jvm.MethodName) prog_6_method_3_code (2 : Nat) (Option.none : Option Jvm.ClassFile.FieldType)) ∈ g_tbl := List.mem_filter.mpr ⟨List.mem_append_right (k2_sels lw_privs) (List.mem_append_right _ (List.mem_append_right _ (List.mem_append_left _ (List.mem_of_getElem? (l := tables_1_3) (i := 183) rfl)))), rfl⟩
theorem k8 : (Jvm.Cond.initialized "RotationPress$Check") ∈ g_tbl := List.mem_filter.mpr ⟨List.mem_append_right (k2_sels lw_privs) (List.mem_append_left _ (List.mem_of_getElem? (l := tables_1_1) (i := 8) rfl)), rfl⟩
theorem k660 : (Jvm.Cond.methodLink "RotationPress$Block" (100 : Nat) ({ cls := "RotationPress$Check", name := "add", desc := "(I)V" } : Jvm.MethodName)) ∈ g_tbl := List.mem_filter.mpr ⟨List.mem_append_right (k2_sels lw_privs) (List.mem_append_right _ (List.mem_append_right _ (List.mem_append_left _ (List.mem_of_getElem? (l := tables_1_3) (i := 180) rfl)))), rfl⟩
theorem k661 : (Jvm.Cond.instanceMethod ({ cls := "RotationPress$Check", name := "add", desc := "(I)V" } : Jvm.MethodName)) ∈ g_tbl := List.mem_filter.mpr ⟨List.mem_append_right (k2_sels lw_privs) (List.mem_append_right _ (List.mem_append_right _ (List.mem_append_left _ (List.mem_of_getElem? (l := tables_1_3) (i := 181) rfl)))), rfl⟩
theorem k662 : (Jvm.Cond.selects "RotationPress$Check" ({ cls := "RotationPress$Check", name := "add", desc := "(I)V" } : Jvm.MethodName) ({ cls := "RotationPress$Check", name := "add", desc := "(I)V" } : Jvm.MethodName)) ∈ g_tbl := List.mem_filter.mpr ⟨List.mem_append_right (k2_sels lw_privs) (List.mem_append_right _ (List.mem_append_right _ (List.mem_append_left _ (List.mem_of_getElem? (l := tables_1_3) (i := 182) rfl)))), rfl⟩
set_option maxRecDepth 100000 in
set_option maxHeartbeats 4000000 in
theorem m_Block_tellRun {C : gT} (hC : gOk C b_Block_tellRun R_Block { frames := 1, cells := 0, slots := 0, locals := 21 } 5) (q_a3 : Nat) (q_a3_leaves : Nat) (x_a3_bits : Int32) (f_a3_leaves : (Nat → Int32)) (q_a0 : Nat) (q_a0_told : Nat) (x_a0_toldCount : Int32) (r_a0_last : Nat) (r_a0_ups : Nat) (r_a0_symbols : Nat) (x_a0_symbolCount : Int32) (r_a0_used : Nat) (r_a0_list : Nat) (x_a0_origin : Int32) (x_a0_check : Int32) (r_a0_groupTables : Nat) (x_a0_groupCount : Int32) (x_a0_tableCount : Int32) (r_a0_tables : Nat) (f_a0_told : (Nat → Int32)) (p1 : Int32) (p2 : Int32) (out : (Int32 × (Nat → Int32) × Int32)) (hf : Block_tellRun_f p2 p1 f_a3_leaves x_a3_bits f_a0_told x_a0_toldCount = some out) (kr : ∀ (x : Unit) (o9 : (Int32 × (Nat → Int32) × Int32)) (pc : Nat) (lv : List (Nat × Value)), o9 = out → decode b_Block_tellRun pc = .ok (.return_, 1) → gAt C 0 0 [(q_a3, .inr (5, [.ref q_a3_leaves, .int o9.1])), (q_a3_leaves, .inl (g_K C 0, 256, .inl f_a3_leaves)), (q_a0, .inr (3, [.ref q_a0_told, .int o9.2.2, .ref r_a0_last, .ref r_a0_ups, .ref r_a0_symbols, .int x_a0_symbolCount, .ref r_a0_used, .ref r_a0_list, .int x_a0_origin, .int x_a0_check, .ref r_a0_groupTables, .int x_a0_groupCount, .int x_a0_tableCount, .ref r_a0_tables])), (q_a0_told, .inl (g_K C 0, 2250, .inl o9.2.1))] lv pc []) : gAt C 0 0 [(q_a3, .inr (5, [.ref q_a3_leaves, .int x_a3_bits])), (q_a3_leaves, .inl (g_K C 0, 256, .inl f_a3_leaves)), (q_a0, .inr (3, [.ref q_a0_told, .int x_a0_toldCount, .ref r_a0_last, .ref r_a0_ups, .ref r_a0_symbols, .int x_a0_symbolCount, .ref r_a0_used, .ref r_a0_list, .int x_a0_origin, .int x_a0_check, .ref r_a0_groupTables, .int x_a0_groupCount, .int x_a0_tableCount, .ref r_a0_tables])), (q_a0_told, .inl (g_K C 0, 2250, .inl f_a0_told))] [(0, .ref q_a0), (1, .int p1), (2, .int p2), (3, .ref q_a3)] 0 [] := by
  unfold Block_tellRun_f at hf
  have J73 : ∀ (j73_0 : Int32) (j73_1 : (Nat → Int32)) (j73_2 : Int32), Block_tellRun_J73 j73_0 j73_1 j73_2 = some out → gAt C 0 0 [(q_a3, .inr (5, [.ref q_a3_leaves, .int j73_0])), (q_a3_leaves, .inl (g_K C 0, 256, .inl f_a3_leaves)), (q_a0, .inr (3, [.ref q_a0_told, .int j73_2, .ref r_a0_last, .ref r_a0_ups, .ref r_a0_symbols, .int x_a0_symbolCount, .ref r_a0_used, .ref r_a0_list, .int x_a0_origin, .int x_a0_check, .ref r_a0_groupTables, .int x_a0_groupCount, .int x_a0_tableCount, .ref r_a0_tables])), (q_a0_told, .inl (g_K C 0, 2250, .inl j73_1))] [] 73 [] := by
    intro j73_0 j73_1 j73_2 hf
    unfold Block_tellRun_J73 at hf
    exact kr () (j73_0, j73_1, j73_2) 73 [] (Option.some.inj hf) d_Block_tellRun_73
  refine g_iconst 0 hC (0 : Int32) (by decide) d_Block_tellRun_0 ?_
  refine g_istore 1 hC (lv2 := [(4, .int (0 : Int32)), (0, .ref q_a0), (1, .int p1), (2, .int p2), (3, .ref q_a3)]) (hn := (by decide)) (hl2 := rfl) (hd := d_Block_tellRun_1) ?_
  obtain ⟨u2, hu2, hf⟩ := bd_some hf
  have Xu2_0 : ∀ (v3 : (Int32 × (Nat → Int32) × Int32)), v3 = u2 → gAt C 0 0 [(q_a3, .inr (5, [.ref q_a3_leaves, .int v3.1])), (q_a3_leaves, .inl (g_K C 0, 256, .inl f_a3_leaves)), (q_a0, .inr (3, [.ref q_a0_told, .int v3.2.2, .ref r_a0_last, .ref r_a0_ups, .ref r_a0_symbols, .int x_a0_symbolCount, .ref r_a0_used, .ref r_a0_list, .int x_a0_origin, .int x_a0_check, .ref r_a0_groupTables, .int x_a0_groupCount, .int x_a0_tableCount, .ref r_a0_tables])), (q_a0_told, .inl (g_K C 0, 2250, .inl v3.2.1))] [(0, .ref q_a0), (2, .int p2)] 46 [] := by
    intro v3 hv
    rw [← hv] at hf
    refine g_iload_n 46 hC (j := 1) (hj := rfl) (hd := d_Block_tellRun_46) ?_
    refine g_iconst 47 hC (4 : Int32) (by decide) d_Block_tellRun_47 ?_
    refine g_icmp_lt 48 hC 73 (by decide) d_Block_tellRun_48 (fun c4 => ?_) (fun c4 => ?_)
    · have hf := it_t c4 hf
      exact g_re [0, 1, 2, 3] [] rfl rfl rfl (J73 v3.1 v3.2.1 v3.2.2 hf)
    · have hf := it_f c4 hf
      refine g_aload_n 51 hC (j := 0) (hj := rfl) (hd := d_Block_tellRun_51) ?_
      refine g_get 52 hC i_Block rfl 2 rfl 0 (by decide) k133 rfl d_Block_tellRun_52 ?_
      refine g_aload_n 55 hC (j := 0) (hj := rfl) (hd := d_Block_tellRun_55) ?_
      refine g_get 56 hC i_Block rfl 2 rfl 1 (by decide) k135 rfl d_Block_tellRun_56 ?_
      refine g_iload_n 59 hC (j := 1) (hj := rfl) (hd := d_Block_tellRun_59) ?_
      refine g_iconst 60 hC (4 : Int32) (by decide) d_Block_tellRun_60 ?_
      refine g_isub 61 hC d_Block_tellRun_61 ?_
      obtain ⟨e5, hf⟩ := gd_some hf
      refine g_iast 62 hC 3 rfl e5 [(q_a3, .inr (5, [.ref q_a3_leaves, .int v3.1])), (q_a3_leaves, .inl (g_K C 0, 256, .inl f_a3_leaves)), (q_a0, .inr (3, [.ref q_a0_told, .int v3.2.2, .ref r_a0_last, .ref r_a0_ups, .ref r_a0_symbols, .int x_a0_symbolCount, .ref r_a0_used, .ref r_a0_list, .int x_a0_origin, .int x_a0_check, .ref r_a0_groupTables, .int x_a0_groupCount, .int x_a0_tableCount, .ref r_a0_tables])), (q_a0_told, .inl (g_K C 0, 2250, .inl (upd v3.2.1 v3.2.2.toNatClampNeg (p2 - (4 : Int32)))))] rfl d_Block_tellRun_62 ?_
      refine g_aload_n 63 hC (j := 0) (hj := rfl) (hd := d_Block_tellRun_63) ?_
      refine g_dup 64 hC rfl d_Block_tellRun_64 ?_
      refine g_get 65 hC i_Block rfl 2 rfl 1 (by decide) k135 rfl d_Block_tellRun_65 ?_
      refine g_iconst 68 hC (1 : Int32) (by decide) d_Block_tellRun_68 ?_
      refine g_iadd 69 hC d_Block_tellRun_69 ?_
      refine g_put 70 hC i_Block rfl 2 rfl 1 (by decide) t_Block tk_Block n_Block k135 rfl rfl rfl (Nat.le_of_ble_eq_true rfl) [(q_a3, .inr (5, [.ref q_a3_leaves, .int v3.1])), (q_a3_leaves, .inl (g_K C 0, 256, .inl f_a3_leaves)), (q_a0, .inr (3, [.ref q_a0_told, .int (v3.2.2 + (1 : Int32)), .ref r_a0_last, .ref r_a0_ups, .ref r_a0_symbols, .int x_a0_symbolCount, .ref r_a0_used, .ref r_a0_list, .int x_a0_origin, .int x_a0_check, .ref r_a0_groupTables, .int x_a0_groupCount, .int x_a0_tableCount, .ref r_a0_tables])), (q_a0_told, .inl (g_K C 0, 2250, .inl (upd v3.2.1 v3.2.2.toNatClampNeg (p2 - (4 : Int32)))))] rfl d_Block_tellRun_70 ?_
      exact g_re [0, 1, 2, 3] [] rfl rfl rfl (J73 v3.1 (upd v3.2.1 v3.2.2.toNatClampNeg (p2 - (4 : Int32))) (v3.2.2 + (1 : Int32)) hf)
  have Gu2 := lp_ind (b := (Block_tellRun_L3 p2 p1 f_a3_leaves)) (G := fun (s1 : (Int32 × Int32 × (Nat → Int32) × Int32)) => gAt C 0 0 [(q_a3, .inr (5, [.ref q_a3_leaves, .int s1.2.1])), (q_a3_leaves, .inl (g_K C 0, 256, .inl f_a3_leaves)), (q_a0, .inr (3, [.ref q_a0_told, .int s1.2.2.2, .ref r_a0_last, .ref r_a0_ups, .ref r_a0_symbols, .int x_a0_symbolCount, .ref r_a0_used, .ref r_a0_list, .int x_a0_origin, .int x_a0_check, .ref r_a0_groupTables, .int x_a0_groupCount, .int x_a0_tableCount, .ref r_a0_tables])), (q_a0_told, .inl (g_K C 0, 2250, .inl s1.2.2.1))] [(0, .ref q_a0), (1, .int p1), (2, .int p2), (3, .ref q_a3), (4, .int s1.1)] 3 []) (o := u2) (by
      intro s1 u6 hf hI hX
      unfold Block_tellRun_L3 at hf
      have J40 : ∀ (j40_0 : Int32) (j40_1 : (Nat → Int32)) (j40_2 : Int32), Block_tellRun_J40 s1 j40_0 j40_1 j40_2 = some u6 → gAt C 0 0 [(q_a3, .inr (5, [.ref q_a3_leaves, .int j40_0])), (q_a3_leaves, .inl (g_K C 0, 256, .inl f_a3_leaves)), (q_a0, .inr (3, [.ref q_a0_told, .int j40_2, .ref r_a0_last, .ref r_a0_ups, .ref r_a0_symbols, .int x_a0_symbolCount, .ref r_a0_used, .ref r_a0_list, .int x_a0_origin, .int x_a0_check, .ref r_a0_groupTables, .int x_a0_groupCount, .int x_a0_tableCount, .ref r_a0_tables])), (q_a0_told, .inl (g_K C 0, 2250, .inl j40_1))] [(0, .ref q_a0), (1, .int p1), (2, .int p2), (3, .ref q_a3), (4, .int s1.1)] 40 [] := by
        intro j40_0 j40_1 j40_2 hf
        unfold Block_tellRun_J40 at hf
        refine g_iinc 40 hC 4 (1 : Int32) [(4, .int (s1.1 + (1 : Int32))), (0, .ref q_a0), (1, .int p1), (2, .int p2), (3, .ref q_a3)] rfl (by decide) (by decide) rfl d_Block_tellRun_40 ?_
        refine g_goto 43 hC 3 (by decide) d_Block_tellRun_43 ?_
        exact g_re [0, 1, 2, 3] [1, 2, 3, 4, 0] rfl rfl rfl (hI ((s1.1 + (1 : Int32)), j40_0, j40_1, j40_2) hf)
      refine g_iload 3 hC (j := 4) (hj := rfl) (hd := d_Block_tellRun_3) ?_
      refine g_iload_n 5 hC (j := 2) (hj := rfl) (hd := d_Block_tellRun_5) ?_
      refine g_icmp_ge 6 hC 46 (by decide) d_Block_tellRun_6 (fun c7 => ?_) (fun c7 => ?_)
      · have hf := it_t c7 hf
        exact g_re [0, 1, 2, 3] [0, 2] rfl rfl rfl (Xu2_0 (s1.2.1, s1.2.2.1, s1.2.2.2) (hX (s1.2.1, s1.2.2.1, s1.2.2.2) hf))
      · have hf := it_f c7 hf
        refine g_aload_n 9 hC (j := 3) (hj := rfl) (hd := d_Block_tellRun_9) ?_
        refine g_iload_n 10 hC (j := 1) (hj := rfl) (hd := d_Block_tellRun_10) ?_
        obtain ⟨u8, hu8, hf⟩ := bd_some hf
        refine g_callVv 11 hC (c_Check_add (g_l C) (g_D C) (g_K C) q_a3 q_a3_leaves s1.2.1 f_a3_leaves p1 u8 hu8) k663 k8 k660 k661 k662 1 rfl (by decide +kernel) (by decide) [0, 1] [2, 3] [(q_a0, .inr (3, [.ref q_a0_told, .int s1.2.2.2, .ref r_a0_last, .ref r_a0_ups, .ref r_a0_symbols, .int x_a0_symbolCount, .ref r_a0_used, .ref r_a0_list, .int x_a0_origin, .int x_a0_check, .ref r_a0_groupTables, .int x_a0_groupCount, .int x_a0_tableCount, .ref r_a0_tables])), (q_a0_told, .inl (g_K C 0, 2250, .inl s1.2.2.1))] rfl rfl rfl rfl rfl 0 5 rfl rfl rfl rfl (Nat.le_of_ble_eq_true rfl) ⟨Nat.le_of_ble_eq_true rfl, Nat.le_of_ble_eq_true rfl⟩ (fun (_ : Unit) => [(q_a0, .inr (3, [.ref q_a0_told, .int s1.2.2.2, .ref r_a0_last, .ref r_a0_ups, .ref r_a0_symbols, .int x_a0_symbolCount, .ref r_a0_used, .ref r_a0_list, .int x_a0_origin, .int x_a0_check, .ref r_a0_groupTables, .int x_a0_groupCount, .int x_a0_tableCount, .ref r_a0_tables])), (q_a0_told, .inl (g_K C 0, 2250, .inl s1.2.2.1)), (q_a3, .inr (5, [.ref q_a3_leaves, .int u8])), (q_a3_leaves, .inl (g_K C 0, 256, .inl f_a3_leaves))]) (fun _ => rfl) d_Block_tellRun_11 0 0 rfl rfl (fun _ => ?_)
        refine g_iload 14 hC (j := 4) (hj := rfl) (hd := d_Block_tellRun_14) ?_
        refine g_iconst 16 hC (4 : Int32) (by decide) d_Block_tellRun_16 ?_
        refine g_icmp_ge 17 hC 40 (by decide) d_Block_tellRun_17 (fun c9 => ?_) (fun c9 => ?_)
        · have hf := it_t c9 hf
          exact g_re [2, 3, 0, 1] [0, 1, 2, 3, 4] rfl rfl rfl (J40 u8 s1.2.2.1 s1.2.2.2 hf)
        · have hf := it_f c9 hf
          refine g_aload_n 20 hC (j := 0) (hj := rfl) (hd := d_Block_tellRun_20) ?_
          refine g_get 21 hC i_Block rfl 0 rfl 0 (by decide) k133 rfl d_Block_tellRun_21 ?_
          refine g_aload_n 24 hC (j := 0) (hj := rfl) (hd := d_Block_tellRun_24) ?_
          refine g_get 25 hC i_Block rfl 0 rfl 1 (by decide) k135 rfl d_Block_tellRun_25 ?_
          refine g_iload_n 28 hC (j := 1) (hj := rfl) (hd := d_Block_tellRun_28) ?_
          obtain ⟨e10, hf⟩ := gd_some hf
          refine g_iast 29 hC 1 rfl e10 [(q_a0, .inr (3, [.ref q_a0_told, .int s1.2.2.2, .ref r_a0_last, .ref r_a0_ups, .ref r_a0_symbols, .int x_a0_symbolCount, .ref r_a0_used, .ref r_a0_list, .int x_a0_origin, .int x_a0_check, .ref r_a0_groupTables, .int x_a0_groupCount, .int x_a0_tableCount, .ref r_a0_tables])), (q_a0_told, .inl (g_K C 0, 2250, .inl (upd s1.2.2.1 s1.2.2.2.toNatClampNeg p1))), (q_a3, .inr (5, [.ref q_a3_leaves, .int u8])), (q_a3_leaves, .inl (g_K C 0, 256, .inl f_a3_leaves))] rfl d_Block_tellRun_29 ?_
          refine g_aload_n 30 hC (j := 0) (hj := rfl) (hd := d_Block_tellRun_30) ?_
          refine g_dup 31 hC rfl d_Block_tellRun_31 ?_
          refine g_get 32 hC i_Block rfl 0 rfl 1 (by decide) k135 rfl d_Block_tellRun_32 ?_
          refine g_iconst 35 hC (1 : Int32) (by decide) d_Block_tellRun_35 ?_
          refine g_iadd 36 hC d_Block_tellRun_36 ?_
          refine g_put 37 hC i_Block rfl 0 rfl 1 (by decide) t_Block tk_Block n_Block k135 rfl rfl rfl (Nat.le_of_ble_eq_true rfl) [(q_a0, .inr (3, [.ref q_a0_told, .int (s1.2.2.2 + (1 : Int32)), .ref r_a0_last, .ref r_a0_ups, .ref r_a0_symbols, .int x_a0_symbolCount, .ref r_a0_used, .ref r_a0_list, .int x_a0_origin, .int x_a0_check, .ref r_a0_groupTables, .int x_a0_groupCount, .int x_a0_tableCount, .ref r_a0_tables])), (q_a0_told, .inl (g_K C 0, 2250, .inl (upd s1.2.2.1 s1.2.2.2.toNatClampNeg p1))), (q_a3, .inr (5, [.ref q_a3_leaves, .int u8])), (q_a3_leaves, .inl (g_K C 0, 256, .inl f_a3_leaves))] rfl d_Block_tellRun_37 ?_
          exact g_re [2, 3, 0, 1] [0, 1, 2, 3, 4] rfl rfl rfl (J40 u8 (upd s1.2.2.1 s1.2.2.2.toNatClampNeg p1) (s1.2.2.2 + (1 : Int32)) hf)) gas
  exact g_re [0, 1, 2, 3] [1, 2, 3, 4, 0] rfl rfl rfl (Gu2 ((0 : Int32), x_a3_bits, f_a0_told, x_a0_toldCount) hu2)
theorem c_Block_tellRun (l : Launch) (D : va_G) (K : Nat → ClassId) (q_a3 : Nat) (q_a3_leaves : Nat) (x_a3_bits : Int32) (f_a3_leaves : (Nat → Int32)) (q_a0 : Nat) (q_a0_told : Nat) (x_a0_toldCount : Int32) (r_a0_last : Nat) (r_a0_ups : Nat) (r_a0_symbols : Nat) (x_a0_symbolCount : Int32) (r_a0_used : Nat) (r_a0_list : Nat) (x_a0_origin : Int32) (x_a0_check : Int32) (r_a0_groupTables : Nat) (x_a0_groupCount : Int32) (x_a0_tableCount : Int32) (r_a0_tables : Nat) (f_a0_told : (Nat → Int32)) (p1 : Int32) (p2 : Int32) (out : (Int32 × (Nat → Int32) × Int32)) (hf : Block_tellRun_f p2 p1 f_a3_leaves x_a3_bits f_a0_told x_a0_toldCount = some out) : Cv l D K y_Block_tellRun (g_wd y_Block_tellRun b_Block_tellRun 5 none) { frames := 1, cells := 0, slots := 0, locals := 21 } [.ref q_a0, .int p1, .int p2, .ref q_a3] [(q_a3, .inr (5, [.ref q_a3_leaves, .int x_a3_bits])), (q_a3_leaves, .inl (K 0, 256, .inl f_a3_leaves)), (q_a0, .inr (3, [.ref q_a0_told, .int x_a0_toldCount, .ref r_a0_last, .ref r_a0_ups, .ref r_a0_symbols, .int x_a0_symbolCount, .ref r_a0_used, .ref r_a0_list, .int x_a0_origin, .int x_a0_check, .ref r_a0_groupTables, .int x_a0_groupCount, .int x_a0_tableCount, .ref r_a0_tables])), (q_a0_told, .inl (K 0, 2250, .inl f_a0_told))] (fun (x : Unit) => [(q_a3, .inr (5, [.ref q_a3_leaves, .int out.1])), (q_a3_leaves, .inl (K 0, 256, .inl f_a3_leaves)), (q_a0, .inr (3, [.ref q_a0_told, .int out.2.2, .ref r_a0_last, .ref r_a0_ups, .ref r_a0_symbols, .int x_a0_symbolCount, .ref r_a0_used, .ref r_a0_list, .int x_a0_origin, .int x_a0_check, .ref r_a0_groupTables, .int x_a0_groupCount, .int x_a0_tableCount, .ref r_a0_tables])), (q_a0_told, .inl (K 0, 2250, .inl out.2.1))]) := mk_v (by decide) (Nat.le_of_ble_eq_true rfl) (fun p e s m below meth c A Q hC kr => m_Block_tellRun hC q_a3 q_a3_leaves x_a3_bits f_a3_leaves q_a0 q_a0_told x_a0_toldCount r_a0_last r_a0_ups r_a0_symbols x_a0_symbolCount r_a0_used r_a0_list x_a0_origin x_a0_check r_a0_groupTables x_a0_groupCount x_a0_tableCount r_a0_tables f_a0_told p1 p2 out hf (fun x o9 pc lv ho => by subst ho; exact kr x pc lv))
abbrev b_Block_takeRuns : ByteArray := prog_4_method_5_code
def y_Block_takeRuns : MethodName := ⟨R_Block, "takeRuns", "(LRotationPress$ByteRow;IILRotationPress$Check;)I"⟩
theorem d_Block_takeRuns_0 : decode b_Block_takeRuns 0 = .ok (.aload_n 0, 1) := by decide +kernel
theorem d_Block_takeRuns_1 : decode b_Block_takeRuns 1 = .ok (.iconst 0, 1) := by decide +kernel
theorem d_Block_takeRuns_2 : decode b_Block_takeRuns 2 = .ok (.putfield 44, 3) := by decide +kernel
theorem d_Block_takeRuns_5 : decode b_Block_takeRuns 5 = .ok (.aload 4, 2) := by decide +kernel
theorem d_Block_takeRuns_7 : decode b_Block_takeRuns 7 = .ok (.invokevirtual 71, 3) := by decide +kernel
theorem d_Block_takeRuns_10 : decode b_Block_takeRuns 10 = .ok (.iload_n 2, 1) := by decide +kernel
theorem d_Block_takeRuns_11 : decode b_Block_takeRuns 11 = .ok (.istore 5, 2) := by decide +kernel
theorem d_Block_takeRuns_13 : decode b_Block_takeRuns 13 = .ok (.iconst 0, 1) := by decide +kernel
theorem d_Block_takeRuns_14 : decode b_Block_takeRuns 14 = .ok (.istore 6, 2) := by decide +kernel
theorem d_Block_takeRuns_16 : decode b_Block_takeRuns 16 = .ok (.iload 6, 2) := by decide +kernel
theorem d_Block_takeRuns_18 : decode b_Block_takeRuns 18 = .ok (.iload_n 3, 1) := by decide +kernel
theorem d_Block_takeRuns_19 : decode b_Block_takeRuns 19 = .ok (.if_icmp .ge 75, 3) := by decide +kernel
theorem d_Block_takeRuns_22 : decode b_Block_takeRuns 22 = .ok (.iload 5, 2) := by decide +kernel
theorem d_Block_takeRuns_24 : decode b_Block_takeRuns 24 = .ok (.aload_n 1, 1) := by decide +kernel
theorem d_Block_takeRuns_25 : decode b_Block_takeRuns 25 = .ok (.getfield 76, 3) := by decide +kernel
theorem d_Block_takeRuns_28 : decode b_Block_takeRuns 28 = .ok (.if_icmp .ge 66, 3) := by decide +kernel
theorem d_Block_takeRuns_31 : decode b_Block_takeRuns 31 = .ok (.aload_n 1, 1) := by decide +kernel
theorem d_Block_takeRuns_32 : decode b_Block_takeRuns 32 = .ok (.iload 5, 2) := by decide +kernel
theorem d_Block_takeRuns_34 : decode b_Block_takeRuns 34 = .ok (.invokestatic 81, 3) := by decide +kernel
theorem d_Block_takeRuns_37 : decode b_Block_takeRuns 37 = .ok (.istore 7, 2) := by decide +kernel
theorem d_Block_takeRuns_39 : decode b_Block_takeRuns 39 = .ok (.iload 7, 2) := by decide +kernel
theorem d_Block_takeRuns_41 : decode b_Block_takeRuns 41 = .ok (.iconst 4, 1) := by decide +kernel
theorem d_Block_takeRuns_42 : decode b_Block_takeRuns 42 = .ok (.if_icmp .ge 8, 3) := by decide +kernel
theorem d_Block_takeRuns_45 : decode b_Block_takeRuns 45 = .ok (.iload 7, 2) := by decide +kernel
theorem d_Block_takeRuns_47 : decode b_Block_takeRuns 47 = .ok (.goto 4, 3) := by decide +kernel
theorem d_Block_takeRuns_50 : decode b_Block_takeRuns 50 = .ok (.iconst 5, 1) := by decide +kernel
theorem d_Block_takeRuns_51 : decode b_Block_takeRuns 51 = .ok (.istore 8, 2) := by decide +kernel
theorem d_Block_takeRuns_53 : decode b_Block_takeRuns 53 = .ok (.aload_n 0, 1) := by decide +kernel
theorem d_Block_takeRuns_54 : decode b_Block_takeRuns 54 = .ok (.getfield 44, 3) := by decide +kernel
theorem d_Block_takeRuns_57 : decode b_Block_takeRuns 57 = .ok (.iload 8, 2) := by decide +kernel
theorem d_Block_takeRuns_59 : decode b_Block_takeRuns 59 = .ok (.iadd, 1) := by decide +kernel
theorem d_Block_takeRuns_60 : decode b_Block_takeRuns 60 = .ok (.iload_n 3, 1) := by decide +kernel
theorem d_Block_takeRuns_61 : decode b_Block_takeRuns 61 = .ok (.if_icmp .le 6, 3) := by decide +kernel
theorem d_Block_takeRuns_64 : decode b_Block_takeRuns 64 = .ok (.goto 30, 3) := by decide +kernel
theorem d_Block_takeRuns_67 : decode b_Block_takeRuns 67 = .ok (.aload_n 0, 1) := by decide +kernel
theorem d_Block_takeRuns_68 : decode b_Block_takeRuns 68 = .ok (.aload_n 1, 1) := by decide +kernel
theorem d_Block_takeRuns_69 : decode b_Block_takeRuns 69 = .ok (.iload 5, 2) := by decide +kernel
theorem d_Block_takeRuns_71 : decode b_Block_takeRuns 71 = .ok (.invokevirtual 85, 3) := by decide +kernel
theorem d_Block_takeRuns_74 : decode b_Block_takeRuns 74 = .ok (.iload 7, 2) := by decide +kernel
theorem d_Block_takeRuns_76 : decode b_Block_takeRuns 76 = .ok (.aload 4, 2) := by decide +kernel
theorem d_Block_takeRuns_78 : decode b_Block_takeRuns 78 = .ok (.invokevirtual 89, 3) := by decide +kernel
theorem d_Block_takeRuns_81 : decode b_Block_takeRuns 81 = .ok (.iload 5, 2) := by decide +kernel
theorem d_Block_takeRuns_83 : decode b_Block_takeRuns 83 = .ok (.iload 7, 2) := by decide +kernel
theorem d_Block_takeRuns_85 : decode b_Block_takeRuns 85 = .ok (.iadd, 1) := by decide +kernel
theorem d_Block_takeRuns_86 : decode b_Block_takeRuns 86 = .ok (.istore 5, 2) := by decide +kernel
theorem d_Block_takeRuns_88 : decode b_Block_takeRuns 88 = .ok (.iinc 6 1, 3) := by decide +kernel
theorem d_Block_takeRuns_91 : decode b_Block_takeRuns 91 = .ok (.goto (-75), 3) := by decide +kernel
theorem d_Block_takeRuns_94 : decode b_Block_takeRuns 94 = .ok (.aload_n 0, 1) := by decide +kernel
theorem d_Block_takeRuns_95 : decode b_Block_takeRuns 95 = .ok (.aload 4, 2) := by decide +kernel
theorem d_Block_takeRuns_97 : decode b_Block_takeRuns 97 = .ok (.invokevirtual 93, 3) := by decide +kernel
theorem d_Block_takeRuns_100 : decode b_Block_takeRuns 100 = .ok (.putfield 97, 3) := by decide +kernel
theorem d_Block_takeRuns_103 : decode b_Block_takeRuns 103 = .ok (.iload 5, 2) := by decide +kernel
theorem d_Block_takeRuns_105 : decode b_Block_takeRuns 105 = .ok (.ireturn, 1) := by decide +kernel
theorem k667 : (Jvm.Cond.code ({ cls := "RotationPress$Check", name := "ofBlock", desc := "()I" } : Jvm.MethodName) prog_6_method_4_code (1 : Nat) (Option.some Jvm.ClassFile.FieldType.int)) ∈ g_tbl := List.mem_filter.mpr ⟨List.mem_append_right (k2_sels lw_privs) (List.mem_append_right _ (List.mem_append_right _ (List.mem_append_left _ (List.mem_of_getElem? (l := tables_1_3) (i := 187) rfl)))), rfl⟩
theorem k664 : (Jvm.Cond.methodLink "RotationPress$Block" (93 : Nat) ({ cls := "RotationPress$Check", name := "ofBlock", desc := "()I" } : Jvm.MethodName)) ∈ g_tbl := List.mem_filter.mpr ⟨List.mem_append_right (k2_sels lw_privs) (List.mem_append_right _ (List.mem_append_right _ (List.mem_append_left _ (List.mem_of_getElem? (l := tables_1_3) (i := 184) rfl)))), rfl⟩
theorem k665 : (Jvm.Cond.instanceMethod ({ cls := "RotationPress$Check", name := "ofBlock", desc := "()I" } : Jvm.MethodName)) ∈ g_tbl := List.mem_filter.mpr ⟨List.mem_append_right (k2_sels lw_privs) (List.mem_append_right _ (List.mem_append_right _ (List.mem_append_left _ (List.mem_of_getElem? (l := tables_1_3) (i := 185) rfl)))), rfl⟩
theorem k666 : (Jvm.Cond.selects "RotationPress$Check" ({ cls := "RotationPress$Check", name := "ofBlock", desc := "()I" } : Jvm.MethodName) ({ cls := "RotationPress$Check", name := "ofBlock", desc := "()I" } : Jvm.MethodName)) ∈ g_tbl := List.mem_filter.mpr ⟨List.mem_append_right (k2_sels lw_privs) (List.mem_append_right _ (List.mem_append_right _ (List.mem_append_left _ (List.mem_of_getElem? (l := tables_1_3) (i := 186) rfl)))), rfl⟩
theorem k156 : (Jvm.Cond.fieldLink "RotationPress$Block" (97 : Nat) "RotationPress$Block" "check" "I") ∈ g_tbl := List.mem_filter.mpr ⟨List.mem_append_right (k2_sels lw_privs) (List.mem_append_left _ (List.mem_of_getElem? (l := tables_1_1) (i := 156) rfl)), rfl⟩
theorem k648 : (Jvm.Cond.code ({ cls := "RotationPress$Check", name := "begin", desc := "()V" } : Jvm.MethodName) prog_6_method_2_code (1 : Nat) (Option.none : Option Jvm.ClassFile.FieldType)) ∈ g_tbl := List.mem_filter.mpr ⟨List.mem_append_right (k2_sels lw_privs) (List.mem_append_right _ (List.mem_append_right _ (List.mem_append_left _ (List.mem_of_getElem? (l := tables_1_3) (i := 168) rfl)))), rfl⟩
theorem k645 : (Jvm.Cond.methodLink "RotationPress$Block" (71 : Nat) ({ cls := "RotationPress$Check", name := "begin", desc := "()V" } : Jvm.MethodName)) ∈ g_tbl := List.mem_filter.mpr ⟨List.mem_append_right (k2_sels lw_privs) (List.mem_append_right _ (List.mem_append_right _ (List.mem_append_left _ (List.mem_of_getElem? (l := tables_1_3) (i := 165) rfl)))), rfl⟩
theorem k646 : (Jvm.Cond.instanceMethod ({ cls := "RotationPress$Check", name := "begin", desc := "()V" } : Jvm.MethodName)) ∈ g_tbl := List.mem_filter.mpr ⟨List.mem_append_right (k2_sels lw_privs) (List.mem_append_right _ (List.mem_append_right _ (List.mem_append_left _ (List.mem_of_getElem? (l := tables_1_3) (i := 166) rfl)))), rfl⟩
theorem k647 : (Jvm.Cond.selects "RotationPress$Check" ({ cls := "RotationPress$Check", name := "begin", desc := "()V" } : Jvm.MethodName) ({ cls := "RotationPress$Check", name := "begin", desc := "()V" } : Jvm.MethodName)) ∈ g_tbl := List.mem_filter.mpr ⟨List.mem_append_right (k2_sels lw_privs) (List.mem_append_right _ (List.mem_append_right _ (List.mem_append_left _ (List.mem_of_getElem? (l := tables_1_3) (i := 167) rfl)))), rfl⟩
theorem k659 : (Jvm.Cond.code ({ cls := "RotationPress$Block", name := "tellRun", desc := "(IILRotationPress$Check;)V" } : Jvm.MethodName) prog_4_method_7_code (5 : Nat) (Option.none : Option Jvm.ClassFile.FieldType)) ∈ g_tbl := List.mem_filter.mpr ⟨List.mem_append_right (k2_sels lw_privs) (List.mem_append_right _ (List.mem_append_right _ (List.mem_append_left _ (List.mem_of_getElem? (l := tables_1_3) (i := 179) rfl)))), rfl⟩
theorem k656 : (Jvm.Cond.methodLink "RotationPress$Block" (89 : Nat) ({ cls := "RotationPress$Block", name := "tellRun", desc := "(IILRotationPress$Check;)V" } : Jvm.MethodName)) ∈ g_tbl := List.mem_filter.mpr ⟨List.mem_append_right (k2_sels lw_privs) (List.mem_append_right _ (List.mem_append_right _ (List.mem_append_left _ (List.mem_of_getElem? (l := tables_1_3) (i := 176) rfl)))), rfl⟩
theorem k658 : (Jvm.Cond.instanceMethod ({ cls := "RotationPress$Block", name := "tellRun", desc := "(IILRotationPress$Check;)V" } : Jvm.MethodName)) ∈ g_tbl := List.mem_filter.mpr ⟨List.mem_append_right (k2_sels lw_privs) (List.mem_append_right _ (List.mem_append_right _ (List.mem_append_left _ (List.mem_of_getElem? (l := tables_1_3) (i := 178) rfl)))), rfl⟩
theorem ks2 : (Jvm.Cond.selects "RotationPress$Block" ({ cls := "RotationPress$Block", name := "tellRun", desc := "(IILRotationPress$Check;)V" } : Jvm.MethodName) ({ cls := "RotationPress$Block", name := "tellRun", desc := "(IILRotationPress$Check;)V" } : Jvm.MethodName)) ∈ g_tbl := List.mem_filter.mpr ⟨List.mem_append_left _ (List.mem_map.mpr ⟨(({ cls := "RotationPress$Block", name := "tellRun", desc := "(IILRotationPress$Check;)V" } : Jvm.MethodName), _), List.mem_of_getElem? (i := 2) rfl, rfl⟩), rfl⟩
theorem k651 : (Jvm.Cond.code ({ cls := "RotationPress$Block", name := "runFrom", desc := "(LRotationPress$ByteRow;I)I" } : Jvm.MethodName) prog_4_method_6_code (3 : Nat) (Option.some Jvm.ClassFile.FieldType.int)) ∈ g_tbl := List.mem_filter.mpr ⟨List.mem_append_right (k2_sels lw_privs) (List.mem_append_right _ (List.mem_append_right _ (List.mem_append_left _ (List.mem_of_getElem? (l := tables_1_3) (i := 171) rfl)))), rfl⟩
theorem k649 : (Jvm.Cond.methodLink "RotationPress$Block" (81 : Nat) ({ cls := "RotationPress$Block", name := "runFrom", desc := "(LRotationPress$ByteRow;I)I" } : Jvm.MethodName)) ∈ g_tbl := List.mem_filter.mpr ⟨List.mem_append_right (k2_sels lw_privs) (List.mem_append_right _ (List.mem_append_right _ (List.mem_append_left _ (List.mem_of_getElem? (l := tables_1_3) (i := 169) rfl)))), rfl⟩
theorem k650 : (Jvm.Cond.static ({ cls := "RotationPress$Block", name := "runFrom", desc := "(LRotationPress$ByteRow;I)I" } : Jvm.MethodName)) ∈ g_tbl := List.mem_filter.mpr ⟨List.mem_append_right (k2_sels lw_privs) (List.mem_append_right _ (List.mem_append_right _ (List.mem_append_left _ (List.mem_of_getElem? (l := tables_1_3) (i := 170) rfl)))), rfl⟩
set_option maxRecDepth 100000 in
set_option maxHeartbeats 4000000 in
theorem m_Block_takeRuns {C : gT} (hC : gOk C b_Block_takeRuns R_Block { frames := 2, cells := 0, slots := 0, locals := 45 } 9) (q_a0 : Nat) (q_a0_told : Nat) (x_a0_toldCount : Int32) (r_a0_last : Nat) (r_a0_ups : Nat) (r_a0_symbols : Nat) (x_a0_symbolCount : Int32) (r_a0_used : Nat) (r_a0_list : Nat) (x_a0_origin : Int32) (x_a0_check : Int32) (r_a0_groupTables : Nat) (x_a0_groupCount : Int32) (x_a0_tableCount : Int32) (r_a0_tables : Nat) (q_a4 : Nat) (q_a4_leaves : Nat) (x_a4_bits : Int32) (q_a1 : Nat) (q_a1_bytes : Nat) (x_a1_count : Int32) (n_a1_bytes : Nat) (f_a1_bytes : (Nat → Int32)) (f_a4_leaves : (Nat → Int32)) (f_a0_told : (Nat → Int32)) (p2 : Int32) (p3 : Int32) (out : (Int32 × Int32 × Int32 × Int32 × (Nat → Int32))) (hf : Block_takeRuns_f p3 x_a1_count n_a1_bytes f_a1_bytes f_a4_leaves p2 f_a0_told = some out) (kr : ∀ (x : Unit) (o9 : (Int32 × Int32 × Int32 × Int32 × (Nat → Int32))) (pc : Nat) (lv : List (Nat × Value)), o9 = out → decode b_Block_takeRuns pc = .ok (.ireturn, 1) → narrow .int (.int o9.1) = .int o9.1 → gAt C 0 0 [(q_a0, .inr (3, [.ref q_a0_told, .int o9.2.1, .ref r_a0_last, .ref r_a0_ups, .ref r_a0_symbols, .int x_a0_symbolCount, .ref r_a0_used, .ref r_a0_list, .int x_a0_origin, .int o9.2.2.2.1, .ref r_a0_groupTables, .int x_a0_groupCount, .int x_a0_tableCount, .ref r_a0_tables])), (q_a4, .inr (5, [.ref q_a4_leaves, .int o9.2.2.1])), (q_a1, .inr (4, [.ref q_a1_bytes, .int x_a1_count])), (q_a1_bytes, .inl (g_K C 0, n_a1_bytes, .inl f_a1_bytes)), (q_a4_leaves, .inl (g_K C 0, 256, .inl f_a4_leaves)), (q_a0_told, .inl (g_K C 0, 2250, .inl o9.2.2.2.2))] lv pc [.int o9.1]) : gAt C 0 0 [(q_a0, .inr (3, [.ref q_a0_told, .int x_a0_toldCount, .ref r_a0_last, .ref r_a0_ups, .ref r_a0_symbols, .int x_a0_symbolCount, .ref r_a0_used, .ref r_a0_list, .int x_a0_origin, .int x_a0_check, .ref r_a0_groupTables, .int x_a0_groupCount, .int x_a0_tableCount, .ref r_a0_tables])), (q_a4, .inr (5, [.ref q_a4_leaves, .int x_a4_bits])), (q_a1, .inr (4, [.ref q_a1_bytes, .int x_a1_count])), (q_a1_bytes, .inl (g_K C 0, n_a1_bytes, .inl f_a1_bytes)), (q_a4_leaves, .inl (g_K C 0, 256, .inl f_a4_leaves)), (q_a0_told, .inl (g_K C 0, 2250, .inl f_a0_told))] [(0, .ref q_a0), (1, .ref q_a1), (2, .int p2), (3, .int p3), (4, .ref q_a4)] 0 [] := by
  unfold Block_takeRuns_f at hf
  have J94 : ∀ (j94_0 : Int32) (j94_1 : Int32) (j94_2 : Int32) (j94_3 : (Nat → Int32)), Block_takeRuns_J94 j94_0 j94_1 j94_2 j94_3 = some out → gAt C 0 0 [(q_a0, .inr (3, [.ref q_a0_told, .int j94_1, .ref r_a0_last, .ref r_a0_ups, .ref r_a0_symbols, .int x_a0_symbolCount, .ref r_a0_used, .ref r_a0_list, .int x_a0_origin, .int x_a0_check, .ref r_a0_groupTables, .int x_a0_groupCount, .int x_a0_tableCount, .ref r_a0_tables])), (q_a4, .inr (5, [.ref q_a4_leaves, .int j94_2])), (q_a1, .inr (4, [.ref q_a1_bytes, .int x_a1_count])), (q_a1_bytes, .inl (g_K C 0, n_a1_bytes, .inl f_a1_bytes)), (q_a4_leaves, .inl (g_K C 0, 256, .inl f_a4_leaves)), (q_a0_told, .inl (g_K C 0, 2250, .inl j94_3))] [(0, .ref q_a0), (4, .ref q_a4), (5, .int j94_0)] 94 [] := by
    intro j94_0 j94_1 j94_2 j94_3 hf
    unfold Block_takeRuns_J94 at hf
    refine g_aload_n 94 hC (j := 0) (hj := rfl) (hd := d_Block_takeRuns_94) ?_
    refine g_aload 95 hC (j := 1) (hj := rfl) (hd := d_Block_takeRuns_95) ?_
    obtain ⟨u1, hu1, hf⟩ := bd_some hf
    refine g_callVi 97 hC (c_Check_ofBlock (g_l C) (g_D C) (g_K C) q_a4 q_a4_leaves j94_2 u1 hu1) k667 k8 k664 k665 k666 0 rfl (by decide +kernel) (by decide) [1] [0, 2, 3, 4, 5] [(q_a0, .inr (3, [.ref q_a0_told, .int j94_1, .ref r_a0_last, .ref r_a0_ups, .ref r_a0_symbols, .int x_a0_symbolCount, .ref r_a0_used, .ref r_a0_list, .int x_a0_origin, .int x_a0_check, .ref r_a0_groupTables, .int x_a0_groupCount, .int x_a0_tableCount, .ref r_a0_tables])), (q_a1, .inr (4, [.ref q_a1_bytes, .int x_a1_count])), (q_a1_bytes, .inl (g_K C 0, n_a1_bytes, .inl f_a1_bytes)), (q_a4_leaves, .inl (g_K C 0, 256, .inl f_a4_leaves)), (q_a0_told, .inl (g_K C 0, 2250, .inl j94_3))] rfl rfl rfl rfl rfl 0 5 rfl rfl rfl rfl (Nat.le_of_ble_eq_true rfl) ⟨Nat.le_of_ble_eq_true rfl, Nat.le_of_ble_eq_true rfl⟩ (fun (_ : Unit) => [(q_a0, .inr (3, [.ref q_a0_told, .int j94_1, .ref r_a0_last, .ref r_a0_ups, .ref r_a0_symbols, .int x_a0_symbolCount, .ref r_a0_used, .ref r_a0_list, .int x_a0_origin, .int x_a0_check, .ref r_a0_groupTables, .int x_a0_groupCount, .int x_a0_tableCount, .ref r_a0_tables])), (q_a1, .inr (4, [.ref q_a1_bytes, .int x_a1_count])), (q_a1_bytes, .inl (g_K C 0, n_a1_bytes, .inl f_a1_bytes)), (q_a4_leaves, .inl (g_K C 0, 256, .inl f_a4_leaves)), (q_a0_told, .inl (g_K C 0, 2250, .inl j94_3)), (q_a4, .inr (5, [.ref q_a4_leaves, .int j94_2]))]) (fun _ => rfl) d_Block_takeRuns_97 0 0 rfl rfl (fun _ => ?_)
    refine g_put 100 hC i_Block rfl 0 rfl 9 (by decide) t_Block tk_Block n_Block k156 rfl rfl rfl (Nat.le_of_ble_eq_true rfl) [(q_a0, .inr (3, [.ref q_a0_told, .int j94_1, .ref r_a0_last, .ref r_a0_ups, .ref r_a0_symbols, .int x_a0_symbolCount, .ref r_a0_used, .ref r_a0_list, .int x_a0_origin, .int u1, .ref r_a0_groupTables, .int x_a0_groupCount, .int x_a0_tableCount, .ref r_a0_tables])), (q_a1, .inr (4, [.ref q_a1_bytes, .int x_a1_count])), (q_a1_bytes, .inl (g_K C 0, n_a1_bytes, .inl f_a1_bytes)), (q_a4_leaves, .inl (g_K C 0, 256, .inl f_a4_leaves)), (q_a0_told, .inl (g_K C 0, 2250, .inl j94_3)), (q_a4, .inr (5, [.ref q_a4_leaves, .int j94_2]))] rfl d_Block_takeRuns_100 ?_
    refine g_iload 103 hC (j := 2) (hj := rfl) (hd := d_Block_takeRuns_103) ?_
    exact g_re [0, 5, 1, 2, 3, 4] [] rfl rfl rfl (kr () (j94_0, j94_1, j94_2, u1, j94_3) 105 [] (Option.some.inj hf) d_Block_takeRuns_105 rfl)
  refine g_aload_n 0 hC (j := 0) (hj := rfl) (hd := d_Block_takeRuns_0) ?_
  refine g_iconst 1 hC (0 : Int32) (by decide) d_Block_takeRuns_1 ?_
  refine g_put 2 hC i_Block rfl 0 rfl 1 (by decide) t_Block tk_Block n_Block k135 rfl rfl rfl (Nat.le_of_ble_eq_true rfl) [(q_a0, .inr (3, [.ref q_a0_told, .int (0 : Int32), .ref r_a0_last, .ref r_a0_ups, .ref r_a0_symbols, .int x_a0_symbolCount, .ref r_a0_used, .ref r_a0_list, .int x_a0_origin, .int x_a0_check, .ref r_a0_groupTables, .int x_a0_groupCount, .int x_a0_tableCount, .ref r_a0_tables])), (q_a4, .inr (5, [.ref q_a4_leaves, .int x_a4_bits])), (q_a1, .inr (4, [.ref q_a1_bytes, .int x_a1_count])), (q_a1_bytes, .inl (g_K C 0, n_a1_bytes, .inl f_a1_bytes)), (q_a4_leaves, .inl (g_K C 0, 256, .inl f_a4_leaves)), (q_a0_told, .inl (g_K C 0, 2250, .inl f_a0_told))] rfl d_Block_takeRuns_2 ?_
  refine g_aload 5 hC (j := 4) (hj := rfl) (hd := d_Block_takeRuns_5) ?_
  obtain ⟨u2, hu2, hf⟩ := bd_some hf
  refine g_callVv 7 hC (c_Check_begin (g_l C) (g_D C) (g_K C) q_a4 q_a4_leaves x_a4_bits u2 hu2) k648 k8 k645 k646 k647 0 rfl (by decide +kernel) (by decide) [1] [0, 2, 3, 4, 5] [(q_a0, .inr (3, [.ref q_a0_told, .int (0 : Int32), .ref r_a0_last, .ref r_a0_ups, .ref r_a0_symbols, .int x_a0_symbolCount, .ref r_a0_used, .ref r_a0_list, .int x_a0_origin, .int x_a0_check, .ref r_a0_groupTables, .int x_a0_groupCount, .int x_a0_tableCount, .ref r_a0_tables])), (q_a1, .inr (4, [.ref q_a1_bytes, .int x_a1_count])), (q_a1_bytes, .inl (g_K C 0, n_a1_bytes, .inl f_a1_bytes)), (q_a4_leaves, .inl (g_K C 0, 256, .inl f_a4_leaves)), (q_a0_told, .inl (g_K C 0, 2250, .inl f_a0_told))] rfl rfl rfl rfl rfl 0 5 rfl rfl rfl rfl (Nat.le_of_ble_eq_true rfl) ⟨Nat.le_of_ble_eq_true rfl, Nat.le_of_ble_eq_true rfl⟩ (fun (_ : Unit) => [(q_a0, .inr (3, [.ref q_a0_told, .int (0 : Int32), .ref r_a0_last, .ref r_a0_ups, .ref r_a0_symbols, .int x_a0_symbolCount, .ref r_a0_used, .ref r_a0_list, .int x_a0_origin, .int x_a0_check, .ref r_a0_groupTables, .int x_a0_groupCount, .int x_a0_tableCount, .ref r_a0_tables])), (q_a1, .inr (4, [.ref q_a1_bytes, .int x_a1_count])), (q_a1_bytes, .inl (g_K C 0, n_a1_bytes, .inl f_a1_bytes)), (q_a4_leaves, .inl (g_K C 0, 256, .inl f_a4_leaves)), (q_a0_told, .inl (g_K C 0, 2250, .inl f_a0_told)), (q_a4, .inr (5, [.ref q_a4_leaves, .int u2]))]) (fun _ => rfl) d_Block_takeRuns_7 0 0 rfl rfl (fun _ => ?_)
  refine g_iload_n 10 hC (j := 2) (hj := rfl) (hd := d_Block_takeRuns_10) ?_
  refine g_istore 11 hC (lv2 := [(5, .int p2), (0, .ref q_a0), (1, .ref q_a1), (2, .int p2), (3, .int p3), (4, .ref q_a4)]) (hn := (by decide)) (hl2 := rfl) (hd := d_Block_takeRuns_11) ?_
  refine g_iconst 13 hC (0 : Int32) (by decide) d_Block_takeRuns_13 ?_
  refine g_istore 14 hC (lv2 := [(6, .int (0 : Int32)), (5, .int p2), (0, .ref q_a0), (1, .ref q_a1), (2, .int p2), (3, .int p3), (4, .ref q_a4)]) (hn := (by decide)) (hl2 := rfl) (hd := d_Block_takeRuns_14) ?_
  obtain ⟨u4, hu4, hf⟩ := bd_some hf
  have Xu4_0 : ∀ (v5 : (Int32 × Int32 × Int32 × (Nat → Int32))), Sum.inl v5 = u4 → gAt C 0 0 [(q_a0, .inr (3, [.ref q_a0_told, .int v5.2.1, .ref r_a0_last, .ref r_a0_ups, .ref r_a0_symbols, .int x_a0_symbolCount, .ref r_a0_used, .ref r_a0_list, .int x_a0_origin, .int x_a0_check, .ref r_a0_groupTables, .int x_a0_groupCount, .int x_a0_tableCount, .ref r_a0_tables])), (q_a4, .inr (5, [.ref q_a4_leaves, .int v5.2.2.1])), (q_a1, .inr (4, [.ref q_a1_bytes, .int x_a1_count])), (q_a1_bytes, .inl (g_K C 0, n_a1_bytes, .inl f_a1_bytes)), (q_a4_leaves, .inl (g_K C 0, 256, .inl f_a4_leaves)), (q_a0_told, .inl (g_K C 0, 2250, .inl v5.2.2.2))] [(0, .ref q_a0), (4, .ref q_a4), (5, .int v5.1)] 64 [] := by
    intro v5 hv
    rw [← hv] at hf
    have hf := el_l hf
    refine g_goto 64 hC 94 (by decide) d_Block_takeRuns_64 ?_
    exact J94 v5.1 v5.2.1 v5.2.2.1 v5.2.2.2 hf
  have Xu4_1 : ∀ (v6 : (Int32 × Int32 × Int32 × (Nat → Int32))), Sum.inr v6 = u4 → gAt C 0 0 [(q_a0, .inr (3, [.ref q_a0_told, .int v6.2.1, .ref r_a0_last, .ref r_a0_ups, .ref r_a0_symbols, .int x_a0_symbolCount, .ref r_a0_used, .ref r_a0_list, .int x_a0_origin, .int x_a0_check, .ref r_a0_groupTables, .int x_a0_groupCount, .int x_a0_tableCount, .ref r_a0_tables])), (q_a4, .inr (5, [.ref q_a4_leaves, .int v6.2.2.1])), (q_a1, .inr (4, [.ref q_a1_bytes, .int x_a1_count])), (q_a1_bytes, .inl (g_K C 0, n_a1_bytes, .inl f_a1_bytes)), (q_a4_leaves, .inl (g_K C 0, 256, .inl f_a4_leaves)), (q_a0_told, .inl (g_K C 0, 2250, .inl v6.2.2.2))] [(0, .ref q_a0), (4, .ref q_a4), (5, .int v6.1)] 94 [] := by
    intro v6 hv
    rw [← hv] at hf
    have hf := el_r hf
    exact J94 v6.1 v6.2.1 v6.2.2.1 v6.2.2.2 hf
  have Gu4 := lp_ind (b := (Block_takeRuns_L16 p3 x_a1_count n_a1_bytes f_a1_bytes f_a4_leaves)) (G := fun (s3 : (Int32 × Int32 × Int32 × Int32 × (Nat → Int32))) => gAt C 0 0 [(q_a0, .inr (3, [.ref q_a0_told, .int s3.2.2.1, .ref r_a0_last, .ref r_a0_ups, .ref r_a0_symbols, .int x_a0_symbolCount, .ref r_a0_used, .ref r_a0_list, .int x_a0_origin, .int x_a0_check, .ref r_a0_groupTables, .int x_a0_groupCount, .int x_a0_tableCount, .ref r_a0_tables])), (q_a4, .inr (5, [.ref q_a4_leaves, .int s3.2.2.2.1])), (q_a1, .inr (4, [.ref q_a1_bytes, .int x_a1_count])), (q_a1_bytes, .inl (g_K C 0, n_a1_bytes, .inl f_a1_bytes)), (q_a4_leaves, .inl (g_K C 0, 256, .inl f_a4_leaves)), (q_a0_told, .inl (g_K C 0, 2250, .inl s3.2.2.2.2))] [(0, .ref q_a0), (1, .ref q_a1), (3, .int p3), (4, .ref q_a4), (5, .int s3.1), (6, .int s3.2.1)] 16 []) (o := u4) (by
      intro s3 u7 hf hI hX
      unfold Block_takeRuns_L16 at hf
      have J51 : ∀ (j51_0 : Int32) (j51_1 : Int32), Block_takeRuns_J51 s3 p3 x_a1_count n_a1_bytes f_a1_bytes f_a4_leaves j51_0 j51_1 = some u7 → gAt C 0 0 [(q_a0, .inr (3, [.ref q_a0_told, .int s3.2.2.1, .ref r_a0_last, .ref r_a0_ups, .ref r_a0_symbols, .int x_a0_symbolCount, .ref r_a0_used, .ref r_a0_list, .int x_a0_origin, .int x_a0_check, .ref r_a0_groupTables, .int x_a0_groupCount, .int x_a0_tableCount, .ref r_a0_tables])), (q_a4, .inr (5, [.ref q_a4_leaves, .int s3.2.2.2.1])), (q_a1, .inr (4, [.ref q_a1_bytes, .int x_a1_count])), (q_a1_bytes, .inl (g_K C 0, n_a1_bytes, .inl f_a1_bytes)), (q_a4_leaves, .inl (g_K C 0, 256, .inl f_a4_leaves)), (q_a0_told, .inl (g_K C 0, 2250, .inl s3.2.2.2.2))] [(0, .ref q_a0), (1, .ref q_a1), (3, .int p3), (4, .ref q_a4), (5, .int s3.1), (6, .int s3.2.1), (7, .int j51_0)] 51 [.int j51_1] := by
        intro j51_0 j51_1 hf
        unfold Block_takeRuns_J51 at hf
        refine g_istore 51 hC (lv2 := [(8, .int j51_1), (0, .ref q_a0), (1, .ref q_a1), (3, .int p3), (4, .ref q_a4), (5, .int s3.1), (6, .int s3.2.1), (7, .int j51_0)]) (hn := (by decide)) (hl2 := rfl) (hd := d_Block_takeRuns_51) ?_
        refine g_aload_n 53 hC (j := 1) (hj := rfl) (hd := d_Block_takeRuns_53) ?_
        refine g_get 54 hC i_Block rfl 0 rfl 1 (by decide) k135 rfl d_Block_takeRuns_54 ?_
        refine g_iload 57 hC (j := 0) (hj := rfl) (hd := d_Block_takeRuns_57) ?_
        refine g_iadd 59 hC d_Block_takeRuns_59 ?_
        refine g_iload_n 60 hC (j := 3) (hj := rfl) (hd := d_Block_takeRuns_60) ?_
        refine g_icmp_le 61 hC 67 (by decide) d_Block_takeRuns_61 (fun c8 => ?_) (fun c8 => ?_)
        · have hf := it_t c8 hf
          refine g_aload_n 67 hC (j := 1) (hj := rfl) (hd := d_Block_takeRuns_67) ?_
          refine g_aload_n 68 hC (j := 2) (hj := rfl) (hd := d_Block_takeRuns_68) ?_
          refine g_iload 69 hC (j := 5) (hj := rfl) (hd := d_Block_takeRuns_69) ?_
          obtain ⟨u9, hu9, hf⟩ := bd_some hf
          refine g_callVi 71 hC (c_ByteRow_get (g_l C) (g_D C) (g_K C) q_a1 q_a1_bytes x_a1_count n_a1_bytes f_a1_bytes s3.1 u9 hu9) k655 k2 k652 k653 k654 1 rfl (by decide +kernel) (by decide) [2, 3] [0, 1, 4, 5] [(q_a0, .inr (3, [.ref q_a0_told, .int s3.2.2.1, .ref r_a0_last, .ref r_a0_ups, .ref r_a0_symbols, .int x_a0_symbolCount, .ref r_a0_used, .ref r_a0_list, .int x_a0_origin, .int x_a0_check, .ref r_a0_groupTables, .int x_a0_groupCount, .int x_a0_tableCount, .ref r_a0_tables])), (q_a4, .inr (5, [.ref q_a4_leaves, .int s3.2.2.2.1])), (q_a4_leaves, .inl (g_K C 0, 256, .inl f_a4_leaves)), (q_a0_told, .inl (g_K C 0, 2250, .inl s3.2.2.2.2))] rfl rfl rfl rfl rfl 0 4 rfl rfl rfl rfl (Nat.le_of_ble_eq_true rfl) ⟨Nat.le_of_ble_eq_true rfl, Nat.le_of_ble_eq_true rfl⟩ (fun (_ : Unit) => [(q_a0, .inr (3, [.ref q_a0_told, .int s3.2.2.1, .ref r_a0_last, .ref r_a0_ups, .ref r_a0_symbols, .int x_a0_symbolCount, .ref r_a0_used, .ref r_a0_list, .int x_a0_origin, .int x_a0_check, .ref r_a0_groupTables, .int x_a0_groupCount, .int x_a0_tableCount, .ref r_a0_tables])), (q_a4, .inr (5, [.ref q_a4_leaves, .int s3.2.2.2.1])), (q_a4_leaves, .inl (g_K C 0, 256, .inl f_a4_leaves)), (q_a0_told, .inl (g_K C 0, 2250, .inl s3.2.2.2.2)), (q_a1, .inr (4, [.ref q_a1_bytes, .int x_a1_count])), (q_a1_bytes, .inl (g_K C 0, n_a1_bytes, .inl f_a1_bytes))]) (fun _ => rfl) d_Block_takeRuns_71 0 0 rfl rfl (fun _ => ?_)
          refine g_iload 74 hC (j := 7) (hj := rfl) (hd := d_Block_takeRuns_74) ?_
          refine g_aload 76 hC (j := 4) (hj := rfl) (hd := d_Block_takeRuns_76) ?_
          obtain ⟨u10, hu10, hf⟩ := bd_some hf
          refine g_callVv 78 hC (c_Block_tellRun (g_l C) (g_D C) (g_K C) q_a4 q_a4_leaves s3.2.2.2.1 f_a4_leaves q_a0 q_a0_told s3.2.2.1 r_a0_last r_a0_ups r_a0_symbols x_a0_symbolCount r_a0_used r_a0_list x_a0_origin x_a0_check r_a0_groupTables x_a0_groupCount x_a0_tableCount r_a0_tables s3.2.2.2.2 u9 j51_0 u10 hu10) k659 k5 k656 k658 ks2 3 rfl (by decide +kernel) (by decide) [1, 2, 0, 3] [4, 5] [(q_a1, .inr (4, [.ref q_a1_bytes, .int x_a1_count])), (q_a1_bytes, .inl (g_K C 0, n_a1_bytes, .inl f_a1_bytes))] rfl rfl rfl rfl rfl 2 3 rfl rfl rfl rfl (Nat.le_of_ble_eq_true rfl) ⟨Nat.le_of_ble_eq_true rfl, Nat.le_of_ble_eq_true rfl⟩ (fun (_ : Unit) => [(q_a1, .inr (4, [.ref q_a1_bytes, .int x_a1_count])), (q_a1_bytes, .inl (g_K C 0, n_a1_bytes, .inl f_a1_bytes)), (q_a4, .inr (5, [.ref q_a4_leaves, .int u10.1])), (q_a4_leaves, .inl (g_K C 0, 256, .inl f_a4_leaves)), (q_a0, .inr (3, [.ref q_a0_told, .int u10.2.2, .ref r_a0_last, .ref r_a0_ups, .ref r_a0_symbols, .int x_a0_symbolCount, .ref r_a0_used, .ref r_a0_list, .int x_a0_origin, .int x_a0_check, .ref r_a0_groupTables, .int x_a0_groupCount, .int x_a0_tableCount, .ref r_a0_tables])), (q_a0_told, .inl (g_K C 0, 2250, .inl u10.2.1))]) (fun _ => rfl) d_Block_takeRuns_78 0 0 rfl rfl (fun _ => ?_)
          refine g_iload 81 hC (j := 5) (hj := rfl) (hd := d_Block_takeRuns_81) ?_
          refine g_iload 83 hC (j := 7) (hj := rfl) (hd := d_Block_takeRuns_83) ?_
          refine g_iadd 85 hC d_Block_takeRuns_85 ?_
          refine g_istore 86 hC (lv2 := [(5, .int (s3.1 + j51_0)), (8, .int j51_1), (0, .ref q_a0), (1, .ref q_a1), (3, .int p3), (4, .ref q_a4), (6, .int s3.2.1), (7, .int j51_0)]) (hn := (by decide)) (hl2 := rfl) (hd := d_Block_takeRuns_86) ?_
          refine g_iinc 88 hC 6 (1 : Int32) [(6, .int (s3.2.1 + (1 : Int32))), (5, .int (s3.1 + j51_0)), (8, .int j51_1), (0, .ref q_a0), (1, .ref q_a1), (3, .int p3), (4, .ref q_a4), (7, .int j51_0)] rfl (by decide) (by decide) rfl d_Block_takeRuns_88 ?_
          refine g_goto 91 hC 16 (by decide) d_Block_takeRuns_91 ?_
          exact g_re [4, 2, 0, 1, 3, 5] [3, 4, 5, 6, 1, 0] rfl rfl rfl (hI ((s3.1 + j51_0), (s3.2.1 + (1 : Int32)), u10.2.2, u10.1, u10.2.1) hf)
        · have hf := it_f c8 hf
          exact g_re [0, 1, 2, 3, 4, 5] [1, 4, 5] rfl rfl rfl (Xu4_0 (s3.1, s3.2.2.1, s3.2.2.2.1, s3.2.2.2.2) (hX (Sum.inl (s3.1, s3.2.2.1, s3.2.2.2.1, s3.2.2.2.2)) hf))
      refine g_iload 16 hC (j := 5) (hj := rfl) (hd := d_Block_takeRuns_16) ?_
      refine g_iload_n 18 hC (j := 2) (hj := rfl) (hd := d_Block_takeRuns_18) ?_
      refine g_icmp_ge 19 hC 94 (by decide) d_Block_takeRuns_19 (fun c11 => ?_) (fun c11 => ?_)
      · have hf := it_t c11 hf
        exact g_re [0, 1, 2, 3, 4, 5] [0, 3, 4] rfl rfl rfl (Xu4_1 (s3.1, s3.2.2.1, s3.2.2.2.1, s3.2.2.2.2) (hX (Sum.inr (s3.1, s3.2.2.1, s3.2.2.2.1, s3.2.2.2.2)) hf))
      · have hf := it_f c11 hf
        refine g_iload 22 hC (j := 4) (hj := rfl) (hd := d_Block_takeRuns_22) ?_
        refine g_aload_n 24 hC (j := 1) (hj := rfl) (hd := d_Block_takeRuns_24) ?_
        refine g_get 25 hC i_ByteRow rfl 2 rfl 1 (by decide) k56 rfl d_Block_takeRuns_25 ?_
        refine g_icmp_ge 28 hC 94 (by decide) d_Block_takeRuns_28 (fun c12 => ?_) (fun c12 => ?_)
        · have hf := it_t c12 hf
          exact g_re [0, 1, 2, 3, 4, 5] [0, 3, 4] rfl rfl rfl (Xu4_1 (s3.1, s3.2.2.1, s3.2.2.2.1, s3.2.2.2.2) (hX (Sum.inr (s3.1, s3.2.2.1, s3.2.2.2.1, s3.2.2.2.2)) hf))
        · have hf := it_f c12 hf
          refine g_aload_n 31 hC (j := 1) (hj := rfl) (hd := d_Block_takeRuns_31) ?_
          refine g_iload 32 hC (j := 4) (hj := rfl) (hd := d_Block_takeRuns_32) ?_
          obtain ⟨u13, hu13, hf⟩ := bd_some hf
          refine g_callSi 34 hC (c_Block_runFrom (g_l C) (g_D C) (g_K C) q_a1 q_a1_bytes x_a1_count n_a1_bytes f_a1_bytes s3.1 u13 hu13) k651 k5 k649 k650 2 rfl (by decide +kernel) (by decide) [2, 3] [0, 1, 4, 5] [(q_a0, .inr (3, [.ref q_a0_told, .int s3.2.2.1, .ref r_a0_last, .ref r_a0_ups, .ref r_a0_symbols, .int x_a0_symbolCount, .ref r_a0_used, .ref r_a0_list, .int x_a0_origin, .int x_a0_check, .ref r_a0_groupTables, .int x_a0_groupCount, .int x_a0_tableCount, .ref r_a0_tables])), (q_a4, .inr (5, [.ref q_a4_leaves, .int s3.2.2.2.1])), (q_a4_leaves, .inl (g_K C 0, 256, .inl f_a4_leaves)), (q_a0_told, .inl (g_K C 0, 2250, .inl s3.2.2.2.2))] rfl rfl rfl rfl rfl rfl (Nat.le_of_ble_eq_true rfl) ⟨Nat.le_of_ble_eq_true rfl, Nat.le_of_ble_eq_true rfl⟩ (fun (_ : Unit) => [(q_a0, .inr (3, [.ref q_a0_told, .int s3.2.2.1, .ref r_a0_last, .ref r_a0_ups, .ref r_a0_symbols, .int x_a0_symbolCount, .ref r_a0_used, .ref r_a0_list, .int x_a0_origin, .int x_a0_check, .ref r_a0_groupTables, .int x_a0_groupCount, .int x_a0_tableCount, .ref r_a0_tables])), (q_a4, .inr (5, [.ref q_a4_leaves, .int s3.2.2.2.1])), (q_a4_leaves, .inl (g_K C 0, 256, .inl f_a4_leaves)), (q_a0_told, .inl (g_K C 0, 2250, .inl s3.2.2.2.2)), (q_a1, .inr (4, [.ref q_a1_bytes, .int x_a1_count])), (q_a1_bytes, .inl (g_K C 0, n_a1_bytes, .inl f_a1_bytes))]) (fun _ => rfl) d_Block_takeRuns_34 0 0 rfl rfl (fun _ => ?_)
          refine g_istore 37 hC (lv2 := [(7, .int u13), (0, .ref q_a0), (1, .ref q_a1), (3, .int p3), (4, .ref q_a4), (5, .int s3.1), (6, .int s3.2.1)]) (hn := (by decide)) (hl2 := rfl) (hd := d_Block_takeRuns_37) ?_
          refine g_iload 39 hC (j := 0) (hj := rfl) (hd := d_Block_takeRuns_39) ?_
          refine g_iconst 41 hC (4 : Int32) (by decide) d_Block_takeRuns_41 ?_
          refine g_icmp_ge 42 hC 50 (by decide) d_Block_takeRuns_42 (fun c14 => ?_) (fun c14 => ?_)
          · have hf := it_t c14 hf
            refine g_iconst 50 hC (5 : Int32) (by decide) d_Block_takeRuns_50 ?_
            exact g_re [0, 1, 4, 5, 2, 3] [1, 2, 3, 4, 5, 6, 0] rfl rfl rfl (J51 u13 (5 : Int32) hf)
          · have hf := it_f c14 hf
            refine g_iload 45 hC (j := 0) (hj := rfl) (hd := d_Block_takeRuns_45) ?_
            refine g_goto 47 hC 51 (by decide) d_Block_takeRuns_47 ?_
            exact g_re [0, 1, 4, 5, 2, 3] [1, 2, 3, 4, 5, 6, 0] rfl rfl rfl (J51 u13 u13 hf)) gas
  exact g_re [0, 5, 1, 2, 3, 4] [2, 3, 5, 6, 1, 0] rfl rfl rfl (Gu4 (p2, (0 : Int32), (0 : Int32), u2, f_a0_told) hu4)
theorem c_Block_takeRuns (l : Launch) (D : va_G) (K : Nat → ClassId) (q_a0 : Nat) (q_a0_told : Nat) (x_a0_toldCount : Int32) (r_a0_last : Nat) (r_a0_ups : Nat) (r_a0_symbols : Nat) (x_a0_symbolCount : Int32) (r_a0_used : Nat) (r_a0_list : Nat) (x_a0_origin : Int32) (x_a0_check : Int32) (r_a0_groupTables : Nat) (x_a0_groupCount : Int32) (x_a0_tableCount : Int32) (r_a0_tables : Nat) (q_a4 : Nat) (q_a4_leaves : Nat) (x_a4_bits : Int32) (q_a1 : Nat) (q_a1_bytes : Nat) (x_a1_count : Int32) (n_a1_bytes : Nat) (f_a1_bytes : (Nat → Int32)) (f_a4_leaves : (Nat → Int32)) (f_a0_told : (Nat → Int32)) (p2 : Int32) (p3 : Int32) (out : (Int32 × Int32 × Int32 × Int32 × (Nat → Int32))) (hf : Block_takeRuns_f p3 x_a1_count n_a1_bytes f_a1_bytes f_a4_leaves p2 f_a0_told = some out) : Ci l D K y_Block_takeRuns (g_wd y_Block_takeRuns b_Block_takeRuns 9 (some .int)) { frames := 2, cells := 0, slots := 0, locals := 45 } [.ref q_a0, .ref q_a1, .int p2, .int p3, .ref q_a4] [(q_a0, .inr (3, [.ref q_a0_told, .int x_a0_toldCount, .ref r_a0_last, .ref r_a0_ups, .ref r_a0_symbols, .int x_a0_symbolCount, .ref r_a0_used, .ref r_a0_list, .int x_a0_origin, .int x_a0_check, .ref r_a0_groupTables, .int x_a0_groupCount, .int x_a0_tableCount, .ref r_a0_tables])), (q_a4, .inr (5, [.ref q_a4_leaves, .int x_a4_bits])), (q_a1, .inr (4, [.ref q_a1_bytes, .int x_a1_count])), (q_a1_bytes, .inl (K 0, n_a1_bytes, .inl f_a1_bytes)), (q_a4_leaves, .inl (K 0, 256, .inl f_a4_leaves)), (q_a0_told, .inl (K 0, 2250, .inl f_a0_told))] (fun (x : Unit) => [(q_a0, .inr (3, [.ref q_a0_told, .int out.2.1, .ref r_a0_last, .ref r_a0_ups, .ref r_a0_symbols, .int x_a0_symbolCount, .ref r_a0_used, .ref r_a0_list, .int x_a0_origin, .int out.2.2.2.1, .ref r_a0_groupTables, .int x_a0_groupCount, .int x_a0_tableCount, .ref r_a0_tables])), (q_a4, .inr (5, [.ref q_a4_leaves, .int out.2.2.1])), (q_a1, .inr (4, [.ref q_a1_bytes, .int x_a1_count])), (q_a1_bytes, .inl (K 0, n_a1_bytes, .inl f_a1_bytes)), (q_a4_leaves, .inl (K 0, 256, .inl f_a4_leaves)), (q_a0_told, .inl (K 0, 2250, .inl out.2.2.2.2))]) out.1 := mk_i (by decide) (Nat.le_of_ble_eq_true rfl) (fun p e s m below meth c A Q hC kr => m_Block_takeRuns hC q_a0 q_a0_told x_a0_toldCount r_a0_last r_a0_ups r_a0_symbols x_a0_symbolCount r_a0_used r_a0_list x_a0_origin x_a0_check r_a0_groupTables x_a0_groupCount x_a0_tableCount r_a0_tables q_a4 q_a4_leaves x_a4_bits q_a1 q_a1_bytes x_a1_count n_a1_bytes f_a1_bytes f_a4_leaves f_a0_told p2 p3 out hf (fun x o9 pc lv ho => by subst ho; exact kr x pc lv))
