abbrev b_Block_makeSymbols : ByteArray := prog_4_method_9_code
def y_Block_makeSymbols : MethodName := ⟨R_Block, "makeSymbols", "()V"⟩
theorem d_Block_makeSymbols_0 : decode b_Block_makeSymbols 0 = .ok (.aload_n 0, 1) := by decide +kernel
theorem d_Block_makeSymbols_1 : decode b_Block_makeSymbols 1 = .ok (.iconst 0, 1) := by decide +kernel
theorem d_Block_makeSymbols_2 : decode b_Block_makeSymbols 2 = .ok (.putfield 52, 3) := by decide +kernel
theorem d_Block_makeSymbols_5 : decode b_Block_makeSymbols 5 = .ok (.iconst 0, 1) := by decide +kernel
theorem d_Block_makeSymbols_6 : decode b_Block_makeSymbols 6 = .ok (.istore_n 1, 1) := by decide +kernel
theorem d_Block_makeSymbols_7 : decode b_Block_makeSymbols 7 = .ok (.iconst 0, 1) := by decide +kernel
theorem d_Block_makeSymbols_8 : decode b_Block_makeSymbols 8 = .ok (.istore_n 2, 1) := by decide +kernel
theorem d_Block_makeSymbols_9 : decode b_Block_makeSymbols 9 = .ok (.iload_n 2, 1) := by decide +kernel
theorem d_Block_makeSymbols_10 : decode b_Block_makeSymbols 10 = .ok (.aload_n 0, 1) := by decide +kernel
theorem d_Block_makeSymbols_11 : decode b_Block_makeSymbols 11 = .ok (.getfield 44, 3) := by decide +kernel
theorem d_Block_makeSymbols_14 : decode b_Block_makeSymbols 14 = .ok (.if_icmp .ge 58, 3) := by decide +kernel
theorem d_Block_makeSymbols_17 : decode b_Block_makeSymbols 17 = .ok (.aload_n 0, 1) := by decide +kernel
theorem d_Block_makeSymbols_18 : decode b_Block_makeSymbols 18 = .ok (.getfield 18, 3) := by decide +kernel
theorem d_Block_makeSymbols_21 : decode b_Block_makeSymbols 21 = .ok (.iload_n 2, 1) := by decide +kernel
theorem d_Block_makeSymbols_22 : decode b_Block_makeSymbols 22 = .ok (.iaload, 1) := by decide +kernel
theorem d_Block_makeSymbols_23 : decode b_Block_makeSymbols 23 = .ok (.ifCond .ne 9, 3) := by decide +kernel
theorem d_Block_makeSymbols_26 : decode b_Block_makeSymbols 26 = .ok (.iinc 1 1, 3) := by decide +kernel
theorem d_Block_makeSymbols_29 : decode b_Block_makeSymbols 29 = .ok (.goto 37, 3) := by decide +kernel
theorem d_Block_makeSymbols_32 : decode b_Block_makeSymbols 32 = .ok (.aload_n 0, 1) := by decide +kernel
theorem d_Block_makeSymbols_33 : decode b_Block_makeSymbols 33 = .ok (.iload_n 1, 1) := by decide +kernel
theorem d_Block_makeSymbols_34 : decode b_Block_makeSymbols 34 = .ok (.invokevirtual 117, 3) := by decide +kernel
theorem d_Block_makeSymbols_37 : decode b_Block_makeSymbols 37 = .ok (.iconst 0, 1) := by decide +kernel
theorem d_Block_makeSymbols_38 : decode b_Block_makeSymbols 38 = .ok (.istore_n 1, 1) := by decide +kernel
theorem d_Block_makeSymbols_39 : decode b_Block_makeSymbols 39 = .ok (.aload_n 0, 1) := by decide +kernel
theorem d_Block_makeSymbols_40 : decode b_Block_makeSymbols 40 = .ok (.getfield 21, 3) := by decide +kernel
theorem d_Block_makeSymbols_43 : decode b_Block_makeSymbols 43 = .ok (.aload_n 0, 1) := by decide +kernel
theorem d_Block_makeSymbols_44 : decode b_Block_makeSymbols 44 = .ok (.getfield 52, 3) := by decide +kernel
theorem d_Block_makeSymbols_47 : decode b_Block_makeSymbols 47 = .ok (.aload_n 0, 1) := by decide +kernel
theorem d_Block_makeSymbols_48 : decode b_Block_makeSymbols 48 = .ok (.getfield 18, 3) := by decide +kernel
theorem d_Block_makeSymbols_51 : decode b_Block_makeSymbols 51 = .ok (.iload_n 2, 1) := by decide +kernel
theorem d_Block_makeSymbols_52 : decode b_Block_makeSymbols 52 = .ok (.iaload, 1) := by decide +kernel
theorem d_Block_makeSymbols_53 : decode b_Block_makeSymbols 53 = .ok (.iconst 1, 1) := by decide +kernel
theorem d_Block_makeSymbols_54 : decode b_Block_makeSymbols 54 = .ok (.iadd, 1) := by decide +kernel
theorem d_Block_makeSymbols_55 : decode b_Block_makeSymbols 55 = .ok (.iastore, 1) := by decide +kernel
theorem d_Block_makeSymbols_56 : decode b_Block_makeSymbols 56 = .ok (.aload_n 0, 1) := by decide +kernel
theorem d_Block_makeSymbols_57 : decode b_Block_makeSymbols 57 = .ok (.dup, 1) := by decide +kernel
theorem d_Block_makeSymbols_58 : decode b_Block_makeSymbols 58 = .ok (.getfield 52, 3) := by decide +kernel
theorem d_Block_makeSymbols_61 : decode b_Block_makeSymbols 61 = .ok (.iconst 1, 1) := by decide +kernel
theorem d_Block_makeSymbols_62 : decode b_Block_makeSymbols 62 = .ok (.iadd, 1) := by decide +kernel
theorem d_Block_makeSymbols_63 : decode b_Block_makeSymbols 63 = .ok (.putfield 52, 3) := by decide +kernel
theorem d_Block_makeSymbols_66 : decode b_Block_makeSymbols 66 = .ok (.iinc 2 1, 3) := by decide +kernel
theorem d_Block_makeSymbols_69 : decode b_Block_makeSymbols 69 = .ok (.goto (-60), 3) := by decide +kernel
theorem d_Block_makeSymbols_72 : decode b_Block_makeSymbols 72 = .ok (.aload_n 0, 1) := by decide +kernel
theorem d_Block_makeSymbols_73 : decode b_Block_makeSymbols 73 = .ok (.iload_n 1, 1) := by decide +kernel
theorem d_Block_makeSymbols_74 : decode b_Block_makeSymbols 74 = .ok (.invokevirtual 117, 3) := by decide +kernel
theorem d_Block_makeSymbols_77 : decode b_Block_makeSymbols 77 = .ok (.aload_n 0, 1) := by decide +kernel
theorem d_Block_makeSymbols_78 : decode b_Block_makeSymbols 78 = .ok (.getfield 21, 3) := by decide +kernel
theorem d_Block_makeSymbols_81 : decode b_Block_makeSymbols 81 = .ok (.aload_n 0, 1) := by decide +kernel
theorem d_Block_makeSymbols_82 : decode b_Block_makeSymbols 82 = .ok (.getfield 52, 3) := by decide +kernel
theorem d_Block_makeSymbols_85 : decode b_Block_makeSymbols 85 = .ok (.aload_n 0, 1) := by decide +kernel
theorem d_Block_makeSymbols_86 : decode b_Block_makeSymbols 86 = .ok (.getfield 30, 3) := by decide +kernel
theorem d_Block_makeSymbols_89 : decode b_Block_makeSymbols 89 = .ok (.getfield 110, 3) := by decide +kernel
theorem d_Block_makeSymbols_92 : decode b_Block_makeSymbols 92 = .ok (.iconst 1, 1) := by decide +kernel
theorem d_Block_makeSymbols_93 : decode b_Block_makeSymbols 93 = .ok (.iadd, 1) := by decide +kernel
theorem d_Block_makeSymbols_94 : decode b_Block_makeSymbols 94 = .ok (.iastore, 1) := by decide +kernel
theorem d_Block_makeSymbols_95 : decode b_Block_makeSymbols 95 = .ok (.aload_n 0, 1) := by decide +kernel
theorem d_Block_makeSymbols_96 : decode b_Block_makeSymbols 96 = .ok (.dup, 1) := by decide +kernel
theorem d_Block_makeSymbols_97 : decode b_Block_makeSymbols 97 = .ok (.getfield 52, 3) := by decide +kernel
theorem d_Block_makeSymbols_100 : decode b_Block_makeSymbols 100 = .ok (.iconst 1, 1) := by decide +kernel
theorem d_Block_makeSymbols_101 : decode b_Block_makeSymbols 101 = .ok (.iadd, 1) := by decide +kernel
theorem d_Block_makeSymbols_102 : decode b_Block_makeSymbols 102 = .ok (.putfield 52, 3) := by decide +kernel
theorem d_Block_makeSymbols_105 : decode b_Block_makeSymbols 105 = .ok (.return_, 1) := by decide +kernel
theorem k979 : (Jvm.Cond.code ({ cls := "RotationPress$Block", name := "tellZeros", desc := "(I)V" } : Jvm.MethodName) prog_4_method_10_code (3 : Nat) (Option.none : Option Jvm.ClassFile.FieldType)) ∈ g_tbl := List.mem_filter.mpr ⟨List.mem_append_right (k2_sels lw_privs) (List.mem_append_right _ (List.mem_append_right _ (List.mem_append_right _ (List.mem_append_right _ (List.mem_append_left _ (List.mem_of_getElem? (l := tables_1_5) (i := 19) rfl)))))), rfl⟩
theorem k976 : (Jvm.Cond.methodLink "RotationPress$Block" (117 : Nat) ({ cls := "RotationPress$Block", name := "tellZeros", desc := "(I)V" } : Jvm.MethodName)) ∈ g_tbl := List.mem_filter.mpr ⟨List.mem_append_right (k2_sels lw_privs) (List.mem_append_right _ (List.mem_append_right _ (List.mem_append_right _ (List.mem_append_right _ (List.mem_append_left _ (List.mem_of_getElem? (l := tables_1_5) (i := 16) rfl)))))), rfl⟩
theorem k978 : (Jvm.Cond.instanceMethod ({ cls := "RotationPress$Block", name := "tellZeros", desc := "(I)V" } : Jvm.MethodName)) ∈ g_tbl := List.mem_filter.mpr ⟨List.mem_append_right (k2_sels lw_privs) (List.mem_append_right _ (List.mem_append_right _ (List.mem_append_right _ (List.mem_append_right _ (List.mem_append_left _ (List.mem_of_getElem? (l := tables_1_5) (i := 18) rfl)))))), rfl⟩
theorem ks8 : (Jvm.Cond.selects "RotationPress$Block" ({ cls := "RotationPress$Block", name := "tellZeros", desc := "(I)V" } : Jvm.MethodName) ({ cls := "RotationPress$Block", name := "tellZeros", desc := "(I)V" } : Jvm.MethodName)) ∈ g_tbl := List.mem_filter.mpr ⟨List.mem_append_left _ (List.mem_map.mpr ⟨(({ cls := "RotationPress$Block", name := "tellZeros", desc := "(I)V" } : Jvm.MethodName), _), List.mem_of_getElem? (i := 8) rfl, rfl⟩), rfl⟩
set_option maxRecDepth 100000 in
set_option maxHeartbeats 4000000 in
theorem m_Block_makeSymbols {C : gT} (hC : gOk C b_Block_makeSymbols R_Block { frames := 1, cells := 0, slots := 0, locals := 22 } 3) (q_a0 : Nat) (r_a0_told : Nat) (x_a0_toldCount : Int32) (r_a0_last : Nat) (q_a0_ups : Nat) (q_a0_symbols : Nat) (x_a0_symbolCount : Int32) (r_a0_used : Nat) (q_a0_list : Nat) (x_a0_origin : Int32) (x_a0_check : Int32) (r_a0_groupTables : Nat) (x_a0_groupCount : Int32) (x_a0_tableCount : Int32) (r_a0_tables : Nat) (f_a0_ups : (Nat → Int32)) (f_a0_symbols : (Nat → Int32)) (r_a0_list_members : Nat) (x_a0_list_count : Int32) (out : (Int32 × (Nat → Int32))) (hf : Block_makeSymbols_f x_a0_toldCount f_a0_ups f_a0_symbols x_a0_list_count = some out) (kr : ∀ (x : Unit) (o9 : (Int32 × (Nat → Int32))) (pc : Nat) (lv : List (Nat × Value)), o9 = out → decode b_Block_makeSymbols pc = .ok (.return_, 1) → gAt C 0 0 [(q_a0, .inr (3, [.ref r_a0_told, .int x_a0_toldCount, .ref r_a0_last, .ref q_a0_ups, .ref q_a0_symbols, .int o9.1, .ref r_a0_used, .ref q_a0_list, .int x_a0_origin, .int x_a0_check, .ref r_a0_groupTables, .int x_a0_groupCount, .int x_a0_tableCount, .ref r_a0_tables])), (q_a0_ups, .inl (g_K C 0, 2250, .inl f_a0_ups)), (q_a0_symbols, .inl (g_K C 0, 2251, .inl o9.2)), (q_a0_list, .inr (8, [.ref r_a0_list_members, .int x_a0_list_count]))] lv pc []) : gAt C 0 0 [(q_a0, .inr (3, [.ref r_a0_told, .int x_a0_toldCount, .ref r_a0_last, .ref q_a0_ups, .ref q_a0_symbols, .int x_a0_symbolCount, .ref r_a0_used, .ref q_a0_list, .int x_a0_origin, .int x_a0_check, .ref r_a0_groupTables, .int x_a0_groupCount, .int x_a0_tableCount, .ref r_a0_tables])), (q_a0_ups, .inl (g_K C 0, 2250, .inl f_a0_ups)), (q_a0_symbols, .inl (g_K C 0, 2251, .inl f_a0_symbols)), (q_a0_list, .inr (8, [.ref r_a0_list_members, .int x_a0_list_count]))] [(0, .ref q_a0)] 0 [] := by
  unfold Block_makeSymbols_f at hf
  refine g_aload_n 0 hC (j := 0) (hj := rfl) (hd := d_Block_makeSymbols_0) ?_
  refine g_iconst 1 hC (0 : Int32) (by decide) d_Block_makeSymbols_1 ?_
  refine g_put 2 hC i_Block rfl 0 rfl 5 (by decide) t_Block tk_Block n_Block k144 rfl rfl rfl (Nat.le_of_ble_eq_true rfl) [(q_a0, .inr (3, [.ref r_a0_told, .int x_a0_toldCount, .ref r_a0_last, .ref q_a0_ups, .ref q_a0_symbols, .int (0 : Int32), .ref r_a0_used, .ref q_a0_list, .int x_a0_origin, .int x_a0_check, .ref r_a0_groupTables, .int x_a0_groupCount, .int x_a0_tableCount, .ref r_a0_tables])), (q_a0_ups, .inl (g_K C 0, 2250, .inl f_a0_ups)), (q_a0_symbols, .inl (g_K C 0, 2251, .inl f_a0_symbols)), (q_a0_list, .inr (8, [.ref r_a0_list_members, .int x_a0_list_count]))] rfl d_Block_makeSymbols_2 ?_
  refine g_iconst 5 hC (0 : Int32) (by decide) d_Block_makeSymbols_5 ?_
  refine g_istore_n 6 hC (lv2 := [(1, .int (0 : Int32)), (0, .ref q_a0)]) (hn := (by decide)) (hl2 := rfl) (hd := d_Block_makeSymbols_6) ?_
  refine g_iconst 7 hC (0 : Int32) (by decide) d_Block_makeSymbols_7 ?_
  refine g_istore_n 8 hC (lv2 := [(2, .int (0 : Int32)), (1, .int (0 : Int32)), (0, .ref q_a0)]) (hn := (by decide)) (hl2 := rfl) (hd := d_Block_makeSymbols_8) ?_
  obtain ⟨u2, hu2, hf⟩ := bd_some hf
  have Xu2_0 : ∀ (v3 : (Int32 × Int32 × (Nat → Int32))), v3 = u2 → gAt C 0 0 [(q_a0, .inr (3, [.ref r_a0_told, .int x_a0_toldCount, .ref r_a0_last, .ref q_a0_ups, .ref q_a0_symbols, .int v3.2.1, .ref r_a0_used, .ref q_a0_list, .int x_a0_origin, .int x_a0_check, .ref r_a0_groupTables, .int x_a0_groupCount, .int x_a0_tableCount, .ref r_a0_tables])), (q_a0_ups, .inl (g_K C 0, 2250, .inl f_a0_ups)), (q_a0_symbols, .inl (g_K C 0, 2251, .inl v3.2.2)), (q_a0_list, .inr (8, [.ref r_a0_list_members, .int x_a0_list_count]))] [(0, .ref q_a0), (1, .int v3.1)] 72 [] := by
    intro v3 hv
    rw [← hv] at hf
    refine g_aload_n 72 hC (j := 0) (hj := rfl) (hd := d_Block_makeSymbols_72) ?_
    refine g_iload_n 73 hC (j := 1) (hj := rfl) (hd := d_Block_makeSymbols_73) ?_
    obtain ⟨u4, hu4, hf⟩ := bd_some hf
    refine g_callVv 74 hC (c_Block_tellZeros (g_l C) (g_D C) (g_K C) q_a0 r_a0_told x_a0_toldCount r_a0_last q_a0_ups q_a0_symbols v3.2.1 r_a0_used q_a0_list x_a0_origin x_a0_check r_a0_groupTables x_a0_groupCount x_a0_tableCount r_a0_tables v3.2.2 v3.1 u4 hu4) k979 k5 k976 k978 ks8 1 rfl (by decide +kernel) (by decide) [0, 2] [1, 3] [(q_a0_ups, .inl (g_K C 0, 2250, .inl f_a0_ups)), (q_a0_list, .inr (8, [.ref r_a0_list_members, .int x_a0_list_count]))] rfl rfl rfl rfl rfl 0 3 rfl rfl rfl rfl (Nat.le_of_ble_eq_true rfl) ⟨Nat.le_of_ble_eq_true rfl, Nat.le_of_ble_eq_true rfl⟩ (fun (_ : Unit) => [(q_a0_ups, .inl (g_K C 0, 2250, .inl f_a0_ups)), (q_a0_list, .inr (8, [.ref r_a0_list_members, .int x_a0_list_count])), (q_a0, .inr (3, [.ref r_a0_told, .int x_a0_toldCount, .ref r_a0_last, .ref q_a0_ups, .ref q_a0_symbols, .int u4.2, .ref r_a0_used, .ref q_a0_list, .int x_a0_origin, .int x_a0_check, .ref r_a0_groupTables, .int x_a0_groupCount, .int x_a0_tableCount, .ref r_a0_tables])), (q_a0_symbols, .inl (g_K C 0, 2251, .inl u4.1))]) (fun _ => rfl) d_Block_makeSymbols_74 0 0 rfl rfl (fun _ => ?_)
    refine g_aload_n 77 hC (j := 0) (hj := rfl) (hd := d_Block_makeSymbols_77) ?_
    refine g_get 78 hC i_Block rfl 2 rfl 4 (by decide) k140 rfl d_Block_makeSymbols_78 ?_
    refine g_aload_n 81 hC (j := 0) (hj := rfl) (hd := d_Block_makeSymbols_81) ?_
    refine g_get 82 hC i_Block rfl 2 rfl 5 (by decide) k144 rfl d_Block_makeSymbols_82 ?_
    refine g_aload_n 85 hC (j := 0) (hj := rfl) (hd := d_Block_makeSymbols_85) ?_
    refine g_get 86 hC i_Block rfl 2 rfl 7 (by decide) k149 rfl d_Block_makeSymbols_86 ?_
    refine g_get 89 hC i_FrontList rfl 1 rfl 1 (by decide) k86 rfl d_Block_makeSymbols_89 ?_
    refine g_iconst 92 hC (1 : Int32) (by decide) d_Block_makeSymbols_92 ?_
    refine g_iadd 93 hC d_Block_makeSymbols_93 ?_
    obtain ⟨e5, hf⟩ := gd_some hf
    refine g_iast 94 hC 3 rfl e5 [(q_a0_ups, .inl (g_K C 0, 2250, .inl f_a0_ups)), (q_a0_list, .inr (8, [.ref r_a0_list_members, .int x_a0_list_count])), (q_a0, .inr (3, [.ref r_a0_told, .int x_a0_toldCount, .ref r_a0_last, .ref q_a0_ups, .ref q_a0_symbols, .int u4.2, .ref r_a0_used, .ref q_a0_list, .int x_a0_origin, .int x_a0_check, .ref r_a0_groupTables, .int x_a0_groupCount, .int x_a0_tableCount, .ref r_a0_tables])), (q_a0_symbols, .inl (g_K C 0, 2251, .inl (upd u4.1 u4.2.toNatClampNeg (x_a0_list_count + (1 : Int32)))))] rfl d_Block_makeSymbols_94 ?_
    refine g_aload_n 95 hC (j := 0) (hj := rfl) (hd := d_Block_makeSymbols_95) ?_
    refine g_dup 96 hC rfl d_Block_makeSymbols_96 ?_
    refine g_get 97 hC i_Block rfl 2 rfl 5 (by decide) k144 rfl d_Block_makeSymbols_97 ?_
    refine g_iconst 100 hC (1 : Int32) (by decide) d_Block_makeSymbols_100 ?_
    refine g_iadd 101 hC d_Block_makeSymbols_101 ?_
    refine g_put 102 hC i_Block rfl 2 rfl 5 (by decide) t_Block tk_Block n_Block k144 rfl rfl rfl (Nat.le_of_ble_eq_true rfl) [(q_a0_ups, .inl (g_K C 0, 2250, .inl f_a0_ups)), (q_a0_list, .inr (8, [.ref r_a0_list_members, .int x_a0_list_count])), (q_a0, .inr (3, [.ref r_a0_told, .int x_a0_toldCount, .ref r_a0_last, .ref q_a0_ups, .ref q_a0_symbols, .int (u4.2 + (1 : Int32)), .ref r_a0_used, .ref q_a0_list, .int x_a0_origin, .int x_a0_check, .ref r_a0_groupTables, .int x_a0_groupCount, .int x_a0_tableCount, .ref r_a0_tables])), (q_a0_symbols, .inl (g_K C 0, 2251, .inl (upd u4.1 u4.2.toNatClampNeg (x_a0_list_count + (1 : Int32)))))] rfl d_Block_makeSymbols_102 ?_
    exact g_re [2, 0, 3, 1] [] rfl rfl rfl (kr () ((u4.2 + (1 : Int32)), (upd u4.1 u4.2.toNatClampNeg (x_a0_list_count + (1 : Int32)))) 105 [] (Option.some.inj hf) d_Block_makeSymbols_105)
  have Gu2 := lp_ind (b := (Block_makeSymbols_L9 x_a0_toldCount f_a0_ups)) (G := fun (s1 : (Int32 × Int32 × Int32 × (Nat → Int32))) => gAt C 0 0 [(q_a0, .inr (3, [.ref r_a0_told, .int x_a0_toldCount, .ref r_a0_last, .ref q_a0_ups, .ref q_a0_symbols, .int s1.2.2.1, .ref r_a0_used, .ref q_a0_list, .int x_a0_origin, .int x_a0_check, .ref r_a0_groupTables, .int x_a0_groupCount, .int x_a0_tableCount, .ref r_a0_tables])), (q_a0_ups, .inl (g_K C 0, 2250, .inl f_a0_ups)), (q_a0_symbols, .inl (g_K C 0, 2251, .inl s1.2.2.2)), (q_a0_list, .inr (8, [.ref r_a0_list_members, .int x_a0_list_count]))] [(0, .ref q_a0), (1, .int s1.1), (2, .int s1.2.1)] 9 []) (o := u2) (by
      intro s1 u6 hf hI hX
      unfold Block_makeSymbols_L9 at hf
      have J66 : ∀ (j66_0 : Int32) (j66_1 : Int32) (j66_2 : (Nat → Int32)), Block_makeSymbols_J66 s1 j66_0 j66_1 j66_2 = some u6 → gAt C 0 0 [(q_a0, .inr (3, [.ref r_a0_told, .int x_a0_toldCount, .ref r_a0_last, .ref q_a0_ups, .ref q_a0_symbols, .int j66_1, .ref r_a0_used, .ref q_a0_list, .int x_a0_origin, .int x_a0_check, .ref r_a0_groupTables, .int x_a0_groupCount, .int x_a0_tableCount, .ref r_a0_tables])), (q_a0_ups, .inl (g_K C 0, 2250, .inl f_a0_ups)), (q_a0_symbols, .inl (g_K C 0, 2251, .inl j66_2)), (q_a0_list, .inr (8, [.ref r_a0_list_members, .int x_a0_list_count]))] [(0, .ref q_a0), (1, .int j66_0), (2, .int s1.2.1)] 66 [] := by
        intro j66_0 j66_1 j66_2 hf
        unfold Block_makeSymbols_J66 at hf
        refine g_iinc 66 hC 2 (1 : Int32) [(2, .int (s1.2.1 + (1 : Int32))), (0, .ref q_a0), (1, .int j66_0)] rfl (by decide) (by decide) rfl d_Block_makeSymbols_66 ?_
        refine g_goto 69 hC 9 (by decide) d_Block_makeSymbols_69 ?_
        exact g_re [0, 1, 2, 3] [1, 2, 0] rfl rfl rfl (hI (j66_0, (s1.2.1 + (1 : Int32)), j66_1, j66_2) hf)
      refine g_iload_n 9 hC (j := 2) (hj := rfl) (hd := d_Block_makeSymbols_9) ?_
      refine g_aload_n 10 hC (j := 0) (hj := rfl) (hd := d_Block_makeSymbols_10) ?_
      refine g_get 11 hC i_Block rfl 0 rfl 1 (by decide) k135 rfl d_Block_makeSymbols_11 ?_
      refine g_icmp_ge 14 hC 72 (by decide) d_Block_makeSymbols_14 (fun c7 => ?_) (fun c7 => ?_)
      · have hf := it_t c7 hf
        exact g_re [0, 1, 2, 3] [0, 1] rfl rfl rfl (Xu2_0 (s1.1, s1.2.2.1, s1.2.2.2) (hX (s1.1, s1.2.2.1, s1.2.2.2) hf))
      · have hf := it_f c7 hf
        refine g_aload_n 17 hC (j := 0) (hj := rfl) (hd := d_Block_makeSymbols_17) ?_
        refine g_get 18 hC i_Block rfl 0 rfl 3 (by decide) k139 rfl d_Block_makeSymbols_18 ?_
        refine g_iload_n 21 hC (j := 2) (hj := rfl) (hd := d_Block_makeSymbols_21) ?_
        obtain ⟨e8, hf⟩ := gd_some hf
        refine g_iald 22 hC 1 rfl e8 d_Block_makeSymbols_22 ?_
        refine g_if_ne 23 hC 32 (by decide) d_Block_makeSymbols_23 (fun c9 => ?_) (fun c9 => ?_)
        · have hf := it_f c9 hf
          refine g_aload_n 32 hC (j := 0) (hj := rfl) (hd := d_Block_makeSymbols_32) ?_
          refine g_iload_n 33 hC (j := 1) (hj := rfl) (hd := d_Block_makeSymbols_33) ?_
          obtain ⟨u10, hu10, hf⟩ := bd_some hf
          refine g_callVv 34 hC (c_Block_tellZeros (g_l C) (g_D C) (g_K C) q_a0 r_a0_told x_a0_toldCount r_a0_last q_a0_ups q_a0_symbols s1.2.2.1 r_a0_used q_a0_list x_a0_origin x_a0_check r_a0_groupTables x_a0_groupCount x_a0_tableCount r_a0_tables s1.2.2.2 s1.1 u10 hu10) k979 k5 k976 k978 ks8 1 rfl (by decide +kernel) (by decide) [0, 2] [1, 3] [(q_a0_ups, .inl (g_K C 0, 2250, .inl f_a0_ups)), (q_a0_list, .inr (8, [.ref r_a0_list_members, .int x_a0_list_count]))] rfl rfl rfl rfl rfl 0 3 rfl rfl rfl rfl (Nat.le_of_ble_eq_true rfl) ⟨Nat.le_of_ble_eq_true rfl, Nat.le_of_ble_eq_true rfl⟩ (fun (_ : Unit) => [(q_a0_ups, .inl (g_K C 0, 2250, .inl f_a0_ups)), (q_a0_list, .inr (8, [.ref r_a0_list_members, .int x_a0_list_count])), (q_a0, .inr (3, [.ref r_a0_told, .int x_a0_toldCount, .ref r_a0_last, .ref q_a0_ups, .ref q_a0_symbols, .int u10.2, .ref r_a0_used, .ref q_a0_list, .int x_a0_origin, .int x_a0_check, .ref r_a0_groupTables, .int x_a0_groupCount, .int x_a0_tableCount, .ref r_a0_tables])), (q_a0_symbols, .inl (g_K C 0, 2251, .inl u10.1))]) (fun _ => rfl) d_Block_makeSymbols_34 0 0 rfl rfl (fun _ => ?_)
          refine g_iconst 37 hC (0 : Int32) (by decide) d_Block_makeSymbols_37 ?_
          refine g_istore_n 38 hC (lv2 := [(1, .int (0 : Int32)), (0, .ref q_a0), (2, .int s1.2.1)]) (hn := (by decide)) (hl2 := rfl) (hd := d_Block_makeSymbols_38) ?_
          refine g_aload_n 39 hC (j := 1) (hj := rfl) (hd := d_Block_makeSymbols_39) ?_
          refine g_get 40 hC i_Block rfl 2 rfl 4 (by decide) k140 rfl d_Block_makeSymbols_40 ?_
          refine g_aload_n 43 hC (j := 1) (hj := rfl) (hd := d_Block_makeSymbols_43) ?_
          refine g_get 44 hC i_Block rfl 2 rfl 5 (by decide) k144 rfl d_Block_makeSymbols_44 ?_
          refine g_aload_n 47 hC (j := 1) (hj := rfl) (hd := d_Block_makeSymbols_47) ?_
          refine g_get 48 hC i_Block rfl 2 rfl 3 (by decide) k139 rfl d_Block_makeSymbols_48 ?_
          refine g_iload_n 51 hC (j := 2) (hj := rfl) (hd := d_Block_makeSymbols_51) ?_
          obtain ⟨e11, hf⟩ := gd_some hf
          refine g_iald 52 hC 0 rfl e11 d_Block_makeSymbols_52 ?_
          refine g_iconst 53 hC (1 : Int32) (by decide) d_Block_makeSymbols_53 ?_
          refine g_iadd 54 hC d_Block_makeSymbols_54 ?_
          obtain ⟨e12, hf⟩ := gd_some hf
          refine g_iast 55 hC 3 rfl e12 [(q_a0_ups, .inl (g_K C 0, 2250, .inl f_a0_ups)), (q_a0_list, .inr (8, [.ref r_a0_list_members, .int x_a0_list_count])), (q_a0, .inr (3, [.ref r_a0_told, .int x_a0_toldCount, .ref r_a0_last, .ref q_a0_ups, .ref q_a0_symbols, .int u10.2, .ref r_a0_used, .ref q_a0_list, .int x_a0_origin, .int x_a0_check, .ref r_a0_groupTables, .int x_a0_groupCount, .int x_a0_tableCount, .ref r_a0_tables])), (q_a0_symbols, .inl (g_K C 0, 2251, .inl (upd u10.1 u10.2.toNatClampNeg ((f_a0_ups s1.2.1.toNatClampNeg) + (1 : Int32)))))] rfl d_Block_makeSymbols_55 ?_
          refine g_aload_n 56 hC (j := 1) (hj := rfl) (hd := d_Block_makeSymbols_56) ?_
          refine g_dup 57 hC rfl d_Block_makeSymbols_57 ?_
          refine g_get 58 hC i_Block rfl 2 rfl 5 (by decide) k144 rfl d_Block_makeSymbols_58 ?_
          refine g_iconst 61 hC (1 : Int32) (by decide) d_Block_makeSymbols_61 ?_
          refine g_iadd 62 hC d_Block_makeSymbols_62 ?_
          refine g_put 63 hC i_Block rfl 2 rfl 5 (by decide) t_Block tk_Block n_Block k144 rfl rfl rfl (Nat.le_of_ble_eq_true rfl) [(q_a0_ups, .inl (g_K C 0, 2250, .inl f_a0_ups)), (q_a0_list, .inr (8, [.ref r_a0_list_members, .int x_a0_list_count])), (q_a0, .inr (3, [.ref r_a0_told, .int x_a0_toldCount, .ref r_a0_last, .ref q_a0_ups, .ref q_a0_symbols, .int (u10.2 + (1 : Int32)), .ref r_a0_used, .ref q_a0_list, .int x_a0_origin, .int x_a0_check, .ref r_a0_groupTables, .int x_a0_groupCount, .int x_a0_tableCount, .ref r_a0_tables])), (q_a0_symbols, .inl (g_K C 0, 2251, .inl (upd u10.1 u10.2.toNatClampNeg ((f_a0_ups s1.2.1.toNatClampNeg) + (1 : Int32)))))] rfl d_Block_makeSymbols_63 ?_
          exact g_re [2, 0, 3, 1] [1, 0, 2] rfl rfl rfl (J66 (0 : Int32) (u10.2 + (1 : Int32)) (upd u10.1 u10.2.toNatClampNeg ((f_a0_ups s1.2.1.toNatClampNeg) + (1 : Int32))) hf)
        · have hf := it_t c9 hf
          refine g_iinc 26 hC 1 (1 : Int32) [(1, .int (s1.1 + (1 : Int32))), (0, .ref q_a0), (2, .int s1.2.1)] rfl (by decide) (by decide) rfl d_Block_makeSymbols_26 ?_
          refine g_goto 29 hC 66 (by decide) d_Block_makeSymbols_29 ?_
          exact g_re [0, 1, 2, 3] [1, 0, 2] rfl rfl rfl (J66 (s1.1 + (1 : Int32)) s1.2.2.1 s1.2.2.2 hf)) gas
  exact g_re [0, 1, 2, 3] [2, 1, 0] rfl rfl rfl (Gu2 ((0 : Int32), (0 : Int32), (0 : Int32), f_a0_symbols) hu2)
theorem c_Block_makeSymbols (l : Launch) (D : va_G) (K : Nat → ClassId) (q_a0 : Nat) (r_a0_told : Nat) (x_a0_toldCount : Int32) (r_a0_last : Nat) (q_a0_ups : Nat) (q_a0_symbols : Nat) (x_a0_symbolCount : Int32) (r_a0_used : Nat) (q_a0_list : Nat) (x_a0_origin : Int32) (x_a0_check : Int32) (r_a0_groupTables : Nat) (x_a0_groupCount : Int32) (x_a0_tableCount : Int32) (r_a0_tables : Nat) (f_a0_ups : (Nat → Int32)) (f_a0_symbols : (Nat → Int32)) (r_a0_list_members : Nat) (x_a0_list_count : Int32) (out : (Int32 × (Nat → Int32))) (hf : Block_makeSymbols_f x_a0_toldCount f_a0_ups f_a0_symbols x_a0_list_count = some out) : Cv l D K y_Block_makeSymbols (g_wd y_Block_makeSymbols b_Block_makeSymbols 3 none) { frames := 1, cells := 0, slots := 0, locals := 22 } [.ref q_a0] [(q_a0, .inr (3, [.ref r_a0_told, .int x_a0_toldCount, .ref r_a0_last, .ref q_a0_ups, .ref q_a0_symbols, .int x_a0_symbolCount, .ref r_a0_used, .ref q_a0_list, .int x_a0_origin, .int x_a0_check, .ref r_a0_groupTables, .int x_a0_groupCount, .int x_a0_tableCount, .ref r_a0_tables])), (q_a0_ups, .inl (K 0, 2250, .inl f_a0_ups)), (q_a0_symbols, .inl (K 0, 2251, .inl f_a0_symbols)), (q_a0_list, .inr (8, [.ref r_a0_list_members, .int x_a0_list_count]))] (fun (x : Unit) => [(q_a0, .inr (3, [.ref r_a0_told, .int x_a0_toldCount, .ref r_a0_last, .ref q_a0_ups, .ref q_a0_symbols, .int out.1, .ref r_a0_used, .ref q_a0_list, .int x_a0_origin, .int x_a0_check, .ref r_a0_groupTables, .int x_a0_groupCount, .int x_a0_tableCount, .ref r_a0_tables])), (q_a0_ups, .inl (K 0, 2250, .inl f_a0_ups)), (q_a0_symbols, .inl (K 0, 2251, .inl out.2)), (q_a0_list, .inr (8, [.ref r_a0_list_members, .int x_a0_list_count]))]) := mk_v (by decide) (Nat.le_of_ble_eq_true rfl) (fun p e s m below meth c A Q hC kr => m_Block_makeSymbols hC q_a0 r_a0_told x_a0_toldCount r_a0_last q_a0_ups q_a0_symbols x_a0_symbolCount r_a0_used q_a0_list x_a0_origin x_a0_check r_a0_groupTables x_a0_groupCount x_a0_tableCount r_a0_tables f_a0_ups f_a0_symbols r_a0_list_members x_a0_list_count out hf (fun x o9 pc lv ho => by subst ho; exact kr x pc lv))
abbrev b_Coder_tablesFor : ByteArray := prog_8_method_3_code
def y_Coder_tablesFor : MethodName := ⟨R_Coder, "tablesFor", "(I)I"⟩
theorem d_Coder_tablesFor_0 : decode b_Coder_tablesFor 0 = .ok (.iload_n 0, 1) := by decide +kernel
theorem d_Coder_tablesFor_1 : decode b_Coder_tablesFor 1 = .ok (.sipush 200, 3) := by decide +kernel
theorem d_Coder_tablesFor_4 : decode b_Coder_tablesFor 4 = .ok (.if_icmp .ge 5, 3) := by decide +kernel
theorem d_Coder_tablesFor_7 : decode b_Coder_tablesFor 7 = .ok (.iconst 2, 1) := by decide +kernel
theorem d_Coder_tablesFor_8 : decode b_Coder_tablesFor 8 = .ok (.ireturn, 1) := by decide +kernel
theorem d_Coder_tablesFor_9 : decode b_Coder_tablesFor 9 = .ok (.iload_n 0, 1) := by decide +kernel
theorem d_Coder_tablesFor_10 : decode b_Coder_tablesFor 10 = .ok (.sipush 600, 3) := by decide +kernel
theorem d_Coder_tablesFor_13 : decode b_Coder_tablesFor 13 = .ok (.if_icmp .ge 5, 3) := by decide +kernel
theorem d_Coder_tablesFor_16 : decode b_Coder_tablesFor 16 = .ok (.iconst 3, 1) := by decide +kernel
theorem d_Coder_tablesFor_17 : decode b_Coder_tablesFor 17 = .ok (.ireturn, 1) := by decide +kernel
theorem d_Coder_tablesFor_18 : decode b_Coder_tablesFor 18 = .ok (.iload_n 0, 1) := by decide +kernel
theorem d_Coder_tablesFor_19 : decode b_Coder_tablesFor 19 = .ok (.sipush 1200, 3) := by decide +kernel
theorem d_Coder_tablesFor_22 : decode b_Coder_tablesFor 22 = .ok (.if_icmp .ge 5, 3) := by decide +kernel
theorem d_Coder_tablesFor_25 : decode b_Coder_tablesFor 25 = .ok (.iconst 4, 1) := by decide +kernel
theorem d_Coder_tablesFor_26 : decode b_Coder_tablesFor 26 = .ok (.ireturn, 1) := by decide +kernel
theorem d_Coder_tablesFor_27 : decode b_Coder_tablesFor 27 = .ok (.iload_n 0, 1) := by decide +kernel
theorem d_Coder_tablesFor_28 : decode b_Coder_tablesFor 28 = .ok (.sipush 2400, 3) := by decide +kernel
theorem d_Coder_tablesFor_31 : decode b_Coder_tablesFor 31 = .ok (.if_icmp .ge 7, 3) := by decide +kernel
theorem d_Coder_tablesFor_34 : decode b_Coder_tablesFor 34 = .ok (.iconst 5, 1) := by decide +kernel
theorem d_Coder_tablesFor_35 : decode b_Coder_tablesFor 35 = .ok (.goto 5, 3) := by decide +kernel
theorem d_Coder_tablesFor_38 : decode b_Coder_tablesFor 38 = .ok (.bipush 6, 2) := by decide +kernel
theorem d_Coder_tablesFor_40 : decode b_Coder_tablesFor 40 = .ok (.ireturn, 1) := by decide +kernel
set_option maxRecDepth 100000 in
set_option maxHeartbeats 4000000 in
theorem m_Coder_tablesFor {C : gT} (hC : gOk C b_Coder_tablesFor R_Coder { frames := 0, cells := 0, slots := 0, locals := 0 } 1) (p0 : Int32) (out : Int32) (hf : Coder_tablesFor_f p0 = some out) (kr : ∀ (x : Unit) (o9 : Int32) (pc : Nat) (lv : List (Nat × Value)), o9 = out → decode b_Coder_tablesFor pc = .ok (.ireturn, 1) → narrow .int (.int o9) = .int o9 → gAt C 0 0 [] lv pc [.int o9]) : gAt C 0 0 [] [(0, .int p0)] 0 [] := by
  unfold Coder_tablesFor_f at hf
  have J40 : ∀ (j40_0 : Int32), Coder_tablesFor_J40 j40_0 = some out → gAt C 0 0 [] [] 40 [.int j40_0] := by
    intro j40_0 hf
    unfold Coder_tablesFor_J40 at hf
    exact kr () j40_0 40 [] (Option.some.inj hf) d_Coder_tablesFor_40 rfl
  refine g_iload_n 0 hC (j := 0) (hj := rfl) (hd := d_Coder_tablesFor_0) ?_
  refine g_sipush 1 hC (200 : Int32) (by decide) d_Coder_tablesFor_1 ?_
  refine g_icmp_ge 4 hC 9 (by decide) d_Coder_tablesFor_4 (fun c1 => ?_) (fun c1 => ?_)
  · have hf := it_t c1 hf
    refine g_iload_n 9 hC (j := 0) (hj := rfl) (hd := d_Coder_tablesFor_9) ?_
    refine g_sipush 10 hC (600 : Int32) (by decide) d_Coder_tablesFor_10 ?_
    refine g_icmp_ge 13 hC 18 (by decide) d_Coder_tablesFor_13 (fun c2 => ?_) (fun c2 => ?_)
    · have hf := it_t c2 hf
      refine g_iload_n 18 hC (j := 0) (hj := rfl) (hd := d_Coder_tablesFor_18) ?_
      refine g_sipush 19 hC (1200 : Int32) (by decide) d_Coder_tablesFor_19 ?_
      refine g_icmp_ge 22 hC 27 (by decide) d_Coder_tablesFor_22 (fun c3 => ?_) (fun c3 => ?_)
      · have hf := it_t c3 hf
        refine g_iload_n 27 hC (j := 0) (hj := rfl) (hd := d_Coder_tablesFor_27) ?_
        refine g_sipush 28 hC (2400 : Int32) (by decide) d_Coder_tablesFor_28 ?_
        refine g_icmp_ge 31 hC 38 (by decide) d_Coder_tablesFor_31 (fun c4 => ?_) (fun c4 => ?_)
        · have hf := it_t c4 hf
          refine g_bipush 38 hC (6 : Int32) (by decide) d_Coder_tablesFor_38 ?_
          exact g_re [] [] rfl rfl rfl (J40 (6 : Int32) hf)
        · have hf := it_f c4 hf
          refine g_iconst 34 hC (5 : Int32) (by decide) d_Coder_tablesFor_34 ?_
          refine g_goto 35 hC 40 (by decide) d_Coder_tablesFor_35 ?_
          exact g_re [] [] rfl rfl rfl (J40 (5 : Int32) hf)
      · have hf := it_f c3 hf
        refine g_iconst 25 hC (4 : Int32) (by decide) d_Coder_tablesFor_25 ?_
        exact g_re [] [] rfl rfl rfl (kr () (4 : Int32) 26 [] (Option.some.inj hf) d_Coder_tablesFor_26 rfl)
    · have hf := it_f c2 hf
      refine g_iconst 16 hC (3 : Int32) (by decide) d_Coder_tablesFor_16 ?_
      exact g_re [] [] rfl rfl rfl (kr () (3 : Int32) 17 [] (Option.some.inj hf) d_Coder_tablesFor_17 rfl)
  · have hf := it_f c1 hf
    refine g_iconst 7 hC (2 : Int32) (by decide) d_Coder_tablesFor_7 ?_
    exact g_re [] [] rfl rfl rfl (kr () (2 : Int32) 8 [] (Option.some.inj hf) d_Coder_tablesFor_8 rfl)
theorem c_Coder_tablesFor (l : Launch) (D : va_G) (K : Nat → ClassId) (p0 : Int32) (out : Int32) (hf : Coder_tablesFor_f p0 = some out) : Ci l D K y_Coder_tablesFor (g_wd y_Coder_tablesFor b_Coder_tablesFor 1 (some .int)) { frames := 0, cells := 0, slots := 0, locals := 0 } [.int p0] [] (fun (x : Unit) => []) out := mk_i (by decide) (Nat.le_of_ble_eq_true rfl) (fun p e s m below meth c A Q hC kr => m_Coder_tablesFor hC p0 out hf (fun x o9 pc lv ho => by subst ho; exact kr x pc lv))
abbrev b_Coder_endOf : ByteArray := prog_8_method_4_code
def y_Coder_endOf : MethodName := ⟨R_Coder, "endOf", "(LRotationPress$Block;I)I"⟩
theorem d_Coder_endOf_0 : decode b_Coder_endOf 0 = .ok (.aload_n 0, 1) := by decide +kernel
theorem d_Coder_endOf_1 : decode b_Coder_endOf 1 = .ok (.getfield 39, 3) := by decide +kernel
theorem d_Coder_endOf_4 : decode b_Coder_endOf 4 = .ok (.iload_n 1, 1) := by decide +kernel
theorem d_Coder_endOf_5 : decode b_Coder_endOf 5 = .ok (.iconst 1, 1) := by decide +kernel
theorem d_Coder_endOf_6 : decode b_Coder_endOf 6 = .ok (.iadd, 1) := by decide +kernel
theorem d_Coder_endOf_7 : decode b_Coder_endOf 7 = .ok (.bipush 50, 2) := by decide +kernel
theorem d_Coder_endOf_9 : decode b_Coder_endOf 9 = .ok (.imul, 1) := by decide +kernel
theorem d_Coder_endOf_10 : decode b_Coder_endOf 10 = .ok (.invokestatic 83, 3) := by decide +kernel
theorem d_Coder_endOf_13 : decode b_Coder_endOf 13 = .ok (.ireturn, 1) := by decide +kernel
theorem k143 : (Jvm.Cond.fieldLink "RotationPress$Coder" (39 : Nat) "RotationPress$Block" "symbolCount" "I") ∈ g_tbl := List.mem_filter.mpr ⟨List.mem_append_right (k2_sels lw_privs) (List.mem_append_left _ (List.mem_of_getElem? (l := tables_1_1) (i := 143) rfl)), rfl⟩
theorem k995 : (Jvm.Cond.methodLink "RotationPress$Coder" (83 : Nat) ({ cls := "java/lang/Math", name := "min", desc := "(II)I" } : Jvm.MethodName)) ∈ g_tbl := List.mem_filter.mpr ⟨List.mem_append_right (k2_sels lw_privs) (List.mem_append_right _ (List.mem_append_right _ (List.mem_append_right _ (List.mem_append_right _ (List.mem_append_left _ (List.mem_of_getElem? (l := tables_1_5) (i := 35) rfl)))))), rfl⟩
theorem k544 : (Jvm.Cond.static ({ cls := "java/lang/Math", name := "min", desc := "(II)I" } : Jvm.MethodName)) ∈ g_tbl := List.mem_filter.mpr ⟨List.mem_append_right (k2_sels lw_privs) (List.mem_append_right _ (List.mem_append_right _ (List.mem_append_left _ (List.mem_of_getElem? (l := tables_1_3) (i := 64) rfl)))), rfl⟩
theorem k3 : (Jvm.Cond.initialized "java/lang/Math") ∈ g_tbl := List.mem_filter.mpr ⟨List.mem_append_right (k2_sels lw_privs) (List.mem_append_left _ (List.mem_of_getElem? (l := tables_1_1) (i := 3) rfl)), rfl⟩
theorem k545 : (Jvm.Cond.code ({ cls := "java/lang/Math", name := "min", desc := "(II)I" } : Jvm.MethodName) prog_23_method_69_code (2 : Nat) (Option.some Jvm.ClassFile.FieldType.int)) ∈ g_tbl := List.mem_filter.mpr ⟨List.mem_append_right (k2_sels lw_privs) (List.mem_append_right _ (List.mem_append_right _ (List.mem_append_left _ (List.mem_of_getElem? (l := tables_1_3) (i := 65) rfl)))), rfl⟩
set_option maxRecDepth 100000 in
set_option maxHeartbeats 4000000 in
theorem m_Coder_endOf {C : gT} (hC : gOk C b_Coder_endOf R_Coder { frames := 1, cells := 0, slots := 0, locals := 21 } 2) (q_a0 : Nat) (r_a0_told : Nat) (x_a0_toldCount : Int32) (r_a0_last : Nat) (r_a0_ups : Nat) (r_a0_symbols : Nat) (x_a0_symbolCount : Int32) (r_a0_used : Nat) (r_a0_list : Nat) (x_a0_origin : Int32) (x_a0_check : Int32) (r_a0_groupTables : Nat) (x_a0_groupCount : Int32) (x_a0_tableCount : Int32) (r_a0_tables : Nat) (p1 : Int32) (out : Int32) (hf : Coder_endOf_f x_a0_symbolCount p1 = some out) (kr : ∀ (x : Unit) (o9 : Int32) (pc : Nat) (lv : List (Nat × Value)), o9 = out → decode b_Coder_endOf pc = .ok (.ireturn, 1) → narrow .int (.int o9) = .int o9 → gAt C 0 0 [(q_a0, .inr (3, [.ref r_a0_told, .int x_a0_toldCount, .ref r_a0_last, .ref r_a0_ups, .ref r_a0_symbols, .int x_a0_symbolCount, .ref r_a0_used, .ref r_a0_list, .int x_a0_origin, .int x_a0_check, .ref r_a0_groupTables, .int x_a0_groupCount, .int x_a0_tableCount, .ref r_a0_tables]))] lv pc [.int o9]) : gAt C 0 0 [(q_a0, .inr (3, [.ref r_a0_told, .int x_a0_toldCount, .ref r_a0_last, .ref r_a0_ups, .ref r_a0_symbols, .int x_a0_symbolCount, .ref r_a0_used, .ref r_a0_list, .int x_a0_origin, .int x_a0_check, .ref r_a0_groupTables, .int x_a0_groupCount, .int x_a0_tableCount, .ref r_a0_tables]))] [(0, .ref q_a0), (1, .int p1)] 0 [] := by
  unfold Coder_endOf_f at hf
  refine g_aload_n 0 hC (j := 0) (hj := rfl) (hd := d_Coder_endOf_0) ?_
  refine g_get 1 hC i_Block rfl 0 rfl 5 (by decide) k143 rfl d_Coder_endOf_1 ?_
  refine g_iload_n 4 hC (j := 1) (hj := rfl) (hd := d_Coder_endOf_4) ?_
  refine g_iconst 5 hC (1 : Int32) (by decide) d_Coder_endOf_5 ?_
  refine g_iadd 6 hC d_Coder_endOf_6 ?_
  refine g_bipush 7 hC (50 : Int32) (by decide) d_Coder_endOf_7 ?_
  refine g_imul 9 hC d_Coder_endOf_9 ?_
  refine g_mmin 10 hC k995 k544 k3 k545 (by decide) (by decide) (by decide) (by decide) d_Coder_endOf_10 ?_
  exact g_re [0] [] rfl rfl rfl (kr () (jmin x_a0_symbolCount ((p1 + (1 : Int32)) * (50 : Int32))) 13 [] (Option.some.inj hf) d_Coder_endOf_13 rfl)
theorem c_Coder_endOf (l : Launch) (D : va_G) (K : Nat → ClassId) (q_a0 : Nat) (r_a0_told : Nat) (x_a0_toldCount : Int32) (r_a0_last : Nat) (r_a0_ups : Nat) (r_a0_symbols : Nat) (x_a0_symbolCount : Int32) (r_a0_used : Nat) (r_a0_list : Nat) (x_a0_origin : Int32) (x_a0_check : Int32) (r_a0_groupTables : Nat) (x_a0_groupCount : Int32) (x_a0_tableCount : Int32) (r_a0_tables : Nat) (p1 : Int32) (out : Int32) (hf : Coder_endOf_f x_a0_symbolCount p1 = some out) : Ci l D K y_Coder_endOf (g_wd y_Coder_endOf b_Coder_endOf 2 (some .int)) { frames := 1, cells := 0, slots := 0, locals := 21 } [.ref q_a0, .int p1] [(q_a0, .inr (3, [.ref r_a0_told, .int x_a0_toldCount, .ref r_a0_last, .ref r_a0_ups, .ref r_a0_symbols, .int x_a0_symbolCount, .ref r_a0_used, .ref r_a0_list, .int x_a0_origin, .int x_a0_check, .ref r_a0_groupTables, .int x_a0_groupCount, .int x_a0_tableCount, .ref r_a0_tables]))] (fun (x : Unit) => [(q_a0, .inr (3, [.ref r_a0_told, .int x_a0_toldCount, .ref r_a0_last, .ref r_a0_ups, .ref r_a0_symbols, .int x_a0_symbolCount, .ref r_a0_used, .ref r_a0_list, .int x_a0_origin, .int x_a0_check, .ref r_a0_groupTables, .int x_a0_groupCount, .int x_a0_tableCount, .ref r_a0_tables]))]) out := mk_i (by decide) (Nat.le_of_ble_eq_true rfl) (fun p e s m below meth c A Q hC kr => m_Coder_endOf hC q_a0 r_a0_told x_a0_toldCount r_a0_last r_a0_ups r_a0_symbols x_a0_symbolCount r_a0_used r_a0_list x_a0_origin x_a0_check r_a0_groupTables x_a0_groupCount x_a0_tableCount r_a0_tables p1 out hf (fun x o9 pc lv ho => by subst ho; exact kr x pc lv))
