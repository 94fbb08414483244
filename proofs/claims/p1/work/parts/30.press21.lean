abbrev b_Packer_addUp : ByteArray := prog_10_method_3_code
def y_Packer_addUp : MethodName := ⟨R_Packer, "addUp", "()V"⟩
theorem d_Packer_addUp_0 : decode b_Packer_addUp 0 = .ok (.aload_n 0, 1) := by decide +kernel
theorem d_Packer_addUp_1 : decode b_Packer_addUp 1 = .ok (.dup, 1) := by decide +kernel
theorem d_Packer_addUp_2 : decode b_Packer_addUp 2 = .ok (.getfield 52, 3) := by decide +kernel
theorem d_Packer_addUp_5 : decode b_Packer_addUp 5 = .ok (.iconst 1, 1) := by decide +kernel
theorem d_Packer_addUp_6 : decode b_Packer_addUp 6 = .ok (.iadd, 1) := by decide +kernel
theorem d_Packer_addUp_7 : decode b_Packer_addUp 7 = .ok (.putfield 52, 3) := by decide +kernel
theorem d_Packer_addUp_10 : decode b_Packer_addUp 10 = .ok (.aload_n 0, 1) := by decide +kernel
theorem d_Packer_addUp_11 : decode b_Packer_addUp 11 = .ok (.dup, 1) := by decide +kernel
theorem d_Packer_addUp_12 : decode b_Packer_addUp 12 = .ok (.getfield 56, 3) := by decide +kernel
theorem d_Packer_addUp_15 : decode b_Packer_addUp 15 = .ok (.aload_n 0, 1) := by decide +kernel
theorem d_Packer_addUp_16 : decode b_Packer_addUp 16 = .ok (.getfield 18, 3) := by decide +kernel
theorem d_Packer_addUp_19 : decode b_Packer_addUp 19 = .ok (.getfield 82, 3) := by decide +kernel
theorem d_Packer_addUp_22 : decode b_Packer_addUp 22 = .ok (.iadd, 1) := by decide +kernel
theorem d_Packer_addUp_23 : decode b_Packer_addUp 23 = .ok (.putfield 56, 3) := by decide +kernel
theorem d_Packer_addUp_26 : decode b_Packer_addUp 26 = .ok (.aload_n 0, 1) := by decide +kernel
theorem d_Packer_addUp_27 : decode b_Packer_addUp 27 = .ok (.dup, 1) := by decide +kernel
theorem d_Packer_addUp_28 : decode b_Packer_addUp 28 = .ok (.getfield 59, 3) := by decide +kernel
theorem d_Packer_addUp_31 : decode b_Packer_addUp 31 = .ok (.aload_n 0, 1) := by decide +kernel
theorem d_Packer_addUp_32 : decode b_Packer_addUp 32 = .ok (.getfield 18, 3) := by decide +kernel
theorem d_Packer_addUp_35 : decode b_Packer_addUp 35 = .ok (.getfield 120, 3) := by decide +kernel
theorem d_Packer_addUp_38 : decode b_Packer_addUp 38 = .ok (.iadd, 1) := by decide +kernel
theorem d_Packer_addUp_39 : decode b_Packer_addUp 39 = .ok (.putfield 59, 3) := by decide +kernel
theorem d_Packer_addUp_42 : decode b_Packer_addUp 42 = .ok (.aload_n 0, 1) := by decide +kernel
theorem d_Packer_addUp_43 : decode b_Packer_addUp 43 = .ok (.dup, 1) := by decide +kernel
theorem d_Packer_addUp_44 : decode b_Packer_addUp 44 = .ok (.getfield 62, 3) := by decide +kernel
theorem d_Packer_addUp_47 : decode b_Packer_addUp 47 = .ok (.aload_n 0, 1) := by decide +kernel
theorem d_Packer_addUp_48 : decode b_Packer_addUp 48 = .ok (.getfield 18, 3) := by decide +kernel
theorem d_Packer_addUp_51 : decode b_Packer_addUp 51 = .ok (.getfield 123, 3) := by decide +kernel
theorem d_Packer_addUp_54 : decode b_Packer_addUp 54 = .ok (.iadd, 1) := by decide +kernel
theorem d_Packer_addUp_55 : decode b_Packer_addUp 55 = .ok (.putfield 62, 3) := by decide +kernel
theorem d_Packer_addUp_58 : decode b_Packer_addUp 58 = .ok (.return_, 1) := by decide +kernel
theorem k285 : (Jvm.Cond.fieldLink "RotationPress$Packer" (52 : Nat) "RotationPress$Packer" "blocks" "I") ∈ g_tbl := List.mem_filter.mpr ⟨List.mem_append_right (k2_sels lw_privs) (List.mem_append_right _ (List.mem_append_left _ (List.mem_of_getElem? (l := tables_1_2) (i := 45) rfl))), rfl⟩
theorem k287 : (Jvm.Cond.fieldLink "RotationPress$Packer" (56 : Nat) "RotationPress$Packer" "toldInAll" "I") ∈ g_tbl := List.mem_filter.mpr ⟨List.mem_append_right (k2_sels lw_privs) (List.mem_append_right _ (List.mem_append_left _ (List.mem_of_getElem? (l := tables_1_2) (i := 47) rfl))), rfl⟩
theorem k283 : (Jvm.Cond.fieldLink "RotationPress$Packer" (18 : Nat) "RotationPress$Packer" "block" "LRotationPress$Block;") ∈ g_tbl := List.mem_filter.mpr ⟨List.mem_append_right (k2_sels lw_privs) (List.mem_append_right _ (List.mem_append_left _ (List.mem_of_getElem? (l := tables_1_2) (i := 43) rfl))), rfl⟩
theorem k136 : (Jvm.Cond.fieldLink "RotationPress$Packer" (82 : Nat) "RotationPress$Block" "toldCount" "I") ∈ g_tbl := List.mem_filter.mpr ⟨List.mem_append_right (k2_sels lw_privs) (List.mem_append_left _ (List.mem_of_getElem? (l := tables_1_1) (i := 136) rfl)), rfl⟩
theorem k288 : (Jvm.Cond.fieldLink "RotationPress$Packer" (59 : Nat) "RotationPress$Packer" "symbolsInAll" "I") ∈ g_tbl := List.mem_filter.mpr ⟨List.mem_append_right (k2_sels lw_privs) (List.mem_append_right _ (List.mem_append_left _ (List.mem_of_getElem? (l := tables_1_2) (i := 48) rfl))), rfl⟩
theorem k145 : (Jvm.Cond.fieldLink "RotationPress$Packer" (120 : Nat) "RotationPress$Block" "symbolCount" "I") ∈ g_tbl := List.mem_filter.mpr ⟨List.mem_append_right (k2_sels lw_privs) (List.mem_append_left _ (List.mem_of_getElem? (l := tables_1_1) (i := 145) rfl)), rfl⟩
theorem k289 : (Jvm.Cond.fieldLink "RotationPress$Packer" (62 : Nat) "RotationPress$Packer" "groupsInAll" "I") ∈ g_tbl := List.mem_filter.mpr ⟨List.mem_append_right (k2_sels lw_privs) (List.mem_append_right _ (List.mem_append_left _ (List.mem_of_getElem? (l := tables_1_2) (i := 49) rfl))), rfl⟩
theorem k162 : (Jvm.Cond.fieldLink "RotationPress$Packer" (123 : Nat) "RotationPress$Block" "groupCount" "I") ∈ g_tbl := List.mem_filter.mpr ⟨List.mem_append_right (k2_sels lw_privs) (List.mem_append_left _ (List.mem_of_getElem? (l := tables_1_1) (i := 162) rfl)), rfl⟩
set_option maxRecDepth 100000 in
set_option maxHeartbeats 4000000 in
theorem m_Packer_addUp {C : gT} (hC : gOk C b_Packer_addUp R_Packer { frames := 0, cells := 0, slots := 0, locals := 0 } 1) (q_a0 : Nat) (r_a0_tape : Nat) (q_a0_block : Nat) (x_a0_blocks : Int32) (x_a0_toldInAll : Int32) (x_a0_symbolsInAll : Int32) (x_a0_groupsInAll : Int32) (r_a0_check : Nat) (r_a0_rotations : Nat) (r_a0_coder : Nat) (r_a0_writer : Nat) (r_a0_block_told : Nat) (x_a0_block_toldCount : Int32) (r_a0_block_last : Nat) (r_a0_block_ups : Nat) (r_a0_block_symbols : Nat) (x_a0_block_symbolCount : Int32) (r_a0_block_used : Nat) (r_a0_block_list : Nat) (x_a0_block_origin : Int32) (x_a0_block_check : Int32) (r_a0_block_groupTables : Nat) (x_a0_block_groupCount : Int32) (x_a0_block_tableCount : Int32) (r_a0_block_tables : Nat) (out : (Int32 × Int32 × Int32 × Int32)) (hf : Packer_addUp_f x_a0_blocks x_a0_toldInAll x_a0_block_toldCount x_a0_symbolsInAll x_a0_block_symbolCount x_a0_groupsInAll x_a0_block_groupCount = some out) (kr : ∀ (x : Unit) (o9 : (Int32 × Int32 × Int32 × Int32)) (pc : Nat) (lv : List (Nat × Value)), o9 = out → decode b_Packer_addUp pc = .ok (.return_, 1) → gAt C 0 0 [(q_a0, .inr (9, [.ref r_a0_tape, .ref q_a0_block, .int o9.1, .int o9.2.1, .int o9.2.2.1, .int o9.2.2.2, .ref r_a0_check, .ref r_a0_rotations, .ref r_a0_coder, .ref r_a0_writer])), (q_a0_block, .inr (3, [.ref r_a0_block_told, .int x_a0_block_toldCount, .ref r_a0_block_last, .ref r_a0_block_ups, .ref r_a0_block_symbols, .int x_a0_block_symbolCount, .ref r_a0_block_used, .ref r_a0_block_list, .int x_a0_block_origin, .int x_a0_block_check, .ref r_a0_block_groupTables, .int x_a0_block_groupCount, .int x_a0_block_tableCount, .ref r_a0_block_tables]))] lv pc []) : gAt C 0 0 [(q_a0, .inr (9, [.ref r_a0_tape, .ref q_a0_block, .int x_a0_blocks, .int x_a0_toldInAll, .int x_a0_symbolsInAll, .int x_a0_groupsInAll, .ref r_a0_check, .ref r_a0_rotations, .ref r_a0_coder, .ref r_a0_writer])), (q_a0_block, .inr (3, [.ref r_a0_block_told, .int x_a0_block_toldCount, .ref r_a0_block_last, .ref r_a0_block_ups, .ref r_a0_block_symbols, .int x_a0_block_symbolCount, .ref r_a0_block_used, .ref r_a0_block_list, .int x_a0_block_origin, .int x_a0_block_check, .ref r_a0_block_groupTables, .int x_a0_block_groupCount, .int x_a0_block_tableCount, .ref r_a0_block_tables]))] [(0, .ref q_a0)] 0 [] := by
  unfold Packer_addUp_f at hf
  refine g_aload_n 0 hC (j := 0) (hj := rfl) (hd := d_Packer_addUp_0) ?_
  refine g_dup 1 hC rfl d_Packer_addUp_1 ?_
  refine g_get 2 hC i_Packer rfl 0 rfl 2 (by decide) k285 rfl d_Packer_addUp_2 ?_
  refine g_iconst 5 hC (1 : Int32) (by decide) d_Packer_addUp_5 ?_
  refine g_iadd 6 hC d_Packer_addUp_6 ?_
  refine g_put 7 hC i_Packer rfl 0 rfl 2 (by decide) t_Packer tk_Packer n_Packer k285 rfl rfl rfl (Nat.le_of_ble_eq_true rfl) [(q_a0, .inr (9, [.ref r_a0_tape, .ref q_a0_block, .int (x_a0_blocks + (1 : Int32)), .int x_a0_toldInAll, .int x_a0_symbolsInAll, .int x_a0_groupsInAll, .ref r_a0_check, .ref r_a0_rotations, .ref r_a0_coder, .ref r_a0_writer])), (q_a0_block, .inr (3, [.ref r_a0_block_told, .int x_a0_block_toldCount, .ref r_a0_block_last, .ref r_a0_block_ups, .ref r_a0_block_symbols, .int x_a0_block_symbolCount, .ref r_a0_block_used, .ref r_a0_block_list, .int x_a0_block_origin, .int x_a0_block_check, .ref r_a0_block_groupTables, .int x_a0_block_groupCount, .int x_a0_block_tableCount, .ref r_a0_block_tables]))] rfl d_Packer_addUp_7 ?_
  refine g_aload_n 10 hC (j := 0) (hj := rfl) (hd := d_Packer_addUp_10) ?_
  refine g_dup 11 hC rfl d_Packer_addUp_11 ?_
  refine g_get 12 hC i_Packer rfl 0 rfl 3 (by decide) k287 rfl d_Packer_addUp_12 ?_
  refine g_aload_n 15 hC (j := 0) (hj := rfl) (hd := d_Packer_addUp_15) ?_
  refine g_get 16 hC i_Packer rfl 0 rfl 1 (by decide) k283 rfl d_Packer_addUp_16 ?_
  refine g_get 19 hC i_Block rfl 1 rfl 1 (by decide) k136 rfl d_Packer_addUp_19 ?_
  refine g_iadd 22 hC d_Packer_addUp_22 ?_
  refine g_put 23 hC i_Packer rfl 0 rfl 3 (by decide) t_Packer tk_Packer n_Packer k287 rfl rfl rfl (Nat.le_of_ble_eq_true rfl) [(q_a0, .inr (9, [.ref r_a0_tape, .ref q_a0_block, .int (x_a0_blocks + (1 : Int32)), .int (x_a0_toldInAll + x_a0_block_toldCount), .int x_a0_symbolsInAll, .int x_a0_groupsInAll, .ref r_a0_check, .ref r_a0_rotations, .ref r_a0_coder, .ref r_a0_writer])), (q_a0_block, .inr (3, [.ref r_a0_block_told, .int x_a0_block_toldCount, .ref r_a0_block_last, .ref r_a0_block_ups, .ref r_a0_block_symbols, .int x_a0_block_symbolCount, .ref r_a0_block_used, .ref r_a0_block_list, .int x_a0_block_origin, .int x_a0_block_check, .ref r_a0_block_groupTables, .int x_a0_block_groupCount, .int x_a0_block_tableCount, .ref r_a0_block_tables]))] rfl d_Packer_addUp_23 ?_
  refine g_aload_n 26 hC (j := 0) (hj := rfl) (hd := d_Packer_addUp_26) ?_
  refine g_dup 27 hC rfl d_Packer_addUp_27 ?_
  refine g_get 28 hC i_Packer rfl 0 rfl 4 (by decide) k288 rfl d_Packer_addUp_28 ?_
  refine g_aload_n 31 hC (j := 0) (hj := rfl) (hd := d_Packer_addUp_31) ?_
  refine g_get 32 hC i_Packer rfl 0 rfl 1 (by decide) k283 rfl d_Packer_addUp_32 ?_
  refine g_get 35 hC i_Block rfl 1 rfl 5 (by decide) k145 rfl d_Packer_addUp_35 ?_
  refine g_iadd 38 hC d_Packer_addUp_38 ?_
  refine g_put 39 hC i_Packer rfl 0 rfl 4 (by decide) t_Packer tk_Packer n_Packer k288 rfl rfl rfl (Nat.le_of_ble_eq_true rfl) [(q_a0, .inr (9, [.ref r_a0_tape, .ref q_a0_block, .int (x_a0_blocks + (1 : Int32)), .int (x_a0_toldInAll + x_a0_block_toldCount), .int (x_a0_symbolsInAll + x_a0_block_symbolCount), .int x_a0_groupsInAll, .ref r_a0_check, .ref r_a0_rotations, .ref r_a0_coder, .ref r_a0_writer])), (q_a0_block, .inr (3, [.ref r_a0_block_told, .int x_a0_block_toldCount, .ref r_a0_block_last, .ref r_a0_block_ups, .ref r_a0_block_symbols, .int x_a0_block_symbolCount, .ref r_a0_block_used, .ref r_a0_block_list, .int x_a0_block_origin, .int x_a0_block_check, .ref r_a0_block_groupTables, .int x_a0_block_groupCount, .int x_a0_block_tableCount, .ref r_a0_block_tables]))] rfl d_Packer_addUp_39 ?_
  refine g_aload_n 42 hC (j := 0) (hj := rfl) (hd := d_Packer_addUp_42) ?_
  refine g_dup 43 hC rfl d_Packer_addUp_43 ?_
  refine g_get 44 hC i_Packer rfl 0 rfl 5 (by decide) k289 rfl d_Packer_addUp_44 ?_
  refine g_aload_n 47 hC (j := 0) (hj := rfl) (hd := d_Packer_addUp_47) ?_
  refine g_get 48 hC i_Packer rfl 0 rfl 1 (by decide) k283 rfl d_Packer_addUp_48 ?_
  refine g_get 51 hC i_Block rfl 1 rfl 11 (by decide) k162 rfl d_Packer_addUp_51 ?_
  refine g_iadd 54 hC d_Packer_addUp_54 ?_
  refine g_put 55 hC i_Packer rfl 0 rfl 5 (by decide) t_Packer tk_Packer n_Packer k289 rfl rfl rfl (Nat.le_of_ble_eq_true rfl) [(q_a0, .inr (9, [.ref r_a0_tape, .ref q_a0_block, .int (x_a0_blocks + (1 : Int32)), .int (x_a0_toldInAll + x_a0_block_toldCount), .int (x_a0_symbolsInAll + x_a0_block_symbolCount), .int (x_a0_groupsInAll + x_a0_block_groupCount), .ref r_a0_check, .ref r_a0_rotations, .ref r_a0_coder, .ref r_a0_writer])), (q_a0_block, .inr (3, [.ref r_a0_block_told, .int x_a0_block_toldCount, .ref r_a0_block_last, .ref r_a0_block_ups, .ref r_a0_block_symbols, .int x_a0_block_symbolCount, .ref r_a0_block_used, .ref r_a0_block_list, .int x_a0_block_origin, .int x_a0_block_check, .ref r_a0_block_groupTables, .int x_a0_block_groupCount, .int x_a0_block_tableCount, .ref r_a0_block_tables]))] rfl d_Packer_addUp_55 ?_
  exact g_re [0, 1] [] rfl rfl rfl (kr () ((x_a0_blocks + (1 : Int32)), (x_a0_toldInAll + x_a0_block_toldCount), (x_a0_symbolsInAll + x_a0_block_symbolCount), (x_a0_groupsInAll + x_a0_block_groupCount)) 58 [] (Option.some.inj hf) d_Packer_addUp_58)
theorem c_Packer_addUp (l : Launch) (D : va_G) (K : Nat → ClassId) (q_a0 : Nat) (r_a0_tape : Nat) (q_a0_block : Nat) (x_a0_blocks : Int32) (x_a0_toldInAll : Int32) (x_a0_symbolsInAll : Int32) (x_a0_groupsInAll : Int32) (r_a0_check : Nat) (r_a0_rotations : Nat) (r_a0_coder : Nat) (r_a0_writer : Nat) (r_a0_block_told : Nat) (x_a0_block_toldCount : Int32) (r_a0_block_last : Nat) (r_a0_block_ups : Nat) (r_a0_block_symbols : Nat) (x_a0_block_symbolCount : Int32) (r_a0_block_used : Nat) (r_a0_block_list : Nat) (x_a0_block_origin : Int32) (x_a0_block_check : Int32) (r_a0_block_groupTables : Nat) (x_a0_block_groupCount : Int32) (x_a0_block_tableCount : Int32) (r_a0_block_tables : Nat) (out : (Int32 × Int32 × Int32 × Int32)) (hf : Packer_addUp_f x_a0_blocks x_a0_toldInAll x_a0_block_toldCount x_a0_symbolsInAll x_a0_block_symbolCount x_a0_groupsInAll x_a0_block_groupCount = some out) : Cv l D K y_Packer_addUp (g_wd y_Packer_addUp b_Packer_addUp 1 none) { frames := 0, cells := 0, slots := 0, locals := 0 } [.ref q_a0] [(q_a0, .inr (9, [.ref r_a0_tape, .ref q_a0_block, .int x_a0_blocks, .int x_a0_toldInAll, .int x_a0_symbolsInAll, .int x_a0_groupsInAll, .ref r_a0_check, .ref r_a0_rotations, .ref r_a0_coder, .ref r_a0_writer])), (q_a0_block, .inr (3, [.ref r_a0_block_told, .int x_a0_block_toldCount, .ref r_a0_block_last, .ref r_a0_block_ups, .ref r_a0_block_symbols, .int x_a0_block_symbolCount, .ref r_a0_block_used, .ref r_a0_block_list, .int x_a0_block_origin, .int x_a0_block_check, .ref r_a0_block_groupTables, .int x_a0_block_groupCount, .int x_a0_block_tableCount, .ref r_a0_block_tables]))] (fun (x : Unit) => [(q_a0, .inr (9, [.ref r_a0_tape, .ref q_a0_block, .int out.1, .int out.2.1, .int out.2.2.1, .int out.2.2.2, .ref r_a0_check, .ref r_a0_rotations, .ref r_a0_coder, .ref r_a0_writer])), (q_a0_block, .inr (3, [.ref r_a0_block_told, .int x_a0_block_toldCount, .ref r_a0_block_last, .ref r_a0_block_ups, .ref r_a0_block_symbols, .int x_a0_block_symbolCount, .ref r_a0_block_used, .ref r_a0_block_list, .int x_a0_block_origin, .int x_a0_block_check, .ref r_a0_block_groupTables, .int x_a0_block_groupCount, .int x_a0_block_tableCount, .ref r_a0_block_tables]))]) := mk_v (by decide) (Nat.le_of_ble_eq_true rfl) (fun p e s m below meth c A Q hC kr => m_Packer_addUp hC q_a0 r_a0_tape q_a0_block x_a0_blocks x_a0_toldInAll x_a0_symbolsInAll x_a0_groupsInAll r_a0_check r_a0_rotations r_a0_coder r_a0_writer r_a0_block_told x_a0_block_toldCount r_a0_block_last r_a0_block_ups r_a0_block_symbols x_a0_block_symbolCount r_a0_block_used r_a0_block_list x_a0_block_origin x_a0_block_check r_a0_block_groupTables x_a0_block_groupCount x_a0_block_tableCount r_a0_block_tables out hf (fun x o9 pc lv ho => by subst ho; exact kr x pc lv))
abbrev b_Packer_tell : ByteArray := prog_10_method_4_code
def y_Packer_tell : MethodName := ⟨R_Packer, "tell", "(I)I"⟩
theorem d_Packer_tell_0 : decode b_Packer_tell 0 = .ok (.aload_n 0, 1) := by decide +kernel
theorem d_Packer_tell_1 : decode b_Packer_tell 1 = .ok (.getfield 52, 3) := by decide +kernel
theorem d_Packer_tell_4 : decode b_Packer_tell 4 = .ok (.ifCond .ne 5, 3) := by decide +kernel
theorem d_Packer_tell_7 : decode b_Packer_tell 7 = .ok (.iconst 0, 1) := by decide +kernel
theorem d_Packer_tell_8 : decode b_Packer_tell 8 = .ok (.ireturn, 1) := by decide +kernel
theorem d_Packer_tell_9 : decode b_Packer_tell 9 = .ok (.iload_n 1, 1) := by decide +kernel
theorem d_Packer_tell_10 : decode b_Packer_tell 10 = .ok (.tableswitch 89 0 6 #[42, 47, 52, 57, 62, 70, 81], 42) := by decide +kernel
theorem d_Packer_tell_52 : decode b_Packer_tell 52 = .ok (.aload_n 0, 1) := by decide +kernel
theorem d_Packer_tell_53 : decode b_Packer_tell 53 = .ok (.getfield 52, 3) := by decide +kernel
theorem d_Packer_tell_56 : decode b_Packer_tell 56 = .ok (.ireturn, 1) := by decide +kernel
theorem d_Packer_tell_57 : decode b_Packer_tell 57 = .ok (.aload_n 0, 1) := by decide +kernel
theorem d_Packer_tell_58 : decode b_Packer_tell 58 = .ok (.getfield 56, 3) := by decide +kernel
theorem d_Packer_tell_61 : decode b_Packer_tell 61 = .ok (.ireturn, 1) := by decide +kernel
theorem d_Packer_tell_62 : decode b_Packer_tell 62 = .ok (.aload_n 0, 1) := by decide +kernel
theorem d_Packer_tell_63 : decode b_Packer_tell 63 = .ok (.getfield 59, 3) := by decide +kernel
theorem d_Packer_tell_66 : decode b_Packer_tell 66 = .ok (.ireturn, 1) := by decide +kernel
theorem d_Packer_tell_67 : decode b_Packer_tell 67 = .ok (.aload_n 0, 1) := by decide +kernel
theorem d_Packer_tell_68 : decode b_Packer_tell 68 = .ok (.getfield 62, 3) := by decide +kernel
theorem d_Packer_tell_71 : decode b_Packer_tell 71 = .ok (.ireturn, 1) := by decide +kernel
theorem d_Packer_tell_72 : decode b_Packer_tell 72 = .ok (.aload_n 0, 1) := by decide +kernel
theorem d_Packer_tell_73 : decode b_Packer_tell 73 = .ok (.getfield 18, 3) := by decide +kernel
theorem d_Packer_tell_76 : decode b_Packer_tell 76 = .ok (.getfield 92, 3) := by decide +kernel
theorem d_Packer_tell_79 : decode b_Packer_tell 79 = .ok (.ireturn, 1) := by decide +kernel
theorem d_Packer_tell_80 : decode b_Packer_tell 80 = .ok (.aload_n 0, 1) := by decide +kernel
theorem d_Packer_tell_81 : decode b_Packer_tell 81 = .ok (.getfield 18, 3) := by decide +kernel
theorem d_Packer_tell_84 : decode b_Packer_tell 84 = .ok (.getfield 126, 3) := by decide +kernel
theorem d_Packer_tell_87 : decode b_Packer_tell 87 = .ok (.getfield 130, 3) := by decide +kernel
theorem d_Packer_tell_90 : decode b_Packer_tell 90 = .ok (.ireturn, 1) := by decide +kernel
theorem d_Packer_tell_91 : decode b_Packer_tell 91 = .ok (.aload_n 0, 1) := by decide +kernel
theorem d_Packer_tell_92 : decode b_Packer_tell 92 = .ok (.getfield 18, 3) := by decide +kernel
theorem d_Packer_tell_95 : decode b_Packer_tell 95 = .ok (.getfield 133, 3) := by decide +kernel
theorem d_Packer_tell_98 : decode b_Packer_tell 98 = .ok (.ireturn, 1) := by decide +kernel
theorem d_Packer_tell_99 : decode b_Packer_tell 99 = .ok (.aload_n 0, 1) := by decide +kernel
theorem d_Packer_tell_100 : decode b_Packer_tell 100 = .ok (.getfield 18, 3) := by decide +kernel
theorem d_Packer_tell_103 : decode b_Packer_tell 103 = .ok (.getfield 108, 3) := by decide +kernel
theorem d_Packer_tell_106 : decode b_Packer_tell 106 = .ok (.ireturn, 1) := by decide +kernel
theorem k152 : (Jvm.Cond.fieldLink "RotationPress$Packer" (92 : Nat) "RotationPress$Block" "origin" "I") ∈ g_tbl := List.mem_filter.mpr ⟨List.mem_append_right (k2_sels lw_privs) (List.mem_append_left _ (List.mem_of_getElem? (l := tables_1_1) (i := 152) rfl)), rfl⟩
theorem k151 : (Jvm.Cond.fieldLink "RotationPress$Packer" (126 : Nat) "RotationPress$Block" "list" "LRotationPress$FrontList;") ∈ g_tbl := List.mem_filter.mpr ⟨List.mem_append_right (k2_sels lw_privs) (List.mem_append_left _ (List.mem_of_getElem? (l := tables_1_1) (i := 151) rfl)), rfl⟩
theorem k84 : (Jvm.Cond.fieldLink "RotationPress$Packer" (130 : Nat) "RotationPress$FrontList" "count" "I") ∈ g_tbl := List.mem_filter.mpr ⟨List.mem_append_right (k2_sels lw_privs) (List.mem_append_left _ (List.mem_of_getElem? (l := tables_1_1) (i := 84) rfl)), rfl⟩
theorem k166 : (Jvm.Cond.fieldLink "RotationPress$Packer" (133 : Nat) "RotationPress$Block" "tableCount" "I") ∈ g_tbl := List.mem_filter.mpr ⟨List.mem_append_right (k2_sels lw_privs) (List.mem_append_left _ (List.mem_of_getElem? (l := tables_1_1) (i := 166) rfl)), rfl⟩
theorem k154 : (Jvm.Cond.fieldLink "RotationPress$Packer" (108 : Nat) "RotationPress$Block" "check" "I") ∈ g_tbl := List.mem_filter.mpr ⟨List.mem_append_right (k2_sels lw_privs) (List.mem_append_left _ (List.mem_of_getElem? (l := tables_1_1) (i := 154) rfl)), rfl⟩
set_option maxRecDepth 100000 in
set_option maxHeartbeats 4000000 in
theorem m_Packer_tell {C : gT} (hC : gOk C b_Packer_tell R_Packer { frames := 0, cells := 0, slots := 0, locals := 0 } 2) (q_a0 : Nat) (r_a0_tape : Nat) (q_a0_block : Nat) (x_a0_blocks : Int32) (x_a0_toldInAll : Int32) (x_a0_symbolsInAll : Int32) (x_a0_groupsInAll : Int32) (r_a0_check : Nat) (r_a0_rotations : Nat) (r_a0_coder : Nat) (r_a0_writer : Nat) (r_a0_block_told : Nat) (x_a0_block_toldCount : Int32) (r_a0_block_last : Nat) (r_a0_block_ups : Nat) (r_a0_block_symbols : Nat) (x_a0_block_symbolCount : Int32) (r_a0_block_used : Nat) (q_a0_block_list : Nat) (x_a0_block_origin : Int32) (x_a0_block_check : Int32) (r_a0_block_groupTables : Nat) (x_a0_block_groupCount : Int32) (x_a0_block_tableCount : Int32) (r_a0_block_tables : Nat) (r_a0_block_list_members : Nat) (x_a0_block_list_count : Int32) (p1 : Int32) (out : Int32) (hf : Packer_tell_f x_a0_blocks p1 x_a0_toldInAll x_a0_symbolsInAll x_a0_groupsInAll x_a0_block_origin x_a0_block_list_count x_a0_block_tableCount x_a0_block_check = some out) (kr : ∀ (x : Unit) (o9 : Int32) (pc : Nat) (lv : List (Nat × Value)), o9 = out → decode b_Packer_tell pc = .ok (.ireturn, 1) → narrow .int (.int o9) = .int o9 → gAt C 0 0 [(q_a0, .inr (9, [.ref r_a0_tape, .ref q_a0_block, .int x_a0_blocks, .int x_a0_toldInAll, .int x_a0_symbolsInAll, .int x_a0_groupsInAll, .ref r_a0_check, .ref r_a0_rotations, .ref r_a0_coder, .ref r_a0_writer])), (q_a0_block, .inr (3, [.ref r_a0_block_told, .int x_a0_block_toldCount, .ref r_a0_block_last, .ref r_a0_block_ups, .ref r_a0_block_symbols, .int x_a0_block_symbolCount, .ref r_a0_block_used, .ref q_a0_block_list, .int x_a0_block_origin, .int x_a0_block_check, .ref r_a0_block_groupTables, .int x_a0_block_groupCount, .int x_a0_block_tableCount, .ref r_a0_block_tables])), (q_a0_block_list, .inr (8, [.ref r_a0_block_list_members, .int x_a0_block_list_count]))] lv pc [.int o9]) : gAt C 0 0 [(q_a0, .inr (9, [.ref r_a0_tape, .ref q_a0_block, .int x_a0_blocks, .int x_a0_toldInAll, .int x_a0_symbolsInAll, .int x_a0_groupsInAll, .ref r_a0_check, .ref r_a0_rotations, .ref r_a0_coder, .ref r_a0_writer])), (q_a0_block, .inr (3, [.ref r_a0_block_told, .int x_a0_block_toldCount, .ref r_a0_block_last, .ref r_a0_block_ups, .ref r_a0_block_symbols, .int x_a0_block_symbolCount, .ref r_a0_block_used, .ref q_a0_block_list, .int x_a0_block_origin, .int x_a0_block_check, .ref r_a0_block_groupTables, .int x_a0_block_groupCount, .int x_a0_block_tableCount, .ref r_a0_block_tables])), (q_a0_block_list, .inr (8, [.ref r_a0_block_list_members, .int x_a0_block_list_count]))] [(0, .ref q_a0), (1, .int p1)] 0 [] := by
  unfold Packer_tell_f at hf
  refine g_aload_n 0 hC (j := 0) (hj := rfl) (hd := d_Packer_tell_0) ?_
  refine g_get 1 hC i_Packer rfl 0 rfl 2 (by decide) k285 rfl d_Packer_tell_1 ?_
  refine g_if_ne 4 hC 9 (by decide) d_Packer_tell_4 (fun c1 => ?_) (fun c1 => ?_)
  · have hf := it_f c1 hf
    refine g_iload_n 9 hC (j := 1) (hj := rfl) (hd := d_Packer_tell_9) ?_
    by_cases c2 : p1 = (0 : Int32)
    · have hf := it_t c2 hf
      refine g_tabIn 10 hC 42 (0 : Int32) 52 c2 d_Packer_tell_10 (by decide) (by decide) (by decide) (by decide) ?_
      refine g_aload_n 52 hC (j := 0) (hj := rfl) (hd := d_Packer_tell_52) ?_
      refine g_get 53 hC i_Packer rfl 0 rfl 2 (by decide) k285 rfl d_Packer_tell_53 ?_
      exact g_re [0, 1, 2] [] rfl rfl rfl (kr () x_a0_blocks 56 [] (Option.some.inj hf) d_Packer_tell_56 rfl)
    · have hf := it_f c2 hf
      by_cases c3 : p1 = (1 : Int32)
      · have hf := it_t c3 hf
        refine g_tabIn 10 hC 47 (1 : Int32) 57 c3 d_Packer_tell_10 (by decide) (by decide) (by decide) (by decide) ?_
        refine g_aload_n 57 hC (j := 0) (hj := rfl) (hd := d_Packer_tell_57) ?_
        refine g_get 58 hC i_Packer rfl 0 rfl 3 (by decide) k287 rfl d_Packer_tell_58 ?_
        exact g_re [0, 1, 2] [] rfl rfl rfl (kr () x_a0_toldInAll 61 [] (Option.some.inj hf) d_Packer_tell_61 rfl)
      · have hf := it_f c3 hf
        by_cases c4 : p1 = (2 : Int32)
        · have hf := it_t c4 hf
          refine g_tabIn 10 hC 52 (2 : Int32) 62 c4 d_Packer_tell_10 (by decide) (by decide) (by decide) (by decide) ?_
          refine g_aload_n 62 hC (j := 0) (hj := rfl) (hd := d_Packer_tell_62) ?_
          refine g_get 63 hC i_Packer rfl 0 rfl 4 (by decide) k288 rfl d_Packer_tell_63 ?_
          exact g_re [0, 1, 2] [] rfl rfl rfl (kr () x_a0_symbolsInAll 66 [] (Option.some.inj hf) d_Packer_tell_66 rfl)
        · have hf := it_f c4 hf
          by_cases c5 : p1 = (3 : Int32)
          · have hf := it_t c5 hf
            refine g_tabIn 10 hC 57 (3 : Int32) 67 c5 d_Packer_tell_10 (by decide) (by decide) (by decide) (by decide) ?_
            refine g_aload_n 67 hC (j := 0) (hj := rfl) (hd := d_Packer_tell_67) ?_
            refine g_get 68 hC i_Packer rfl 0 rfl 5 (by decide) k289 rfl d_Packer_tell_68 ?_
            exact g_re [0, 1, 2] [] rfl rfl rfl (kr () x_a0_groupsInAll 71 [] (Option.some.inj hf) d_Packer_tell_71 rfl)
          · have hf := it_f c5 hf
            by_cases c6 : p1 = (4 : Int32)
            · have hf := it_t c6 hf
              refine g_tabIn 10 hC 62 (4 : Int32) 72 c6 d_Packer_tell_10 (by decide) (by decide) (by decide) (by decide) ?_
              refine g_aload_n 72 hC (j := 0) (hj := rfl) (hd := d_Packer_tell_72) ?_
              refine g_get 73 hC i_Packer rfl 0 rfl 1 (by decide) k283 rfl d_Packer_tell_73 ?_
              refine g_get 76 hC i_Block rfl 1 rfl 8 (by decide) k152 rfl d_Packer_tell_76 ?_
              exact g_re [0, 1, 2] [] rfl rfl rfl (kr () x_a0_block_origin 79 [] (Option.some.inj hf) d_Packer_tell_79 rfl)
            · have hf := it_f c6 hf
              by_cases c7 : p1 = (5 : Int32)
              · have hf := it_t c7 hf
                refine g_tabIn 10 hC 70 (5 : Int32) 80 c7 d_Packer_tell_10 (by decide) (by decide) (by decide) (by decide) ?_
                refine g_aload_n 80 hC (j := 0) (hj := rfl) (hd := d_Packer_tell_80) ?_
                refine g_get 81 hC i_Packer rfl 0 rfl 1 (by decide) k283 rfl d_Packer_tell_81 ?_
                refine g_get 84 hC i_Block rfl 1 rfl 7 (by decide) k151 rfl d_Packer_tell_84 ?_
                refine g_get 87 hC i_FrontList rfl 2 rfl 1 (by decide) k84 rfl d_Packer_tell_87 ?_
                exact g_re [0, 1, 2] [] rfl rfl rfl (kr () x_a0_block_list_count 90 [] (Option.some.inj hf) d_Packer_tell_90 rfl)
              · have hf := it_f c7 hf
                by_cases c8 : p1 = (6 : Int32)
                · have hf := it_t c8 hf
                  refine g_tabIn 10 hC 81 (6 : Int32) 91 c8 d_Packer_tell_10 (by decide) (by decide) (by decide) (by decide) ?_
                  refine g_aload_n 91 hC (j := 0) (hj := rfl) (hd := d_Packer_tell_91) ?_
                  refine g_get 92 hC i_Packer rfl 0 rfl 1 (by decide) k283 rfl d_Packer_tell_92 ?_
                  refine g_get 95 hC i_Block rfl 1 rfl 12 (by decide) k166 rfl d_Packer_tell_95 ?_
                  exact g_re [0, 1, 2] [] rfl rfl rfl (kr () x_a0_block_tableCount 98 [] (Option.some.inj hf) d_Packer_tell_98 rfl)
                · have hf := it_f c8 hf
                  have nc2 := tne (z := 0) c2 (by decide)
                  have nc3 := tne (z := 1) c3 (by decide)
                  have nc4 := tne (z := 2) c4 (by decide)
                  have nc5 := tne (z := 3) c5 (by decide)
                  have nc6 := tne (z := 4) c6 (by decide)
                  have nc7 := tne (z := 5) c7 (by decide)
                  have nc8 := tne (z := 6) c8 (by decide)
                  refine g_tabOut 10 hC 99 d_Packer_tell_10 (by omega) (by decide) ?_
                  refine g_aload_n 99 hC (j := 0) (hj := rfl) (hd := d_Packer_tell_99) ?_
                  refine g_get 100 hC i_Packer rfl 0 rfl 1 (by decide) k283 rfl d_Packer_tell_100 ?_
                  refine g_get 103 hC i_Block rfl 1 rfl 9 (by decide) k154 rfl d_Packer_tell_103 ?_
                  exact g_re [0, 1, 2] [] rfl rfl rfl (kr () x_a0_block_check 106 [] (Option.some.inj hf) d_Packer_tell_106 rfl)
  · have hf := it_t c1 hf
    refine g_iconst 7 hC (0 : Int32) (by decide) d_Packer_tell_7 ?_
    exact g_re [0, 1, 2] [] rfl rfl rfl (kr () (0 : Int32) 8 [] (Option.some.inj hf) d_Packer_tell_8 rfl)
theorem c_Packer_tell (l : Launch) (D : va_G) (K : Nat → ClassId) (q_a0 : Nat) (r_a0_tape : Nat) (q_a0_block : Nat) (x_a0_blocks : Int32) (x_a0_toldInAll : Int32) (x_a0_symbolsInAll : Int32) (x_a0_groupsInAll : Int32) (r_a0_check : Nat) (r_a0_rotations : Nat) (r_a0_coder : Nat) (r_a0_writer : Nat) (r_a0_block_told : Nat) (x_a0_block_toldCount : Int32) (r_a0_block_last : Nat) (r_a0_block_ups : Nat) (r_a0_block_symbols : Nat) (x_a0_block_symbolCount : Int32) (r_a0_block_used : Nat) (q_a0_block_list : Nat) (x_a0_block_origin : Int32) (x_a0_block_check : Int32) (r_a0_block_groupTables : Nat) (x_a0_block_groupCount : Int32) (x_a0_block_tableCount : Int32) (r_a0_block_tables : Nat) (r_a0_block_list_members : Nat) (x_a0_block_list_count : Int32) (p1 : Int32) (out : Int32) (hf : Packer_tell_f x_a0_blocks p1 x_a0_toldInAll x_a0_symbolsInAll x_a0_groupsInAll x_a0_block_origin x_a0_block_list_count x_a0_block_tableCount x_a0_block_check = some out) : Ci l D K y_Packer_tell (g_wd y_Packer_tell b_Packer_tell 2 (some .int)) { frames := 0, cells := 0, slots := 0, locals := 0 } [.ref q_a0, .int p1] [(q_a0, .inr (9, [.ref r_a0_tape, .ref q_a0_block, .int x_a0_blocks, .int x_a0_toldInAll, .int x_a0_symbolsInAll, .int x_a0_groupsInAll, .ref r_a0_check, .ref r_a0_rotations, .ref r_a0_coder, .ref r_a0_writer])), (q_a0_block, .inr (3, [.ref r_a0_block_told, .int x_a0_block_toldCount, .ref r_a0_block_last, .ref r_a0_block_ups, .ref r_a0_block_symbols, .int x_a0_block_symbolCount, .ref r_a0_block_used, .ref q_a0_block_list, .int x_a0_block_origin, .int x_a0_block_check, .ref r_a0_block_groupTables, .int x_a0_block_groupCount, .int x_a0_block_tableCount, .ref r_a0_block_tables])), (q_a0_block_list, .inr (8, [.ref r_a0_block_list_members, .int x_a0_block_list_count]))] (fun (x : Unit) => [(q_a0, .inr (9, [.ref r_a0_tape, .ref q_a0_block, .int x_a0_blocks, .int x_a0_toldInAll, .int x_a0_symbolsInAll, .int x_a0_groupsInAll, .ref r_a0_check, .ref r_a0_rotations, .ref r_a0_coder, .ref r_a0_writer])), (q_a0_block, .inr (3, [.ref r_a0_block_told, .int x_a0_block_toldCount, .ref r_a0_block_last, .ref r_a0_block_ups, .ref r_a0_block_symbols, .int x_a0_block_symbolCount, .ref r_a0_block_used, .ref q_a0_block_list, .int x_a0_block_origin, .int x_a0_block_check, .ref r_a0_block_groupTables, .int x_a0_block_groupCount, .int x_a0_block_tableCount, .ref r_a0_block_tables])), (q_a0_block_list, .inr (8, [.ref r_a0_block_list_members, .int x_a0_block_list_count]))]) out := mk_i (by decide) (Nat.le_of_ble_eq_true rfl) (fun p e s m below meth c A Q hC kr => m_Packer_tell hC q_a0 r_a0_tape q_a0_block x_a0_blocks x_a0_toldInAll x_a0_symbolsInAll x_a0_groupsInAll r_a0_check r_a0_rotations r_a0_coder r_a0_writer r_a0_block_told x_a0_block_toldCount r_a0_block_last r_a0_block_ups r_a0_block_symbols x_a0_block_symbolCount r_a0_block_used q_a0_block_list x_a0_block_origin x_a0_block_check r_a0_block_groupTables x_a0_block_groupCount x_a0_block_tableCount r_a0_block_tables r_a0_block_list_members x_a0_block_list_count p1 out hf (fun x o9 pc lv ho => by subst ho; exact kr x pc lv))
