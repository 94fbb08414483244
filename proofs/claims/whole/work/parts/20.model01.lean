abbrev b_Model_alter : ByteArray := prog_14_method_6_code
def y_Model_alter : MethodName := ⟨R_Model, "alter", "(II)I"⟩
theorem d_Model_alter_0 : decode b_Model_alter 0 = .ok (.aload_n 0, 1) := by decide +kernel
theorem d_Model_alter_1 : decode b_Model_alter 1 = .ok (.iload_n 1, 1) := by decide +kernel
theorem d_Model_alter_2 : decode b_Model_alter 2 = .ok (.ifCond .lt 11, 3) := by decide +kernel
theorem d_Model_alter_5 : decode b_Model_alter 5 = .ok (.iload_n 1, 1) := by decide +kernel
theorem d_Model_alter_6 : decode b_Model_alter 6 = .ok (.aload_n 0, 1) := by decide +kernel
theorem d_Model_alter_7 : decode b_Model_alter 7 = .ok (.getfield 79, 3) := by decide +kernel
theorem d_Model_alter_10 : decode b_Model_alter 10 = .ok (.if_icmp .lt 7, 3) := by decide +kernel
theorem d_Model_alter_13 : decode b_Model_alter 13 = .ok (.iconst 1, 1) := by decide +kernel
theorem d_Model_alter_14 : decode b_Model_alter 14 = .ok (.goto 4, 3) := by decide +kernel
theorem d_Model_alter_17 : decode b_Model_alter 17 = .ok (.iconst 0, 1) := by decide +kernel
theorem d_Model_alter_18 : decode b_Model_alter 18 = .ok (.iconst 1, 1) := by decide +kernel
theorem d_Model_alter_19 : decode b_Model_alter 19 = .ok (.invokevirtual 82, 3) := by decide +kernel
theorem d_Model_alter_22 : decode b_Model_alter 22 = .ok (.ifCond .ne 27, 3) := by decide +kernel
theorem d_Model_alter_25 : decode b_Model_alter 25 = .ok (.aload_n 0, 1) := by decide +kernel
theorem d_Model_alter_26 : decode b_Model_alter 26 = .ok (.iload_n 2, 1) := by decide +kernel
theorem d_Model_alter_27 : decode b_Model_alter 27 = .ok (.ifCond .lt 10, 3) := by decide +kernel
theorem d_Model_alter_30 : decode b_Model_alter 30 = .ok (.iload_n 2, 1) := by decide +kernel
theorem d_Model_alter_31 : decode b_Model_alter 31 = .ok (.sipush 255, 3) := by decide +kernel
theorem d_Model_alter_34 : decode b_Model_alter 34 = .ok (.if_icmp .le 7, 3) := by decide +kernel
theorem d_Model_alter_37 : decode b_Model_alter 37 = .ok (.iconst 1, 1) := by decide +kernel
theorem d_Model_alter_38 : decode b_Model_alter 38 = .ok (.goto 4, 3) := by decide +kernel
theorem d_Model_alter_41 : decode b_Model_alter 41 = .ok (.iconst 0, 1) := by decide +kernel
theorem d_Model_alter_42 : decode b_Model_alter 42 = .ok (.iconst 2, 1) := by decide +kernel
theorem d_Model_alter_43 : decode b_Model_alter 43 = .ok (.invokevirtual 82, 3) := by decide +kernel
theorem d_Model_alter_46 : decode b_Model_alter 46 = .ok (.ifCond .eq 5, 3) := by decide +kernel
theorem d_Model_alter_49 : decode b_Model_alter 49 = .ok (.iconst 0, 1) := by decide +kernel
theorem d_Model_alter_50 : decode b_Model_alter 50 = .ok (.ireturn, 1) := by decide +kernel
theorem d_Model_alter_51 : decode b_Model_alter 51 = .ok (.aload_n 0, 1) := by decide +kernel
theorem d_Model_alter_52 : decode b_Model_alter 52 = .ok (.getfield 7, 3) := by decide +kernel
theorem d_Model_alter_55 : decode b_Model_alter 55 = .ok (.iload_n 1, 1) := by decide +kernel
theorem d_Model_alter_56 : decode b_Model_alter 56 = .ok (.baload, 1) := by decide +kernel
theorem d_Model_alter_57 : decode b_Model_alter 57 = .ok (.sipush 255, 3) := by decide +kernel
theorem d_Model_alter_60 : decode b_Model_alter 60 = .ok (.iand, 1) := by decide +kernel
theorem d_Model_alter_61 : decode b_Model_alter 61 = .ok (.istore_n 3, 1) := by decide +kernel
theorem d_Model_alter_62 : decode b_Model_alter 62 = .ok (.aload_n 0, 1) := by decide +kernel
theorem d_Model_alter_63 : decode b_Model_alter 63 = .ok (.getfield 7, 3) := by decide +kernel
theorem d_Model_alter_66 : decode b_Model_alter 66 = .ok (.iload_n 1, 1) := by decide +kernel
theorem d_Model_alter_67 : decode b_Model_alter 67 = .ok (.iload_n 2, 1) := by decide +kernel
theorem d_Model_alter_68 : decode b_Model_alter 68 = .ok (.i2b, 1) := by decide +kernel
theorem d_Model_alter_69 : decode b_Model_alter 69 = .ok (.bastore, 1) := by decide +kernel
theorem d_Model_alter_70 : decode b_Model_alter 70 = .ok (.iload_n 3, 1) := by decide +kernel
theorem d_Model_alter_71 : decode b_Model_alter 71 = .ok (.ireturn, 1) := by decide +kernel
noncomputable def Model_alter_J49 (f_a0_tape : (Nat → Int32)) (j49_0 : Int32) : Option (Int32 × Int32 × (Nat → Int32)) :=
  some ((0 : Int32), j49_0, f_a0_tape)
noncomputable def Model_alter_J42 (p1 : Int32) (f_a0_tape : (Nat → Int32)) (p2 : Int32) (j42_0 : Int32) (j42_1 : Int32) : Option (Int32 × Int32 × (Nat → Int32)) :=
  bd (Model_fails_f j42_0 (2 : Int32)) (fun u1 => (if u1.1 = 0 then gd (ix p1 10240) (gd (ix p1 10240) (some (((f_a0_tape p1.toNatClampNeg) &&& (255 : Int32)), u1.2, (upd f_a0_tape p1.toNatClampNeg (vp_nar .byte (vp_nar .byte p2)))))) else Model_alter_J49 f_a0_tape u1.2))
noncomputable def Model_alter_J37 (p1 : Int32) (f_a0_tape : (Nat → Int32)) (p2 : Int32) (j37_0 : Int32) : Option (Int32 × Int32 × (Nat → Int32)) :=
  Model_alter_J42 p1 f_a0_tape p2 (1 : Int32) j37_0
noncomputable def Model_alter_J18 (p2 : Int32) (p1 : Int32) (f_a0_tape : (Nat → Int32)) (j18_0 : Int32) : Option (Int32 × Int32 × (Nat → Int32)) :=
  bd (Model_fails_f j18_0 (1 : Int32)) (fun u5 => (if u5.1 = 0 then (if p2 < 0 then Model_alter_J37 p1 f_a0_tape p2 u5.2 else (if p2 ≤ (255 : Int32) then Model_alter_J42 p1 f_a0_tape p2 (0 : Int32) u5.2 else Model_alter_J37 p1 f_a0_tape p2 u5.2)) else Model_alter_J49 f_a0_tape u5.2))
noncomputable def Model_alter_J13 (p2 : Int32) (p1 : Int32) (f_a0_tape : (Nat → Int32)) : Option (Int32 × Int32 × (Nat → Int32)) :=
  Model_alter_J18 p2 p1 f_a0_tape (1 : Int32)
noncomputable def Model_alter_f (p1 : Int32) (p2 : Int32) (f_a0_tape : (Nat → Int32)) (x_a0_fed : Int32) : Option (Int32 × Int32 × (Nat → Int32)) :=
  (if p1 < 0 then Model_alter_J13 p2 p1 f_a0_tape else (if p1 < x_a0_fed then Model_alter_J18 p2 p1 f_a0_tape (0 : Int32) else Model_alter_J13 p2 p1 f_a0_tape))
set_option maxRecDepth 100000 in
set_option maxHeartbeats 4000000 in
theorem m_Model_alter {C : gT} (hC : gOk C b_Model_alter R_Model { frames := 1, cells := 0, slots := 0, locals := 22 } 4) (q_a0 : Nat) (q_a0_tape : Nat) (x_a0_fed : Int32) (r_a0_out : Nat) (x_a0_size : Int32) (x_a0_thrown : Int32) (x_a0_place : Int32) (r_a0_told : Nat) (x_a0_tells : Int32) (r_a0_order : Nat) (r_a0_merged : Nat) (r_a0_last : Nat) (r_a0_up : Nat) (r_a0_symbols : Nat) (x_a0_many : Int32) (r_a0_list : Nat) (x_a0_listed : Int32) (r_a0_tables : Nat) (x_a0_groups : Int32) (x_a0_tableCount : Int32) (r_a0_lengths : Nat) (r_a0_codes : Nat) (r_a0_weights : Nat) (r_a0_parents : Nat) (r_a0_counts : Nat) (x_a0_origin : Int32) (x_a0_check : Int32) (x_a0_blocks : Int32) (x_a0_fresh : Int32) (x_a0_allTells : Int32) (x_a0_allSymbols : Int32) (x_a0_allGroups : Int32) (x_a0_bit : Int32) (x_a0_checkOfAll : Int32) (x_a0_fault : Int32) (x_a0_total : Int32) (r_a0_rows : Nat) (r_a0_from : Nat) (x_a0_rowCount : Int32) (r_a0_chosen : Nat) (x_a0_chosenCount : Int32) (r_a0_seen : Nat) (r_a0_prefix : Nat) (x_a0_seenTables : Int32) (x_a0_seenBytes : Int32) (x_a0_limit : Int32) (x_a0_count : Int32) (f_a0_tape : (Nat → Int32)) (p1 : Int32) (p2 : Int32) (out : (Int32 × Int32 × (Nat → Int32))) (hf : Model_alter_f p1 p2 f_a0_tape x_a0_fed = some out) (kr : ∀ (x : Unit) (pc : Nat) (lv : List (Nat × Value)), decode b_Model_alter pc = .ok (.ireturn, 1) → narrow .int (.int out.1) = .int out.1 → gAt C 0 0 [(q_a0, .inr (12, [.ref q_a0_tape, .int x_a0_fed, .ref r_a0_out, .int x_a0_size, .int out.2.1, .int x_a0_place, .ref r_a0_told, .int x_a0_tells, .ref r_a0_order, .ref r_a0_merged, .ref r_a0_last, .ref r_a0_up, .ref r_a0_symbols, .int x_a0_many, .ref r_a0_list, .int x_a0_listed, .ref r_a0_tables, .int x_a0_groups, .int x_a0_tableCount, .ref r_a0_lengths, .ref r_a0_codes, .ref r_a0_weights, .ref r_a0_parents, .ref r_a0_counts, .int x_a0_origin, .int x_a0_check, .int x_a0_blocks, .int x_a0_fresh, .int x_a0_allTells, .int x_a0_allSymbols, .int x_a0_allGroups, .int x_a0_bit, .int x_a0_checkOfAll, .int x_a0_fault, .int x_a0_total, .ref r_a0_rows, .ref r_a0_from, .int x_a0_rowCount, .ref r_a0_chosen, .int x_a0_chosenCount, .ref r_a0_seen, .ref r_a0_prefix, .int x_a0_seenTables, .int x_a0_seenBytes, .int x_a0_limit, .int x_a0_count])), (q_a0_tape, .inl (g_K C 1, 10240, .inl out.2.2))] lv pc [.int out.1]) : gAt C 0 0 [(q_a0, .inr (12, [.ref q_a0_tape, .int x_a0_fed, .ref r_a0_out, .int x_a0_size, .int x_a0_thrown, .int x_a0_place, .ref r_a0_told, .int x_a0_tells, .ref r_a0_order, .ref r_a0_merged, .ref r_a0_last, .ref r_a0_up, .ref r_a0_symbols, .int x_a0_many, .ref r_a0_list, .int x_a0_listed, .ref r_a0_tables, .int x_a0_groups, .int x_a0_tableCount, .ref r_a0_lengths, .ref r_a0_codes, .ref r_a0_weights, .ref r_a0_parents, .ref r_a0_counts, .int x_a0_origin, .int x_a0_check, .int x_a0_blocks, .int x_a0_fresh, .int x_a0_allTells, .int x_a0_allSymbols, .int x_a0_allGroups, .int x_a0_bit, .int x_a0_checkOfAll, .int x_a0_fault, .int x_a0_total, .ref r_a0_rows, .ref r_a0_from, .int x_a0_rowCount, .ref r_a0_chosen, .int x_a0_chosenCount, .ref r_a0_seen, .ref r_a0_prefix, .int x_a0_seenTables, .int x_a0_seenBytes, .int x_a0_limit, .int x_a0_count])), (q_a0_tape, .inl (g_K C 1, 10240, .inl f_a0_tape))] [(0, .ref q_a0), (1, .int p1), (2, .int p2)] 0 [] := by
  unfold Model_alter_f at hf
  have J49 : ∀ (j49_0 : Int32), Model_alter_J49 f_a0_tape j49_0 = some out → gAt C 0 0 [(q_a0, .inr (12, [.ref q_a0_tape, .int x_a0_fed, .ref r_a0_out, .int x_a0_size, .int j49_0, .int x_a0_place, .ref r_a0_told, .int x_a0_tells, .ref r_a0_order, .ref r_a0_merged, .ref r_a0_last, .ref r_a0_up, .ref r_a0_symbols, .int x_a0_many, .ref r_a0_list, .int x_a0_listed, .ref r_a0_tables, .int x_a0_groups, .int x_a0_tableCount, .ref r_a0_lengths, .ref r_a0_codes, .ref r_a0_weights, .ref r_a0_parents, .ref r_a0_counts, .int x_a0_origin, .int x_a0_check, .int x_a0_blocks, .int x_a0_fresh, .int x_a0_allTells, .int x_a0_allSymbols, .int x_a0_allGroups, .int x_a0_bit, .int x_a0_checkOfAll, .int x_a0_fault, .int x_a0_total, .ref r_a0_rows, .ref r_a0_from, .int x_a0_rowCount, .ref r_a0_chosen, .int x_a0_chosenCount, .ref r_a0_seen, .ref r_a0_prefix, .int x_a0_seenTables, .int x_a0_seenBytes, .int x_a0_limit, .int x_a0_count])), (q_a0_tape, .inl (g_K C 1, 10240, .inl f_a0_tape))] [] 49 [] := by
    intro j49_0 hf
    unfold Model_alter_J49 at hf
    refine g_iconst 49 hC (0 : Int32) (by decide) d_Model_alter_49 ?_
    obtain rfl := Option.some.inj hf
    exact kr () 50 [] d_Model_alter_50 rfl
  have J42 : ∀ (j42_0 : Int32) (j42_1 : Int32), Model_alter_J42 p1 f_a0_tape p2 j42_0 j42_1 = some out → gAt C 0 0 [(q_a0, .inr (12, [.ref q_a0_tape, .int x_a0_fed, .ref r_a0_out, .int x_a0_size, .int j42_1, .int x_a0_place, .ref r_a0_told, .int x_a0_tells, .ref r_a0_order, .ref r_a0_merged, .ref r_a0_last, .ref r_a0_up, .ref r_a0_symbols, .int x_a0_many, .ref r_a0_list, .int x_a0_listed, .ref r_a0_tables, .int x_a0_groups, .int x_a0_tableCount, .ref r_a0_lengths, .ref r_a0_codes, .ref r_a0_weights, .ref r_a0_parents, .ref r_a0_counts, .int x_a0_origin, .int x_a0_check, .int x_a0_blocks, .int x_a0_fresh, .int x_a0_allTells, .int x_a0_allSymbols, .int x_a0_allGroups, .int x_a0_bit, .int x_a0_checkOfAll, .int x_a0_fault, .int x_a0_total, .ref r_a0_rows, .ref r_a0_from, .int x_a0_rowCount, .ref r_a0_chosen, .int x_a0_chosenCount, .ref r_a0_seen, .ref r_a0_prefix, .int x_a0_seenTables, .int x_a0_seenBytes, .int x_a0_limit, .int x_a0_count])), (q_a0_tape, .inl (g_K C 1, 10240, .inl f_a0_tape))] [(0, .ref q_a0), (1, .int p1), (2, .int p2)] 42 [.int j42_0, .ref q_a0] := by
    intro j42_0 j42_1 hf
    unfold Model_alter_J42 at hf
    refine g_iconst 42 hC (2 : Int32) (by decide) d_Model_alter_42 ?_
    obtain ⟨u1, hu1, hf⟩ := bd_some hf
    refine g_callVi 43 hC (c_Model_fails (g_l C) (g_D C) (g_K C) q_a0 q_a0_tape x_a0_fed r_a0_out x_a0_size j42_1 x_a0_place r_a0_told x_a0_tells r_a0_order r_a0_merged r_a0_last r_a0_up r_a0_symbols x_a0_many r_a0_list x_a0_listed r_a0_tables x_a0_groups x_a0_tableCount r_a0_lengths r_a0_codes r_a0_weights r_a0_parents r_a0_counts x_a0_origin x_a0_check x_a0_blocks x_a0_fresh x_a0_allTells x_a0_allSymbols x_a0_allGroups x_a0_bit x_a0_checkOfAll x_a0_fault x_a0_total r_a0_rows r_a0_from x_a0_rowCount r_a0_chosen x_a0_chosenCount r_a0_seen r_a0_prefix x_a0_seenTables x_a0_seenBytes x_a0_limit x_a0_count j42_0 (2 : Int32) u1 hu1) k1379 k14 k1376 k1378 ks37 2 rfl (by decide +kernel) (by decide) [0] [1] [(q_a0_tape, .inl (g_K C 1, 10240, .inl f_a0_tape))] rfl rfl rfl rfl rfl 0 12 rfl rfl rfl rfl (Nat.le_of_ble_eq_true rfl) ⟨Nat.le_of_ble_eq_true rfl, Nat.le_of_ble_eq_true rfl⟩ (fun (_ : Unit) => [(q_a0_tape, .inl (g_K C 1, 10240, .inl f_a0_tape)), (q_a0, .inr (12, [.ref q_a0_tape, .int x_a0_fed, .ref r_a0_out, .int x_a0_size, .int u1.2, .int x_a0_place, .ref r_a0_told, .int x_a0_tells, .ref r_a0_order, .ref r_a0_merged, .ref r_a0_last, .ref r_a0_up, .ref r_a0_symbols, .int x_a0_many, .ref r_a0_list, .int x_a0_listed, .ref r_a0_tables, .int x_a0_groups, .int x_a0_tableCount, .ref r_a0_lengths, .ref r_a0_codes, .ref r_a0_weights, .ref r_a0_parents, .ref r_a0_counts, .int x_a0_origin, .int x_a0_check, .int x_a0_blocks, .int x_a0_fresh, .int x_a0_allTells, .int x_a0_allSymbols, .int x_a0_allGroups, .int x_a0_bit, .int x_a0_checkOfAll, .int x_a0_fault, .int x_a0_total, .ref r_a0_rows, .ref r_a0_from, .int x_a0_rowCount, .ref r_a0_chosen, .int x_a0_chosenCount, .ref r_a0_seen, .ref r_a0_prefix, .int x_a0_seenTables, .int x_a0_seenBytes, .int x_a0_limit, .int x_a0_count]))]) (fun _ => rfl) d_Model_alter_43 0 0 rfl rfl (fun _ => ?_)
    refine g_if_eq 46 hC 51 (by decide) d_Model_alter_46 (fun c2 => ?_) (fun c2 => ?_)
    · have hf := it_t c2 hf
      refine g_aload_n 51 hC (j := 0) (hj := rfl) (hd := d_Model_alter_51) ?_
      refine g_get 52 hC i_Model rfl 1 rfl 0 (by decide) k1229 rfl d_Model_alter_52 ?_
      refine g_iload_n 55 hC (j := 1) (hj := rfl) (hd := d_Model_alter_55) ?_
      obtain ⟨e3, hf⟩ := gd_some hf
      refine g_bald 56 hC 0 rfl e3 d_Model_alter_56 ?_
      refine g_sipush 57 hC (255 : Int32) (by decide) d_Model_alter_57 ?_
      refine g_iand 60 hC d_Model_alter_60 ?_
      refine g_istore_n 61 hC (lv2 := [(3, .int ((f_a0_tape p1.toNatClampNeg) &&& (255 : Int32))), (0, .ref q_a0), (1, .int p1), (2, .int p2)]) (hn := (by decide)) (hl2 := rfl) (hd := d_Model_alter_61) ?_
      refine g_aload_n 62 hC (j := 1) (hj := rfl) (hd := d_Model_alter_62) ?_
      refine g_get 63 hC i_Model rfl 1 rfl 0 (by decide) k1229 rfl d_Model_alter_63 ?_
      refine g_iload_n 66 hC (j := 2) (hj := rfl) (hd := d_Model_alter_66) ?_
      refine g_iload_n 67 hC (j := 3) (hj := rfl) (hd := d_Model_alter_67) ?_
      refine g_i2b 68 hC d_Model_alter_68 ?_
      obtain ⟨e4, hf⟩ := gd_some hf
      refine g_bast 69 hC 0 rfl e4 [(q_a0_tape, .inl (g_K C 1, 10240, .inl (upd f_a0_tape p1.toNatClampNeg (vp_nar .byte (vp_nar .byte p2))))), (q_a0, .inr (12, [.ref q_a0_tape, .int x_a0_fed, .ref r_a0_out, .int x_a0_size, .int u1.2, .int x_a0_place, .ref r_a0_told, .int x_a0_tells, .ref r_a0_order, .ref r_a0_merged, .ref r_a0_last, .ref r_a0_up, .ref r_a0_symbols, .int x_a0_many, .ref r_a0_list, .int x_a0_listed, .ref r_a0_tables, .int x_a0_groups, .int x_a0_tableCount, .ref r_a0_lengths, .ref r_a0_codes, .ref r_a0_weights, .ref r_a0_parents, .ref r_a0_counts, .int x_a0_origin, .int x_a0_check, .int x_a0_blocks, .int x_a0_fresh, .int x_a0_allTells, .int x_a0_allSymbols, .int x_a0_allGroups, .int x_a0_bit, .int x_a0_checkOfAll, .int x_a0_fault, .int x_a0_total, .ref r_a0_rows, .ref r_a0_from, .int x_a0_rowCount, .ref r_a0_chosen, .int x_a0_chosenCount, .ref r_a0_seen, .ref r_a0_prefix, .int x_a0_seenTables, .int x_a0_seenBytes, .int x_a0_limit, .int x_a0_count]))] rfl d_Model_alter_69 ?_
      refine g_iload_n 70 hC (j := 0) (hj := rfl) (hd := d_Model_alter_70) ?_
      obtain rfl := Option.some.inj hf
      exact g_re [1, 0] [] rfl rfl rfl (kr () 71 [] d_Model_alter_71 rfl)
    · have hf := it_f c2 hf
      exact g_re [1, 0] [] rfl rfl rfl (J49 u1.2 hf)
  have J37 : ∀ (j37_0 : Int32), Model_alter_J37 p1 f_a0_tape p2 j37_0 = some out → gAt C 0 0 [(q_a0, .inr (12, [.ref q_a0_tape, .int x_a0_fed, .ref r_a0_out, .int x_a0_size, .int j37_0, .int x_a0_place, .ref r_a0_told, .int x_a0_tells, .ref r_a0_order, .ref r_a0_merged, .ref r_a0_last, .ref r_a0_up, .ref r_a0_symbols, .int x_a0_many, .ref r_a0_list, .int x_a0_listed, .ref r_a0_tables, .int x_a0_groups, .int x_a0_tableCount, .ref r_a0_lengths, .ref r_a0_codes, .ref r_a0_weights, .ref r_a0_parents, .ref r_a0_counts, .int x_a0_origin, .int x_a0_check, .int x_a0_blocks, .int x_a0_fresh, .int x_a0_allTells, .int x_a0_allSymbols, .int x_a0_allGroups, .int x_a0_bit, .int x_a0_checkOfAll, .int x_a0_fault, .int x_a0_total, .ref r_a0_rows, .ref r_a0_from, .int x_a0_rowCount, .ref r_a0_chosen, .int x_a0_chosenCount, .ref r_a0_seen, .ref r_a0_prefix, .int x_a0_seenTables, .int x_a0_seenBytes, .int x_a0_limit, .int x_a0_count])), (q_a0_tape, .inl (g_K C 1, 10240, .inl f_a0_tape))] [(0, .ref q_a0), (1, .int p1), (2, .int p2)] 37 [.ref q_a0] := by
    intro j37_0 hf
    unfold Model_alter_J37 at hf
    refine g_iconst 37 hC (1 : Int32) (by decide) d_Model_alter_37 ?_
    refine g_goto 38 hC 42 (by decide) d_Model_alter_38 ?_
    exact J42 (1 : Int32) j37_0 hf
  have J18 : ∀ (j18_0 : Int32), Model_alter_J18 p2 p1 f_a0_tape j18_0 = some out → gAt C 0 0 [(q_a0, .inr (12, [.ref q_a0_tape, .int x_a0_fed, .ref r_a0_out, .int x_a0_size, .int x_a0_thrown, .int x_a0_place, .ref r_a0_told, .int x_a0_tells, .ref r_a0_order, .ref r_a0_merged, .ref r_a0_last, .ref r_a0_up, .ref r_a0_symbols, .int x_a0_many, .ref r_a0_list, .int x_a0_listed, .ref r_a0_tables, .int x_a0_groups, .int x_a0_tableCount, .ref r_a0_lengths, .ref r_a0_codes, .ref r_a0_weights, .ref r_a0_parents, .ref r_a0_counts, .int x_a0_origin, .int x_a0_check, .int x_a0_blocks, .int x_a0_fresh, .int x_a0_allTells, .int x_a0_allSymbols, .int x_a0_allGroups, .int x_a0_bit, .int x_a0_checkOfAll, .int x_a0_fault, .int x_a0_total, .ref r_a0_rows, .ref r_a0_from, .int x_a0_rowCount, .ref r_a0_chosen, .int x_a0_chosenCount, .ref r_a0_seen, .ref r_a0_prefix, .int x_a0_seenTables, .int x_a0_seenBytes, .int x_a0_limit, .int x_a0_count])), (q_a0_tape, .inl (g_K C 1, 10240, .inl f_a0_tape))] [(0, .ref q_a0), (1, .int p1), (2, .int p2)] 18 [.int j18_0, .ref q_a0] := by
    intro j18_0 hf
    unfold Model_alter_J18 at hf
    refine g_iconst 18 hC (1 : Int32) (by decide) d_Model_alter_18 ?_
    obtain ⟨u5, hu5, hf⟩ := bd_some hf
    refine g_callVi 19 hC (c_Model_fails (g_l C) (g_D C) (g_K C) q_a0 q_a0_tape x_a0_fed r_a0_out x_a0_size x_a0_thrown x_a0_place r_a0_told x_a0_tells r_a0_order r_a0_merged r_a0_last r_a0_up r_a0_symbols x_a0_many r_a0_list x_a0_listed r_a0_tables x_a0_groups x_a0_tableCount r_a0_lengths r_a0_codes r_a0_weights r_a0_parents r_a0_counts x_a0_origin x_a0_check x_a0_blocks x_a0_fresh x_a0_allTells x_a0_allSymbols x_a0_allGroups x_a0_bit x_a0_checkOfAll x_a0_fault x_a0_total r_a0_rows r_a0_from x_a0_rowCount r_a0_chosen x_a0_chosenCount r_a0_seen r_a0_prefix x_a0_seenTables x_a0_seenBytes x_a0_limit x_a0_count j18_0 (1 : Int32) u5 hu5) k1379 k14 k1376 k1378 ks37 2 rfl (by decide +kernel) (by decide) [0] [1] [(q_a0_tape, .inl (g_K C 1, 10240, .inl f_a0_tape))] rfl rfl rfl rfl rfl 0 12 rfl rfl rfl rfl (Nat.le_of_ble_eq_true rfl) ⟨Nat.le_of_ble_eq_true rfl, Nat.le_of_ble_eq_true rfl⟩ (fun (_ : Unit) => [(q_a0_tape, .inl (g_K C 1, 10240, .inl f_a0_tape)), (q_a0, .inr (12, [.ref q_a0_tape, .int x_a0_fed, .ref r_a0_out, .int x_a0_size, .int u5.2, .int x_a0_place, .ref r_a0_told, .int x_a0_tells, .ref r_a0_order, .ref r_a0_merged, .ref r_a0_last, .ref r_a0_up, .ref r_a0_symbols, .int x_a0_many, .ref r_a0_list, .int x_a0_listed, .ref r_a0_tables, .int x_a0_groups, .int x_a0_tableCount, .ref r_a0_lengths, .ref r_a0_codes, .ref r_a0_weights, .ref r_a0_parents, .ref r_a0_counts, .int x_a0_origin, .int x_a0_check, .int x_a0_blocks, .int x_a0_fresh, .int x_a0_allTells, .int x_a0_allSymbols, .int x_a0_allGroups, .int x_a0_bit, .int x_a0_checkOfAll, .int x_a0_fault, .int x_a0_total, .ref r_a0_rows, .ref r_a0_from, .int x_a0_rowCount, .ref r_a0_chosen, .int x_a0_chosenCount, .ref r_a0_seen, .ref r_a0_prefix, .int x_a0_seenTables, .int x_a0_seenBytes, .int x_a0_limit, .int x_a0_count]))]) (fun _ => rfl) d_Model_alter_19 0 0 rfl rfl (fun _ => ?_)
    refine g_if_ne 22 hC 49 (by decide) d_Model_alter_22 (fun c6 => ?_) (fun c6 => ?_)
    · have hf := it_f c6 hf
      exact g_re [1, 0] [] rfl rfl rfl (J49 u5.2 hf)
    · have hf := it_t c6 hf
      refine g_aload_n 25 hC (j := 0) (hj := rfl) (hd := d_Model_alter_25) ?_
      refine g_iload_n 26 hC (j := 2) (hj := rfl) (hd := d_Model_alter_26) ?_
      refine g_if_lt 27 hC 37 (by decide) d_Model_alter_27 (fun c7 => ?_) (fun c7 => ?_)
      · have hf := it_t c7 hf
        exact g_re [1, 0] [0, 1, 2] rfl rfl rfl (J37 u5.2 hf)
      · have hf := it_f c7 hf
        refine g_iload_n 30 hC (j := 2) (hj := rfl) (hd := d_Model_alter_30) ?_
        refine g_sipush 31 hC (255 : Int32) (by decide) d_Model_alter_31 ?_
        refine g_icmp_le 34 hC 41 (by decide) d_Model_alter_34 (fun c8 => ?_) (fun c8 => ?_)
        · have hf := it_t c8 hf
          refine g_iconst 41 hC (0 : Int32) (by decide) d_Model_alter_41 ?_
          exact g_re [1, 0] [0, 1, 2] rfl rfl rfl (J42 (0 : Int32) u5.2 hf)
        · have hf := it_f c8 hf
          exact g_re [1, 0] [0, 1, 2] rfl rfl rfl (J37 u5.2 hf)
  have J13 : Model_alter_J13 p2 p1 f_a0_tape = some out → gAt C 0 0 [(q_a0, .inr (12, [.ref q_a0_tape, .int x_a0_fed, .ref r_a0_out, .int x_a0_size, .int x_a0_thrown, .int x_a0_place, .ref r_a0_told, .int x_a0_tells, .ref r_a0_order, .ref r_a0_merged, .ref r_a0_last, .ref r_a0_up, .ref r_a0_symbols, .int x_a0_many, .ref r_a0_list, .int x_a0_listed, .ref r_a0_tables, .int x_a0_groups, .int x_a0_tableCount, .ref r_a0_lengths, .ref r_a0_codes, .ref r_a0_weights, .ref r_a0_parents, .ref r_a0_counts, .int x_a0_origin, .int x_a0_check, .int x_a0_blocks, .int x_a0_fresh, .int x_a0_allTells, .int x_a0_allSymbols, .int x_a0_allGroups, .int x_a0_bit, .int x_a0_checkOfAll, .int x_a0_fault, .int x_a0_total, .ref r_a0_rows, .ref r_a0_from, .int x_a0_rowCount, .ref r_a0_chosen, .int x_a0_chosenCount, .ref r_a0_seen, .ref r_a0_prefix, .int x_a0_seenTables, .int x_a0_seenBytes, .int x_a0_limit, .int x_a0_count])), (q_a0_tape, .inl (g_K C 1, 10240, .inl f_a0_tape))] [(0, .ref q_a0), (1, .int p1), (2, .int p2)] 13 [.ref q_a0] := by
    intro hf
    unfold Model_alter_J13 at hf
    refine g_iconst 13 hC (1 : Int32) (by decide) d_Model_alter_13 ?_
    refine g_goto 14 hC 18 (by decide) d_Model_alter_14 ?_
    exact J18 (1 : Int32) hf
  refine g_aload_n 0 hC (j := 0) (hj := rfl) (hd := d_Model_alter_0) ?_
  refine g_iload_n 1 hC (j := 1) (hj := rfl) (hd := d_Model_alter_1) ?_
  refine g_if_lt 2 hC 13 (by decide) d_Model_alter_2 (fun c9 => ?_) (fun c9 => ?_)
  · have hf := it_t c9 hf
    exact J13 hf
  · have hf := it_f c9 hf
    refine g_iload_n 5 hC (j := 1) (hj := rfl) (hd := d_Model_alter_5) ?_
    refine g_aload_n 6 hC (j := 0) (hj := rfl) (hd := d_Model_alter_6) ?_
    refine g_get 7 hC i_Model rfl 0 rfl 1 (by decide) k1230 rfl d_Model_alter_7 ?_
    refine g_icmp_lt 10 hC 17 (by decide) d_Model_alter_10 (fun c10 => ?_) (fun c10 => ?_)
    · have hf := it_t c10 hf
      refine g_iconst 17 hC (0 : Int32) (by decide) d_Model_alter_17 ?_
      exact J18 (0 : Int32) hf
    · have hf := it_f c10 hf
      exact J13 hf
theorem c_Model_alter (l : Launch) (D : va_G) (K : Nat → ClassId) (q_a0 : Nat) (q_a0_tape : Nat) (x_a0_fed : Int32) (r_a0_out : Nat) (x_a0_size : Int32) (x_a0_thrown : Int32) (x_a0_place : Int32) (r_a0_told : Nat) (x_a0_tells : Int32) (r_a0_order : Nat) (r_a0_merged : Nat) (r_a0_last : Nat) (r_a0_up : Nat) (r_a0_symbols : Nat) (x_a0_many : Int32) (r_a0_list : Nat) (x_a0_listed : Int32) (r_a0_tables : Nat) (x_a0_groups : Int32) (x_a0_tableCount : Int32) (r_a0_lengths : Nat) (r_a0_codes : Nat) (r_a0_weights : Nat) (r_a0_parents : Nat) (r_a0_counts : Nat) (x_a0_origin : Int32) (x_a0_check : Int32) (x_a0_blocks : Int32) (x_a0_fresh : Int32) (x_a0_allTells : Int32) (x_a0_allSymbols : Int32) (x_a0_allGroups : Int32) (x_a0_bit : Int32) (x_a0_checkOfAll : Int32) (x_a0_fault : Int32) (x_a0_total : Int32) (r_a0_rows : Nat) (r_a0_from : Nat) (x_a0_rowCount : Int32) (r_a0_chosen : Nat) (x_a0_chosenCount : Int32) (r_a0_seen : Nat) (r_a0_prefix : Nat) (x_a0_seenTables : Int32) (x_a0_seenBytes : Int32) (x_a0_limit : Int32) (x_a0_count : Int32) (f_a0_tape : (Nat → Int32)) (p1 : Int32) (p2 : Int32) (out : (Int32 × Int32 × (Nat → Int32))) (hf : Model_alter_f p1 p2 f_a0_tape x_a0_fed = some out) : Ci l D K y_Model_alter (g_wd y_Model_alter b_Model_alter 4 (some .int)) { frames := 1, cells := 0, slots := 0, locals := 22 } [.ref q_a0, .int p1, .int p2] [(q_a0, .inr (12, [.ref q_a0_tape, .int x_a0_fed, .ref r_a0_out, .int x_a0_size, .int x_a0_thrown, .int x_a0_place, .ref r_a0_told, .int x_a0_tells, .ref r_a0_order, .ref r_a0_merged, .ref r_a0_last, .ref r_a0_up, .ref r_a0_symbols, .int x_a0_many, .ref r_a0_list, .int x_a0_listed, .ref r_a0_tables, .int x_a0_groups, .int x_a0_tableCount, .ref r_a0_lengths, .ref r_a0_codes, .ref r_a0_weights, .ref r_a0_parents, .ref r_a0_counts, .int x_a0_origin, .int x_a0_check, .int x_a0_blocks, .int x_a0_fresh, .int x_a0_allTells, .int x_a0_allSymbols, .int x_a0_allGroups, .int x_a0_bit, .int x_a0_checkOfAll, .int x_a0_fault, .int x_a0_total, .ref r_a0_rows, .ref r_a0_from, .int x_a0_rowCount, .ref r_a0_chosen, .int x_a0_chosenCount, .ref r_a0_seen, .ref r_a0_prefix, .int x_a0_seenTables, .int x_a0_seenBytes, .int x_a0_limit, .int x_a0_count])), (q_a0_tape, .inl (K 1, 10240, .inl f_a0_tape))] (fun (x : Unit) => [(q_a0, .inr (12, [.ref q_a0_tape, .int x_a0_fed, .ref r_a0_out, .int x_a0_size, .int out.2.1, .int x_a0_place, .ref r_a0_told, .int x_a0_tells, .ref r_a0_order, .ref r_a0_merged, .ref r_a0_last, .ref r_a0_up, .ref r_a0_symbols, .int x_a0_many, .ref r_a0_list, .int x_a0_listed, .ref r_a0_tables, .int x_a0_groups, .int x_a0_tableCount, .ref r_a0_lengths, .ref r_a0_codes, .ref r_a0_weights, .ref r_a0_parents, .ref r_a0_counts, .int x_a0_origin, .int x_a0_check, .int x_a0_blocks, .int x_a0_fresh, .int x_a0_allTells, .int x_a0_allSymbols, .int x_a0_allGroups, .int x_a0_bit, .int x_a0_checkOfAll, .int x_a0_fault, .int x_a0_total, .ref r_a0_rows, .ref r_a0_from, .int x_a0_rowCount, .ref r_a0_chosen, .int x_a0_chosenCount, .ref r_a0_seen, .ref r_a0_prefix, .int x_a0_seenTables, .int x_a0_seenBytes, .int x_a0_limit, .int x_a0_count])), (q_a0_tape, .inl (K 1, 10240, .inl out.2.2))]) out.1 := mk_i (by decide) (Nat.le_of_ble_eq_true rfl) (fun p e s m below meth c A Q hC kr => m_Model_alter hC q_a0 q_a0_tape x_a0_fed r_a0_out x_a0_size x_a0_thrown x_a0_place r_a0_told x_a0_tells r_a0_order r_a0_merged r_a0_last r_a0_up r_a0_symbols x_a0_many r_a0_list x_a0_listed r_a0_tables x_a0_groups x_a0_tableCount r_a0_lengths r_a0_codes r_a0_weights r_a0_parents r_a0_counts x_a0_origin x_a0_check x_a0_blocks x_a0_fresh x_a0_allTells x_a0_allSymbols x_a0_allGroups x_a0_bit x_a0_checkOfAll x_a0_fault x_a0_total r_a0_rows r_a0_from x_a0_rowCount r_a0_chosen x_a0_chosenCount r_a0_seen r_a0_prefix x_a0_seenTables x_a0_seenBytes x_a0_limit x_a0_count f_a0_tape p1 p2 out hf kr)
abbrev b_Model_copy : ByteArray := prog_14_method_7_code
def y_Model_copy : MethodName := ⟨R_Model, "copy", "()I"⟩
theorem d_Model_copy_0 : decode b_Model_copy 0 = .ok (.aload_n 0, 1) := by decide +kernel
theorem d_Model_copy_1 : decode b_Model_copy 1 = .ok (.aload_n 0, 1) := by decide +kernel
theorem d_Model_copy_2 : decode b_Model_copy 2 = .ok (.getfield 86, 3) := by decide +kernel
theorem d_Model_copy_5 : decode b_Model_copy 5 = .ok (.sipush 10240, 3) := by decide +kernel
theorem d_Model_copy_8 : decode b_Model_copy 8 = .ok (.if_icmp .le 7, 3) := by decide +kernel
theorem d_Model_copy_11 : decode b_Model_copy 11 = .ok (.iconst 1, 1) := by decide +kernel
theorem d_Model_copy_12 : decode b_Model_copy 12 = .ok (.goto 4, 3) := by decide +kernel
theorem d_Model_copy_15 : decode b_Model_copy 15 = .ok (.iconst 0, 1) := by decide +kernel
theorem d_Model_copy_16 : decode b_Model_copy 16 = .ok (.iconst 1, 1) := by decide +kernel
theorem d_Model_copy_17 : decode b_Model_copy 17 = .ok (.invokevirtual 82, 3) := by decide +kernel
theorem d_Model_copy_20 : decode b_Model_copy 20 = .ok (.ifCond .eq 5, 3) := by decide +kernel
theorem d_Model_copy_23 : decode b_Model_copy 23 = .ok (.iconst 0, 1) := by decide +kernel
theorem d_Model_copy_24 : decode b_Model_copy 24 = .ok (.ireturn, 1) := by decide +kernel
theorem d_Model_copy_25 : decode b_Model_copy 25 = .ok (.iconst 0, 1) := by decide +kernel
theorem d_Model_copy_26 : decode b_Model_copy 26 = .ok (.istore_n 1, 1) := by decide +kernel
theorem d_Model_copy_27 : decode b_Model_copy 27 = .ok (.iload_n 1, 1) := by decide +kernel
theorem d_Model_copy_28 : decode b_Model_copy 28 = .ok (.aload_n 0, 1) := by decide +kernel
theorem d_Model_copy_29 : decode b_Model_copy 29 = .ok (.getfield 86, 3) := by decide +kernel
theorem d_Model_copy_32 : decode b_Model_copy 32 = .ok (.if_icmp .ge 21, 3) := by decide +kernel
theorem d_Model_copy_35 : decode b_Model_copy 35 = .ok (.aload_n 0, 1) := by decide +kernel
theorem d_Model_copy_36 : decode b_Model_copy 36 = .ok (.getfield 7, 3) := by decide +kernel
theorem d_Model_copy_39 : decode b_Model_copy 39 = .ok (.iload_n 1, 1) := by decide +kernel
theorem d_Model_copy_40 : decode b_Model_copy 40 = .ok (.aload_n 0, 1) := by decide +kernel
theorem d_Model_copy_41 : decode b_Model_copy 41 = .ok (.getfield 14, 3) := by decide +kernel
theorem d_Model_copy_44 : decode b_Model_copy 44 = .ok (.iload_n 1, 1) := by decide +kernel
theorem d_Model_copy_45 : decode b_Model_copy 45 = .ok (.baload, 1) := by decide +kernel
theorem d_Model_copy_46 : decode b_Model_copy 46 = .ok (.bastore, 1) := by decide +kernel
theorem d_Model_copy_47 : decode b_Model_copy 47 = .ok (.iinc 1 1, 3) := by decide +kernel
theorem d_Model_copy_50 : decode b_Model_copy 50 = .ok (.goto (-23), 3) := by decide +kernel
theorem d_Model_copy_53 : decode b_Model_copy 53 = .ok (.aload_n 0, 1) := by decide +kernel
theorem d_Model_copy_54 : decode b_Model_copy 54 = .ok (.aload_n 0, 1) := by decide +kernel
theorem d_Model_copy_55 : decode b_Model_copy 55 = .ok (.getfield 86, 3) := by decide +kernel
theorem d_Model_copy_58 : decode b_Model_copy 58 = .ok (.putfield 79, 3) := by decide +kernel
theorem d_Model_copy_61 : decode b_Model_copy 61 = .ok (.aload_n 0, 1) := by decide +kernel
theorem d_Model_copy_62 : decode b_Model_copy 62 = .ok (.getfield 79, 3) := by decide +kernel
theorem d_Model_copy_65 : decode b_Model_copy 65 = .ok (.ireturn, 1) := by decide +kernel
theorem k1232 : (Jvm.Cond.fieldLink "RotationPressModel" (86 : Nat) "RotationPressModel" "size" "I") ∈ g_tbl := List.mem_filter.mpr ⟨List.mem_append_right (k2_sels lw_privs) (List.mem_append_right _ (List.mem_append_right _ (List.mem_append_right _ (List.mem_append_right _ (List.mem_append_right _ (List.mem_append_left _ (List.mem_of_getElem? (l := tables_1_6) (i := 32) rfl))))))), rfl⟩
theorem k1231 : (Jvm.Cond.fieldLink "RotationPressModel" (14 : Nat) "RotationPressModel" "out" "[B") ∈ g_tbl := List.mem_filter.mpr ⟨List.mem_append_right (k2_sels lw_privs) (List.mem_append_right _ (List.mem_append_right _ (List.mem_append_right _ (List.mem_append_right _ (List.mem_append_right _ (List.mem_append_left _ (List.mem_of_getElem? (l := tables_1_6) (i := 31) rfl))))))), rfl⟩
noncomputable def Model_copy_L27 (x_a0_size : Int32) (f_a0_out : (Nat → Int32)) (s3 : (Int32 × (Nat → Int32))) : Option ((Int32 × (Nat → Int32)) ⊕ (Nat → Int32)) :=
  (if x_a0_size ≤ s3.1 then some (Sum.inr s3.2) else gd (ix s3.1 262144) (gd (ix s3.1 10240) (some (Sum.inl ((s3.1 + (1 : Int32)), (upd s3.2 s3.1.toNatClampNeg (vp_nar .byte (f_a0_out s3.1.toNatClampNeg))))))))
noncomputable def Model_copy_J16 (x_a0_size : Int32) (f_a0_out : (Nat → Int32)) (f_a0_tape : (Nat → Int32)) (x_a0_fed : Int32) (j16_0 : Int32) : Option (Int32 × Int32 × (Nat → Int32) × Int32) :=
  bd (Model_fails_f j16_0 (1 : Int32)) (fun u1 => (if u1.1 = 0 then bd (lpF (Model_copy_L27 x_a0_size f_a0_out) gas ((0 : Int32), f_a0_tape)) (fun u4 => some (x_a0_size, u1.2, u4, x_a0_size)) else some ((0 : Int32), u1.2, f_a0_tape, x_a0_fed)))
noncomputable def Model_copy_f (x_a0_size : Int32) (f_a0_out : (Nat → Int32)) (f_a0_tape : (Nat → Int32)) (x_a0_fed : Int32) : Option (Int32 × Int32 × (Nat → Int32) × Int32) :=
  (if x_a0_size ≤ (10240 : Int32) then Model_copy_J16 x_a0_size f_a0_out f_a0_tape x_a0_fed (0 : Int32) else Model_copy_J16 x_a0_size f_a0_out f_a0_tape x_a0_fed (1 : Int32))
set_option maxRecDepth 100000 in
set_option maxHeartbeats 4000000 in
theorem m_Model_copy {C : gT} (hC : gOk C b_Model_copy R_Model { frames := 1, cells := 0, slots := 0, locals := 22 } 2) (q_a0 : Nat) (q_a0_tape : Nat) (x_a0_fed : Int32) (q_a0_out : Nat) (x_a0_size : Int32) (x_a0_thrown : Int32) (x_a0_place : Int32) (r_a0_told : Nat) (x_a0_tells : Int32) (r_a0_order : Nat) (r_a0_merged : Nat) (r_a0_last : Nat) (r_a0_up : Nat) (r_a0_symbols : Nat) (x_a0_many : Int32) (r_a0_list : Nat) (x_a0_listed : Int32) (r_a0_tables : Nat) (x_a0_groups : Int32) (x_a0_tableCount : Int32) (r_a0_lengths : Nat) (r_a0_codes : Nat) (r_a0_weights : Nat) (r_a0_parents : Nat) (r_a0_counts : Nat) (x_a0_origin : Int32) (x_a0_check : Int32) (x_a0_blocks : Int32) (x_a0_fresh : Int32) (x_a0_allTells : Int32) (x_a0_allSymbols : Int32) (x_a0_allGroups : Int32) (x_a0_bit : Int32) (x_a0_checkOfAll : Int32) (x_a0_fault : Int32) (x_a0_total : Int32) (r_a0_rows : Nat) (r_a0_from : Nat) (x_a0_rowCount : Int32) (r_a0_chosen : Nat) (x_a0_chosenCount : Int32) (r_a0_seen : Nat) (r_a0_prefix : Nat) (x_a0_seenTables : Int32) (x_a0_seenBytes : Int32) (x_a0_limit : Int32) (x_a0_count : Int32) (f_a0_out : (Nat → Int32)) (f_a0_tape : (Nat → Int32)) (out : (Int32 × Int32 × (Nat → Int32) × Int32)) (hf : Model_copy_f x_a0_size f_a0_out f_a0_tape x_a0_fed = some out) (kr : ∀ (x : Unit) (pc : Nat) (lv : List (Nat × Value)), decode b_Model_copy pc = .ok (.ireturn, 1) → narrow .int (.int out.1) = .int out.1 → gAt C 0 0 [(q_a0, .inr (12, [.ref q_a0_tape, .int out.2.2.2, .ref q_a0_out, .int x_a0_size, .int out.2.1, .int x_a0_place, .ref r_a0_told, .int x_a0_tells, .ref r_a0_order, .ref r_a0_merged, .ref r_a0_last, .ref r_a0_up, .ref r_a0_symbols, .int x_a0_many, .ref r_a0_list, .int x_a0_listed, .ref r_a0_tables, .int x_a0_groups, .int x_a0_tableCount, .ref r_a0_lengths, .ref r_a0_codes, .ref r_a0_weights, .ref r_a0_parents, .ref r_a0_counts, .int x_a0_origin, .int x_a0_check, .int x_a0_blocks, .int x_a0_fresh, .int x_a0_allTells, .int x_a0_allSymbols, .int x_a0_allGroups, .int x_a0_bit, .int x_a0_checkOfAll, .int x_a0_fault, .int x_a0_total, .ref r_a0_rows, .ref r_a0_from, .int x_a0_rowCount, .ref r_a0_chosen, .int x_a0_chosenCount, .ref r_a0_seen, .ref r_a0_prefix, .int x_a0_seenTables, .int x_a0_seenBytes, .int x_a0_limit, .int x_a0_count])), (q_a0_out, .inl (g_K C 1, 262144, .inl f_a0_out)), (q_a0_tape, .inl (g_K C 1, 10240, .inl out.2.2.1))] lv pc [.int out.1]) : gAt C 0 0 [(q_a0, .inr (12, [.ref q_a0_tape, .int x_a0_fed, .ref q_a0_out, .int x_a0_size, .int x_a0_thrown, .int x_a0_place, .ref r_a0_told, .int x_a0_tells, .ref r_a0_order, .ref r_a0_merged, .ref r_a0_last, .ref r_a0_up, .ref r_a0_symbols, .int x_a0_many, .ref r_a0_list, .int x_a0_listed, .ref r_a0_tables, .int x_a0_groups, .int x_a0_tableCount, .ref r_a0_lengths, .ref r_a0_codes, .ref r_a0_weights, .ref r_a0_parents, .ref r_a0_counts, .int x_a0_origin, .int x_a0_check, .int x_a0_blocks, .int x_a0_fresh, .int x_a0_allTells, .int x_a0_allSymbols, .int x_a0_allGroups, .int x_a0_bit, .int x_a0_checkOfAll, .int x_a0_fault, .int x_a0_total, .ref r_a0_rows, .ref r_a0_from, .int x_a0_rowCount, .ref r_a0_chosen, .int x_a0_chosenCount, .ref r_a0_seen, .ref r_a0_prefix, .int x_a0_seenTables, .int x_a0_seenBytes, .int x_a0_limit, .int x_a0_count])), (q_a0_out, .inl (g_K C 1, 262144, .inl f_a0_out)), (q_a0_tape, .inl (g_K C 1, 10240, .inl f_a0_tape))] [(0, .ref q_a0)] 0 [] := by
  unfold Model_copy_f at hf
  have J16 : ∀ (j16_0 : Int32), Model_copy_J16 x_a0_size f_a0_out f_a0_tape x_a0_fed j16_0 = some out → gAt C 0 0 [(q_a0, .inr (12, [.ref q_a0_tape, .int x_a0_fed, .ref q_a0_out, .int x_a0_size, .int x_a0_thrown, .int x_a0_place, .ref r_a0_told, .int x_a0_tells, .ref r_a0_order, .ref r_a0_merged, .ref r_a0_last, .ref r_a0_up, .ref r_a0_symbols, .int x_a0_many, .ref r_a0_list, .int x_a0_listed, .ref r_a0_tables, .int x_a0_groups, .int x_a0_tableCount, .ref r_a0_lengths, .ref r_a0_codes, .ref r_a0_weights, .ref r_a0_parents, .ref r_a0_counts, .int x_a0_origin, .int x_a0_check, .int x_a0_blocks, .int x_a0_fresh, .int x_a0_allTells, .int x_a0_allSymbols, .int x_a0_allGroups, .int x_a0_bit, .int x_a0_checkOfAll, .int x_a0_fault, .int x_a0_total, .ref r_a0_rows, .ref r_a0_from, .int x_a0_rowCount, .ref r_a0_chosen, .int x_a0_chosenCount, .ref r_a0_seen, .ref r_a0_prefix, .int x_a0_seenTables, .int x_a0_seenBytes, .int x_a0_limit, .int x_a0_count])), (q_a0_out, .inl (g_K C 1, 262144, .inl f_a0_out)), (q_a0_tape, .inl (g_K C 1, 10240, .inl f_a0_tape))] [(0, .ref q_a0)] 16 [.int j16_0, .ref q_a0] := by
    intro j16_0 hf
    unfold Model_copy_J16 at hf
    refine g_iconst 16 hC (1 : Int32) (by decide) d_Model_copy_16 ?_
    obtain ⟨u1, hu1, hf⟩ := bd_some hf
    refine g_callVi 17 hC (c_Model_fails (g_l C) (g_D C) (g_K C) q_a0 q_a0_tape x_a0_fed q_a0_out x_a0_size x_a0_thrown x_a0_place r_a0_told x_a0_tells r_a0_order r_a0_merged r_a0_last r_a0_up r_a0_symbols x_a0_many r_a0_list x_a0_listed r_a0_tables x_a0_groups x_a0_tableCount r_a0_lengths r_a0_codes r_a0_weights r_a0_parents r_a0_counts x_a0_origin x_a0_check x_a0_blocks x_a0_fresh x_a0_allTells x_a0_allSymbols x_a0_allGroups x_a0_bit x_a0_checkOfAll x_a0_fault x_a0_total r_a0_rows r_a0_from x_a0_rowCount r_a0_chosen x_a0_chosenCount r_a0_seen r_a0_prefix x_a0_seenTables x_a0_seenBytes x_a0_limit x_a0_count j16_0 (1 : Int32) u1 hu1) k1379 k14 k1376 k1378 ks37 2 rfl (by decide +kernel) (by decide) [0] [1, 2] [(q_a0_out, .inl (g_K C 1, 262144, .inl f_a0_out)), (q_a0_tape, .inl (g_K C 1, 10240, .inl f_a0_tape))] rfl rfl rfl rfl rfl 0 12 rfl rfl rfl rfl (Nat.le_of_ble_eq_true rfl) ⟨Nat.le_of_ble_eq_true rfl, Nat.le_of_ble_eq_true rfl⟩ (fun (_ : Unit) => [(q_a0_out, .inl (g_K C 1, 262144, .inl f_a0_out)), (q_a0_tape, .inl (g_K C 1, 10240, .inl f_a0_tape)), (q_a0, .inr (12, [.ref q_a0_tape, .int x_a0_fed, .ref q_a0_out, .int x_a0_size, .int u1.2, .int x_a0_place, .ref r_a0_told, .int x_a0_tells, .ref r_a0_order, .ref r_a0_merged, .ref r_a0_last, .ref r_a0_up, .ref r_a0_symbols, .int x_a0_many, .ref r_a0_list, .int x_a0_listed, .ref r_a0_tables, .int x_a0_groups, .int x_a0_tableCount, .ref r_a0_lengths, .ref r_a0_codes, .ref r_a0_weights, .ref r_a0_parents, .ref r_a0_counts, .int x_a0_origin, .int x_a0_check, .int x_a0_blocks, .int x_a0_fresh, .int x_a0_allTells, .int x_a0_allSymbols, .int x_a0_allGroups, .int x_a0_bit, .int x_a0_checkOfAll, .int x_a0_fault, .int x_a0_total, .ref r_a0_rows, .ref r_a0_from, .int x_a0_rowCount, .ref r_a0_chosen, .int x_a0_chosenCount, .ref r_a0_seen, .ref r_a0_prefix, .int x_a0_seenTables, .int x_a0_seenBytes, .int x_a0_limit, .int x_a0_count]))]) (fun _ => rfl) d_Model_copy_17 0 0 rfl rfl (fun _ => ?_)
    refine g_if_eq 20 hC 25 (by decide) d_Model_copy_20 (fun c2 => ?_) (fun c2 => ?_)
    · have hf := it_t c2 hf
      refine g_iconst 25 hC (0 : Int32) (by decide) d_Model_copy_25 ?_
      refine g_istore_n 26 hC (lv2 := [(1, .int (0 : Int32)), (0, .ref q_a0)]) (hn := (by decide)) (hl2 := rfl) (hd := d_Model_copy_26) ?_
      obtain ⟨u4, hu4, hf⟩ := bd_some hf
      have Xu4_0 : gAt C 0 0 [(q_a0, .inr (12, [.ref q_a0_tape, .int x_a0_fed, .ref q_a0_out, .int x_a0_size, .int u1.2, .int x_a0_place, .ref r_a0_told, .int x_a0_tells, .ref r_a0_order, .ref r_a0_merged, .ref r_a0_last, .ref r_a0_up, .ref r_a0_symbols, .int x_a0_many, .ref r_a0_list, .int x_a0_listed, .ref r_a0_tables, .int x_a0_groups, .int x_a0_tableCount, .ref r_a0_lengths, .ref r_a0_codes, .ref r_a0_weights, .ref r_a0_parents, .ref r_a0_counts, .int x_a0_origin, .int x_a0_check, .int x_a0_blocks, .int x_a0_fresh, .int x_a0_allTells, .int x_a0_allSymbols, .int x_a0_allGroups, .int x_a0_bit, .int x_a0_checkOfAll, .int x_a0_fault, .int x_a0_total, .ref r_a0_rows, .ref r_a0_from, .int x_a0_rowCount, .ref r_a0_chosen, .int x_a0_chosenCount, .ref r_a0_seen, .ref r_a0_prefix, .int x_a0_seenTables, .int x_a0_seenBytes, .int x_a0_limit, .int x_a0_count])), (q_a0_out, .inl (g_K C 1, 262144, .inl f_a0_out)), (q_a0_tape, .inl (g_K C 1, 10240, .inl u4))] [(0, .ref q_a0)] 53 [] := by
        refine g_aload_n 53 hC (j := 0) (hj := rfl) (hd := d_Model_copy_53) ?_
        refine g_aload_n 54 hC (j := 0) (hj := rfl) (hd := d_Model_copy_54) ?_
        refine g_get 55 hC i_Model rfl 0 rfl 3 (by decide) k1232 rfl d_Model_copy_55 ?_
        refine g_put 58 hC i_Model rfl 0 rfl 1 (by decide) t_Model tk_Model n_Model k1230 rfl rfl rfl (Nat.le_of_ble_eq_true rfl) [(q_a0, .inr (12, [.ref q_a0_tape, .int x_a0_size, .ref q_a0_out, .int x_a0_size, .int u1.2, .int x_a0_place, .ref r_a0_told, .int x_a0_tells, .ref r_a0_order, .ref r_a0_merged, .ref r_a0_last, .ref r_a0_up, .ref r_a0_symbols, .int x_a0_many, .ref r_a0_list, .int x_a0_listed, .ref r_a0_tables, .int x_a0_groups, .int x_a0_tableCount, .ref r_a0_lengths, .ref r_a0_codes, .ref r_a0_weights, .ref r_a0_parents, .ref r_a0_counts, .int x_a0_origin, .int x_a0_check, .int x_a0_blocks, .int x_a0_fresh, .int x_a0_allTells, .int x_a0_allSymbols, .int x_a0_allGroups, .int x_a0_bit, .int x_a0_checkOfAll, .int x_a0_fault, .int x_a0_total, .ref r_a0_rows, .ref r_a0_from, .int x_a0_rowCount, .ref r_a0_chosen, .int x_a0_chosenCount, .ref r_a0_seen, .ref r_a0_prefix, .int x_a0_seenTables, .int x_a0_seenBytes, .int x_a0_limit, .int x_a0_count])), (q_a0_out, .inl (g_K C 1, 262144, .inl f_a0_out)), (q_a0_tape, .inl (g_K C 1, 10240, .inl u4))] rfl d_Model_copy_58 ?_
        refine g_aload_n 61 hC (j := 0) (hj := rfl) (hd := d_Model_copy_61) ?_
        refine g_get 62 hC i_Model rfl 0 rfl 1 (by decide) k1230 rfl d_Model_copy_62 ?_
        obtain rfl := Option.some.inj hf
        exact g_re [0, 1, 2] [] rfl rfl rfl (kr () 65 [] d_Model_copy_65 rfl)
      have Gu4 := lp_ind (b := (Model_copy_L27 x_a0_size f_a0_out)) (G := fun (s3 : (Int32 × (Nat → Int32))) => gAt C 0 0 [(q_a0, .inr (12, [.ref q_a0_tape, .int x_a0_fed, .ref q_a0_out, .int x_a0_size, .int u1.2, .int x_a0_place, .ref r_a0_told, .int x_a0_tells, .ref r_a0_order, .ref r_a0_merged, .ref r_a0_last, .ref r_a0_up, .ref r_a0_symbols, .int x_a0_many, .ref r_a0_list, .int x_a0_listed, .ref r_a0_tables, .int x_a0_groups, .int x_a0_tableCount, .ref r_a0_lengths, .ref r_a0_codes, .ref r_a0_weights, .ref r_a0_parents, .ref r_a0_counts, .int x_a0_origin, .int x_a0_check, .int x_a0_blocks, .int x_a0_fresh, .int x_a0_allTells, .int x_a0_allSymbols, .int x_a0_allGroups, .int x_a0_bit, .int x_a0_checkOfAll, .int x_a0_fault, .int x_a0_total, .ref r_a0_rows, .ref r_a0_from, .int x_a0_rowCount, .ref r_a0_chosen, .int x_a0_chosenCount, .ref r_a0_seen, .ref r_a0_prefix, .int x_a0_seenTables, .int x_a0_seenBytes, .int x_a0_limit, .int x_a0_count])), (q_a0_out, .inl (g_K C 1, 262144, .inl f_a0_out)), (q_a0_tape, .inl (g_K C 1, 10240, .inl s3.2))] [(0, .ref q_a0), (1, .int s3.1)] 27 []) (o := u4) (by
          intro s3 u5 hf hI hX
          unfold Model_copy_L27 at hf
          refine g_iload_n 27 hC (j := 1) (hj := rfl) (hd := d_Model_copy_27) ?_
          refine g_aload_n 28 hC (j := 0) (hj := rfl) (hd := d_Model_copy_28) ?_
          refine g_get 29 hC i_Model rfl 0 rfl 3 (by decide) k1232 rfl d_Model_copy_29 ?_
          refine g_icmp_ge 32 hC 53 (by decide) d_Model_copy_32 (fun c6 => ?_) (fun c6 => ?_)
          · have hf := it_t c6 hf
            obtain rfl := Option.some.inj hf
            obtain rfl := ex_r hX
            exact g_re [0, 1, 2] [0] rfl rfl rfl (Xu4_0)
          · have hf := it_f c6 hf
            refine g_aload_n 35 hC (j := 0) (hj := rfl) (hd := d_Model_copy_35) ?_
            refine g_get 36 hC i_Model rfl 0 rfl 0 (by decide) k1229 rfl d_Model_copy_36 ?_
            refine g_iload_n 39 hC (j := 1) (hj := rfl) (hd := d_Model_copy_39) ?_
            refine g_aload_n 40 hC (j := 0) (hj := rfl) (hd := d_Model_copy_40) ?_
            refine g_get 41 hC i_Model rfl 0 rfl 2 (by decide) k1231 rfl d_Model_copy_41 ?_
            refine g_iload_n 44 hC (j := 1) (hj := rfl) (hd := d_Model_copy_44) ?_
            obtain ⟨e7, hf⟩ := gd_some hf
            refine g_bald 45 hC 1 rfl e7 d_Model_copy_45 ?_
            obtain ⟨e8, hf⟩ := gd_some hf
            refine g_bast 46 hC 2 rfl e8 [(q_a0, .inr (12, [.ref q_a0_tape, .int x_a0_fed, .ref q_a0_out, .int x_a0_size, .int u1.2, .int x_a0_place, .ref r_a0_told, .int x_a0_tells, .ref r_a0_order, .ref r_a0_merged, .ref r_a0_last, .ref r_a0_up, .ref r_a0_symbols, .int x_a0_many, .ref r_a0_list, .int x_a0_listed, .ref r_a0_tables, .int x_a0_groups, .int x_a0_tableCount, .ref r_a0_lengths, .ref r_a0_codes, .ref r_a0_weights, .ref r_a0_parents, .ref r_a0_counts, .int x_a0_origin, .int x_a0_check, .int x_a0_blocks, .int x_a0_fresh, .int x_a0_allTells, .int x_a0_allSymbols, .int x_a0_allGroups, .int x_a0_bit, .int x_a0_checkOfAll, .int x_a0_fault, .int x_a0_total, .ref r_a0_rows, .ref r_a0_from, .int x_a0_rowCount, .ref r_a0_chosen, .int x_a0_chosenCount, .ref r_a0_seen, .ref r_a0_prefix, .int x_a0_seenTables, .int x_a0_seenBytes, .int x_a0_limit, .int x_a0_count])), (q_a0_out, .inl (g_K C 1, 262144, .inl f_a0_out)), (q_a0_tape, .inl (g_K C 1, 10240, .inl (upd s3.2 s3.1.toNatClampNeg (vp_nar .byte (f_a0_out s3.1.toNatClampNeg)))))] rfl d_Model_copy_46 ?_
            refine g_iinc 47 hC 1 (1 : Int32) [(1, .int (s3.1 + (1 : Int32))), (0, .ref q_a0)] rfl (by decide) (by decide) rfl d_Model_copy_47 ?_
            refine g_goto 50 hC 27 (by decide) d_Model_copy_50 ?_
            exact g_re [0, 1, 2] [1, 0] rfl rfl rfl (hI ((s3.1 + (1 : Int32)), (upd s3.2 s3.1.toNatClampNeg (vp_nar .byte (f_a0_out s3.1.toNatClampNeg)))) (Option.some.inj hf).symm)) gas
      exact g_re [2, 0, 1] [1, 0] rfl rfl rfl (Gu4 ((0 : Int32), f_a0_tape) hu4)
    · have hf := it_f c2 hf
      refine g_iconst 23 hC (0 : Int32) (by decide) d_Model_copy_23 ?_
      obtain rfl := Option.some.inj hf
      exact g_re [2, 0, 1] [] rfl rfl rfl (kr () 24 [] d_Model_copy_24 rfl)
  refine g_aload_n 0 hC (j := 0) (hj := rfl) (hd := d_Model_copy_0) ?_
  refine g_aload_n 1 hC (j := 0) (hj := rfl) (hd := d_Model_copy_1) ?_
  refine g_get 2 hC i_Model rfl 0 rfl 3 (by decide) k1232 rfl d_Model_copy_2 ?_
  refine g_sipush 5 hC (10240 : Int32) (by decide) d_Model_copy_5 ?_
  refine g_icmp_le 8 hC 15 (by decide) d_Model_copy_8 (fun c9 => ?_) (fun c9 => ?_)
  · have hf := it_t c9 hf
    refine g_iconst 15 hC (0 : Int32) (by decide) d_Model_copy_15 ?_
    exact J16 (0 : Int32) hf
  · have hf := it_f c9 hf
    refine g_iconst 11 hC (1 : Int32) (by decide) d_Model_copy_11 ?_
    refine g_goto 12 hC 16 (by decide) d_Model_copy_12 ?_
    exact J16 (1 : Int32) hf
theorem c_Model_copy (l : Launch) (D : va_G) (K : Nat → ClassId) (q_a0 : Nat) (q_a0_tape : Nat) (x_a0_fed : Int32) (q_a0_out : Nat) (x_a0_size : Int32) (x_a0_thrown : Int32) (x_a0_place : Int32) (r_a0_told : Nat) (x_a0_tells : Int32) (r_a0_order : Nat) (r_a0_merged : Nat) (r_a0_last : Nat) (r_a0_up : Nat) (r_a0_symbols : Nat) (x_a0_many : Int32) (r_a0_list : Nat) (x_a0_listed : Int32) (r_a0_tables : Nat) (x_a0_groups : Int32) (x_a0_tableCount : Int32) (r_a0_lengths : Nat) (r_a0_codes : Nat) (r_a0_weights : Nat) (r_a0_parents : Nat) (r_a0_counts : Nat) (x_a0_origin : Int32) (x_a0_check : Int32) (x_a0_blocks : Int32) (x_a0_fresh : Int32) (x_a0_allTells : Int32) (x_a0_allSymbols : Int32) (x_a0_allGroups : Int32) (x_a0_bit : Int32) (x_a0_checkOfAll : Int32) (x_a0_fault : Int32) (x_a0_total : Int32) (r_a0_rows : Nat) (r_a0_from : Nat) (x_a0_rowCount : Int32) (r_a0_chosen : Nat) (x_a0_chosenCount : Int32) (r_a0_seen : Nat) (r_a0_prefix : Nat) (x_a0_seenTables : Int32) (x_a0_seenBytes : Int32) (x_a0_limit : Int32) (x_a0_count : Int32) (f_a0_out : (Nat → Int32)) (f_a0_tape : (Nat → Int32)) (out : (Int32 × Int32 × (Nat → Int32) × Int32)) (hf : Model_copy_f x_a0_size f_a0_out f_a0_tape x_a0_fed = some out) : Ci l D K y_Model_copy (g_wd y_Model_copy b_Model_copy 2 (some .int)) { frames := 1, cells := 0, slots := 0, locals := 22 } [.ref q_a0] [(q_a0, .inr (12, [.ref q_a0_tape, .int x_a0_fed, .ref q_a0_out, .int x_a0_size, .int x_a0_thrown, .int x_a0_place, .ref r_a0_told, .int x_a0_tells, .ref r_a0_order, .ref r_a0_merged, .ref r_a0_last, .ref r_a0_up, .ref r_a0_symbols, .int x_a0_many, .ref r_a0_list, .int x_a0_listed, .ref r_a0_tables, .int x_a0_groups, .int x_a0_tableCount, .ref r_a0_lengths, .ref r_a0_codes, .ref r_a0_weights, .ref r_a0_parents, .ref r_a0_counts, .int x_a0_origin, .int x_a0_check, .int x_a0_blocks, .int x_a0_fresh, .int x_a0_allTells, .int x_a0_allSymbols, .int x_a0_allGroups, .int x_a0_bit, .int x_a0_checkOfAll, .int x_a0_fault, .int x_a0_total, .ref r_a0_rows, .ref r_a0_from, .int x_a0_rowCount, .ref r_a0_chosen, .int x_a0_chosenCount, .ref r_a0_seen, .ref r_a0_prefix, .int x_a0_seenTables, .int x_a0_seenBytes, .int x_a0_limit, .int x_a0_count])), (q_a0_out, .inl (K 1, 262144, .inl f_a0_out)), (q_a0_tape, .inl (K 1, 10240, .inl f_a0_tape))] (fun (x : Unit) => [(q_a0, .inr (12, [.ref q_a0_tape, .int out.2.2.2, .ref q_a0_out, .int x_a0_size, .int out.2.1, .int x_a0_place, .ref r_a0_told, .int x_a0_tells, .ref r_a0_order, .ref r_a0_merged, .ref r_a0_last, .ref r_a0_up, .ref r_a0_symbols, .int x_a0_many, .ref r_a0_list, .int x_a0_listed, .ref r_a0_tables, .int x_a0_groups, .int x_a0_tableCount, .ref r_a0_lengths, .ref r_a0_codes, .ref r_a0_weights, .ref r_a0_parents, .ref r_a0_counts, .int x_a0_origin, .int x_a0_check, .int x_a0_blocks, .int x_a0_fresh, .int x_a0_allTells, .int x_a0_allSymbols, .int x_a0_allGroups, .int x_a0_bit, .int x_a0_checkOfAll, .int x_a0_fault, .int x_a0_total, .ref r_a0_rows, .ref r_a0_from, .int x_a0_rowCount, .ref r_a0_chosen, .int x_a0_chosenCount, .ref r_a0_seen, .ref r_a0_prefix, .int x_a0_seenTables, .int x_a0_seenBytes, .int x_a0_limit, .int x_a0_count])), (q_a0_out, .inl (K 1, 262144, .inl f_a0_out)), (q_a0_tape, .inl (K 1, 10240, .inl out.2.2.1))]) out.1 := mk_i (by decide) (Nat.le_of_ble_eq_true rfl) (fun p e s m below meth c A Q hC kr => m_Model_copy hC q_a0 q_a0_tape x_a0_fed q_a0_out x_a0_size x_a0_thrown x_a0_place r_a0_told x_a0_tells r_a0_order r_a0_merged r_a0_last r_a0_up r_a0_symbols x_a0_many r_a0_list x_a0_listed r_a0_tables x_a0_groups x_a0_tableCount r_a0_lengths r_a0_codes r_a0_weights r_a0_parents r_a0_counts x_a0_origin x_a0_check x_a0_blocks x_a0_fresh x_a0_allTells x_a0_allSymbols x_a0_allGroups x_a0_bit x_a0_checkOfAll x_a0_fault x_a0_total r_a0_rows r_a0_from x_a0_rowCount r_a0_chosen x_a0_chosenCount r_a0_seen r_a0_prefix x_a0_seenTables x_a0_seenBytes x_a0_limit x_a0_count f_a0_out f_a0_tape out hf kr)
