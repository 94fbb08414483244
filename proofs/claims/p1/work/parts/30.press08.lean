abbrev b_BitReader_bit : ByteArray := prog_2_method_4_code
def y_BitReader_bit : MethodName := ⟨R_BitReader, "bit", "()I"⟩
theorem d_BitReader_bit_0 : decode b_BitReader_bit 0 = .ok (.aload_n 0, 1) := by decide +kernel
theorem d_BitReader_bit_1 : decode b_BitReader_bit 1 = .ok (.getfield 19, 3) := by decide +kernel
theorem d_BitReader_bit_4 : decode b_BitReader_bit 4 = .ok (.aload_n 0, 1) := by decide +kernel
theorem d_BitReader_bit_5 : decode b_BitReader_bit 5 = .ok (.getfield 15, 3) := by decide +kernel
theorem d_BitReader_bit_8 : decode b_BitReader_bit 8 = .ok (.if_icmp .lt 15, 3) := by decide +kernel
theorem d_BitReader_bit_11 : decode b_BitReader_bit 11 = .ok (.aload_n 0, 1) := by decide +kernel
theorem d_BitReader_bit_12 : decode b_BitReader_bit 12 = .ok (.iconst 2, 1) := by decide +kernel
theorem d_BitReader_bit_13 : decode b_BitReader_bit 13 = .ok (.aload_n 0, 1) := by decide +kernel
theorem d_BitReader_bit_14 : decode b_BitReader_bit 14 = .ok (.getfield 15, 3) := by decide +kernel
theorem d_BitReader_bit_17 : decode b_BitReader_bit 17 = .ok (.invokevirtual 36, 3) := by decide +kernel
theorem d_BitReader_bit_20 : decode b_BitReader_bit 20 = .ok (.pop, 1) := by decide +kernel
theorem d_BitReader_bit_21 : decode b_BitReader_bit 21 = .ok (.iconst (-1), 1) := by decide +kernel
theorem d_BitReader_bit_22 : decode b_BitReader_bit 22 = .ok (.ireturn, 1) := by decide +kernel
theorem d_BitReader_bit_23 : decode b_BitReader_bit 23 = .ok (.aload_n 0, 1) := by decide +kernel
theorem d_BitReader_bit_24 : decode b_BitReader_bit 24 = .ok (.getfield 9, 3) := by decide +kernel
theorem d_BitReader_bit_27 : decode b_BitReader_bit 27 = .ok (.aload_n 0, 1) := by decide +kernel
theorem d_BitReader_bit_28 : decode b_BitReader_bit 28 = .ok (.getfield 19, 3) := by decide +kernel
theorem d_BitReader_bit_31 : decode b_BitReader_bit 31 = .ok (.iconst 3, 1) := by decide +kernel
theorem d_BitReader_bit_32 : decode b_BitReader_bit 32 = .ok (.ishr, 1) := by decide +kernel
theorem d_BitReader_bit_33 : decode b_BitReader_bit 33 = .ok (.invokevirtual 40, 3) := by decide +kernel
theorem d_BitReader_bit_36 : decode b_BitReader_bit 36 = .ok (.bipush 7, 2) := by decide +kernel
theorem d_BitReader_bit_38 : decode b_BitReader_bit 38 = .ok (.aload_n 0, 1) := by decide +kernel
theorem d_BitReader_bit_39 : decode b_BitReader_bit 39 = .ok (.getfield 19, 3) := by decide +kernel
theorem d_BitReader_bit_42 : decode b_BitReader_bit 42 = .ok (.bipush 7, 2) := by decide +kernel
theorem d_BitReader_bit_44 : decode b_BitReader_bit 44 = .ok (.iand, 1) := by decide +kernel
theorem d_BitReader_bit_45 : decode b_BitReader_bit 45 = .ok (.isub, 1) := by decide +kernel
theorem d_BitReader_bit_46 : decode b_BitReader_bit 46 = .ok (.ishr, 1) := by decide +kernel
theorem d_BitReader_bit_47 : decode b_BitReader_bit 47 = .ok (.iconst 1, 1) := by decide +kernel
theorem d_BitReader_bit_48 : decode b_BitReader_bit 48 = .ok (.iand, 1) := by decide +kernel
theorem d_BitReader_bit_49 : decode b_BitReader_bit 49 = .ok (.istore_n 1, 1) := by decide +kernel
theorem d_BitReader_bit_50 : decode b_BitReader_bit 50 = .ok (.aload_n 0, 1) := by decide +kernel
theorem d_BitReader_bit_51 : decode b_BitReader_bit 51 = .ok (.dup, 1) := by decide +kernel
theorem d_BitReader_bit_52 : decode b_BitReader_bit 52 = .ok (.getfield 19, 3) := by decide +kernel
theorem d_BitReader_bit_55 : decode b_BitReader_bit 55 = .ok (.iconst 1, 1) := by decide +kernel
theorem d_BitReader_bit_56 : decode b_BitReader_bit 56 = .ok (.iadd, 1) := by decide +kernel
theorem d_BitReader_bit_57 : decode b_BitReader_bit 57 = .ok (.putfield 19, 3) := by decide +kernel
theorem d_BitReader_bit_60 : decode b_BitReader_bit 60 = .ok (.iload_n 1, 1) := by decide +kernel
theorem d_BitReader_bit_61 : decode b_BitReader_bit 61 = .ok (.ireturn, 1) := by decide +kernel
theorem k655 : (Jvm.Cond.code ({ cls := "RotationPress$ByteRow", name := "get", desc := "(I)I" } : Jvm.MethodName) prog_5_method_3_code (2 : Nat) (Option.some Jvm.ClassFile.FieldType.int)) ∈ g_tbl := List.mem_filter.mpr ⟨List.mem_append_right (k2_sels lw_privs) (List.mem_append_right _ (List.mem_append_right _ (List.mem_append_left _ (List.mem_of_getElem? (l := tables_1_3) (i := 175) rfl)))), rfl⟩
theorem k1103 : (Jvm.Cond.methodLink "RotationPress$BitReader" (40 : Nat) ({ cls := "RotationPress$ByteRow", name := "get", desc := "(I)I" } : Jvm.MethodName)) ∈ g_tbl := List.mem_filter.mpr ⟨List.mem_append_right (k2_sels lw_privs) (List.mem_append_right _ (List.mem_append_right _ (List.mem_append_right _ (List.mem_append_right _ (List.mem_append_left _ (List.mem_of_getElem? (l := tables_1_5) (i := 143) rfl)))))), rfl⟩
theorem k653 : (Jvm.Cond.instanceMethod ({ cls := "RotationPress$ByteRow", name := "get", desc := "(I)I" } : Jvm.MethodName)) ∈ g_tbl := List.mem_filter.mpr ⟨List.mem_append_right (k2_sels lw_privs) (List.mem_append_right _ (List.mem_append_right _ (List.mem_append_left _ (List.mem_of_getElem? (l := tables_1_3) (i := 173) rfl)))), rfl⟩
theorem k654 : (Jvm.Cond.selects "RotationPress$ByteRow" ({ cls := "RotationPress$ByteRow", name := "get", desc := "(I)I" } : Jvm.MethodName) ({ cls := "RotationPress$ByteRow", name := "get", desc := "(I)I" } : Jvm.MethodName)) ∈ g_tbl := List.mem_filter.mpr ⟨List.mem_append_right (k2_sels lw_privs) (List.mem_append_right _ (List.mem_append_right _ (List.mem_append_left _ (List.mem_of_getElem? (l := tables_1_3) (i := 174) rfl)))), rfl⟩
theorem k1102 : (Jvm.Cond.code ({ cls := "RotationPress$BitReader", name := "fail", desc := "(II)Z" } : Jvm.MethodName) prog_2_method_3_code (3 : Nat) (Option.some Jvm.ClassFile.FieldType.boolean)) ∈ g_tbl := List.mem_filter.mpr ⟨List.mem_append_right (k2_sels lw_privs) (List.mem_append_right _ (List.mem_append_right _ (List.mem_append_right _ (List.mem_append_right _ (List.mem_append_left _ (List.mem_of_getElem? (l := tables_1_5) (i := 142) rfl)))))), rfl⟩
theorem k13 : (Jvm.Cond.initialized "RotationPress$BitReader") ∈ g_tbl := List.mem_filter.mpr ⟨List.mem_append_right (k2_sels lw_privs) (List.mem_append_left _ (List.mem_of_getElem? (l := tables_1_1) (i := 13) rfl)), rfl⟩
theorem k1099 : (Jvm.Cond.methodLink "RotationPress$BitReader" (36 : Nat) ({ cls := "RotationPress$BitReader", name := "fail", desc := "(II)Z" } : Jvm.MethodName)) ∈ g_tbl := List.mem_filter.mpr ⟨List.mem_append_right (k2_sels lw_privs) (List.mem_append_right _ (List.mem_append_right _ (List.mem_append_right _ (List.mem_append_right _ (List.mem_append_left _ (List.mem_of_getElem? (l := tables_1_5) (i := 139) rfl)))))), rfl⟩
theorem k1100 : (Jvm.Cond.instanceMethod ({ cls := "RotationPress$BitReader", name := "fail", desc := "(II)Z" } : Jvm.MethodName)) ∈ g_tbl := List.mem_filter.mpr ⟨List.mem_append_right (k2_sels lw_privs) (List.mem_append_right _ (List.mem_append_right _ (List.mem_append_right _ (List.mem_append_right _ (List.mem_append_left _ (List.mem_of_getElem? (l := tables_1_5) (i := 140) rfl)))))), rfl⟩
theorem k1101 : (Jvm.Cond.selects "RotationPress$BitReader" ({ cls := "RotationPress$BitReader", name := "fail", desc := "(II)Z" } : Jvm.MethodName) ({ cls := "RotationPress$BitReader", name := "fail", desc := "(II)Z" } : Jvm.MethodName)) ∈ g_tbl := List.mem_filter.mpr ⟨List.mem_append_right (k2_sels lw_privs) (List.mem_append_right _ (List.mem_append_right _ (List.mem_append_right _ (List.mem_append_right _ (List.mem_append_left _ (List.mem_of_getElem? (l := tables_1_5) (i := 141) rfl)))))), rfl⟩
set_option maxRecDepth 100000 in
set_option maxHeartbeats 4000000 in
theorem m_BitReader_bit {C : gT} (hC : gOk C b_BitReader_bit R_BitReader { frames := 1, cells := 0, slots := 0, locals := 22 } 2) (q_a0 : Nat) (q_a0_row : Nat) (x_a0_end : Int32) (x_a0_at : Int32) (x_a0_taken : Int32) (x_a0_fault : Int32) (x_a0_faultAt : Int32) (q_a0_row_bytes : Nat) (x_a0_row_count : Int32) (n_a0_row_bytes : Nat) (f_a0_row_bytes : (Nat → Int32)) (out : (Int32 × Int32 × Int32 × Int32)) (hf : BitReader_bit_f x_a0_at x_a0_end x_a0_row_count n_a0_row_bytes f_a0_row_bytes x_a0_fault x_a0_faultAt = some out) (kr : ∀ (x : Unit) (o9 : (Int32 × Int32 × Int32 × Int32)) (pc : Nat) (lv : List (Nat × Value)), o9 = out → decode b_BitReader_bit pc = .ok (.ireturn, 1) → narrow .int (.int o9.1) = .int o9.1 → gAt C 0 0 [(q_a0, .inr (1, [.ref q_a0_row, .int x_a0_end, .int o9.2.2.2, .int x_a0_taken, .int o9.2.1, .int o9.2.2.1])), (q_a0_row, .inr (4, [.ref q_a0_row_bytes, .int x_a0_row_count])), (q_a0_row_bytes, .inl (g_K C 0, n_a0_row_bytes, .inl f_a0_row_bytes))] lv pc [.int o9.1]) : gAt C 0 0 [(q_a0, .inr (1, [.ref q_a0_row, .int x_a0_end, .int x_a0_at, .int x_a0_taken, .int x_a0_fault, .int x_a0_faultAt])), (q_a0_row, .inr (4, [.ref q_a0_row_bytes, .int x_a0_row_count])), (q_a0_row_bytes, .inl (g_K C 0, n_a0_row_bytes, .inl f_a0_row_bytes))] [(0, .ref q_a0)] 0 [] := by
  unfold BitReader_bit_f at hf
  refine g_aload_n 0 hC (j := 0) (hj := rfl) (hd := d_BitReader_bit_0) ?_
  refine g_get 1 hC i_BitReader rfl 0 rfl 2 (by decide) k330 rfl d_BitReader_bit_1 ?_
  refine g_aload_n 4 hC (j := 0) (hj := rfl) (hd := d_BitReader_bit_4) ?_
  refine g_get 5 hC i_BitReader rfl 0 rfl 1 (by decide) k328 rfl d_BitReader_bit_5 ?_
  refine g_icmp_lt 8 hC 23 (by decide) d_BitReader_bit_8 (fun c1 => ?_) (fun c1 => ?_)
  · have hf := it_t c1 hf
    refine g_aload_n 23 hC (j := 0) (hj := rfl) (hd := d_BitReader_bit_23) ?_
    refine g_get 24 hC i_BitReader rfl 0 rfl 0 (by decide) k327 rfl d_BitReader_bit_24 ?_
    refine g_aload_n 27 hC (j := 0) (hj := rfl) (hd := d_BitReader_bit_27) ?_
    refine g_get 28 hC i_BitReader rfl 0 rfl 2 (by decide) k330 rfl d_BitReader_bit_28 ?_
    refine g_iconst 31 hC (3 : Int32) (by decide) d_BitReader_bit_31 ?_
    refine g_ishr 32 hC d_BitReader_bit_32 ?_
    obtain ⟨u2, hu2, hf⟩ := bd_some hf
    refine g_callVi 33 hC (c_ByteRow_get (g_l C) (g_D C) (g_K C) q_a0_row q_a0_row_bytes x_a0_row_count n_a0_row_bytes f_a0_row_bytes (x_a0_at >>> ((3 : Int32) &&& 31)) u2 hu2) k655 k2 k1103 k653 k654 1 rfl (by decide +kernel) (by decide) [1, 2] [0] [(q_a0, .inr (1, [.ref q_a0_row, .int x_a0_end, .int x_a0_at, .int x_a0_taken, .int x_a0_fault, .int x_a0_faultAt]))] rfl rfl rfl rfl rfl 0 4 rfl rfl rfl rfl (Nat.le_of_ble_eq_true rfl) ⟨Nat.le_of_ble_eq_true rfl, Nat.le_of_ble_eq_true rfl⟩ (fun (_ : Unit) => [(q_a0, .inr (1, [.ref q_a0_row, .int x_a0_end, .int x_a0_at, .int x_a0_taken, .int x_a0_fault, .int x_a0_faultAt])), (q_a0_row, .inr (4, [.ref q_a0_row_bytes, .int x_a0_row_count])), (q_a0_row_bytes, .inl (g_K C 0, n_a0_row_bytes, .inl f_a0_row_bytes))]) (fun _ => rfl) d_BitReader_bit_33 0 0 rfl rfl (fun _ => ?_)
    refine g_bipush 36 hC (7 : Int32) (by decide) d_BitReader_bit_36 ?_
    refine g_aload_n 38 hC (j := 0) (hj := rfl) (hd := d_BitReader_bit_38) ?_
    refine g_get 39 hC i_BitReader rfl 0 rfl 2 (by decide) k330 rfl d_BitReader_bit_39 ?_
    refine g_bipush 42 hC (7 : Int32) (by decide) d_BitReader_bit_42 ?_
    refine g_iand 44 hC d_BitReader_bit_44 ?_
    refine g_isub 45 hC d_BitReader_bit_45 ?_
    refine g_ishr 46 hC d_BitReader_bit_46 ?_
    refine g_iconst 47 hC (1 : Int32) (by decide) d_BitReader_bit_47 ?_
    refine g_iand 48 hC d_BitReader_bit_48 ?_
    refine g_istore_n 49 hC (lv2 := [(1, .int ((u2 >>> (((7 : Int32) - (x_a0_at &&& (7 : Int32))) &&& 31)) &&& (1 : Int32))), (0, .ref q_a0)]) (hn := (by decide)) (hl2 := rfl) (hd := d_BitReader_bit_49) ?_
    refine g_aload_n 50 hC (j := 1) (hj := rfl) (hd := d_BitReader_bit_50) ?_
    refine g_dup 51 hC rfl d_BitReader_bit_51 ?_
    refine g_get 52 hC i_BitReader rfl 0 rfl 2 (by decide) k330 rfl d_BitReader_bit_52 ?_
    refine g_iconst 55 hC (1 : Int32) (by decide) d_BitReader_bit_55 ?_
    refine g_iadd 56 hC d_BitReader_bit_56 ?_
    refine g_put 57 hC i_BitReader rfl 0 rfl 2 (by decide) t_BitReader tk_BitReader n_BitReader k330 rfl rfl rfl (Nat.le_of_ble_eq_true rfl) [(q_a0, .inr (1, [.ref q_a0_row, .int x_a0_end, .int (x_a0_at + (1 : Int32)), .int x_a0_taken, .int x_a0_fault, .int x_a0_faultAt])), (q_a0_row, .inr (4, [.ref q_a0_row_bytes, .int x_a0_row_count])), (q_a0_row_bytes, .inl (g_K C 0, n_a0_row_bytes, .inl f_a0_row_bytes))] rfl d_BitReader_bit_57 ?_
    refine g_iload_n 60 hC (j := 0) (hj := rfl) (hd := d_BitReader_bit_60) ?_
    exact g_re [0, 1, 2] [] rfl rfl rfl (kr () (((u2 >>> (((7 : Int32) - (x_a0_at &&& (7 : Int32))) &&& 31)) &&& (1 : Int32)), x_a0_fault, x_a0_faultAt, (x_a0_at + (1 : Int32))) 61 [] (Option.some.inj hf) d_BitReader_bit_61 rfl)
  · have hf := it_f c1 hf
    refine g_aload_n 11 hC (j := 0) (hj := rfl) (hd := d_BitReader_bit_11) ?_
    refine g_iconst 12 hC (2 : Int32) (by decide) d_BitReader_bit_12 ?_
    refine g_aload_n 13 hC (j := 0) (hj := rfl) (hd := d_BitReader_bit_13) ?_
    refine g_get 14 hC i_BitReader rfl 0 rfl 1 (by decide) k328 rfl d_BitReader_bit_14 ?_
    obtain ⟨u3, hu3, hf⟩ := bd_some hf
    refine g_callVi 17 hC (c_BitReader_fail (g_l C) (g_D C) (g_K C) q_a0 q_a0_row x_a0_end x_a0_at x_a0_taken x_a0_fault x_a0_faultAt (2 : Int32) x_a0_end u3 hu3) k1102 k13 k1099 k1100 k1101 2 rfl (by decide +kernel) (by decide) [0] [1, 2] [(q_a0_row, .inr (4, [.ref q_a0_row_bytes, .int x_a0_row_count])), (q_a0_row_bytes, .inl (g_K C 0, n_a0_row_bytes, .inl f_a0_row_bytes))] rfl rfl rfl rfl rfl 0 1 rfl rfl rfl rfl (Nat.le_of_ble_eq_true rfl) ⟨Nat.le_of_ble_eq_true rfl, Nat.le_of_ble_eq_true rfl⟩ (fun (_ : Unit) => [(q_a0_row, .inr (4, [.ref q_a0_row_bytes, .int x_a0_row_count])), (q_a0_row_bytes, .inl (g_K C 0, n_a0_row_bytes, .inl f_a0_row_bytes)), (q_a0, .inr (1, [.ref q_a0_row, .int x_a0_end, .int x_a0_at, .int x_a0_taken, .int u3.2.1, .int u3.2.2]))]) (fun _ => rfl) d_BitReader_bit_17 0 0 rfl rfl (fun _ => ?_)
    refine g_pop 20 hC rfl d_BitReader_bit_20 ?_
    refine g_iconst 21 hC (-1 : Int32) (by decide) d_BitReader_bit_21 ?_
    exact g_re [2, 0, 1] [] rfl rfl rfl (kr () ((-1 : Int32), u3.2.1, u3.2.2, x_a0_at) 22 [] (Option.some.inj hf) d_BitReader_bit_22 rfl)
theorem c_BitReader_bit (l : Launch) (D : va_G) (K : Nat → ClassId) (q_a0 : Nat) (q_a0_row : Nat) (x_a0_end : Int32) (x_a0_at : Int32) (x_a0_taken : Int32) (x_a0_fault : Int32) (x_a0_faultAt : Int32) (q_a0_row_bytes : Nat) (x_a0_row_count : Int32) (n_a0_row_bytes : Nat) (f_a0_row_bytes : (Nat → Int32)) (out : (Int32 × Int32 × Int32 × Int32)) (hf : BitReader_bit_f x_a0_at x_a0_end x_a0_row_count n_a0_row_bytes f_a0_row_bytes x_a0_fault x_a0_faultAt = some out) : Ci l D K y_BitReader_bit (g_wd y_BitReader_bit b_BitReader_bit 2 (some .int)) { frames := 1, cells := 0, slots := 0, locals := 22 } [.ref q_a0] [(q_a0, .inr (1, [.ref q_a0_row, .int x_a0_end, .int x_a0_at, .int x_a0_taken, .int x_a0_fault, .int x_a0_faultAt])), (q_a0_row, .inr (4, [.ref q_a0_row_bytes, .int x_a0_row_count])), (q_a0_row_bytes, .inl (K 0, n_a0_row_bytes, .inl f_a0_row_bytes))] (fun (x : Unit) => [(q_a0, .inr (1, [.ref q_a0_row, .int x_a0_end, .int out.2.2.2, .int x_a0_taken, .int out.2.1, .int out.2.2.1])), (q_a0_row, .inr (4, [.ref q_a0_row_bytes, .int x_a0_row_count])), (q_a0_row_bytes, .inl (K 0, n_a0_row_bytes, .inl f_a0_row_bytes))]) out.1 := mk_i (by decide) (Nat.le_of_ble_eq_true rfl) (fun p e s m below meth c A Q hC kr => m_BitReader_bit hC q_a0 q_a0_row x_a0_end x_a0_at x_a0_taken x_a0_fault x_a0_faultAt q_a0_row_bytes x_a0_row_count n_a0_row_bytes f_a0_row_bytes out hf (fun x o9 pc lv ho => by subst ho; exact kr x pc lv))
abbrev b_BitReader_take : ByteArray := prog_2_method_5_code
def y_BitReader_take : MethodName := ⟨R_BitReader, "take", "(I)Z"⟩
theorem d_BitReader_take_0 : decode b_BitReader_take 0 = .ok (.aload_n 0, 1) := by decide +kernel
theorem d_BitReader_take_1 : decode b_BitReader_take 1 = .ok (.iconst 0, 1) := by decide +kernel
theorem d_BitReader_take_2 : decode b_BitReader_take 2 = .ok (.putfield 22, 3) := by decide +kernel
theorem d_BitReader_take_5 : decode b_BitReader_take 5 = .ok (.iconst 0, 1) := by decide +kernel
theorem d_BitReader_take_6 : decode b_BitReader_take 6 = .ok (.istore_n 2, 1) := by decide +kernel
theorem d_BitReader_take_7 : decode b_BitReader_take 7 = .ok (.iload_n 2, 1) := by decide +kernel
theorem d_BitReader_take_8 : decode b_BitReader_take 8 = .ok (.iload_n 1, 1) := by decide +kernel
theorem d_BitReader_take_9 : decode b_BitReader_take 9 = .ok (.if_icmp .ge 33, 3) := by decide +kernel
theorem d_BitReader_take_12 : decode b_BitReader_take 12 = .ok (.aload_n 0, 1) := by decide +kernel
theorem d_BitReader_take_13 : decode b_BitReader_take 13 = .ok (.invokevirtual 44, 3) := by decide +kernel
theorem d_BitReader_take_16 : decode b_BitReader_take 16 = .ok (.istore_n 3, 1) := by decide +kernel
theorem d_BitReader_take_17 : decode b_BitReader_take 17 = .ok (.iload_n 3, 1) := by decide +kernel
theorem d_BitReader_take_18 : decode b_BitReader_take 18 = .ok (.iconst (-1), 1) := by decide +kernel
theorem d_BitReader_take_19 : decode b_BitReader_take 19 = .ok (.if_icmp .ne 5, 3) := by decide +kernel
theorem d_BitReader_take_22 : decode b_BitReader_take 22 = .ok (.iconst 0, 1) := by decide +kernel
theorem d_BitReader_take_23 : decode b_BitReader_take 23 = .ok (.ireturn, 1) := by decide +kernel
theorem d_BitReader_take_24 : decode b_BitReader_take 24 = .ok (.aload_n 0, 1) := by decide +kernel
theorem d_BitReader_take_25 : decode b_BitReader_take 25 = .ok (.aload_n 0, 1) := by decide +kernel
theorem d_BitReader_take_26 : decode b_BitReader_take 26 = .ok (.getfield 22, 3) := by decide +kernel
theorem d_BitReader_take_29 : decode b_BitReader_take 29 = .ok (.iconst 1, 1) := by decide +kernel
theorem d_BitReader_take_30 : decode b_BitReader_take 30 = .ok (.ishl, 1) := by decide +kernel
theorem d_BitReader_take_31 : decode b_BitReader_take 31 = .ok (.iload_n 3, 1) := by decide +kernel
theorem d_BitReader_take_32 : decode b_BitReader_take 32 = .ok (.ior, 1) := by decide +kernel
theorem d_BitReader_take_33 : decode b_BitReader_take 33 = .ok (.putfield 22, 3) := by decide +kernel
theorem d_BitReader_take_36 : decode b_BitReader_take 36 = .ok (.iinc 2 1, 3) := by decide +kernel
theorem d_BitReader_take_39 : decode b_BitReader_take 39 = .ok (.goto (-32), 3) := by decide +kernel
theorem d_BitReader_take_42 : decode b_BitReader_take 42 = .ok (.iconst 1, 1) := by decide +kernel
theorem d_BitReader_take_43 : decode b_BitReader_take 43 = .ok (.ireturn, 1) := by decide +kernel
theorem k1098 : (Jvm.Cond.code ({ cls := "RotationPress$BitReader", name := "bit", desc := "()I" } : Jvm.MethodName) prog_2_method_4_code (2 : Nat) (Option.some Jvm.ClassFile.FieldType.int)) ∈ g_tbl := List.mem_filter.mpr ⟨List.mem_append_right (k2_sels lw_privs) (List.mem_append_right _ (List.mem_append_right _ (List.mem_append_right _ (List.mem_append_right _ (List.mem_append_left _ (List.mem_of_getElem? (l := tables_1_5) (i := 138) rfl)))))), rfl⟩
theorem k1095 : (Jvm.Cond.methodLink "RotationPress$BitReader" (44 : Nat) ({ cls := "RotationPress$BitReader", name := "bit", desc := "()I" } : Jvm.MethodName)) ∈ g_tbl := List.mem_filter.mpr ⟨List.mem_append_right (k2_sels lw_privs) (List.mem_append_right _ (List.mem_append_right _ (List.mem_append_right _ (List.mem_append_right _ (List.mem_append_left _ (List.mem_of_getElem? (l := tables_1_5) (i := 135) rfl)))))), rfl⟩
theorem k1096 : (Jvm.Cond.instanceMethod ({ cls := "RotationPress$BitReader", name := "bit", desc := "()I" } : Jvm.MethodName)) ∈ g_tbl := List.mem_filter.mpr ⟨List.mem_append_right (k2_sels lw_privs) (List.mem_append_right _ (List.mem_append_right _ (List.mem_append_right _ (List.mem_append_right _ (List.mem_append_left _ (List.mem_of_getElem? (l := tables_1_5) (i := 136) rfl)))))), rfl⟩
theorem k1097 : (Jvm.Cond.selects "RotationPress$BitReader" ({ cls := "RotationPress$BitReader", name := "bit", desc := "()I" } : Jvm.MethodName) ({ cls := "RotationPress$BitReader", name := "bit", desc := "()I" } : Jvm.MethodName)) ∈ g_tbl := List.mem_filter.mpr ⟨List.mem_append_right (k2_sels lw_privs) (List.mem_append_right _ (List.mem_append_right _ (List.mem_append_right _ (List.mem_append_right _ (List.mem_append_left _ (List.mem_of_getElem? (l := tables_1_5) (i := 137) rfl)))))), rfl⟩
set_option maxRecDepth 100000 in
set_option maxHeartbeats 4000000 in
theorem m_BitReader_take {C : gT} (hC : gOk C b_BitReader_take R_BitReader { frames := 2, cells := 0, slots := 0, locals := 43 } 4) (q_a0 : Nat) (q_a0_row : Nat) (x_a0_end : Int32) (x_a0_at : Int32) (x_a0_taken : Int32) (x_a0_fault : Int32) (x_a0_faultAt : Int32) (q_a0_row_bytes : Nat) (x_a0_row_count : Int32) (n_a0_row_bytes : Nat) (f_a0_row_bytes : (Nat → Int32)) (p1 : Int32) (out : (Int32 × Int32 × Int32 × Int32 × Int32)) (hf : BitReader_take_f p1 x_a0_end x_a0_row_count n_a0_row_bytes f_a0_row_bytes x_a0_fault x_a0_faultAt x_a0_at = some out) (kr : ∀ (x : Unit) (o9 : (Int32 × Int32 × Int32 × Int32 × Int32)) (pc : Nat) (lv : List (Nat × Value)), o9 = out → decode b_BitReader_take pc = .ok (.ireturn, 1) → narrow .boolean (.int o9.1) = .int o9.1 → gAt C 0 0 [(q_a0, .inr (1, [.ref q_a0_row, .int x_a0_end, .int o9.2.2.2.2, .int o9.2.1, .int o9.2.2.1, .int o9.2.2.2.1])), (q_a0_row, .inr (4, [.ref q_a0_row_bytes, .int x_a0_row_count])), (q_a0_row_bytes, .inl (g_K C 0, n_a0_row_bytes, .inl f_a0_row_bytes))] lv pc [.int o9.1]) : gAt C 0 0 [(q_a0, .inr (1, [.ref q_a0_row, .int x_a0_end, .int x_a0_at, .int x_a0_taken, .int x_a0_fault, .int x_a0_faultAt])), (q_a0_row, .inr (4, [.ref q_a0_row_bytes, .int x_a0_row_count])), (q_a0_row_bytes, .inl (g_K C 0, n_a0_row_bytes, .inl f_a0_row_bytes))] [(0, .ref q_a0), (1, .int p1)] 0 [] := by
  unfold BitReader_take_f at hf
  refine g_aload_n 0 hC (j := 0) (hj := rfl) (hd := d_BitReader_take_0) ?_
  refine g_iconst 1 hC (0 : Int32) (by decide) d_BitReader_take_1 ?_
  refine g_put 2 hC i_BitReader rfl 0 rfl 3 (by decide) t_BitReader tk_BitReader n_BitReader k333 rfl rfl rfl (Nat.le_of_ble_eq_true rfl) [(q_a0, .inr (1, [.ref q_a0_row, .int x_a0_end, .int x_a0_at, .int (0 : Int32), .int x_a0_fault, .int x_a0_faultAt])), (q_a0_row, .inr (4, [.ref q_a0_row_bytes, .int x_a0_row_count])), (q_a0_row_bytes, .inl (g_K C 0, n_a0_row_bytes, .inl f_a0_row_bytes))] rfl d_BitReader_take_2 ?_
  refine g_iconst 5 hC (0 : Int32) (by decide) d_BitReader_take_5 ?_
  refine g_istore_n 6 hC (lv2 := [(2, .int (0 : Int32)), (0, .ref q_a0), (1, .int p1)]) (hn := (by decide)) (hl2 := rfl) (hd := d_BitReader_take_6) ?_
  obtain ⟨u2, hu2, hf⟩ := bd_some hf
  have Xu2_0 : ∀ (v3 : (Int32 × Int32 × Int32 × Int32)), Sum.inl v3 = u2 → gAt C 0 0 [(q_a0, .inr (1, [.ref q_a0_row, .int x_a0_end, .int v3.2.2.2, .int v3.1, .int v3.2.1, .int v3.2.2.1])), (q_a0_row, .inr (4, [.ref q_a0_row_bytes, .int x_a0_row_count])), (q_a0_row_bytes, .inl (g_K C 0, n_a0_row_bytes, .inl f_a0_row_bytes))] [] 22 [] := by
    intro v3 hv
    rw [← hv] at hf
    have hf := el_l hf
    refine g_iconst 22 hC (0 : Int32) (by decide) d_BitReader_take_22 ?_
    exact kr () ((0 : Int32), v3.1, v3.2.1, v3.2.2.1, v3.2.2.2) 23 [] (Option.some.inj hf) d_BitReader_take_23 (bl_nar (x := (0 : Int32)) (by decide))
  have Xu2_1 : ∀ (v4 : (Int32 × Int32 × Int32 × Int32)), Sum.inr v4 = u2 → gAt C 0 0 [(q_a0, .inr (1, [.ref q_a0_row, .int x_a0_end, .int v4.2.2.2, .int v4.1, .int v4.2.1, .int v4.2.2.1])), (q_a0_row, .inr (4, [.ref q_a0_row_bytes, .int x_a0_row_count])), (q_a0_row_bytes, .inl (g_K C 0, n_a0_row_bytes, .inl f_a0_row_bytes))] [] 42 [] := by
    intro v4 hv
    rw [← hv] at hf
    have hf := el_r hf
    refine g_iconst 42 hC (1 : Int32) (by decide) d_BitReader_take_42 ?_
    exact kr () ((1 : Int32), v4.1, v4.2.1, v4.2.2.1, v4.2.2.2) 43 [] (Option.some.inj hf) d_BitReader_take_43 (bl_nar (x := (1 : Int32)) (by decide))
  have Gu2 := lp_ind (b := (BitReader_take_L7 p1 x_a0_end x_a0_row_count n_a0_row_bytes f_a0_row_bytes)) (G := fun (s1 : (Int32 × Int32 × Int32 × Int32 × Int32)) => gAt C 0 0 [(q_a0, .inr (1, [.ref q_a0_row, .int x_a0_end, .int s1.2.2.2.2, .int s1.2.1, .int s1.2.2.1, .int s1.2.2.2.1])), (q_a0_row, .inr (4, [.ref q_a0_row_bytes, .int x_a0_row_count])), (q_a0_row_bytes, .inl (g_K C 0, n_a0_row_bytes, .inl f_a0_row_bytes))] [(0, .ref q_a0), (1, .int p1), (2, .int s1.1)] 7 []) (o := u2) (by
      intro s1 u5 hf hI hX
      unfold BitReader_take_L7 at hf
      refine g_iload_n 7 hC (j := 2) (hj := rfl) (hd := d_BitReader_take_7) ?_
      refine g_iload_n 8 hC (j := 1) (hj := rfl) (hd := d_BitReader_take_8) ?_
      refine g_icmp_ge 9 hC 42 (by decide) d_BitReader_take_9 (fun c6 => ?_) (fun c6 => ?_)
      · have hf := it_t c6 hf
        exact g_re [0, 1, 2] [] rfl rfl rfl (Xu2_1 (s1.2.1, s1.2.2.1, s1.2.2.2.1, s1.2.2.2.2) (hX (Sum.inr (s1.2.1, s1.2.2.1, s1.2.2.2.1, s1.2.2.2.2)) hf))
      · have hf := it_f c6 hf
        refine g_aload_n 12 hC (j := 0) (hj := rfl) (hd := d_BitReader_take_12) ?_
        obtain ⟨u7, hu7, hf⟩ := bd_some hf
        refine g_callVi 13 hC (c_BitReader_bit (g_l C) (g_D C) (g_K C) q_a0 q_a0_row x_a0_end s1.2.2.2.2 s1.2.1 s1.2.2.1 s1.2.2.2.1 q_a0_row_bytes x_a0_row_count n_a0_row_bytes f_a0_row_bytes u7 hu7) k1098 k13 k1095 k1096 k1097 0 rfl (by decide +kernel) (by decide) [0, 1, 2] [] [] rfl rfl rfl rfl rfl 0 1 rfl rfl rfl rfl (Nat.le_of_ble_eq_true rfl) ⟨Nat.le_of_ble_eq_true rfl, Nat.le_of_ble_eq_true rfl⟩ (fun (_ : Unit) => [(q_a0, .inr (1, [.ref q_a0_row, .int x_a0_end, .int u7.2.2.2, .int s1.2.1, .int u7.2.1, .int u7.2.2.1])), (q_a0_row, .inr (4, [.ref q_a0_row_bytes, .int x_a0_row_count])), (q_a0_row_bytes, .inl (g_K C 0, n_a0_row_bytes, .inl f_a0_row_bytes))]) (fun _ => rfl) d_BitReader_take_13 0 0 rfl rfl (fun _ => ?_)
        refine g_istore_n 16 hC (lv2 := [(3, .int u7.1), (0, .ref q_a0), (1, .int p1), (2, .int s1.1)]) (hn := (by decide)) (hl2 := rfl) (hd := d_BitReader_take_16) ?_
        refine g_iload_n 17 hC (j := 0) (hj := rfl) (hd := d_BitReader_take_17) ?_
        refine g_iconst 18 hC (-1 : Int32) (by decide) d_BitReader_take_18 ?_
        refine g_icmp_ne 19 hC 24 (by decide) d_BitReader_take_19 (fun c8 => ?_) (fun c8 => ?_)
        · have hf := it_f c8 hf
          refine g_aload_n 24 hC (j := 1) (hj := rfl) (hd := d_BitReader_take_24) ?_
          refine g_aload_n 25 hC (j := 1) (hj := rfl) (hd := d_BitReader_take_25) ?_
          refine g_get 26 hC i_BitReader rfl 0 rfl 3 (by decide) k333 rfl d_BitReader_take_26 ?_
          refine g_iconst 29 hC (1 : Int32) (by decide) d_BitReader_take_29 ?_
          refine g_ishl 30 hC d_BitReader_take_30 ?_
          refine g_iload_n 31 hC (j := 0) (hj := rfl) (hd := d_BitReader_take_31) ?_
          refine g_ior 32 hC d_BitReader_take_32 ?_
          refine g_put 33 hC i_BitReader rfl 0 rfl 3 (by decide) t_BitReader tk_BitReader n_BitReader k333 rfl rfl rfl (Nat.le_of_ble_eq_true rfl) [(q_a0, .inr (1, [.ref q_a0_row, .int x_a0_end, .int u7.2.2.2, .int ((s1.2.1 <<< ((1 : Int32) &&& 31)) ||| u7.1), .int u7.2.1, .int u7.2.2.1])), (q_a0_row, .inr (4, [.ref q_a0_row_bytes, .int x_a0_row_count])), (q_a0_row_bytes, .inl (g_K C 0, n_a0_row_bytes, .inl f_a0_row_bytes))] rfl d_BitReader_take_33 ?_
          refine g_iinc 36 hC 3 (1 : Int32) [(2, .int (s1.1 + (1 : Int32))), (3, .int u7.1), (0, .ref q_a0), (1, .int p1)] rfl (by decide) (by decide) rfl d_BitReader_take_36 ?_
          refine g_goto 39 hC 7 (by decide) d_BitReader_take_39 ?_
          exact g_re [0, 1, 2] [2, 3, 0] rfl rfl rfl (hI ((s1.1 + (1 : Int32)), ((s1.2.1 <<< ((1 : Int32) &&& 31)) ||| u7.1), u7.2.1, u7.2.2.1, u7.2.2.2) hf)
        · have hf := it_t c8 hf
          exact g_re [0, 1, 2] [] rfl rfl rfl (Xu2_0 (s1.2.1, u7.2.1, u7.2.2.1, u7.2.2.2) (hX (Sum.inl (s1.2.1, u7.2.1, u7.2.2.1, u7.2.2.2)) hf))) gas
  exact g_re [0, 1, 2] [1, 2, 0] rfl rfl rfl (Gu2 ((0 : Int32), (0 : Int32), x_a0_fault, x_a0_faultAt, x_a0_at) hu2)
theorem c_BitReader_take (l : Launch) (D : va_G) (K : Nat → ClassId) (q_a0 : Nat) (q_a0_row : Nat) (x_a0_end : Int32) (x_a0_at : Int32) (x_a0_taken : Int32) (x_a0_fault : Int32) (x_a0_faultAt : Int32) (q_a0_row_bytes : Nat) (x_a0_row_count : Int32) (n_a0_row_bytes : Nat) (f_a0_row_bytes : (Nat → Int32)) (p1 : Int32) (out : (Int32 × Int32 × Int32 × Int32 × Int32)) (hf : BitReader_take_f p1 x_a0_end x_a0_row_count n_a0_row_bytes f_a0_row_bytes x_a0_fault x_a0_faultAt x_a0_at = some out) : Ci l D K y_BitReader_take (g_wd y_BitReader_take b_BitReader_take 4 (some .boolean)) { frames := 2, cells := 0, slots := 0, locals := 43 } [.ref q_a0, .int p1] [(q_a0, .inr (1, [.ref q_a0_row, .int x_a0_end, .int x_a0_at, .int x_a0_taken, .int x_a0_fault, .int x_a0_faultAt])), (q_a0_row, .inr (4, [.ref q_a0_row_bytes, .int x_a0_row_count])), (q_a0_row_bytes, .inl (K 0, n_a0_row_bytes, .inl f_a0_row_bytes))] (fun (x : Unit) => [(q_a0, .inr (1, [.ref q_a0_row, .int x_a0_end, .int out.2.2.2.2, .int out.2.1, .int out.2.2.1, .int out.2.2.2.1])), (q_a0_row, .inr (4, [.ref q_a0_row_bytes, .int x_a0_row_count])), (q_a0_row_bytes, .inl (K 0, n_a0_row_bytes, .inl f_a0_row_bytes))]) out.1 := mk_i (by decide) (Nat.le_of_ble_eq_true rfl) (fun p e s m below meth c A Q hC kr => m_BitReader_take hC q_a0 q_a0_row x_a0_end x_a0_at x_a0_taken x_a0_fault x_a0_faultAt q_a0_row_bytes x_a0_row_count n_a0_row_bytes f_a0_row_bytes p1 out hf (fun x o9 pc lv ho => by subst ho; exact kr x pc lv))
