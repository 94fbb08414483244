abbrev b_ByteRow_add : ByteArray := prog_5_method_4_code
def y_ByteRow_add : MethodName := ⟨R_ByteRow, "add", "(I)V"⟩
theorem d_ByteRow_add_0 : decode b_ByteRow_add 0 = .ok (.aload_n 0, 1) := by decide +kernel
theorem d_ByteRow_add_1 : decode b_ByteRow_add 1 = .ok (.getfield 21, 3) := by decide +kernel
theorem d_ByteRow_add_4 : decode b_ByteRow_add 4 = .ok (.aload_n 0, 1) := by decide +kernel
theorem d_ByteRow_add_5 : decode b_ByteRow_add 5 = .ok (.getfield 15, 3) := by decide +kernel
theorem d_ByteRow_add_8 : decode b_ByteRow_add 8 = .ok (.arraylength, 1) := by decide +kernel
theorem d_ByteRow_add_9 : decode b_ByteRow_add 9 = .ok (.if_icmp .lt 21, 3) := by decide +kernel
theorem d_ByteRow_add_12 : decode b_ByteRow_add 12 = .ok (.aload_n 0, 1) := by decide +kernel
theorem d_ByteRow_add_13 : decode b_ByteRow_add 13 = .ok (.aload_n 0, 1) := by decide +kernel
theorem d_ByteRow_add_14 : decode b_ByteRow_add 14 = .ok (.getfield 15, 3) := by decide +kernel
theorem d_ByteRow_add_17 : decode b_ByteRow_add 17 = .ok (.iconst 2, 1) := by decide +kernel
theorem d_ByteRow_add_18 : decode b_ByteRow_add 18 = .ok (.aload_n 0, 1) := by decide +kernel
theorem d_ByteRow_add_19 : decode b_ByteRow_add 19 = .ok (.getfield 15, 3) := by decide +kernel
theorem d_ByteRow_add_22 : decode b_ByteRow_add 22 = .ok (.arraylength, 1) := by decide +kernel
theorem d_ByteRow_add_23 : decode b_ByteRow_add 23 = .ok (.imul, 1) := by decide +kernel
theorem d_ByteRow_add_24 : decode b_ByteRow_add 24 = .ok (.invokestatic 25, 3) := by decide +kernel
theorem d_ByteRow_add_27 : decode b_ByteRow_add 27 = .ok (.putfield 15, 3) := by decide +kernel
theorem d_ByteRow_add_30 : decode b_ByteRow_add 30 = .ok (.aload_n 0, 1) := by decide +kernel
theorem d_ByteRow_add_31 : decode b_ByteRow_add 31 = .ok (.getfield 15, 3) := by decide +kernel
theorem d_ByteRow_add_34 : decode b_ByteRow_add 34 = .ok (.aload_n 0, 1) := by decide +kernel
theorem d_ByteRow_add_35 : decode b_ByteRow_add 35 = .ok (.getfield 21, 3) := by decide +kernel
theorem d_ByteRow_add_38 : decode b_ByteRow_add 38 = .ok (.iload_n 1, 1) := by decide +kernel
theorem d_ByteRow_add_39 : decode b_ByteRow_add 39 = .ok (.iastore, 1) := by decide +kernel
theorem d_ByteRow_add_40 : decode b_ByteRow_add 40 = .ok (.aload_n 0, 1) := by decide +kernel
theorem d_ByteRow_add_41 : decode b_ByteRow_add 41 = .ok (.dup, 1) := by decide +kernel
theorem d_ByteRow_add_42 : decode b_ByteRow_add 42 = .ok (.getfield 21, 3) := by decide +kernel
theorem d_ByteRow_add_45 : decode b_ByteRow_add 45 = .ok (.iconst 1, 1) := by decide +kernel
theorem d_ByteRow_add_46 : decode b_ByteRow_add 46 = .ok (.iadd, 1) := by decide +kernel
theorem d_ByteRow_add_47 : decode b_ByteRow_add 47 = .ok (.putfield 21, 3) := by decide +kernel
theorem d_ByteRow_add_50 : decode b_ByteRow_add 50 = .ok (.return_, 1) := by decide +kernel
theorem k535 : (Jvm.Cond.code ({ cls := "java/util/Arrays", name := "copyOf", desc := "([II)[I" } : Jvm.MethodName) prog_31_method_123_code (3 : Nat) (Option.some (Jvm.ClassFile.FieldType.array Jvm.ClassFile.FieldType.int))) ∈ g_tbl := List.mem_filter.mpr ⟨List.mem_append_right (k2_sels lw_privs) (List.mem_append_right _ (List.mem_append_right _ (List.mem_append_left _ (List.mem_of_getElem? (l := tables_1_3) (i := 55) rfl)))), rfl⟩
theorem k533 : (Jvm.Cond.methodLink "RotationPress$ByteRow" (25 : Nat) ({ cls := "java/util/Arrays", name := "copyOf", desc := "([II)[I" } : Jvm.MethodName)) ∈ g_tbl := List.mem_filter.mpr ⟨List.mem_append_right (k2_sels lw_privs) (List.mem_append_right _ (List.mem_append_right _ (List.mem_append_left _ (List.mem_of_getElem? (l := tables_1_3) (i := 53) rfl)))), rfl⟩
theorem k534 : (Jvm.Cond.static ({ cls := "java/util/Arrays", name := "copyOf", desc := "([II)[I" } : Jvm.MethodName)) ∈ g_tbl := List.mem_filter.mpr ⟨List.mem_append_right (k2_sels lw_privs) (List.mem_append_right _ (List.mem_append_right _ (List.mem_append_left _ (List.mem_of_getElem? (l := tables_1_3) (i := 54) rfl)))), rfl⟩
theorem ByteRow_add_J30_mo {x_a0_count : Int32} {p1 : Int32} {j30_0 : Nat} {j30_1 : (Nat → Int32)} {o : (Nat × (Nat → Int32) × Int32)} (h : ByteRow_add_J30 x_a0_count p1 j30_0 j30_1 = some o) : j30_0 ≤ (fun (o : (Nat × (Nat → Int32) × Int32)) => o.1) o := by
  unfold ByteRow_add_J30 at h
  obtain ⟨_, h⟩ := gd_some h
  exact mo_leaf (L := (fun (o : (Nat × (Nat → Int32) × Int32)) => o.1)) h (show j30_0 ≤ j30_0 by omega)
theorem ByteRow_add_f_mo {x_a0_count : Int32} {n_a0_bytes : Nat} {p1 : Int32} {f_a0_bytes : (Nat → Int32)} {o : (Nat × (Nat → Int32) × Int32)} (h : ByteRow_add_f x_a0_count n_a0_bytes p1 f_a0_bytes = some o) : n_a0_bytes ≤ (fun (o : (Nat × (Nat → Int32) × Int32)) => o.1) o := by
  unfold ByteRow_add_f at h
  by_cases c2 : x_a0_count < (Int32.ofNat n_a0_bytes)
  · have h := it_t c2 h
    exact Nat.le_trans (show n_a0_bytes ≤ n_a0_bytes by omega) (ByteRow_add_J30_mo h)
  · have h := it_f c2 h
    obtain ⟨e3, h⟩ := gd_some h
    have le3 := cok_le e3
    exact Nat.le_trans (show n_a0_bytes ≤ ((2 : Int32) * (Int32.ofNat n_a0_bytes)).toNatClampNeg by omega) (ByteRow_add_J30_mo h)
set_option maxRecDepth 100000 in
set_option maxHeartbeats 4000000 in
theorem m_ByteRow_add {C : gT} (q_a0 : Nat) (q_a0_bytes : Nat) (x_a0_count : Int32) (n_a0_bytes : Nat) (f_a0_bytes : (Nat → Int32)) (p1 : Int32) (out : (Nat × (Nat → Int32) × Int32)) (hC : gOk C b_ByteRow_add R_ByteRow { frames := 2, cells := out.1 - n_a0_bytes, slots := 2 * (out.1 - n_a0_bytes), locals := 67 } 2) (hf : ByteRow_add_f x_a0_count n_a0_bytes p1 f_a0_bytes = some out) (kr : ∀ (x : Nat) (o9 : (Nat × (Nat → Int32) × Int32)) (pc : Nat) (lv : List (Nat × Value)), o9 = out → decode b_ByteRow_add pc = .ok (.return_, 1) → gAt C (o9.1 - n_a0_bytes) (2 * (o9.1 - n_a0_bytes)) [(q_a0, .inr (4, [.ref x, .int o9.2.2])), (x, .inl (g_K C 0, o9.1, .inl o9.2.1))] lv pc []) : gAt C 0 0 [(q_a0, .inr (4, [.ref q_a0_bytes, .int x_a0_count])), (q_a0_bytes, .inl (g_K C 0, n_a0_bytes, .inl f_a0_bytes))] [(0, .ref q_a0), (1, .int p1)] 0 [] := by
  have hle : n_a0_bytes ≤ n_a0_bytes := Nat.le_refl _
  have hfi : n_a0_bytes ≤ out.1 := ByteRow_add_f_mo hf
  refine g_wide (n_a0_bytes - n_a0_bytes) (2 * (n_a0_bytes - n_a0_bytes)) (Nat.zero_le _) (Nat.zero_le _) ?_
  unfold ByteRow_add_f at hf
  have J30 : ∀ (j30_0 : Nat) (j30_1 : (Nat → Int32)) (y30_a0_bytes : Nat), n_a0_bytes ≤ j30_0 → ByteRow_add_J30 x_a0_count p1 j30_0 j30_1 = some out → gAt C (j30_0 - n_a0_bytes) (2 * (j30_0 - n_a0_bytes)) [(q_a0, .inr (4, [.ref y30_a0_bytes, .int x_a0_count])), (y30_a0_bytes, .inl (g_K C 0, j30_0, .inl j30_1))] [(0, .ref q_a0), (1, .int p1)] 30 [] := by
    intro j30_0 j30_1 y30_a0_bytes hle hf
    have hfi : j30_0 ≤ out.1 := by
      exact ByteRow_add_J30_mo hf
    unfold ByteRow_add_J30 at hf
    refine g_aload_n 30 hC (j := 0) (hj := rfl) (hd := d_ByteRow_add_30) ?_
    refine g_get 31 hC i_ByteRow rfl 0 rfl 0 (by decide) k49 rfl d_ByteRow_add_31 ?_
    refine g_aload_n 34 hC (j := 0) (hj := rfl) (hd := d_ByteRow_add_34) ?_
    refine g_get 35 hC i_ByteRow rfl 0 rfl 1 (by decide) k50 rfl d_ByteRow_add_35 ?_
    refine g_iload_n 38 hC (j := 1) (hj := rfl) (hd := d_ByteRow_add_38) ?_
    obtain ⟨e1, hf⟩ := gd_some hf
    refine g_iast 39 hC 1 rfl e1 [(q_a0, .inr (4, [.ref y30_a0_bytes, .int x_a0_count])), (y30_a0_bytes, .inl (g_K C 0, j30_0, .inl (upd j30_1 x_a0_count.toNatClampNeg p1)))] rfl d_ByteRow_add_39 ?_
    refine g_aload_n 40 hC (j := 0) (hj := rfl) (hd := d_ByteRow_add_40) ?_
    refine g_dup 41 hC rfl d_ByteRow_add_41 ?_
    refine g_get 42 hC i_ByteRow rfl 0 rfl 1 (by decide) k50 rfl d_ByteRow_add_42 ?_
    refine g_iconst 45 hC (1 : Int32) (by decide) d_ByteRow_add_45 ?_
    refine g_iadd 46 hC d_ByteRow_add_46 ?_
    refine g_put 47 hC i_ByteRow rfl 0 rfl 1 (by decide) t_ByteRow tk_ByteRow n_ByteRow k50 rfl rfl rfl (Nat.le_of_ble_eq_true rfl) [(q_a0, .inr (4, [.ref y30_a0_bytes, .int (x_a0_count + (1 : Int32))])), (y30_a0_bytes, .inl (g_K C 0, j30_0, .inl (upd j30_1 x_a0_count.toNatClampNeg p1)))] rfl d_ByteRow_add_47 ?_
    exact g_re [0, 1] [] rfl rfl rfl (kr y30_a0_bytes (j30_0, (upd j30_1 x_a0_count.toNatClampNeg p1), (x_a0_count + (1 : Int32))) 50 [] (Option.some.inj hf) d_ByteRow_add_50)
  refine g_aload_n 0 hC (j := 0) (hj := rfl) (hd := d_ByteRow_add_0) ?_
  refine g_get 1 hC i_ByteRow rfl 0 rfl 1 (by decide) k50 rfl d_ByteRow_add_1 ?_
  refine g_aload_n 4 hC (j := 0) (hj := rfl) (hd := d_ByteRow_add_4) ?_
  refine g_get 5 hC i_ByteRow rfl 0 rfl 0 (by decide) k49 rfl d_ByteRow_add_5 ?_
  refine g_alen 8 hC 1 rfl d_ByteRow_add_8 ?_
  refine g_icmp_lt 9 hC 30 (by decide) d_ByteRow_add_9 (fun c2 => ?_) (fun c2 => ?_)
  · have hf := it_t c2 hf
    exact J30 n_a0_bytes f_a0_bytes q_a0_bytes hle hf
  · have hf := it_f c2 hf
    refine g_aload_n 12 hC (j := 0) (hj := rfl) (hd := d_ByteRow_add_12) ?_
    refine g_aload_n 13 hC (j := 0) (hj := rfl) (hd := d_ByteRow_add_13) ?_
    refine g_get 14 hC i_ByteRow rfl 0 rfl 0 (by decide) k49 rfl d_ByteRow_add_14 ?_
    refine g_iconst 17 hC (2 : Int32) (by decide) d_ByteRow_add_17 ?_
    refine g_aload_n 18 hC (j := 0) (hj := rfl) (hd := d_ByteRow_add_18) ?_
    refine g_get 19 hC i_ByteRow rfl 0 rfl 0 (by decide) k49 rfl d_ByteRow_add_19 ?_
    refine g_alen 22 hC 1 rfl d_ByteRow_add_22 ?_
    refine g_imul 23 hC d_ByteRow_add_23 ?_
    obtain ⟨e3, hf⟩ := gd_some hf
    have le3 := cok_le e3
    have hfi : ((2 : Int32) * (Int32.ofNat n_a0_bytes)).toNatClampNeg ≤ out.1 := by
      have h := hf
      exact Nat.le_trans (show ((2 : Int32) * (Int32.ofNat n_a0_bytes)).toNatClampNeg ≤ ((2 : Int32) * (Int32.ofNat n_a0_bytes)).toNatClampNeg by omega) (ByteRow_add_J30_mo h)
    refine g_callSr 24 hC (c_copyOf (g_l C) (g_D C) (g_K C) q_a0_bytes n_a0_bytes f_a0_bytes ((2 : Int32) * (Int32.ofNat n_a0_bytes)) e3) k535 k19 k533 k534 2 rfl (by decide +kernel) ⟨Nat.le_of_ble_eq_true rfl, Nat.le_of_ble_eq_true rfl⟩ [1] [0] [(q_a0, .inr (4, [.ref q_a0_bytes, .int x_a0_count]))] rfl rfl rfl rfl rfl rfl (Nat.le_of_ble_eq_true rfl) ⟨show (n_a0_bytes - n_a0_bytes) + 1 ≤ out.1 - n_a0_bytes by omega, show (2 * (n_a0_bytes - n_a0_bytes)) + ((2 : Int32) * (Int32.ofNat n_a0_bytes)).toNatClampNeg ≤ 2 * (out.1 - n_a0_bytes) by omega⟩ (fun (xae3 : Nat) => [(q_a0, .inr (4, [.ref q_a0_bytes, .int x_a0_count])), (q_a0_bytes, .inl (g_K C 0, n_a0_bytes, .inl f_a0_bytes)), (xae3, .inl (g_K C 0, ((2 : Int32) * (Int32.ofNat n_a0_bytes)).toNatClampNeg, .inl (va_cpy f_a0_bytes (fun _ => 0) 0 0 n_a0_bytes)))]) (fun _ => rfl) d_ByteRow_add_24 ((n_a0_bytes - n_a0_bytes) + 1) ((2 * (n_a0_bytes - n_a0_bytes)) + ((2 : Int32) * (Int32.ofNat n_a0_bytes)).toNatClampNeg) rfl rfl (fun xae3 => ?_)
    refine g_wide (((2 : Int32) * (Int32.ofNat n_a0_bytes)).toNatClampNeg - n_a0_bytes) (2 * (((2 : Int32) * (Int32.ofNat n_a0_bytes)).toNatClampNeg - n_a0_bytes)) (by omega) (by omega) ?_
    have hle : n_a0_bytes ≤ ((2 : Int32) * (Int32.ofNat n_a0_bytes)).toNatClampNeg := by omega
    refine g_put 27 hC i_ByteRow rfl 0 rfl 0 (by decide) t_ByteRow tk_ByteRow n_ByteRow k49 rfl rfl rfl (Nat.le_of_ble_eq_true rfl) [(q_a0, .inr (4, [.ref xae3, .int x_a0_count])), (q_a0_bytes, .inl (g_K C 0, n_a0_bytes, .inl f_a0_bytes)), (xae3, .inl (g_K C 0, ((2 : Int32) * (Int32.ofNat n_a0_bytes)).toNatClampNeg, .inl (va_cpy f_a0_bytes (fun _ => 0) 0 0 n_a0_bytes)))] rfl d_ByteRow_add_27 ?_
    exact g_re [0, 2] [0, 1] rfl rfl rfl (J30 ((2 : Int32) * (Int32.ofNat n_a0_bytes)).toNatClampNeg (va_cpy f_a0_bytes (fun _ => 0) 0 0 n_a0_bytes) xae3 hle hf)
theorem c_ByteRow_add (l : Launch) (D : va_G) (K : Nat → ClassId) (q_a0 : Nat) (q_a0_bytes : Nat) (x_a0_count : Int32) (n_a0_bytes : Nat) (f_a0_bytes : (Nat → Int32)) (p1 : Int32) (out : (Nat × (Nat → Int32) × Int32)) (hf : ByteRow_add_f x_a0_count n_a0_bytes p1 f_a0_bytes = some out) : Cv l D K y_ByteRow_add (g_wd y_ByteRow_add b_ByteRow_add 2 none) { frames := 2, cells := out.1 - n_a0_bytes, slots := 2 * (out.1 - n_a0_bytes), locals := 67 } [.ref q_a0, .int p1] [(q_a0, .inr (4, [.ref q_a0_bytes, .int x_a0_count])), (q_a0_bytes, .inl (K 0, n_a0_bytes, .inl f_a0_bytes))] (fun (x : Nat) => [(q_a0, .inr (4, [.ref x, .int out.2.2])), (x, .inl (K 0, out.1, .inl out.2.1))]) := mk_v (by decide) (Nat.le_of_ble_eq_true rfl) (fun p e s m below meth c A Q hC kr => m_ByteRow_add q_a0 q_a0_bytes x_a0_count n_a0_bytes f_a0_bytes p1 out hC hf (fun x o9 pc lv ho => by subst ho; exact kr x pc lv))
abbrev b_ByteRow_addNumber : ByteArray := prog_5_method_5_code
def y_ByteRow_addNumber : MethodName := ⟨R_ByteRow, "addNumber", "(I)V"⟩
theorem d_ByteRow_addNumber_0 : decode b_ByteRow_addNumber 0 = .ok (.aload_n 0, 1) := by decide +kernel
theorem d_ByteRow_addNumber_1 : decode b_ByteRow_addNumber 1 = .ok (.iload_n 1, 1) := by decide +kernel
theorem d_ByteRow_addNumber_2 : decode b_ByteRow_addNumber 2 = .ok (.bipush 24, 2) := by decide +kernel
theorem d_ByteRow_addNumber_4 : decode b_ByteRow_addNumber 4 = .ok (.iushr, 1) := by decide +kernel
theorem d_ByteRow_addNumber_5 : decode b_ByteRow_addNumber 5 = .ok (.invokevirtual 31, 3) := by decide +kernel
theorem d_ByteRow_addNumber_8 : decode b_ByteRow_addNumber 8 = .ok (.aload_n 0, 1) := by decide +kernel
theorem d_ByteRow_addNumber_9 : decode b_ByteRow_addNumber 9 = .ok (.iload_n 1, 1) := by decide +kernel
theorem d_ByteRow_addNumber_10 : decode b_ByteRow_addNumber 10 = .ok (.bipush 16, 2) := by decide +kernel
theorem d_ByteRow_addNumber_12 : decode b_ByteRow_addNumber 12 = .ok (.iushr, 1) := by decide +kernel
theorem d_ByteRow_addNumber_13 : decode b_ByteRow_addNumber 13 = .ok (.sipush 255, 3) := by decide +kernel
theorem d_ByteRow_addNumber_16 : decode b_ByteRow_addNumber 16 = .ok (.iand, 1) := by decide +kernel
theorem d_ByteRow_addNumber_17 : decode b_ByteRow_addNumber 17 = .ok (.invokevirtual 31, 3) := by decide +kernel
theorem d_ByteRow_addNumber_20 : decode b_ByteRow_addNumber 20 = .ok (.aload_n 0, 1) := by decide +kernel
theorem d_ByteRow_addNumber_21 : decode b_ByteRow_addNumber 21 = .ok (.iload_n 1, 1) := by decide +kernel
theorem d_ByteRow_addNumber_22 : decode b_ByteRow_addNumber 22 = .ok (.bipush 8, 2) := by decide +kernel
theorem d_ByteRow_addNumber_24 : decode b_ByteRow_addNumber 24 = .ok (.iushr, 1) := by decide +kernel
theorem d_ByteRow_addNumber_25 : decode b_ByteRow_addNumber 25 = .ok (.sipush 255, 3) := by decide +kernel
theorem d_ByteRow_addNumber_28 : decode b_ByteRow_addNumber 28 = .ok (.iand, 1) := by decide +kernel
theorem d_ByteRow_addNumber_29 : decode b_ByteRow_addNumber 29 = .ok (.invokevirtual 31, 3) := by decide +kernel
theorem d_ByteRow_addNumber_32 : decode b_ByteRow_addNumber 32 = .ok (.aload_n 0, 1) := by decide +kernel
theorem d_ByteRow_addNumber_33 : decode b_ByteRow_addNumber 33 = .ok (.iload_n 1, 1) := by decide +kernel
theorem d_ByteRow_addNumber_34 : decode b_ByteRow_addNumber 34 = .ok (.sipush 255, 3) := by decide +kernel
theorem d_ByteRow_addNumber_37 : decode b_ByteRow_addNumber 37 = .ok (.iand, 1) := by decide +kernel
theorem d_ByteRow_addNumber_38 : decode b_ByteRow_addNumber 38 = .ok (.invokevirtual 31, 3) := by decide +kernel
theorem d_ByteRow_addNumber_41 : decode b_ByteRow_addNumber 41 = .ok (.return_, 1) := by decide +kernel
theorem k532 : (Jvm.Cond.code ({ cls := "RotationPress$ByteRow", name := "add", desc := "(I)V" } : Jvm.MethodName) prog_5_method_4_code (2 : Nat) (Option.none : Option Jvm.ClassFile.FieldType)) ∈ g_tbl := List.mem_filter.mpr ⟨List.mem_append_right (k2_sels lw_privs) (List.mem_append_right _ (List.mem_append_right _ (List.mem_append_left _ (List.mem_of_getElem? (l := tables_1_3) (i := 52) rfl)))), rfl⟩
theorem k529 : (Jvm.Cond.methodLink "RotationPress$ByteRow" (31 : Nat) ({ cls := "RotationPress$ByteRow", name := "add", desc := "(I)V" } : Jvm.MethodName)) ∈ g_tbl := List.mem_filter.mpr ⟨List.mem_append_right (k2_sels lw_privs) (List.mem_append_right _ (List.mem_append_right _ (List.mem_append_left _ (List.mem_of_getElem? (l := tables_1_3) (i := 49) rfl)))), rfl⟩
theorem k530 : (Jvm.Cond.instanceMethod ({ cls := "RotationPress$ByteRow", name := "add", desc := "(I)V" } : Jvm.MethodName)) ∈ g_tbl := List.mem_filter.mpr ⟨List.mem_append_right (k2_sels lw_privs) (List.mem_append_right _ (List.mem_append_right _ (List.mem_append_left _ (List.mem_of_getElem? (l := tables_1_3) (i := 50) rfl)))), rfl⟩
theorem k531 : (Jvm.Cond.selects "RotationPress$ByteRow" ({ cls := "RotationPress$ByteRow", name := "add", desc := "(I)V" } : Jvm.MethodName) ({ cls := "RotationPress$ByteRow", name := "add", desc := "(I)V" } : Jvm.MethodName)) ∈ g_tbl := List.mem_filter.mpr ⟨List.mem_append_right (k2_sels lw_privs) (List.mem_append_right _ (List.mem_append_right _ (List.mem_append_left _ (List.mem_of_getElem? (l := tables_1_3) (i := 51) rfl)))), rfl⟩
theorem ByteRow_addNumber_f_mo {x_a0_count : Int32} {n_a0_bytes : Nat} {p1 : Int32} {f_a0_bytes : (Nat → Int32)} {o : (Nat × (Nat → Int32) × Int32)} (h : ByteRow_addNumber_f x_a0_count n_a0_bytes p1 f_a0_bytes = some o) : n_a0_bytes ≤ (fun (o : (Nat × (Nat → Int32) × Int32)) => o.1) o := by
  unfold ByteRow_addNumber_f at h
  obtain ⟨u1, hu1, h⟩ := bd_some h
  have lu1 : n_a0_bytes ≤ u1.1 := ByteRow_add_f_mo hu1
  obtain ⟨u2, hu2, h⟩ := bd_some h
  have lu2 : u1.1 ≤ u2.1 := ByteRow_add_f_mo hu2
  obtain ⟨u3, hu3, h⟩ := bd_some h
  have lu3 : u2.1 ≤ u3.1 := ByteRow_add_f_mo hu3
  obtain ⟨u4, hu4, h⟩ := bd_some h
  have lu4 : u3.1 ≤ u4.1 := ByteRow_add_f_mo hu4
  exact mo_leaf (L := (fun (o : (Nat × (Nat → Int32) × Int32)) => o.1)) h (show n_a0_bytes ≤ u4.1 by omega)
set_option maxRecDepth 100000 in
set_option maxHeartbeats 4000000 in
theorem m_ByteRow_addNumber {C : gT} (q_a0 : Nat) (q_a0_bytes : Nat) (x_a0_count : Int32) (n_a0_bytes : Nat) (f_a0_bytes : (Nat → Int32)) (p1 : Int32) (out : (Nat × (Nat → Int32) × Int32)) (hC : gOk C b_ByteRow_addNumber R_ByteRow { frames := 3, cells := out.1 - n_a0_bytes, slots := 2 * (out.1 - n_a0_bytes), locals := 88 } 2) (hf : ByteRow_addNumber_f x_a0_count n_a0_bytes p1 f_a0_bytes = some out) (kr : ∀ (x : Nat) (o9 : (Nat × (Nat → Int32) × Int32)) (pc : Nat) (lv : List (Nat × Value)), o9 = out → decode b_ByteRow_addNumber pc = .ok (.return_, 1) → gAt C (o9.1 - n_a0_bytes) (2 * (o9.1 - n_a0_bytes)) [(q_a0, .inr (4, [.ref x, .int o9.2.2])), (x, .inl (g_K C 0, o9.1, .inl o9.2.1))] lv pc []) : gAt C 0 0 [(q_a0, .inr (4, [.ref q_a0_bytes, .int x_a0_count])), (q_a0_bytes, .inl (g_K C 0, n_a0_bytes, .inl f_a0_bytes))] [(0, .ref q_a0), (1, .int p1)] 0 [] := by
  have hle : n_a0_bytes ≤ n_a0_bytes := Nat.le_refl _
  have hfi : n_a0_bytes ≤ out.1 := ByteRow_addNumber_f_mo hf
  refine g_wide (n_a0_bytes - n_a0_bytes) (2 * (n_a0_bytes - n_a0_bytes)) (Nat.zero_le _) (Nat.zero_le _) ?_
  unfold ByteRow_addNumber_f at hf
  refine g_aload_n 0 hC (j := 0) (hj := rfl) (hd := d_ByteRow_addNumber_0) ?_
  refine g_iload_n 1 hC (j := 1) (hj := rfl) (hd := d_ByteRow_addNumber_1) ?_
  refine g_bipush 2 hC (24 : Int32) (by decide) d_ByteRow_addNumber_2 ?_
  refine g_iushr 4 hC d_ByteRow_addNumber_4 ?_
  obtain ⟨u1, hu1, hf⟩ := bd_some hf
  have lu1 : n_a0_bytes ≤ u1.1 := ByteRow_add_f_mo hu1
  have hfi : u1.1 ≤ out.1 := by
    have h := hf
    obtain ⟨u2, hu2, h⟩ := bd_some h
    have lu2 : u1.1 ≤ u2.1 := ByteRow_add_f_mo hu2
    obtain ⟨u3, hu3, h⟩ := bd_some h
    have lu3 : u2.1 ≤ u3.1 := ByteRow_add_f_mo hu3
    obtain ⟨u4, hu4, h⟩ := bd_some h
    have lu4 : u3.1 ≤ u4.1 := ByteRow_add_f_mo hu4
    exact mo_leaf (L := (fun (o : (Nat × (Nat → Int32) × Int32)) => o.1)) h (show u1.1 ≤ u4.1 by omega)
  refine g_callVv 5 hC (c_ByteRow_add (g_l C) (g_D C) (g_K C) q_a0 q_a0_bytes x_a0_count n_a0_bytes f_a0_bytes (ush p1 (24 : Int32)) u1 hu1) k532 k2 k529 k530 k531 1 rfl (by decide +kernel) ⟨Nat.le_of_ble_eq_true rfl, Nat.le_of_ble_eq_true rfl⟩ [0, 1] [] [] rfl rfl rfl rfl rfl 0 4 rfl rfl rfl rfl (Nat.le_of_ble_eq_true rfl) ⟨show (n_a0_bytes - n_a0_bytes) + (u1.1 - n_a0_bytes) ≤ out.1 - n_a0_bytes by omega, show (2 * (n_a0_bytes - n_a0_bytes)) + 2 * (u1.1 - n_a0_bytes) ≤ 2 * (out.1 - n_a0_bytes) by omega⟩ (fun (xu1 : Nat) => [(q_a0, .inr (4, [.ref xu1, .int u1.2.2])), (xu1, .inl (g_K C 0, u1.1, .inl u1.2.1))]) (fun _ => rfl) d_ByteRow_addNumber_5 (u1.1 - n_a0_bytes) (2 * (u1.1 - n_a0_bytes)) (show (n_a0_bytes - n_a0_bytes) + (u1.1 - n_a0_bytes) = (u1.1 - n_a0_bytes) by omega) (show (2 * (n_a0_bytes - n_a0_bytes)) + 2 * (u1.1 - n_a0_bytes) = (2 * (u1.1 - n_a0_bytes)) by omega) (fun xu1 => ?_)
  have hle : n_a0_bytes ≤ u1.1 := by omega
  refine g_aload_n 8 hC (j := 0) (hj := rfl) (hd := d_ByteRow_addNumber_8) ?_
  refine g_iload_n 9 hC (j := 1) (hj := rfl) (hd := d_ByteRow_addNumber_9) ?_
  refine g_bipush 10 hC (16 : Int32) (by decide) d_ByteRow_addNumber_10 ?_
  refine g_iushr 12 hC d_ByteRow_addNumber_12 ?_
  refine g_sipush 13 hC (255 : Int32) (by decide) d_ByteRow_addNumber_13 ?_
  refine g_iand 16 hC d_ByteRow_addNumber_16 ?_
  obtain ⟨u2, hu2, hf⟩ := bd_some hf
  have lu2 : u1.1 ≤ u2.1 := ByteRow_add_f_mo hu2
  have hfi : u2.1 ≤ out.1 := by
    have h := hf
    obtain ⟨u3, hu3, h⟩ := bd_some h
    have lu3 : u2.1 ≤ u3.1 := ByteRow_add_f_mo hu3
    obtain ⟨u4, hu4, h⟩ := bd_some h
    have lu4 : u3.1 ≤ u4.1 := ByteRow_add_f_mo hu4
    exact mo_leaf (L := (fun (o : (Nat × (Nat → Int32) × Int32)) => o.1)) h (show u2.1 ≤ u4.1 by omega)
  refine g_callVv 17 hC (c_ByteRow_add (g_l C) (g_D C) (g_K C) q_a0 xu1 u1.2.2 u1.1 u1.2.1 ((ush p1 (16 : Int32)) &&& (255 : Int32)) u2 hu2) k532 k2 k529 k530 k531 1 rfl (by decide +kernel) ⟨Nat.le_of_ble_eq_true rfl, Nat.le_of_ble_eq_true rfl⟩ [0, 1] [] [] rfl rfl rfl rfl rfl 0 4 rfl rfl rfl rfl (Nat.le_of_ble_eq_true rfl) ⟨show (u1.1 - n_a0_bytes) + (u2.1 - u1.1) ≤ out.1 - n_a0_bytes by omega, show (2 * (u1.1 - n_a0_bytes)) + 2 * (u2.1 - u1.1) ≤ 2 * (out.1 - n_a0_bytes) by omega⟩ (fun (xu2 : Nat) => [(q_a0, .inr (4, [.ref xu2, .int u2.2.2])), (xu2, .inl (g_K C 0, u2.1, .inl u2.2.1))]) (fun _ => rfl) d_ByteRow_addNumber_17 (u2.1 - n_a0_bytes) (2 * (u2.1 - n_a0_bytes)) (show (u1.1 - n_a0_bytes) + (u2.1 - u1.1) = (u2.1 - n_a0_bytes) by omega) (show (2 * (u1.1 - n_a0_bytes)) + 2 * (u2.1 - u1.1) = (2 * (u2.1 - n_a0_bytes)) by omega) (fun xu2 => ?_)
  have hle : n_a0_bytes ≤ u2.1 := by omega
  refine g_aload_n 20 hC (j := 0) (hj := rfl) (hd := d_ByteRow_addNumber_20) ?_
  refine g_iload_n 21 hC (j := 1) (hj := rfl) (hd := d_ByteRow_addNumber_21) ?_
  refine g_bipush 22 hC (8 : Int32) (by decide) d_ByteRow_addNumber_22 ?_
  refine g_iushr 24 hC d_ByteRow_addNumber_24 ?_
  refine g_sipush 25 hC (255 : Int32) (by decide) d_ByteRow_addNumber_25 ?_
  refine g_iand 28 hC d_ByteRow_addNumber_28 ?_
  obtain ⟨u3, hu3, hf⟩ := bd_some hf
  have lu3 : u2.1 ≤ u3.1 := ByteRow_add_f_mo hu3
  have hfi : u3.1 ≤ out.1 := by
    have h := hf
    obtain ⟨u4, hu4, h⟩ := bd_some h
    have lu4 : u3.1 ≤ u4.1 := ByteRow_add_f_mo hu4
    exact mo_leaf (L := (fun (o : (Nat × (Nat → Int32) × Int32)) => o.1)) h (show u3.1 ≤ u4.1 by omega)
  refine g_callVv 29 hC (c_ByteRow_add (g_l C) (g_D C) (g_K C) q_a0 xu2 u2.2.2 u2.1 u2.2.1 ((ush p1 (8 : Int32)) &&& (255 : Int32)) u3 hu3) k532 k2 k529 k530 k531 1 rfl (by decide +kernel) ⟨Nat.le_of_ble_eq_true rfl, Nat.le_of_ble_eq_true rfl⟩ [0, 1] [] [] rfl rfl rfl rfl rfl 0 4 rfl rfl rfl rfl (Nat.le_of_ble_eq_true rfl) ⟨show (u2.1 - n_a0_bytes) + (u3.1 - u2.1) ≤ out.1 - n_a0_bytes by omega, show (2 * (u2.1 - n_a0_bytes)) + 2 * (u3.1 - u2.1) ≤ 2 * (out.1 - n_a0_bytes) by omega⟩ (fun (xu3 : Nat) => [(q_a0, .inr (4, [.ref xu3, .int u3.2.2])), (xu3, .inl (g_K C 0, u3.1, .inl u3.2.1))]) (fun _ => rfl) d_ByteRow_addNumber_29 (u3.1 - n_a0_bytes) (2 * (u3.1 - n_a0_bytes)) (show (u2.1 - n_a0_bytes) + (u3.1 - u2.1) = (u3.1 - n_a0_bytes) by omega) (show (2 * (u2.1 - n_a0_bytes)) + 2 * (u3.1 - u2.1) = (2 * (u3.1 - n_a0_bytes)) by omega) (fun xu3 => ?_)
  have hle : n_a0_bytes ≤ u3.1 := by omega
  refine g_aload_n 32 hC (j := 0) (hj := rfl) (hd := d_ByteRow_addNumber_32) ?_
  refine g_iload_n 33 hC (j := 1) (hj := rfl) (hd := d_ByteRow_addNumber_33) ?_
  refine g_sipush 34 hC (255 : Int32) (by decide) d_ByteRow_addNumber_34 ?_
  refine g_iand 37 hC d_ByteRow_addNumber_37 ?_
  obtain ⟨u4, hu4, hf⟩ := bd_some hf
  have lu4 : u3.1 ≤ u4.1 := ByteRow_add_f_mo hu4
  have hfi : u4.1 ≤ out.1 := by
    have h := hf
    exact mo_leaf (L := (fun (o : (Nat × (Nat → Int32) × Int32)) => o.1)) h (show u4.1 ≤ u4.1 by omega)
  refine g_callVv 38 hC (c_ByteRow_add (g_l C) (g_D C) (g_K C) q_a0 xu3 u3.2.2 u3.1 u3.2.1 (p1 &&& (255 : Int32)) u4 hu4) k532 k2 k529 k530 k531 1 rfl (by decide +kernel) ⟨Nat.le_of_ble_eq_true rfl, Nat.le_of_ble_eq_true rfl⟩ [0, 1] [] [] rfl rfl rfl rfl rfl 0 4 rfl rfl rfl rfl (Nat.le_of_ble_eq_true rfl) ⟨show (u3.1 - n_a0_bytes) + (u4.1 - u3.1) ≤ out.1 - n_a0_bytes by omega, show (2 * (u3.1 - n_a0_bytes)) + 2 * (u4.1 - u3.1) ≤ 2 * (out.1 - n_a0_bytes) by omega⟩ (fun (xu4 : Nat) => [(q_a0, .inr (4, [.ref xu4, .int u4.2.2])), (xu4, .inl (g_K C 0, u4.1, .inl u4.2.1))]) (fun _ => rfl) d_ByteRow_addNumber_38 (u4.1 - n_a0_bytes) (2 * (u4.1 - n_a0_bytes)) (show (u3.1 - n_a0_bytes) + (u4.1 - u3.1) = (u4.1 - n_a0_bytes) by omega) (show (2 * (u3.1 - n_a0_bytes)) + 2 * (u4.1 - u3.1) = (2 * (u4.1 - n_a0_bytes)) by omega) (fun xu4 => ?_)
  have hle : n_a0_bytes ≤ u4.1 := by omega
  exact g_re [0, 1] [] rfl rfl rfl (kr xu4 (u4.1, u4.2.1, u4.2.2) 41 [] (Option.some.inj hf) d_ByteRow_addNumber_41)
theorem c_ByteRow_addNumber (l : Launch) (D : va_G) (K : Nat → ClassId) (q_a0 : Nat) (q_a0_bytes : Nat) (x_a0_count : Int32) (n_a0_bytes : Nat) (f_a0_bytes : (Nat → Int32)) (p1 : Int32) (out : (Nat × (Nat → Int32) × Int32)) (hf : ByteRow_addNumber_f x_a0_count n_a0_bytes p1 f_a0_bytes = some out) : Cv l D K y_ByteRow_addNumber (g_wd y_ByteRow_addNumber b_ByteRow_addNumber 2 none) { frames := 3, cells := out.1 - n_a0_bytes, slots := 2 * (out.1 - n_a0_bytes), locals := 88 } [.ref q_a0, .int p1] [(q_a0, .inr (4, [.ref q_a0_bytes, .int x_a0_count])), (q_a0_bytes, .inl (K 0, n_a0_bytes, .inl f_a0_bytes))] (fun (x : Nat) => [(q_a0, .inr (4, [.ref x, .int out.2.2])), (x, .inl (K 0, out.1, .inl out.2.1))]) := mk_v (by decide) (Nat.le_of_ble_eq_true rfl) (fun p e s m below meth c A Q hC kr => m_ByteRow_addNumber q_a0 q_a0_bytes x_a0_count n_a0_bytes f_a0_bytes p1 out hC hf (fun x o9 pc lv ho => by subst ho; exact kr x pc lv))
abbrev b_ByteRow_become : ByteArray := prog_5_method_7_code
def y_ByteRow_become : MethodName := ⟨R_ByteRow, "become", "(LRotationPress$ByteRow;)V"⟩
theorem d_ByteRow_become_0 : decode b_ByteRow_become 0 = .ok (.aload_n 0, 1) := by decide +kernel
theorem d_ByteRow_become_1 : decode b_ByteRow_become 1 = .ok (.getfield 15, 3) := by decide +kernel
theorem d_ByteRow_become_4 : decode b_ByteRow_become 4 = .ok (.arraylength, 1) := by decide +kernel
theorem d_ByteRow_become_5 : decode b_ByteRow_become 5 = .ok (.aload_n 1, 1) := by decide +kernel
theorem d_ByteRow_become_6 : decode b_ByteRow_become 6 = .ok (.getfield 21, 3) := by decide +kernel
theorem d_ByteRow_become_9 : decode b_ByteRow_become 9 = .ok (.if_icmp .ge 13, 3) := by decide +kernel
theorem d_ByteRow_become_12 : decode b_ByteRow_become 12 = .ok (.aload_n 0, 1) := by decide +kernel
theorem d_ByteRow_become_13 : decode b_ByteRow_become 13 = .ok (.aload_n 1, 1) := by decide +kernel
theorem d_ByteRow_become_14 : decode b_ByteRow_become 14 = .ok (.getfield 21, 3) := by decide +kernel
theorem d_ByteRow_become_17 : decode b_ByteRow_become 17 = .ok (.newarray .int, 2) := by decide +kernel
theorem d_ByteRow_become_22 : decode b_ByteRow_become 22 = .ok (.aload_n 1, 1) := by decide +kernel
theorem d_ByteRow_become_23 : decode b_ByteRow_become 23 = .ok (.getfield 15, 3) := by decide +kernel
theorem d_ByteRow_become_26 : decode b_ByteRow_become 26 = .ok (.iconst 0, 1) := by decide +kernel
theorem d_ByteRow_become_27 : decode b_ByteRow_become 27 = .ok (.aload_n 0, 1) := by decide +kernel
theorem d_ByteRow_become_28 : decode b_ByteRow_become 28 = .ok (.getfield 15, 3) := by decide +kernel
theorem d_ByteRow_become_31 : decode b_ByteRow_become 31 = .ok (.iconst 0, 1) := by decide +kernel
theorem d_ByteRow_become_32 : decode b_ByteRow_become 32 = .ok (.aload_n 1, 1) := by decide +kernel
theorem d_ByteRow_become_33 : decode b_ByteRow_become 33 = .ok (.getfield 21, 3) := by decide +kernel
theorem d_ByteRow_become_36 : decode b_ByteRow_become 36 = .ok (.invokestatic 39, 3) := by decide +kernel
theorem d_ByteRow_become_39 : decode b_ByteRow_become 39 = .ok (.aload_n 0, 1) := by decide +kernel
theorem d_ByteRow_become_40 : decode b_ByteRow_become 40 = .ok (.aload_n 1, 1) := by decide +kernel
theorem d_ByteRow_become_41 : decode b_ByteRow_become 41 = .ok (.getfield 21, 3) := by decide +kernel
theorem d_ByteRow_become_44 : decode b_ByteRow_become 44 = .ok (.putfield 21, 3) := by decide +kernel
theorem d_ByteRow_become_47 : decode b_ByteRow_become 47 = .ok (.return_, 1) := by decide +kernel
theorem k619 : (Jvm.Cond.methodLink "RotationPress$ByteRow" (39 : Nat) ({ cls := "java/lang/System", name := "arraycopy", desc := "(Ljava/lang/Object;ILjava/lang/Object;II)V" } : Jvm.MethodName)) ∈ g_tbl := List.mem_filter.mpr ⟨List.mem_append_right (k2_sels lw_privs) (List.mem_append_right _ (List.mem_append_right _ (List.mem_append_left _ (List.mem_of_getElem? (l := tables_1_3) (i := 139) rfl)))), rfl⟩
set_option maxRecDepth 100000 in
set_option maxHeartbeats 4000000 in
theorem m_ByteRow_become {C : gT} (hC : gOk C b_ByteRow_become R_ByteRow { frames := 1, cells := 0, slots := 0, locals := 40 } 2) (q_a0 : Nat) (q_a0_bytes : Nat) (x_a0_count : Int32) (n_a0_bytes : Nat) (f_a0_bytes : (Nat → Int32)) (q_a1 : Nat) (q_a1_bytes : Nat) (x_a1_count : Int32) (n_a1_bytes : Nat) (f_a1_bytes : (Nat → Int32)) (out : ((Nat → Int32) × Int32)) (hf : ByteRow_become_f x_a1_count n_a0_bytes n_a1_bytes f_a1_bytes f_a0_bytes = some out) (kr : ∀ (x : Unit) (o9 : ((Nat → Int32) × Int32)) (pc : Nat) (lv : List (Nat × Value)), o9 = out → decode b_ByteRow_become pc = .ok (.return_, 1) → gAt C 0 0 [(q_a0, .inr (4, [.ref q_a0_bytes, .int o9.2])), (q_a0_bytes, .inl (g_K C 0, n_a0_bytes, .inl o9.1)), (q_a1, .inr (4, [.ref q_a1_bytes, .int x_a1_count])), (q_a1_bytes, .inl (g_K C 0, n_a1_bytes, .inl f_a1_bytes))] lv pc []) : gAt C 0 0 [(q_a0, .inr (4, [.ref q_a0_bytes, .int x_a0_count])), (q_a0_bytes, .inl (g_K C 0, n_a0_bytes, .inl f_a0_bytes)), (q_a1, .inr (4, [.ref q_a1_bytes, .int x_a1_count])), (q_a1_bytes, .inl (g_K C 0, n_a1_bytes, .inl f_a1_bytes))] [(0, .ref q_a0), (1, .ref q_a1)] 0 [] := by
  unfold ByteRow_become_f at hf
  have J22 : ByteRow_become_J22 x_a1_count n_a1_bytes n_a0_bytes f_a1_bytes f_a0_bytes = some out → gAt C 0 0 [(q_a0, .inr (4, [.ref q_a0_bytes, .int x_a0_count])), (q_a0_bytes, .inl (g_K C 0, n_a0_bytes, .inl f_a0_bytes)), (q_a1, .inr (4, [.ref q_a1_bytes, .int x_a1_count])), (q_a1_bytes, .inl (g_K C 0, n_a1_bytes, .inl f_a1_bytes))] [(0, .ref q_a0), (1, .ref q_a1)] 22 [] := by
    intro hf
    unfold ByteRow_become_J22 at hf
    refine g_aload_n 22 hC (j := 1) (hj := rfl) (hd := d_ByteRow_become_22) ?_
    refine g_get 23 hC i_ByteRow rfl 2 rfl 0 (by decide) k49 rfl d_ByteRow_become_23 ?_
    refine g_iconst 26 hC (0 : Int32) (by decide) d_ByteRow_become_26 ?_
    refine g_aload_n 27 hC (j := 0) (hj := rfl) (hd := d_ByteRow_become_27) ?_
    refine g_get 28 hC i_ByteRow rfl 0 rfl 0 (by decide) k49 rfl d_ByteRow_become_28 ?_
    refine g_iconst 31 hC (0 : Int32) (by decide) d_ByteRow_become_31 ?_
    refine g_aload_n 32 hC (j := 1) (hj := rfl) (hd := d_ByteRow_become_32) ?_
    refine g_get 33 hC i_ByteRow rfl 2 rfl 1 (by decide) k50 rfl d_ByteRow_become_33 ?_
    obtain ⟨e1, hf⟩ := gd_some hf
    refine g_acopy 36 hC k619 k548 k547 k20 3 1 rfl rfl e1 (by decide) (by decide) [(q_a0, .inr (4, [.ref q_a0_bytes, .int x_a0_count])), (q_a0_bytes, .inl (g_K C 0, n_a0_bytes, .inl (va_cpy f_a1_bytes f_a0_bytes (0 : Int32).toNatClampNeg (0 : Int32).toNatClampNeg x_a1_count.toNatClampNeg))), (q_a1, .inr (4, [.ref q_a1_bytes, .int x_a1_count])), (q_a1_bytes, .inl (g_K C 0, n_a1_bytes, .inl f_a1_bytes))] rfl d_ByteRow_become_36 ?_
    refine g_aload_n 39 hC (j := 0) (hj := rfl) (hd := d_ByteRow_become_39) ?_
    refine g_aload_n 40 hC (j := 1) (hj := rfl) (hd := d_ByteRow_become_40) ?_
    refine g_get 41 hC i_ByteRow rfl 2 rfl 1 (by decide) k50 rfl d_ByteRow_become_41 ?_
    refine g_put 44 hC i_ByteRow rfl 0 rfl 1 (by decide) t_ByteRow tk_ByteRow n_ByteRow k50 rfl rfl rfl (Nat.le_of_ble_eq_true rfl) [(q_a0, .inr (4, [.ref q_a0_bytes, .int x_a1_count])), (q_a0_bytes, .inl (g_K C 0, n_a0_bytes, .inl (va_cpy f_a1_bytes f_a0_bytes (0 : Int32).toNatClampNeg (0 : Int32).toNatClampNeg x_a1_count.toNatClampNeg))), (q_a1, .inr (4, [.ref q_a1_bytes, .int x_a1_count])), (q_a1_bytes, .inl (g_K C 0, n_a1_bytes, .inl f_a1_bytes))] rfl d_ByteRow_become_44 ?_
    exact g_re [0, 1, 2, 3] [] rfl rfl rfl (kr () ((va_cpy f_a1_bytes f_a0_bytes (0 : Int32).toNatClampNeg (0 : Int32).toNatClampNeg x_a1_count.toNatClampNeg), x_a1_count) 47 [] (Option.some.inj hf) d_ByteRow_become_47)
  refine g_aload_n 0 hC (j := 0) (hj := rfl) (hd := d_ByteRow_become_0) ?_
  refine g_get 1 hC i_ByteRow rfl 0 rfl 0 (by decide) k49 rfl d_ByteRow_become_1 ?_
  refine g_alen 4 hC 1 rfl d_ByteRow_become_4 ?_
  refine g_aload_n 5 hC (j := 1) (hj := rfl) (hd := d_ByteRow_become_5) ?_
  refine g_get 6 hC i_ByteRow rfl 2 rfl 1 (by decide) k50 rfl d_ByteRow_become_6 ?_
  refine g_icmp_ge 9 hC 22 (by decide) d_ByteRow_become_9 (fun c2 => ?_) (fun c2 => ?_)
  · have hf := it_t c2 hf
    exact J22 hf
  · have hf := it_f c2 hf
    refine g_aload_n 12 hC (j := 0) (hj := rfl) (hd := d_ByteRow_become_12) ?_
    refine g_aload_n 13 hC (j := 1) (hj := rfl) (hd := d_ByteRow_become_13) ?_
    refine g_get 14 hC i_ByteRow rfl 2 rfl 1 (by decide) k50 rfl d_ByteRow_become_14 ?_
    cases hf
theorem c_ByteRow_become (l : Launch) (D : va_G) (K : Nat → ClassId) (q_a0 : Nat) (q_a0_bytes : Nat) (x_a0_count : Int32) (n_a0_bytes : Nat) (f_a0_bytes : (Nat → Int32)) (q_a1 : Nat) (q_a1_bytes : Nat) (x_a1_count : Int32) (n_a1_bytes : Nat) (f_a1_bytes : (Nat → Int32)) (out : ((Nat → Int32) × Int32)) (hf : ByteRow_become_f x_a1_count n_a0_bytes n_a1_bytes f_a1_bytes f_a0_bytes = some out) : Cv l D K y_ByteRow_become (g_wd y_ByteRow_become b_ByteRow_become 2 none) { frames := 1, cells := 0, slots := 0, locals := 40 } [.ref q_a0, .ref q_a1] [(q_a0, .inr (4, [.ref q_a0_bytes, .int x_a0_count])), (q_a0_bytes, .inl (K 0, n_a0_bytes, .inl f_a0_bytes)), (q_a1, .inr (4, [.ref q_a1_bytes, .int x_a1_count])), (q_a1_bytes, .inl (K 0, n_a1_bytes, .inl f_a1_bytes))] (fun (x : Unit) => [(q_a0, .inr (4, [.ref q_a0_bytes, .int out.2])), (q_a0_bytes, .inl (K 0, n_a0_bytes, .inl out.1)), (q_a1, .inr (4, [.ref q_a1_bytes, .int x_a1_count])), (q_a1_bytes, .inl (K 0, n_a1_bytes, .inl f_a1_bytes))]) := mk_v (by decide) (Nat.le_of_ble_eq_true rfl) (fun p e s m below meth c A Q hC kr => m_ByteRow_become hC q_a0 q_a0_bytes x_a0_count n_a0_bytes f_a0_bytes q_a1 q_a1_bytes x_a1_count n_a1_bytes f_a1_bytes out hf (fun x o9 pc lv ho => by subst ho; exact kr x pc lv))
