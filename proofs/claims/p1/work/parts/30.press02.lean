abbrev b_FrontList_raiseAt : ByteArray := prog_9_method_5_code
def y_FrontList_raiseAt : MethodName := ⟨R_FrontList, "raiseAt", "(I)I"⟩
theorem d_FrontList_raiseAt_0 : decode b_FrontList_raiseAt 0 = .ok (.iload_n 1, 1) := by decide +kernel
theorem d_FrontList_raiseAt_1 : decode b_FrontList_raiseAt 1 = .ok (.ifCond .lt 11, 3) := by decide +kernel
theorem d_FrontList_raiseAt_4 : decode b_FrontList_raiseAt 4 = .ok (.iload_n 1, 1) := by decide +kernel
theorem d_FrontList_raiseAt_5 : decode b_FrontList_raiseAt 5 = .ok (.aload_n 0, 1) := by decide +kernel
theorem d_FrontList_raiseAt_6 : decode b_FrontList_raiseAt 6 = .ok (.getfield 15, 3) := by decide +kernel
theorem d_FrontList_raiseAt_9 : decode b_FrontList_raiseAt 9 = .ok (.if_icmp .lt 5, 3) := by decide +kernel
theorem d_FrontList_raiseAt_12 : decode b_FrontList_raiseAt 12 = .ok (.iconst (-1), 1) := by decide +kernel
theorem d_FrontList_raiseAt_13 : decode b_FrontList_raiseAt 13 = .ok (.ireturn, 1) := by decide +kernel
theorem d_FrontList_raiseAt_14 : decode b_FrontList_raiseAt 14 = .ok (.aload_n 0, 1) := by decide +kernel
theorem d_FrontList_raiseAt_15 : decode b_FrontList_raiseAt 15 = .ok (.getfield 9, 3) := by decide +kernel
theorem d_FrontList_raiseAt_18 : decode b_FrontList_raiseAt 18 = .ok (.iload_n 1, 1) := by decide +kernel
theorem d_FrontList_raiseAt_19 : decode b_FrontList_raiseAt 19 = .ok (.iaload, 1) := by decide +kernel
theorem d_FrontList_raiseAt_20 : decode b_FrontList_raiseAt 20 = .ok (.istore_n 2, 1) := by decide +kernel
theorem d_FrontList_raiseAt_21 : decode b_FrontList_raiseAt 21 = .ok (.aload_n 0, 1) := by decide +kernel
theorem d_FrontList_raiseAt_22 : decode b_FrontList_raiseAt 22 = .ok (.getfield 9, 3) := by decide +kernel
theorem d_FrontList_raiseAt_25 : decode b_FrontList_raiseAt 25 = .ok (.iconst 0, 1) := by decide +kernel
theorem d_FrontList_raiseAt_26 : decode b_FrontList_raiseAt 26 = .ok (.aload_n 0, 1) := by decide +kernel
theorem d_FrontList_raiseAt_27 : decode b_FrontList_raiseAt 27 = .ok (.getfield 9, 3) := by decide +kernel
theorem d_FrontList_raiseAt_30 : decode b_FrontList_raiseAt 30 = .ok (.iconst 1, 1) := by decide +kernel
theorem d_FrontList_raiseAt_31 : decode b_FrontList_raiseAt 31 = .ok (.iload_n 1, 1) := by decide +kernel
theorem d_FrontList_raiseAt_32 : decode b_FrontList_raiseAt 32 = .ok (.invokestatic 27, 3) := by decide +kernel
theorem d_FrontList_raiseAt_35 : decode b_FrontList_raiseAt 35 = .ok (.aload_n 0, 1) := by decide +kernel
theorem d_FrontList_raiseAt_36 : decode b_FrontList_raiseAt 36 = .ok (.getfield 9, 3) := by decide +kernel
theorem d_FrontList_raiseAt_39 : decode b_FrontList_raiseAt 39 = .ok (.iconst 0, 1) := by decide +kernel
theorem d_FrontList_raiseAt_40 : decode b_FrontList_raiseAt 40 = .ok (.iload_n 2, 1) := by decide +kernel
theorem d_FrontList_raiseAt_41 : decode b_FrontList_raiseAt 41 = .ok (.iastore, 1) := by decide +kernel
theorem d_FrontList_raiseAt_42 : decode b_FrontList_raiseAt 42 = .ok (.iload_n 2, 1) := by decide +kernel
theorem d_FrontList_raiseAt_43 : decode b_FrontList_raiseAt 43 = .ok (.ireturn, 1) := by decide +kernel
theorem k971 : (Jvm.Cond.methodLink "RotationPress$FrontList" (27 : Nat) ({ cls := "java/lang/System", name := "arraycopy", desc := "(Ljava/lang/Object;ILjava/lang/Object;II)V" } : Jvm.MethodName)) ∈ g_tbl := List.mem_filter.mpr ⟨List.mem_append_right (k2_sels lw_privs) (List.mem_append_right _ (List.mem_append_right _ (List.mem_append_right _ (List.mem_append_right _ (List.mem_append_left _ (List.mem_of_getElem? (l := tables_1_5) (i := 11) rfl)))))), rfl⟩
theorem k548 : (Jvm.Cond.native ({ cls := "java/lang/System", name := "arraycopy", desc := "(Ljava/lang/Object;ILjava/lang/Object;II)V" } : Jvm.MethodName)) ∈ g_tbl := List.mem_filter.mpr ⟨List.mem_append_right (k2_sels lw_privs) (List.mem_append_right _ (List.mem_append_right _ (List.mem_append_left _ (List.mem_of_getElem? (l := tables_1_3) (i := 68) rfl)))), rfl⟩
theorem k547 : (Jvm.Cond.static ({ cls := "java/lang/System", name := "arraycopy", desc := "(Ljava/lang/Object;ILjava/lang/Object;II)V" } : Jvm.MethodName)) ∈ g_tbl := List.mem_filter.mpr ⟨List.mem_append_right (k2_sels lw_privs) (List.mem_append_right _ (List.mem_append_right _ (List.mem_append_left _ (List.mem_of_getElem? (l := tables_1_3) (i := 67) rfl)))), rfl⟩
theorem k20 : (Jvm.Cond.initialized "java/lang/System") ∈ g_tbl := List.mem_filter.mpr ⟨List.mem_append_right (k2_sels lw_privs) (List.mem_append_left _ (List.mem_of_getElem? (l := tables_1_1) (i := 20) rfl)), rfl⟩
set_option maxRecDepth 100000 in
set_option maxHeartbeats 4000000 in
theorem m_FrontList_raiseAt {C : gT} (hC : gOk C b_FrontList_raiseAt R_FrontList { frames := 1, cells := 0, slots := 0, locals := 40 } 3) (q_a0 : Nat) (q_a0_members : Nat) (x_a0_count : Int32) (f_a0_members : (Nat → Int32)) (p1 : Int32) (out : (Int32 × (Nat → Int32))) (hf : FrontList_raiseAt_f p1 f_a0_members x_a0_count = some out) (kr : ∀ (x : Unit) (o9 : (Int32 × (Nat → Int32))) (pc : Nat) (lv : List (Nat × Value)), o9 = out → decode b_FrontList_raiseAt pc = .ok (.ireturn, 1) → narrow .int (.int o9.1) = .int o9.1 → gAt C 0 0 [(q_a0, .inr (8, [.ref q_a0_members, .int x_a0_count])), (q_a0_members, .inl (g_K C 0, 256, .inl o9.2))] lv pc [.int o9.1]) : gAt C 0 0 [(q_a0, .inr (8, [.ref q_a0_members, .int x_a0_count])), (q_a0_members, .inl (g_K C 0, 256, .inl f_a0_members))] [(0, .ref q_a0), (1, .int p1)] 0 [] := by
  unfold FrontList_raiseAt_f at hf
  have J12 : FrontList_raiseAt_J12 f_a0_members = some out → gAt C 0 0 [(q_a0, .inr (8, [.ref q_a0_members, .int x_a0_count])), (q_a0_members, .inl (g_K C 0, 256, .inl f_a0_members))] [] 12 [] := by
    intro hf
    unfold FrontList_raiseAt_J12 at hf
    refine g_iconst 12 hC (-1 : Int32) (by decide) d_FrontList_raiseAt_12 ?_
    exact kr () ((-1 : Int32), f_a0_members) 13 [] (Option.some.inj hf) d_FrontList_raiseAt_13 rfl
  refine g_iload_n 0 hC (j := 1) (hj := rfl) (hd := d_FrontList_raiseAt_0) ?_
  refine g_if_lt 1 hC 12 (by decide) d_FrontList_raiseAt_1 (fun c1 => ?_) (fun c1 => ?_)
  · have hf := it_t c1 hf
    exact g_re [0, 1] [] rfl rfl rfl (J12 hf)
  · have hf := it_f c1 hf
    refine g_iload_n 4 hC (j := 1) (hj := rfl) (hd := d_FrontList_raiseAt_4) ?_
    refine g_aload_n 5 hC (j := 0) (hj := rfl) (hd := d_FrontList_raiseAt_5) ?_
    refine g_get 6 hC i_FrontList rfl 0 rfl 1 (by decide) k82 rfl d_FrontList_raiseAt_6 ?_
    refine g_icmp_lt 9 hC 14 (by decide) d_FrontList_raiseAt_9 (fun c2 => ?_) (fun c2 => ?_)
    · have hf := it_t c2 hf
      refine g_aload_n 14 hC (j := 0) (hj := rfl) (hd := d_FrontList_raiseAt_14) ?_
      refine g_get 15 hC i_FrontList rfl 0 rfl 0 (by decide) k81 rfl d_FrontList_raiseAt_15 ?_
      refine g_iload_n 18 hC (j := 1) (hj := rfl) (hd := d_FrontList_raiseAt_18) ?_
      obtain ⟨e3, hf⟩ := gd_some hf
      refine g_iald 19 hC 1 rfl e3 d_FrontList_raiseAt_19 ?_
      refine g_istore_n 20 hC (lv2 := [(2, .int (f_a0_members p1.toNatClampNeg)), (0, .ref q_a0), (1, .int p1)]) (hn := (by decide)) (hl2 := rfl) (hd := d_FrontList_raiseAt_20) ?_
      refine g_aload_n 21 hC (j := 1) (hj := rfl) (hd := d_FrontList_raiseAt_21) ?_
      refine g_get 22 hC i_FrontList rfl 0 rfl 0 (by decide) k81 rfl d_FrontList_raiseAt_22 ?_
      refine g_iconst 25 hC (0 : Int32) (by decide) d_FrontList_raiseAt_25 ?_
      refine g_aload_n 26 hC (j := 1) (hj := rfl) (hd := d_FrontList_raiseAt_26) ?_
      refine g_get 27 hC i_FrontList rfl 0 rfl 0 (by decide) k81 rfl d_FrontList_raiseAt_27 ?_
      refine g_iconst 30 hC (1 : Int32) (by decide) d_FrontList_raiseAt_30 ?_
      refine g_iload_n 31 hC (j := 2) (hj := rfl) (hd := d_FrontList_raiseAt_31) ?_
      obtain ⟨e4, hf⟩ := gd_some hf
      refine g_acopy 32 hC k971 k548 k547 k20 1 1 rfl rfl e4 (by decide) (by decide) [(q_a0, .inr (8, [.ref q_a0_members, .int x_a0_count])), (q_a0_members, .inl (g_K C 0, 256, .inl (va_cpy f_a0_members f_a0_members (0 : Int32).toNatClampNeg (1 : Int32).toNatClampNeg p1.toNatClampNeg)))] rfl d_FrontList_raiseAt_32 ?_
      refine g_aload_n 35 hC (j := 1) (hj := rfl) (hd := d_FrontList_raiseAt_35) ?_
      refine g_get 36 hC i_FrontList rfl 0 rfl 0 (by decide) k81 rfl d_FrontList_raiseAt_36 ?_
      refine g_iconst 39 hC (0 : Int32) (by decide) d_FrontList_raiseAt_39 ?_
      refine g_iload_n 40 hC (j := 0) (hj := rfl) (hd := d_FrontList_raiseAt_40) ?_
      obtain ⟨e5, hf⟩ := gd_some hf
      refine g_iast 41 hC 1 rfl e5 [(q_a0, .inr (8, [.ref q_a0_members, .int x_a0_count])), (q_a0_members, .inl (g_K C 0, 256, .inl (upd (va_cpy f_a0_members f_a0_members (0 : Int32).toNatClampNeg (1 : Int32).toNatClampNeg p1.toNatClampNeg) (0 : Int32).toNatClampNeg (f_a0_members p1.toNatClampNeg))))] rfl d_FrontList_raiseAt_41 ?_
      refine g_iload_n 42 hC (j := 0) (hj := rfl) (hd := d_FrontList_raiseAt_42) ?_
      exact g_re [0, 1] [] rfl rfl rfl (kr () ((f_a0_members p1.toNatClampNeg), (upd (va_cpy f_a0_members f_a0_members (0 : Int32).toNatClampNeg (1 : Int32).toNatClampNeg p1.toNatClampNeg) (0 : Int32).toNatClampNeg (f_a0_members p1.toNatClampNeg))) 43 [] (Option.some.inj hf) d_FrontList_raiseAt_43 rfl)
    · have hf := it_f c2 hf
      exact g_re [0, 1] [] rfl rfl rfl (J12 hf)
theorem c_FrontList_raiseAt (l : Launch) (D : va_G) (K : Nat → ClassId) (q_a0 : Nat) (q_a0_members : Nat) (x_a0_count : Int32) (f_a0_members : (Nat → Int32)) (p1 : Int32) (out : (Int32 × (Nat → Int32))) (hf : FrontList_raiseAt_f p1 f_a0_members x_a0_count = some out) : Ci l D K y_FrontList_raiseAt (g_wd y_FrontList_raiseAt b_FrontList_raiseAt 3 (some .int)) { frames := 1, cells := 0, slots := 0, locals := 40 } [.ref q_a0, .int p1] [(q_a0, .inr (8, [.ref q_a0_members, .int x_a0_count])), (q_a0_members, .inl (K 0, 256, .inl f_a0_members))] (fun (x : Unit) => [(q_a0, .inr (8, [.ref q_a0_members, .int x_a0_count])), (q_a0_members, .inl (K 0, 256, .inl out.2))]) out.1 := mk_i (by decide) (Nat.le_of_ble_eq_true rfl) (fun p e s m below meth c A Q hC kr => m_FrontList_raiseAt hC q_a0 q_a0_members x_a0_count f_a0_members p1 out hf (fun x o9 pc lv ho => by subst ho; exact kr x pc lv))
abbrev b_FrontList_raise : ByteArray := prog_9_method_4_code
def y_FrontList_raise : MethodName := ⟨R_FrontList, "raise", "(I)I"⟩
theorem d_FrontList_raise_0 : decode b_FrontList_raise 0 = .ok (.iconst 0, 1) := by decide +kernel
theorem d_FrontList_raise_1 : decode b_FrontList_raise 1 = .ok (.istore_n 2, 1) := by decide +kernel
theorem d_FrontList_raise_2 : decode b_FrontList_raise 2 = .ok (.iload_n 2, 1) := by decide +kernel
theorem d_FrontList_raise_3 : decode b_FrontList_raise 3 = .ok (.aload_n 0, 1) := by decide +kernel
theorem d_FrontList_raise_4 : decode b_FrontList_raise 4 = .ok (.getfield 15, 3) := by decide +kernel
theorem d_FrontList_raise_7 : decode b_FrontList_raise 7 = .ok (.if_icmp .ge 27, 3) := by decide +kernel
theorem d_FrontList_raise_10 : decode b_FrontList_raise 10 = .ok (.aload_n 0, 1) := by decide +kernel
theorem d_FrontList_raise_11 : decode b_FrontList_raise 11 = .ok (.getfield 9, 3) := by decide +kernel
theorem d_FrontList_raise_14 : decode b_FrontList_raise 14 = .ok (.iload_n 2, 1) := by decide +kernel
theorem d_FrontList_raise_15 : decode b_FrontList_raise 15 = .ok (.iaload, 1) := by decide +kernel
theorem d_FrontList_raise_16 : decode b_FrontList_raise 16 = .ok (.iload_n 1, 1) := by decide +kernel
theorem d_FrontList_raise_17 : decode b_FrontList_raise 17 = .ok (.if_icmp .ne 11, 3) := by decide +kernel
theorem d_FrontList_raise_20 : decode b_FrontList_raise 20 = .ok (.aload_n 0, 1) := by decide +kernel
theorem d_FrontList_raise_21 : decode b_FrontList_raise 21 = .ok (.iload_n 2, 1) := by decide +kernel
theorem d_FrontList_raise_22 : decode b_FrontList_raise 22 = .ok (.invokevirtual 23, 3) := by decide +kernel
theorem d_FrontList_raise_25 : decode b_FrontList_raise 25 = .ok (.pop, 1) := by decide +kernel
theorem d_FrontList_raise_26 : decode b_FrontList_raise 26 = .ok (.iload_n 2, 1) := by decide +kernel
theorem d_FrontList_raise_27 : decode b_FrontList_raise 27 = .ok (.ireturn, 1) := by decide +kernel
theorem d_FrontList_raise_28 : decode b_FrontList_raise 28 = .ok (.iinc 2 1, 3) := by decide +kernel
theorem d_FrontList_raise_31 : decode b_FrontList_raise 31 = .ok (.goto (-29), 3) := by decide +kernel
theorem d_FrontList_raise_34 : decode b_FrontList_raise 34 = .ok (.iconst (-1), 1) := by decide +kernel
theorem d_FrontList_raise_35 : decode b_FrontList_raise 35 = .ok (.ireturn, 1) := by decide +kernel
theorem k970 : (Jvm.Cond.code ({ cls := "RotationPress$FrontList", name := "raiseAt", desc := "(I)I" } : Jvm.MethodName) prog_9_method_5_code (3 : Nat) (Option.some Jvm.ClassFile.FieldType.int)) ∈ g_tbl := List.mem_filter.mpr ⟨List.mem_append_right (k2_sels lw_privs) (List.mem_append_right _ (List.mem_append_right _ (List.mem_append_right _ (List.mem_append_right _ (List.mem_append_left _ (List.mem_of_getElem? (l := tables_1_5) (i := 10) rfl)))))), rfl⟩
theorem k967 : (Jvm.Cond.methodLink "RotationPress$FrontList" (23 : Nat) ({ cls := "RotationPress$FrontList", name := "raiseAt", desc := "(I)I" } : Jvm.MethodName)) ∈ g_tbl := List.mem_filter.mpr ⟨List.mem_append_right (k2_sels lw_privs) (List.mem_append_right _ (List.mem_append_right _ (List.mem_append_right _ (List.mem_append_right _ (List.mem_append_left _ (List.mem_of_getElem? (l := tables_1_5) (i := 7) rfl)))))), rfl⟩
theorem k968 : (Jvm.Cond.instanceMethod ({ cls := "RotationPress$FrontList", name := "raiseAt", desc := "(I)I" } : Jvm.MethodName)) ∈ g_tbl := List.mem_filter.mpr ⟨List.mem_append_right (k2_sels lw_privs) (List.mem_append_right _ (List.mem_append_right _ (List.mem_append_right _ (List.mem_append_right _ (List.mem_append_left _ (List.mem_of_getElem? (l := tables_1_5) (i := 8) rfl)))))), rfl⟩
theorem k969 : (Jvm.Cond.selects "RotationPress$FrontList" ({ cls := "RotationPress$FrontList", name := "raiseAt", desc := "(I)I" } : Jvm.MethodName) ({ cls := "RotationPress$FrontList", name := "raiseAt", desc := "(I)I" } : Jvm.MethodName)) ∈ g_tbl := List.mem_filter.mpr ⟨List.mem_append_right (k2_sels lw_privs) (List.mem_append_right _ (List.mem_append_right _ (List.mem_append_right _ (List.mem_append_right _ (List.mem_append_left _ (List.mem_of_getElem? (l := tables_1_5) (i := 9) rfl)))))), rfl⟩
set_option maxRecDepth 100000 in
set_option maxHeartbeats 4000000 in
theorem m_FrontList_raise {C : gT} (hC : gOk C b_FrontList_raise R_FrontList { frames := 2, cells := 0, slots := 0, locals := 62 } 3) (q_a0 : Nat) (q_a0_members : Nat) (x_a0_count : Int32) (f_a0_members : (Nat → Int32)) (p1 : Int32) (out : (Int32 × (Nat → Int32))) (hf : FrontList_raise_f x_a0_count f_a0_members p1 = some out) (kr : ∀ (x : Unit) (o9 : (Int32 × (Nat → Int32))) (pc : Nat) (lv : List (Nat × Value)), o9 = out → decode b_FrontList_raise pc = .ok (.ireturn, 1) → narrow .int (.int o9.1) = .int o9.1 → gAt C 0 0 [(q_a0, .inr (8, [.ref q_a0_members, .int x_a0_count])), (q_a0_members, .inl (g_K C 0, 256, .inl o9.2))] lv pc [.int o9.1]) : gAt C 0 0 [(q_a0, .inr (8, [.ref q_a0_members, .int x_a0_count])), (q_a0_members, .inl (g_K C 0, 256, .inl f_a0_members))] [(0, .ref q_a0), (1, .int p1)] 0 [] := by
  unfold FrontList_raise_f at hf
  refine g_iconst 0 hC (0 : Int32) (by decide) d_FrontList_raise_0 ?_
  refine g_istore_n 1 hC (lv2 := [(2, .int (0 : Int32)), (0, .ref q_a0), (1, .int p1)]) (hn := (by decide)) (hl2 := rfl) (hd := d_FrontList_raise_1) ?_
  obtain ⟨u2, hu2, hf⟩ := bd_some hf
  have Xu2_0 : ∀ (v3 : Int32), Sum.inl v3 = u2 → gAt C 0 0 [(q_a0, .inr (8, [.ref q_a0_members, .int x_a0_count])), (q_a0_members, .inl (g_K C 0, 256, .inl f_a0_members))] [(0, .ref q_a0), (2, .int v3)] 20 [] := by
    intro v3 hv
    rw [← hv] at hf
    have hf := el_l hf
    refine g_aload_n 20 hC (j := 0) (hj := rfl) (hd := d_FrontList_raise_20) ?_
    refine g_iload_n 21 hC (j := 1) (hj := rfl) (hd := d_FrontList_raise_21) ?_
    obtain ⟨u4, hu4, hf⟩ := bd_some hf
    refine g_callVi 22 hC (c_FrontList_raiseAt (g_l C) (g_D C) (g_K C) q_a0 q_a0_members x_a0_count f_a0_members v3 u4 hu4) k970 k6 k967 k968 k969 1 rfl (by decide +kernel) (by decide) [0, 1] [] [] rfl rfl rfl rfl rfl 0 8 rfl rfl rfl rfl (Nat.le_of_ble_eq_true rfl) ⟨Nat.le_of_ble_eq_true rfl, Nat.le_of_ble_eq_true rfl⟩ (fun (_ : Unit) => [(q_a0, .inr (8, [.ref q_a0_members, .int x_a0_count])), (q_a0_members, .inl (g_K C 0, 256, .inl u4.2))]) (fun _ => rfl) d_FrontList_raise_22 0 0 rfl rfl (fun _ => ?_)
    refine g_pop 25 hC rfl d_FrontList_raise_25 ?_
    refine g_iload_n 26 hC (j := 1) (hj := rfl) (hd := d_FrontList_raise_26) ?_
    exact g_re [0, 1] [] rfl rfl rfl (kr () (v3, u4.2) 27 [] (Option.some.inj hf) d_FrontList_raise_27 rfl)
  have Xu2_1 : ∀ (v5 : Unit), Sum.inr v5 = u2 → gAt C 0 0 [(q_a0, .inr (8, [.ref q_a0_members, .int x_a0_count])), (q_a0_members, .inl (g_K C 0, 256, .inl f_a0_members))] [] 34 [] := by
    intro v5 hv
    rw [← hv] at hf
    have hf := el_r hf
    refine g_iconst 34 hC (-1 : Int32) (by decide) d_FrontList_raise_34 ?_
    exact kr () ((-1 : Int32), f_a0_members) 35 [] (Option.some.inj hf) d_FrontList_raise_35 rfl
  have Gu2 := lp_ind (b := (FrontList_raise_L2 x_a0_count f_a0_members p1)) (G := fun (s1 : Int32) => gAt C 0 0 [(q_a0, .inr (8, [.ref q_a0_members, .int x_a0_count])), (q_a0_members, .inl (g_K C 0, 256, .inl f_a0_members))] [(0, .ref q_a0), (1, .int p1), (2, .int s1)] 2 []) (o := u2) (by
      intro s1 u6 hf hI hX
      unfold FrontList_raise_L2 at hf
      refine g_iload_n 2 hC (j := 2) (hj := rfl) (hd := d_FrontList_raise_2) ?_
      refine g_aload_n 3 hC (j := 0) (hj := rfl) (hd := d_FrontList_raise_3) ?_
      refine g_get 4 hC i_FrontList rfl 0 rfl 1 (by decide) k82 rfl d_FrontList_raise_4 ?_
      refine g_icmp_ge 7 hC 34 (by decide) d_FrontList_raise_7 (fun c7 => ?_) (fun c7 => ?_)
      · have hf := it_t c7 hf
        exact g_re [0, 1] [] rfl rfl rfl (Xu2_1 () (hX (Sum.inr ()) hf))
      · have hf := it_f c7 hf
        refine g_aload_n 10 hC (j := 0) (hj := rfl) (hd := d_FrontList_raise_10) ?_
        refine g_get 11 hC i_FrontList rfl 0 rfl 0 (by decide) k81 rfl d_FrontList_raise_11 ?_
        refine g_iload_n 14 hC (j := 2) (hj := rfl) (hd := d_FrontList_raise_14) ?_
        obtain ⟨e8, hf⟩ := gd_some hf
        refine g_iald 15 hC 1 rfl e8 d_FrontList_raise_15 ?_
        refine g_iload_n 16 hC (j := 1) (hj := rfl) (hd := d_FrontList_raise_16) ?_
        refine g_icmp_ne 17 hC 28 (by decide) d_FrontList_raise_17 (fun c9 => ?_) (fun c9 => ?_)
        · have hf := it_f c9 hf
          refine g_iinc 28 hC 2 (1 : Int32) [(2, .int (s1 + (1 : Int32))), (0, .ref q_a0), (1, .int p1)] rfl (by decide) (by decide) rfl d_FrontList_raise_28 ?_
          refine g_goto 31 hC 2 (by decide) d_FrontList_raise_31 ?_
          exact g_re [0, 1] [1, 2, 0] rfl rfl rfl (hI (s1 + (1 : Int32)) hf)
        · have hf := it_t c9 hf
          exact g_re [0, 1] [0, 2] rfl rfl rfl (Xu2_0 s1 (hX (Sum.inl s1) hf))) gas
  exact g_re [0, 1] [1, 2, 0] rfl rfl rfl (Gu2 (0 : Int32) hu2)
theorem c_FrontList_raise (l : Launch) (D : va_G) (K : Nat → ClassId) (q_a0 : Nat) (q_a0_members : Nat) (x_a0_count : Int32) (f_a0_members : (Nat → Int32)) (p1 : Int32) (out : (Int32 × (Nat → Int32))) (hf : FrontList_raise_f x_a0_count f_a0_members p1 = some out) : Ci l D K y_FrontList_raise (g_wd y_FrontList_raise b_FrontList_raise 3 (some .int)) { frames := 2, cells := 0, slots := 0, locals := 62 } [.ref q_a0, .int p1] [(q_a0, .inr (8, [.ref q_a0_members, .int x_a0_count])), (q_a0_members, .inl (K 0, 256, .inl f_a0_members))] (fun (x : Unit) => [(q_a0, .inr (8, [.ref q_a0_members, .int x_a0_count])), (q_a0_members, .inl (K 0, 256, .inl out.2))]) out.1 := mk_i (by decide) (Nat.le_of_ble_eq_true rfl) (fun p e s m below meth c A Q hC kr => m_FrontList_raise hC q_a0 q_a0_members x_a0_count f_a0_members p1 out hf (fun x o9 pc lv ho => by subst ho; exact kr x pc lv))
abbrev b_Rotations_openSlots : ByteArray := prog_11_method_5_code
def y_Rotations_openSlots : MethodName := ⟨R_Rotations, "openSlots", "(I)V"⟩
theorem d_Rotations_openSlots_0 : decode b_Rotations_openSlots 0 = .ok (.iconst 0, 1) := by decide +kernel
theorem d_Rotations_openSlots_1 : decode b_Rotations_openSlots 1 = .ok (.istore_n 2, 1) := by decide +kernel
theorem d_Rotations_openSlots_2 : decode b_Rotations_openSlots 2 = .ok (.iload_n 2, 1) := by decide +kernel
theorem d_Rotations_openSlots_3 : decode b_Rotations_openSlots 3 = .ok (.iload_n 1, 1) := by decide +kernel
theorem d_Rotations_openSlots_4 : decode b_Rotations_openSlots 4 = .ok (.if_icmp .ge 16, 3) := by decide +kernel
theorem d_Rotations_openSlots_7 : decode b_Rotations_openSlots 7 = .ok (.aload_n 0, 1) := by decide +kernel
theorem d_Rotations_openSlots_8 : decode b_Rotations_openSlots 8 = .ok (.getfield 24, 3) := by decide +kernel
theorem d_Rotations_openSlots_11 : decode b_Rotations_openSlots 11 = .ok (.iload_n 2, 1) := by decide +kernel
theorem d_Rotations_openSlots_12 : decode b_Rotations_openSlots 12 = .ok (.iload_n 2, 1) := by decide +kernel
theorem d_Rotations_openSlots_13 : decode b_Rotations_openSlots 13 = .ok (.iastore, 1) := by decide +kernel
theorem d_Rotations_openSlots_14 : decode b_Rotations_openSlots 14 = .ok (.iinc 2 1, 3) := by decide +kernel
theorem d_Rotations_openSlots_17 : decode b_Rotations_openSlots 17 = .ok (.goto (-15), 3) := by decide +kernel
theorem d_Rotations_openSlots_20 : decode b_Rotations_openSlots 20 = .ok (.return_, 1) := by decide +kernel
theorem k224 : (Jvm.Cond.fieldLink "RotationPress$Rotations" (24 : Nat) "RotationPress$Rotations" "slots" "[I") ∈ g_tbl := List.mem_filter.mpr ⟨List.mem_append_right (k2_sels lw_privs) (List.mem_append_left _ (List.mem_of_getElem? (l := tables_1_1) (i := 224) rfl)), rfl⟩
set_option maxRecDepth 100000 in
set_option maxHeartbeats 4000000 in
theorem m_Rotations_openSlots {C : gT} (hC : gOk C b_Rotations_openSlots R_Rotations { frames := 0, cells := 0, slots := 0, locals := 0 } 3) (q_a0 : Nat) (r_a0_order : Nat) (r_a0_orderNext : Nat) (r_a0_rank : Nat) (r_a0_rankNext : Nat) (q_a0_slots : Nat) (x_a0_ranks : Int32) (f_a0_slots : (Nat → Int32)) (p1 : Int32) (out : (Nat → Int32)) (hf : Rotations_openSlots_f p1 f_a0_slots = some out) (kr : ∀ (x : Unit) (o9 : (Nat → Int32)) (pc : Nat) (lv : List (Nat × Value)), o9 = out → decode b_Rotations_openSlots pc = .ok (.return_, 1) → gAt C 0 0 [(q_a0, .inr (10, [.ref r_a0_order, .ref r_a0_orderNext, .ref r_a0_rank, .ref r_a0_rankNext, .ref q_a0_slots, .int x_a0_ranks])), (q_a0_slots, .inl (g_K C 0, 2250, .inl o9))] lv pc []) : gAt C 0 0 [(q_a0, .inr (10, [.ref r_a0_order, .ref r_a0_orderNext, .ref r_a0_rank, .ref r_a0_rankNext, .ref q_a0_slots, .int x_a0_ranks])), (q_a0_slots, .inl (g_K C 0, 2250, .inl f_a0_slots))] [(0, .ref q_a0), (1, .int p1)] 0 [] := by
  unfold Rotations_openSlots_f at hf
  refine g_iconst 0 hC (0 : Int32) (by decide) d_Rotations_openSlots_0 ?_
  refine g_istore_n 1 hC (lv2 := [(2, .int (0 : Int32)), (0, .ref q_a0), (1, .int p1)]) (hn := (by decide)) (hl2 := rfl) (hd := d_Rotations_openSlots_1) ?_
  obtain ⟨u2, hu2, hf⟩ := bd_some hf
  have Xu2_0 : ∀ (v3 : (Nat → Int32)), v3 = u2 → gAt C 0 0 [(q_a0, .inr (10, [.ref r_a0_order, .ref r_a0_orderNext, .ref r_a0_rank, .ref r_a0_rankNext, .ref q_a0_slots, .int x_a0_ranks])), (q_a0_slots, .inl (g_K C 0, 2250, .inl v3))] [] 20 [] := by
    intro v3 hv
    rw [← hv] at hf
    exact kr () v3 20 [] (Option.some.inj hf) d_Rotations_openSlots_20
  have Gu2 := lp_ind (b := (Rotations_openSlots_L2 p1)) (G := fun (s1 : (Int32 × (Nat → Int32))) => gAt C 0 0 [(q_a0, .inr (10, [.ref r_a0_order, .ref r_a0_orderNext, .ref r_a0_rank, .ref r_a0_rankNext, .ref q_a0_slots, .int x_a0_ranks])), (q_a0_slots, .inl (g_K C 0, 2250, .inl s1.2))] [(0, .ref q_a0), (1, .int p1), (2, .int s1.1)] 2 []) (o := u2) (by
      intro s1 u4 hf hI hX
      unfold Rotations_openSlots_L2 at hf
      refine g_iload_n 2 hC (j := 2) (hj := rfl) (hd := d_Rotations_openSlots_2) ?_
      refine g_iload_n 3 hC (j := 1) (hj := rfl) (hd := d_Rotations_openSlots_3) ?_
      refine g_icmp_ge 4 hC 20 (by decide) d_Rotations_openSlots_4 (fun c5 => ?_) (fun c5 => ?_)
      · have hf := it_t c5 hf
        exact g_re [0, 1] [] rfl rfl rfl (Xu2_0 s1.2 (hX s1.2 hf))
      · have hf := it_f c5 hf
        refine g_aload_n 7 hC (j := 0) (hj := rfl) (hd := d_Rotations_openSlots_7) ?_
        refine g_get 8 hC i_Rotations rfl 0 rfl 4 (by decide) k224 rfl d_Rotations_openSlots_8 ?_
        refine g_iload_n 11 hC (j := 2) (hj := rfl) (hd := d_Rotations_openSlots_11) ?_
        refine g_iload_n 12 hC (j := 2) (hj := rfl) (hd := d_Rotations_openSlots_12) ?_
        obtain ⟨e6, hf⟩ := gd_some hf
        refine g_iast 13 hC 1 rfl e6 [(q_a0, .inr (10, [.ref r_a0_order, .ref r_a0_orderNext, .ref r_a0_rank, .ref r_a0_rankNext, .ref q_a0_slots, .int x_a0_ranks])), (q_a0_slots, .inl (g_K C 0, 2250, .inl (upd s1.2 s1.1.toNatClampNeg s1.1)))] rfl d_Rotations_openSlots_13 ?_
        refine g_iinc 14 hC 2 (1 : Int32) [(2, .int (s1.1 + (1 : Int32))), (0, .ref q_a0), (1, .int p1)] rfl (by decide) (by decide) rfl d_Rotations_openSlots_14 ?_
        refine g_goto 17 hC 2 (by decide) d_Rotations_openSlots_17 ?_
        exact g_re [0, 1] [1, 2, 0] rfl rfl rfl (hI ((s1.1 + (1 : Int32)), (upd s1.2 s1.1.toNatClampNeg s1.1)) hf)) gas
  exact g_re [0, 1] [1, 2, 0] rfl rfl rfl (Gu2 ((0 : Int32), f_a0_slots) hu2)
theorem c_Rotations_openSlots (l : Launch) (D : va_G) (K : Nat → ClassId) (q_a0 : Nat) (r_a0_order : Nat) (r_a0_orderNext : Nat) (r_a0_rank : Nat) (r_a0_rankNext : Nat) (q_a0_slots : Nat) (x_a0_ranks : Int32) (f_a0_slots : (Nat → Int32)) (p1 : Int32) (out : (Nat → Int32)) (hf : Rotations_openSlots_f p1 f_a0_slots = some out) : Cv l D K y_Rotations_openSlots (g_wd y_Rotations_openSlots b_Rotations_openSlots 3 none) { frames := 0, cells := 0, slots := 0, locals := 0 } [.ref q_a0, .int p1] [(q_a0, .inr (10, [.ref r_a0_order, .ref r_a0_orderNext, .ref r_a0_rank, .ref r_a0_rankNext, .ref q_a0_slots, .int x_a0_ranks])), (q_a0_slots, .inl (K 0, 2250, .inl f_a0_slots))] (fun (x : Unit) => [(q_a0, .inr (10, [.ref r_a0_order, .ref r_a0_orderNext, .ref r_a0_rank, .ref r_a0_rankNext, .ref q_a0_slots, .int x_a0_ranks])), (q_a0_slots, .inl (K 0, 2250, .inl out))]) := mk_v (by decide) (Nat.le_of_ble_eq_true rfl) (fun p e s m below meth c A Q hC kr => m_Rotations_openSlots hC q_a0 r_a0_order r_a0_orderNext r_a0_rank r_a0_rankNext q_a0_slots x_a0_ranks f_a0_slots p1 out hf (fun x o9 pc lv ho => by subst ho; exact kr x pc lv))
