abbrev b_ByteRow_has : ByteArray := prog_5_method_2_code
def y_ByteRow_has : MethodName := ⟨R_ByteRow, "has", "(I)Z"⟩
theorem d_ByteRow_has_0 : decode b_ByteRow_has 0 = .ok (.iload_n 1, 1) := by decide +kernel
theorem d_ByteRow_has_1 : decode b_ByteRow_has 1 = .ok (.ifCond .lt 15, 3) := by decide +kernel
theorem d_ByteRow_has_4 : decode b_ByteRow_has 4 = .ok (.iload_n 1, 1) := by decide +kernel
theorem d_ByteRow_has_5 : decode b_ByteRow_has 5 = .ok (.aload_n 0, 1) := by decide +kernel
theorem d_ByteRow_has_6 : decode b_ByteRow_has 6 = .ok (.getfield 21, 3) := by decide +kernel
theorem d_ByteRow_has_9 : decode b_ByteRow_has 9 = .ok (.if_icmp .ge 7, 3) := by decide +kernel
theorem d_ByteRow_has_12 : decode b_ByteRow_has 12 = .ok (.iconst 1, 1) := by decide +kernel
theorem d_ByteRow_has_13 : decode b_ByteRow_has 13 = .ok (.goto 4, 3) := by decide +kernel
theorem d_ByteRow_has_16 : decode b_ByteRow_has 16 = .ok (.iconst 0, 1) := by decide +kernel
theorem d_ByteRow_has_17 : decode b_ByteRow_has 17 = .ok (.ireturn, 1) := by decide +kernel
theorem k50 : (Jvm.Cond.fieldLink "RotationPress$ByteRow" (21 : Nat) "RotationPress$ByteRow" "count" "I") ∈ g_tbl := List.mem_filter.mpr ⟨List.mem_append_right (k2_sels lw_privs) (List.mem_append_left _ (List.mem_of_getElem? (l := tables_1_1) (i := 50) rfl)), rfl⟩
set_option maxRecDepth 100000 in
set_option maxHeartbeats 4000000 in
theorem m_ByteRow_has {C : gT} (hC : gOk C b_ByteRow_has R_ByteRow { frames := 0, cells := 0, slots := 0, locals := 0 } 2) (q_a0 : Nat) (r_a0_bytes : Nat) (x_a0_count : Int32) (p1 : Int32) (out : Int32) (hf : ByteRow_has_f p1 x_a0_count = some out) (kr : ∀ (x : Unit) (o9 : Int32) (pc : Nat) (lv : List (Nat × Value)), o9 = out → decode b_ByteRow_has pc = .ok (.ireturn, 1) → narrow .boolean (.int o9) = .int o9 → gAt C 0 0 [(q_a0, .inr (4, [.ref r_a0_bytes, .int x_a0_count]))] lv pc [.int o9]) : gAt C 0 0 [(q_a0, .inr (4, [.ref r_a0_bytes, .int x_a0_count]))] [(0, .ref q_a0), (1, .int p1)] 0 [] := by
  unfold ByteRow_has_f at hf
  have J17 : ∀ (j17_0 : Int32), ByteRow_has_J17 j17_0 = some out → gAt C 0 0 [(q_a0, .inr (4, [.ref r_a0_bytes, .int x_a0_count]))] [] 17 [.int j17_0] := by
    intro j17_0 hf
    unfold ByteRow_has_J17 at hf
    obtain ⟨e1, hf⟩ := gd_some hf
    exact kr () j17_0 17 [] (Option.some.inj hf) d_ByteRow_has_17 (bl_nar e1)
  have J16 : ByteRow_has_J16 = some out → gAt C 0 0 [(q_a0, .inr (4, [.ref r_a0_bytes, .int x_a0_count]))] [] 16 [] := by
    intro hf
    unfold ByteRow_has_J16 at hf
    refine g_iconst 16 hC (0 : Int32) (by decide) d_ByteRow_has_16 ?_
    exact J17 (0 : Int32) hf
  refine g_iload_n 0 hC (j := 1) (hj := rfl) (hd := d_ByteRow_has_0) ?_
  refine g_if_lt 1 hC 16 (by decide) d_ByteRow_has_1 (fun c2 => ?_) (fun c2 => ?_)
  · have hf := it_t c2 hf
    exact g_re [0] [] rfl rfl rfl (J16 hf)
  · have hf := it_f c2 hf
    refine g_iload_n 4 hC (j := 1) (hj := rfl) (hd := d_ByteRow_has_4) ?_
    refine g_aload_n 5 hC (j := 0) (hj := rfl) (hd := d_ByteRow_has_5) ?_
    refine g_get 6 hC i_ByteRow rfl 0 rfl 1 (by decide) k50 rfl d_ByteRow_has_6 ?_
    refine g_icmp_ge 9 hC 16 (by decide) d_ByteRow_has_9 (fun c3 => ?_) (fun c3 => ?_)
    · have hf := it_t c3 hf
      exact g_re [0] [] rfl rfl rfl (J16 hf)
    · have hf := it_f c3 hf
      refine g_iconst 12 hC (1 : Int32) (by decide) d_ByteRow_has_12 ?_
      refine g_goto 13 hC 17 (by decide) d_ByteRow_has_13 ?_
      exact g_re [0] [] rfl rfl rfl (J17 (1 : Int32) hf)
theorem c_ByteRow_has (l : Launch) (D : va_G) (K : Nat → ClassId) (q_a0 : Nat) (r_a0_bytes : Nat) (x_a0_count : Int32) (p1 : Int32) (out : Int32) (hf : ByteRow_has_f p1 x_a0_count = some out) : Ci l D K y_ByteRow_has (g_wd y_ByteRow_has b_ByteRow_has 2 (some .boolean)) { frames := 0, cells := 0, slots := 0, locals := 0 } [.ref q_a0, .int p1] [(q_a0, .inr (4, [.ref r_a0_bytes, .int x_a0_count]))] (fun (x : Unit) => [(q_a0, .inr (4, [.ref r_a0_bytes, .int x_a0_count]))]) out := mk_i (by decide) (Nat.le_of_ble_eq_true rfl) (fun p e s m below meth c A Q hC kr => m_ByteRow_has hC q_a0 r_a0_bytes x_a0_count p1 out hf (fun x o9 pc lv ho => by subst ho; exact kr x pc lv))
abbrev b_ByteRow_get : ByteArray := prog_5_method_3_code
def y_ByteRow_get : MethodName := ⟨R_ByteRow, "get", "(I)I"⟩
theorem d_ByteRow_get_0 : decode b_ByteRow_get 0 = .ok (.iload_n 1, 1) := by decide +kernel
theorem d_ByteRow_get_1 : decode b_ByteRow_get 1 = .ok (.ifCond .lt 20, 3) := by decide +kernel
theorem d_ByteRow_get_4 : decode b_ByteRow_get 4 = .ok (.iload_n 1, 1) := by decide +kernel
theorem d_ByteRow_get_5 : decode b_ByteRow_get 5 = .ok (.aload_n 0, 1) := by decide +kernel
theorem d_ByteRow_get_6 : decode b_ByteRow_get 6 = .ok (.getfield 21, 3) := by decide +kernel
theorem d_ByteRow_get_9 : decode b_ByteRow_get 9 = .ok (.if_icmp .ge 12, 3) := by decide +kernel
theorem d_ByteRow_get_12 : decode b_ByteRow_get 12 = .ok (.aload_n 0, 1) := by decide +kernel
theorem d_ByteRow_get_13 : decode b_ByteRow_get 13 = .ok (.getfield 15, 3) := by decide +kernel
theorem d_ByteRow_get_16 : decode b_ByteRow_get 16 = .ok (.iload_n 1, 1) := by decide +kernel
theorem d_ByteRow_get_17 : decode b_ByteRow_get 17 = .ok (.iaload, 1) := by decide +kernel
theorem d_ByteRow_get_18 : decode b_ByteRow_get 18 = .ok (.goto 4, 3) := by decide +kernel
theorem d_ByteRow_get_21 : decode b_ByteRow_get 21 = .ok (.iconst (-1), 1) := by decide +kernel
theorem d_ByteRow_get_22 : decode b_ByteRow_get 22 = .ok (.ireturn, 1) := by decide +kernel
theorem k49 : (Jvm.Cond.fieldLink "RotationPress$ByteRow" (15 : Nat) "RotationPress$ByteRow" "bytes" "[I") ∈ g_tbl := List.mem_filter.mpr ⟨List.mem_append_right (k2_sels lw_privs) (List.mem_append_left _ (List.mem_of_getElem? (l := tables_1_1) (i := 49) rfl)), rfl⟩
set_option maxRecDepth 100000 in
set_option maxHeartbeats 4000000 in
theorem m_ByteRow_get {C : gT} (hC : gOk C b_ByteRow_get R_ByteRow { frames := 0, cells := 0, slots := 0, locals := 0 } 2) (q_a0 : Nat) (q_a0_bytes : Nat) (x_a0_count : Int32) (n_a0_bytes : Nat) (f_a0_bytes : (Nat → Int32)) (p1 : Int32) (out : Int32) (hf : ByteRow_get_f p1 x_a0_count n_a0_bytes f_a0_bytes = some out) (kr : ∀ (x : Unit) (o9 : Int32) (pc : Nat) (lv : List (Nat × Value)), o9 = out → decode b_ByteRow_get pc = .ok (.ireturn, 1) → narrow .int (.int o9) = .int o9 → gAt C 0 0 [(q_a0, .inr (4, [.ref q_a0_bytes, .int x_a0_count])), (q_a0_bytes, .inl (g_K C 0, n_a0_bytes, .inl f_a0_bytes))] lv pc [.int o9]) : gAt C 0 0 [(q_a0, .inr (4, [.ref q_a0_bytes, .int x_a0_count])), (q_a0_bytes, .inl (g_K C 0, n_a0_bytes, .inl f_a0_bytes))] [(0, .ref q_a0), (1, .int p1)] 0 [] := by
  unfold ByteRow_get_f at hf
  have J22 : ∀ (j22_0 : Int32), ByteRow_get_J22 j22_0 = some out → gAt C 0 0 [(q_a0, .inr (4, [.ref q_a0_bytes, .int x_a0_count])), (q_a0_bytes, .inl (g_K C 0, n_a0_bytes, .inl f_a0_bytes))] [] 22 [.int j22_0] := by
    intro j22_0 hf
    unfold ByteRow_get_J22 at hf
    exact kr () j22_0 22 [] (Option.some.inj hf) d_ByteRow_get_22 rfl
  have J21 : ByteRow_get_J21 = some out → gAt C 0 0 [(q_a0, .inr (4, [.ref q_a0_bytes, .int x_a0_count])), (q_a0_bytes, .inl (g_K C 0, n_a0_bytes, .inl f_a0_bytes))] [] 21 [] := by
    intro hf
    unfold ByteRow_get_J21 at hf
    refine g_iconst 21 hC (-1 : Int32) (by decide) d_ByteRow_get_21 ?_
    exact J22 (-1 : Int32) hf
  refine g_iload_n 0 hC (j := 1) (hj := rfl) (hd := d_ByteRow_get_0) ?_
  refine g_if_lt 1 hC 21 (by decide) d_ByteRow_get_1 (fun c1 => ?_) (fun c1 => ?_)
  · have hf := it_t c1 hf
    exact g_re [0, 1] [] rfl rfl rfl (J21 hf)
  · have hf := it_f c1 hf
    refine g_iload_n 4 hC (j := 1) (hj := rfl) (hd := d_ByteRow_get_4) ?_
    refine g_aload_n 5 hC (j := 0) (hj := rfl) (hd := d_ByteRow_get_5) ?_
    refine g_get 6 hC i_ByteRow rfl 0 rfl 1 (by decide) k50 rfl d_ByteRow_get_6 ?_
    refine g_icmp_ge 9 hC 21 (by decide) d_ByteRow_get_9 (fun c2 => ?_) (fun c2 => ?_)
    · have hf := it_t c2 hf
      exact g_re [0, 1] [] rfl rfl rfl (J21 hf)
    · have hf := it_f c2 hf
      refine g_aload_n 12 hC (j := 0) (hj := rfl) (hd := d_ByteRow_get_12) ?_
      refine g_get 13 hC i_ByteRow rfl 0 rfl 0 (by decide) k49 rfl d_ByteRow_get_13 ?_
      refine g_iload_n 16 hC (j := 1) (hj := rfl) (hd := d_ByteRow_get_16) ?_
      obtain ⟨e3, hf⟩ := gd_some hf
      refine g_iald 17 hC 1 rfl e3 d_ByteRow_get_17 ?_
      refine g_goto 18 hC 22 (by decide) d_ByteRow_get_18 ?_
      exact g_re [0, 1] [] rfl rfl rfl (J22 (f_a0_bytes p1.toNatClampNeg) hf)
theorem c_ByteRow_get (l : Launch) (D : va_G) (K : Nat → ClassId) (q_a0 : Nat) (q_a0_bytes : Nat) (x_a0_count : Int32) (n_a0_bytes : Nat) (f_a0_bytes : (Nat → Int32)) (p1 : Int32) (out : Int32) (hf : ByteRow_get_f p1 x_a0_count n_a0_bytes f_a0_bytes = some out) : Ci l D K y_ByteRow_get (g_wd y_ByteRow_get b_ByteRow_get 2 (some .int)) { frames := 0, cells := 0, slots := 0, locals := 0 } [.ref q_a0, .int p1] [(q_a0, .inr (4, [.ref q_a0_bytes, .int x_a0_count])), (q_a0_bytes, .inl (K 0, n_a0_bytes, .inl f_a0_bytes))] (fun (x : Unit) => [(q_a0, .inr (4, [.ref q_a0_bytes, .int x_a0_count])), (q_a0_bytes, .inl (K 0, n_a0_bytes, .inl f_a0_bytes))]) out := mk_i (by decide) (Nat.le_of_ble_eq_true rfl) (fun p e s m below meth c A Q hC kr => m_ByteRow_get hC q_a0 q_a0_bytes x_a0_count n_a0_bytes f_a0_bytes p1 out hf (fun x o9 pc lv ho => by subst ho; exact kr x pc lv))
abbrev b_ByteRow_exchange : ByteArray := prog_5_method_6_code
def y_ByteRow_exchange : MethodName := ⟨R_ByteRow, "exchange", "(II)I"⟩
theorem d_ByteRow_exchange_0 : decode b_ByteRow_exchange 0 = .ok (.aload_n 0, 1) := by decide +kernel
theorem d_ByteRow_exchange_1 : decode b_ByteRow_exchange 1 = .ok (.iload_n 1, 1) := by decide +kernel
theorem d_ByteRow_exchange_2 : decode b_ByteRow_exchange 2 = .ok (.invokevirtual 35, 3) := by decide +kernel
theorem d_ByteRow_exchange_5 : decode b_ByteRow_exchange 5 = .ok (.ifCond .ne 5, 3) := by decide +kernel
theorem d_ByteRow_exchange_8 : decode b_ByteRow_exchange 8 = .ok (.iconst (-1), 1) := by decide +kernel
theorem d_ByteRow_exchange_9 : decode b_ByteRow_exchange 9 = .ok (.ireturn, 1) := by decide +kernel
theorem d_ByteRow_exchange_10 : decode b_ByteRow_exchange 10 = .ok (.aload_n 0, 1) := by decide +kernel
theorem d_ByteRow_exchange_11 : decode b_ByteRow_exchange 11 = .ok (.getfield 15, 3) := by decide +kernel
theorem d_ByteRow_exchange_14 : decode b_ByteRow_exchange 14 = .ok (.iload_n 1, 1) := by decide +kernel
theorem d_ByteRow_exchange_15 : decode b_ByteRow_exchange 15 = .ok (.iaload, 1) := by decide +kernel
theorem d_ByteRow_exchange_16 : decode b_ByteRow_exchange 16 = .ok (.istore_n 3, 1) := by decide +kernel
theorem d_ByteRow_exchange_17 : decode b_ByteRow_exchange 17 = .ok (.aload_n 0, 1) := by decide +kernel
theorem d_ByteRow_exchange_18 : decode b_ByteRow_exchange 18 = .ok (.getfield 15, 3) := by decide +kernel
theorem d_ByteRow_exchange_21 : decode b_ByteRow_exchange 21 = .ok (.iload_n 1, 1) := by decide +kernel
theorem d_ByteRow_exchange_22 : decode b_ByteRow_exchange 22 = .ok (.iload_n 2, 1) := by decide +kernel
theorem d_ByteRow_exchange_23 : decode b_ByteRow_exchange 23 = .ok (.iastore, 1) := by decide +kernel
theorem d_ByteRow_exchange_24 : decode b_ByteRow_exchange 24 = .ok (.iload_n 3, 1) := by decide +kernel
theorem d_ByteRow_exchange_25 : decode b_ByteRow_exchange 25 = .ok (.ireturn, 1) := by decide +kernel
theorem k584 : (Jvm.Cond.code ({ cls := "RotationPress$ByteRow", name := "has", desc := "(I)Z" } : Jvm.MethodName) prog_5_method_2_code (2 : Nat) (Option.some Jvm.ClassFile.FieldType.boolean)) ∈ g_tbl := List.mem_filter.mpr ⟨List.mem_append_right (k2_sels lw_privs) (List.mem_append_right _ (List.mem_append_right _ (List.mem_append_left _ (List.mem_of_getElem? (l := tables_1_3) (i := 104) rfl)))), rfl⟩
theorem k2 : (Jvm.Cond.initialized "RotationPress$ByteRow") ∈ g_tbl := List.mem_filter.mpr ⟨List.mem_append_right (k2_sels lw_privs) (List.mem_append_left _ (List.mem_of_getElem? (l := tables_1_1) (i := 2) rfl)), rfl⟩
theorem k606 : (Jvm.Cond.methodLink "RotationPress$ByteRow" (35 : Nat) ({ cls := "RotationPress$ByteRow", name := "has", desc := "(I)Z" } : Jvm.MethodName)) ∈ g_tbl := List.mem_filter.mpr ⟨List.mem_append_right (k2_sels lw_privs) (List.mem_append_right _ (List.mem_append_right _ (List.mem_append_left _ (List.mem_of_getElem? (l := tables_1_3) (i := 126) rfl)))), rfl⟩
theorem k582 : (Jvm.Cond.instanceMethod ({ cls := "RotationPress$ByteRow", name := "has", desc := "(I)Z" } : Jvm.MethodName)) ∈ g_tbl := List.mem_filter.mpr ⟨List.mem_append_right (k2_sels lw_privs) (List.mem_append_right _ (List.mem_append_right _ (List.mem_append_left _ (List.mem_of_getElem? (l := tables_1_3) (i := 102) rfl)))), rfl⟩
theorem k583 : (Jvm.Cond.selects "RotationPress$ByteRow" ({ cls := "RotationPress$ByteRow", name := "has", desc := "(I)Z" } : Jvm.MethodName) ({ cls := "RotationPress$ByteRow", name := "has", desc := "(I)Z" } : Jvm.MethodName)) ∈ g_tbl := List.mem_filter.mpr ⟨List.mem_append_right (k2_sels lw_privs) (List.mem_append_right _ (List.mem_append_right _ (List.mem_append_left _ (List.mem_of_getElem? (l := tables_1_3) (i := 103) rfl)))), rfl⟩
set_option maxRecDepth 100000 in
set_option maxHeartbeats 4000000 in
theorem m_ByteRow_exchange {C : gT} (hC : gOk C b_ByteRow_exchange R_ByteRow { frames := 1, cells := 0, slots := 0, locals := 21 } 4) (q_a0 : Nat) (q_a0_bytes : Nat) (x_a0_count : Int32) (n_a0_bytes : Nat) (f_a0_bytes : (Nat → Int32)) (p1 : Int32) (p2 : Int32) (out : (Int32 × (Nat → Int32))) (hf : ByteRow_exchange_f p1 x_a0_count f_a0_bytes n_a0_bytes p2 = some out) (kr : ∀ (x : Unit) (o9 : (Int32 × (Nat → Int32))) (pc : Nat) (lv : List (Nat × Value)), o9 = out → decode b_ByteRow_exchange pc = .ok (.ireturn, 1) → narrow .int (.int o9.1) = .int o9.1 → gAt C 0 0 [(q_a0, .inr (4, [.ref q_a0_bytes, .int x_a0_count])), (q_a0_bytes, .inl (g_K C 0, n_a0_bytes, .inl o9.2))] lv pc [.int o9.1]) : gAt C 0 0 [(q_a0, .inr (4, [.ref q_a0_bytes, .int x_a0_count])), (q_a0_bytes, .inl (g_K C 0, n_a0_bytes, .inl f_a0_bytes))] [(0, .ref q_a0), (1, .int p1), (2, .int p2)] 0 [] := by
  unfold ByteRow_exchange_f at hf
  refine g_aload_n 0 hC (j := 0) (hj := rfl) (hd := d_ByteRow_exchange_0) ?_
  refine g_iload_n 1 hC (j := 1) (hj := rfl) (hd := d_ByteRow_exchange_1) ?_
  obtain ⟨u1, hu1, hf⟩ := bd_some hf
  refine g_callVi 2 hC (c_ByteRow_has (g_l C) (g_D C) (g_K C) q_a0 q_a0_bytes x_a0_count p1 u1 hu1) k584 k2 k606 k582 k583 1 rfl (by decide +kernel) (by decide) [0] [1] [(q_a0_bytes, .inl (g_K C 0, n_a0_bytes, .inl f_a0_bytes))] rfl rfl rfl rfl rfl 0 4 rfl rfl rfl rfl (Nat.le_of_ble_eq_true rfl) ⟨Nat.le_of_ble_eq_true rfl, Nat.le_of_ble_eq_true rfl⟩ (fun (_ : Unit) => [(q_a0_bytes, .inl (g_K C 0, n_a0_bytes, .inl f_a0_bytes)), (q_a0, .inr (4, [.ref q_a0_bytes, .int x_a0_count]))]) (fun _ => rfl) d_ByteRow_exchange_2 0 0 rfl rfl (fun _ => ?_)
  refine g_if_ne 5 hC 10 (by decide) d_ByteRow_exchange_5 (fun c2 => ?_) (fun c2 => ?_)
  · have hf := it_f c2 hf
    refine g_aload_n 10 hC (j := 0) (hj := rfl) (hd := d_ByteRow_exchange_10) ?_
    refine g_get 11 hC i_ByteRow rfl 1 rfl 0 (by decide) k49 rfl d_ByteRow_exchange_11 ?_
    refine g_iload_n 14 hC (j := 1) (hj := rfl) (hd := d_ByteRow_exchange_14) ?_
    obtain ⟨e3, hf⟩ := gd_some hf
    refine g_iald 15 hC 0 rfl e3 d_ByteRow_exchange_15 ?_
    refine g_istore_n 16 hC (lv2 := [(3, .int (f_a0_bytes p1.toNatClampNeg)), (0, .ref q_a0), (1, .int p1), (2, .int p2)]) (hn := (by decide)) (hl2 := rfl) (hd := d_ByteRow_exchange_16) ?_
    refine g_aload_n 17 hC (j := 1) (hj := rfl) (hd := d_ByteRow_exchange_17) ?_
    refine g_get 18 hC i_ByteRow rfl 1 rfl 0 (by decide) k49 rfl d_ByteRow_exchange_18 ?_
    refine g_iload_n 21 hC (j := 2) (hj := rfl) (hd := d_ByteRow_exchange_21) ?_
    refine g_iload_n 22 hC (j := 3) (hj := rfl) (hd := d_ByteRow_exchange_22) ?_
    obtain ⟨e4, hf⟩ := gd_some hf
    refine g_iast 23 hC 0 rfl e4 [(q_a0_bytes, .inl (g_K C 0, n_a0_bytes, .inl (upd f_a0_bytes p1.toNatClampNeg p2))), (q_a0, .inr (4, [.ref q_a0_bytes, .int x_a0_count]))] rfl d_ByteRow_exchange_23 ?_
    refine g_iload_n 24 hC (j := 0) (hj := rfl) (hd := d_ByteRow_exchange_24) ?_
    exact g_re [1, 0] [] rfl rfl rfl (kr () ((f_a0_bytes p1.toNatClampNeg), (upd f_a0_bytes p1.toNatClampNeg p2)) 25 [] (Option.some.inj hf) d_ByteRow_exchange_25 rfl)
  · have hf := it_t c2 hf
    refine g_iconst 8 hC (-1 : Int32) (by decide) d_ByteRow_exchange_8 ?_
    exact g_re [1, 0] [] rfl rfl rfl (kr () ((-1 : Int32), f_a0_bytes) 9 [] (Option.some.inj hf) d_ByteRow_exchange_9 rfl)
theorem c_ByteRow_exchange (l : Launch) (D : va_G) (K : Nat → ClassId) (q_a0 : Nat) (q_a0_bytes : Nat) (x_a0_count : Int32) (n_a0_bytes : Nat) (f_a0_bytes : (Nat → Int32)) (p1 : Int32) (p2 : Int32) (out : (Int32 × (Nat → Int32))) (hf : ByteRow_exchange_f p1 x_a0_count f_a0_bytes n_a0_bytes p2 = some out) : Ci l D K y_ByteRow_exchange (g_wd y_ByteRow_exchange b_ByteRow_exchange 4 (some .int)) { frames := 1, cells := 0, slots := 0, locals := 21 } [.ref q_a0, .int p1, .int p2] [(q_a0, .inr (4, [.ref q_a0_bytes, .int x_a0_count])), (q_a0_bytes, .inl (K 0, n_a0_bytes, .inl f_a0_bytes))] (fun (x : Unit) => [(q_a0, .inr (4, [.ref q_a0_bytes, .int x_a0_count])), (q_a0_bytes, .inl (K 0, n_a0_bytes, .inl out.2))]) out.1 := mk_i (by decide) (Nat.le_of_ble_eq_true rfl) (fun p e s m below meth c A Q hC kr => m_ByteRow_exchange hC q_a0 q_a0_bytes x_a0_count n_a0_bytes f_a0_bytes p1 p2 out hf (fun x o9 pc lv ho => by subst ho; exact kr x pc lv))
abbrev b_Check_begin : ByteArray := prog_6_method_2_code
def y_Check_begin : MethodName := ⟨R_Check, "begin", "()V"⟩
theorem d_Check_begin_0 : decode b_Check_begin 0 = .ok (.aload_n 0, 1) := by decide +kernel
theorem d_Check_begin_1 : decode b_Check_begin 1 = .ok (.iconst (-1), 1) := by decide +kernel
theorem d_Check_begin_2 : decode b_Check_begin 2 = .ok (.putfield 15, 3) := by decide +kernel
theorem d_Check_begin_5 : decode b_Check_begin 5 = .ok (.return_, 1) := by decide +kernel
theorem k208 : (Jvm.Cond.fieldLink "RotationPress$Check" (15 : Nat) "RotationPress$Check" "bits" "I") ∈ g_tbl := List.mem_filter.mpr ⟨List.mem_append_right (k2_sels lw_privs) (List.mem_append_left _ (List.mem_of_getElem? (l := tables_1_1) (i := 208) rfl)), rfl⟩
set_option maxRecDepth 100000 in
set_option maxHeartbeats 4000000 in
theorem m_Check_begin {C : gT} (hC : gOk C b_Check_begin R_Check { frames := 0, cells := 0, slots := 0, locals := 0 } 1) (q_a0 : Nat) (r_a0_leaves : Nat) (x_a0_bits : Int32) (out : Int32) (hf : Check_begin_f = some out) (kr : ∀ (x : Unit) (o9 : Int32) (pc : Nat) (lv : List (Nat × Value)), o9 = out → decode b_Check_begin pc = .ok (.return_, 1) → gAt C 0 0 [(q_a0, .inr (5, [.ref r_a0_leaves, .int o9]))] lv pc []) : gAt C 0 0 [(q_a0, .inr (5, [.ref r_a0_leaves, .int x_a0_bits]))] [(0, .ref q_a0)] 0 [] := by
  unfold Check_begin_f at hf
  refine g_aload_n 0 hC (j := 0) (hj := rfl) (hd := d_Check_begin_0) ?_
  refine g_iconst 1 hC (-1 : Int32) (by decide) d_Check_begin_1 ?_
  refine g_put 2 hC i_Check rfl 0 rfl 1 (by decide) t_Check tk_Check n_Check k208 rfl rfl rfl (Nat.le_of_ble_eq_true rfl) [(q_a0, .inr (5, [.ref r_a0_leaves, .int (-1 : Int32)]))] rfl d_Check_begin_2 ?_
  exact g_re [0] [] rfl rfl rfl (kr () (-1 : Int32) 5 [] (Option.some.inj hf) d_Check_begin_5)
theorem c_Check_begin (l : Launch) (D : va_G) (K : Nat → ClassId) (q_a0 : Nat) (r_a0_leaves : Nat) (x_a0_bits : Int32) (out : Int32) (hf : Check_begin_f = some out) : Cv l D K y_Check_begin (g_wd y_Check_begin b_Check_begin 1 none) { frames := 0, cells := 0, slots := 0, locals := 0 } [.ref q_a0] [(q_a0, .inr (5, [.ref r_a0_leaves, .int x_a0_bits]))] (fun (x : Unit) => [(q_a0, .inr (5, [.ref r_a0_leaves, .int out]))]) := mk_v (by decide) (Nat.le_of_ble_eq_true rfl) (fun p e s m below meth c A Q hC kr => m_Check_begin hC q_a0 r_a0_leaves x_a0_bits out hf (fun x o9 pc lv ho => by subst ho; exact kr x pc lv))
abbrev b_Check_add : ByteArray := prog_6_method_3_code
def y_Check_add : MethodName := ⟨R_Check, "add", "(I)V"⟩
theorem d_Check_add_0 : decode b_Check_add 0 = .ok (.aload_n 0, 1) := by decide +kernel
theorem d_Check_add_1 : decode b_Check_add 1 = .ok (.aload_n 0, 1) := by decide +kernel
theorem d_Check_add_2 : decode b_Check_add 2 = .ok (.getfield 15, 3) := by decide +kernel
theorem d_Check_add_5 : decode b_Check_add 5 = .ok (.bipush 8, 2) := by decide +kernel
theorem d_Check_add_7 : decode b_Check_add 7 = .ok (.ishl, 1) := by decide +kernel
theorem d_Check_add_8 : decode b_Check_add 8 = .ok (.aload_n 0, 1) := by decide +kernel
theorem d_Check_add_9 : decode b_Check_add 9 = .ok (.getfield 9, 3) := by decide +kernel
theorem d_Check_add_12 : decode b_Check_add 12 = .ok (.aload_n 0, 1) := by decide +kernel
theorem d_Check_add_13 : decode b_Check_add 13 = .ok (.getfield 15, 3) := by decide +kernel
theorem d_Check_add_16 : decode b_Check_add 16 = .ok (.bipush 24, 2) := by decide +kernel
theorem d_Check_add_18 : decode b_Check_add 18 = .ok (.iushr, 1) := by decide +kernel
theorem d_Check_add_19 : decode b_Check_add 19 = .ok (.iload_n 1, 1) := by decide +kernel
theorem d_Check_add_20 : decode b_Check_add 20 = .ok (.ixor, 1) := by decide +kernel
theorem d_Check_add_21 : decode b_Check_add 21 = .ok (.sipush 255, 3) := by decide +kernel
theorem d_Check_add_24 : decode b_Check_add 24 = .ok (.iand, 1) := by decide +kernel
theorem d_Check_add_25 : decode b_Check_add 25 = .ok (.iaload, 1) := by decide +kernel
theorem d_Check_add_26 : decode b_Check_add 26 = .ok (.ixor, 1) := by decide +kernel
theorem d_Check_add_27 : decode b_Check_add 27 = .ok (.putfield 15, 3) := by decide +kernel
theorem d_Check_add_30 : decode b_Check_add 30 = .ok (.return_, 1) := by decide +kernel
theorem k207 : (Jvm.Cond.fieldLink "RotationPress$Check" (9 : Nat) "RotationPress$Check" "leaves" "[I") ∈ g_tbl := List.mem_filter.mpr ⟨List.mem_append_right (k2_sels lw_privs) (List.mem_append_left _ (List.mem_of_getElem? (l := tables_1_1) (i := 207) rfl)), rfl⟩
set_option maxRecDepth 100000 in
set_option maxHeartbeats 4000000 in
theorem m_Check_add {C : gT} (hC : gOk C b_Check_add R_Check { frames := 0, cells := 0, slots := 0, locals := 0 } 2) (q_a0 : Nat) (q_a0_leaves : Nat) (x_a0_bits : Int32) (f_a0_leaves : (Nat → Int32)) (p1 : Int32) (out : Int32) (hf : Check_add_f x_a0_bits p1 f_a0_leaves = some out) (kr : ∀ (x : Unit) (o9 : Int32) (pc : Nat) (lv : List (Nat × Value)), o9 = out → decode b_Check_add pc = .ok (.return_, 1) → gAt C 0 0 [(q_a0, .inr (5, [.ref q_a0_leaves, .int o9])), (q_a0_leaves, .inl (g_K C 0, 256, .inl f_a0_leaves))] lv pc []) : gAt C 0 0 [(q_a0, .inr (5, [.ref q_a0_leaves, .int x_a0_bits])), (q_a0_leaves, .inl (g_K C 0, 256, .inl f_a0_leaves))] [(0, .ref q_a0), (1, .int p1)] 0 [] := by
  unfold Check_add_f at hf
  refine g_aload_n 0 hC (j := 0) (hj := rfl) (hd := d_Check_add_0) ?_
  refine g_aload_n 1 hC (j := 0) (hj := rfl) (hd := d_Check_add_1) ?_
  refine g_get 2 hC i_Check rfl 0 rfl 1 (by decide) k208 rfl d_Check_add_2 ?_
  refine g_bipush 5 hC (8 : Int32) (by decide) d_Check_add_5 ?_
  refine g_ishl 7 hC d_Check_add_7 ?_
  refine g_aload_n 8 hC (j := 0) (hj := rfl) (hd := d_Check_add_8) ?_
  refine g_get 9 hC i_Check rfl 0 rfl 0 (by decide) k207 rfl d_Check_add_9 ?_
  refine g_aload_n 12 hC (j := 0) (hj := rfl) (hd := d_Check_add_12) ?_
  refine g_get 13 hC i_Check rfl 0 rfl 1 (by decide) k208 rfl d_Check_add_13 ?_
  refine g_bipush 16 hC (24 : Int32) (by decide) d_Check_add_16 ?_
  refine g_iushr 18 hC d_Check_add_18 ?_
  refine g_iload_n 19 hC (j := 1) (hj := rfl) (hd := d_Check_add_19) ?_
  refine g_ixor 20 hC d_Check_add_20 ?_
  refine g_sipush 21 hC (255 : Int32) (by decide) d_Check_add_21 ?_
  refine g_iand 24 hC d_Check_add_24 ?_
  obtain ⟨e1, hf⟩ := gd_some hf
  refine g_iald 25 hC 1 rfl e1 d_Check_add_25 ?_
  refine g_ixor 26 hC d_Check_add_26 ?_
  refine g_put 27 hC i_Check rfl 0 rfl 1 (by decide) t_Check tk_Check n_Check k208 rfl rfl rfl (Nat.le_of_ble_eq_true rfl) [(q_a0, .inr (5, [.ref q_a0_leaves, .int ((x_a0_bits <<< ((8 : Int32) &&& 31)) ^^^ (f_a0_leaves (((ush x_a0_bits (24 : Int32)) ^^^ p1) &&& (255 : Int32)).toNatClampNeg))])), (q_a0_leaves, .inl (g_K C 0, 256, .inl f_a0_leaves))] rfl d_Check_add_27 ?_
  exact g_re [0, 1] [] rfl rfl rfl (kr () ((x_a0_bits <<< ((8 : Int32) &&& 31)) ^^^ (f_a0_leaves (((ush x_a0_bits (24 : Int32)) ^^^ p1) &&& (255 : Int32)).toNatClampNeg)) 30 [] (Option.some.inj hf) d_Check_add_30)
theorem c_Check_add (l : Launch) (D : va_G) (K : Nat → ClassId) (q_a0 : Nat) (q_a0_leaves : Nat) (x_a0_bits : Int32) (f_a0_leaves : (Nat → Int32)) (p1 : Int32) (out : Int32) (hf : Check_add_f x_a0_bits p1 f_a0_leaves = some out) : Cv l D K y_Check_add (g_wd y_Check_add b_Check_add 2 none) { frames := 0, cells := 0, slots := 0, locals := 0 } [.ref q_a0, .int p1] [(q_a0, .inr (5, [.ref q_a0_leaves, .int x_a0_bits])), (q_a0_leaves, .inl (K 0, 256, .inl f_a0_leaves))] (fun (x : Unit) => [(q_a0, .inr (5, [.ref q_a0_leaves, .int out])), (q_a0_leaves, .inl (K 0, 256, .inl f_a0_leaves))]) := mk_v (by decide) (Nat.le_of_ble_eq_true rfl) (fun p e s m below meth c A Q hC kr => m_Check_add hC q_a0 q_a0_leaves x_a0_bits f_a0_leaves p1 out hf (fun x o9 pc lv ho => by subst ho; exact kr x pc lv))
abbrev b_Check_ofBlock : ByteArray := prog_6_method_4_code
def y_Check_ofBlock : MethodName := ⟨R_Check, "ofBlock", "()I"⟩
theorem d_Check_ofBlock_0 : decode b_Check_ofBlock 0 = .ok (.aload_n 0, 1) := by decide +kernel
theorem d_Check_ofBlock_1 : decode b_Check_ofBlock 1 = .ok (.getfield 15, 3) := by decide +kernel
theorem d_Check_ofBlock_4 : decode b_Check_ofBlock 4 = .ok (.iconst (-1), 1) := by decide +kernel
theorem d_Check_ofBlock_5 : decode b_Check_ofBlock 5 = .ok (.ixor, 1) := by decide +kernel
theorem d_Check_ofBlock_6 : decode b_Check_ofBlock 6 = .ok (.ireturn, 1) := by decide +kernel
set_option maxRecDepth 100000 in
set_option maxHeartbeats 4000000 in
theorem m_Check_ofBlock {C : gT} (hC : gOk C b_Check_ofBlock R_Check { frames := 0, cells := 0, slots := 0, locals := 0 } 1) (q_a0 : Nat) (r_a0_leaves : Nat) (x_a0_bits : Int32) (out : Int32) (hf : Check_ofBlock_f x_a0_bits = some out) (kr : ∀ (x : Unit) (o9 : Int32) (pc : Nat) (lv : List (Nat × Value)), o9 = out → decode b_Check_ofBlock pc = .ok (.ireturn, 1) → narrow .int (.int o9) = .int o9 → gAt C 0 0 [(q_a0, .inr (5, [.ref r_a0_leaves, .int x_a0_bits]))] lv pc [.int o9]) : gAt C 0 0 [(q_a0, .inr (5, [.ref r_a0_leaves, .int x_a0_bits]))] [(0, .ref q_a0)] 0 [] := by
  unfold Check_ofBlock_f at hf
  refine g_aload_n 0 hC (j := 0) (hj := rfl) (hd := d_Check_ofBlock_0) ?_
  refine g_get 1 hC i_Check rfl 0 rfl 1 (by decide) k208 rfl d_Check_ofBlock_1 ?_
  refine g_iconst 4 hC (-1 : Int32) (by decide) d_Check_ofBlock_4 ?_
  refine g_ixor 5 hC d_Check_ofBlock_5 ?_
  exact g_re [0] [] rfl rfl rfl (kr () (x_a0_bits ^^^ (-1 : Int32)) 6 [] (Option.some.inj hf) d_Check_ofBlock_6 rfl)
theorem c_Check_ofBlock (l : Launch) (D : va_G) (K : Nat → ClassId) (q_a0 : Nat) (r_a0_leaves : Nat) (x_a0_bits : Int32) (out : Int32) (hf : Check_ofBlock_f x_a0_bits = some out) : Ci l D K y_Check_ofBlock (g_wd y_Check_ofBlock b_Check_ofBlock 1 (some .int)) { frames := 0, cells := 0, slots := 0, locals := 0 } [.ref q_a0] [(q_a0, .inr (5, [.ref r_a0_leaves, .int x_a0_bits]))] (fun (x : Unit) => [(q_a0, .inr (5, [.ref r_a0_leaves, .int x_a0_bits]))]) out := mk_i (by decide) (Nat.le_of_ble_eq_true rfl) (fun p e s m below meth c A Q hC kr => m_Check_ofBlock hC q_a0 r_a0_leaves x_a0_bits out hf (fun x o9 pc lv ho => by subst ho; exact kr x pc lv))
abbrev b_Check_ofAll : ByteArray := prog_6_method_5_code
def y_Check_ofAll : MethodName := ⟨R_Check, "ofAll", "(II)I"⟩
theorem d_Check_ofAll_0 : decode b_Check_ofAll 0 = .ok (.iload_n 0, 1) := by decide +kernel
theorem d_Check_ofAll_1 : decode b_Check_ofAll 1 = .ok (.iconst 1, 1) := by decide +kernel
theorem d_Check_ofAll_2 : decode b_Check_ofAll 2 = .ok (.ishl, 1) := by decide +kernel
theorem d_Check_ofAll_3 : decode b_Check_ofAll 3 = .ok (.iload_n 0, 1) := by decide +kernel
theorem d_Check_ofAll_4 : decode b_Check_ofAll 4 = .ok (.bipush 31, 2) := by decide +kernel
theorem d_Check_ofAll_6 : decode b_Check_ofAll 6 = .ok (.iushr, 1) := by decide +kernel
theorem d_Check_ofAll_7 : decode b_Check_ofAll 7 = .ok (.ior, 1) := by decide +kernel
theorem d_Check_ofAll_8 : decode b_Check_ofAll 8 = .ok (.iload_n 1, 1) := by decide +kernel
theorem d_Check_ofAll_9 : decode b_Check_ofAll 9 = .ok (.ixor, 1) := by decide +kernel
theorem d_Check_ofAll_10 : decode b_Check_ofAll 10 = .ok (.ireturn, 1) := by decide +kernel
set_option maxRecDepth 100000 in
set_option maxHeartbeats 4000000 in
theorem m_Check_ofAll {C : gT} (hC : gOk C b_Check_ofAll R_Check { frames := 0, cells := 0, slots := 0, locals := 0 } 2) (p0 : Int32) (p1 : Int32) (out : Int32) (hf : Check_ofAll_f p0 p1 = some out) (kr : ∀ (x : Unit) (o9 : Int32) (pc : Nat) (lv : List (Nat × Value)), o9 = out → decode b_Check_ofAll pc = .ok (.ireturn, 1) → narrow .int (.int o9) = .int o9 → gAt C 0 0 [] lv pc [.int o9]) : gAt C 0 0 [] [(0, .int p0), (1, .int p1)] 0 [] := by
  unfold Check_ofAll_f at hf
  refine g_iload_n 0 hC (j := 0) (hj := rfl) (hd := d_Check_ofAll_0) ?_
  refine g_iconst 1 hC (1 : Int32) (by decide) d_Check_ofAll_1 ?_
  refine g_ishl 2 hC d_Check_ofAll_2 ?_
  refine g_iload_n 3 hC (j := 0) (hj := rfl) (hd := d_Check_ofAll_3) ?_
  refine g_bipush 4 hC (31 : Int32) (by decide) d_Check_ofAll_4 ?_
  refine g_iushr 6 hC d_Check_ofAll_6 ?_
  refine g_ior 7 hC d_Check_ofAll_7 ?_
  refine g_iload_n 8 hC (j := 1) (hj := rfl) (hd := d_Check_ofAll_8) ?_
  refine g_ixor 9 hC d_Check_ofAll_9 ?_
  exact g_re [] [] rfl rfl rfl (kr () (((p0 <<< ((1 : Int32) &&& 31)) ||| (ush p0 (31 : Int32))) ^^^ p1) 10 [] (Option.some.inj hf) d_Check_ofAll_10 rfl)
theorem c_Check_ofAll (l : Launch) (D : va_G) (K : Nat → ClassId) (p0 : Int32) (p1 : Int32) (out : Int32) (hf : Check_ofAll_f p0 p1 = some out) : Ci l D K y_Check_ofAll (g_wd y_Check_ofAll b_Check_ofAll 2 (some .int)) { frames := 0, cells := 0, slots := 0, locals := 0 } [.int p0, .int p1] [] (fun (x : Unit) => []) out := mk_i (by decide) (Nat.le_of_ble_eq_true rfl) (fun p e s m below meth c A Q hC kr => m_Check_ofAll hC p0 p1 out hf (fun x o9 pc lv ho => by subst ho; exact kr x pc lv))
abbrev b_Arrays_fill0 : ByteArray := prog_31_method_103_code
def y_Arrays_fill0 : MethodName := ⟨"java/util/Arrays", "fill", "([II)V"⟩
theorem d_Arrays_fill0_0 : decode b_Arrays_fill0 0 = .ok (.iconst 0, 1) := by decide +kernel
theorem d_Arrays_fill0_1 : decode b_Arrays_fill0 1 = .ok (.istore_n 2, 1) := by decide +kernel
theorem d_Arrays_fill0_2 : decode b_Arrays_fill0 2 = .ok (.aload_n 0, 1) := by decide +kernel
theorem d_Arrays_fill0_3 : decode b_Arrays_fill0 3 = .ok (.arraylength, 1) := by decide +kernel
theorem d_Arrays_fill0_4 : decode b_Arrays_fill0 4 = .ok (.istore_n 3, 1) := by decide +kernel
theorem d_Arrays_fill0_5 : decode b_Arrays_fill0 5 = .ok (.iload_n 2, 1) := by decide +kernel
theorem d_Arrays_fill0_6 : decode b_Arrays_fill0 6 = .ok (.iload_n 3, 1) := by decide +kernel
theorem d_Arrays_fill0_7 : decode b_Arrays_fill0 7 = .ok (.if_icmp .ge 13, 3) := by decide +kernel
theorem d_Arrays_fill0_10 : decode b_Arrays_fill0 10 = .ok (.aload_n 0, 1) := by decide +kernel
theorem d_Arrays_fill0_11 : decode b_Arrays_fill0 11 = .ok (.iload_n 2, 1) := by decide +kernel
theorem d_Arrays_fill0_12 : decode b_Arrays_fill0 12 = .ok (.iload_n 1, 1) := by decide +kernel
theorem d_Arrays_fill0_13 : decode b_Arrays_fill0 13 = .ok (.iastore, 1) := by decide +kernel
theorem d_Arrays_fill0_14 : decode b_Arrays_fill0 14 = .ok (.iinc 2 1, 3) := by decide +kernel
theorem d_Arrays_fill0_17 : decode b_Arrays_fill0 17 = .ok (.goto (-12), 3) := by decide +kernel
theorem d_Arrays_fill0_20 : decode b_Arrays_fill0 20 = .ok (.return_, 1) := by decide +kernel
set_option maxRecDepth 100000 in
set_option maxHeartbeats 4000000 in
theorem m_Arrays_fill0 {C : gT} (hC : gOk C b_Arrays_fill0 "java/util/Arrays" { frames := 0, cells := 0, slots := 0, locals := 0 } 4) (q_a0 : Nat) (n_a0 : Nat) (f_a0 : (Nat → Int32)) (p1 : Int32) (out : (Nat → Int32)) (hf : Arrays_fill0_f n_a0 p1 f_a0 = some out) (kr : ∀ (x : Unit) (o9 : (Nat → Int32)) (pc : Nat) (lv : List (Nat × Value)), o9 = out → decode b_Arrays_fill0 pc = .ok (.return_, 1) → gAt C 0 0 [(q_a0, .inl (g_K C 0, n_a0, .inl o9))] lv pc []) : gAt C 0 0 [(q_a0, .inl (g_K C 0, n_a0, .inl f_a0))] [(0, .ref q_a0), (1, .int p1)] 0 [] := by
  unfold Arrays_fill0_f at hf
  refine g_iconst 0 hC (0 : Int32) (by decide) d_Arrays_fill0_0 ?_
  refine g_istore_n 1 hC (lv2 := [(2, .int (0 : Int32)), (0, .ref q_a0), (1, .int p1)]) (hn := (by decide)) (hl2 := rfl) (hd := d_Arrays_fill0_1) ?_
  refine g_aload_n 2 hC (j := 1) (hj := rfl) (hd := d_Arrays_fill0_2) ?_
  refine g_alen 3 hC 0 rfl d_Arrays_fill0_3 ?_
  refine g_istore_n 4 hC (lv2 := [(3, .int (Int32.ofNat n_a0)), (2, .int (0 : Int32)), (0, .ref q_a0), (1, .int p1)]) (hn := (by decide)) (hl2 := rfl) (hd := d_Arrays_fill0_4) ?_
  obtain ⟨u2, hu2, hf⟩ := bd_some hf
  have Xu2_0 : ∀ (v3 : (Nat → Int32)), v3 = u2 → gAt C 0 0 [(q_a0, .inl (g_K C 0, n_a0, .inl v3))] [] 20 [] := by
    intro v3 hv
    rw [← hv] at hf
    exact kr () v3 20 [] (Option.some.inj hf) d_Arrays_fill0_20
  have Gu2 := lp_ind (b := (Arrays_fill0_L5 n_a0 p1)) (G := fun (s1 : (Int32 × (Nat → Int32))) => gAt C 0 0 [(q_a0, .inl (g_K C 0, n_a0, .inl s1.2))] [(0, .ref q_a0), (1, .int p1), (2, .int s1.1), (3, .int (Int32.ofNat n_a0))] 5 []) (o := u2) (by
      intro s1 u4 hf hI hX
      unfold Arrays_fill0_L5 at hf
      refine g_iload_n 5 hC (j := 2) (hj := rfl) (hd := d_Arrays_fill0_5) ?_
      refine g_iload_n 6 hC (j := 3) (hj := rfl) (hd := d_Arrays_fill0_6) ?_
      refine g_icmp_ge 7 hC 20 (by decide) d_Arrays_fill0_7 (fun c5 => ?_) (fun c5 => ?_)
      · have hf := it_t c5 hf
        exact g_re [0] [] rfl rfl rfl (Xu2_0 s1.2 (hX s1.2 hf))
      · have hf := it_f c5 hf
        refine g_aload_n 10 hC (j := 0) (hj := rfl) (hd := d_Arrays_fill0_10) ?_
        refine g_iload_n 11 hC (j := 2) (hj := rfl) (hd := d_Arrays_fill0_11) ?_
        refine g_iload_n 12 hC (j := 1) (hj := rfl) (hd := d_Arrays_fill0_12) ?_
        obtain ⟨e6, hf⟩ := gd_some hf
        refine g_iast 13 hC 0 rfl e6 [(q_a0, .inl (g_K C 0, n_a0, .inl (upd s1.2 s1.1.toNatClampNeg p1)))] rfl d_Arrays_fill0_13 ?_
        refine g_iinc 14 hC 2 (1 : Int32) [(2, .int (s1.1 + (1 : Int32))), (0, .ref q_a0), (1, .int p1), (3, .int (Int32.ofNat n_a0))] rfl (by decide) (by decide) rfl d_Arrays_fill0_14 ?_
        refine g_goto 17 hC 5 (by decide) d_Arrays_fill0_17 ?_
        exact g_re [0] [1, 2, 0, 3] rfl rfl rfl (hI ((s1.1 + (1 : Int32)), (upd s1.2 s1.1.toNatClampNeg p1)) hf)) gas
  exact g_re [0] [2, 3, 1, 0] rfl rfl rfl (Gu2 ((0 : Int32), f_a0) hu2)
theorem c_Arrays_fill0 (l : Launch) (D : va_G) (K : Nat → ClassId) (q_a0 : Nat) (n_a0 : Nat) (f_a0 : (Nat → Int32)) (p1 : Int32) (out : (Nat → Int32)) (hf : Arrays_fill0_f n_a0 p1 f_a0 = some out) : Cv l D K y_Arrays_fill0 (g_wd y_Arrays_fill0 b_Arrays_fill0 4 none) { frames := 0, cells := 0, slots := 0, locals := 0 } [.ref q_a0, .int p1] [(q_a0, .inl (K 0, n_a0, .inl f_a0))] (fun (x : Unit) => [(q_a0, .inl (K 0, n_a0, .inl out))]) := mk_v (by decide) (Nat.le_of_ble_eq_true rfl) (fun p e s m below meth c A Q hC kr => m_Arrays_fill0 hC q_a0 n_a0 f_a0 p1 out hf (fun x o9 pc lv ho => by subst ho; exact kr x pc lv))
