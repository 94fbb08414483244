abbrev b_Check_init : ByteArray := prog_6_method_1_code
def y_Check_init : MethodName := ⟨R_Check, "<init>", "()V"⟩
theorem d_Check_init_0 : decode b_Check_init 0 = .ok (.aload_n 0, 1) := by decide +kernel
theorem d_Check_init_1 : decode b_Check_init 1 = .ok (.invokespecial 3, 3) := by decide +kernel
theorem d_Check_init_4 : decode b_Check_init 4 = .ok (.aload_n 0, 1) := by decide +kernel
theorem d_Check_init_5 : decode b_Check_init 5 = .ok (.sipush 256, 3) := by decide +kernel
theorem d_Check_init_8 : decode b_Check_init 8 = .ok (.newarray .int, 2) := by decide +kernel
theorem d_Check_init_10 : decode b_Check_init 10 = .ok (.putfield 9, 3) := by decide +kernel
theorem d_Check_init_13 : decode b_Check_init 13 = .ok (.aload_n 0, 1) := by decide +kernel
theorem d_Check_init_14 : decode b_Check_init 14 = .ok (.iconst (-1), 1) := by decide +kernel
theorem d_Check_init_15 : decode b_Check_init 15 = .ok (.putfield 15, 3) := by decide +kernel
theorem d_Check_init_18 : decode b_Check_init 18 = .ok (.iconst 0, 1) := by decide +kernel
theorem d_Check_init_19 : decode b_Check_init 19 = .ok (.istore_n 1, 1) := by decide +kernel
theorem d_Check_init_20 : decode b_Check_init 20 = .ok (.iload_n 1, 1) := by decide +kernel
theorem d_Check_init_21 : decode b_Check_init 21 = .ok (.sipush 256, 3) := by decide +kernel
theorem d_Check_init_24 : decode b_Check_init 24 = .ok (.if_icmp .ge 52, 3) := by decide +kernel
theorem d_Check_init_27 : decode b_Check_init 27 = .ok (.iload_n 1, 1) := by decide +kernel
theorem d_Check_init_28 : decode b_Check_init 28 = .ok (.bipush 24, 2) := by decide +kernel
theorem d_Check_init_30 : decode b_Check_init 30 = .ok (.ishl, 1) := by decide +kernel
theorem d_Check_init_31 : decode b_Check_init 31 = .ok (.istore_n 2, 1) := by decide +kernel
theorem d_Check_init_32 : decode b_Check_init 32 = .ok (.iconst 0, 1) := by decide +kernel
theorem d_Check_init_33 : decode b_Check_init 33 = .ok (.istore_n 3, 1) := by decide +kernel
theorem d_Check_init_34 : decode b_Check_init 34 = .ok (.iload_n 3, 1) := by decide +kernel
theorem d_Check_init_35 : decode b_Check_init 35 = .ok (.bipush 8, 2) := by decide +kernel
theorem d_Check_init_37 : decode b_Check_init 37 = .ok (.if_icmp .ge 26, 3) := by decide +kernel
theorem d_Check_init_40 : decode b_Check_init 40 = .ok (.iload_n 2, 1) := by decide +kernel
theorem d_Check_init_41 : decode b_Check_init 41 = .ok (.ifCond .ge 12, 3) := by decide +kernel
theorem d_Check_init_44 : decode b_Check_init 44 = .ok (.iload_n 2, 1) := by decide +kernel
theorem d_Check_init_45 : decode b_Check_init 45 = .ok (.iconst 1, 1) := by decide +kernel
theorem d_Check_init_46 : decode b_Check_init 46 = .ok (.ishl, 1) := by decide +kernel
theorem d_Check_init_47 : decode b_Check_init 47 = .ok (.ldc 19, 2) := by decide +kernel
theorem d_Check_init_49 : decode b_Check_init 49 = .ok (.ixor, 1) := by decide +kernel
theorem d_Check_init_50 : decode b_Check_init 50 = .ok (.goto 6, 3) := by decide +kernel
theorem d_Check_init_53 : decode b_Check_init 53 = .ok (.iload_n 2, 1) := by decide +kernel
theorem d_Check_init_54 : decode b_Check_init 54 = .ok (.iconst 1, 1) := by decide +kernel
theorem d_Check_init_55 : decode b_Check_init 55 = .ok (.ishl, 1) := by decide +kernel
theorem d_Check_init_56 : decode b_Check_init 56 = .ok (.istore_n 2, 1) := by decide +kernel
theorem d_Check_init_57 : decode b_Check_init 57 = .ok (.iinc 3 1, 3) := by decide +kernel
theorem d_Check_init_60 : decode b_Check_init 60 = .ok (.goto (-26), 3) := by decide +kernel
theorem d_Check_init_63 : decode b_Check_init 63 = .ok (.aload_n 0, 1) := by decide +kernel
theorem d_Check_init_64 : decode b_Check_init 64 = .ok (.getfield 9, 3) := by decide +kernel
theorem d_Check_init_67 : decode b_Check_init 67 = .ok (.iload_n 1, 1) := by decide +kernel
theorem d_Check_init_68 : decode b_Check_init 68 = .ok (.iload_n 2, 1) := by decide +kernel
theorem d_Check_init_69 : decode b_Check_init 69 = .ok (.iastore, 1) := by decide +kernel
theorem d_Check_init_70 : decode b_Check_init 70 = .ok (.iinc 1 1, 3) := by decide +kernel
theorem d_Check_init_73 : decode b_Check_init 73 = .ok (.goto (-53), 3) := by decide +kernel
theorem d_Check_init_76 : decode b_Check_init 76 = .ok (.return_, 1) := by decide +kernel
theorem k206 : (Jvm.Cond.constant "RotationPress$Check" (19 : Nat) (79764919 : Int32)) ∈ g_tbl := List.mem_filter.mpr ⟨List.mem_append_right (k2_sels lw_privs) (List.mem_append_left _ (List.mem_of_getElem? (l := tables_1_1) (i := 206) rfl)), rfl⟩
theorem k205 : (Jvm.Cond.methodLink "RotationPress$Check" (3 : Nat) ({ cls := "java/lang/Object", name := "<init>", desc := "()V" } : Jvm.MethodName)) ∈ g_tbl := List.mem_filter.mpr ⟨List.mem_append_right (k2_sels lw_privs) (List.mem_append_left _ (List.mem_of_getElem? (l := tables_1_1) (i := 205) rfl)), rfl⟩
theorem k38 : (Jvm.Cond.instanceMethod ({ cls := "java/lang/Object", name := "<init>", desc := "()V" } : Jvm.MethodName)) ∈ g_tbl := List.mem_filter.mpr ⟨List.mem_append_right (k2_sels lw_privs) (List.mem_append_left _ (List.mem_of_getElem? (l := tables_1_1) (i := 38) rfl)), rfl⟩
theorem k39 : (Jvm.Cond.code ({ cls := "java/lang/Object", name := "<init>", desc := "()V" } : Jvm.MethodName) object_method_1_code (1 : Nat) (Option.none : Option Jvm.ClassFile.FieldType)) ∈ g_tbl := List.mem_filter.mpr ⟨List.mem_append_right (k2_sels lw_privs) (List.mem_append_left _ (List.mem_of_getElem? (l := tables_1_1) (i := 39) rfl)), rfl⟩
set_option maxRecDepth 100000 in
set_option maxHeartbeats 4000000 in
theorem m_Check_init_tail {C : gT} (hC : gOk C b_Check_init R_Check { frames := 1, cells := 1, slots := 256, locals := 30 } 4) (q_a0 : Nat) (q_a0_leaves : Nat) (x_a0_bits : Int32) (f_a0_leaves : (Nat → Int32)) (out : (Nat → Int32)) (hf : Check_init_tail_f f_a0_leaves = some out) (kr : ∀ (x : Unit) (o9 : (Nat → Int32)) (pc : Nat) (lv : List (Nat × Value)), o9 = out → decode b_Check_init pc = .ok (.return_, 1) → gAt C 1 256 [(q_a0, .inr (5, [.ref q_a0_leaves, .int x_a0_bits])), (q_a0_leaves, .inl (g_K C 0, 256, .inl o9))] lv pc []) : gAt C 1 256 [(q_a0, .inr (5, [.ref q_a0_leaves, .int x_a0_bits])), (q_a0_leaves, .inl (g_K C 0, 256, .inl f_a0_leaves))] [(0, .ref q_a0)] 18 [] := by
  unfold Check_init_tail_f at hf
  refine g_iconst 18 hC (0 : Int32) (by decide) d_Check_init_18 ?_
  refine g_istore_n 19 hC (lv2 := [(1, .int (0 : Int32)), (0, .ref q_a0)]) (hn := (by decide)) (hl2 := rfl) (hd := d_Check_init_19) ?_
  obtain ⟨u2, hu2, hf⟩ := bd_some hf
  have Xu2_0 : ∀ (v3 : (Nat → Int32)), v3 = u2 → gAt C 1 256 [(q_a0, .inr (5, [.ref q_a0_leaves, .int x_a0_bits])), (q_a0_leaves, .inl (g_K C 0, 256, .inl v3))] [] 76 [] := by
    intro v3 hv
    rw [← hv] at hf
    exact kr () v3 76 [] (Option.some.inj hf) d_Check_init_76
  have Gu2 := lp_ind (b := Check_init_tail_L20) (G := fun (s1 : (Int32 × (Nat → Int32))) => gAt C 1 256 [(q_a0, .inr (5, [.ref q_a0_leaves, .int x_a0_bits])), (q_a0_leaves, .inl (g_K C 0, 256, .inl s1.2))] [(0, .ref q_a0), (1, .int s1.1)] 20 []) (o := u2) (by
      intro s1 u4 hf hI hX
      unfold Check_init_tail_L20 at hf
      refine g_iload_n 20 hC (j := 1) (hj := rfl) (hd := d_Check_init_20) ?_
      refine g_sipush 21 hC (256 : Int32) (by decide) d_Check_init_21 ?_
      refine g_icmp_ge 24 hC 76 (by decide) d_Check_init_24 (fun c5 => ?_) (fun c5 => ?_)
      · have hf := it_t c5 hf
        exact g_re [0, 1] [] rfl rfl rfl (Xu2_0 s1.2 (hX s1.2 hf))
      · have hf := it_f c5 hf
        refine g_iload_n 27 hC (j := 1) (hj := rfl) (hd := d_Check_init_27) ?_
        refine g_bipush 28 hC (24 : Int32) (by decide) d_Check_init_28 ?_
        refine g_ishl 30 hC d_Check_init_30 ?_
        refine g_istore_n 31 hC (lv2 := [(2, .int (s1.1 <<< ((24 : Int32) &&& 31))), (0, .ref q_a0), (1, .int s1.1)]) (hn := (by decide)) (hl2 := rfl) (hd := d_Check_init_31) ?_
        refine g_iconst 32 hC (0 : Int32) (by decide) d_Check_init_32 ?_
        refine g_istore_n 33 hC (lv2 := [(3, .int (0 : Int32)), (2, .int (s1.1 <<< ((24 : Int32) &&& 31))), (0, .ref q_a0), (1, .int s1.1)]) (hn := (by decide)) (hl2 := rfl) (hd := d_Check_init_33) ?_
        obtain ⟨u7, hu7, hf⟩ := bd_some hf
        have Xu7_0 : ∀ (v8 : Int32), v8 = u7 → gAt C 1 256 [(q_a0, .inr (5, [.ref q_a0_leaves, .int x_a0_bits])), (q_a0_leaves, .inl (g_K C 0, 256, .inl s1.2))] [(0, .ref q_a0), (1, .int s1.1), (2, .int v8)] 63 [] := by
          intro v8 hv
          rw [← hv] at hf
          refine g_aload_n 63 hC (j := 0) (hj := rfl) (hd := d_Check_init_63) ?_
          refine g_get 64 hC i_Check rfl 0 rfl 0 (by decide) k207 rfl d_Check_init_64 ?_
          refine g_iload_n 67 hC (j := 1) (hj := rfl) (hd := d_Check_init_67) ?_
          refine g_iload_n 68 hC (j := 2) (hj := rfl) (hd := d_Check_init_68) ?_
          obtain ⟨e9, hf⟩ := gd_some hf
          refine g_iast 69 hC 1 rfl e9 [(q_a0, .inr (5, [.ref q_a0_leaves, .int x_a0_bits])), (q_a0_leaves, .inl (g_K C 0, 256, .inl (upd s1.2 s1.1.toNatClampNeg v8)))] rfl d_Check_init_69 ?_
          refine g_iinc 70 hC 1 (1 : Int32) [(1, .int (s1.1 + (1 : Int32))), (0, .ref q_a0), (2, .int v8)] rfl (by decide) (by decide) rfl d_Check_init_70 ?_
          refine g_goto 73 hC 20 (by decide) d_Check_init_73 ?_
          exact g_re [0, 1] [1, 0] rfl rfl rfl (hI ((s1.1 + (1 : Int32)), (upd s1.2 s1.1.toNatClampNeg v8)) hf)
        have Gu7 := lp_ind (b := Check_init_tail_L34) (G := fun (s6 : (Int32 × Int32)) => gAt C 1 256 [(q_a0, .inr (5, [.ref q_a0_leaves, .int x_a0_bits])), (q_a0_leaves, .inl (g_K C 0, 256, .inl s1.2))] [(0, .ref q_a0), (1, .int s1.1), (2, .int s6.1), (3, .int s6.2)] 34 []) (o := u7) (by
            intro s6 u10 hf hI hX
            unfold Check_init_tail_L34 at hf
            have J56 : ∀ (j56_0 : Int32), Check_init_tail_J56 s6 j56_0 = some u10 → gAt C 1 256 [(q_a0, .inr (5, [.ref q_a0_leaves, .int x_a0_bits])), (q_a0_leaves, .inl (g_K C 0, 256, .inl s1.2))] [(0, .ref q_a0), (1, .int s1.1), (3, .int s6.2)] 56 [.int j56_0] := by
              intro j56_0 hf
              unfold Check_init_tail_J56 at hf
              refine g_istore_n 56 hC (lv2 := [(2, .int j56_0), (0, .ref q_a0), (1, .int s1.1), (3, .int s6.2)]) (hn := (by decide)) (hl2 := rfl) (hd := d_Check_init_56) ?_
              refine g_iinc 57 hC 3 (1 : Int32) [(3, .int (s6.2 + (1 : Int32))), (2, .int j56_0), (0, .ref q_a0), (1, .int s1.1)] rfl (by decide) (by decide) rfl d_Check_init_57 ?_
              refine g_goto 60 hC 34 (by decide) d_Check_init_60 ?_
              exact g_re [0, 1] [2, 3, 1, 0] rfl rfl rfl (hI (j56_0, (s6.2 + (1 : Int32))) hf)
            refine g_iload_n 34 hC (j := 3) (hj := rfl) (hd := d_Check_init_34) ?_
            refine g_bipush 35 hC (8 : Int32) (by decide) d_Check_init_35 ?_
            refine g_icmp_ge 37 hC 63 (by decide) d_Check_init_37 (fun c11 => ?_) (fun c11 => ?_)
            · have hf := it_t c11 hf
              exact g_re [0, 1] [0, 1, 2] rfl rfl rfl (Xu7_0 s6.1 (hX s6.1 hf))
            · have hf := it_f c11 hf
              refine g_iload_n 40 hC (j := 2) (hj := rfl) (hd := d_Check_init_40) ?_
              refine g_if_ge 41 hC 53 (by decide) d_Check_init_41 (fun c12 => ?_) (fun c12 => ?_)
              · have hf := it_t c12 hf
                refine g_iload_n 53 hC (j := 2) (hj := rfl) (hd := d_Check_init_53) ?_
                refine g_iconst 54 hC (1 : Int32) (by decide) d_Check_init_54 ?_
                refine g_ishl 55 hC d_Check_init_55 ?_
                exact g_re [0, 1] [0, 1, 3] rfl rfl rfl (J56 (s6.1 <<< ((1 : Int32) &&& 31)) hf)
              · have hf := it_f c12 hf
                refine g_iload_n 44 hC (j := 2) (hj := rfl) (hd := d_Check_init_44) ?_
                refine g_iconst 45 hC (1 : Int32) (by decide) d_Check_init_45 ?_
                refine g_ishl 46 hC d_Check_init_46 ?_
                refine g_ldc 47 hC (79764919 : Int32) k206 d_Check_init_47 ?_
                refine g_ixor 49 hC d_Check_init_49 ?_
                refine g_goto 50 hC 56 (by decide) d_Check_init_50 ?_
                exact g_re [0, 1] [0, 1, 3] rfl rfl rfl (J56 ((s6.1 <<< ((1 : Int32) &&& 31)) ^^^ (79764919 : Int32)) hf)) gas
        exact g_re [0, 1] [2, 3, 1, 0] rfl rfl rfl (Gu7 ((s1.1 <<< ((24 : Int32) &&& 31)), (0 : Int32)) hu7)) gas
  exact g_re [0, 1] [1, 0] rfl rfl rfl (Gu2 ((0 : Int32), f_a0_leaves) hu2)
set_option maxRecDepth 100000 in
set_option maxHeartbeats 4000000 in
theorem m_Check_init {C : gT} (q_a0 : Nat) (out : (Nat → Int32)) (hin : (g_me C).name = "<init>") (hC : gOk C b_Check_init R_Check { frames := 1, cells := 1, slots := 256, locals := 30 } 4) (hf : Check_init_f = some out) (kr : ∀ (x : Nat) (o9 : (Nat → Int32)) (pc : Nat) (lv : List (Nat × Value)), o9 = out → decode b_Check_init pc = .ok (.return_, 1) → gAt C 1 256 [(q_a0, .inr (5, [.ref x, .int (-1 : Int32)])), (x, .inl (g_K C 0, 256, .inl o9))] lv pc []) : gAt C 0 0 [(q_a0, .inr (5, [.null, .int (0 : Int32)]))] [(0, .ref q_a0)] 0 [] := by
  unfold Check_init_f at hf
  refine g_aload_n 0 hC (j := 0) (hj := rfl) (hd := d_Check_init_0) ?_
  refine g_oinit 1 hC k205 k38 k39 (Nat.le_of_ble_eq_true rfl) (Nat.le_of_ble_eq_true rfl) d_Check_init_1 ?_
  refine g_aload_n 4 hC (j := 0) (hj := rfl) (hd := d_Check_init_4) ?_
  refine g_sipush 5 hC (256 : Int32) (by decide) d_Check_init_5 ?_
  refine g_newi 8 hC 256 k62 (by decide) (by decide) (by decide) (by decide) (by decide) d_Check_init_8 (fun q1 => ?_)
  refine g_wide 1 256 (Nat.le_of_ble_eq_true rfl) (Nat.le_of_ble_eq_true rfl) ?_
  refine g_putF 10 hC i_Check rfl 0 rfl 0 (by decide) t_Check tk_Check n_Check k207 rfl hin rfl rfl rfl (Nat.le_of_ble_eq_true rfl) [(q_a0, .inr (5, [.ref q1, .int (0 : Int32)])), (q1, .inl (g_K C 0, 256, .inl (fun _ => 0)))] rfl d_Check_init_10 ?_
  refine g_aload_n 13 hC (j := 0) (hj := rfl) (hd := d_Check_init_13) ?_
  refine g_iconst 14 hC (-1 : Int32) (by decide) d_Check_init_14 ?_
  refine g_put 15 hC i_Check rfl 0 rfl 1 (by decide) t_Check tk_Check n_Check k208 rfl rfl rfl (Nat.le_of_ble_eq_true rfl) [(q_a0, .inr (5, [.ref q1, .int (-1 : Int32)])), (q1, .inl (g_K C 0, 256, .inl (fun _ => 0)))] rfl d_Check_init_15 ?_
  exact g_re [0, 1] [0] rfl rfl rfl (m_Check_init_tail hC q_a0 q1 (-1 : Int32) (fun _ => 0) out hf (fun _ o9 pc lv ho hd => kr q1 o9 pc lv ho hd))
theorem c_Check_init (l : Launch) (D : va_G) (K : Nat → ClassId) (q_a0 : Nat) (out : (Nat → Int32)) (hf : Check_init_f = some out) : Cv l D K y_Check_init (g_wd y_Check_init b_Check_init 4 none) { frames := 1, cells := 1, slots := 256, locals := 30 } [.ref q_a0] [(q_a0, .inr (5, [.null, .int (0 : Int32)]))] (fun (x : Nat) => [(q_a0, .inr (5, [.ref x, .int (-1 : Int32)])), (x, .inl (K 0, 256, .inl out))]) := mk_ini (by decide) rfl (Nat.le_of_ble_eq_true rfl) (fun p e s m below meth c A Q hin hC kr => m_Check_init q_a0 out hin hC hf (fun x o9 pc lv ho => by subst ho; exact kr x pc lv))
abbrev b_FrontList_init : ByteArray := prog_9_method_1_code
def y_FrontList_init : MethodName := ⟨R_FrontList, "<init>", "()V"⟩
theorem d_FrontList_init_0 : decode b_FrontList_init 0 = .ok (.aload_n 0, 1) := by decide +kernel
theorem d_FrontList_init_1 : decode b_FrontList_init 1 = .ok (.invokespecial 3, 3) := by decide +kernel
theorem d_FrontList_init_4 : decode b_FrontList_init 4 = .ok (.aload_n 0, 1) := by decide +kernel
theorem d_FrontList_init_5 : decode b_FrontList_init 5 = .ok (.sipush 256, 3) := by decide +kernel
theorem d_FrontList_init_8 : decode b_FrontList_init 8 = .ok (.newarray .int, 2) := by decide +kernel
theorem d_FrontList_init_10 : decode b_FrontList_init 10 = .ok (.putfield 9, 3) := by decide +kernel
theorem d_FrontList_init_13 : decode b_FrontList_init 13 = .ok (.aload_n 0, 1) := by decide +kernel
theorem d_FrontList_init_14 : decode b_FrontList_init 14 = .ok (.iconst 0, 1) := by decide +kernel
theorem d_FrontList_init_15 : decode b_FrontList_init 15 = .ok (.putfield 15, 3) := by decide +kernel
theorem d_FrontList_init_18 : decode b_FrontList_init 18 = .ok (.return_, 1) := by decide +kernel
theorem k80 : (Jvm.Cond.methodLink "RotationPress$FrontList" (3 : Nat) ({ cls := "java/lang/Object", name := "<init>", desc := "()V" } : Jvm.MethodName)) ∈ g_tbl := List.mem_filter.mpr ⟨List.mem_append_right (k2_sels lw_privs) (List.mem_append_left _ (List.mem_of_getElem? (l := tables_1_1) (i := 80) rfl)), rfl⟩
set_option maxRecDepth 100000 in
set_option maxHeartbeats 4000000 in
theorem m_FrontList_init {C : gT} (q_a0 : Nat) (out : Unit) (hin : (g_me C).name = "<init>") (hC : gOk C b_FrontList_init R_FrontList { frames := 1, cells := 1, slots := 256, locals := 30 } 1) (hf : FrontList_init_f = some out) (kr : ∀ (x : Nat) (o9 : Unit) (pc : Nat) (lv : List (Nat × Value)), o9 = out → decode b_FrontList_init pc = .ok (.return_, 1) → gAt C 1 256 [(q_a0, .inr (8, [.ref x, .int (0 : Int32)])), (x, .inl (g_K C 0, 256, .inl (fun _ => 0)))] lv pc []) : gAt C 0 0 [(q_a0, .inr (8, [.null, .int (0 : Int32)]))] [(0, .ref q_a0)] 0 [] := by
  unfold FrontList_init_f at hf
  refine g_aload_n 0 hC (j := 0) (hj := rfl) (hd := d_FrontList_init_0) ?_
  refine g_oinit 1 hC k80 k38 k39 (Nat.le_of_ble_eq_true rfl) (Nat.le_of_ble_eq_true rfl) d_FrontList_init_1 ?_
  refine g_aload_n 4 hC (j := 0) (hj := rfl) (hd := d_FrontList_init_4) ?_
  refine g_sipush 5 hC (256 : Int32) (by decide) d_FrontList_init_5 ?_
  refine g_newi 8 hC 256 k62 (by decide) (by decide) (by decide) (by decide) (by decide) d_FrontList_init_8 (fun q1 => ?_)
  refine g_wide 1 256 (Nat.le_of_ble_eq_true rfl) (Nat.le_of_ble_eq_true rfl) ?_
  refine g_putF 10 hC i_FrontList rfl 0 rfl 0 (by decide) t_FrontList tk_FrontList n_FrontList k81 rfl hin rfl rfl rfl (Nat.le_of_ble_eq_true rfl) [(q_a0, .inr (8, [.ref q1, .int (0 : Int32)])), (q1, .inl (g_K C 0, 256, .inl (fun _ => 0)))] rfl d_FrontList_init_10 ?_
  refine g_aload_n 13 hC (j := 0) (hj := rfl) (hd := d_FrontList_init_13) ?_
  refine g_iconst 14 hC (0 : Int32) (by decide) d_FrontList_init_14 ?_
  refine g_put 15 hC i_FrontList rfl 0 rfl 1 (by decide) t_FrontList tk_FrontList n_FrontList k82 rfl rfl rfl (Nat.le_of_ble_eq_true rfl) [(q_a0, .inr (8, [.ref q1, .int (0 : Int32)])), (q1, .inl (g_K C 0, 256, .inl (fun _ => 0)))] rfl d_FrontList_init_15 ?_
  exact g_re [0, 1] [] rfl rfl rfl (kr q1 () 18 [] (Option.some.inj hf) d_FrontList_init_18)
theorem c_FrontList_init (l : Launch) (D : va_G) (K : Nat → ClassId) (q_a0 : Nat) (out : Unit) (hf : FrontList_init_f = some out) : Cv l D K y_FrontList_init (g_wd y_FrontList_init b_FrontList_init 1 none) { frames := 1, cells := 1, slots := 256, locals := 30 } [.ref q_a0] [(q_a0, .inr (8, [.null, .int (0 : Int32)]))] (fun (x : Nat) => [(q_a0, .inr (8, [.ref x, .int (0 : Int32)])), (x, .inl (K 0, 256, .inl (fun _ => 0)))]) := mk_ini (by decide) rfl (Nat.le_of_ble_eq_true rfl) (fun p e s m below meth c A Q hin hC kr => m_FrontList_init q_a0 out hin hC hf (fun x o9 pc lv ho => by subst ho; exact kr x pc lv))
abbrev b_ByteRow_init : ByteArray := prog_5_method_1_code
def y_ByteRow_init : MethodName := ⟨R_ByteRow, "<init>", "(I)V"⟩
theorem d_ByteRow_init_0 : decode b_ByteRow_init 0 = .ok (.aload_n 0, 1) := by decide +kernel
theorem d_ByteRow_init_1 : decode b_ByteRow_init 1 = .ok (.invokespecial 3, 3) := by decide +kernel
theorem d_ByteRow_init_4 : decode b_ByteRow_init 4 = .ok (.aload_n 0, 1) := by decide +kernel
theorem d_ByteRow_init_5 : decode b_ByteRow_init 5 = .ok (.iload_n 1, 1) := by decide +kernel
theorem d_ByteRow_init_6 : decode b_ByteRow_init 6 = .ok (.iconst 1, 1) := by decide +kernel
theorem d_ByteRow_init_7 : decode b_ByteRow_init 7 = .ok (.invokestatic 9, 3) := by decide +kernel
theorem d_ByteRow_init_10 : decode b_ByteRow_init 10 = .ok (.newarray .int, 2) := by decide +kernel
theorem d_ByteRow_init_12 : decode b_ByteRow_init 12 = .ok (.putfield 15, 3) := by decide +kernel
theorem d_ByteRow_init_15 : decode b_ByteRow_init 15 = .ok (.aload_n 0, 1) := by decide +kernel
theorem d_ByteRow_init_16 : decode b_ByteRow_init 16 = .ok (.iconst 0, 1) := by decide +kernel
theorem d_ByteRow_init_17 : decode b_ByteRow_init 17 = .ok (.putfield 21, 3) := by decide +kernel
theorem d_ByteRow_init_20 : decode b_ByteRow_init 20 = .ok (.return_, 1) := by decide +kernel
theorem k45 : (Jvm.Cond.methodLink "RotationPress$ByteRow" (3 : Nat) ({ cls := "java/lang/Object", name := "<init>", desc := "()V" } : Jvm.MethodName)) ∈ g_tbl := List.mem_filter.mpr ⟨List.mem_append_right (k2_sels lw_privs) (List.mem_append_left _ (List.mem_of_getElem? (l := tables_1_1) (i := 45) rfl)), rfl⟩
theorem k46 : (Jvm.Cond.methodLink "RotationPress$ByteRow" (9 : Nat) ({ cls := "java/lang/Math", name := "max", desc := "(II)I" } : Jvm.MethodName)) ∈ g_tbl := List.mem_filter.mpr ⟨List.mem_append_right (k2_sels lw_privs) (List.mem_append_left _ (List.mem_of_getElem? (l := tables_1_1) (i := 46) rfl)), rfl⟩
set_option maxRecDepth 100000 in
set_option maxHeartbeats 4000000 in
theorem m_ByteRow_init {C : gT} (q_a0 : Nat) (p1 : Int32) (hs : nok (jmax p1 (1 : Int32)) = true) (out : Unit) (hin : (g_me C).name = "<init>") (hC : gOk C b_ByteRow_init R_ByteRow { frames := 1, cells := 1, slots := (jmax p1 (1 : Int32)).toNatClampNeg, locals := 30 } 2) (hf : ByteRow_init_f = some out) (kr : ∀ (x : Nat) (o9 : Unit) (pc : Nat) (lv : List (Nat × Value)), o9 = out → decode b_ByteRow_init pc = .ok (.return_, 1) → gAt C 1 ((jmax p1 (1 : Int32)).toNatClampNeg) [(q_a0, .inr (4, [.ref x, .int (0 : Int32)])), (x, .inl (g_K C 0, (jmax p1 (1 : Int32)).toNatClampNeg, .inl (fun _ => 0)))] lv pc []) : gAt C 0 0 [(q_a0, .inr (4, [.null, .int (0 : Int32)]))] [(0, .ref q_a0), (1, .int p1)] 0 [] := by
  unfold ByteRow_init_f at hf
  refine g_aload_n 0 hC (j := 0) (hj := rfl) (hd := d_ByteRow_init_0) ?_
  refine g_oinit 1 hC k45 k38 k39 (Nat.le_of_ble_eq_true rfl) (Nat.le_of_ble_eq_true rfl) d_ByteRow_init_1 ?_
  refine g_aload_n 4 hC (j := 0) (hj := rfl) (hd := d_ByteRow_init_4) ?_
  refine g_iload_n 5 hC (j := 1) (hj := rfl) (hd := d_ByteRow_init_5) ?_
  refine g_iconst 6 hC (1 : Int32) (by decide) d_ByteRow_init_6 ?_
  refine g_mmax 7 hC k46 k47 k3 k48 (Nat.le_of_ble_eq_true rfl) (Nat.le_of_ble_eq_true rfl) (Nat.zero_le _) (Nat.zero_le _) d_ByteRow_init_7 ?_
  obtain ⟨hs1, hs2⟩ := nok_ok hs
  refine g_newi 10 hC (jmax p1 (1 : Int32)).toNatClampNeg k62 hs1 rfl (by omega) (Nat.le_refl _) (show 0 + (jmax p1 (1 : Int32)).toNatClampNeg ≤ (jmax p1 (1 : Int32)).toNatClampNeg by omega) d_ByteRow_init_10 (fun q1 => ?_)
  refine g_wide 1 (jmax p1 (1 : Int32)).toNatClampNeg (Nat.le_refl _) (by omega) ?_
  refine g_put 12 hC i_ByteRow rfl 0 rfl 0 (by decide) t_ByteRow tk_ByteRow n_ByteRow k49 rfl rfl rfl (Nat.le_of_ble_eq_true rfl) [(q_a0, .inr (4, [.ref q1, .int (0 : Int32)])), (q1, .inl (g_K C 0, (jmax p1 (1 : Int32)).toNatClampNeg, .inl (fun _ => 0)))] rfl d_ByteRow_init_12 ?_
  refine g_aload_n 15 hC (j := 0) (hj := rfl) (hd := d_ByteRow_init_15) ?_
  refine g_iconst 16 hC (0 : Int32) (by decide) d_ByteRow_init_16 ?_
  refine g_put 17 hC i_ByteRow rfl 0 rfl 1 (by decide) t_ByteRow tk_ByteRow n_ByteRow k50 rfl rfl rfl (Nat.le_of_ble_eq_true rfl) [(q_a0, .inr (4, [.ref q1, .int (0 : Int32)])), (q1, .inl (g_K C 0, (jmax p1 (1 : Int32)).toNatClampNeg, .inl (fun _ => 0)))] rfl d_ByteRow_init_17 ?_
  exact g_re [0, 1] [] rfl rfl rfl (kr q1 () 20 [] (Option.some.inj hf) d_ByteRow_init_20)
theorem c_ByteRow_init (l : Launch) (D : va_G) (K : Nat → ClassId) (q_a0 : Nat) (p1 : Int32) (hs : nok (jmax p1 (1 : Int32)) = true) (out : Unit) (hf : ByteRow_init_f = some out) : Cv l D K y_ByteRow_init (g_wd y_ByteRow_init b_ByteRow_init 2 none) { frames := 1, cells := 1, slots := (jmax p1 (1 : Int32)).toNatClampNeg, locals := 30 } [.ref q_a0, .int p1] [(q_a0, .inr (4, [.null, .int (0 : Int32)]))] (fun (x : Nat) => [(q_a0, .inr (4, [.ref x, .int (0 : Int32)])), (x, .inl (K 0, (jmax p1 (1 : Int32)).toNatClampNeg, .inl (fun _ => 0)))]) := mk_ini (by decide) rfl (Nat.le_of_ble_eq_true rfl) (fun p e s m below meth c A Q hin hC kr => m_ByteRow_init q_a0 p1 hs out hin hC hf (fun x o9 pc lv ho => by subst ho; exact kr x pc lv))
abbrev b_CodeTable_init : ByteArray := prog_7_method_1_code
def y_CodeTable_init : MethodName := ⟨R_CodeTable, "<init>", "()V"⟩
theorem d_CodeTable_init_0 : decode b_CodeTable_init 0 = .ok (.aload_n 0, 1) := by decide +kernel
theorem d_CodeTable_init_1 : decode b_CodeTable_init 1 = .ok (.invokespecial 3, 3) := by decide +kernel
theorem d_CodeTable_init_4 : decode b_CodeTable_init 4 = .ok (.aload_n 0, 1) := by decide +kernel
theorem d_CodeTable_init_5 : decode b_CodeTable_init 5 = .ok (.sipush 258, 3) := by decide +kernel
theorem d_CodeTable_init_8 : decode b_CodeTable_init 8 = .ok (.newarray .int, 2) := by decide +kernel
theorem d_CodeTable_init_10 : decode b_CodeTable_init 10 = .ok (.putfield 9, 3) := by decide +kernel
theorem d_CodeTable_init_13 : decode b_CodeTable_init 13 = .ok (.aload_n 0, 1) := by decide +kernel
theorem d_CodeTable_init_14 : decode b_CodeTable_init 14 = .ok (.sipush 258, 3) := by decide +kernel
theorem d_CodeTable_init_17 : decode b_CodeTable_init 17 = .ok (.newarray .int, 2) := by decide +kernel
theorem d_CodeTable_init_19 : decode b_CodeTable_init 19 = .ok (.putfield 15, 3) := by decide +kernel
theorem d_CodeTable_init_22 : decode b_CodeTable_init 22 = .ok (.aload_n 0, 1) := by decide +kernel
theorem d_CodeTable_init_23 : decode b_CodeTable_init 23 = .ok (.sipush 258, 3) := by decide +kernel
theorem d_CodeTable_init_26 : decode b_CodeTable_init 26 = .ok (.newarray .int, 2) := by decide +kernel
theorem d_CodeTable_init_28 : decode b_CodeTable_init 28 = .ok (.putfield 18, 3) := by decide +kernel
theorem d_CodeTable_init_31 : decode b_CodeTable_init 31 = .ok (.aload_n 0, 1) := by decide +kernel
theorem d_CodeTable_init_32 : decode b_CodeTable_init 32 = .ok (.bipush 21, 2) := by decide +kernel
theorem d_CodeTable_init_34 : decode b_CodeTable_init 34 = .ok (.newarray .int, 2) := by decide +kernel
theorem d_CodeTable_init_36 : decode b_CodeTable_init 36 = .ok (.putfield 21, 3) := by decide +kernel
theorem d_CodeTable_init_39 : decode b_CodeTable_init 39 = .ok (.aload_n 0, 1) := by decide +kernel
theorem d_CodeTable_init_40 : decode b_CodeTable_init 40 = .ok (.bipush 21, 2) := by decide +kernel
theorem d_CodeTable_init_42 : decode b_CodeTable_init 42 = .ok (.newarray .int, 2) := by decide +kernel
theorem d_CodeTable_init_44 : decode b_CodeTable_init 44 = .ok (.putfield 24, 3) := by decide +kernel
theorem d_CodeTable_init_47 : decode b_CodeTable_init 47 = .ok (.aload_n 0, 1) := by decide +kernel
theorem d_CodeTable_init_48 : decode b_CodeTable_init 48 = .ok (.bipush 21, 2) := by decide +kernel
theorem d_CodeTable_init_50 : decode b_CodeTable_init 50 = .ok (.newarray .int, 2) := by decide +kernel
theorem d_CodeTable_init_52 : decode b_CodeTable_init 52 = .ok (.putfield 27, 3) := by decide +kernel
theorem d_CodeTable_init_55 : decode b_CodeTable_init 55 = .ok (.aload_n 0, 1) := by decide +kernel
theorem d_CodeTable_init_56 : decode b_CodeTable_init 56 = .ok (.iconst 0, 1) := by decide +kernel
theorem d_CodeTable_init_57 : decode b_CodeTable_init 57 = .ok (.putfield 30, 3) := by decide +kernel
theorem d_CodeTable_init_60 : decode b_CodeTable_init 60 = .ok (.aload_n 0, 1) := by decide +kernel
theorem d_CodeTable_init_61 : decode b_CodeTable_init 61 = .ok (.iconst 0, 1) := by decide +kernel
theorem d_CodeTable_init_62 : decode b_CodeTable_init 62 = .ok (.putfield 34, 3) := by decide +kernel
theorem d_CodeTable_init_65 : decode b_CodeTable_init 65 = .ok (.return_, 1) := by decide +kernel
theorem k98 : (Jvm.Cond.methodLink "RotationPress$CodeTable" (3 : Nat) ({ cls := "java/lang/Object", name := "<init>", desc := "()V" } : Jvm.MethodName)) ∈ g_tbl := List.mem_filter.mpr ⟨List.mem_append_right (k2_sels lw_privs) (List.mem_append_left _ (List.mem_of_getElem? (l := tables_1_1) (i := 98) rfl)), rfl⟩
set_option maxRecDepth 100000 in
set_option maxHeartbeats 4000000 in
theorem m_CodeTable_init {C : gT} (q_a0 : Nat) (out : Unit) (hin : (g_me C).name = "<init>") (hC : gOk C b_CodeTable_init R_CodeTable { frames := 1, cells := 6, slots := 837, locals := 30 } 1) (hf : CodeTable_init_f = some out) (kr : ∀ (x : (Nat × Nat × Nat × Nat × Nat × Nat)) (o9 : Unit) (pc : Nat) (lv : List (Nat × Value)), o9 = out → decode b_CodeTable_init pc = .ok (.return_, 1) → gAt C 6 837 [(q_a0, .inr (6, [.ref x.1, .ref x.2.1, .int (0 : Int32), .ref x.2.2.1, .ref x.2.2.2.1, .ref x.2.2.2.2.1, .ref x.2.2.2.2.2, .int (0 : Int32)])), (x.1, .inl (g_K C 0, 258, .inl (fun _ => 0))), (x.2.1, .inl (g_K C 0, 258, .inl (fun _ => 0))), (x.2.2.1, .inl (g_K C 0, 258, .inl (fun _ => 0))), (x.2.2.2.1, .inl (g_K C 0, 21, .inl (fun _ => 0))), (x.2.2.2.2.1, .inl (g_K C 0, 21, .inl (fun _ => 0))), (x.2.2.2.2.2, .inl (g_K C 0, 21, .inl (fun _ => 0)))] lv pc []) : gAt C 0 0 [(q_a0, .inr (6, [.null, .null, .int (0 : Int32), .null, .null, .null, .null, .int (0 : Int32)]))] [(0, .ref q_a0)] 0 [] := by
  unfold CodeTable_init_f at hf
  refine g_aload_n 0 hC (j := 0) (hj := rfl) (hd := d_CodeTable_init_0) ?_
  refine g_oinit 1 hC k98 k38 k39 (Nat.le_of_ble_eq_true rfl) (Nat.le_of_ble_eq_true rfl) d_CodeTable_init_1 ?_
  refine g_aload_n 4 hC (j := 0) (hj := rfl) (hd := d_CodeTable_init_4) ?_
  refine g_sipush 5 hC (258 : Int32) (by decide) d_CodeTable_init_5 ?_
  refine g_newi 8 hC 258 k62 (by decide) (by decide) (by decide) (by decide) (by decide) d_CodeTable_init_8 (fun q1 => ?_)
  refine g_wide 1 258 (Nat.le_of_ble_eq_true rfl) (Nat.le_of_ble_eq_true rfl) ?_
  refine g_putF 10 hC i_CodeTable rfl 0 rfl 0 (by decide) t_CodeTable tk_CodeTable n_CodeTable k99 rfl hin rfl rfl rfl (Nat.le_of_ble_eq_true rfl) [(q_a0, .inr (6, [.ref q1, .null, .int (0 : Int32), .null, .null, .null, .null, .int (0 : Int32)])), (q1, .inl (g_K C 0, 258, .inl (fun _ => 0)))] rfl d_CodeTable_init_10 ?_
  refine g_aload_n 13 hC (j := 0) (hj := rfl) (hd := d_CodeTable_init_13) ?_
  refine g_sipush 14 hC (258 : Int32) (by decide) d_CodeTable_init_14 ?_
  refine g_newi 17 hC 258 k62 (by decide) (by decide) (by decide) (by decide) (by decide) d_CodeTable_init_17 (fun q2 => ?_)
  refine g_wide 2 516 (Nat.le_of_ble_eq_true rfl) (Nat.le_of_ble_eq_true rfl) ?_
  refine g_putF 19 hC i_CodeTable rfl 0 rfl 1 (by decide) t_CodeTable tk_CodeTable n_CodeTable k104 rfl hin rfl rfl rfl (Nat.le_of_ble_eq_true rfl) [(q_a0, .inr (6, [.ref q1, .ref q2, .int (0 : Int32), .null, .null, .null, .null, .int (0 : Int32)])), (q1, .inl (g_K C 0, 258, .inl (fun _ => 0))), (q2, .inl (g_K C 0, 258, .inl (fun _ => 0)))] rfl d_CodeTable_init_19 ?_
  refine g_aload_n 22 hC (j := 0) (hj := rfl) (hd := d_CodeTable_init_22) ?_
  refine g_sipush 23 hC (258 : Int32) (by decide) d_CodeTable_init_23 ?_
  refine g_newi 26 hC 258 k62 (by decide) (by decide) (by decide) (by decide) (by decide) d_CodeTable_init_26 (fun q3 => ?_)
  refine g_wide 3 774 (Nat.le_of_ble_eq_true rfl) (Nat.le_of_ble_eq_true rfl) ?_
  refine g_putF 28 hC i_CodeTable rfl 0 rfl 3 (by decide) t_CodeTable tk_CodeTable n_CodeTable k111 rfl hin rfl rfl rfl (Nat.le_of_ble_eq_true rfl) [(q_a0, .inr (6, [.ref q1, .ref q2, .int (0 : Int32), .ref q3, .null, .null, .null, .int (0 : Int32)])), (q1, .inl (g_K C 0, 258, .inl (fun _ => 0))), (q2, .inl (g_K C 0, 258, .inl (fun _ => 0))), (q3, .inl (g_K C 0, 258, .inl (fun _ => 0)))] rfl d_CodeTable_init_28 ?_
  refine g_aload_n 31 hC (j := 0) (hj := rfl) (hd := d_CodeTable_init_31) ?_
  refine g_bipush 32 hC (21 : Int32) (by decide) d_CodeTable_init_32 ?_
  refine g_newi 34 hC 21 k62 (by decide) (by decide) (by decide) (by decide) (by decide) d_CodeTable_init_34 (fun q4 => ?_)
  refine g_wide 4 795 (Nat.le_of_ble_eq_true rfl) (Nat.le_of_ble_eq_true rfl) ?_
  refine g_putF 36 hC i_CodeTable rfl 0 rfl 4 (by decide) t_CodeTable tk_CodeTable n_CodeTable k112 rfl hin rfl rfl rfl (Nat.le_of_ble_eq_true rfl) [(q_a0, .inr (6, [.ref q1, .ref q2, .int (0 : Int32), .ref q3, .ref q4, .null, .null, .int (0 : Int32)])), (q1, .inl (g_K C 0, 258, .inl (fun _ => 0))), (q2, .inl (g_K C 0, 258, .inl (fun _ => 0))), (q3, .inl (g_K C 0, 258, .inl (fun _ => 0))), (q4, .inl (g_K C 0, 21, .inl (fun _ => 0)))] rfl d_CodeTable_init_36 ?_
  refine g_aload_n 39 hC (j := 0) (hj := rfl) (hd := d_CodeTable_init_39) ?_
  refine g_bipush 40 hC (21 : Int32) (by decide) d_CodeTable_init_40 ?_
  refine g_newi 42 hC 21 k62 (by decide) (by decide) (by decide) (by decide) (by decide) d_CodeTable_init_42 (fun q5 => ?_)
  refine g_wide 5 816 (Nat.le_of_ble_eq_true rfl) (Nat.le_of_ble_eq_true rfl) ?_
  refine g_putF 44 hC i_CodeTable rfl 0 rfl 5 (by decide) t_CodeTable tk_CodeTable n_CodeTable k113 rfl hin rfl rfl rfl (Nat.le_of_ble_eq_true rfl) [(q_a0, .inr (6, [.ref q1, .ref q2, .int (0 : Int32), .ref q3, .ref q4, .ref q5, .null, .int (0 : Int32)])), (q1, .inl (g_K C 0, 258, .inl (fun _ => 0))), (q2, .inl (g_K C 0, 258, .inl (fun _ => 0))), (q3, .inl (g_K C 0, 258, .inl (fun _ => 0))), (q4, .inl (g_K C 0, 21, .inl (fun _ => 0))), (q5, .inl (g_K C 0, 21, .inl (fun _ => 0)))] rfl d_CodeTable_init_44 ?_
  refine g_aload_n 47 hC (j := 0) (hj := rfl) (hd := d_CodeTable_init_47) ?_
  refine g_bipush 48 hC (21 : Int32) (by decide) d_CodeTable_init_48 ?_
  refine g_newi 50 hC 21 k62 (by decide) (by decide) (by decide) (by decide) (by decide) d_CodeTable_init_50 (fun q6 => ?_)
  refine g_wide 6 837 (Nat.le_of_ble_eq_true rfl) (Nat.le_of_ble_eq_true rfl) ?_
  refine g_putF 52 hC i_CodeTable rfl 0 rfl 6 (by decide) t_CodeTable tk_CodeTable n_CodeTable k114 rfl hin rfl rfl rfl (Nat.le_of_ble_eq_true rfl) [(q_a0, .inr (6, [.ref q1, .ref q2, .int (0 : Int32), .ref q3, .ref q4, .ref q5, .ref q6, .int (0 : Int32)])), (q1, .inl (g_K C 0, 258, .inl (fun _ => 0))), (q2, .inl (g_K C 0, 258, .inl (fun _ => 0))), (q3, .inl (g_K C 0, 258, .inl (fun _ => 0))), (q4, .inl (g_K C 0, 21, .inl (fun _ => 0))), (q5, .inl (g_K C 0, 21, .inl (fun _ => 0))), (q6, .inl (g_K C 0, 21, .inl (fun _ => 0)))] rfl d_CodeTable_init_52 ?_
  refine g_aload_n 55 hC (j := 0) (hj := rfl) (hd := d_CodeTable_init_55) ?_
  refine g_iconst 56 hC (0 : Int32) (by decide) d_CodeTable_init_56 ?_
  refine g_put 57 hC i_CodeTable rfl 0 rfl 2 (by decide) t_CodeTable tk_CodeTable n_CodeTable k106 rfl rfl rfl (Nat.le_of_ble_eq_true rfl) [(q_a0, .inr (6, [.ref q1, .ref q2, .int (0 : Int32), .ref q3, .ref q4, .ref q5, .ref q6, .int (0 : Int32)])), (q1, .inl (g_K C 0, 258, .inl (fun _ => 0))), (q2, .inl (g_K C 0, 258, .inl (fun _ => 0))), (q3, .inl (g_K C 0, 258, .inl (fun _ => 0))), (q4, .inl (g_K C 0, 21, .inl (fun _ => 0))), (q5, .inl (g_K C 0, 21, .inl (fun _ => 0))), (q6, .inl (g_K C 0, 21, .inl (fun _ => 0)))] rfl d_CodeTable_init_57 ?_
  refine g_aload_n 60 hC (j := 0) (hj := rfl) (hd := d_CodeTable_init_60) ?_
  refine g_iconst 61 hC (0 : Int32) (by decide) d_CodeTable_init_61 ?_
  refine g_put 62 hC i_CodeTable rfl 0 rfl 7 (by decide) t_CodeTable tk_CodeTable n_CodeTable k115 rfl rfl rfl (Nat.le_of_ble_eq_true rfl) [(q_a0, .inr (6, [.ref q1, .ref q2, .int (0 : Int32), .ref q3, .ref q4, .ref q5, .ref q6, .int (0 : Int32)])), (q1, .inl (g_K C 0, 258, .inl (fun _ => 0))), (q2, .inl (g_K C 0, 258, .inl (fun _ => 0))), (q3, .inl (g_K C 0, 258, .inl (fun _ => 0))), (q4, .inl (g_K C 0, 21, .inl (fun _ => 0))), (q5, .inl (g_K C 0, 21, .inl (fun _ => 0))), (q6, .inl (g_K C 0, 21, .inl (fun _ => 0)))] rfl d_CodeTable_init_62 ?_
  exact g_re [0, 1, 2, 3, 4, 5, 6] [] rfl rfl rfl (kr (q1, q2, q3, q4, q5, q6) () 65 [] (Option.some.inj hf) d_CodeTable_init_65)
theorem c_CodeTable_init (l : Launch) (D : va_G) (K : Nat → ClassId) (q_a0 : Nat) (out : Unit) (hf : CodeTable_init_f = some out) : Cv l D K y_CodeTable_init (g_wd y_CodeTable_init b_CodeTable_init 1 none) { frames := 1, cells := 6, slots := 837, locals := 30 } [.ref q_a0] [(q_a0, .inr (6, [.null, .null, .int (0 : Int32), .null, .null, .null, .null, .int (0 : Int32)]))] (fun (x : (Nat × Nat × Nat × Nat × Nat × Nat)) => [(q_a0, .inr (6, [.ref x.1, .ref x.2.1, .int (0 : Int32), .ref x.2.2.1, .ref x.2.2.2.1, .ref x.2.2.2.2.1, .ref x.2.2.2.2.2, .int (0 : Int32)])), (x.1, .inl (K 0, 258, .inl (fun _ => 0))), (x.2.1, .inl (K 0, 258, .inl (fun _ => 0))), (x.2.2.1, .inl (K 0, 258, .inl (fun _ => 0))), (x.2.2.2.1, .inl (K 0, 21, .inl (fun _ => 0))), (x.2.2.2.2.1, .inl (K 0, 21, .inl (fun _ => 0))), (x.2.2.2.2.2, .inl (K 0, 21, .inl (fun _ => 0)))]) := mk_ini (by decide) rfl (Nat.le_of_ble_eq_true rfl) (fun p e s m below meth c A Q hin hC kr => m_CodeTable_init q_a0 out hin hC hf (fun x o9 pc lv ho => by subst ho; exact kr x pc lv))
abbrev b_Coder_init : ByteArray := prog_8_method_1_code
def y_Coder_init : MethodName := ⟨R_Coder, "<init>", "()V"⟩
theorem d_Coder_init_0 : decode b_Coder_init 0 = .ok (.aload_n 0, 1) := by decide +kernel
theorem d_Coder_init_1 : decode b_Coder_init 1 = .ok (.invokespecial 3, 3) := by decide +kernel
theorem d_Coder_init_4 : decode b_Coder_init 4 = .ok (.aload_n 0, 1) := by decide +kernel
theorem d_Coder_init_5 : decode b_Coder_init 5 = .ok (.sipush 516, 3) := by decide +kernel
theorem d_Coder_init_8 : decode b_Coder_init 8 = .ok (.newarray .int, 2) := by decide +kernel
theorem d_Coder_init_10 : decode b_Coder_init 10 = .ok (.putfield 9, 3) := by decide +kernel
theorem d_Coder_init_13 : decode b_Coder_init 13 = .ok (.aload_n 0, 1) := by decide +kernel
theorem d_Coder_init_14 : decode b_Coder_init 14 = .ok (.sipush 516, 3) := by decide +kernel
theorem d_Coder_init_17 : decode b_Coder_init 17 = .ok (.newarray .int, 2) := by decide +kernel
theorem d_Coder_init_19 : decode b_Coder_init 19 = .ok (.putfield 15, 3) := by decide +kernel
theorem d_Coder_init_22 : decode b_Coder_init 22 = .ok (.aload_n 0, 1) := by decide +kernel
theorem d_Coder_init_23 : decode b_Coder_init 23 = .ok (.sipush 516, 3) := by decide +kernel
theorem d_Coder_init_26 : decode b_Coder_init 26 = .ok (.newarray .int, 2) := by decide +kernel
theorem d_Coder_init_28 : decode b_Coder_init 28 = .ok (.putfield 18, 3) := by decide +kernel
theorem d_Coder_init_31 : decode b_Coder_init 31 = .ok (.aload_n 0, 1) := by decide +kernel
theorem d_Coder_init_32 : decode b_Coder_init 32 = .ok (.sipush 258, 3) := by decide +kernel
theorem d_Coder_init_35 : decode b_Coder_init 35 = .ok (.newarray .int, 2) := by decide +kernel
theorem d_Coder_init_37 : decode b_Coder_init 37 = .ok (.putfield 21, 3) := by decide +kernel
theorem d_Coder_init_40 : decode b_Coder_init 40 = .ok (.aload_n 0, 1) := by decide +kernel
theorem d_Coder_init_41 : decode b_Coder_init 41 = .ok (.sipush 2254, 3) := by decide +kernel
theorem d_Coder_init_44 : decode b_Coder_init 44 = .ok (.newarray .int, 2) := by decide +kernel
theorem d_Coder_init_46 : decode b_Coder_init 46 = .ok (.putfield 24, 3) := by decide +kernel
theorem d_Coder_init_49 : decode b_Coder_init 49 = .ok (.return_, 1) := by decide +kernel
theorem k244 : (Jvm.Cond.methodLink "RotationPress$Coder" (3 : Nat) ({ cls := "java/lang/Object", name := "<init>", desc := "()V" } : Jvm.MethodName)) ∈ g_tbl := List.mem_filter.mpr ⟨List.mem_append_right (k2_sels lw_privs) (List.mem_append_right _ (List.mem_append_left _ (List.mem_of_getElem? (l := tables_1_2) (i := 4) rfl))), rfl⟩
set_option maxRecDepth 100000 in
set_option maxHeartbeats 4000000 in
theorem m_Coder_init {C : gT} (q_a0 : Nat) (out : Unit) (hin : (g_me C).name = "<init>") (hC : gOk C b_Coder_init R_Coder { frames := 1, cells := 5, slots := 4060, locals := 30 } 1) (hf : Coder_init_f = some out) (kr : ∀ (x : (Nat × Nat × Nat × Nat × Nat)) (o9 : Unit) (pc : Nat) (lv : List (Nat × Value)), o9 = out → decode b_Coder_init pc = .ok (.return_, 1) → gAt C 5 4060 [(q_a0, .inr (7, [.ref x.1, .ref x.2.1, .ref x.2.2.1, .ref x.2.2.2.1, .ref x.2.2.2.2])), (x.1, .inl (g_K C 0, 516, .inl (fun _ => 0))), (x.2.1, .inl (g_K C 0, 516, .inl (fun _ => 0))), (x.2.2.1, .inl (g_K C 0, 516, .inl (fun _ => 0))), (x.2.2.2.1, .inl (g_K C 0, 258, .inl (fun _ => 0))), (x.2.2.2.2, .inl (g_K C 0, 2254, .inl (fun _ => 0)))] lv pc []) : gAt C 0 0 [(q_a0, .inr (7, [.null, .null, .null, .null, .null]))] [(0, .ref q_a0)] 0 [] := by
  unfold Coder_init_f at hf
  refine g_aload_n 0 hC (j := 0) (hj := rfl) (hd := d_Coder_init_0) ?_
  refine g_oinit 1 hC k244 k38 k39 (Nat.le_of_ble_eq_true rfl) (Nat.le_of_ble_eq_true rfl) d_Coder_init_1 ?_
  refine g_aload_n 4 hC (j := 0) (hj := rfl) (hd := d_Coder_init_4) ?_
  refine g_sipush 5 hC (516 : Int32) (by decide) d_Coder_init_5 ?_
  refine g_newi 8 hC 516 k62 (by decide) (by decide) (by decide) (by decide) (by decide) d_Coder_init_8 (fun q1 => ?_)
  refine g_wide 1 516 (Nat.le_of_ble_eq_true rfl) (Nat.le_of_ble_eq_true rfl) ?_
  refine g_putF 10 hC i_Coder rfl 0 rfl 0 (by decide) t_Coder tk_Coder n_Coder k245 rfl hin rfl rfl rfl (Nat.le_of_ble_eq_true rfl) [(q_a0, .inr (7, [.ref q1, .null, .null, .null, .null])), (q1, .inl (g_K C 0, 516, .inl (fun _ => 0)))] rfl d_Coder_init_10 ?_
  refine g_aload_n 13 hC (j := 0) (hj := rfl) (hd := d_Coder_init_13) ?_
  refine g_sipush 14 hC (516 : Int32) (by decide) d_Coder_init_14 ?_
  refine g_newi 17 hC 516 k62 (by decide) (by decide) (by decide) (by decide) (by decide) d_Coder_init_17 (fun q2 => ?_)
  refine g_wide 2 1032 (Nat.le_of_ble_eq_true rfl) (Nat.le_of_ble_eq_true rfl) ?_
  refine g_putF 19 hC i_Coder rfl 0 rfl 1 (by decide) t_Coder tk_Coder n_Coder k246 rfl hin rfl rfl rfl (Nat.le_of_ble_eq_true rfl) [(q_a0, .inr (7, [.ref q1, .ref q2, .null, .null, .null])), (q1, .inl (g_K C 0, 516, .inl (fun _ => 0))), (q2, .inl (g_K C 0, 516, .inl (fun _ => 0)))] rfl d_Coder_init_19 ?_
  refine g_aload_n 22 hC (j := 0) (hj := rfl) (hd := d_Coder_init_22) ?_
  refine g_sipush 23 hC (516 : Int32) (by decide) d_Coder_init_23 ?_
  refine g_newi 26 hC 516 k62 (by decide) (by decide) (by decide) (by decide) (by decide) d_Coder_init_26 (fun q3 => ?_)
  refine g_wide 3 1548 (Nat.le_of_ble_eq_true rfl) (Nat.le_of_ble_eq_true rfl) ?_
  refine g_putF 28 hC i_Coder rfl 0 rfl 2 (by decide) t_Coder tk_Coder n_Coder k247 rfl hin rfl rfl rfl (Nat.le_of_ble_eq_true rfl) [(q_a0, .inr (7, [.ref q1, .ref q2, .ref q3, .null, .null])), (q1, .inl (g_K C 0, 516, .inl (fun _ => 0))), (q2, .inl (g_K C 0, 516, .inl (fun _ => 0))), (q3, .inl (g_K C 0, 516, .inl (fun _ => 0)))] rfl d_Coder_init_28 ?_
  refine g_aload_n 31 hC (j := 0) (hj := rfl) (hd := d_Coder_init_31) ?_
  refine g_sipush 32 hC (258 : Int32) (by decide) d_Coder_init_32 ?_
  refine g_newi 35 hC 258 k62 (by decide) (by decide) (by decide) (by decide) (by decide) d_Coder_init_35 (fun q4 => ?_)
  refine g_wide 4 1806 (Nat.le_of_ble_eq_true rfl) (Nat.le_of_ble_eq_true rfl) ?_
  refine g_putF 37 hC i_Coder rfl 0 rfl 3 (by decide) t_Coder tk_Coder n_Coder k248 rfl hin rfl rfl rfl (Nat.le_of_ble_eq_true rfl) [(q_a0, .inr (7, [.ref q1, .ref q2, .ref q3, .ref q4, .null])), (q1, .inl (g_K C 0, 516, .inl (fun _ => 0))), (q2, .inl (g_K C 0, 516, .inl (fun _ => 0))), (q3, .inl (g_K C 0, 516, .inl (fun _ => 0))), (q4, .inl (g_K C 0, 258, .inl (fun _ => 0)))] rfl d_Coder_init_37 ?_
  refine g_aload_n 40 hC (j := 0) (hj := rfl) (hd := d_Coder_init_40) ?_
  refine g_sipush 41 hC (2254 : Int32) (by decide) d_Coder_init_41 ?_
  refine g_newi 44 hC 2254 k62 (by decide) (by decide) (by decide) (by decide) (by decide) d_Coder_init_44 (fun q5 => ?_)
  refine g_wide 5 4060 (Nat.le_of_ble_eq_true rfl) (Nat.le_of_ble_eq_true rfl) ?_
  refine g_putF 46 hC i_Coder rfl 0 rfl 4 (by decide) t_Coder tk_Coder n_Coder k249 rfl hin rfl rfl rfl (Nat.le_of_ble_eq_true rfl) [(q_a0, .inr (7, [.ref q1, .ref q2, .ref q3, .ref q4, .ref q5])), (q1, .inl (g_K C 0, 516, .inl (fun _ => 0))), (q2, .inl (g_K C 0, 516, .inl (fun _ => 0))), (q3, .inl (g_K C 0, 516, .inl (fun _ => 0))), (q4, .inl (g_K C 0, 258, .inl (fun _ => 0))), (q5, .inl (g_K C 0, 2254, .inl (fun _ => 0)))] rfl d_Coder_init_46 ?_
  exact g_re [0, 1, 2, 3, 4, 5] [] rfl rfl rfl (kr (q1, q2, q3, q4, q5) () 49 [] (Option.some.inj hf) d_Coder_init_49)
theorem c_Coder_init (l : Launch) (D : va_G) (K : Nat → ClassId) (q_a0 : Nat) (out : Unit) (hf : Coder_init_f = some out) : Cv l D K y_Coder_init (g_wd y_Coder_init b_Coder_init 1 none) { frames := 1, cells := 5, slots := 4060, locals := 30 } [.ref q_a0] [(q_a0, .inr (7, [.null, .null, .null, .null, .null]))] (fun (x : (Nat × Nat × Nat × Nat × Nat)) => [(q_a0, .inr (7, [.ref x.1, .ref x.2.1, .ref x.2.2.1, .ref x.2.2.2.1, .ref x.2.2.2.2])), (x.1, .inl (K 0, 516, .inl (fun _ => 0))), (x.2.1, .inl (K 0, 516, .inl (fun _ => 0))), (x.2.2.1, .inl (K 0, 516, .inl (fun _ => 0))), (x.2.2.2.1, .inl (K 0, 258, .inl (fun _ => 0))), (x.2.2.2.2, .inl (K 0, 2254, .inl (fun _ => 0)))]) := mk_ini (by decide) rfl (Nat.le_of_ble_eq_true rfl) (fun p e s m below meth c A Q hin hC kr => m_Coder_init q_a0 out hin hC hf (fun x o9 pc lv ho => by subst ho; exact kr x pc lv))
abbrev b_Rotations_init : ByteArray := prog_11_method_1_code
def y_Rotations_init : MethodName := ⟨R_Rotations, "<init>", "()V"⟩
theorem d_Rotations_init_0 : decode b_Rotations_init 0 = .ok (.aload_n 0, 1) := by decide +kernel
theorem d_Rotations_init_1 : decode b_Rotations_init 1 = .ok (.invokespecial 3, 3) := by decide +kernel
theorem d_Rotations_init_4 : decode b_Rotations_init 4 = .ok (.aload_n 0, 1) := by decide +kernel
theorem d_Rotations_init_5 : decode b_Rotations_init 5 = .ok (.sipush 2250, 3) := by decide +kernel
theorem d_Rotations_init_8 : decode b_Rotations_init 8 = .ok (.newarray .int, 2) := by decide +kernel
theorem d_Rotations_init_10 : decode b_Rotations_init 10 = .ok (.putfield 9, 3) := by decide +kernel
theorem d_Rotations_init_13 : decode b_Rotations_init 13 = .ok (.aload_n 0, 1) := by decide +kernel
theorem d_Rotations_init_14 : decode b_Rotations_init 14 = .ok (.sipush 2250, 3) := by decide +kernel
theorem d_Rotations_init_17 : decode b_Rotations_init 17 = .ok (.newarray .int, 2) := by decide +kernel
theorem d_Rotations_init_19 : decode b_Rotations_init 19 = .ok (.putfield 15, 3) := by decide +kernel
theorem d_Rotations_init_22 : decode b_Rotations_init 22 = .ok (.aload_n 0, 1) := by decide +kernel
theorem d_Rotations_init_23 : decode b_Rotations_init 23 = .ok (.sipush 2250, 3) := by decide +kernel
theorem d_Rotations_init_26 : decode b_Rotations_init 26 = .ok (.newarray .int, 2) := by decide +kernel
theorem d_Rotations_init_28 : decode b_Rotations_init 28 = .ok (.putfield 18, 3) := by decide +kernel
theorem d_Rotations_init_31 : decode b_Rotations_init 31 = .ok (.aload_n 0, 1) := by decide +kernel
theorem d_Rotations_init_32 : decode b_Rotations_init 32 = .ok (.sipush 2250, 3) := by decide +kernel
theorem d_Rotations_init_35 : decode b_Rotations_init 35 = .ok (.newarray .int, 2) := by decide +kernel
theorem d_Rotations_init_37 : decode b_Rotations_init 37 = .ok (.putfield 21, 3) := by decide +kernel
theorem d_Rotations_init_40 : decode b_Rotations_init 40 = .ok (.aload_n 0, 1) := by decide +kernel
theorem d_Rotations_init_41 : decode b_Rotations_init 41 = .ok (.sipush 2250, 3) := by decide +kernel
theorem d_Rotations_init_44 : decode b_Rotations_init 44 = .ok (.newarray .int, 2) := by decide +kernel
theorem d_Rotations_init_46 : decode b_Rotations_init 46 = .ok (.putfield 24, 3) := by decide +kernel
theorem d_Rotations_init_49 : decode b_Rotations_init 49 = .ok (.aload_n 0, 1) := by decide +kernel
theorem d_Rotations_init_50 : decode b_Rotations_init 50 = .ok (.iconst 0, 1) := by decide +kernel
theorem d_Rotations_init_51 : decode b_Rotations_init 51 = .ok (.putfield 27, 3) := by decide +kernel
theorem d_Rotations_init_54 : decode b_Rotations_init 54 = .ok (.return_, 1) := by decide +kernel
theorem k219 : (Jvm.Cond.methodLink "RotationPress$Rotations" (3 : Nat) ({ cls := "java/lang/Object", name := "<init>", desc := "()V" } : Jvm.MethodName)) ∈ g_tbl := List.mem_filter.mpr ⟨List.mem_append_right (k2_sels lw_privs) (List.mem_append_left _ (List.mem_of_getElem? (l := tables_1_1) (i := 219) rfl)), rfl⟩
set_option maxRecDepth 100000 in
set_option maxHeartbeats 4000000 in
theorem m_Rotations_init {C : gT} (q_a0 : Nat) (out : Unit) (hin : (g_me C).name = "<init>") (hC : gOk C b_Rotations_init R_Rotations { frames := 1, cells := 5, slots := 11250, locals := 30 } 1) (hf : Rotations_init_f = some out) (kr : ∀ (x : (Nat × Nat × Nat × Nat × Nat)) (o9 : Unit) (pc : Nat) (lv : List (Nat × Value)), o9 = out → decode b_Rotations_init pc = .ok (.return_, 1) → gAt C 5 11250 [(q_a0, .inr (10, [.ref x.1, .ref x.2.1, .ref x.2.2.1, .ref x.2.2.2.1, .ref x.2.2.2.2, .int (0 : Int32)])), (x.1, .inl (g_K C 0, 2250, .inl (fun _ => 0))), (x.2.1, .inl (g_K C 0, 2250, .inl (fun _ => 0))), (x.2.2.1, .inl (g_K C 0, 2250, .inl (fun _ => 0))), (x.2.2.2.1, .inl (g_K C 0, 2250, .inl (fun _ => 0))), (x.2.2.2.2, .inl (g_K C 0, 2250, .inl (fun _ => 0)))] lv pc []) : gAt C 0 0 [(q_a0, .inr (10, [.null, .null, .null, .null, .null, .int (0 : Int32)]))] [(0, .ref q_a0)] 0 [] := by
  unfold Rotations_init_f at hf
  refine g_aload_n 0 hC (j := 0) (hj := rfl) (hd := d_Rotations_init_0) ?_
  refine g_oinit 1 hC k219 k38 k39 (Nat.le_of_ble_eq_true rfl) (Nat.le_of_ble_eq_true rfl) d_Rotations_init_1 ?_
  refine g_aload_n 4 hC (j := 0) (hj := rfl) (hd := d_Rotations_init_4) ?_
  refine g_sipush 5 hC (2250 : Int32) (by decide) d_Rotations_init_5 ?_
  refine g_newi 8 hC 2250 k62 (by decide) (by decide) (by decide) (by decide) (by decide) d_Rotations_init_8 (fun q1 => ?_)
  refine g_wide 1 2250 (Nat.le_of_ble_eq_true rfl) (Nat.le_of_ble_eq_true rfl) ?_
  refine g_put 10 hC i_Rotations rfl 0 rfl 0 (by decide) t_Rotations tk_Rotations n_Rotations k220 rfl rfl rfl (Nat.le_of_ble_eq_true rfl) [(q_a0, .inr (10, [.ref q1, .null, .null, .null, .null, .int (0 : Int32)])), (q1, .inl (g_K C 0, 2250, .inl (fun _ => 0)))] rfl d_Rotations_init_10 ?_
  refine g_aload_n 13 hC (j := 0) (hj := rfl) (hd := d_Rotations_init_13) ?_
  refine g_sipush 14 hC (2250 : Int32) (by decide) d_Rotations_init_14 ?_
  refine g_newi 17 hC 2250 k62 (by decide) (by decide) (by decide) (by decide) (by decide) d_Rotations_init_17 (fun q2 => ?_)
  refine g_wide 2 4500 (Nat.le_of_ble_eq_true rfl) (Nat.le_of_ble_eq_true rfl) ?_
  refine g_put 19 hC i_Rotations rfl 0 rfl 1 (by decide) t_Rotations tk_Rotations n_Rotations k221 rfl rfl rfl (Nat.le_of_ble_eq_true rfl) [(q_a0, .inr (10, [.ref q1, .ref q2, .null, .null, .null, .int (0 : Int32)])), (q1, .inl (g_K C 0, 2250, .inl (fun _ => 0))), (q2, .inl (g_K C 0, 2250, .inl (fun _ => 0)))] rfl d_Rotations_init_19 ?_
  refine g_aload_n 22 hC (j := 0) (hj := rfl) (hd := d_Rotations_init_22) ?_
  refine g_sipush 23 hC (2250 : Int32) (by decide) d_Rotations_init_23 ?_
  refine g_newi 26 hC 2250 k62 (by decide) (by decide) (by decide) (by decide) (by decide) d_Rotations_init_26 (fun q3 => ?_)
  refine g_wide 3 6750 (Nat.le_of_ble_eq_true rfl) (Nat.le_of_ble_eq_true rfl) ?_
  refine g_put 28 hC i_Rotations rfl 0 rfl 2 (by decide) t_Rotations tk_Rotations n_Rotations k222 rfl rfl rfl (Nat.le_of_ble_eq_true rfl) [(q_a0, .inr (10, [.ref q1, .ref q2, .ref q3, .null, .null, .int (0 : Int32)])), (q1, .inl (g_K C 0, 2250, .inl (fun _ => 0))), (q2, .inl (g_K C 0, 2250, .inl (fun _ => 0))), (q3, .inl (g_K C 0, 2250, .inl (fun _ => 0)))] rfl d_Rotations_init_28 ?_
  refine g_aload_n 31 hC (j := 0) (hj := rfl) (hd := d_Rotations_init_31) ?_
  refine g_sipush 32 hC (2250 : Int32) (by decide) d_Rotations_init_32 ?_
  refine g_newi 35 hC 2250 k62 (by decide) (by decide) (by decide) (by decide) (by decide) d_Rotations_init_35 (fun q4 => ?_)
  refine g_wide 4 9000 (Nat.le_of_ble_eq_true rfl) (Nat.le_of_ble_eq_true rfl) ?_
  refine g_put 37 hC i_Rotations rfl 0 rfl 3 (by decide) t_Rotations tk_Rotations n_Rotations k223 rfl rfl rfl (Nat.le_of_ble_eq_true rfl) [(q_a0, .inr (10, [.ref q1, .ref q2, .ref q3, .ref q4, .null, .int (0 : Int32)])), (q1, .inl (g_K C 0, 2250, .inl (fun _ => 0))), (q2, .inl (g_K C 0, 2250, .inl (fun _ => 0))), (q3, .inl (g_K C 0, 2250, .inl (fun _ => 0))), (q4, .inl (g_K C 0, 2250, .inl (fun _ => 0)))] rfl d_Rotations_init_37 ?_
  refine g_aload_n 40 hC (j := 0) (hj := rfl) (hd := d_Rotations_init_40) ?_
  refine g_sipush 41 hC (2250 : Int32) (by decide) d_Rotations_init_41 ?_
  refine g_newi 44 hC 2250 k62 (by decide) (by decide) (by decide) (by decide) (by decide) d_Rotations_init_44 (fun q5 => ?_)
  refine g_wide 5 11250 (Nat.le_of_ble_eq_true rfl) (Nat.le_of_ble_eq_true rfl) ?_
  refine g_putF 46 hC i_Rotations rfl 0 rfl 4 (by decide) t_Rotations tk_Rotations n_Rotations k224 rfl hin rfl rfl rfl (Nat.le_of_ble_eq_true rfl) [(q_a0, .inr (10, [.ref q1, .ref q2, .ref q3, .ref q4, .ref q5, .int (0 : Int32)])), (q1, .inl (g_K C 0, 2250, .inl (fun _ => 0))), (q2, .inl (g_K C 0, 2250, .inl (fun _ => 0))), (q3, .inl (g_K C 0, 2250, .inl (fun _ => 0))), (q4, .inl (g_K C 0, 2250, .inl (fun _ => 0))), (q5, .inl (g_K C 0, 2250, .inl (fun _ => 0)))] rfl d_Rotations_init_46 ?_
  refine g_aload_n 49 hC (j := 0) (hj := rfl) (hd := d_Rotations_init_49) ?_
  refine g_iconst 50 hC (0 : Int32) (by decide) d_Rotations_init_50 ?_
  refine g_put 51 hC i_Rotations rfl 0 rfl 5 (by decide) t_Rotations tk_Rotations n_Rotations k225 rfl rfl rfl (Nat.le_of_ble_eq_true rfl) [(q_a0, .inr (10, [.ref q1, .ref q2, .ref q3, .ref q4, .ref q5, .int (0 : Int32)])), (q1, .inl (g_K C 0, 2250, .inl (fun _ => 0))), (q2, .inl (g_K C 0, 2250, .inl (fun _ => 0))), (q3, .inl (g_K C 0, 2250, .inl (fun _ => 0))), (q4, .inl (g_K C 0, 2250, .inl (fun _ => 0))), (q5, .inl (g_K C 0, 2250, .inl (fun _ => 0)))] rfl d_Rotations_init_51 ?_
  exact g_re [0, 1, 2, 3, 4, 5] [] rfl rfl rfl (kr (q1, q2, q3, q4, q5) () 54 [] (Option.some.inj hf) d_Rotations_init_54)
theorem c_Rotations_init (l : Launch) (D : va_G) (K : Nat → ClassId) (q_a0 : Nat) (out : Unit) (hf : Rotations_init_f = some out) : Cv l D K y_Rotations_init (g_wd y_Rotations_init b_Rotations_init 1 none) { frames := 1, cells := 5, slots := 11250, locals := 30 } [.ref q_a0] [(q_a0, .inr (10, [.null, .null, .null, .null, .null, .int (0 : Int32)]))] (fun (x : (Nat × Nat × Nat × Nat × Nat)) => [(q_a0, .inr (10, [.ref x.1, .ref x.2.1, .ref x.2.2.1, .ref x.2.2.2.1, .ref x.2.2.2.2, .int (0 : Int32)])), (x.1, .inl (K 0, 2250, .inl (fun _ => 0))), (x.2.1, .inl (K 0, 2250, .inl (fun _ => 0))), (x.2.2.1, .inl (K 0, 2250, .inl (fun _ => 0))), (x.2.2.2.1, .inl (K 0, 2250, .inl (fun _ => 0))), (x.2.2.2.2, .inl (K 0, 2250, .inl (fun _ => 0)))]) := mk_ini (by decide) rfl (Nat.le_of_ble_eq_true rfl) (fun p e s m below meth c A Q hin hC kr => m_Rotations_init q_a0 out hin hC hf (fun x o9 pc lv ho => by subst ho; exact kr x pc lv))
