abbrev b_Arrays_rangeCheck : ByteArray := prog_31_method_30_code
def y_Arrays_rangeCheck : MethodName := ⟨"java/util/Arrays", "rangeCheck", "(III)V"⟩
theorem d_Arrays_rangeCheck_0 : decode b_Arrays_rangeCheck 0 = .ok (.iload_n 1, 1) := by decide +kernel
theorem d_Arrays_rangeCheck_1 : decode b_Arrays_rangeCheck 1 = .ok (.iload_n 2, 1) := by decide +kernel
theorem d_Arrays_rangeCheck_2 : decode b_Arrays_rangeCheck 2 = .ok (.if_icmp .le 44, 3) := by decide +kernel
theorem d_Arrays_rangeCheck_5 : decode b_Arrays_rangeCheck 5 = .ok (.new 43, 3) := by decide +kernel
theorem d_Arrays_rangeCheck_46 : decode b_Arrays_rangeCheck 46 = .ok (.iload_n 1, 1) := by decide +kernel
theorem d_Arrays_rangeCheck_47 : decode b_Arrays_rangeCheck 47 = .ok (.ifCond .ge 12, 3) := by decide +kernel
theorem d_Arrays_rangeCheck_50 : decode b_Arrays_rangeCheck 50 = .ok (.new 68, 3) := by decide +kernel
theorem d_Arrays_rangeCheck_59 : decode b_Arrays_rangeCheck 59 = .ok (.iload_n 2, 1) := by decide +kernel
theorem d_Arrays_rangeCheck_60 : decode b_Arrays_rangeCheck 60 = .ok (.iload_n 0, 1) := by decide +kernel
theorem d_Arrays_rangeCheck_61 : decode b_Arrays_rangeCheck 61 = .ok (.if_icmp .le 12, 3) := by decide +kernel
theorem d_Arrays_rangeCheck_64 : decode b_Arrays_rangeCheck 64 = .ok (.new 68, 3) := by decide +kernel
theorem d_Arrays_rangeCheck_73 : decode b_Arrays_rangeCheck 73 = .ok (.return_, 1) := by decide +kernel
set_option maxRecDepth 100000 in
set_option maxHeartbeats 4000000 in
theorem m_Arrays_rangeCheck {C : gT} (hC : gOk C b_Arrays_rangeCheck "java/util/Arrays" { frames := 0, cells := 0, slots := 0, locals := 0 } 3) (p0 : Int32) (p1 : Int32) (p2 : Int32) (out : Unit) (hf : Arrays_rangeCheck_f p1 p2 p0 = some out) (kr : ∀ (x : Unit) (o9 : Unit) (pc : Nat) (lv : List (Nat × Value)), o9 = out → decode b_Arrays_rangeCheck pc = .ok (.return_, 1) → gAt C 0 0 [] lv pc []) : gAt C 0 0 [] [(0, .int p0), (1, .int p1), (2, .int p2)] 0 [] := by
  unfold Arrays_rangeCheck_f at hf
  refine g_iload_n 0 hC (j := 1) (hj := rfl) (hd := d_Arrays_rangeCheck_0) ?_
  refine g_iload_n 1 hC (j := 2) (hj := rfl) (hd := d_Arrays_rangeCheck_1) ?_
  refine g_icmp_le 2 hC 46 (by decide) d_Arrays_rangeCheck_2 (fun c1 => ?_) (fun c1 => ?_)
  · have hf := it_t c1 hf
    refine g_iload_n 46 hC (j := 1) (hj := rfl) (hd := d_Arrays_rangeCheck_46) ?_
    refine g_if_ge 47 hC 59 (by decide) d_Arrays_rangeCheck_47 (fun c2 => ?_) (fun c2 => ?_)
    · have hf := it_t c2 hf
      refine g_iload_n 59 hC (j := 2) (hj := rfl) (hd := d_Arrays_rangeCheck_59) ?_
      refine g_iload_n 60 hC (j := 0) (hj := rfl) (hd := d_Arrays_rangeCheck_60) ?_
      refine g_icmp_le 61 hC 73 (by decide) d_Arrays_rangeCheck_61 (fun c3 => ?_) (fun c3 => ?_)
      · have hf := it_t c3 hf
        exact g_re [] [] rfl rfl rfl (kr () () 73 [] (Option.some.inj hf) d_Arrays_rangeCheck_73)
      · have hf := it_f c3 hf
        cases hf
    · have hf := it_f c2 hf
      cases hf
  · have hf := it_f c1 hf
    cases hf
theorem c_Arrays_rangeCheck (l : Launch) (D : va_G) (K : Nat → ClassId) (p0 : Int32) (p1 : Int32) (p2 : Int32) (out : Unit) (hf : Arrays_rangeCheck_f p1 p2 p0 = some out) : Cv l D K y_Arrays_rangeCheck (g_wd y_Arrays_rangeCheck b_Arrays_rangeCheck 3 none) { frames := 0, cells := 0, slots := 0, locals := 0 } [.int p0, .int p1, .int p2] [] (fun (x : Unit) => []) := mk_v (by decide) (Nat.le_of_ble_eq_true rfl) (fun p e s m below meth c A Q hC kr => m_Arrays_rangeCheck hC p0 p1 p2 out hf (fun x o9 pc lv ho => by subst ho; exact kr x pc lv))
abbrev b_Arrays_fill1 : ByteArray := prog_31_method_104_code
def y_Arrays_fill1 : MethodName := ⟨"java/util/Arrays", "fill", "([IIII)V"⟩
theorem d_Arrays_fill1_0 : decode b_Arrays_fill1 0 = .ok (.aload_n 0, 1) := by decide +kernel
theorem d_Arrays_fill1_1 : decode b_Arrays_fill1 1 = .ok (.arraylength, 1) := by decide +kernel
theorem d_Arrays_fill1_2 : decode b_Arrays_fill1 2 = .ok (.iload_n 1, 1) := by decide +kernel
theorem d_Arrays_fill1_3 : decode b_Arrays_fill1 3 = .ok (.iload_n 2, 1) := by decide +kernel
theorem d_Arrays_fill1_4 : decode b_Arrays_fill1 4 = .ok (.invokestatic 13, 3) := by decide +kernel
theorem d_Arrays_fill1_7 : decode b_Arrays_fill1 7 = .ok (.iload_n 1, 1) := by decide +kernel
theorem d_Arrays_fill1_8 : decode b_Arrays_fill1 8 = .ok (.istore 4, 2) := by decide +kernel
theorem d_Arrays_fill1_10 : decode b_Arrays_fill1 10 = .ok (.iload 4, 2) := by decide +kernel
theorem d_Arrays_fill1_12 : decode b_Arrays_fill1 12 = .ok (.iload_n 2, 1) := by decide +kernel
theorem d_Arrays_fill1_13 : decode b_Arrays_fill1 13 = .ok (.if_icmp .ge 14, 3) := by decide +kernel
theorem d_Arrays_fill1_16 : decode b_Arrays_fill1 16 = .ok (.aload_n 0, 1) := by decide +kernel
theorem d_Arrays_fill1_17 : decode b_Arrays_fill1 17 = .ok (.iload 4, 2) := by decide +kernel
theorem d_Arrays_fill1_19 : decode b_Arrays_fill1 19 = .ok (.iload_n 3, 1) := by decide +kernel
theorem d_Arrays_fill1_20 : decode b_Arrays_fill1 20 = .ok (.iastore, 1) := by decide +kernel
theorem d_Arrays_fill1_21 : decode b_Arrays_fill1 21 = .ok (.iinc 4 1, 3) := by decide +kernel
theorem d_Arrays_fill1_24 : decode b_Arrays_fill1 24 = .ok (.goto (-14), 3) := by decide +kernel
theorem d_Arrays_fill1_27 : decode b_Arrays_fill1 27 = .ok (.return_, 1) := by decide +kernel
theorem k680 : (Jvm.Cond.code ({ cls := "java/util/Arrays", name := "rangeCheck", desc := "(III)V" } : Jvm.MethodName) prog_31_method_30_code (3 : Nat) (Option.none : Option Jvm.ClassFile.FieldType)) ∈ g_tbl := List.mem_filter.mpr ⟨List.mem_append_right (k2_sels lw_privs) (List.mem_append_right _ (List.mem_append_right _ (List.mem_append_left _ (List.mem_of_getElem? (l := tables_1_3) (i := 200) rfl)))), rfl⟩
theorem k19 : (Jvm.Cond.initialized "java/util/Arrays") ∈ g_tbl := List.mem_filter.mpr ⟨List.mem_append_right (k2_sels lw_privs) (List.mem_append_left _ (List.mem_of_getElem? (l := tables_1_1) (i := 19) rfl)), rfl⟩
theorem k678 : (Jvm.Cond.methodLink "java/util/Arrays" (13 : Nat) ({ cls := "java/util/Arrays", name := "rangeCheck", desc := "(III)V" } : Jvm.MethodName)) ∈ g_tbl := List.mem_filter.mpr ⟨List.mem_append_right (k2_sels lw_privs) (List.mem_append_right _ (List.mem_append_right _ (List.mem_append_left _ (List.mem_of_getElem? (l := tables_1_3) (i := 198) rfl)))), rfl⟩
theorem k679 : (Jvm.Cond.static ({ cls := "java/util/Arrays", name := "rangeCheck", desc := "(III)V" } : Jvm.MethodName)) ∈ g_tbl := List.mem_filter.mpr ⟨List.mem_append_right (k2_sels lw_privs) (List.mem_append_right _ (List.mem_append_right _ (List.mem_append_left _ (List.mem_of_getElem? (l := tables_1_3) (i := 199) rfl)))), rfl⟩
set_option maxRecDepth 100000 in
set_option maxHeartbeats 4000000 in
theorem m_Arrays_fill1 {C : gT} (hC : gOk C b_Arrays_fill1 "java/util/Arrays" { frames := 1, cells := 0, slots := 0, locals := 22 } 5) (q_a0 : Nat) (n_a0 : Nat) (f_a0 : (Nat → Int32)) (p1 : Int32) (p2 : Int32) (p3 : Int32) (out : (Nat → Int32)) (hf : Arrays_fill1_f p1 p2 n_a0 p3 f_a0 = some out) (kr : ∀ (x : Unit) (o9 : (Nat → Int32)) (pc : Nat) (lv : List (Nat × Value)), o9 = out → decode b_Arrays_fill1 pc = .ok (.return_, 1) → gAt C 0 0 [(q_a0, .inl (g_K C 0, n_a0, .inl o9))] lv pc []) : gAt C 0 0 [(q_a0, .inl (g_K C 0, n_a0, .inl f_a0))] [(0, .ref q_a0), (1, .int p1), (2, .int p2), (3, .int p3)] 0 [] := by
  unfold Arrays_fill1_f at hf
  refine g_aload_n 0 hC (j := 0) (hj := rfl) (hd := d_Arrays_fill1_0) ?_
  refine g_alen 1 hC 0 rfl d_Arrays_fill1_1 ?_
  refine g_iload_n 2 hC (j := 1) (hj := rfl) (hd := d_Arrays_fill1_2) ?_
  refine g_iload_n 3 hC (j := 2) (hj := rfl) (hd := d_Arrays_fill1_3) ?_
  obtain ⟨u1, hu1, hf⟩ := bd_some hf
  refine g_callSv 4 hC (c_Arrays_rangeCheck (g_l C) (g_D C) (g_K C) (Int32.ofNat n_a0) p1 p2 u1 hu1) k680 k19 k678 k679 3 rfl (by decide +kernel) (by decide) [] [0] [(q_a0, .inl (g_K C 0, n_a0, .inl f_a0))] rfl rfl rfl rfl rfl rfl (Nat.le_of_ble_eq_true rfl) ⟨Nat.le_of_ble_eq_true rfl, Nat.le_of_ble_eq_true rfl⟩ (fun (_ : Unit) => [(q_a0, .inl (g_K C 0, n_a0, .inl f_a0))]) (fun _ => rfl) d_Arrays_fill1_4 0 0 rfl rfl (fun _ => ?_)
  refine g_iload_n 7 hC (j := 1) (hj := rfl) (hd := d_Arrays_fill1_7) ?_
  refine g_istore 8 hC (lv2 := [(4, .int p1), (0, .ref q_a0), (1, .int p1), (2, .int p2), (3, .int p3)]) (hn := (by decide)) (hl2 := rfl) (hd := d_Arrays_fill1_8) ?_
  obtain ⟨u3, hu3, hf⟩ := bd_some hf
  have Xu3_0 : ∀ (v4 : (Nat → Int32)), v4 = u3 → gAt C 0 0 [(q_a0, .inl (g_K C 0, n_a0, .inl v4))] [] 27 [] := by
    intro v4 hv
    rw [← hv] at hf
    exact kr () v4 27 [] (Option.some.inj hf) d_Arrays_fill1_27
  have Gu3 := lp_ind (b := (Arrays_fill1_L10 p2 n_a0 p3)) (G := fun (s2 : (Int32 × (Nat → Int32))) => gAt C 0 0 [(q_a0, .inl (g_K C 0, n_a0, .inl s2.2))] [(0, .ref q_a0), (2, .int p2), (3, .int p3), (4, .int s2.1)] 10 []) (o := u3) (by
      intro s2 u5 hf hI hX
      unfold Arrays_fill1_L10 at hf
      refine g_iload 10 hC (j := 3) (hj := rfl) (hd := d_Arrays_fill1_10) ?_
      refine g_iload_n 12 hC (j := 1) (hj := rfl) (hd := d_Arrays_fill1_12) ?_
      refine g_icmp_ge 13 hC 27 (by decide) d_Arrays_fill1_13 (fun c6 => ?_) (fun c6 => ?_)
      · have hf := it_t c6 hf
        exact g_re [0] [] rfl rfl rfl (Xu3_0 s2.2 (hX s2.2 hf))
      · have hf := it_f c6 hf
        refine g_aload_n 16 hC (j := 0) (hj := rfl) (hd := d_Arrays_fill1_16) ?_
        refine g_iload 17 hC (j := 3) (hj := rfl) (hd := d_Arrays_fill1_17) ?_
        refine g_iload_n 19 hC (j := 2) (hj := rfl) (hd := d_Arrays_fill1_19) ?_
        obtain ⟨e7, hf⟩ := gd_some hf
        refine g_iast 20 hC 0 rfl e7 [(q_a0, .inl (g_K C 0, n_a0, .inl (upd s2.2 s2.1.toNatClampNeg p3)))] rfl d_Arrays_fill1_20 ?_
        refine g_iinc 21 hC 3 (1 : Int32) [(4, .int (s2.1 + (1 : Int32))), (0, .ref q_a0), (2, .int p2), (3, .int p3)] rfl (by decide) (by decide) rfl d_Arrays_fill1_21 ?_
        refine g_goto 24 hC 10 (by decide) d_Arrays_fill1_24 ?_
        exact g_re [0] [1, 2, 3, 0] rfl rfl rfl (hI ((s2.1 + (1 : Int32)), (upd s2.2 s2.1.toNatClampNeg p3)) hf)) gas
  exact g_re [0] [1, 3, 4, 0] rfl rfl rfl (Gu3 (p1, f_a0) hu3)
theorem c_Arrays_fill1 (l : Launch) (D : va_G) (K : Nat → ClassId) (q_a0 : Nat) (n_a0 : Nat) (f_a0 : (Nat → Int32)) (p1 : Int32) (p2 : Int32) (p3 : Int32) (out : (Nat → Int32)) (hf : Arrays_fill1_f p1 p2 n_a0 p3 f_a0 = some out) : Cv l D K y_Arrays_fill1 (g_wd y_Arrays_fill1 b_Arrays_fill1 5 none) { frames := 1, cells := 0, slots := 0, locals := 22 } [.ref q_a0, .int p1, .int p2, .int p3] [(q_a0, .inl (K 0, n_a0, .inl f_a0))] (fun (x : Unit) => [(q_a0, .inl (K 0, n_a0, .inl out))]) := mk_v (by decide) (Nat.le_of_ble_eq_true rfl) (fun p e s m below meth c A Q hC kr => m_Arrays_fill1 hC q_a0 n_a0 f_a0 p1 p2 p3 out hf (fun x o9 pc lv ho => by subst ho; exact kr x pc lv))
abbrev b_FrontList_append : ByteArray := prog_9_method_2_code
def y_FrontList_append : MethodName := ⟨R_FrontList, "append", "(I)V"⟩
theorem d_FrontList_append_0 : decode b_FrontList_append 0 = .ok (.aload_n 0, 1) := by decide +kernel
theorem d_FrontList_append_1 : decode b_FrontList_append 1 = .ok (.getfield 15, 3) := by decide +kernel
theorem d_FrontList_append_4 : decode b_FrontList_append 4 = .ok (.aload_n 0, 1) := by decide +kernel
theorem d_FrontList_append_5 : decode b_FrontList_append 5 = .ok (.getfield 9, 3) := by decide +kernel
theorem d_FrontList_append_8 : decode b_FrontList_append 8 = .ok (.arraylength, 1) := by decide +kernel
theorem d_FrontList_append_9 : decode b_FrontList_append 9 = .ok (.if_icmp .ge 23, 3) := by decide +kernel
theorem d_FrontList_append_12 : decode b_FrontList_append 12 = .ok (.aload_n 0, 1) := by decide +kernel
theorem d_FrontList_append_13 : decode b_FrontList_append 13 = .ok (.getfield 9, 3) := by decide +kernel
theorem d_FrontList_append_16 : decode b_FrontList_append 16 = .ok (.aload_n 0, 1) := by decide +kernel
theorem d_FrontList_append_17 : decode b_FrontList_append 17 = .ok (.getfield 15, 3) := by decide +kernel
theorem d_FrontList_append_20 : decode b_FrontList_append 20 = .ok (.iload_n 1, 1) := by decide +kernel
theorem d_FrontList_append_21 : decode b_FrontList_append 21 = .ok (.iastore, 1) := by decide +kernel
theorem d_FrontList_append_22 : decode b_FrontList_append 22 = .ok (.aload_n 0, 1) := by decide +kernel
theorem d_FrontList_append_23 : decode b_FrontList_append 23 = .ok (.dup, 1) := by decide +kernel
theorem d_FrontList_append_24 : decode b_FrontList_append 24 = .ok (.getfield 15, 3) := by decide +kernel
theorem d_FrontList_append_27 : decode b_FrontList_append 27 = .ok (.iconst 1, 1) := by decide +kernel
theorem d_FrontList_append_28 : decode b_FrontList_append 28 = .ok (.iadd, 1) := by decide +kernel
theorem d_FrontList_append_29 : decode b_FrontList_append 29 = .ok (.putfield 15, 3) := by decide +kernel
theorem d_FrontList_append_32 : decode b_FrontList_append 32 = .ok (.return_, 1) := by decide +kernel
theorem k82 : (Jvm.Cond.fieldLink "RotationPress$FrontList" (15 : Nat) "RotationPress$FrontList" "count" "I") ∈ g_tbl := List.mem_filter.mpr ⟨List.mem_append_right (k2_sels lw_privs) (List.mem_append_left _ (List.mem_of_getElem? (l := tables_1_1) (i := 82) rfl)), rfl⟩
theorem k81 : (Jvm.Cond.fieldLink "RotationPress$FrontList" (9 : Nat) "RotationPress$FrontList" "members" "[I") ∈ g_tbl := List.mem_filter.mpr ⟨List.mem_append_right (k2_sels lw_privs) (List.mem_append_left _ (List.mem_of_getElem? (l := tables_1_1) (i := 81) rfl)), rfl⟩
set_option maxRecDepth 100000 in
set_option maxHeartbeats 4000000 in
theorem m_FrontList_append {C : gT} (hC : gOk C b_FrontList_append R_FrontList { frames := 0, cells := 0, slots := 0, locals := 0 } 2) (q_a0 : Nat) (q_a0_members : Nat) (x_a0_count : Int32) (f_a0_members : (Nat → Int32)) (p1 : Int32) (out : ((Nat → Int32) × Int32)) (hf : FrontList_append_f x_a0_count f_a0_members p1 = some out) (kr : ∀ (x : Unit) (o9 : ((Nat → Int32) × Int32)) (pc : Nat) (lv : List (Nat × Value)), o9 = out → decode b_FrontList_append pc = .ok (.return_, 1) → gAt C 0 0 [(q_a0, .inr (8, [.ref q_a0_members, .int o9.2])), (q_a0_members, .inl (g_K C 0, 256, .inl o9.1))] lv pc []) : gAt C 0 0 [(q_a0, .inr (8, [.ref q_a0_members, .int x_a0_count])), (q_a0_members, .inl (g_K C 0, 256, .inl f_a0_members))] [(0, .ref q_a0), (1, .int p1)] 0 [] := by
  unfold FrontList_append_f at hf
  have J32 : ∀ (j32_0 : (Nat → Int32)) (j32_1 : Int32), FrontList_append_J32 j32_0 j32_1 = some out → gAt C 0 0 [(q_a0, .inr (8, [.ref q_a0_members, .int j32_1])), (q_a0_members, .inl (g_K C 0, 256, .inl j32_0))] [] 32 [] := by
    intro j32_0 j32_1 hf
    unfold FrontList_append_J32 at hf
    exact kr () (j32_0, j32_1) 32 [] (Option.some.inj hf) d_FrontList_append_32
  refine g_aload_n 0 hC (j := 0) (hj := rfl) (hd := d_FrontList_append_0) ?_
  refine g_get 1 hC i_FrontList rfl 0 rfl 1 (by decide) k82 rfl d_FrontList_append_1 ?_
  refine g_aload_n 4 hC (j := 0) (hj := rfl) (hd := d_FrontList_append_4) ?_
  refine g_get 5 hC i_FrontList rfl 0 rfl 0 (by decide) k81 rfl d_FrontList_append_5 ?_
  refine g_alen 8 hC 1 rfl d_FrontList_append_8 ?_
  refine g_icmp_ge 9 hC 32 (by decide) d_FrontList_append_9 (fun c1 => ?_) (fun c1 => ?_)
  · have hf := it_t c1 hf
    exact g_re [0, 1] [] rfl rfl rfl (J32 f_a0_members x_a0_count hf)
  · have hf := it_f c1 hf
    refine g_aload_n 12 hC (j := 0) (hj := rfl) (hd := d_FrontList_append_12) ?_
    refine g_get 13 hC i_FrontList rfl 0 rfl 0 (by decide) k81 rfl d_FrontList_append_13 ?_
    refine g_aload_n 16 hC (j := 0) (hj := rfl) (hd := d_FrontList_append_16) ?_
    refine g_get 17 hC i_FrontList rfl 0 rfl 1 (by decide) k82 rfl d_FrontList_append_17 ?_
    refine g_iload_n 20 hC (j := 1) (hj := rfl) (hd := d_FrontList_append_20) ?_
    obtain ⟨e2, hf⟩ := gd_some hf
    refine g_iast 21 hC 1 rfl e2 [(q_a0, .inr (8, [.ref q_a0_members, .int x_a0_count])), (q_a0_members, .inl (g_K C 0, 256, .inl (upd f_a0_members x_a0_count.toNatClampNeg p1)))] rfl d_FrontList_append_21 ?_
    refine g_aload_n 22 hC (j := 0) (hj := rfl) (hd := d_FrontList_append_22) ?_
    refine g_dup 23 hC rfl d_FrontList_append_23 ?_
    refine g_get 24 hC i_FrontList rfl 0 rfl 1 (by decide) k82 rfl d_FrontList_append_24 ?_
    refine g_iconst 27 hC (1 : Int32) (by decide) d_FrontList_append_27 ?_
    refine g_iadd 28 hC d_FrontList_append_28 ?_
    refine g_put 29 hC i_FrontList rfl 0 rfl 1 (by decide) t_FrontList tk_FrontList n_FrontList k82 rfl rfl rfl (Nat.le_of_ble_eq_true rfl) [(q_a0, .inr (8, [.ref q_a0_members, .int (x_a0_count + (1 : Int32))])), (q_a0_members, .inl (g_K C 0, 256, .inl (upd f_a0_members x_a0_count.toNatClampNeg p1)))] rfl d_FrontList_append_29 ?_
    exact g_re [0, 1] [] rfl rfl rfl (J32 (upd f_a0_members x_a0_count.toNatClampNeg p1) (x_a0_count + (1 : Int32)) hf)
theorem c_FrontList_append (l : Launch) (D : va_G) (K : Nat → ClassId) (q_a0 : Nat) (q_a0_members : Nat) (x_a0_count : Int32) (f_a0_members : (Nat → Int32)) (p1 : Int32) (out : ((Nat → Int32) × Int32)) (hf : FrontList_append_f x_a0_count f_a0_members p1 = some out) : Cv l D K y_FrontList_append (g_wd y_FrontList_append b_FrontList_append 2 none) { frames := 0, cells := 0, slots := 0, locals := 0 } [.ref q_a0, .int p1] [(q_a0, .inr (8, [.ref q_a0_members, .int x_a0_count])), (q_a0_members, .inl (K 0, 256, .inl f_a0_members))] (fun (x : Unit) => [(q_a0, .inr (8, [.ref q_a0_members, .int out.2])), (q_a0_members, .inl (K 0, 256, .inl out.1))]) := mk_v (by decide) (Nat.le_of_ble_eq_true rfl) (fun p e s m below meth c A Q hC kr => m_FrontList_append hC q_a0 q_a0_members x_a0_count f_a0_members p1 out hf (fun x o9 pc lv ho => by subst ho; exact kr x pc lv))
abbrev b_FrontList_beginWithFirst : ByteArray := prog_9_method_3_code
def y_FrontList_beginWithFirst : MethodName := ⟨R_FrontList, "beginWithFirst", "(I)V"⟩
theorem d_FrontList_beginWithFirst_0 : decode b_FrontList_beginWithFirst 0 = .ok (.aload_n 0, 1) := by decide +kernel
theorem d_FrontList_beginWithFirst_1 : decode b_FrontList_beginWithFirst 1 = .ok (.iconst 0, 1) := by decide +kernel
theorem d_FrontList_beginWithFirst_2 : decode b_FrontList_beginWithFirst 2 = .ok (.putfield 15, 3) := by decide +kernel
theorem d_FrontList_beginWithFirst_5 : decode b_FrontList_beginWithFirst 5 = .ok (.iconst 0, 1) := by decide +kernel
theorem d_FrontList_beginWithFirst_6 : decode b_FrontList_beginWithFirst 6 = .ok (.istore_n 2, 1) := by decide +kernel
theorem d_FrontList_beginWithFirst_7 : decode b_FrontList_beginWithFirst 7 = .ok (.iload_n 2, 1) := by decide +kernel
theorem d_FrontList_beginWithFirst_8 : decode b_FrontList_beginWithFirst 8 = .ok (.iload_n 1, 1) := by decide +kernel
theorem d_FrontList_beginWithFirst_9 : decode b_FrontList_beginWithFirst 9 = .ok (.if_icmp .ge 14, 3) := by decide +kernel
theorem d_FrontList_beginWithFirst_12 : decode b_FrontList_beginWithFirst 12 = .ok (.aload_n 0, 1) := by decide +kernel
theorem d_FrontList_beginWithFirst_13 : decode b_FrontList_beginWithFirst 13 = .ok (.iload_n 2, 1) := by decide +kernel
theorem d_FrontList_beginWithFirst_14 : decode b_FrontList_beginWithFirst 14 = .ok (.invokevirtual 19, 3) := by decide +kernel
theorem d_FrontList_beginWithFirst_17 : decode b_FrontList_beginWithFirst 17 = .ok (.iinc 2 1, 3) := by decide +kernel
theorem d_FrontList_beginWithFirst_20 : decode b_FrontList_beginWithFirst 20 = .ok (.goto (-13), 3) := by decide +kernel
theorem d_FrontList_beginWithFirst_23 : decode b_FrontList_beginWithFirst 23 = .ok (.return_, 1) := by decide +kernel
theorem k962 : (Jvm.Cond.code ({ cls := "RotationPress$FrontList", name := "append", desc := "(I)V" } : Jvm.MethodName) prog_9_method_2_code (2 : Nat) (Option.none : Option Jvm.ClassFile.FieldType)) ∈ g_tbl := List.mem_filter.mpr ⟨List.mem_append_right (k2_sels lw_privs) (List.mem_append_right _ (List.mem_append_right _ (List.mem_append_right _ (List.mem_append_right _ (List.mem_append_left _ (List.mem_of_getElem? (l := tables_1_5) (i := 2) rfl)))))), rfl⟩
theorem k6 : (Jvm.Cond.initialized "RotationPress$FrontList") ∈ g_tbl := List.mem_filter.mpr ⟨List.mem_append_right (k2_sels lw_privs) (List.mem_append_left _ (List.mem_of_getElem? (l := tables_1_1) (i := 6) rfl)), rfl⟩
theorem k1045 : (Jvm.Cond.methodLink "RotationPress$FrontList" (19 : Nat) ({ cls := "RotationPress$FrontList", name := "append", desc := "(I)V" } : Jvm.MethodName)) ∈ g_tbl := List.mem_filter.mpr ⟨List.mem_append_right (k2_sels lw_privs) (List.mem_append_right _ (List.mem_append_right _ (List.mem_append_right _ (List.mem_append_right _ (List.mem_append_left _ (List.mem_of_getElem? (l := tables_1_5) (i := 85) rfl)))))), rfl⟩
theorem k960 : (Jvm.Cond.instanceMethod ({ cls := "RotationPress$FrontList", name := "append", desc := "(I)V" } : Jvm.MethodName)) ∈ g_tbl := List.mem_filter.mpr ⟨List.mem_append_right (k2_sels lw_privs) (List.mem_append_right _ (List.mem_append_right _ (List.mem_append_right _ (List.mem_append_right _ (List.mem_append_left _ (List.mem_of_getElem? (l := tables_1_5) (i := 0) rfl)))))), rfl⟩
theorem k961 : (Jvm.Cond.selects "RotationPress$FrontList" ({ cls := "RotationPress$FrontList", name := "append", desc := "(I)V" } : Jvm.MethodName) ({ cls := "RotationPress$FrontList", name := "append", desc := "(I)V" } : Jvm.MethodName)) ∈ g_tbl := List.mem_filter.mpr ⟨List.mem_append_right (k2_sels lw_privs) (List.mem_append_right _ (List.mem_append_right _ (List.mem_append_right _ (List.mem_append_right _ (List.mem_append_left _ (List.mem_of_getElem? (l := tables_1_5) (i := 1) rfl)))))), rfl⟩
set_option maxRecDepth 100000 in
set_option maxHeartbeats 4000000 in
theorem m_FrontList_beginWithFirst {C : gT} (hC : gOk C b_FrontList_beginWithFirst R_FrontList { frames := 1, cells := 0, slots := 0, locals := 21 } 3) (q_a0 : Nat) (q_a0_members : Nat) (x_a0_count : Int32) (f_a0_members : (Nat → Int32)) (p1 : Int32) (out : (Int32 × (Nat → Int32))) (hf : FrontList_beginWithFirst_f p1 f_a0_members = some out) (kr : ∀ (x : Unit) (o9 : (Int32 × (Nat → Int32))) (pc : Nat) (lv : List (Nat × Value)), o9 = out → decode b_FrontList_beginWithFirst pc = .ok (.return_, 1) → gAt C 0 0 [(q_a0, .inr (8, [.ref q_a0_members, .int o9.1])), (q_a0_members, .inl (g_K C 0, 256, .inl o9.2))] lv pc []) : gAt C 0 0 [(q_a0, .inr (8, [.ref q_a0_members, .int x_a0_count])), (q_a0_members, .inl (g_K C 0, 256, .inl f_a0_members))] [(0, .ref q_a0), (1, .int p1)] 0 [] := by
  unfold FrontList_beginWithFirst_f at hf
  refine g_aload_n 0 hC (j := 0) (hj := rfl) (hd := d_FrontList_beginWithFirst_0) ?_
  refine g_iconst 1 hC (0 : Int32) (by decide) d_FrontList_beginWithFirst_1 ?_
  refine g_put 2 hC i_FrontList rfl 0 rfl 1 (by decide) t_FrontList tk_FrontList n_FrontList k82 rfl rfl rfl (Nat.le_of_ble_eq_true rfl) [(q_a0, .inr (8, [.ref q_a0_members, .int (0 : Int32)])), (q_a0_members, .inl (g_K C 0, 256, .inl f_a0_members))] rfl d_FrontList_beginWithFirst_2 ?_
  refine g_iconst 5 hC (0 : Int32) (by decide) d_FrontList_beginWithFirst_5 ?_
  refine g_istore_n 6 hC (lv2 := [(2, .int (0 : Int32)), (0, .ref q_a0), (1, .int p1)]) (hn := (by decide)) (hl2 := rfl) (hd := d_FrontList_beginWithFirst_6) ?_
  obtain ⟨u2, hu2, hf⟩ := bd_some hf
  have Xu2_0 : ∀ (v3 : (Int32 × (Nat → Int32))), v3 = u2 → gAt C 0 0 [(q_a0, .inr (8, [.ref q_a0_members, .int v3.1])), (q_a0_members, .inl (g_K C 0, 256, .inl v3.2))] [] 23 [] := by
    intro v3 hv
    rw [← hv] at hf
    exact kr () (v3.1, v3.2) 23 [] (Option.some.inj hf) d_FrontList_beginWithFirst_23
  have Gu2 := lp_ind (b := (FrontList_beginWithFirst_L7 p1)) (G := fun (s1 : (Int32 × Int32 × (Nat → Int32))) => gAt C 0 0 [(q_a0, .inr (8, [.ref q_a0_members, .int s1.2.1])), (q_a0_members, .inl (g_K C 0, 256, .inl s1.2.2))] [(0, .ref q_a0), (1, .int p1), (2, .int s1.1)] 7 []) (o := u2) (by
      intro s1 u4 hf hI hX
      unfold FrontList_beginWithFirst_L7 at hf
      refine g_iload_n 7 hC (j := 2) (hj := rfl) (hd := d_FrontList_beginWithFirst_7) ?_
      refine g_iload_n 8 hC (j := 1) (hj := rfl) (hd := d_FrontList_beginWithFirst_8) ?_
      refine g_icmp_ge 9 hC 23 (by decide) d_FrontList_beginWithFirst_9 (fun c5 => ?_) (fun c5 => ?_)
      · have hf := it_t c5 hf
        exact g_re [0, 1] [] rfl rfl rfl (Xu2_0 (s1.2.1, s1.2.2) (hX (s1.2.1, s1.2.2) hf))
      · have hf := it_f c5 hf
        refine g_aload_n 12 hC (j := 0) (hj := rfl) (hd := d_FrontList_beginWithFirst_12) ?_
        refine g_iload_n 13 hC (j := 2) (hj := rfl) (hd := d_FrontList_beginWithFirst_13) ?_
        obtain ⟨u6, hu6, hf⟩ := bd_some hf
        refine g_callVv 14 hC (c_FrontList_append (g_l C) (g_D C) (g_K C) q_a0 q_a0_members s1.2.1 s1.2.2 s1.1 u6 hu6) k962 k6 k1045 k960 k961 1 rfl (by decide +kernel) (by decide) [0, 1] [] [] rfl rfl rfl rfl rfl 0 8 rfl rfl rfl rfl (Nat.le_of_ble_eq_true rfl) ⟨Nat.le_of_ble_eq_true rfl, Nat.le_of_ble_eq_true rfl⟩ (fun (_ : Unit) => [(q_a0, .inr (8, [.ref q_a0_members, .int u6.2])), (q_a0_members, .inl (g_K C 0, 256, .inl u6.1))]) (fun _ => rfl) d_FrontList_beginWithFirst_14 0 0 rfl rfl (fun _ => ?_)
        refine g_iinc 17 hC 2 (1 : Int32) [(2, .int (s1.1 + (1 : Int32))), (0, .ref q_a0), (1, .int p1)] rfl (by decide) (by decide) rfl d_FrontList_beginWithFirst_17 ?_
        refine g_goto 20 hC 7 (by decide) d_FrontList_beginWithFirst_20 ?_
        exact g_re [0, 1] [1, 2, 0] rfl rfl rfl (hI ((s1.1 + (1 : Int32)), u6.2, u6.1) hf)) gas
  exact g_re [0, 1] [1, 2, 0] rfl rfl rfl (Gu2 ((0 : Int32), (0 : Int32), f_a0_members) hu2)
theorem c_FrontList_beginWithFirst (l : Launch) (D : va_G) (K : Nat → ClassId) (q_a0 : Nat) (q_a0_members : Nat) (x_a0_count : Int32) (f_a0_members : (Nat → Int32)) (p1 : Int32) (out : (Int32 × (Nat → Int32))) (hf : FrontList_beginWithFirst_f p1 f_a0_members = some out) : Cv l D K y_FrontList_beginWithFirst (g_wd y_FrontList_beginWithFirst b_FrontList_beginWithFirst 3 none) { frames := 1, cells := 0, slots := 0, locals := 21 } [.ref q_a0, .int p1] [(q_a0, .inr (8, [.ref q_a0_members, .int x_a0_count])), (q_a0_members, .inl (K 0, 256, .inl f_a0_members))] (fun (x : Unit) => [(q_a0, .inr (8, [.ref q_a0_members, .int out.1])), (q_a0_members, .inl (K 0, 256, .inl out.2))]) := mk_v (by decide) (Nat.le_of_ble_eq_true rfl) (fun p e s m below meth c A Q hC kr => m_FrontList_beginWithFirst hC q_a0 q_a0_members x_a0_count f_a0_members p1 out hf (fun x o9 pc lv ho => by subst ho; exact kr x pc lv))
