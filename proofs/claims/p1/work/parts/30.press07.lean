abbrev b_Rotations_rotate : ByteArray := prog_11_method_2_code
def y_Rotations_rotate : MethodName := ⟨R_Rotations, "rotate", "([II[I)I"⟩
theorem d_Rotations_rotate_0 : decode b_Rotations_rotate 0 = .ok (.aload_n 1, 1) := by decide +kernel
theorem d_Rotations_rotate_1 : decode b_Rotations_rotate 1 = .ok (.iload_n 2, 1) := by decide +kernel
theorem d_Rotations_rotate_2 : decode b_Rotations_rotate 2 = .ok (.aload_n 0, 1) := by decide +kernel
theorem d_Rotations_rotate_3 : decode b_Rotations_rotate 3 = .ok (.getfield 9, 3) := by decide +kernel
theorem d_Rotations_rotate_6 : decode b_Rotations_rotate 6 = .ok (.aload_n 0, 1) := by decide +kernel
theorem d_Rotations_rotate_7 : decode b_Rotations_rotate 7 = .ok (.getfield 24, 3) := by decide +kernel
theorem d_Rotations_rotate_10 : decode b_Rotations_rotate 10 = .ok (.invokestatic 31, 3) := by decide +kernel
theorem d_Rotations_rotate_13 : decode b_Rotations_rotate 13 = .ok (.aload_n 0, 1) := by decide +kernel
theorem d_Rotations_rotate_14 : decode b_Rotations_rotate 14 = .ok (.aload_n 1, 1) := by decide +kernel
theorem d_Rotations_rotate_15 : decode b_Rotations_rotate 15 = .ok (.iload_n 2, 1) := by decide +kernel
theorem d_Rotations_rotate_16 : decode b_Rotations_rotate 16 = .ok (.invokevirtual 35, 3) := by decide +kernel
theorem d_Rotations_rotate_19 : decode b_Rotations_rotate 19 = .ok (.iconst 1, 1) := by decide +kernel
theorem d_Rotations_rotate_20 : decode b_Rotations_rotate 20 = .ok (.istore 4, 2) := by decide +kernel
theorem d_Rotations_rotate_22 : decode b_Rotations_rotate 22 = .ok (.iload 4, 2) := by decide +kernel
theorem d_Rotations_rotate_24 : decode b_Rotations_rotate 24 = .ok (.iload_n 2, 1) := by decide +kernel
theorem d_Rotations_rotate_25 : decode b_Rotations_rotate 25 = .ok (.if_icmp .ge 34, 3) := by decide +kernel
theorem d_Rotations_rotate_28 : decode b_Rotations_rotate 28 = .ok (.aload_n 0, 1) := by decide +kernel
theorem d_Rotations_rotate_29 : decode b_Rotations_rotate 29 = .ok (.getfield 27, 3) := by decide +kernel
theorem d_Rotations_rotate_32 : decode b_Rotations_rotate 32 = .ok (.iload_n 2, 1) := by decide +kernel
theorem d_Rotations_rotate_33 : decode b_Rotations_rotate 33 = .ok (.if_icmp .ge 26, 3) := by decide +kernel
theorem d_Rotations_rotate_36 : decode b_Rotations_rotate 36 = .ok (.aload_n 0, 1) := by decide +kernel
theorem d_Rotations_rotate_37 : decode b_Rotations_rotate 37 = .ok (.iload_n 2, 1) := by decide +kernel
theorem d_Rotations_rotate_38 : decode b_Rotations_rotate 38 = .ok (.iload 4, 2) := by decide +kernel
theorem d_Rotations_rotate_40 : decode b_Rotations_rotate 40 = .ok (.invokevirtual 39, 3) := by decide +kernel
theorem d_Rotations_rotate_43 : decode b_Rotations_rotate 43 = .ok (.aload_n 0, 1) := by decide +kernel
theorem d_Rotations_rotate_44 : decode b_Rotations_rotate 44 = .ok (.iload_n 2, 1) := by decide +kernel
theorem d_Rotations_rotate_45 : decode b_Rotations_rotate 45 = .ok (.iload 4, 2) := by decide +kernel
theorem d_Rotations_rotate_47 : decode b_Rotations_rotate 47 = .ok (.invokevirtual 43, 3) := by decide +kernel
theorem d_Rotations_rotate_50 : decode b_Rotations_rotate 50 = .ok (.iload 4, 2) := by decide +kernel
theorem d_Rotations_rotate_52 : decode b_Rotations_rotate 52 = .ok (.iconst 2, 1) := by decide +kernel
theorem d_Rotations_rotate_53 : decode b_Rotations_rotate 53 = .ok (.imul, 1) := by decide +kernel
theorem d_Rotations_rotate_54 : decode b_Rotations_rotate 54 = .ok (.istore 4, 2) := by decide +kernel
theorem d_Rotations_rotate_56 : decode b_Rotations_rotate 56 = .ok (.goto (-34), 3) := by decide +kernel
theorem d_Rotations_rotate_59 : decode b_Rotations_rotate 59 = .ok (.aload_n 0, 1) := by decide +kernel
theorem d_Rotations_rotate_60 : decode b_Rotations_rotate 60 = .ok (.iload_n 2, 1) := by decide +kernel
theorem d_Rotations_rotate_61 : decode b_Rotations_rotate 61 = .ok (.invokevirtual 46, 3) := by decide +kernel
theorem d_Rotations_rotate_64 : decode b_Rotations_rotate 64 = .ok (.iconst 0, 1) := by decide +kernel
theorem d_Rotations_rotate_65 : decode b_Rotations_rotate 65 = .ok (.istore 4, 2) := by decide +kernel
theorem d_Rotations_rotate_67 : decode b_Rotations_rotate 67 = .ok (.iconst 0, 1) := by decide +kernel
theorem d_Rotations_rotate_68 : decode b_Rotations_rotate 68 = .ok (.istore 5, 2) := by decide +kernel
theorem d_Rotations_rotate_70 : decode b_Rotations_rotate 70 = .ok (.iload 5, 2) := by decide +kernel
theorem d_Rotations_rotate_72 : decode b_Rotations_rotate 72 = .ok (.iload_n 2, 1) := by decide +kernel
theorem d_Rotations_rotate_73 : decode b_Rotations_rotate 73 = .ok (.if_icmp .ge 48, 3) := by decide +kernel
theorem d_Rotations_rotate_76 : decode b_Rotations_rotate 76 = .ok (.aload_n 0, 1) := by decide +kernel
theorem d_Rotations_rotate_77 : decode b_Rotations_rotate 77 = .ok (.getfield 9, 3) := by decide +kernel
theorem d_Rotations_rotate_80 : decode b_Rotations_rotate 80 = .ok (.iload 5, 2) := by decide +kernel
theorem d_Rotations_rotate_82 : decode b_Rotations_rotate 82 = .ok (.iaload, 1) := by decide +kernel
theorem d_Rotations_rotate_83 : decode b_Rotations_rotate 83 = .ok (.istore 6, 2) := by decide +kernel
theorem d_Rotations_rotate_85 : decode b_Rotations_rotate 85 = .ok (.iload 6, 2) := by decide +kernel
theorem d_Rotations_rotate_87 : decode b_Rotations_rotate 87 = .ok (.ifCond .ne 7, 3) := by decide +kernel
theorem d_Rotations_rotate_90 : decode b_Rotations_rotate 90 = .ok (.iload 5, 2) := by decide +kernel
theorem d_Rotations_rotate_92 : decode b_Rotations_rotate 92 = .ok (.istore 4, 2) := by decide +kernel
theorem d_Rotations_rotate_94 : decode b_Rotations_rotate 94 = .ok (.aload_n 3, 1) := by decide +kernel
theorem d_Rotations_rotate_95 : decode b_Rotations_rotate 95 = .ok (.iload 5, 2) := by decide +kernel
theorem d_Rotations_rotate_97 : decode b_Rotations_rotate 97 = .ok (.aload_n 1, 1) := by decide +kernel
theorem d_Rotations_rotate_98 : decode b_Rotations_rotate 98 = .ok (.iload 6, 2) := by decide +kernel
theorem d_Rotations_rotate_100 : decode b_Rotations_rotate 100 = .ok (.ifCond .ne 9, 3) := by decide +kernel
theorem d_Rotations_rotate_103 : decode b_Rotations_rotate 103 = .ok (.iload_n 2, 1) := by decide +kernel
theorem d_Rotations_rotate_104 : decode b_Rotations_rotate 104 = .ok (.iconst 1, 1) := by decide +kernel
theorem d_Rotations_rotate_105 : decode b_Rotations_rotate 105 = .ok (.isub, 1) := by decide +kernel
theorem d_Rotations_rotate_106 : decode b_Rotations_rotate 106 = .ok (.goto 7, 3) := by decide +kernel
theorem d_Rotations_rotate_109 : decode b_Rotations_rotate 109 = .ok (.iload 6, 2) := by decide +kernel
theorem d_Rotations_rotate_111 : decode b_Rotations_rotate 111 = .ok (.iconst 1, 1) := by decide +kernel
theorem d_Rotations_rotate_112 : decode b_Rotations_rotate 112 = .ok (.isub, 1) := by decide +kernel
theorem d_Rotations_rotate_113 : decode b_Rotations_rotate 113 = .ok (.iaload, 1) := by decide +kernel
theorem d_Rotations_rotate_114 : decode b_Rotations_rotate 114 = .ok (.iastore, 1) := by decide +kernel
theorem d_Rotations_rotate_115 : decode b_Rotations_rotate 115 = .ok (.iinc 5 1, 3) := by decide +kernel
theorem d_Rotations_rotate_118 : decode b_Rotations_rotate 118 = .ok (.goto (-48), 3) := by decide +kernel
theorem d_Rotations_rotate_121 : decode b_Rotations_rotate 121 = .ok (.iload 4, 2) := by decide +kernel
theorem d_Rotations_rotate_123 : decode b_Rotations_rotate 123 = .ok (.ireturn, 1) := by decide +kernel
theorem k674 : (Jvm.Cond.code ({ cls := "RotationPress$Rotations", name := "sortByByte", desc := "([II[I[I)V" } : Jvm.MethodName) prog_11_method_3_code (5 : Nat) (Option.none : Option Jvm.ClassFile.FieldType)) ∈ g_tbl := List.mem_filter.mpr ⟨List.mem_append_right (k2_sels lw_privs) (List.mem_append_right _ (List.mem_append_right _ (List.mem_append_left _ (List.mem_of_getElem? (l := tables_1_3) (i := 194) rfl)))), rfl⟩
theorem k672 : (Jvm.Cond.methodLink "RotationPress$Rotations" (31 : Nat) ({ cls := "RotationPress$Rotations", name := "sortByByte", desc := "([II[I[I)V" } : Jvm.MethodName)) ∈ g_tbl := List.mem_filter.mpr ⟨List.mem_append_right (k2_sels lw_privs) (List.mem_append_right _ (List.mem_append_right _ (List.mem_append_left _ (List.mem_of_getElem? (l := tables_1_3) (i := 192) rfl)))), rfl⟩
theorem k673 : (Jvm.Cond.static ({ cls := "RotationPress$Rotations", name := "sortByByte", desc := "([II[I[I)V" } : Jvm.MethodName)) ∈ g_tbl := List.mem_filter.mpr ⟨List.mem_append_right (k2_sels lw_privs) (List.mem_append_right _ (List.mem_append_right _ (List.mem_append_left _ (List.mem_of_getElem? (l := tables_1_3) (i := 193) rfl)))), rfl⟩
theorem k935 : (Jvm.Cond.code ({ cls := "RotationPress$Rotations", name := "rankByByte", desc := "([II)V" } : Jvm.MethodName) prog_11_method_4_code (5 : Nat) (Option.none : Option Jvm.ClassFile.FieldType)) ∈ g_tbl := List.mem_filter.mpr ⟨List.mem_append_right (k2_sels lw_privs) (List.mem_append_right _ (List.mem_append_right _ (List.mem_append_right _ (List.mem_append_left _ (List.mem_of_getElem? (l := tables_1_4) (i := 215) rfl))))), rfl⟩
theorem k932 : (Jvm.Cond.methodLink "RotationPress$Rotations" (35 : Nat) ({ cls := "RotationPress$Rotations", name := "rankByByte", desc := "([II)V" } : Jvm.MethodName)) ∈ g_tbl := List.mem_filter.mpr ⟨List.mem_append_right (k2_sels lw_privs) (List.mem_append_right _ (List.mem_append_right _ (List.mem_append_right _ (List.mem_append_left _ (List.mem_of_getElem? (l := tables_1_4) (i := 212) rfl))))), rfl⟩
theorem k934 : (Jvm.Cond.instanceMethod ({ cls := "RotationPress$Rotations", name := "rankByByte", desc := "([II)V" } : Jvm.MethodName)) ∈ g_tbl := List.mem_filter.mpr ⟨List.mem_append_right (k2_sels lw_privs) (List.mem_append_right _ (List.mem_append_right _ (List.mem_append_right _ (List.mem_append_left _ (List.mem_of_getElem? (l := tables_1_4) (i := 214) rfl))))), rfl⟩
theorem ks3 : (Jvm.Cond.selects "RotationPress$Rotations" ({ cls := "RotationPress$Rotations", name := "rankByByte", desc := "([II)V" } : Jvm.MethodName) ({ cls := "RotationPress$Rotations", name := "rankByByte", desc := "([II)V" } : Jvm.MethodName)) ∈ g_tbl := List.mem_filter.mpr ⟨List.mem_append_left _ (List.mem_map.mpr ⟨(({ cls := "RotationPress$Rotations", name := "rankByByte", desc := "([II)V" } : Jvm.MethodName), _), List.mem_of_getElem? (i := 3) rfl, rfl⟩), rfl⟩
theorem k951 : (Jvm.Cond.code ({ cls := "RotationPress$Rotations", name := "sortEqualByPlace", desc := "(I)V" } : Jvm.MethodName) prog_11_method_8_code (3 : Nat) (Option.none : Option Jvm.ClassFile.FieldType)) ∈ g_tbl := List.mem_filter.mpr ⟨List.mem_append_right (k2_sels lw_privs) (List.mem_append_right _ (List.mem_append_right _ (List.mem_append_right _ (List.mem_append_left _ (List.mem_of_getElem? (l := tables_1_4) (i := 231) rfl))))), rfl⟩
theorem k948 : (Jvm.Cond.methodLink "RotationPress$Rotations" (46 : Nat) ({ cls := "RotationPress$Rotations", name := "sortEqualByPlace", desc := "(I)V" } : Jvm.MethodName)) ∈ g_tbl := List.mem_filter.mpr ⟨List.mem_append_right (k2_sels lw_privs) (List.mem_append_right _ (List.mem_append_right _ (List.mem_append_right _ (List.mem_append_left _ (List.mem_of_getElem? (l := tables_1_4) (i := 228) rfl))))), rfl⟩
theorem k950 : (Jvm.Cond.instanceMethod ({ cls := "RotationPress$Rotations", name := "sortEqualByPlace", desc := "(I)V" } : Jvm.MethodName)) ∈ g_tbl := List.mem_filter.mpr ⟨List.mem_append_right (k2_sels lw_privs) (List.mem_append_right _ (List.mem_append_right _ (List.mem_append_right _ (List.mem_append_left _ (List.mem_of_getElem? (l := tables_1_4) (i := 230) rfl))))), rfl⟩
theorem ks7 : (Jvm.Cond.selects "RotationPress$Rotations" ({ cls := "RotationPress$Rotations", name := "sortEqualByPlace", desc := "(I)V" } : Jvm.MethodName) ({ cls := "RotationPress$Rotations", name := "sortEqualByPlace", desc := "(I)V" } : Jvm.MethodName)) ∈ g_tbl := List.mem_filter.mpr ⟨List.mem_append_left _ (List.mem_map.mpr ⟨(({ cls := "RotationPress$Rotations", name := "sortEqualByPlace", desc := "(I)V" } : Jvm.MethodName), _), List.mem_of_getElem? (i := 7) rfl, rfl⟩), rfl⟩
theorem k939 : (Jvm.Cond.code ({ cls := "RotationPress$Rotations", name := "sortByNext", desc := "(II)V" } : Jvm.MethodName) prog_11_method_6_code (5 : Nat) (Option.none : Option Jvm.ClassFile.FieldType)) ∈ g_tbl := List.mem_filter.mpr ⟨List.mem_append_right (k2_sels lw_privs) (List.mem_append_right _ (List.mem_append_right _ (List.mem_append_right _ (List.mem_append_left _ (List.mem_of_getElem? (l := tables_1_4) (i := 219) rfl))))), rfl⟩
theorem k936 : (Jvm.Cond.methodLink "RotationPress$Rotations" (39 : Nat) ({ cls := "RotationPress$Rotations", name := "sortByNext", desc := "(II)V" } : Jvm.MethodName)) ∈ g_tbl := List.mem_filter.mpr ⟨List.mem_append_right (k2_sels lw_privs) (List.mem_append_right _ (List.mem_append_right _ (List.mem_append_right _ (List.mem_append_left _ (List.mem_of_getElem? (l := tables_1_4) (i := 216) rfl))))), rfl⟩
theorem k938 : (Jvm.Cond.instanceMethod ({ cls := "RotationPress$Rotations", name := "sortByNext", desc := "(II)V" } : Jvm.MethodName)) ∈ g_tbl := List.mem_filter.mpr ⟨List.mem_append_right (k2_sels lw_privs) (List.mem_append_right _ (List.mem_append_right _ (List.mem_append_right _ (List.mem_append_left _ (List.mem_of_getElem? (l := tables_1_4) (i := 218) rfl))))), rfl⟩
theorem ks4 : (Jvm.Cond.selects "RotationPress$Rotations" ({ cls := "RotationPress$Rotations", name := "sortByNext", desc := "(II)V" } : Jvm.MethodName) ({ cls := "RotationPress$Rotations", name := "sortByNext", desc := "(II)V" } : Jvm.MethodName)) ∈ g_tbl := List.mem_filter.mpr ⟨List.mem_append_left _ (List.mem_map.mpr ⟨(({ cls := "RotationPress$Rotations", name := "sortByNext", desc := "(II)V" } : Jvm.MethodName), _), List.mem_of_getElem? (i := 4) rfl, rfl⟩), rfl⟩
theorem k947 : (Jvm.Cond.code ({ cls := "RotationPress$Rotations", name := "rankByNext", desc := "(II)V" } : Jvm.MethodName) prog_11_method_7_code (9 : Nat) (Option.none : Option Jvm.ClassFile.FieldType)) ∈ g_tbl := List.mem_filter.mpr ⟨List.mem_append_right (k2_sels lw_privs) (List.mem_append_right _ (List.mem_append_right _ (List.mem_append_right _ (List.mem_append_left _ (List.mem_of_getElem? (l := tables_1_4) (i := 227) rfl))))), rfl⟩
theorem k944 : (Jvm.Cond.methodLink "RotationPress$Rotations" (43 : Nat) ({ cls := "RotationPress$Rotations", name := "rankByNext", desc := "(II)V" } : Jvm.MethodName)) ∈ g_tbl := List.mem_filter.mpr ⟨List.mem_append_right (k2_sels lw_privs) (List.mem_append_right _ (List.mem_append_right _ (List.mem_append_right _ (List.mem_append_left _ (List.mem_of_getElem? (l := tables_1_4) (i := 224) rfl))))), rfl⟩
theorem k946 : (Jvm.Cond.instanceMethod ({ cls := "RotationPress$Rotations", name := "rankByNext", desc := "(II)V" } : Jvm.MethodName)) ∈ g_tbl := List.mem_filter.mpr ⟨List.mem_append_right (k2_sels lw_privs) (List.mem_append_right _ (List.mem_append_right _ (List.mem_append_right _ (List.mem_append_left _ (List.mem_of_getElem? (l := tables_1_4) (i := 226) rfl))))), rfl⟩
theorem ks6 : (Jvm.Cond.selects "RotationPress$Rotations" ({ cls := "RotationPress$Rotations", name := "rankByNext", desc := "(II)V" } : Jvm.MethodName) ({ cls := "RotationPress$Rotations", name := "rankByNext", desc := "(II)V" } : Jvm.MethodName)) ∈ g_tbl := List.mem_filter.mpr ⟨List.mem_append_left _ (List.mem_map.mpr ⟨(({ cls := "RotationPress$Rotations", name := "rankByNext", desc := "(II)V" } : Jvm.MethodName), _), List.mem_of_getElem? (i := 6) rfl, rfl⟩), rfl⟩
set_option maxRecDepth 100000 in
set_option maxHeartbeats 4000000 in
theorem m_Rotations_rotate {C : gT} (hC : gOk C b_Rotations_rotate R_Rotations { frames := 3, cells := 0, slots := 0, locals := 70 } 7) (q_a0 : Nat) (q_a0_order : Nat) (q_a0_orderNext : Nat) (q_a0_rank : Nat) (q_a0_rankNext : Nat) (q_a0_slots : Nat) (x_a0_ranks : Int32) (f_a0_slots : (Nat → Int32)) (q_a1 : Nat) (n_a1 : Nat) (f_a1 : (Nat → Int32)) (f_a0_order : (Nat → Int32)) (f_a0_rank : (Nat → Int32)) (f_a0_orderNext : (Nat → Int32)) (f_a0_rankNext : (Nat → Int32)) (q_a3 : Nat) (n_a3 : Nat) (f_a3 : (Nat → Int32)) (p2 : Int32) (out : (Int32 × (Nat → Int32) × (Nat → Int32) × Int32 × (Nat → Int32) × (Nat → Int32) × (Nat → Int32) × (Nat → Int32))) (hf : Rotations_rotate_f f_a0_slots p2 n_a1 f_a1 f_a0_order f_a0_rank f_a0_orderNext f_a0_rankNext n_a3 f_a3 = some out) (kr : ∀ (x : (Nat × Nat × Nat × Nat)) (o9 : (Int32 × (Nat → Int32) × (Nat → Int32) × Int32 × (Nat → Int32) × (Nat → Int32) × (Nat → Int32) × (Nat → Int32))) (pc : Nat) (lv : List (Nat × Value)), o9 = out → decode b_Rotations_rotate pc = .ok (.ireturn, 1) → narrow .int (.int o9.1) = .int o9.1 → gAt C 0 0 [(q_a0, .inr (10, [.ref x.1, .ref x.2.2.1, .ref x.2.1, .ref x.2.2.2, .ref q_a0_slots, .int o9.2.2.2.1])), (q_a0_slots, .inl (g_K C 0, 2250, .inl o9.2.1)), (q_a1, .inl (g_K C 0, n_a1, .inl f_a1)), (x.1, .inl (g_K C 0, 2250, .inl o9.2.2.1)), (x.2.1, .inl (g_K C 0, 2250, .inl o9.2.2.2.2.1)), (x.2.2.1, .inl (g_K C 0, 2250, .inl o9.2.2.2.2.2.1)), (x.2.2.2, .inl (g_K C 0, 2250, .inl o9.2.2.2.2.2.2.1)), (q_a3, .inl (g_K C 0, n_a3, .inl o9.2.2.2.2.2.2.2))] lv pc [.int o9.1]) : gAt C 0 0 [(q_a0, .inr (10, [.ref q_a0_order, .ref q_a0_orderNext, .ref q_a0_rank, .ref q_a0_rankNext, .ref q_a0_slots, .int x_a0_ranks])), (q_a0_slots, .inl (g_K C 0, 2250, .inl f_a0_slots)), (q_a1, .inl (g_K C 0, n_a1, .inl f_a1)), (q_a0_order, .inl (g_K C 0, 2250, .inl f_a0_order)), (q_a0_rank, .inl (g_K C 0, 2250, .inl f_a0_rank)), (q_a0_orderNext, .inl (g_K C 0, 2250, .inl f_a0_orderNext)), (q_a0_rankNext, .inl (g_K C 0, 2250, .inl f_a0_rankNext)), (q_a3, .inl (g_K C 0, n_a3, .inl f_a3))] [(0, .ref q_a0), (1, .ref q_a1), (2, .int p2), (3, .ref q_a3)] 0 [] := by
  unfold Rotations_rotate_f at hf
  refine g_aload_n 0 hC (j := 1) (hj := rfl) (hd := d_Rotations_rotate_0) ?_
  refine g_iload_n 1 hC (j := 2) (hj := rfl) (hd := d_Rotations_rotate_1) ?_
  refine g_aload_n 2 hC (j := 0) (hj := rfl) (hd := d_Rotations_rotate_2) ?_
  refine g_get 3 hC i_Rotations rfl 0 rfl 0 (by decide) k220 rfl d_Rotations_rotate_3 ?_
  refine g_aload_n 6 hC (j := 0) (hj := rfl) (hd := d_Rotations_rotate_6) ?_
  refine g_get 7 hC i_Rotations rfl 0 rfl 4 (by decide) k224 rfl d_Rotations_rotate_7 ?_
  obtain ⟨u1, hu1, hf⟩ := bd_some hf
  refine g_callSv 10 hC (c_Rotations_sortByByte (g_l C) (g_D C) (g_K C) q_a0_slots 2250 f_a0_slots q_a1 n_a1 f_a1 q_a0_order 2250 f_a0_order p2 u1 hu1) k674 k9 k672 k673 4 rfl (by decide +kernel) (by decide) [1, 2, 3] [0, 4, 5, 6, 7] [(q_a0, .inr (10, [.ref q_a0_order, .ref q_a0_orderNext, .ref q_a0_rank, .ref q_a0_rankNext, .ref q_a0_slots, .int x_a0_ranks])), (q_a0_rank, .inl (g_K C 0, 2250, .inl f_a0_rank)), (q_a0_orderNext, .inl (g_K C 0, 2250, .inl f_a0_orderNext)), (q_a0_rankNext, .inl (g_K C 0, 2250, .inl f_a0_rankNext)), (q_a3, .inl (g_K C 0, n_a3, .inl f_a3))] rfl rfl rfl rfl rfl rfl (Nat.le_of_ble_eq_true rfl) ⟨Nat.le_of_ble_eq_true rfl, Nat.le_of_ble_eq_true rfl⟩ (fun (_ : Unit) => [(q_a0, .inr (10, [.ref q_a0_order, .ref q_a0_orderNext, .ref q_a0_rank, .ref q_a0_rankNext, .ref q_a0_slots, .int x_a0_ranks])), (q_a0_rank, .inl (g_K C 0, 2250, .inl f_a0_rank)), (q_a0_orderNext, .inl (g_K C 0, 2250, .inl f_a0_orderNext)), (q_a0_rankNext, .inl (g_K C 0, 2250, .inl f_a0_rankNext)), (q_a3, .inl (g_K C 0, n_a3, .inl f_a3)), (q_a0_slots, .inl (g_K C 0, 2250, .inl u1.1)), (q_a1, .inl (g_K C 0, n_a1, .inl f_a1)), (q_a0_order, .inl (g_K C 0, 2250, .inl u1.2))]) (fun _ => rfl) d_Rotations_rotate_10 0 0 rfl rfl (fun _ => ?_)
  refine g_aload_n 13 hC (j := 0) (hj := rfl) (hd := d_Rotations_rotate_13) ?_
  refine g_aload_n 14 hC (j := 1) (hj := rfl) (hd := d_Rotations_rotate_14) ?_
  refine g_iload_n 15 hC (j := 2) (hj := rfl) (hd := d_Rotations_rotate_15) ?_
  obtain ⟨u2, hu2, hf⟩ := bd_some hf
  refine g_callVv 16 hC (c_Rotations_rankByByte (g_l C) (g_D C) (g_K C) q_a0 q_a0_order q_a0_orderNext q_a0_rank q_a0_rankNext q_a0_slots x_a0_ranks u1.2 q_a1 n_a1 f_a1 f_a0_rank p2 u2 hu2) k935 k9 k932 k934 ks3 2 rfl (by decide +kernel) (by decide) [0, 7, 6, 1] [2, 3, 4, 5] [(q_a0_orderNext, .inl (g_K C 0, 2250, .inl f_a0_orderNext)), (q_a0_rankNext, .inl (g_K C 0, 2250, .inl f_a0_rankNext)), (q_a3, .inl (g_K C 0, n_a3, .inl f_a3)), (q_a0_slots, .inl (g_K C 0, 2250, .inl u1.1))] rfl rfl rfl rfl rfl 0 10 rfl rfl rfl rfl (Nat.le_of_ble_eq_true rfl) ⟨Nat.le_of_ble_eq_true rfl, Nat.le_of_ble_eq_true rfl⟩ (fun (_ : Unit) => [(q_a0_orderNext, .inl (g_K C 0, 2250, .inl f_a0_orderNext)), (q_a0_rankNext, .inl (g_K C 0, 2250, .inl f_a0_rankNext)), (q_a3, .inl (g_K C 0, n_a3, .inl f_a3)), (q_a0_slots, .inl (g_K C 0, 2250, .inl u1.1)), (q_a0, .inr (10, [.ref q_a0_order, .ref q_a0_orderNext, .ref q_a0_rank, .ref q_a0_rankNext, .ref q_a0_slots, .int u2.1])), (q_a0_order, .inl (g_K C 0, 2250, .inl u1.2)), (q_a1, .inl (g_K C 0, n_a1, .inl f_a1)), (q_a0_rank, .inl (g_K C 0, 2250, .inl u2.2))]) (fun _ => rfl) d_Rotations_rotate_16 0 0 rfl rfl (fun _ => ?_)
  refine g_iconst 19 hC (1 : Int32) (by decide) d_Rotations_rotate_19 ?_
  refine g_istore 20 hC (lv2 := [(4, .int (1 : Int32)), (0, .ref q_a0), (1, .ref q_a1), (2, .int p2), (3, .ref q_a3)]) (hn := (by decide)) (hl2 := rfl) (hd := d_Rotations_rotate_20) ?_
  obtain ⟨u4, hu4, hf⟩ := bd_some hf
  have Xu4_0 : ∀ (v5 : ((Nat → Int32) × (Nat → Int32) × Int32 × (Nat → Int32) × (Nat → Int32) × (Nat → Int32))), v5 = u4 → ∀ (y22_a0_order : Nat) (y22_a0_orderNext : Nat) (y22_a0_rank : Nat) (y22_a0_rankNext : Nat), gAt C 0 0 [(q_a0, .inr (10, [.ref y22_a0_order, .ref y22_a0_orderNext, .ref y22_a0_rank, .ref y22_a0_rankNext, .ref q_a0_slots, .int v5.2.2.1])), (q_a0_slots, .inl (g_K C 0, 2250, .inl v5.1)), (q_a1, .inl (g_K C 0, n_a1, .inl f_a1)), (y22_a0_order, .inl (g_K C 0, 2250, .inl v5.2.1)), (y22_a0_rank, .inl (g_K C 0, 2250, .inl v5.2.2.2.1)), (y22_a0_orderNext, .inl (g_K C 0, 2250, .inl v5.2.2.2.2.1)), (y22_a0_rankNext, .inl (g_K C 0, 2250, .inl v5.2.2.2.2.2)), (q_a3, .inl (g_K C 0, n_a3, .inl f_a3))] [(0, .ref q_a0), (1, .ref q_a1), (2, .int p2), (3, .ref q_a3)] 59 [] := by
    intro v5 hv y22_a0_order y22_a0_orderNext y22_a0_rank y22_a0_rankNext
    rw [← hv] at hf
    refine g_aload_n 59 hC (j := 0) (hj := rfl) (hd := d_Rotations_rotate_59) ?_
    refine g_iload_n 60 hC (j := 2) (hj := rfl) (hd := d_Rotations_rotate_60) ?_
    obtain ⟨u6, hu6, hf⟩ := bd_some hf
    refine g_callVv 61 hC (c_Rotations_sortEqualByPlace (g_l C) (g_D C) (g_K C) q_a0 y22_a0_order y22_a0_orderNext y22_a0_rank y22_a0_rankNext q_a0_slots v5.2.2.1 v5.1 v5.2.2.2.1 v5.2.1 p2 u6 hu6) k951 k9 k948 k950 ks7 1 rfl (by decide +kernel) (by decide) [0, 1, 4, 3] [2, 5, 6, 7] [(q_a1, .inl (g_K C 0, n_a1, .inl f_a1)), (y22_a0_orderNext, .inl (g_K C 0, 2250, .inl v5.2.2.2.2.1)), (y22_a0_rankNext, .inl (g_K C 0, 2250, .inl v5.2.2.2.2.2)), (q_a3, .inl (g_K C 0, n_a3, .inl f_a3))] rfl rfl rfl rfl rfl 0 10 rfl rfl rfl rfl (Nat.le_of_ble_eq_true rfl) ⟨Nat.le_of_ble_eq_true rfl, Nat.le_of_ble_eq_true rfl⟩ (fun (_ : Unit) => [(q_a1, .inl (g_K C 0, n_a1, .inl f_a1)), (y22_a0_orderNext, .inl (g_K C 0, 2250, .inl v5.2.2.2.2.1)), (y22_a0_rankNext, .inl (g_K C 0, 2250, .inl v5.2.2.2.2.2)), (q_a3, .inl (g_K C 0, n_a3, .inl f_a3)), (q_a0, .inr (10, [.ref y22_a0_order, .ref y22_a0_orderNext, .ref y22_a0_rank, .ref y22_a0_rankNext, .ref q_a0_slots, .int v5.2.2.1])), (q_a0_slots, .inl (g_K C 0, 2250, .inl u6.1)), (y22_a0_rank, .inl (g_K C 0, 2250, .inl v5.2.2.2.1)), (y22_a0_order, .inl (g_K C 0, 2250, .inl u6.2))]) (fun _ => rfl) d_Rotations_rotate_61 0 0 rfl rfl (fun _ => ?_)
    refine g_iconst 64 hC (0 : Int32) (by decide) d_Rotations_rotate_64 ?_
    refine g_istore 65 hC (lv2 := [(4, .int (0 : Int32)), (0, .ref q_a0), (1, .ref q_a1), (2, .int p2), (3, .ref q_a3)]) (hn := (by decide)) (hl2 := rfl) (hd := d_Rotations_rotate_65) ?_
    refine g_iconst 67 hC (0 : Int32) (by decide) d_Rotations_rotate_67 ?_
    refine g_istore 68 hC (lv2 := [(5, .int (0 : Int32)), (4, .int (0 : Int32)), (0, .ref q_a0), (1, .ref q_a1), (2, .int p2), (3, .ref q_a3)]) (hn := (by decide)) (hl2 := rfl) (hd := d_Rotations_rotate_68) ?_
    obtain ⟨u8, hu8, hf⟩ := bd_some hf
    have Xu8_0 : ∀ (v9 : (Int32 × (Nat → Int32))), v9 = u8 → gAt C 0 0 [(q_a0, .inr (10, [.ref y22_a0_order, .ref y22_a0_orderNext, .ref y22_a0_rank, .ref y22_a0_rankNext, .ref q_a0_slots, .int v5.2.2.1])), (q_a0_slots, .inl (g_K C 0, 2250, .inl u6.1)), (q_a1, .inl (g_K C 0, n_a1, .inl f_a1)), (y22_a0_order, .inl (g_K C 0, 2250, .inl u6.2)), (y22_a0_rank, .inl (g_K C 0, 2250, .inl v5.2.2.2.1)), (y22_a0_orderNext, .inl (g_K C 0, 2250, .inl v5.2.2.2.2.1)), (y22_a0_rankNext, .inl (g_K C 0, 2250, .inl v5.2.2.2.2.2)), (q_a3, .inl (g_K C 0, n_a3, .inl v9.2))] [(4, .int v9.1)] 121 [] := by
      intro v9 hv
      rw [← hv] at hf
      refine g_iload 121 hC (j := 0) (hj := rfl) (hd := d_Rotations_rotate_121) ?_
      exact g_re [0, 1, 2, 3, 4, 5, 6, 7] [] rfl rfl rfl (kr (y22_a0_order, y22_a0_rank, y22_a0_orderNext, y22_a0_rankNext) (v9.1, u6.1, u6.2, v5.2.2.1, v5.2.2.2.1, v5.2.2.2.2.1, v5.2.2.2.2.2, v9.2) 123 [] (Option.some.inj hf) d_Rotations_rotate_123 rfl)
    have Gu8 := lp_ind (b := (Rotations_rotate_L70 p2 u6 n_a1 n_a3 f_a1)) (G := fun (s7 : (Int32 × Int32 × (Nat → Int32))) => gAt C 0 0 [(q_a0, .inr (10, [.ref y22_a0_order, .ref y22_a0_orderNext, .ref y22_a0_rank, .ref y22_a0_rankNext, .ref q_a0_slots, .int v5.2.2.1])), (q_a0_slots, .inl (g_K C 0, 2250, .inl u6.1)), (q_a1, .inl (g_K C 0, n_a1, .inl f_a1)), (y22_a0_order, .inl (g_K C 0, 2250, .inl u6.2)), (y22_a0_rank, .inl (g_K C 0, 2250, .inl v5.2.2.2.1)), (y22_a0_orderNext, .inl (g_K C 0, 2250, .inl v5.2.2.2.2.1)), (y22_a0_rankNext, .inl (g_K C 0, 2250, .inl v5.2.2.2.2.2)), (q_a3, .inl (g_K C 0, n_a3, .inl s7.2.2))] [(0, .ref q_a0), (1, .ref q_a1), (2, .int p2), (3, .ref q_a3), (4, .int s7.1), (5, .int s7.2.1)] 70 []) (o := u8) (by
        intro s7 u10 hf hI hX
        unfold Rotations_rotate_L70 at hf
        have J113 : ∀ (j113_0 : Int32) (j113_1 : Int32) (j113_2 : Int32), Rotations_rotate_J113 n_a1 n_a3 s7 f_a1 j113_0 j113_1 j113_2 = some u10 → gAt C 0 0 [(q_a0, .inr (10, [.ref y22_a0_order, .ref y22_a0_orderNext, .ref y22_a0_rank, .ref y22_a0_rankNext, .ref q_a0_slots, .int v5.2.2.1])), (q_a0_slots, .inl (g_K C 0, 2250, .inl u6.1)), (q_a1, .inl (g_K C 0, n_a1, .inl f_a1)), (y22_a0_order, .inl (g_K C 0, 2250, .inl u6.2)), (y22_a0_rank, .inl (g_K C 0, 2250, .inl v5.2.2.2.1)), (y22_a0_orderNext, .inl (g_K C 0, 2250, .inl v5.2.2.2.2.1)), (y22_a0_rankNext, .inl (g_K C 0, 2250, .inl v5.2.2.2.2.2)), (q_a3, .inl (g_K C 0, n_a3, .inl s7.2.2))] [(0, .ref q_a0), (1, .ref q_a1), (2, .int p2), (3, .ref q_a3), (4, .int j113_0), (5, .int s7.2.1)] 113 [.int j113_1, .ref q_a1, .int j113_2, .ref q_a3] := by
          intro j113_0 j113_1 j113_2 hf
          unfold Rotations_rotate_J113 at hf
          obtain ⟨e11, hf⟩ := gd_some hf
          refine g_iald 113 hC 2 rfl e11 d_Rotations_rotate_113 ?_
          obtain ⟨e12, hf⟩ := gd_some hf
          refine g_iast 114 hC 7 rfl e12 [(q_a0, .inr (10, [.ref y22_a0_order, .ref y22_a0_orderNext, .ref y22_a0_rank, .ref y22_a0_rankNext, .ref q_a0_slots, .int v5.2.2.1])), (q_a0_slots, .inl (g_K C 0, 2250, .inl u6.1)), (q_a1, .inl (g_K C 0, n_a1, .inl f_a1)), (y22_a0_order, .inl (g_K C 0, 2250, .inl u6.2)), (y22_a0_rank, .inl (g_K C 0, 2250, .inl v5.2.2.2.1)), (y22_a0_orderNext, .inl (g_K C 0, 2250, .inl v5.2.2.2.2.1)), (y22_a0_rankNext, .inl (g_K C 0, 2250, .inl v5.2.2.2.2.2)), (q_a3, .inl (g_K C 0, n_a3, .inl (upd s7.2.2 j113_2.toNatClampNeg (f_a1 j113_1.toNatClampNeg))))] rfl d_Rotations_rotate_114 ?_
          refine g_iinc 115 hC 5 (1 : Int32) [(5, .int (s7.2.1 + (1 : Int32))), (0, .ref q_a0), (1, .ref q_a1), (2, .int p2), (3, .ref q_a3), (4, .int j113_0)] rfl (by decide) (by decide) rfl d_Rotations_rotate_115 ?_
          refine g_goto 118 hC 70 (by decide) d_Rotations_rotate_118 ?_
          exact g_re [0, 1, 2, 3, 4, 5, 6, 7] [1, 2, 3, 4, 5, 0] rfl rfl rfl (hI (j113_0, (s7.2.1 + (1 : Int32)), (upd s7.2.2 j113_2.toNatClampNeg (f_a1 j113_1.toNatClampNeg))) hf)
        have J94 : ∀ (j94_0 : Int32) (j94_1 : Int32), Rotations_rotate_J94 n_a1 n_a3 s7 f_a1 p2 j94_0 j94_1 = some u10 → gAt C 0 0 [(q_a0, .inr (10, [.ref y22_a0_order, .ref y22_a0_orderNext, .ref y22_a0_rank, .ref y22_a0_rankNext, .ref q_a0_slots, .int v5.2.2.1])), (q_a0_slots, .inl (g_K C 0, 2250, .inl u6.1)), (q_a1, .inl (g_K C 0, n_a1, .inl f_a1)), (y22_a0_order, .inl (g_K C 0, 2250, .inl u6.2)), (y22_a0_rank, .inl (g_K C 0, 2250, .inl v5.2.2.2.1)), (y22_a0_orderNext, .inl (g_K C 0, 2250, .inl v5.2.2.2.2.1)), (y22_a0_rankNext, .inl (g_K C 0, 2250, .inl v5.2.2.2.2.2)), (q_a3, .inl (g_K C 0, n_a3, .inl s7.2.2))] [(0, .ref q_a0), (1, .ref q_a1), (2, .int p2), (3, .ref q_a3), (4, .int j94_0), (5, .int s7.2.1), (6, .int j94_1)] 94 [] := by
          intro j94_0 j94_1 hf
          unfold Rotations_rotate_J94 at hf
          refine g_aload_n 94 hC (j := 3) (hj := rfl) (hd := d_Rotations_rotate_94) ?_
          refine g_iload 95 hC (j := 5) (hj := rfl) (hd := d_Rotations_rotate_95) ?_
          refine g_aload_n 97 hC (j := 1) (hj := rfl) (hd := d_Rotations_rotate_97) ?_
          refine g_iload 98 hC (j := 6) (hj := rfl) (hd := d_Rotations_rotate_98) ?_
          refine g_if_ne 100 hC 109 (by decide) d_Rotations_rotate_100 (fun c13 => ?_) (fun c13 => ?_)
          · have hf := it_f c13 hf
            refine g_iload 109 hC (j := 6) (hj := rfl) (hd := d_Rotations_rotate_109) ?_
            refine g_iconst 111 hC (1 : Int32) (by decide) d_Rotations_rotate_111 ?_
            refine g_isub 112 hC d_Rotations_rotate_112 ?_
            exact g_re [0, 1, 2, 3, 4, 5, 6, 7] [0, 1, 2, 3, 4, 5] rfl rfl rfl (J113 j94_0 (j94_1 - (1 : Int32)) s7.2.1 hf)
          · have hf := it_t c13 hf
            refine g_iload_n 103 hC (j := 2) (hj := rfl) (hd := d_Rotations_rotate_103) ?_
            refine g_iconst 104 hC (1 : Int32) (by decide) d_Rotations_rotate_104 ?_
            refine g_isub 105 hC d_Rotations_rotate_105 ?_
            refine g_goto 106 hC 113 (by decide) d_Rotations_rotate_106 ?_
            exact g_re [0, 1, 2, 3, 4, 5, 6, 7] [0, 1, 2, 3, 4, 5] rfl rfl rfl (J113 j94_0 (p2 - (1 : Int32)) s7.2.1 hf)
        refine g_iload 70 hC (j := 5) (hj := rfl) (hd := d_Rotations_rotate_70) ?_
        refine g_iload_n 72 hC (j := 2) (hj := rfl) (hd := d_Rotations_rotate_72) ?_
        refine g_icmp_ge 73 hC 121 (by decide) d_Rotations_rotate_73 (fun c14 => ?_) (fun c14 => ?_)
        · have hf := it_t c14 hf
          exact g_re [0, 1, 2, 3, 4, 5, 6, 7] [4] rfl rfl rfl (Xu8_0 (s7.1, s7.2.2) (hX (s7.1, s7.2.2) hf))
        · have hf := it_f c14 hf
          refine g_aload_n 76 hC (j := 0) (hj := rfl) (hd := d_Rotations_rotate_76) ?_
          refine g_get 77 hC i_Rotations rfl 0 rfl 0 (by decide) k220 rfl d_Rotations_rotate_77 ?_
          refine g_iload 80 hC (j := 5) (hj := rfl) (hd := d_Rotations_rotate_80) ?_
          obtain ⟨e15, hf⟩ := gd_some hf
          refine g_iald 82 hC 3 rfl e15 d_Rotations_rotate_82 ?_
          refine g_istore 83 hC (lv2 := [(6, .int (u6.2 s7.2.1.toNatClampNeg)), (0, .ref q_a0), (1, .ref q_a1), (2, .int p2), (3, .ref q_a3), (4, .int s7.1), (5, .int s7.2.1)]) (hn := (by decide)) (hl2 := rfl) (hd := d_Rotations_rotate_83) ?_
          refine g_iload 85 hC (j := 0) (hj := rfl) (hd := d_Rotations_rotate_85) ?_
          refine g_if_ne 87 hC 94 (by decide) d_Rotations_rotate_87 (fun c16 => ?_) (fun c16 => ?_)
          · have hf := it_f c16 hf
            exact g_re [0, 1, 2, 3, 4, 5, 6, 7] [1, 2, 3, 4, 5, 6, 0] rfl rfl rfl (J94 s7.1 (u6.2 s7.2.1.toNatClampNeg) hf)
          · have hf := it_t c16 hf
            refine g_iload 90 hC (j := 6) (hj := rfl) (hd := d_Rotations_rotate_90) ?_
            refine g_istore 92 hC (lv2 := [(4, .int s7.2.1), (6, .int (u6.2 s7.2.1.toNatClampNeg)), (0, .ref q_a0), (1, .ref q_a1), (2, .int p2), (3, .ref q_a3), (5, .int s7.2.1)]) (hn := (by decide)) (hl2 := rfl) (hd := d_Rotations_rotate_92) ?_
            exact g_re [0, 1, 2, 3, 4, 5, 6, 7] [2, 3, 4, 5, 0, 6, 1] rfl rfl rfl (J94 s7.2.1 (u6.2 s7.2.1.toNatClampNeg) hf)) gas
    exact g_re [4, 5, 0, 7, 6, 1, 2, 3] [2, 3, 4, 5, 1, 0] rfl rfl rfl (Gu8 ((0 : Int32), (0 : Int32), f_a3) hu8)
  have Gu4 := lp_ind (b := (Rotations_rotate_L22 p2)) (G := fun (s3 : (Int32 × (Nat → Int32) × (Nat → Int32) × Int32 × (Nat → Int32) × (Nat → Int32) × (Nat → Int32))) => ∀ (y22_a0_order : Nat) (y22_a0_orderNext : Nat) (y22_a0_rank : Nat) (y22_a0_rankNext : Nat), gAt C 0 0 [(q_a0, .inr (10, [.ref y22_a0_order, .ref y22_a0_orderNext, .ref y22_a0_rank, .ref y22_a0_rankNext, .ref q_a0_slots, .int s3.2.2.2.1])), (q_a0_slots, .inl (g_K C 0, 2250, .inl s3.2.1)), (q_a1, .inl (g_K C 0, n_a1, .inl f_a1)), (y22_a0_order, .inl (g_K C 0, 2250, .inl s3.2.2.1)), (y22_a0_rank, .inl (g_K C 0, 2250, .inl s3.2.2.2.2.1)), (y22_a0_orderNext, .inl (g_K C 0, 2250, .inl s3.2.2.2.2.2.1)), (y22_a0_rankNext, .inl (g_K C 0, 2250, .inl s3.2.2.2.2.2.2)), (q_a3, .inl (g_K C 0, n_a3, .inl f_a3))] [(0, .ref q_a0), (1, .ref q_a1), (2, .int p2), (3, .ref q_a3), (4, .int s3.1)] 22 []) (o := u4) (by
      intro s3 u17 hf hI hX y22_a0_order y22_a0_orderNext y22_a0_rank y22_a0_rankNext
      unfold Rotations_rotate_L22 at hf
      refine g_iload 22 hC (j := 4) (hj := rfl) (hd := d_Rotations_rotate_22) ?_
      refine g_iload_n 24 hC (j := 2) (hj := rfl) (hd := d_Rotations_rotate_24) ?_
      refine g_icmp_ge 25 hC 59 (by decide) d_Rotations_rotate_25 (fun c18 => ?_) (fun c18 => ?_)
      · have hf := it_t c18 hf
        exact g_re [0, 1, 2, 3, 4, 5, 6, 7] [0, 1, 2, 3] rfl rfl rfl (Xu4_0 (s3.2.1, s3.2.2.1, s3.2.2.2.1, s3.2.2.2.2.1, s3.2.2.2.2.2.1, s3.2.2.2.2.2.2) (hX (s3.2.1, s3.2.2.1, s3.2.2.2.1, s3.2.2.2.2.1, s3.2.2.2.2.2.1, s3.2.2.2.2.2.2) hf) y22_a0_order y22_a0_orderNext y22_a0_rank y22_a0_rankNext)
      · have hf := it_f c18 hf
        refine g_aload_n 28 hC (j := 0) (hj := rfl) (hd := d_Rotations_rotate_28) ?_
        refine g_get 29 hC i_Rotations rfl 0 rfl 5 (by decide) k225 rfl d_Rotations_rotate_29 ?_
        refine g_iload_n 32 hC (j := 2) (hj := rfl) (hd := d_Rotations_rotate_32) ?_
        refine g_icmp_ge 33 hC 59 (by decide) d_Rotations_rotate_33 (fun c19 => ?_) (fun c19 => ?_)
        · have hf := it_t c19 hf
          exact g_re [0, 1, 2, 3, 4, 5, 6, 7] [0, 1, 2, 3] rfl rfl rfl (Xu4_0 (s3.2.1, s3.2.2.1, s3.2.2.2.1, s3.2.2.2.2.1, s3.2.2.2.2.2.1, s3.2.2.2.2.2.2) (hX (s3.2.1, s3.2.2.1, s3.2.2.2.1, s3.2.2.2.2.1, s3.2.2.2.2.2.1, s3.2.2.2.2.2.2) hf) y22_a0_order y22_a0_orderNext y22_a0_rank y22_a0_rankNext)
        · have hf := it_f c19 hf
          refine g_aload_n 36 hC (j := 0) (hj := rfl) (hd := d_Rotations_rotate_36) ?_
          refine g_iload_n 37 hC (j := 2) (hj := rfl) (hd := d_Rotations_rotate_37) ?_
          refine g_iload 38 hC (j := 4) (hj := rfl) (hd := d_Rotations_rotate_38) ?_
          obtain ⟨u20, hu20, hf⟩ := bd_some hf
          refine g_callVv 40 hC (c_Rotations_sortByNext (g_l C) (g_D C) (g_K C) q_a0 y22_a0_order y22_a0_orderNext y22_a0_rank y22_a0_rankNext q_a0_slots s3.2.2.2.1 s3.2.1 s3.2.2.1 s3.2.2.2.2.1 s3.2.2.2.2.2.1 p2 s3.1 u20 hu20) k939 k9 k936 k938 ks4 2 rfl (by decide +kernel) (by decide) [0, 1, 3, 4, 5] [2, 6, 7] [(q_a1, .inl (g_K C 0, n_a1, .inl f_a1)), (y22_a0_rankNext, .inl (g_K C 0, 2250, .inl s3.2.2.2.2.2.2)), (q_a3, .inl (g_K C 0, n_a3, .inl f_a3))] rfl rfl rfl rfl rfl 0 10 rfl rfl rfl rfl (Nat.le_of_ble_eq_true rfl) ⟨Nat.le_of_ble_eq_true rfl, Nat.le_of_ble_eq_true rfl⟩ (fun (xu20 : (Nat × Nat)) => [(q_a1, .inl (g_K C 0, n_a1, .inl f_a1)), (y22_a0_rankNext, .inl (g_K C 0, 2250, .inl s3.2.2.2.2.2.2)), (q_a3, .inl (g_K C 0, n_a3, .inl f_a3)), (q_a0, .inr (10, [.ref xu20.1, .ref xu20.2, .ref y22_a0_rank, .ref y22_a0_rankNext, .ref q_a0_slots, .int s3.2.2.2.1])), (q_a0_slots, .inl (g_K C 0, 2250, .inl u20.1)), (xu20.1, .inl (g_K C 0, 2250, .inl u20.2.2)), (y22_a0_rank, .inl (g_K C 0, 2250, .inl s3.2.2.2.2.1)), (xu20.2, .inl (g_K C 0, 2250, .inl u20.2.1))]) (fun _ => rfl) d_Rotations_rotate_40 0 0 rfl rfl (fun xu20 => ?_)
          refine g_aload_n 43 hC (j := 0) (hj := rfl) (hd := d_Rotations_rotate_43) ?_
          refine g_iload_n 44 hC (j := 2) (hj := rfl) (hd := d_Rotations_rotate_44) ?_
          refine g_iload 45 hC (j := 4) (hj := rfl) (hd := d_Rotations_rotate_45) ?_
          obtain ⟨u21, hu21, hf⟩ := bd_some hf
          refine g_callVv 47 hC (c_Rotations_rankByNext (g_l C) (g_D C) (g_K C) q_a0 xu20.1 xu20.2 y22_a0_rank y22_a0_rankNext q_a0_slots s3.2.2.2.1 u20.2.2 s3.2.2.2.2.1 s3.2.2.2.2.2.2 p2 s3.1 u21 hu21) k947 k9 k944 k946 ks6 2 rfl (by decide +kernel) (by decide) [3, 5, 6, 1] [0, 2, 4, 7] [(q_a1, .inl (g_K C 0, n_a1, .inl f_a1)), (q_a3, .inl (g_K C 0, n_a3, .inl f_a3)), (q_a0_slots, .inl (g_K C 0, 2250, .inl u20.1)), (xu20.2, .inl (g_K C 0, 2250, .inl u20.2.1))] rfl rfl rfl rfl rfl 0 10 rfl rfl rfl rfl (Nat.le_of_ble_eq_true rfl) ⟨Nat.le_of_ble_eq_true rfl, Nat.le_of_ble_eq_true rfl⟩ (fun (xu21 : (Nat × Nat)) => [(q_a1, .inl (g_K C 0, n_a1, .inl f_a1)), (q_a3, .inl (g_K C 0, n_a3, .inl f_a3)), (q_a0_slots, .inl (g_K C 0, 2250, .inl u20.1)), (xu20.2, .inl (g_K C 0, 2250, .inl u20.2.1)), (q_a0, .inr (10, [.ref xu20.1, .ref xu20.2, .ref xu21.1, .ref xu21.2, .ref q_a0_slots, .int u21.1])), (xu20.1, .inl (g_K C 0, 2250, .inl u20.2.2)), (xu21.1, .inl (g_K C 0, 2250, .inl u21.2.2)), (xu21.2, .inl (g_K C 0, 2250, .inl u21.2.1))]) (fun _ => rfl) d_Rotations_rotate_47 0 0 rfl rfl (fun xu21 => ?_)
          refine g_iload 50 hC (j := 4) (hj := rfl) (hd := d_Rotations_rotate_50) ?_
          refine g_iconst 52 hC (2 : Int32) (by decide) d_Rotations_rotate_52 ?_
          refine g_imul 53 hC d_Rotations_rotate_53 ?_
          refine g_istore 54 hC (lv2 := [(4, .int (s3.1 * (2 : Int32))), (0, .ref q_a0), (1, .ref q_a1), (2, .int p2), (3, .ref q_a3)]) (hn := (by decide)) (hl2 := rfl) (hd := d_Rotations_rotate_54) ?_
          refine g_goto 56 hC 22 (by decide) d_Rotations_rotate_56 ?_
          exact g_re [4, 2, 0, 5, 6, 3, 7, 1] [1, 2, 3, 4, 0] rfl rfl rfl (hI ((s3.1 * (2 : Int32)), u20.1, u20.2.2, u21.1, u21.2.2, u20.2.1, u21.2.1) hf xu20.1 xu20.2 xu21.1 xu21.2)) gas
  exact g_re [4, 3, 6, 5, 7, 0, 1, 2] [1, 2, 3, 4, 0] rfl rfl rfl (Gu4 ((1 : Int32), u1.1, u1.2, u2.1, u2.2, f_a0_orderNext, f_a0_rankNext) hu4 q_a0_order q_a0_orderNext q_a0_rank q_a0_rankNext)
theorem c_Rotations_rotate (l : Launch) (D : va_G) (K : Nat → ClassId) (q_a0 : Nat) (q_a0_order : Nat) (q_a0_orderNext : Nat) (q_a0_rank : Nat) (q_a0_rankNext : Nat) (q_a0_slots : Nat) (x_a0_ranks : Int32) (f_a0_slots : (Nat → Int32)) (q_a1 : Nat) (n_a1 : Nat) (f_a1 : (Nat → Int32)) (f_a0_order : (Nat → Int32)) (f_a0_rank : (Nat → Int32)) (f_a0_orderNext : (Nat → Int32)) (f_a0_rankNext : (Nat → Int32)) (q_a3 : Nat) (n_a3 : Nat) (f_a3 : (Nat → Int32)) (p2 : Int32) (out : (Int32 × (Nat → Int32) × (Nat → Int32) × Int32 × (Nat → Int32) × (Nat → Int32) × (Nat → Int32) × (Nat → Int32))) (hf : Rotations_rotate_f f_a0_slots p2 n_a1 f_a1 f_a0_order f_a0_rank f_a0_orderNext f_a0_rankNext n_a3 f_a3 = some out) : Ci l D K y_Rotations_rotate (g_wd y_Rotations_rotate b_Rotations_rotate 7 (some .int)) { frames := 3, cells := 0, slots := 0, locals := 70 } [.ref q_a0, .ref q_a1, .int p2, .ref q_a3] [(q_a0, .inr (10, [.ref q_a0_order, .ref q_a0_orderNext, .ref q_a0_rank, .ref q_a0_rankNext, .ref q_a0_slots, .int x_a0_ranks])), (q_a0_slots, .inl (K 0, 2250, .inl f_a0_slots)), (q_a1, .inl (K 0, n_a1, .inl f_a1)), (q_a0_order, .inl (K 0, 2250, .inl f_a0_order)), (q_a0_rank, .inl (K 0, 2250, .inl f_a0_rank)), (q_a0_orderNext, .inl (K 0, 2250, .inl f_a0_orderNext)), (q_a0_rankNext, .inl (K 0, 2250, .inl f_a0_rankNext)), (q_a3, .inl (K 0, n_a3, .inl f_a3))] (fun (x : (Nat × Nat × Nat × Nat)) => [(q_a0, .inr (10, [.ref x.1, .ref x.2.2.1, .ref x.2.1, .ref x.2.2.2, .ref q_a0_slots, .int out.2.2.2.1])), (q_a0_slots, .inl (K 0, 2250, .inl out.2.1)), (q_a1, .inl (K 0, n_a1, .inl f_a1)), (x.1, .inl (K 0, 2250, .inl out.2.2.1)), (x.2.1, .inl (K 0, 2250, .inl out.2.2.2.2.1)), (x.2.2.1, .inl (K 0, 2250, .inl out.2.2.2.2.2.1)), (x.2.2.2, .inl (K 0, 2250, .inl out.2.2.2.2.2.2.1)), (q_a3, .inl (K 0, n_a3, .inl out.2.2.2.2.2.2.2))]) out.1 := mk_i (by decide) (Nat.le_of_ble_eq_true rfl) (fun p e s m below meth c A Q hC kr => m_Rotations_rotate hC q_a0 q_a0_order q_a0_orderNext q_a0_rank q_a0_rankNext q_a0_slots x_a0_ranks f_a0_slots q_a1 n_a1 f_a1 f_a0_order f_a0_rank f_a0_orderNext f_a0_rankNext q_a3 n_a3 f_a3 p2 out hf (fun x o9 pc lv ho => by subst ho; exact kr x pc lv))
abbrev b_BitReader_begin : ByteArray := prog_2_method_2_code
def y_BitReader_begin : MethodName := ⟨R_BitReader, "begin", "()V"⟩
theorem d_BitReader_begin_0 : decode b_BitReader_begin 0 = .ok (.aload_n 0, 1) := by decide +kernel
theorem d_BitReader_begin_1 : decode b_BitReader_begin 1 = .ok (.bipush 8, 2) := by decide +kernel
theorem d_BitReader_begin_3 : decode b_BitReader_begin 3 = .ok (.aload_n 0, 1) := by decide +kernel
theorem d_BitReader_begin_4 : decode b_BitReader_begin 4 = .ok (.getfield 9, 3) := by decide +kernel
theorem d_BitReader_begin_7 : decode b_BitReader_begin 7 = .ok (.getfield 31, 3) := by decide +kernel
theorem d_BitReader_begin_10 : decode b_BitReader_begin 10 = .ok (.imul, 1) := by decide +kernel
theorem d_BitReader_begin_11 : decode b_BitReader_begin 11 = .ok (.putfield 15, 3) := by decide +kernel
theorem d_BitReader_begin_14 : decode b_BitReader_begin 14 = .ok (.aload_n 0, 1) := by decide +kernel
theorem d_BitReader_begin_15 : decode b_BitReader_begin 15 = .ok (.iconst 0, 1) := by decide +kernel
theorem d_BitReader_begin_16 : decode b_BitReader_begin 16 = .ok (.putfield 19, 3) := by decide +kernel
theorem d_BitReader_begin_19 : decode b_BitReader_begin 19 = .ok (.aload_n 0, 1) := by decide +kernel
theorem d_BitReader_begin_20 : decode b_BitReader_begin 20 = .ok (.iconst 0, 1) := by decide +kernel
theorem d_BitReader_begin_21 : decode b_BitReader_begin 21 = .ok (.putfield 22, 3) := by decide +kernel
theorem d_BitReader_begin_24 : decode b_BitReader_begin 24 = .ok (.aload_n 0, 1) := by decide +kernel
theorem d_BitReader_begin_25 : decode b_BitReader_begin 25 = .ok (.iconst 0, 1) := by decide +kernel
theorem d_BitReader_begin_26 : decode b_BitReader_begin 26 = .ok (.putfield 25, 3) := by decide +kernel
theorem d_BitReader_begin_29 : decode b_BitReader_begin 29 = .ok (.aload_n 0, 1) := by decide +kernel
theorem d_BitReader_begin_30 : decode b_BitReader_begin 30 = .ok (.iconst (-1), 1) := by decide +kernel
theorem d_BitReader_begin_31 : decode b_BitReader_begin 31 = .ok (.putfield 28, 3) := by decide +kernel
theorem d_BitReader_begin_34 : decode b_BitReader_begin 34 = .ok (.return_, 1) := by decide +kernel
theorem k327 : (Jvm.Cond.fieldLink "RotationPress$BitReader" (9 : Nat) "RotationPress$BitReader" "row" "LRotationPress$ByteRow;") ∈ g_tbl := List.mem_filter.mpr ⟨List.mem_append_right (k2_sels lw_privs) (List.mem_append_right _ (List.mem_append_left _ (List.mem_of_getElem? (l := tables_1_2) (i := 87) rfl))), rfl⟩
theorem k52 : (Jvm.Cond.fieldLink "RotationPress$BitReader" (31 : Nat) "RotationPress$ByteRow" "count" "I") ∈ g_tbl := List.mem_filter.mpr ⟨List.mem_append_right (k2_sels lw_privs) (List.mem_append_left _ (List.mem_of_getElem? (l := tables_1_1) (i := 52) rfl)), rfl⟩
theorem k328 : (Jvm.Cond.fieldLink "RotationPress$BitReader" (15 : Nat) "RotationPress$BitReader" "end" "I") ∈ g_tbl := List.mem_filter.mpr ⟨List.mem_append_right (k2_sels lw_privs) (List.mem_append_right _ (List.mem_append_left _ (List.mem_of_getElem? (l := tables_1_2) (i := 88) rfl))), rfl⟩
theorem k330 : (Jvm.Cond.fieldLink "RotationPress$BitReader" (19 : Nat) "RotationPress$BitReader" "at" "I") ∈ g_tbl := List.mem_filter.mpr ⟨List.mem_append_right (k2_sels lw_privs) (List.mem_append_right _ (List.mem_append_left _ (List.mem_of_getElem? (l := tables_1_2) (i := 90) rfl))), rfl⟩
theorem k333 : (Jvm.Cond.fieldLink "RotationPress$BitReader" (22 : Nat) "RotationPress$BitReader" "taken" "I") ∈ g_tbl := List.mem_filter.mpr ⟨List.mem_append_right (k2_sels lw_privs) (List.mem_append_right _ (List.mem_append_left _ (List.mem_of_getElem? (l := tables_1_2) (i := 93) rfl))), rfl⟩
theorem k335 : (Jvm.Cond.fieldLink "RotationPress$BitReader" (25 : Nat) "RotationPress$BitReader" "fault" "I") ∈ g_tbl := List.mem_filter.mpr ⟨List.mem_append_right (k2_sels lw_privs) (List.mem_append_right _ (List.mem_append_left _ (List.mem_of_getElem? (l := tables_1_2) (i := 95) rfl))), rfl⟩
theorem k337 : (Jvm.Cond.fieldLink "RotationPress$BitReader" (28 : Nat) "RotationPress$BitReader" "faultAt" "I") ∈ g_tbl := List.mem_filter.mpr ⟨List.mem_append_right (k2_sels lw_privs) (List.mem_append_right _ (List.mem_append_left _ (List.mem_of_getElem? (l := tables_1_2) (i := 97) rfl))), rfl⟩
set_option maxRecDepth 100000 in
set_option maxHeartbeats 4000000 in
theorem m_BitReader_begin {C : gT} (hC : gOk C b_BitReader_begin R_BitReader { frames := 0, cells := 0, slots := 0, locals := 0 } 1) (q_a0 : Nat) (q_a0_row : Nat) (x_a0_end : Int32) (x_a0_at : Int32) (x_a0_taken : Int32) (x_a0_fault : Int32) (x_a0_faultAt : Int32) (r_a0_row_bytes : Nat) (x_a0_row_count : Int32) (out : (Int32 × Int32 × Int32 × Int32 × Int32)) (hf : BitReader_begin_f x_a0_row_count = some out) (kr : ∀ (x : Unit) (o9 : (Int32 × Int32 × Int32 × Int32 × Int32)) (pc : Nat) (lv : List (Nat × Value)), o9 = out → decode b_BitReader_begin pc = .ok (.return_, 1) → gAt C 0 0 [(q_a0, .inr (1, [.ref q_a0_row, .int o9.1, .int o9.2.1, .int o9.2.2.1, .int o9.2.2.2.1, .int o9.2.2.2.2])), (q_a0_row, .inr (4, [.ref r_a0_row_bytes, .int x_a0_row_count]))] lv pc []) : gAt C 0 0 [(q_a0, .inr (1, [.ref q_a0_row, .int x_a0_end, .int x_a0_at, .int x_a0_taken, .int x_a0_fault, .int x_a0_faultAt])), (q_a0_row, .inr (4, [.ref r_a0_row_bytes, .int x_a0_row_count]))] [(0, .ref q_a0)] 0 [] := by
  unfold BitReader_begin_f at hf
  refine g_aload_n 0 hC (j := 0) (hj := rfl) (hd := d_BitReader_begin_0) ?_
  refine g_bipush 1 hC (8 : Int32) (by decide) d_BitReader_begin_1 ?_
  refine g_aload_n 3 hC (j := 0) (hj := rfl) (hd := d_BitReader_begin_3) ?_
  refine g_get 4 hC i_BitReader rfl 0 rfl 0 (by decide) k327 rfl d_BitReader_begin_4 ?_
  refine g_get 7 hC i_ByteRow rfl 1 rfl 1 (by decide) k52 rfl d_BitReader_begin_7 ?_
  refine g_imul 10 hC d_BitReader_begin_10 ?_
  refine g_put 11 hC i_BitReader rfl 0 rfl 1 (by decide) t_BitReader tk_BitReader n_BitReader k328 rfl rfl rfl (Nat.le_of_ble_eq_true rfl) [(q_a0, .inr (1, [.ref q_a0_row, .int ((8 : Int32) * x_a0_row_count), .int x_a0_at, .int x_a0_taken, .int x_a0_fault, .int x_a0_faultAt])), (q_a0_row, .inr (4, [.ref r_a0_row_bytes, .int x_a0_row_count]))] rfl d_BitReader_begin_11 ?_
  refine g_aload_n 14 hC (j := 0) (hj := rfl) (hd := d_BitReader_begin_14) ?_
  refine g_iconst 15 hC (0 : Int32) (by decide) d_BitReader_begin_15 ?_
  refine g_put 16 hC i_BitReader rfl 0 rfl 2 (by decide) t_BitReader tk_BitReader n_BitReader k330 rfl rfl rfl (Nat.le_of_ble_eq_true rfl) [(q_a0, .inr (1, [.ref q_a0_row, .int ((8 : Int32) * x_a0_row_count), .int (0 : Int32), .int x_a0_taken, .int x_a0_fault, .int x_a0_faultAt])), (q_a0_row, .inr (4, [.ref r_a0_row_bytes, .int x_a0_row_count]))] rfl d_BitReader_begin_16 ?_
  refine g_aload_n 19 hC (j := 0) (hj := rfl) (hd := d_BitReader_begin_19) ?_
  refine g_iconst 20 hC (0 : Int32) (by decide) d_BitReader_begin_20 ?_
  refine g_put 21 hC i_BitReader rfl 0 rfl 3 (by decide) t_BitReader tk_BitReader n_BitReader k333 rfl rfl rfl (Nat.le_of_ble_eq_true rfl) [(q_a0, .inr (1, [.ref q_a0_row, .int ((8 : Int32) * x_a0_row_count), .int (0 : Int32), .int (0 : Int32), .int x_a0_fault, .int x_a0_faultAt])), (q_a0_row, .inr (4, [.ref r_a0_row_bytes, .int x_a0_row_count]))] rfl d_BitReader_begin_21 ?_
  refine g_aload_n 24 hC (j := 0) (hj := rfl) (hd := d_BitReader_begin_24) ?_
  refine g_iconst 25 hC (0 : Int32) (by decide) d_BitReader_begin_25 ?_
  refine g_put 26 hC i_BitReader rfl 0 rfl 4 (by decide) t_BitReader tk_BitReader n_BitReader k335 rfl rfl rfl (Nat.le_of_ble_eq_true rfl) [(q_a0, .inr (1, [.ref q_a0_row, .int ((8 : Int32) * x_a0_row_count), .int (0 : Int32), .int (0 : Int32), .int (0 : Int32), .int x_a0_faultAt])), (q_a0_row, .inr (4, [.ref r_a0_row_bytes, .int x_a0_row_count]))] rfl d_BitReader_begin_26 ?_
  refine g_aload_n 29 hC (j := 0) (hj := rfl) (hd := d_BitReader_begin_29) ?_
  refine g_iconst 30 hC (-1 : Int32) (by decide) d_BitReader_begin_30 ?_
  refine g_put 31 hC i_BitReader rfl 0 rfl 5 (by decide) t_BitReader tk_BitReader n_BitReader k337 rfl rfl rfl (Nat.le_of_ble_eq_true rfl) [(q_a0, .inr (1, [.ref q_a0_row, .int ((8 : Int32) * x_a0_row_count), .int (0 : Int32), .int (0 : Int32), .int (0 : Int32), .int (-1 : Int32)])), (q_a0_row, .inr (4, [.ref r_a0_row_bytes, .int x_a0_row_count]))] rfl d_BitReader_begin_31 ?_
  exact g_re [0, 1] [] rfl rfl rfl (kr () (((8 : Int32) * x_a0_row_count), (0 : Int32), (0 : Int32), (0 : Int32), (-1 : Int32)) 34 [] (Option.some.inj hf) d_BitReader_begin_34)
theorem c_BitReader_begin (l : Launch) (D : va_G) (K : Nat → ClassId) (q_a0 : Nat) (q_a0_row : Nat) (x_a0_end : Int32) (x_a0_at : Int32) (x_a0_taken : Int32) (x_a0_fault : Int32) (x_a0_faultAt : Int32) (r_a0_row_bytes : Nat) (x_a0_row_count : Int32) (out : (Int32 × Int32 × Int32 × Int32 × Int32)) (hf : BitReader_begin_f x_a0_row_count = some out) : Cv l D K y_BitReader_begin (g_wd y_BitReader_begin b_BitReader_begin 1 none) { frames := 0, cells := 0, slots := 0, locals := 0 } [.ref q_a0] [(q_a0, .inr (1, [.ref q_a0_row, .int x_a0_end, .int x_a0_at, .int x_a0_taken, .int x_a0_fault, .int x_a0_faultAt])), (q_a0_row, .inr (4, [.ref r_a0_row_bytes, .int x_a0_row_count]))] (fun (x : Unit) => [(q_a0, .inr (1, [.ref q_a0_row, .int out.1, .int out.2.1, .int out.2.2.1, .int out.2.2.2.1, .int out.2.2.2.2])), (q_a0_row, .inr (4, [.ref r_a0_row_bytes, .int x_a0_row_count]))]) := mk_v (by decide) (Nat.le_of_ble_eq_true rfl) (fun p e s m below meth c A Q hC kr => m_BitReader_begin hC q_a0 q_a0_row x_a0_end x_a0_at x_a0_taken x_a0_fault x_a0_faultAt r_a0_row_bytes x_a0_row_count out hf (fun x o9 pc lv ho => by subst ho; exact kr x pc lv))
abbrev b_BitReader_fail : ByteArray := prog_2_method_3_code
def y_BitReader_fail : MethodName := ⟨R_BitReader, "fail", "(II)Z"⟩
theorem d_BitReader_fail_0 : decode b_BitReader_fail 0 = .ok (.aload_n 0, 1) := by decide +kernel
theorem d_BitReader_fail_1 : decode b_BitReader_fail 1 = .ok (.iload_n 1, 1) := by decide +kernel
theorem d_BitReader_fail_2 : decode b_BitReader_fail 2 = .ok (.putfield 25, 3) := by decide +kernel
theorem d_BitReader_fail_5 : decode b_BitReader_fail 5 = .ok (.aload_n 0, 1) := by decide +kernel
theorem d_BitReader_fail_6 : decode b_BitReader_fail 6 = .ok (.iload_n 2, 1) := by decide +kernel
theorem d_BitReader_fail_7 : decode b_BitReader_fail 7 = .ok (.putfield 28, 3) := by decide +kernel
theorem d_BitReader_fail_10 : decode b_BitReader_fail 10 = .ok (.iconst 0, 1) := by decide +kernel
theorem d_BitReader_fail_11 : decode b_BitReader_fail 11 = .ok (.ireturn, 1) := by decide +kernel
set_option maxRecDepth 100000 in
set_option maxHeartbeats 4000000 in
theorem m_BitReader_fail {C : gT} (hC : gOk C b_BitReader_fail R_BitReader { frames := 0, cells := 0, slots := 0, locals := 0 } 3) (q_a0 : Nat) (r_a0_row : Nat) (x_a0_end : Int32) (x_a0_at : Int32) (x_a0_taken : Int32) (x_a0_fault : Int32) (x_a0_faultAt : Int32) (p1 : Int32) (p2 : Int32) (out : (Int32 × Int32 × Int32)) (hf : BitReader_fail_f p1 p2 = some out) (kr : ∀ (x : Unit) (o9 : (Int32 × Int32 × Int32)) (pc : Nat) (lv : List (Nat × Value)), o9 = out → decode b_BitReader_fail pc = .ok (.ireturn, 1) → narrow .boolean (.int o9.1) = .int o9.1 → gAt C 0 0 [(q_a0, .inr (1, [.ref r_a0_row, .int x_a0_end, .int x_a0_at, .int x_a0_taken, .int o9.2.1, .int o9.2.2]))] lv pc [.int o9.1]) : gAt C 0 0 [(q_a0, .inr (1, [.ref r_a0_row, .int x_a0_end, .int x_a0_at, .int x_a0_taken, .int x_a0_fault, .int x_a0_faultAt]))] [(0, .ref q_a0), (1, .int p1), (2, .int p2)] 0 [] := by
  unfold BitReader_fail_f at hf
  refine g_aload_n 0 hC (j := 0) (hj := rfl) (hd := d_BitReader_fail_0) ?_
  refine g_iload_n 1 hC (j := 1) (hj := rfl) (hd := d_BitReader_fail_1) ?_
  refine g_put 2 hC i_BitReader rfl 0 rfl 4 (by decide) t_BitReader tk_BitReader n_BitReader k335 rfl rfl rfl (Nat.le_of_ble_eq_true rfl) [(q_a0, .inr (1, [.ref r_a0_row, .int x_a0_end, .int x_a0_at, .int x_a0_taken, .int p1, .int x_a0_faultAt]))] rfl d_BitReader_fail_2 ?_
  refine g_aload_n 5 hC (j := 0) (hj := rfl) (hd := d_BitReader_fail_5) ?_
  refine g_iload_n 6 hC (j := 2) (hj := rfl) (hd := d_BitReader_fail_6) ?_
  refine g_put 7 hC i_BitReader rfl 0 rfl 5 (by decide) t_BitReader tk_BitReader n_BitReader k337 rfl rfl rfl (Nat.le_of_ble_eq_true rfl) [(q_a0, .inr (1, [.ref r_a0_row, .int x_a0_end, .int x_a0_at, .int x_a0_taken, .int p1, .int p2]))] rfl d_BitReader_fail_7 ?_
  refine g_iconst 10 hC (0 : Int32) (by decide) d_BitReader_fail_10 ?_
  exact g_re [0] [] rfl rfl rfl (kr () ((0 : Int32), p1, p2) 11 [] (Option.some.inj hf) d_BitReader_fail_11 (bl_nar (x := (0 : Int32)) (by decide)))
theorem c_BitReader_fail (l : Launch) (D : va_G) (K : Nat → ClassId) (q_a0 : Nat) (r_a0_row : Nat) (x_a0_end : Int32) (x_a0_at : Int32) (x_a0_taken : Int32) (x_a0_fault : Int32) (x_a0_faultAt : Int32) (p1 : Int32) (p2 : Int32) (out : (Int32 × Int32 × Int32)) (hf : BitReader_fail_f p1 p2 = some out) : Ci l D K y_BitReader_fail (g_wd y_BitReader_fail b_BitReader_fail 3 (some .boolean)) { frames := 0, cells := 0, slots := 0, locals := 0 } [.ref q_a0, .int p1, .int p2] [(q_a0, .inr (1, [.ref r_a0_row, .int x_a0_end, .int x_a0_at, .int x_a0_taken, .int x_a0_fault, .int x_a0_faultAt]))] (fun (x : Unit) => [(q_a0, .inr (1, [.ref r_a0_row, .int x_a0_end, .int x_a0_at, .int x_a0_taken, .int out.2.1, .int out.2.2]))]) out.1 := mk_i (by decide) (Nat.le_of_ble_eq_true rfl) (fun p e s m below meth c A Q hC kr => m_BitReader_fail hC q_a0 r_a0_row x_a0_end x_a0_at x_a0_taken x_a0_fault x_a0_faultAt p1 p2 out hf (fun x o9 pc lv ho => by subst ho; exact kr x pc lv))
