abbrev b_Coder_sortByWeight : ByteArray := prog_8_method_10_code
def y_Coder_sortByWeight : MethodName := ⟨R_Coder, "sortByWeight", "(I)V"⟩
theorem d_Coder_sortByWeight_0 : decode b_Coder_sortByWeight 0 = .ok (.iconst 0, 1) := by decide +kernel
theorem d_Coder_sortByWeight_1 : decode b_Coder_sortByWeight 1 = .ok (.istore_n 2, 1) := by decide +kernel
theorem d_Coder_sortByWeight_2 : decode b_Coder_sortByWeight 2 = .ok (.iconst 0, 1) := by decide +kernel
theorem d_Coder_sortByWeight_3 : decode b_Coder_sortByWeight 3 = .ok (.istore_n 3, 1) := by decide +kernel
theorem d_Coder_sortByWeight_4 : decode b_Coder_sortByWeight 4 = .ok (.iload_n 3, 1) := by decide +kernel
theorem d_Coder_sortByWeight_5 : decode b_Coder_sortByWeight 5 = .ok (.iload_n 1, 1) := by decide +kernel
theorem d_Coder_sortByWeight_6 : decode b_Coder_sortByWeight 6 = .ok (.if_icmp .ge 20, 3) := by decide +kernel
theorem d_Coder_sortByWeight_9 : decode b_Coder_sortByWeight 9 = .ok (.iload_n 2, 1) := by decide +kernel
theorem d_Coder_sortByWeight_10 : decode b_Coder_sortByWeight 10 = .ok (.aload_n 0, 1) := by decide +kernel
theorem d_Coder_sortByWeight_11 : decode b_Coder_sortByWeight 11 = .ok (.getfield 9, 3) := by decide +kernel
theorem d_Coder_sortByWeight_14 : decode b_Coder_sortByWeight 14 = .ok (.iload_n 3, 1) := by decide +kernel
theorem d_Coder_sortByWeight_15 : decode b_Coder_sortByWeight 15 = .ok (.iaload, 1) := by decide +kernel
theorem d_Coder_sortByWeight_16 : decode b_Coder_sortByWeight 16 = .ok (.invokestatic 120, 3) := by decide +kernel
theorem d_Coder_sortByWeight_19 : decode b_Coder_sortByWeight 19 = .ok (.istore_n 2, 1) := by decide +kernel
theorem d_Coder_sortByWeight_20 : decode b_Coder_sortByWeight 20 = .ok (.iinc 3 1, 3) := by decide +kernel
theorem d_Coder_sortByWeight_23 : decode b_Coder_sortByWeight 23 = .ok (.goto (-19), 3) := by decide +kernel
theorem d_Coder_sortByWeight_26 : decode b_Coder_sortByWeight 26 = .ok (.aload_n 0, 1) := by decide +kernel
theorem d_Coder_sortByWeight_27 : decode b_Coder_sortByWeight 27 = .ok (.getfield 24, 3) := by decide +kernel
theorem d_Coder_sortByWeight_30 : decode b_Coder_sortByWeight 30 = .ok (.iconst 0, 1) := by decide +kernel
theorem d_Coder_sortByWeight_31 : decode b_Coder_sortByWeight 31 = .ok (.iload_n 2, 1) := by decide +kernel
theorem d_Coder_sortByWeight_32 : decode b_Coder_sortByWeight 32 = .ok (.iconst 2, 1) := by decide +kernel
theorem d_Coder_sortByWeight_33 : decode b_Coder_sortByWeight 33 = .ok (.iadd, 1) := by decide +kernel
theorem d_Coder_sortByWeight_34 : decode b_Coder_sortByWeight 34 = .ok (.iconst 0, 1) := by decide +kernel
theorem d_Coder_sortByWeight_35 : decode b_Coder_sortByWeight 35 = .ok (.invokestatic 89, 3) := by decide +kernel
theorem d_Coder_sortByWeight_38 : decode b_Coder_sortByWeight 38 = .ok (.iconst 0, 1) := by decide +kernel
theorem d_Coder_sortByWeight_39 : decode b_Coder_sortByWeight 39 = .ok (.istore_n 3, 1) := by decide +kernel
theorem d_Coder_sortByWeight_40 : decode b_Coder_sortByWeight 40 = .ok (.iload_n 3, 1) := by decide +kernel
theorem d_Coder_sortByWeight_41 : decode b_Coder_sortByWeight 41 = .ok (.iload_n 1, 1) := by decide +kernel
theorem d_Coder_sortByWeight_42 : decode b_Coder_sortByWeight 42 = .ok (.if_icmp .ge 26, 3) := by decide +kernel
theorem d_Coder_sortByWeight_45 : decode b_Coder_sortByWeight 45 = .ok (.aload_n 0, 1) := by decide +kernel
theorem d_Coder_sortByWeight_46 : decode b_Coder_sortByWeight 46 = .ok (.getfield 24, 3) := by decide +kernel
theorem d_Coder_sortByWeight_49 : decode b_Coder_sortByWeight 49 = .ok (.aload_n 0, 1) := by decide +kernel
theorem d_Coder_sortByWeight_50 : decode b_Coder_sortByWeight 50 = .ok (.getfield 9, 3) := by decide +kernel
theorem d_Coder_sortByWeight_53 : decode b_Coder_sortByWeight 53 = .ok (.iload_n 3, 1) := by decide +kernel
theorem d_Coder_sortByWeight_54 : decode b_Coder_sortByWeight 54 = .ok (.iaload, 1) := by decide +kernel
theorem d_Coder_sortByWeight_55 : decode b_Coder_sortByWeight 55 = .ok (.iconst 1, 1) := by decide +kernel
theorem d_Coder_sortByWeight_56 : decode b_Coder_sortByWeight 56 = .ok (.iadd, 1) := by decide +kernel
theorem d_Coder_sortByWeight_57 : decode b_Coder_sortByWeight 57 = .ok (.dup2, 1) := by decide +kernel
theorem d_Coder_sortByWeight_58 : decode b_Coder_sortByWeight 58 = .ok (.iaload, 1) := by decide +kernel
theorem d_Coder_sortByWeight_59 : decode b_Coder_sortByWeight 59 = .ok (.iconst 1, 1) := by decide +kernel
theorem d_Coder_sortByWeight_60 : decode b_Coder_sortByWeight 60 = .ok (.iadd, 1) := by decide +kernel
theorem d_Coder_sortByWeight_61 : decode b_Coder_sortByWeight 61 = .ok (.iastore, 1) := by decide +kernel
theorem d_Coder_sortByWeight_62 : decode b_Coder_sortByWeight 62 = .ok (.iinc 3 1, 3) := by decide +kernel
theorem d_Coder_sortByWeight_65 : decode b_Coder_sortByWeight 65 = .ok (.goto (-25), 3) := by decide +kernel
theorem d_Coder_sortByWeight_68 : decode b_Coder_sortByWeight 68 = .ok (.iconst 1, 1) := by decide +kernel
theorem d_Coder_sortByWeight_69 : decode b_Coder_sortByWeight 69 = .ok (.istore_n 3, 1) := by decide +kernel
theorem d_Coder_sortByWeight_70 : decode b_Coder_sortByWeight 70 = .ok (.iload_n 3, 1) := by decide +kernel
theorem d_Coder_sortByWeight_71 : decode b_Coder_sortByWeight 71 = .ok (.iload_n 2, 1) := by decide +kernel
theorem d_Coder_sortByWeight_72 : decode b_Coder_sortByWeight 72 = .ok (.if_icmp .gt 26, 3) := by decide +kernel
theorem d_Coder_sortByWeight_75 : decode b_Coder_sortByWeight 75 = .ok (.aload_n 0, 1) := by decide +kernel
theorem d_Coder_sortByWeight_76 : decode b_Coder_sortByWeight 76 = .ok (.getfield 24, 3) := by decide +kernel
theorem d_Coder_sortByWeight_79 : decode b_Coder_sortByWeight 79 = .ok (.iload_n 3, 1) := by decide +kernel
theorem d_Coder_sortByWeight_80 : decode b_Coder_sortByWeight 80 = .ok (.dup2, 1) := by decide +kernel
theorem d_Coder_sortByWeight_81 : decode b_Coder_sortByWeight 81 = .ok (.iaload, 1) := by decide +kernel
theorem d_Coder_sortByWeight_82 : decode b_Coder_sortByWeight 82 = .ok (.aload_n 0, 1) := by decide +kernel
theorem d_Coder_sortByWeight_83 : decode b_Coder_sortByWeight 83 = .ok (.getfield 24, 3) := by decide +kernel
theorem d_Coder_sortByWeight_86 : decode b_Coder_sortByWeight 86 = .ok (.iload_n 3, 1) := by decide +kernel
theorem d_Coder_sortByWeight_87 : decode b_Coder_sortByWeight 87 = .ok (.iconst 1, 1) := by decide +kernel
theorem d_Coder_sortByWeight_88 : decode b_Coder_sortByWeight 88 = .ok (.isub, 1) := by decide +kernel
theorem d_Coder_sortByWeight_89 : decode b_Coder_sortByWeight 89 = .ok (.iaload, 1) := by decide +kernel
theorem d_Coder_sortByWeight_90 : decode b_Coder_sortByWeight 90 = .ok (.iadd, 1) := by decide +kernel
theorem d_Coder_sortByWeight_91 : decode b_Coder_sortByWeight 91 = .ok (.iastore, 1) := by decide +kernel
theorem d_Coder_sortByWeight_92 : decode b_Coder_sortByWeight 92 = .ok (.iinc 3 1, 3) := by decide +kernel
theorem d_Coder_sortByWeight_95 : decode b_Coder_sortByWeight 95 = .ok (.goto (-25), 3) := by decide +kernel
theorem d_Coder_sortByWeight_98 : decode b_Coder_sortByWeight 98 = .ok (.iconst 0, 1) := by decide +kernel
theorem d_Coder_sortByWeight_99 : decode b_Coder_sortByWeight 99 = .ok (.istore_n 3, 1) := by decide +kernel
theorem d_Coder_sortByWeight_100 : decode b_Coder_sortByWeight 100 = .ok (.iload_n 3, 1) := by decide +kernel
theorem d_Coder_sortByWeight_101 : decode b_Coder_sortByWeight 101 = .ok (.iload_n 1, 1) := by decide +kernel
theorem d_Coder_sortByWeight_102 : decode b_Coder_sortByWeight 102 = .ok (.if_icmp .ge 41, 3) := by decide +kernel
theorem d_Coder_sortByWeight_105 : decode b_Coder_sortByWeight 105 = .ok (.aload_n 0, 1) := by decide +kernel
theorem d_Coder_sortByWeight_106 : decode b_Coder_sortByWeight 106 = .ok (.getfield 21, 3) := by decide +kernel
theorem d_Coder_sortByWeight_109 : decode b_Coder_sortByWeight 109 = .ok (.aload_n 0, 1) := by decide +kernel
theorem d_Coder_sortByWeight_110 : decode b_Coder_sortByWeight 110 = .ok (.getfield 24, 3) := by decide +kernel
theorem d_Coder_sortByWeight_113 : decode b_Coder_sortByWeight 113 = .ok (.aload_n 0, 1) := by decide +kernel
theorem d_Coder_sortByWeight_114 : decode b_Coder_sortByWeight 114 = .ok (.getfield 9, 3) := by decide +kernel
theorem d_Coder_sortByWeight_117 : decode b_Coder_sortByWeight 117 = .ok (.iload_n 3, 1) := by decide +kernel
theorem d_Coder_sortByWeight_118 : decode b_Coder_sortByWeight 118 = .ok (.iaload, 1) := by decide +kernel
theorem d_Coder_sortByWeight_119 : decode b_Coder_sortByWeight 119 = .ok (.iaload, 1) := by decide +kernel
theorem d_Coder_sortByWeight_120 : decode b_Coder_sortByWeight 120 = .ok (.iload_n 3, 1) := by decide +kernel
theorem d_Coder_sortByWeight_121 : decode b_Coder_sortByWeight 121 = .ok (.iastore, 1) := by decide +kernel
theorem d_Coder_sortByWeight_122 : decode b_Coder_sortByWeight 122 = .ok (.aload_n 0, 1) := by decide +kernel
theorem d_Coder_sortByWeight_123 : decode b_Coder_sortByWeight 123 = .ok (.getfield 24, 3) := by decide +kernel
theorem d_Coder_sortByWeight_126 : decode b_Coder_sortByWeight 126 = .ok (.aload_n 0, 1) := by decide +kernel
theorem d_Coder_sortByWeight_127 : decode b_Coder_sortByWeight 127 = .ok (.getfield 9, 3) := by decide +kernel
theorem d_Coder_sortByWeight_130 : decode b_Coder_sortByWeight 130 = .ok (.iload_n 3, 1) := by decide +kernel
theorem d_Coder_sortByWeight_131 : decode b_Coder_sortByWeight 131 = .ok (.iaload, 1) := by decide +kernel
theorem d_Coder_sortByWeight_132 : decode b_Coder_sortByWeight 132 = .ok (.dup2, 1) := by decide +kernel
theorem d_Coder_sortByWeight_133 : decode b_Coder_sortByWeight 133 = .ok (.iaload, 1) := by decide +kernel
theorem d_Coder_sortByWeight_134 : decode b_Coder_sortByWeight 134 = .ok (.iconst 1, 1) := by decide +kernel
theorem d_Coder_sortByWeight_135 : decode b_Coder_sortByWeight 135 = .ok (.iadd, 1) := by decide +kernel
theorem d_Coder_sortByWeight_136 : decode b_Coder_sortByWeight 136 = .ok (.iastore, 1) := by decide +kernel
theorem d_Coder_sortByWeight_137 : decode b_Coder_sortByWeight 137 = .ok (.iinc 3 1, 3) := by decide +kernel
theorem d_Coder_sortByWeight_140 : decode b_Coder_sortByWeight 140 = .ok (.goto (-40), 3) := by decide +kernel
theorem d_Coder_sortByWeight_143 : decode b_Coder_sortByWeight 143 = .ok (.return_, 1) := by decide +kernel
theorem k249 : (Jvm.Cond.fieldLink "RotationPress$Coder" (24 : Nat) "RotationPress$Coder" "slots" "[I") ∈ g_tbl := List.mem_filter.mpr ⟨List.mem_append_right (k2_sels lw_privs) (List.mem_append_right _ (List.mem_append_left _ (List.mem_of_getElem? (l := tables_1_2) (i := 9) rfl))), rfl⟩
theorem k248 : (Jvm.Cond.fieldLink "RotationPress$Coder" (21 : Nat) "RotationPress$Coder" "sorted" "[I") ∈ g_tbl := List.mem_filter.mpr ⟨List.mem_append_right (k2_sels lw_privs) (List.mem_append_right _ (List.mem_append_left _ (List.mem_of_getElem? (l := tables_1_2) (i := 8) rfl))), rfl⟩
theorem k1008 : (Jvm.Cond.methodLink "RotationPress$Coder" (120 : Nat) ({ cls := "java/lang/Math", name := "max", desc := "(II)I" } : Jvm.MethodName)) ∈ g_tbl := List.mem_filter.mpr ⟨List.mem_append_right (k2_sels lw_privs) (List.mem_append_right _ (List.mem_append_right _ (List.mem_append_right _ (List.mem_append_right _ (List.mem_append_left _ (List.mem_of_getElem? (l := tables_1_5) (i := 48) rfl)))))), rfl⟩
theorem k47 : (Jvm.Cond.static ({ cls := "java/lang/Math", name := "max", desc := "(II)I" } : Jvm.MethodName)) ∈ g_tbl := List.mem_filter.mpr ⟨List.mem_append_right (k2_sels lw_privs) (List.mem_append_left _ (List.mem_of_getElem? (l := tables_1_1) (i := 47) rfl)), rfl⟩
theorem k48 : (Jvm.Cond.code ({ cls := "java/lang/Math", name := "max", desc := "(II)I" } : Jvm.MethodName) prog_23_method_65_code (2 : Nat) (Option.some Jvm.ClassFile.FieldType.int)) ∈ g_tbl := List.mem_filter.mpr ⟨List.mem_append_right (k2_sels lw_privs) (List.mem_append_left _ (List.mem_of_getElem? (l := tables_1_1) (i := 48) rfl)), rfl⟩
set_option maxRecDepth 100000 in
set_option maxHeartbeats 4000000 in
theorem m_Coder_sortByWeight {C : gT} (hC : gOk C b_Coder_sortByWeight R_Coder { frames := 2, cells := 0, slots := 0, locals := 46 } 4) (q_a0 : Nat) (q_a0_weights : Nat) (r_a0_sums : Nat) (r_a0_depths : Nat) (q_a0_sorted : Nat) (q_a0_slots : Nat) (f_a0_weights : (Nat → Int32)) (f_a0_slots : (Nat → Int32)) (f_a0_sorted : (Nat → Int32)) (p1 : Int32) (out : ((Nat → Int32) × (Nat → Int32))) (hf : Coder_sortByWeight_f p1 f_a0_weights f_a0_slots f_a0_sorted = some out) (kr : ∀ (x : Unit) (o9 : ((Nat → Int32) × (Nat → Int32))) (pc : Nat) (lv : List (Nat × Value)), o9 = out → decode b_Coder_sortByWeight pc = .ok (.return_, 1) → gAt C 0 0 [(q_a0, .inr (7, [.ref q_a0_weights, .ref r_a0_sums, .ref r_a0_depths, .ref q_a0_sorted, .ref q_a0_slots])), (q_a0_weights, .inl (g_K C 0, 516, .inl f_a0_weights)), (q_a0_slots, .inl (g_K C 0, 2254, .inl o9.1)), (q_a0_sorted, .inl (g_K C 0, 258, .inl o9.2))] lv pc []) : gAt C 0 0 [(q_a0, .inr (7, [.ref q_a0_weights, .ref r_a0_sums, .ref r_a0_depths, .ref q_a0_sorted, .ref q_a0_slots])), (q_a0_weights, .inl (g_K C 0, 516, .inl f_a0_weights)), (q_a0_slots, .inl (g_K C 0, 2254, .inl f_a0_slots)), (q_a0_sorted, .inl (g_K C 0, 258, .inl f_a0_sorted))] [(0, .ref q_a0), (1, .int p1)] 0 [] := by
  unfold Coder_sortByWeight_f at hf
  refine g_iconst 0 hC (0 : Int32) (by decide) d_Coder_sortByWeight_0 ?_
  refine g_istore_n 1 hC (lv2 := [(2, .int (0 : Int32)), (0, .ref q_a0), (1, .int p1)]) (hn := (by decide)) (hl2 := rfl) (hd := d_Coder_sortByWeight_1) ?_
  refine g_iconst 2 hC (0 : Int32) (by decide) d_Coder_sortByWeight_2 ?_
  refine g_istore_n 3 hC (lv2 := [(3, .int (0 : Int32)), (2, .int (0 : Int32)), (0, .ref q_a0), (1, .int p1)]) (hn := (by decide)) (hl2 := rfl) (hd := d_Coder_sortByWeight_3) ?_
  obtain ⟨u2, hu2, hf⟩ := bd_some hf
  have Xu2_0 : ∀ (v3 : Int32), v3 = u2 → gAt C 0 0 [(q_a0, .inr (7, [.ref q_a0_weights, .ref r_a0_sums, .ref r_a0_depths, .ref q_a0_sorted, .ref q_a0_slots])), (q_a0_weights, .inl (g_K C 0, 516, .inl f_a0_weights)), (q_a0_slots, .inl (g_K C 0, 2254, .inl f_a0_slots)), (q_a0_sorted, .inl (g_K C 0, 258, .inl f_a0_sorted))] [(0, .ref q_a0), (1, .int p1), (2, .int v3)] 26 [] := by
    intro v3 hv
    rw [← hv] at hf
    refine g_aload_n 26 hC (j := 0) (hj := rfl) (hd := d_Coder_sortByWeight_26) ?_
    refine g_get 27 hC i_Coder rfl 0 rfl 4 (by decide) k249 rfl d_Coder_sortByWeight_27 ?_
    refine g_iconst 30 hC (0 : Int32) (by decide) d_Coder_sortByWeight_30 ?_
    refine g_iload_n 31 hC (j := 2) (hj := rfl) (hd := d_Coder_sortByWeight_31) ?_
    refine g_iconst 32 hC (2 : Int32) (by decide) d_Coder_sortByWeight_32 ?_
    refine g_iadd 33 hC d_Coder_sortByWeight_33 ?_
    refine g_iconst 34 hC (0 : Int32) (by decide) d_Coder_sortByWeight_34 ?_
    obtain ⟨u4, hu4, hf⟩ := bd_some hf
    refine g_callSv 35 hC (c_Arrays_fill1 (g_l C) (g_D C) (g_K C) q_a0_slots 2254 f_a0_slots (0 : Int32) (v3 + (2 : Int32)) (0 : Int32) u4 hu4) k677 k19 k991 k676 4 rfl (by decide +kernel) (by decide) [2] [0, 1, 3] [(q_a0, .inr (7, [.ref q_a0_weights, .ref r_a0_sums, .ref r_a0_depths, .ref q_a0_sorted, .ref q_a0_slots])), (q_a0_weights, .inl (g_K C 0, 516, .inl f_a0_weights)), (q_a0_sorted, .inl (g_K C 0, 258, .inl f_a0_sorted))] rfl rfl rfl rfl rfl rfl (Nat.le_of_ble_eq_true rfl) ⟨Nat.le_of_ble_eq_true rfl, Nat.le_of_ble_eq_true rfl⟩ (fun (_ : Unit) => [(q_a0, .inr (7, [.ref q_a0_weights, .ref r_a0_sums, .ref r_a0_depths, .ref q_a0_sorted, .ref q_a0_slots])), (q_a0_weights, .inl (g_K C 0, 516, .inl f_a0_weights)), (q_a0_sorted, .inl (g_K C 0, 258, .inl f_a0_sorted)), (q_a0_slots, .inl (g_K C 0, 2254, .inl u4))]) (fun _ => rfl) d_Coder_sortByWeight_35 0 0 rfl rfl (fun _ => ?_)
    refine g_iconst 38 hC (0 : Int32) (by decide) d_Coder_sortByWeight_38 ?_
    refine g_istore_n 39 hC (lv2 := [(3, .int (0 : Int32)), (0, .ref q_a0), (1, .int p1), (2, .int v3)]) (hn := (by decide)) (hl2 := rfl) (hd := d_Coder_sortByWeight_39) ?_
    obtain ⟨u6, hu6, hf⟩ := bd_some hf
    have Xu6_0 : ∀ (v7 : (Nat → Int32)), v7 = u6 → gAt C 0 0 [(q_a0, .inr (7, [.ref q_a0_weights, .ref r_a0_sums, .ref r_a0_depths, .ref q_a0_sorted, .ref q_a0_slots])), (q_a0_weights, .inl (g_K C 0, 516, .inl f_a0_weights)), (q_a0_slots, .inl (g_K C 0, 2254, .inl v7)), (q_a0_sorted, .inl (g_K C 0, 258, .inl f_a0_sorted))] [(0, .ref q_a0), (1, .int p1), (2, .int v3)] 68 [] := by
      intro v7 hv
      rw [← hv] at hf
      refine g_iconst 68 hC (1 : Int32) (by decide) d_Coder_sortByWeight_68 ?_
      refine g_istore_n 69 hC (lv2 := [(3, .int (1 : Int32)), (0, .ref q_a0), (1, .int p1), (2, .int v3)]) (hn := (by decide)) (hl2 := rfl) (hd := d_Coder_sortByWeight_69) ?_
      obtain ⟨u9, hu9, hf⟩ := bd_some hf
      have Xu9_0 : ∀ (v10 : (Nat → Int32)), v10 = u9 → gAt C 0 0 [(q_a0, .inr (7, [.ref q_a0_weights, .ref r_a0_sums, .ref r_a0_depths, .ref q_a0_sorted, .ref q_a0_slots])), (q_a0_weights, .inl (g_K C 0, 516, .inl f_a0_weights)), (q_a0_slots, .inl (g_K C 0, 2254, .inl v10)), (q_a0_sorted, .inl (g_K C 0, 258, .inl f_a0_sorted))] [(0, .ref q_a0), (1, .int p1)] 98 [] := by
        intro v10 hv
        rw [← hv] at hf
        refine g_iconst 98 hC (0 : Int32) (by decide) d_Coder_sortByWeight_98 ?_
        refine g_istore_n 99 hC (lv2 := [(3, .int (0 : Int32)), (0, .ref q_a0), (1, .int p1)]) (hn := (by decide)) (hl2 := rfl) (hd := d_Coder_sortByWeight_99) ?_
        obtain ⟨u12, hu12, hf⟩ := bd_some hf
        have Xu12_0 : ∀ (v13 : ((Nat → Int32) × (Nat → Int32))), v13 = u12 → gAt C 0 0 [(q_a0, .inr (7, [.ref q_a0_weights, .ref r_a0_sums, .ref r_a0_depths, .ref q_a0_sorted, .ref q_a0_slots])), (q_a0_weights, .inl (g_K C 0, 516, .inl f_a0_weights)), (q_a0_slots, .inl (g_K C 0, 2254, .inl v13.1)), (q_a0_sorted, .inl (g_K C 0, 258, .inl v13.2))] [] 143 [] := by
          intro v13 hv
          rw [← hv] at hf
          exact kr () (v13.1, v13.2) 143 [] (Option.some.inj hf) d_Coder_sortByWeight_143
        have Gu12 := lp_ind (b := (Coder_sortByWeight_L100 p1 f_a0_weights)) (G := fun (s11 : (Int32 × (Nat → Int32) × (Nat → Int32))) => gAt C 0 0 [(q_a0, .inr (7, [.ref q_a0_weights, .ref r_a0_sums, .ref r_a0_depths, .ref q_a0_sorted, .ref q_a0_slots])), (q_a0_weights, .inl (g_K C 0, 516, .inl f_a0_weights)), (q_a0_slots, .inl (g_K C 0, 2254, .inl s11.2.1)), (q_a0_sorted, .inl (g_K C 0, 258, .inl s11.2.2))] [(0, .ref q_a0), (1, .int p1), (3, .int s11.1)] 100 []) (o := u12) (by
            intro s11 u14 hf hI hX
            unfold Coder_sortByWeight_L100 at hf
            refine g_iload_n 100 hC (j := 2) (hj := rfl) (hd := d_Coder_sortByWeight_100) ?_
            refine g_iload_n 101 hC (j := 1) (hj := rfl) (hd := d_Coder_sortByWeight_101) ?_
            refine g_icmp_ge 102 hC 143 (by decide) d_Coder_sortByWeight_102 (fun c15 => ?_) (fun c15 => ?_)
            · have hf := it_t c15 hf
              exact g_re [0, 1, 2, 3] [] rfl rfl rfl (Xu12_0 (s11.2.1, s11.2.2) (hX (s11.2.1, s11.2.2) hf))
            · have hf := it_f c15 hf
              refine g_aload_n 105 hC (j := 0) (hj := rfl) (hd := d_Coder_sortByWeight_105) ?_
              refine g_get 106 hC i_Coder rfl 0 rfl 3 (by decide) k248 rfl d_Coder_sortByWeight_106 ?_
              refine g_aload_n 109 hC (j := 0) (hj := rfl) (hd := d_Coder_sortByWeight_109) ?_
              refine g_get 110 hC i_Coder rfl 0 rfl 4 (by decide) k249 rfl d_Coder_sortByWeight_110 ?_
              refine g_aload_n 113 hC (j := 0) (hj := rfl) (hd := d_Coder_sortByWeight_113) ?_
              refine g_get 114 hC i_Coder rfl 0 rfl 0 (by decide) k245 rfl d_Coder_sortByWeight_114 ?_
              refine g_iload_n 117 hC (j := 2) (hj := rfl) (hd := d_Coder_sortByWeight_117) ?_
              obtain ⟨e16, hf⟩ := gd_some hf
              refine g_iald 118 hC 1 rfl e16 d_Coder_sortByWeight_118 ?_
              obtain ⟨e17, hf⟩ := gd_some hf
              refine g_iald 119 hC 2 rfl e17 d_Coder_sortByWeight_119 ?_
              refine g_iload_n 120 hC (j := 2) (hj := rfl) (hd := d_Coder_sortByWeight_120) ?_
              obtain ⟨e18, hf⟩ := gd_some hf
              refine g_iast 121 hC 3 rfl e18 [(q_a0, .inr (7, [.ref q_a0_weights, .ref r_a0_sums, .ref r_a0_depths, .ref q_a0_sorted, .ref q_a0_slots])), (q_a0_weights, .inl (g_K C 0, 516, .inl f_a0_weights)), (q_a0_slots, .inl (g_K C 0, 2254, .inl s11.2.1)), (q_a0_sorted, .inl (g_K C 0, 258, .inl (upd s11.2.2 (s11.2.1 (f_a0_weights s11.1.toNatClampNeg).toNatClampNeg).toNatClampNeg s11.1)))] rfl d_Coder_sortByWeight_121 ?_
              refine g_aload_n 122 hC (j := 0) (hj := rfl) (hd := d_Coder_sortByWeight_122) ?_
              refine g_get 123 hC i_Coder rfl 0 rfl 4 (by decide) k249 rfl d_Coder_sortByWeight_123 ?_
              refine g_aload_n 126 hC (j := 0) (hj := rfl) (hd := d_Coder_sortByWeight_126) ?_
              refine g_get 127 hC i_Coder rfl 0 rfl 0 (by decide) k245 rfl d_Coder_sortByWeight_127 ?_
              refine g_iload_n 130 hC (j := 2) (hj := rfl) (hd := d_Coder_sortByWeight_130) ?_
              obtain ⟨e19, hf⟩ := gd_some hf
              refine g_iald 131 hC 1 rfl e19 d_Coder_sortByWeight_131 ?_
              refine g_dup2 132 hC rfl rfl d_Coder_sortByWeight_132 ?_
              obtain ⟨e20, hf⟩ := gd_some hf
              refine g_iald 133 hC 2 rfl e20 d_Coder_sortByWeight_133 ?_
              refine g_iconst 134 hC (1 : Int32) (by decide) d_Coder_sortByWeight_134 ?_
              refine g_iadd 135 hC d_Coder_sortByWeight_135 ?_
              obtain ⟨e21, hf⟩ := gd_some hf
              refine g_iast 136 hC 2 rfl e21 [(q_a0, .inr (7, [.ref q_a0_weights, .ref r_a0_sums, .ref r_a0_depths, .ref q_a0_sorted, .ref q_a0_slots])), (q_a0_weights, .inl (g_K C 0, 516, .inl f_a0_weights)), (q_a0_slots, .inl (g_K C 0, 2254, .inl (upd s11.2.1 (f_a0_weights s11.1.toNatClampNeg).toNatClampNeg ((s11.2.1 (f_a0_weights s11.1.toNatClampNeg).toNatClampNeg) + (1 : Int32))))), (q_a0_sorted, .inl (g_K C 0, 258, .inl (upd s11.2.2 (s11.2.1 (f_a0_weights s11.1.toNatClampNeg).toNatClampNeg).toNatClampNeg s11.1)))] rfl d_Coder_sortByWeight_136 ?_
              refine g_iinc 137 hC 2 (1 : Int32) [(3, .int (s11.1 + (1 : Int32))), (0, .ref q_a0), (1, .int p1)] rfl (by decide) (by decide) rfl d_Coder_sortByWeight_137 ?_
              refine g_goto 140 hC 100 (by decide) d_Coder_sortByWeight_140 ?_
              exact g_re [0, 1, 2, 3] [1, 2, 0] rfl rfl rfl (hI ((s11.1 + (1 : Int32)), (upd s11.2.1 (f_a0_weights s11.1.toNatClampNeg).toNatClampNeg ((s11.2.1 (f_a0_weights s11.1.toNatClampNeg).toNatClampNeg) + (1 : Int32))), (upd s11.2.2 (s11.2.1 (f_a0_weights s11.1.toNatClampNeg).toNatClampNeg).toNatClampNeg s11.1)) hf)) gas
        exact g_re [0, 1, 2, 3] [1, 2, 0] rfl rfl rfl (Gu12 ((0 : Int32), v10, f_a0_sorted) hu12)
      have Gu9 := lp_ind (b := (Coder_sortByWeight_L70 v3)) (G := fun (s8 : (Int32 × (Nat → Int32))) => gAt C 0 0 [(q_a0, .inr (7, [.ref q_a0_weights, .ref r_a0_sums, .ref r_a0_depths, .ref q_a0_sorted, .ref q_a0_slots])), (q_a0_weights, .inl (g_K C 0, 516, .inl f_a0_weights)), (q_a0_slots, .inl (g_K C 0, 2254, .inl s8.2)), (q_a0_sorted, .inl (g_K C 0, 258, .inl f_a0_sorted))] [(0, .ref q_a0), (1, .int p1), (2, .int v3), (3, .int s8.1)] 70 []) (o := u9) (by
          intro s8 u22 hf hI hX
          unfold Coder_sortByWeight_L70 at hf
          refine g_iload_n 70 hC (j := 3) (hj := rfl) (hd := d_Coder_sortByWeight_70) ?_
          refine g_iload_n 71 hC (j := 2) (hj := rfl) (hd := d_Coder_sortByWeight_71) ?_
          refine g_icmp_gt 72 hC 98 (by decide) d_Coder_sortByWeight_72 (fun c23 => ?_) (fun c23 => ?_)
          · have hf := it_t c23 hf
            exact g_re [0, 1, 2, 3] [0, 1] rfl rfl rfl (Xu9_0 s8.2 (hX s8.2 hf))
          · have hf := it_f c23 hf
            refine g_aload_n 75 hC (j := 0) (hj := rfl) (hd := d_Coder_sortByWeight_75) ?_
            refine g_get 76 hC i_Coder rfl 0 rfl 4 (by decide) k249 rfl d_Coder_sortByWeight_76 ?_
            refine g_iload_n 79 hC (j := 3) (hj := rfl) (hd := d_Coder_sortByWeight_79) ?_
            refine g_dup2 80 hC rfl rfl d_Coder_sortByWeight_80 ?_
            obtain ⟨e24, hf⟩ := gd_some hf
            refine g_iald 81 hC 2 rfl e24 d_Coder_sortByWeight_81 ?_
            refine g_aload_n 82 hC (j := 0) (hj := rfl) (hd := d_Coder_sortByWeight_82) ?_
            refine g_get 83 hC i_Coder rfl 0 rfl 4 (by decide) k249 rfl d_Coder_sortByWeight_83 ?_
            refine g_iload_n 86 hC (j := 3) (hj := rfl) (hd := d_Coder_sortByWeight_86) ?_
            refine g_iconst 87 hC (1 : Int32) (by decide) d_Coder_sortByWeight_87 ?_
            refine g_isub 88 hC d_Coder_sortByWeight_88 ?_
            obtain ⟨e25, hf⟩ := gd_some hf
            refine g_iald 89 hC 2 rfl e25 d_Coder_sortByWeight_89 ?_
            refine g_iadd 90 hC d_Coder_sortByWeight_90 ?_
            obtain ⟨e26, hf⟩ := gd_some hf
            refine g_iast 91 hC 2 rfl e26 [(q_a0, .inr (7, [.ref q_a0_weights, .ref r_a0_sums, .ref r_a0_depths, .ref q_a0_sorted, .ref q_a0_slots])), (q_a0_weights, .inl (g_K C 0, 516, .inl f_a0_weights)), (q_a0_slots, .inl (g_K C 0, 2254, .inl (upd s8.2 s8.1.toNatClampNeg ((s8.2 s8.1.toNatClampNeg) + (s8.2 (s8.1 - (1 : Int32)).toNatClampNeg))))), (q_a0_sorted, .inl (g_K C 0, 258, .inl f_a0_sorted))] rfl d_Coder_sortByWeight_91 ?_
            refine g_iinc 92 hC 3 (1 : Int32) [(3, .int (s8.1 + (1 : Int32))), (0, .ref q_a0), (1, .int p1), (2, .int v3)] rfl (by decide) (by decide) rfl d_Coder_sortByWeight_92 ?_
            refine g_goto 95 hC 70 (by decide) d_Coder_sortByWeight_95 ?_
            exact g_re [0, 1, 2, 3] [1, 2, 3, 0] rfl rfl rfl (hI ((s8.1 + (1 : Int32)), (upd s8.2 s8.1.toNatClampNeg ((s8.2 s8.1.toNatClampNeg) + (s8.2 (s8.1 - (1 : Int32)).toNatClampNeg)))) hf)) gas
      exact g_re [0, 1, 2, 3] [1, 2, 3, 0] rfl rfl rfl (Gu9 ((1 : Int32), v7) hu9)
    have Gu6 := lp_ind (b := (Coder_sortByWeight_L40 p1 f_a0_weights)) (G := fun (s5 : (Int32 × (Nat → Int32))) => gAt C 0 0 [(q_a0, .inr (7, [.ref q_a0_weights, .ref r_a0_sums, .ref r_a0_depths, .ref q_a0_sorted, .ref q_a0_slots])), (q_a0_weights, .inl (g_K C 0, 516, .inl f_a0_weights)), (q_a0_slots, .inl (g_K C 0, 2254, .inl s5.2)), (q_a0_sorted, .inl (g_K C 0, 258, .inl f_a0_sorted))] [(0, .ref q_a0), (1, .int p1), (2, .int v3), (3, .int s5.1)] 40 []) (o := u6) (by
        intro s5 u27 hf hI hX
        unfold Coder_sortByWeight_L40 at hf
        refine g_iload_n 40 hC (j := 3) (hj := rfl) (hd := d_Coder_sortByWeight_40) ?_
        refine g_iload_n 41 hC (j := 1) (hj := rfl) (hd := d_Coder_sortByWeight_41) ?_
        refine g_icmp_ge 42 hC 68 (by decide) d_Coder_sortByWeight_42 (fun c28 => ?_) (fun c28 => ?_)
        · have hf := it_t c28 hf
          exact g_re [0, 1, 2, 3] [0, 1, 2] rfl rfl rfl (Xu6_0 s5.2 (hX s5.2 hf))
        · have hf := it_f c28 hf
          refine g_aload_n 45 hC (j := 0) (hj := rfl) (hd := d_Coder_sortByWeight_45) ?_
          refine g_get 46 hC i_Coder rfl 0 rfl 4 (by decide) k249 rfl d_Coder_sortByWeight_46 ?_
          refine g_aload_n 49 hC (j := 0) (hj := rfl) (hd := d_Coder_sortByWeight_49) ?_
          refine g_get 50 hC i_Coder rfl 0 rfl 0 (by decide) k245 rfl d_Coder_sortByWeight_50 ?_
          refine g_iload_n 53 hC (j := 3) (hj := rfl) (hd := d_Coder_sortByWeight_53) ?_
          obtain ⟨e29, hf⟩ := gd_some hf
          refine g_iald 54 hC 1 rfl e29 d_Coder_sortByWeight_54 ?_
          refine g_iconst 55 hC (1 : Int32) (by decide) d_Coder_sortByWeight_55 ?_
          refine g_iadd 56 hC d_Coder_sortByWeight_56 ?_
          refine g_dup2 57 hC rfl rfl d_Coder_sortByWeight_57 ?_
          obtain ⟨e30, hf⟩ := gd_some hf
          refine g_iald 58 hC 2 rfl e30 d_Coder_sortByWeight_58 ?_
          refine g_iconst 59 hC (1 : Int32) (by decide) d_Coder_sortByWeight_59 ?_
          refine g_iadd 60 hC d_Coder_sortByWeight_60 ?_
          obtain ⟨e31, hf⟩ := gd_some hf
          refine g_iast 61 hC 2 rfl e31 [(q_a0, .inr (7, [.ref q_a0_weights, .ref r_a0_sums, .ref r_a0_depths, .ref q_a0_sorted, .ref q_a0_slots])), (q_a0_weights, .inl (g_K C 0, 516, .inl f_a0_weights)), (q_a0_slots, .inl (g_K C 0, 2254, .inl (upd s5.2 ((f_a0_weights s5.1.toNatClampNeg) + (1 : Int32)).toNatClampNeg ((s5.2 ((f_a0_weights s5.1.toNatClampNeg) + (1 : Int32)).toNatClampNeg) + (1 : Int32))))), (q_a0_sorted, .inl (g_K C 0, 258, .inl f_a0_sorted))] rfl d_Coder_sortByWeight_61 ?_
          refine g_iinc 62 hC 3 (1 : Int32) [(3, .int (s5.1 + (1 : Int32))), (0, .ref q_a0), (1, .int p1), (2, .int v3)] rfl (by decide) (by decide) rfl d_Coder_sortByWeight_62 ?_
          refine g_goto 65 hC 40 (by decide) d_Coder_sortByWeight_65 ?_
          exact g_re [0, 1, 2, 3] [1, 2, 3, 0] rfl rfl rfl (hI ((s5.1 + (1 : Int32)), (upd s5.2 ((f_a0_weights s5.1.toNatClampNeg) + (1 : Int32)).toNatClampNeg ((s5.2 ((f_a0_weights s5.1.toNatClampNeg) + (1 : Int32)).toNatClampNeg) + (1 : Int32)))) hf)) gas
    exact g_re [0, 1, 3, 2] [1, 2, 3, 0] rfl rfl rfl (Gu6 ((0 : Int32), u4) hu6)
  have Gu2 := lp_ind (b := (Coder_sortByWeight_L4 p1 f_a0_weights)) (G := fun (s1 : (Int32 × Int32)) => gAt C 0 0 [(q_a0, .inr (7, [.ref q_a0_weights, .ref r_a0_sums, .ref r_a0_depths, .ref q_a0_sorted, .ref q_a0_slots])), (q_a0_weights, .inl (g_K C 0, 516, .inl f_a0_weights)), (q_a0_slots, .inl (g_K C 0, 2254, .inl f_a0_slots)), (q_a0_sorted, .inl (g_K C 0, 258, .inl f_a0_sorted))] [(0, .ref q_a0), (1, .int p1), (2, .int s1.1), (3, .int s1.2)] 4 []) (o := u2) (by
      intro s1 u32 hf hI hX
      unfold Coder_sortByWeight_L4 at hf
      refine g_iload_n 4 hC (j := 3) (hj := rfl) (hd := d_Coder_sortByWeight_4) ?_
      refine g_iload_n 5 hC (j := 1) (hj := rfl) (hd := d_Coder_sortByWeight_5) ?_
      refine g_icmp_ge 6 hC 26 (by decide) d_Coder_sortByWeight_6 (fun c33 => ?_) (fun c33 => ?_)
      · have hf := it_t c33 hf
        exact g_re [0, 1, 2, 3] [0, 1, 2] rfl rfl rfl (Xu2_0 s1.1 (hX s1.1 hf))
      · have hf := it_f c33 hf
        refine g_iload_n 9 hC (j := 2) (hj := rfl) (hd := d_Coder_sortByWeight_9) ?_
        refine g_aload_n 10 hC (j := 0) (hj := rfl) (hd := d_Coder_sortByWeight_10) ?_
        refine g_get 11 hC i_Coder rfl 0 rfl 0 (by decide) k245 rfl d_Coder_sortByWeight_11 ?_
        refine g_iload_n 14 hC (j := 3) (hj := rfl) (hd := d_Coder_sortByWeight_14) ?_
        obtain ⟨e34, hf⟩ := gd_some hf
        refine g_iald 15 hC 1 rfl e34 d_Coder_sortByWeight_15 ?_
        refine g_mmax 16 hC k1008 k47 k3 k48 (by decide) (by decide) (by decide) (by decide) d_Coder_sortByWeight_16 ?_
        refine g_istore_n 19 hC (lv2 := [(2, .int (jmax s1.1 (f_a0_weights s1.2.toNatClampNeg))), (0, .ref q_a0), (1, .int p1), (3, .int s1.2)]) (hn := (by decide)) (hl2 := rfl) (hd := d_Coder_sortByWeight_19) ?_
        refine g_iinc 20 hC 3 (1 : Int32) [(3, .int (s1.2 + (1 : Int32))), (2, .int (jmax s1.1 (f_a0_weights s1.2.toNatClampNeg))), (0, .ref q_a0), (1, .int p1)] rfl (by decide) (by decide) rfl d_Coder_sortByWeight_20 ?_
        refine g_goto 23 hC 4 (by decide) d_Coder_sortByWeight_23 ?_
        exact g_re [0, 1, 2, 3] [2, 3, 1, 0] rfl rfl rfl (hI ((jmax s1.1 (f_a0_weights s1.2.toNatClampNeg)), (s1.2 + (1 : Int32))) hf)) gas
  exact g_re [0, 1, 2, 3] [2, 3, 1, 0] rfl rfl rfl (Gu2 ((0 : Int32), (0 : Int32)) hu2)
theorem c_Coder_sortByWeight (l : Launch) (D : va_G) (K : Nat → ClassId) (q_a0 : Nat) (q_a0_weights : Nat) (r_a0_sums : Nat) (r_a0_depths : Nat) (q_a0_sorted : Nat) (q_a0_slots : Nat) (f_a0_weights : (Nat → Int32)) (f_a0_slots : (Nat → Int32)) (f_a0_sorted : (Nat → Int32)) (p1 : Int32) (out : ((Nat → Int32) × (Nat → Int32))) (hf : Coder_sortByWeight_f p1 f_a0_weights f_a0_slots f_a0_sorted = some out) : Cv l D K y_Coder_sortByWeight (g_wd y_Coder_sortByWeight b_Coder_sortByWeight 4 none) { frames := 2, cells := 0, slots := 0, locals := 46 } [.ref q_a0, .int p1] [(q_a0, .inr (7, [.ref q_a0_weights, .ref r_a0_sums, .ref r_a0_depths, .ref q_a0_sorted, .ref q_a0_slots])), (q_a0_weights, .inl (K 0, 516, .inl f_a0_weights)), (q_a0_slots, .inl (K 0, 2254, .inl f_a0_slots)), (q_a0_sorted, .inl (K 0, 258, .inl f_a0_sorted))] (fun (x : Unit) => [(q_a0, .inr (7, [.ref q_a0_weights, .ref r_a0_sums, .ref r_a0_depths, .ref q_a0_sorted, .ref q_a0_slots])), (q_a0_weights, .inl (K 0, 516, .inl f_a0_weights)), (q_a0_slots, .inl (K 0, 2254, .inl out.1)), (q_a0_sorted, .inl (K 0, 258, .inl out.2))]) := mk_v (by decide) (Nat.le_of_ble_eq_true rfl) (fun p e s m below meth c A Q hC kr => m_Coder_sortByWeight hC q_a0 q_a0_weights r_a0_sums r_a0_depths q_a0_sorted q_a0_slots f_a0_weights f_a0_slots f_a0_sorted p1 out hf (fun x o9 pc lv ho => by subst ho; exact kr x pc lv))
