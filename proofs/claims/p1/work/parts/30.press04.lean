abbrev b_Rotations_sortByNext : ByteArray := prog_11_method_6_code
def y_Rotations_sortByNext : MethodName := ⟨R_Rotations, "sortByNext", "(II)V"⟩
theorem d_Rotations_sortByNext_0 : decode b_Rotations_sortByNext 0 = .ok (.aload_n 0, 1) := by decide +kernel
theorem d_Rotations_sortByNext_1 : decode b_Rotations_sortByNext 1 = .ok (.iload_n 1, 1) := by decide +kernel
theorem d_Rotations_sortByNext_2 : decode b_Rotations_sortByNext 2 = .ok (.invokevirtual 56, 3) := by decide +kernel
theorem d_Rotations_sortByNext_5 : decode b_Rotations_sortByNext 5 = .ok (.iconst 0, 1) := by decide +kernel
theorem d_Rotations_sortByNext_6 : decode b_Rotations_sortByNext 6 = .ok (.istore_n 3, 1) := by decide +kernel
theorem d_Rotations_sortByNext_7 : decode b_Rotations_sortByNext 7 = .ok (.iload_n 3, 1) := by decide +kernel
theorem d_Rotations_sortByNext_8 : decode b_Rotations_sortByNext 8 = .ok (.iload_n 1, 1) := by decide +kernel
theorem d_Rotations_sortByNext_9 : decode b_Rotations_sortByNext 9 = .ok (.if_icmp .ge 69, 3) := by decide +kernel
theorem d_Rotations_sortByNext_12 : decode b_Rotations_sortByNext 12 = .ok (.aload_n 0, 1) := by decide +kernel
theorem d_Rotations_sortByNext_13 : decode b_Rotations_sortByNext 13 = .ok (.getfield 9, 3) := by decide +kernel
theorem d_Rotations_sortByNext_16 : decode b_Rotations_sortByNext 16 = .ok (.iload_n 3, 1) := by decide +kernel
theorem d_Rotations_sortByNext_17 : decode b_Rotations_sortByNext 17 = .ok (.iaload, 1) := by decide +kernel
theorem d_Rotations_sortByNext_18 : decode b_Rotations_sortByNext 18 = .ok (.iload_n 2, 1) := by decide +kernel
theorem d_Rotations_sortByNext_19 : decode b_Rotations_sortByNext 19 = .ok (.isub, 1) := by decide +kernel
theorem d_Rotations_sortByNext_20 : decode b_Rotations_sortByNext 20 = .ok (.istore 4, 2) := by decide +kernel
theorem d_Rotations_sortByNext_22 : decode b_Rotations_sortByNext 22 = .ok (.iload 4, 2) := by decide +kernel
theorem d_Rotations_sortByNext_24 : decode b_Rotations_sortByNext 24 = .ok (.iload 4, 2) := by decide +kernel
theorem d_Rotations_sortByNext_26 : decode b_Rotations_sortByNext 26 = .ok (.ifCond .ge 7, 3) := by decide +kernel
theorem d_Rotations_sortByNext_29 : decode b_Rotations_sortByNext 29 = .ok (.iload_n 1, 1) := by decide +kernel
theorem d_Rotations_sortByNext_30 : decode b_Rotations_sortByNext 30 = .ok (.goto 4, 3) := by decide +kernel
theorem d_Rotations_sortByNext_33 : decode b_Rotations_sortByNext 33 = .ok (.iconst 0, 1) := by decide +kernel
theorem d_Rotations_sortByNext_34 : decode b_Rotations_sortByNext 34 = .ok (.iadd, 1) := by decide +kernel
theorem d_Rotations_sortByNext_35 : decode b_Rotations_sortByNext 35 = .ok (.istore 4, 2) := by decide +kernel
theorem d_Rotations_sortByNext_37 : decode b_Rotations_sortByNext 37 = .ok (.aload_n 0, 1) := by decide +kernel
theorem d_Rotations_sortByNext_38 : decode b_Rotations_sortByNext 38 = .ok (.getfield 15, 3) := by decide +kernel
theorem d_Rotations_sortByNext_41 : decode b_Rotations_sortByNext 41 = .ok (.aload_n 0, 1) := by decide +kernel
theorem d_Rotations_sortByNext_42 : decode b_Rotations_sortByNext 42 = .ok (.getfield 24, 3) := by decide +kernel
theorem d_Rotations_sortByNext_45 : decode b_Rotations_sortByNext 45 = .ok (.aload_n 0, 1) := by decide +kernel
theorem d_Rotations_sortByNext_46 : decode b_Rotations_sortByNext 46 = .ok (.getfield 18, 3) := by decide +kernel
theorem d_Rotations_sortByNext_49 : decode b_Rotations_sortByNext 49 = .ok (.iload 4, 2) := by decide +kernel
theorem d_Rotations_sortByNext_51 : decode b_Rotations_sortByNext 51 = .ok (.iaload, 1) := by decide +kernel
theorem d_Rotations_sortByNext_52 : decode b_Rotations_sortByNext 52 = .ok (.iaload, 1) := by decide +kernel
theorem d_Rotations_sortByNext_53 : decode b_Rotations_sortByNext 53 = .ok (.iload 4, 2) := by decide +kernel
theorem d_Rotations_sortByNext_55 : decode b_Rotations_sortByNext 55 = .ok (.iastore, 1) := by decide +kernel
theorem d_Rotations_sortByNext_56 : decode b_Rotations_sortByNext 56 = .ok (.aload_n 0, 1) := by decide +kernel
theorem d_Rotations_sortByNext_57 : decode b_Rotations_sortByNext 57 = .ok (.getfield 24, 3) := by decide +kernel
theorem d_Rotations_sortByNext_60 : decode b_Rotations_sortByNext 60 = .ok (.aload_n 0, 1) := by decide +kernel
theorem d_Rotations_sortByNext_61 : decode b_Rotations_sortByNext 61 = .ok (.getfield 18, 3) := by decide +kernel
theorem d_Rotations_sortByNext_64 : decode b_Rotations_sortByNext 64 = .ok (.iload 4, 2) := by decide +kernel
theorem d_Rotations_sortByNext_66 : decode b_Rotations_sortByNext 66 = .ok (.iaload, 1) := by decide +kernel
theorem d_Rotations_sortByNext_67 : decode b_Rotations_sortByNext 67 = .ok (.dup2, 1) := by decide +kernel
theorem d_Rotations_sortByNext_68 : decode b_Rotations_sortByNext 68 = .ok (.iaload, 1) := by decide +kernel
theorem d_Rotations_sortByNext_69 : decode b_Rotations_sortByNext 69 = .ok (.iconst 1, 1) := by decide +kernel
theorem d_Rotations_sortByNext_70 : decode b_Rotations_sortByNext 70 = .ok (.iadd, 1) := by decide +kernel
theorem d_Rotations_sortByNext_71 : decode b_Rotations_sortByNext 71 = .ok (.iastore, 1) := by decide +kernel
theorem d_Rotations_sortByNext_72 : decode b_Rotations_sortByNext 72 = .ok (.iinc 3 1, 3) := by decide +kernel
theorem d_Rotations_sortByNext_75 : decode b_Rotations_sortByNext 75 = .ok (.goto (-68), 3) := by decide +kernel
theorem d_Rotations_sortByNext_78 : decode b_Rotations_sortByNext 78 = .ok (.aload_n 0, 1) := by decide +kernel
theorem d_Rotations_sortByNext_79 : decode b_Rotations_sortByNext 79 = .ok (.getfield 9, 3) := by decide +kernel
theorem d_Rotations_sortByNext_82 : decode b_Rotations_sortByNext 82 = .ok (.astore_n 3, 1) := by decide +kernel
theorem d_Rotations_sortByNext_83 : decode b_Rotations_sortByNext 83 = .ok (.aload_n 0, 1) := by decide +kernel
theorem d_Rotations_sortByNext_84 : decode b_Rotations_sortByNext 84 = .ok (.aload_n 0, 1) := by decide +kernel
theorem d_Rotations_sortByNext_85 : decode b_Rotations_sortByNext 85 = .ok (.getfield 15, 3) := by decide +kernel
theorem d_Rotations_sortByNext_88 : decode b_Rotations_sortByNext 88 = .ok (.putfield 9, 3) := by decide +kernel
theorem d_Rotations_sortByNext_91 : decode b_Rotations_sortByNext 91 = .ok (.aload_n 0, 1) := by decide +kernel
theorem d_Rotations_sortByNext_92 : decode b_Rotations_sortByNext 92 = .ok (.aload_n 3, 1) := by decide +kernel
theorem d_Rotations_sortByNext_93 : decode b_Rotations_sortByNext 93 = .ok (.putfield 15, 3) := by decide +kernel
theorem d_Rotations_sortByNext_96 : decode b_Rotations_sortByNext 96 = .ok (.return_, 1) := by decide +kernel
theorem k943 : (Jvm.Cond.code ({ cls := "RotationPress$Rotations", name := "openSlots", desc := "(I)V" } : Jvm.MethodName) prog_11_method_5_code (3 : Nat) (Option.none : Option Jvm.ClassFile.FieldType)) ∈ g_tbl := List.mem_filter.mpr ⟨List.mem_append_right (k2_sels lw_privs) (List.mem_append_right _ (List.mem_append_right _ (List.mem_append_right _ (List.mem_append_left _ (List.mem_of_getElem? (l := tables_1_4) (i := 223) rfl))))), rfl⟩
theorem k9 : (Jvm.Cond.initialized "RotationPress$Rotations") ∈ g_tbl := List.mem_filter.mpr ⟨List.mem_append_right (k2_sels lw_privs) (List.mem_append_left _ (List.mem_of_getElem? (l := tables_1_1) (i := 9) rfl)), rfl⟩
theorem k940 : (Jvm.Cond.methodLink "RotationPress$Rotations" (56 : Nat) ({ cls := "RotationPress$Rotations", name := "openSlots", desc := "(I)V" } : Jvm.MethodName)) ∈ g_tbl := List.mem_filter.mpr ⟨List.mem_append_right (k2_sels lw_privs) (List.mem_append_right _ (List.mem_append_right _ (List.mem_append_right _ (List.mem_append_left _ (List.mem_of_getElem? (l := tables_1_4) (i := 220) rfl))))), rfl⟩
theorem k942 : (Jvm.Cond.instanceMethod ({ cls := "RotationPress$Rotations", name := "openSlots", desc := "(I)V" } : Jvm.MethodName)) ∈ g_tbl := List.mem_filter.mpr ⟨List.mem_append_right (k2_sels lw_privs) (List.mem_append_right _ (List.mem_append_right _ (List.mem_append_right _ (List.mem_append_left _ (List.mem_of_getElem? (l := tables_1_4) (i := 222) rfl))))), rfl⟩
theorem ks5 : (Jvm.Cond.selects "RotationPress$Rotations" ({ cls := "RotationPress$Rotations", name := "openSlots", desc := "(I)V" } : Jvm.MethodName) ({ cls := "RotationPress$Rotations", name := "openSlots", desc := "(I)V" } : Jvm.MethodName)) ∈ g_tbl := List.mem_filter.mpr ⟨List.mem_append_left _ (List.mem_map.mpr ⟨(({ cls := "RotationPress$Rotations", name := "openSlots", desc := "(I)V" } : Jvm.MethodName), _), List.mem_of_getElem? (i := 5) rfl, rfl⟩), rfl⟩
theorem k221 : (Jvm.Cond.fieldLink "RotationPress$Rotations" (15 : Nat) "RotationPress$Rotations" "orderNext" "[I") ∈ g_tbl := List.mem_filter.mpr ⟨List.mem_append_right (k2_sels lw_privs) (List.mem_append_left _ (List.mem_of_getElem? (l := tables_1_1) (i := 221) rfl)), rfl⟩
set_option maxRecDepth 100000 in
set_option maxHeartbeats 4000000 in
theorem m_Rotations_sortByNext {C : gT} (hC : gOk C b_Rotations_sortByNext R_Rotations { frames := 1, cells := 0, slots := 0, locals := 22 } 5) (q_a0 : Nat) (q_a0_order : Nat) (q_a0_orderNext : Nat) (q_a0_rank : Nat) (r_a0_rankNext : Nat) (q_a0_slots : Nat) (x_a0_ranks : Int32) (f_a0_slots : (Nat → Int32)) (f_a0_order : (Nat → Int32)) (f_a0_rank : (Nat → Int32)) (f_a0_orderNext : (Nat → Int32)) (p1 : Int32) (p2 : Int32) (out : ((Nat → Int32) × (Nat → Int32) × (Nat → Int32))) (hf : Rotations_sortByNext_f p1 f_a0_slots f_a0_order p2 f_a0_rank f_a0_orderNext = some out) (kr : ∀ (x : (Nat × Nat)) (o9 : ((Nat → Int32) × (Nat → Int32) × (Nat → Int32))) (pc : Nat) (lv : List (Nat × Value)), o9 = out → decode b_Rotations_sortByNext pc = .ok (.return_, 1) → gAt C 0 0 [(q_a0, .inr (10, [.ref x.1, .ref x.2, .ref q_a0_rank, .ref r_a0_rankNext, .ref q_a0_slots, .int x_a0_ranks])), (q_a0_slots, .inl (g_K C 0, 2250, .inl o9.1)), (x.1, .inl (g_K C 0, 2250, .inl o9.2.2)), (q_a0_rank, .inl (g_K C 0, 2250, .inl f_a0_rank)), (x.2, .inl (g_K C 0, 2250, .inl o9.2.1))] lv pc []) : gAt C 0 0 [(q_a0, .inr (10, [.ref q_a0_order, .ref q_a0_orderNext, .ref q_a0_rank, .ref r_a0_rankNext, .ref q_a0_slots, .int x_a0_ranks])), (q_a0_slots, .inl (g_K C 0, 2250, .inl f_a0_slots)), (q_a0_order, .inl (g_K C 0, 2250, .inl f_a0_order)), (q_a0_rank, .inl (g_K C 0, 2250, .inl f_a0_rank)), (q_a0_orderNext, .inl (g_K C 0, 2250, .inl f_a0_orderNext))] [(0, .ref q_a0), (1, .int p1), (2, .int p2)] 0 [] := by
  unfold Rotations_sortByNext_f at hf
  refine g_aload_n 0 hC (j := 0) (hj := rfl) (hd := d_Rotations_sortByNext_0) ?_
  refine g_iload_n 1 hC (j := 1) (hj := rfl) (hd := d_Rotations_sortByNext_1) ?_
  obtain ⟨u1, hu1, hf⟩ := bd_some hf
  refine g_callVv 2 hC (c_Rotations_openSlots (g_l C) (g_D C) (g_K C) q_a0 q_a0_order q_a0_orderNext q_a0_rank r_a0_rankNext q_a0_slots x_a0_ranks f_a0_slots p1 u1 hu1) k943 k9 k940 k942 ks5 1 rfl (by decide +kernel) (by decide) [0, 1] [2, 3, 4] [(q_a0_order, .inl (g_K C 0, 2250, .inl f_a0_order)), (q_a0_rank, .inl (g_K C 0, 2250, .inl f_a0_rank)), (q_a0_orderNext, .inl (g_K C 0, 2250, .inl f_a0_orderNext))] rfl rfl rfl rfl rfl 0 10 rfl rfl rfl rfl (Nat.le_of_ble_eq_true rfl) ⟨Nat.le_of_ble_eq_true rfl, Nat.le_of_ble_eq_true rfl⟩ (fun (_ : Unit) => [(q_a0_order, .inl (g_K C 0, 2250, .inl f_a0_order)), (q_a0_rank, .inl (g_K C 0, 2250, .inl f_a0_rank)), (q_a0_orderNext, .inl (g_K C 0, 2250, .inl f_a0_orderNext)), (q_a0, .inr (10, [.ref q_a0_order, .ref q_a0_orderNext, .ref q_a0_rank, .ref r_a0_rankNext, .ref q_a0_slots, .int x_a0_ranks])), (q_a0_slots, .inl (g_K C 0, 2250, .inl u1))]) (fun _ => rfl) d_Rotations_sortByNext_2 0 0 rfl rfl (fun _ => ?_)
  refine g_iconst 5 hC (0 : Int32) (by decide) d_Rotations_sortByNext_5 ?_
  refine g_istore_n 6 hC (lv2 := [(3, .int (0 : Int32)), (0, .ref q_a0), (1, .int p1), (2, .int p2)]) (hn := (by decide)) (hl2 := rfl) (hd := d_Rotations_sortByNext_6) ?_
  obtain ⟨u3, hu3, hf⟩ := bd_some hf
  have Xu3_0 : ∀ (v4 : ((Nat → Int32) × (Nat → Int32))), v4 = u3 → gAt C 0 0 [(q_a0, .inr (10, [.ref q_a0_order, .ref q_a0_orderNext, .ref q_a0_rank, .ref r_a0_rankNext, .ref q_a0_slots, .int x_a0_ranks])), (q_a0_slots, .inl (g_K C 0, 2250, .inl v4.1)), (q_a0_order, .inl (g_K C 0, 2250, .inl f_a0_order)), (q_a0_rank, .inl (g_K C 0, 2250, .inl f_a0_rank)), (q_a0_orderNext, .inl (g_K C 0, 2250, .inl v4.2))] [(0, .ref q_a0)] 78 [] := by
    intro v4 hv
    rw [← hv] at hf
    refine g_aload_n 78 hC (j := 0) (hj := rfl) (hd := d_Rotations_sortByNext_78) ?_
    refine g_get 79 hC i_Rotations rfl 0 rfl 0 (by decide) k220 rfl d_Rotations_sortByNext_79 ?_
    refine g_astore_n 82 hC (lv2 := [(3, .ref q_a0_order), (0, .ref q_a0)]) (hn := (by decide)) (hl2 := rfl) (hd := d_Rotations_sortByNext_82) ?_
    refine g_aload_n 83 hC (j := 1) (hj := rfl) (hd := d_Rotations_sortByNext_83) ?_
    refine g_aload_n 84 hC (j := 1) (hj := rfl) (hd := d_Rotations_sortByNext_84) ?_
    refine g_get 85 hC i_Rotations rfl 0 rfl 1 (by decide) k221 rfl d_Rotations_sortByNext_85 ?_
    refine g_put 88 hC i_Rotations rfl 0 rfl 0 (by decide) t_Rotations tk_Rotations n_Rotations k220 rfl rfl rfl (Nat.le_of_ble_eq_true rfl) [(q_a0, .inr (10, [.ref q_a0_orderNext, .ref q_a0_orderNext, .ref q_a0_rank, .ref r_a0_rankNext, .ref q_a0_slots, .int x_a0_ranks])), (q_a0_slots, .inl (g_K C 0, 2250, .inl v4.1)), (q_a0_order, .inl (g_K C 0, 2250, .inl f_a0_order)), (q_a0_rank, .inl (g_K C 0, 2250, .inl f_a0_rank)), (q_a0_orderNext, .inl (g_K C 0, 2250, .inl v4.2))] rfl d_Rotations_sortByNext_88 ?_
    refine g_aload_n 91 hC (j := 1) (hj := rfl) (hd := d_Rotations_sortByNext_91) ?_
    refine g_aload_n 92 hC (j := 0) (hj := rfl) (hd := d_Rotations_sortByNext_92) ?_
    refine g_put 93 hC i_Rotations rfl 0 rfl 1 (by decide) t_Rotations tk_Rotations n_Rotations k221 rfl rfl rfl (Nat.le_of_ble_eq_true rfl) [(q_a0, .inr (10, [.ref q_a0_orderNext, .ref q_a0_order, .ref q_a0_rank, .ref r_a0_rankNext, .ref q_a0_slots, .int x_a0_ranks])), (q_a0_slots, .inl (g_K C 0, 2250, .inl v4.1)), (q_a0_order, .inl (g_K C 0, 2250, .inl f_a0_order)), (q_a0_rank, .inl (g_K C 0, 2250, .inl f_a0_rank)), (q_a0_orderNext, .inl (g_K C 0, 2250, .inl v4.2))] rfl d_Rotations_sortByNext_93 ?_
    exact g_re [0, 1, 4, 3, 2] [] rfl rfl rfl (kr (q_a0_orderNext, q_a0_order) (v4.1, f_a0_order, v4.2) 96 [] (Option.some.inj hf) d_Rotations_sortByNext_96)
  have Gu3 := lp_ind (b := (Rotations_sortByNext_L7 p1 f_a0_order p2 f_a0_rank)) (G := fun (s2 : (Int32 × (Nat → Int32) × (Nat → Int32))) => gAt C 0 0 [(q_a0, .inr (10, [.ref q_a0_order, .ref q_a0_orderNext, .ref q_a0_rank, .ref r_a0_rankNext, .ref q_a0_slots, .int x_a0_ranks])), (q_a0_slots, .inl (g_K C 0, 2250, .inl s2.2.1)), (q_a0_order, .inl (g_K C 0, 2250, .inl f_a0_order)), (q_a0_rank, .inl (g_K C 0, 2250, .inl f_a0_rank)), (q_a0_orderNext, .inl (g_K C 0, 2250, .inl s2.2.2))] [(0, .ref q_a0), (1, .int p1), (2, .int p2), (3, .int s2.1)] 7 []) (o := u3) (by
      intro s2 u5 hf hI hX
      unfold Rotations_sortByNext_L7 at hf
      have J34 : ∀ (j34_0 : Int32) (j34_1 : Int32), Rotations_sortByNext_J34 f_a0_rank s2 j34_0 j34_1 = some u5 → gAt C 0 0 [(q_a0, .inr (10, [.ref q_a0_order, .ref q_a0_orderNext, .ref q_a0_rank, .ref r_a0_rankNext, .ref q_a0_slots, .int x_a0_ranks])), (q_a0_slots, .inl (g_K C 0, 2250, .inl s2.2.1)), (q_a0_order, .inl (g_K C 0, 2250, .inl f_a0_order)), (q_a0_rank, .inl (g_K C 0, 2250, .inl f_a0_rank)), (q_a0_orderNext, .inl (g_K C 0, 2250, .inl s2.2.2))] [(0, .ref q_a0), (1, .int p1), (2, .int p2), (3, .int s2.1)] 34 [.int j34_0, .int j34_1] := by
        intro j34_0 j34_1 hf
        unfold Rotations_sortByNext_J34 at hf
        refine g_iadd 34 hC d_Rotations_sortByNext_34 ?_
        refine g_istore 35 hC (lv2 := [(4, .int (j34_1 + j34_0)), (0, .ref q_a0), (1, .int p1), (2, .int p2), (3, .int s2.1)]) (hn := (by decide)) (hl2 := rfl) (hd := d_Rotations_sortByNext_35) ?_
        refine g_aload_n 37 hC (j := 1) (hj := rfl) (hd := d_Rotations_sortByNext_37) ?_
        refine g_get 38 hC i_Rotations rfl 0 rfl 1 (by decide) k221 rfl d_Rotations_sortByNext_38 ?_
        refine g_aload_n 41 hC (j := 1) (hj := rfl) (hd := d_Rotations_sortByNext_41) ?_
        refine g_get 42 hC i_Rotations rfl 0 rfl 4 (by decide) k224 rfl d_Rotations_sortByNext_42 ?_
        refine g_aload_n 45 hC (j := 1) (hj := rfl) (hd := d_Rotations_sortByNext_45) ?_
        refine g_get 46 hC i_Rotations rfl 0 rfl 2 (by decide) k222 rfl d_Rotations_sortByNext_46 ?_
        refine g_iload 49 hC (j := 0) (hj := rfl) (hd := d_Rotations_sortByNext_49) ?_
        obtain ⟨e6, hf⟩ := gd_some hf
        refine g_iald 51 hC 3 rfl e6 d_Rotations_sortByNext_51 ?_
        obtain ⟨e7, hf⟩ := gd_some hf
        refine g_iald 52 hC 1 rfl e7 d_Rotations_sortByNext_52 ?_
        refine g_iload 53 hC (j := 0) (hj := rfl) (hd := d_Rotations_sortByNext_53) ?_
        obtain ⟨e8, hf⟩ := gd_some hf
        refine g_iast 55 hC 4 rfl e8 [(q_a0, .inr (10, [.ref q_a0_order, .ref q_a0_orderNext, .ref q_a0_rank, .ref r_a0_rankNext, .ref q_a0_slots, .int x_a0_ranks])), (q_a0_slots, .inl (g_K C 0, 2250, .inl s2.2.1)), (q_a0_order, .inl (g_K C 0, 2250, .inl f_a0_order)), (q_a0_rank, .inl (g_K C 0, 2250, .inl f_a0_rank)), (q_a0_orderNext, .inl (g_K C 0, 2250, .inl (upd s2.2.2 (s2.2.1 (f_a0_rank (j34_1 + j34_0).toNatClampNeg).toNatClampNeg).toNatClampNeg (j34_1 + j34_0))))] rfl d_Rotations_sortByNext_55 ?_
        refine g_aload_n 56 hC (j := 1) (hj := rfl) (hd := d_Rotations_sortByNext_56) ?_
        refine g_get 57 hC i_Rotations rfl 0 rfl 4 (by decide) k224 rfl d_Rotations_sortByNext_57 ?_
        refine g_aload_n 60 hC (j := 1) (hj := rfl) (hd := d_Rotations_sortByNext_60) ?_
        refine g_get 61 hC i_Rotations rfl 0 rfl 2 (by decide) k222 rfl d_Rotations_sortByNext_61 ?_
        refine g_iload 64 hC (j := 0) (hj := rfl) (hd := d_Rotations_sortByNext_64) ?_
        obtain ⟨e9, hf⟩ := gd_some hf
        refine g_iald 66 hC 3 rfl e9 d_Rotations_sortByNext_66 ?_
        refine g_dup2 67 hC rfl rfl d_Rotations_sortByNext_67 ?_
        obtain ⟨e10, hf⟩ := gd_some hf
        refine g_iald 68 hC 1 rfl e10 d_Rotations_sortByNext_68 ?_
        refine g_iconst 69 hC (1 : Int32) (by decide) d_Rotations_sortByNext_69 ?_
        refine g_iadd 70 hC d_Rotations_sortByNext_70 ?_
        obtain ⟨e11, hf⟩ := gd_some hf
        refine g_iast 71 hC 1 rfl e11 [(q_a0, .inr (10, [.ref q_a0_order, .ref q_a0_orderNext, .ref q_a0_rank, .ref r_a0_rankNext, .ref q_a0_slots, .int x_a0_ranks])), (q_a0_slots, .inl (g_K C 0, 2250, .inl (upd s2.2.1 (f_a0_rank (j34_1 + j34_0).toNatClampNeg).toNatClampNeg ((s2.2.1 (f_a0_rank (j34_1 + j34_0).toNatClampNeg).toNatClampNeg) + (1 : Int32))))), (q_a0_order, .inl (g_K C 0, 2250, .inl f_a0_order)), (q_a0_rank, .inl (g_K C 0, 2250, .inl f_a0_rank)), (q_a0_orderNext, .inl (g_K C 0, 2250, .inl (upd s2.2.2 (s2.2.1 (f_a0_rank (j34_1 + j34_0).toNatClampNeg).toNatClampNeg).toNatClampNeg (j34_1 + j34_0))))] rfl d_Rotations_sortByNext_71 ?_
        refine g_iinc 72 hC 4 (1 : Int32) [(3, .int (s2.1 + (1 : Int32))), (4, .int (j34_1 + j34_0)), (0, .ref q_a0), (1, .int p1), (2, .int p2)] rfl (by decide) (by decide) rfl d_Rotations_sortByNext_72 ?_
        refine g_goto 75 hC 7 (by decide) d_Rotations_sortByNext_75 ?_
        exact g_re [0, 1, 2, 3, 4] [2, 3, 4, 0] rfl rfl rfl (hI ((s2.1 + (1 : Int32)), (upd s2.2.1 (f_a0_rank (j34_1 + j34_0).toNatClampNeg).toNatClampNeg ((s2.2.1 (f_a0_rank (j34_1 + j34_0).toNatClampNeg).toNatClampNeg) + (1 : Int32))), (upd s2.2.2 (s2.2.1 (f_a0_rank (j34_1 + j34_0).toNatClampNeg).toNatClampNeg).toNatClampNeg (j34_1 + j34_0))) hf)
      refine g_iload_n 7 hC (j := 3) (hj := rfl) (hd := d_Rotations_sortByNext_7) ?_
      refine g_iload_n 8 hC (j := 1) (hj := rfl) (hd := d_Rotations_sortByNext_8) ?_
      refine g_icmp_ge 9 hC 78 (by decide) d_Rotations_sortByNext_9 (fun c12 => ?_) (fun c12 => ?_)
      · have hf := it_t c12 hf
        exact g_re [0, 1, 2, 3, 4] [0] rfl rfl rfl (Xu3_0 (s2.2.1, s2.2.2) (hX (s2.2.1, s2.2.2) hf))
      · have hf := it_f c12 hf
        refine g_aload_n 12 hC (j := 0) (hj := rfl) (hd := d_Rotations_sortByNext_12) ?_
        refine g_get 13 hC i_Rotations rfl 0 rfl 0 (by decide) k220 rfl d_Rotations_sortByNext_13 ?_
        refine g_iload_n 16 hC (j := 3) (hj := rfl) (hd := d_Rotations_sortByNext_16) ?_
        obtain ⟨e13, hf⟩ := gd_some hf
        refine g_iald 17 hC 2 rfl e13 d_Rotations_sortByNext_17 ?_
        refine g_iload_n 18 hC (j := 2) (hj := rfl) (hd := d_Rotations_sortByNext_18) ?_
        refine g_isub 19 hC d_Rotations_sortByNext_19 ?_
        refine g_istore 20 hC (lv2 := [(4, .int ((f_a0_order s2.1.toNatClampNeg) - p2)), (0, .ref q_a0), (1, .int p1), (2, .int p2), (3, .int s2.1)]) (hn := (by decide)) (hl2 := rfl) (hd := d_Rotations_sortByNext_20) ?_
        refine g_iload 22 hC (j := 0) (hj := rfl) (hd := d_Rotations_sortByNext_22) ?_
        refine g_iload 24 hC (j := 0) (hj := rfl) (hd := d_Rotations_sortByNext_24) ?_
        refine g_if_ge 26 hC 33 (by decide) d_Rotations_sortByNext_26 (fun c14 => ?_) (fun c14 => ?_)
        · have hf := it_t c14 hf
          refine g_iconst 33 hC (0 : Int32) (by decide) d_Rotations_sortByNext_33 ?_
          exact g_re [0, 1, 2, 3, 4] [1, 2, 3, 4] rfl rfl rfl (J34 (0 : Int32) ((f_a0_order s2.1.toNatClampNeg) - p2) hf)
        · have hf := it_f c14 hf
          refine g_iload_n 29 hC (j := 2) (hj := rfl) (hd := d_Rotations_sortByNext_29) ?_
          refine g_goto 30 hC 34 (by decide) d_Rotations_sortByNext_30 ?_
          exact g_re [0, 1, 2, 3, 4] [1, 2, 3, 4] rfl rfl rfl (J34 p1 ((f_a0_order s2.1.toNatClampNeg) - p2) hf)) gas
  exact g_re [3, 4, 0, 1, 2] [1, 2, 3, 0] rfl rfl rfl (Gu3 ((0 : Int32), u1, f_a0_orderNext) hu3)
theorem c_Rotations_sortByNext (l : Launch) (D : va_G) (K : Nat → ClassId) (q_a0 : Nat) (q_a0_order : Nat) (q_a0_orderNext : Nat) (q_a0_rank : Nat) (r_a0_rankNext : Nat) (q_a0_slots : Nat) (x_a0_ranks : Int32) (f_a0_slots : (Nat → Int32)) (f_a0_order : (Nat → Int32)) (f_a0_rank : (Nat → Int32)) (f_a0_orderNext : (Nat → Int32)) (p1 : Int32) (p2 : Int32) (out : ((Nat → Int32) × (Nat → Int32) × (Nat → Int32))) (hf : Rotations_sortByNext_f p1 f_a0_slots f_a0_order p2 f_a0_rank f_a0_orderNext = some out) : Cv l D K y_Rotations_sortByNext (g_wd y_Rotations_sortByNext b_Rotations_sortByNext 5 none) { frames := 1, cells := 0, slots := 0, locals := 22 } [.ref q_a0, .int p1, .int p2] [(q_a0, .inr (10, [.ref q_a0_order, .ref q_a0_orderNext, .ref q_a0_rank, .ref r_a0_rankNext, .ref q_a0_slots, .int x_a0_ranks])), (q_a0_slots, .inl (K 0, 2250, .inl f_a0_slots)), (q_a0_order, .inl (K 0, 2250, .inl f_a0_order)), (q_a0_rank, .inl (K 0, 2250, .inl f_a0_rank)), (q_a0_orderNext, .inl (K 0, 2250, .inl f_a0_orderNext))] (fun (x : (Nat × Nat)) => [(q_a0, .inr (10, [.ref x.1, .ref x.2, .ref q_a0_rank, .ref r_a0_rankNext, .ref q_a0_slots, .int x_a0_ranks])), (q_a0_slots, .inl (K 0, 2250, .inl out.1)), (x.1, .inl (K 0, 2250, .inl out.2.2)), (q_a0_rank, .inl (K 0, 2250, .inl f_a0_rank)), (x.2, .inl (K 0, 2250, .inl out.2.1))]) := mk_v (by decide) (Nat.le_of_ble_eq_true rfl) (fun p e s m below meth c A Q hC kr => m_Rotations_sortByNext hC q_a0 q_a0_order q_a0_orderNext q_a0_rank r_a0_rankNext q_a0_slots x_a0_ranks f_a0_slots f_a0_order f_a0_rank f_a0_orderNext p1 p2 out hf (fun x o9 pc lv ho => by subst ho; exact kr x pc lv))
