abbrev b_Rotations_rankByByte : ByteArray := prog_11_method_4_code
def y_Rotations_rankByByte : MethodName := ⟨R_Rotations, "rankByByte", "([II)V"⟩
theorem d_Rotations_rankByByte_0 : decode b_Rotations_rankByByte 0 = .ok (.aload_n 0, 1) := by decide +kernel
theorem d_Rotations_rankByByte_1 : decode b_Rotations_rankByByte 1 = .ok (.iconst 0, 1) := by decide +kernel
theorem d_Rotations_rankByByte_2 : decode b_Rotations_rankByByte 2 = .ok (.putfield 27, 3) := by decide +kernel
theorem d_Rotations_rankByByte_5 : decode b_Rotations_rankByByte 5 = .ok (.iconst 0, 1) := by decide +kernel
theorem d_Rotations_rankByByte_6 : decode b_Rotations_rankByByte 6 = .ok (.istore_n 3, 1) := by decide +kernel
theorem d_Rotations_rankByByte_7 : decode b_Rotations_rankByByte 7 = .ok (.iload_n 3, 1) := by decide +kernel
theorem d_Rotations_rankByByte_8 : decode b_Rotations_rankByByte 8 = .ok (.iload_n 2, 1) := by decide +kernel
theorem d_Rotations_rankByByte_9 : decode b_Rotations_rankByByte 9 = .ok (.if_icmp .ge 93, 3) := by decide +kernel
theorem d_Rotations_rankByByte_12 : decode b_Rotations_rankByByte 12 = .ok (.iload_n 3, 1) := by decide +kernel
theorem d_Rotations_rankByByte_13 : decode b_Rotations_rankByByte 13 = .ok (.ifCond .le 28, 3) := by decide +kernel
theorem d_Rotations_rankByByte_16 : decode b_Rotations_rankByByte 16 = .ok (.aload_n 1, 1) := by decide +kernel
theorem d_Rotations_rankByByte_17 : decode b_Rotations_rankByByte 17 = .ok (.aload_n 0, 1) := by decide +kernel
theorem d_Rotations_rankByByte_18 : decode b_Rotations_rankByByte 18 = .ok (.getfield 9, 3) := by decide +kernel
theorem d_Rotations_rankByByte_21 : decode b_Rotations_rankByByte 21 = .ok (.iload_n 3, 1) := by decide +kernel
theorem d_Rotations_rankByByte_22 : decode b_Rotations_rankByByte 22 = .ok (.iaload, 1) := by decide +kernel
theorem d_Rotations_rankByByte_23 : decode b_Rotations_rankByByte 23 = .ok (.iaload, 1) := by decide +kernel
theorem d_Rotations_rankByByte_24 : decode b_Rotations_rankByByte 24 = .ok (.aload_n 1, 1) := by decide +kernel
theorem d_Rotations_rankByByte_25 : decode b_Rotations_rankByByte 25 = .ok (.aload_n 0, 1) := by decide +kernel
theorem d_Rotations_rankByByte_26 : decode b_Rotations_rankByByte 26 = .ok (.getfield 9, 3) := by decide +kernel
theorem d_Rotations_rankByByte_29 : decode b_Rotations_rankByByte 29 = .ok (.iload_n 3, 1) := by decide +kernel
theorem d_Rotations_rankByByte_30 : decode b_Rotations_rankByByte 30 = .ok (.iconst 1, 1) := by decide +kernel
theorem d_Rotations_rankByByte_31 : decode b_Rotations_rankByByte 31 = .ok (.isub, 1) := by decide +kernel
theorem d_Rotations_rankByByte_32 : decode b_Rotations_rankByByte 32 = .ok (.iaload, 1) := by decide +kernel
theorem d_Rotations_rankByByte_33 : decode b_Rotations_rankByByte 33 = .ok (.iaload, 1) := by decide +kernel
theorem d_Rotations_rankByByte_34 : decode b_Rotations_rankByByte 34 = .ok (.if_icmp .ne 7, 3) := by decide +kernel
theorem d_Rotations_rankByByte_37 : decode b_Rotations_rankByByte 37 = .ok (.iconst 1, 1) := by decide +kernel
theorem d_Rotations_rankByByte_38 : decode b_Rotations_rankByByte 38 = .ok (.goto 4, 3) := by decide +kernel
theorem d_Rotations_rankByByte_41 : decode b_Rotations_rankByByte 41 = .ok (.iconst 0, 1) := by decide +kernel
theorem d_Rotations_rankByByte_42 : decode b_Rotations_rankByByte 42 = .ok (.istore 4, 2) := by decide +kernel
theorem d_Rotations_rankByByte_44 : decode b_Rotations_rankByByte 44 = .ok (.aload_n 0, 1) := by decide +kernel
theorem d_Rotations_rankByByte_45 : decode b_Rotations_rankByByte 45 = .ok (.getfield 18, 3) := by decide +kernel
theorem d_Rotations_rankByByte_48 : decode b_Rotations_rankByByte 48 = .ok (.aload_n 0, 1) := by decide +kernel
theorem d_Rotations_rankByByte_49 : decode b_Rotations_rankByByte 49 = .ok (.getfield 9, 3) := by decide +kernel
theorem d_Rotations_rankByByte_52 : decode b_Rotations_rankByByte 52 = .ok (.iload_n 3, 1) := by decide +kernel
theorem d_Rotations_rankByByte_53 : decode b_Rotations_rankByByte 53 = .ok (.iaload, 1) := by decide +kernel
theorem d_Rotations_rankByByte_54 : decode b_Rotations_rankByByte 54 = .ok (.iload 4, 2) := by decide +kernel
theorem d_Rotations_rankByByte_56 : decode b_Rotations_rankByByte 56 = .ok (.ifCond .eq 19, 3) := by decide +kernel
theorem d_Rotations_rankByByte_59 : decode b_Rotations_rankByByte 59 = .ok (.aload_n 0, 1) := by decide +kernel
theorem d_Rotations_rankByByte_60 : decode b_Rotations_rankByByte 60 = .ok (.getfield 18, 3) := by decide +kernel
theorem d_Rotations_rankByByte_63 : decode b_Rotations_rankByByte 63 = .ok (.aload_n 0, 1) := by decide +kernel
theorem d_Rotations_rankByByte_64 : decode b_Rotations_rankByByte 64 = .ok (.getfield 9, 3) := by decide +kernel
theorem d_Rotations_rankByByte_67 : decode b_Rotations_rankByByte 67 = .ok (.iload_n 3, 1) := by decide +kernel
theorem d_Rotations_rankByByte_68 : decode b_Rotations_rankByByte 68 = .ok (.iconst 1, 1) := by decide +kernel
theorem d_Rotations_rankByByte_69 : decode b_Rotations_rankByByte 69 = .ok (.isub, 1) := by decide +kernel
theorem d_Rotations_rankByByte_70 : decode b_Rotations_rankByByte 70 = .ok (.iaload, 1) := by decide +kernel
theorem d_Rotations_rankByByte_71 : decode b_Rotations_rankByByte 71 = .ok (.iaload, 1) := by decide +kernel
theorem d_Rotations_rankByByte_72 : decode b_Rotations_rankByByte 72 = .ok (.goto 4, 3) := by decide +kernel
theorem d_Rotations_rankByByte_75 : decode b_Rotations_rankByByte 75 = .ok (.iload_n 3, 1) := by decide +kernel
theorem d_Rotations_rankByByte_76 : decode b_Rotations_rankByByte 76 = .ok (.iastore, 1) := by decide +kernel
theorem d_Rotations_rankByByte_77 : decode b_Rotations_rankByByte 77 = .ok (.aload_n 0, 1) := by decide +kernel
theorem d_Rotations_rankByByte_78 : decode b_Rotations_rankByByte 78 = .ok (.dup, 1) := by decide +kernel
theorem d_Rotations_rankByByte_79 : decode b_Rotations_rankByByte 79 = .ok (.getfield 27, 3) := by decide +kernel
theorem d_Rotations_rankByByte_82 : decode b_Rotations_rankByByte 82 = .ok (.iload 4, 2) := by decide +kernel
theorem d_Rotations_rankByByte_84 : decode b_Rotations_rankByByte 84 = .ok (.ifCond .eq 7, 3) := by decide +kernel
theorem d_Rotations_rankByByte_87 : decode b_Rotations_rankByByte 87 = .ok (.iconst 0, 1) := by decide +kernel
theorem d_Rotations_rankByByte_88 : decode b_Rotations_rankByByte 88 = .ok (.goto 4, 3) := by decide +kernel
theorem d_Rotations_rankByByte_91 : decode b_Rotations_rankByByte 91 = .ok (.iconst 1, 1) := by decide +kernel
theorem d_Rotations_rankByByte_92 : decode b_Rotations_rankByByte 92 = .ok (.iadd, 1) := by decide +kernel
theorem d_Rotations_rankByByte_93 : decode b_Rotations_rankByByte 93 = .ok (.putfield 27, 3) := by decide +kernel
theorem d_Rotations_rankByByte_96 : decode b_Rotations_rankByByte 96 = .ok (.iinc 3 1, 3) := by decide +kernel
theorem d_Rotations_rankByByte_99 : decode b_Rotations_rankByByte 99 = .ok (.goto (-92), 3) := by decide +kernel
theorem d_Rotations_rankByByte_102 : decode b_Rotations_rankByByte 102 = .ok (.return_, 1) := by decide +kernel
theorem k225 : (Jvm.Cond.fieldLink "RotationPress$Rotations" (27 : Nat) "RotationPress$Rotations" "ranks" "I") ∈ g_tbl := List.mem_filter.mpr ⟨List.mem_append_right (k2_sels lw_privs) (List.mem_append_left _ (List.mem_of_getElem? (l := tables_1_1) (i := 225) rfl)), rfl⟩
theorem k222 : (Jvm.Cond.fieldLink "RotationPress$Rotations" (18 : Nat) "RotationPress$Rotations" "rank" "[I") ∈ g_tbl := List.mem_filter.mpr ⟨List.mem_append_right (k2_sels lw_privs) (List.mem_append_left _ (List.mem_of_getElem? (l := tables_1_1) (i := 222) rfl)), rfl⟩
theorem k220 : (Jvm.Cond.fieldLink "RotationPress$Rotations" (9 : Nat) "RotationPress$Rotations" "order" "[I") ∈ g_tbl := List.mem_filter.mpr ⟨List.mem_append_right (k2_sels lw_privs) (List.mem_append_left _ (List.mem_of_getElem? (l := tables_1_1) (i := 220) rfl)), rfl⟩
set_option maxRecDepth 100000 in
set_option maxHeartbeats 4000000 in
theorem m_Rotations_rankByByte {C : gT} (hC : gOk C b_Rotations_rankByByte R_Rotations { frames := 0, cells := 0, slots := 0, locals := 0 } 5) (q_a0 : Nat) (q_a0_order : Nat) (r_a0_orderNext : Nat) (q_a0_rank : Nat) (r_a0_rankNext : Nat) (r_a0_slots : Nat) (x_a0_ranks : Int32) (f_a0_order : (Nat → Int32)) (q_a1 : Nat) (n_a1 : Nat) (f_a1 : (Nat → Int32)) (f_a0_rank : (Nat → Int32)) (p2 : Int32) (out : (Int32 × (Nat → Int32))) (hf : Rotations_rankByByte_f p2 f_a0_order n_a1 f_a1 f_a0_rank = some out) (kr : ∀ (x : Unit) (o9 : (Int32 × (Nat → Int32))) (pc : Nat) (lv : List (Nat × Value)), o9 = out → decode b_Rotations_rankByByte pc = .ok (.return_, 1) → gAt C 0 0 [(q_a0, .inr (10, [.ref q_a0_order, .ref r_a0_orderNext, .ref q_a0_rank, .ref r_a0_rankNext, .ref r_a0_slots, .int o9.1])), (q_a0_order, .inl (g_K C 0, 2250, .inl f_a0_order)), (q_a1, .inl (g_K C 0, n_a1, .inl f_a1)), (q_a0_rank, .inl (g_K C 0, 2250, .inl o9.2))] lv pc []) : gAt C 0 0 [(q_a0, .inr (10, [.ref q_a0_order, .ref r_a0_orderNext, .ref q_a0_rank, .ref r_a0_rankNext, .ref r_a0_slots, .int x_a0_ranks])), (q_a0_order, .inl (g_K C 0, 2250, .inl f_a0_order)), (q_a1, .inl (g_K C 0, n_a1, .inl f_a1)), (q_a0_rank, .inl (g_K C 0, 2250, .inl f_a0_rank))] [(0, .ref q_a0), (1, .ref q_a1), (2, .int p2)] 0 [] := by
  unfold Rotations_rankByByte_f at hf
  refine g_aload_n 0 hC (j := 0) (hj := rfl) (hd := d_Rotations_rankByByte_0) ?_
  refine g_iconst 1 hC (0 : Int32) (by decide) d_Rotations_rankByByte_1 ?_
  refine g_put 2 hC i_Rotations rfl 0 rfl 5 (by decide) t_Rotations tk_Rotations n_Rotations k225 rfl rfl rfl (Nat.le_of_ble_eq_true rfl) [(q_a0, .inr (10, [.ref q_a0_order, .ref r_a0_orderNext, .ref q_a0_rank, .ref r_a0_rankNext, .ref r_a0_slots, .int (0 : Int32)])), (q_a0_order, .inl (g_K C 0, 2250, .inl f_a0_order)), (q_a1, .inl (g_K C 0, n_a1, .inl f_a1)), (q_a0_rank, .inl (g_K C 0, 2250, .inl f_a0_rank))] rfl d_Rotations_rankByByte_2 ?_
  refine g_iconst 5 hC (0 : Int32) (by decide) d_Rotations_rankByByte_5 ?_
  refine g_istore_n 6 hC (lv2 := [(3, .int (0 : Int32)), (0, .ref q_a0), (1, .ref q_a1), (2, .int p2)]) (hn := (by decide)) (hl2 := rfl) (hd := d_Rotations_rankByByte_6) ?_
  obtain ⟨u2, hu2, hf⟩ := bd_some hf
  have Xu2_0 : ∀ (v3 : (Int32 × (Nat → Int32))), v3 = u2 → gAt C 0 0 [(q_a0, .inr (10, [.ref q_a0_order, .ref r_a0_orderNext, .ref q_a0_rank, .ref r_a0_rankNext, .ref r_a0_slots, .int v3.1])), (q_a0_order, .inl (g_K C 0, 2250, .inl f_a0_order)), (q_a1, .inl (g_K C 0, n_a1, .inl f_a1)), (q_a0_rank, .inl (g_K C 0, 2250, .inl v3.2))] [] 102 [] := by
    intro v3 hv
    rw [← hv] at hf
    exact kr () (v3.1, v3.2) 102 [] (Option.some.inj hf) d_Rotations_rankByByte_102
  have Gu2 := lp_ind (b := (Rotations_rankByByte_L7 p2 f_a0_order n_a1 f_a1)) (G := fun (s1 : (Int32 × Int32 × (Nat → Int32))) => gAt C 0 0 [(q_a0, .inr (10, [.ref q_a0_order, .ref r_a0_orderNext, .ref q_a0_rank, .ref r_a0_rankNext, .ref r_a0_slots, .int s1.2.1])), (q_a0_order, .inl (g_K C 0, 2250, .inl f_a0_order)), (q_a1, .inl (g_K C 0, n_a1, .inl f_a1)), (q_a0_rank, .inl (g_K C 0, 2250, .inl s1.2.2))] [(0, .ref q_a0), (1, .ref q_a1), (2, .int p2), (3, .int s1.1)] 7 []) (o := u2) (by
      intro s1 u4 hf hI hX
      unfold Rotations_rankByByte_L7 at hf
      have J92 : ∀ (j92_0 : Int32) (j92_1 : Int32) (j92_2 : (Nat → Int32)), Rotations_rankByByte_J92 s1 j92_0 j92_1 j92_2 = some u4 → gAt C 0 0 [(q_a0, .inr (10, [.ref q_a0_order, .ref r_a0_orderNext, .ref q_a0_rank, .ref r_a0_rankNext, .ref r_a0_slots, .int s1.2.1])), (q_a0_order, .inl (g_K C 0, 2250, .inl f_a0_order)), (q_a1, .inl (g_K C 0, n_a1, .inl f_a1)), (q_a0_rank, .inl (g_K C 0, 2250, .inl j92_2))] [(0, .ref q_a0), (1, .ref q_a1), (2, .int p2), (3, .int s1.1)] 92 [.int j92_0, .int j92_1, .ref q_a0] := by
        intro j92_0 j92_1 j92_2 hf
        unfold Rotations_rankByByte_J92 at hf
        refine g_iadd 92 hC d_Rotations_rankByByte_92 ?_
        refine g_put 93 hC i_Rotations rfl 0 rfl 5 (by decide) t_Rotations tk_Rotations n_Rotations k225 rfl rfl rfl (Nat.le_of_ble_eq_true rfl) [(q_a0, .inr (10, [.ref q_a0_order, .ref r_a0_orderNext, .ref q_a0_rank, .ref r_a0_rankNext, .ref r_a0_slots, .int (j92_1 + j92_0)])), (q_a0_order, .inl (g_K C 0, 2250, .inl f_a0_order)), (q_a1, .inl (g_K C 0, n_a1, .inl f_a1)), (q_a0_rank, .inl (g_K C 0, 2250, .inl j92_2))] rfl d_Rotations_rankByByte_93 ?_
        refine g_iinc 96 hC 3 (1 : Int32) [(3, .int (s1.1 + (1 : Int32))), (0, .ref q_a0), (1, .ref q_a1), (2, .int p2)] rfl (by decide) (by decide) rfl d_Rotations_rankByByte_96 ?_
        refine g_goto 99 hC 7 (by decide) d_Rotations_rankByByte_99 ?_
        exact g_re [0, 1, 2, 3] [1, 2, 3, 0] rfl rfl rfl (hI ((s1.1 + (1 : Int32)), (j92_1 + j92_0), j92_2) hf)
      have J76 : ∀ (j76_0 : Int32) (j76_1 : Int32) (j76_2 : Int32), Rotations_rankByByte_J76 s1 j76_0 j76_1 j76_2 = some u4 → gAt C 0 0 [(q_a0, .inr (10, [.ref q_a0_order, .ref r_a0_orderNext, .ref q_a0_rank, .ref r_a0_rankNext, .ref r_a0_slots, .int s1.2.1])), (q_a0_order, .inl (g_K C 0, 2250, .inl f_a0_order)), (q_a1, .inl (g_K C 0, n_a1, .inl f_a1)), (q_a0_rank, .inl (g_K C 0, 2250, .inl s1.2.2))] [(0, .ref q_a0), (1, .ref q_a1), (2, .int p2), (3, .int s1.1), (4, .int j76_0)] 76 [.int j76_1, .int j76_2, .ref q_a0_rank] := by
        intro j76_0 j76_1 j76_2 hf
        unfold Rotations_rankByByte_J76 at hf
        obtain ⟨e5, hf⟩ := gd_some hf
        refine g_iast 76 hC 3 rfl e5 [(q_a0, .inr (10, [.ref q_a0_order, .ref r_a0_orderNext, .ref q_a0_rank, .ref r_a0_rankNext, .ref r_a0_slots, .int s1.2.1])), (q_a0_order, .inl (g_K C 0, 2250, .inl f_a0_order)), (q_a1, .inl (g_K C 0, n_a1, .inl f_a1)), (q_a0_rank, .inl (g_K C 0, 2250, .inl (upd s1.2.2 j76_2.toNatClampNeg j76_1)))] rfl d_Rotations_rankByByte_76 ?_
        refine g_aload_n 77 hC (j := 0) (hj := rfl) (hd := d_Rotations_rankByByte_77) ?_
        refine g_dup 78 hC rfl d_Rotations_rankByByte_78 ?_
        refine g_get 79 hC i_Rotations rfl 0 rfl 5 (by decide) k225 rfl d_Rotations_rankByByte_79 ?_
        refine g_iload 82 hC (j := 4) (hj := rfl) (hd := d_Rotations_rankByByte_82) ?_
        refine g_if_eq 84 hC 91 (by decide) d_Rotations_rankByByte_84 (fun c6 => ?_) (fun c6 => ?_)
        · have hf := it_t c6 hf
          refine g_iconst 91 hC (1 : Int32) (by decide) d_Rotations_rankByByte_91 ?_
          exact g_re [0, 1, 2, 3] [0, 1, 2, 3] rfl rfl rfl (J92 (1 : Int32) s1.2.1 (upd s1.2.2 j76_2.toNatClampNeg j76_1) hf)
        · have hf := it_f c6 hf
          refine g_iconst 87 hC (0 : Int32) (by decide) d_Rotations_rankByByte_87 ?_
          refine g_goto 88 hC 92 (by decide) d_Rotations_rankByByte_88 ?_
          exact g_re [0, 1, 2, 3] [0, 1, 2, 3] rfl rfl rfl (J92 (0 : Int32) s1.2.1 (upd s1.2.2 j76_2.toNatClampNeg j76_1) hf)
      have J42 : ∀ (j42_0 : Int32), Rotations_rankByByte_J42 s1 f_a0_order j42_0 = some u4 → gAt C 0 0 [(q_a0, .inr (10, [.ref q_a0_order, .ref r_a0_orderNext, .ref q_a0_rank, .ref r_a0_rankNext, .ref r_a0_slots, .int s1.2.1])), (q_a0_order, .inl (g_K C 0, 2250, .inl f_a0_order)), (q_a1, .inl (g_K C 0, n_a1, .inl f_a1)), (q_a0_rank, .inl (g_K C 0, 2250, .inl s1.2.2))] [(0, .ref q_a0), (1, .ref q_a1), (2, .int p2), (3, .int s1.1)] 42 [.int j42_0] := by
        intro j42_0 hf
        unfold Rotations_rankByByte_J42 at hf
        refine g_istore 42 hC (lv2 := [(4, .int j42_0), (0, .ref q_a0), (1, .ref q_a1), (2, .int p2), (3, .int s1.1)]) (hn := (by decide)) (hl2 := rfl) (hd := d_Rotations_rankByByte_42) ?_
        refine g_aload_n 44 hC (j := 1) (hj := rfl) (hd := d_Rotations_rankByByte_44) ?_
        refine g_get 45 hC i_Rotations rfl 0 rfl 2 (by decide) k222 rfl d_Rotations_rankByByte_45 ?_
        refine g_aload_n 48 hC (j := 1) (hj := rfl) (hd := d_Rotations_rankByByte_48) ?_
        refine g_get 49 hC i_Rotations rfl 0 rfl 0 (by decide) k220 rfl d_Rotations_rankByByte_49 ?_
        refine g_iload_n 52 hC (j := 4) (hj := rfl) (hd := d_Rotations_rankByByte_52) ?_
        obtain ⟨e7, hf⟩ := gd_some hf
        refine g_iald 53 hC 1 rfl e7 d_Rotations_rankByByte_53 ?_
        refine g_iload 54 hC (j := 0) (hj := rfl) (hd := d_Rotations_rankByByte_54) ?_
        refine g_if_eq 56 hC 75 (by decide) d_Rotations_rankByByte_56 (fun c8 => ?_) (fun c8 => ?_)
        · have hf := it_t c8 hf
          refine g_iload_n 75 hC (j := 4) (hj := rfl) (hd := d_Rotations_rankByByte_75) ?_
          exact g_re [0, 1, 2, 3] [1, 2, 3, 4, 0] rfl rfl rfl (J76 j42_0 s1.1 (f_a0_order s1.1.toNatClampNeg) hf)
        · have hf := it_f c8 hf
          refine g_aload_n 59 hC (j := 1) (hj := rfl) (hd := d_Rotations_rankByByte_59) ?_
          refine g_get 60 hC i_Rotations rfl 0 rfl 2 (by decide) k222 rfl d_Rotations_rankByByte_60 ?_
          refine g_aload_n 63 hC (j := 1) (hj := rfl) (hd := d_Rotations_rankByByte_63) ?_
          refine g_get 64 hC i_Rotations rfl 0 rfl 0 (by decide) k220 rfl d_Rotations_rankByByte_64 ?_
          refine g_iload_n 67 hC (j := 4) (hj := rfl) (hd := d_Rotations_rankByByte_67) ?_
          refine g_iconst 68 hC (1 : Int32) (by decide) d_Rotations_rankByByte_68 ?_
          refine g_isub 69 hC d_Rotations_rankByByte_69 ?_
          obtain ⟨e9, hf⟩ := gd_some hf
          refine g_iald 70 hC 1 rfl e9 d_Rotations_rankByByte_70 ?_
          obtain ⟨e10, hf⟩ := gd_some hf
          refine g_iald 71 hC 3 rfl e10 d_Rotations_rankByByte_71 ?_
          refine g_goto 72 hC 76 (by decide) d_Rotations_rankByByte_72 ?_
          exact g_re [0, 1, 2, 3] [1, 2, 3, 4, 0] rfl rfl rfl (J76 j42_0 (s1.2.2 (f_a0_order (s1.1 - (1 : Int32)).toNatClampNeg).toNatClampNeg) (f_a0_order s1.1.toNatClampNeg) hf)
      have J41 : Rotations_rankByByte_J41 s1 f_a0_order = some u4 → gAt C 0 0 [(q_a0, .inr (10, [.ref q_a0_order, .ref r_a0_orderNext, .ref q_a0_rank, .ref r_a0_rankNext, .ref r_a0_slots, .int s1.2.1])), (q_a0_order, .inl (g_K C 0, 2250, .inl f_a0_order)), (q_a1, .inl (g_K C 0, n_a1, .inl f_a1)), (q_a0_rank, .inl (g_K C 0, 2250, .inl s1.2.2))] [(0, .ref q_a0), (1, .ref q_a1), (2, .int p2), (3, .int s1.1)] 41 [] := by
        intro hf
        unfold Rotations_rankByByte_J41 at hf
        refine g_iconst 41 hC (0 : Int32) (by decide) d_Rotations_rankByByte_41 ?_
        exact J42 (0 : Int32) hf
      refine g_iload_n 7 hC (j := 3) (hj := rfl) (hd := d_Rotations_rankByByte_7) ?_
      refine g_iload_n 8 hC (j := 2) (hj := rfl) (hd := d_Rotations_rankByByte_8) ?_
      refine g_icmp_ge 9 hC 102 (by decide) d_Rotations_rankByByte_9 (fun c11 => ?_) (fun c11 => ?_)
      · have hf := it_t c11 hf
        exact g_re [0, 1, 2, 3] [] rfl rfl rfl (Xu2_0 (s1.2.1, s1.2.2) (hX (s1.2.1, s1.2.2) hf))
      · have hf := it_f c11 hf
        refine g_iload_n 12 hC (j := 3) (hj := rfl) (hd := d_Rotations_rankByByte_12) ?_
        refine g_if_le 13 hC 41 (by decide) d_Rotations_rankByByte_13 (fun c12 => ?_) (fun c12 => ?_)
        · have hf := it_t c12 hf
          exact J41 hf
        · have hf := it_f c12 hf
          refine g_aload_n 16 hC (j := 1) (hj := rfl) (hd := d_Rotations_rankByByte_16) ?_
          refine g_aload_n 17 hC (j := 0) (hj := rfl) (hd := d_Rotations_rankByByte_17) ?_
          refine g_get 18 hC i_Rotations rfl 0 rfl 0 (by decide) k220 rfl d_Rotations_rankByByte_18 ?_
          refine g_iload_n 21 hC (j := 3) (hj := rfl) (hd := d_Rotations_rankByByte_21) ?_
          obtain ⟨e13, hf⟩ := gd_some hf
          refine g_iald 22 hC 1 rfl e13 d_Rotations_rankByByte_22 ?_
          obtain ⟨e14, hf⟩ := gd_some hf
          refine g_iald 23 hC 2 rfl e14 d_Rotations_rankByByte_23 ?_
          refine g_aload_n 24 hC (j := 1) (hj := rfl) (hd := d_Rotations_rankByByte_24) ?_
          refine g_aload_n 25 hC (j := 0) (hj := rfl) (hd := d_Rotations_rankByByte_25) ?_
          refine g_get 26 hC i_Rotations rfl 0 rfl 0 (by decide) k220 rfl d_Rotations_rankByByte_26 ?_
          refine g_iload_n 29 hC (j := 3) (hj := rfl) (hd := d_Rotations_rankByByte_29) ?_
          refine g_iconst 30 hC (1 : Int32) (by decide) d_Rotations_rankByByte_30 ?_
          refine g_isub 31 hC d_Rotations_rankByByte_31 ?_
          obtain ⟨e15, hf⟩ := gd_some hf
          refine g_iald 32 hC 1 rfl e15 d_Rotations_rankByByte_32 ?_
          obtain ⟨e16, hf⟩ := gd_some hf
          refine g_iald 33 hC 2 rfl e16 d_Rotations_rankByByte_33 ?_
          refine g_icmp_ne 34 hC 41 (by decide) d_Rotations_rankByByte_34 (fun c17 => ?_) (fun c17 => ?_)
          · have hf := it_f c17 hf
            exact J41 hf
          · have hf := it_t c17 hf
            refine g_iconst 37 hC (1 : Int32) (by decide) d_Rotations_rankByByte_37 ?_
            refine g_goto 38 hC 42 (by decide) d_Rotations_rankByByte_38 ?_
            exact J42 (1 : Int32) hf) gas
  exact g_re [0, 1, 2, 3] [1, 2, 3, 0] rfl rfl rfl (Gu2 ((0 : Int32), (0 : Int32), f_a0_rank) hu2)
theorem c_Rotations_rankByByte (l : Launch) (D : va_G) (K : Nat → ClassId) (q_a0 : Nat) (q_a0_order : Nat) (r_a0_orderNext : Nat) (q_a0_rank : Nat) (r_a0_rankNext : Nat) (r_a0_slots : Nat) (x_a0_ranks : Int32) (f_a0_order : (Nat → Int32)) (q_a1 : Nat) (n_a1 : Nat) (f_a1 : (Nat → Int32)) (f_a0_rank : (Nat → Int32)) (p2 : Int32) (out : (Int32 × (Nat → Int32))) (hf : Rotations_rankByByte_f p2 f_a0_order n_a1 f_a1 f_a0_rank = some out) : Cv l D K y_Rotations_rankByByte (g_wd y_Rotations_rankByByte b_Rotations_rankByByte 5 none) { frames := 0, cells := 0, slots := 0, locals := 0 } [.ref q_a0, .ref q_a1, .int p2] [(q_a0, .inr (10, [.ref q_a0_order, .ref r_a0_orderNext, .ref q_a0_rank, .ref r_a0_rankNext, .ref r_a0_slots, .int x_a0_ranks])), (q_a0_order, .inl (K 0, 2250, .inl f_a0_order)), (q_a1, .inl (K 0, n_a1, .inl f_a1)), (q_a0_rank, .inl (K 0, 2250, .inl f_a0_rank))] (fun (x : Unit) => [(q_a0, .inr (10, [.ref q_a0_order, .ref r_a0_orderNext, .ref q_a0_rank, .ref r_a0_rankNext, .ref r_a0_slots, .int out.1])), (q_a0_order, .inl (K 0, 2250, .inl f_a0_order)), (q_a1, .inl (K 0, n_a1, .inl f_a1)), (q_a0_rank, .inl (K 0, 2250, .inl out.2))]) := mk_v (by decide) (Nat.le_of_ble_eq_true rfl) (fun p e s m below meth c A Q hC kr => m_Rotations_rankByByte hC q_a0 q_a0_order r_a0_orderNext q_a0_rank r_a0_rankNext r_a0_slots x_a0_ranks f_a0_order q_a1 n_a1 f_a1 f_a0_rank p2 out hf (fun x o9 pc lv ho => by subst ho; exact kr x pc lv))
