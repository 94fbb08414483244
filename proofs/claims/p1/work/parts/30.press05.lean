abbrev b_Rotations_rankByNext : ByteArray := prog_11_method_7_code
def y_Rotations_rankByNext : MethodName := ⟨R_Rotations, "rankByNext", "(II)V"⟩
theorem d_Rotations_rankByNext_0 : decode b_Rotations_rankByNext 0 = .ok (.aload_n 0, 1) := by decide +kernel
theorem d_Rotations_rankByNext_1 : decode b_Rotations_rankByNext 1 = .ok (.iconst 0, 1) := by decide +kernel
theorem d_Rotations_rankByNext_2 : decode b_Rotations_rankByNext 2 = .ok (.putfield 27, 3) := by decide +kernel
theorem d_Rotations_rankByNext_5 : decode b_Rotations_rankByNext 5 = .ok (.iconst 0, 1) := by decide +kernel
theorem d_Rotations_rankByNext_6 : decode b_Rotations_rankByNext 6 = .ok (.istore_n 3, 1) := by decide +kernel
theorem d_Rotations_rankByNext_7 : decode b_Rotations_rankByNext 7 = .ok (.iconst 0, 1) := by decide +kernel
theorem d_Rotations_rankByNext_8 : decode b_Rotations_rankByNext 8 = .ok (.istore 4, 2) := by decide +kernel
theorem d_Rotations_rankByNext_10 : decode b_Rotations_rankByNext 10 = .ok (.iconst 0, 1) := by decide +kernel
theorem d_Rotations_rankByNext_11 : decode b_Rotations_rankByNext 11 = .ok (.istore 5, 2) := by decide +kernel
theorem d_Rotations_rankByNext_13 : decode b_Rotations_rankByNext 13 = .ok (.iload 5, 2) := by decide +kernel
theorem d_Rotations_rankByNext_15 : decode b_Rotations_rankByNext 15 = .ok (.iload_n 1, 1) := by decide +kernel
theorem d_Rotations_rankByNext_16 : decode b_Rotations_rankByNext 16 = .ok (.if_icmp .ge 134, 3) := by decide +kernel
theorem d_Rotations_rankByNext_19 : decode b_Rotations_rankByNext 19 = .ok (.aload_n 0, 1) := by decide +kernel
theorem d_Rotations_rankByNext_20 : decode b_Rotations_rankByNext 20 = .ok (.getfield 9, 3) := by decide +kernel
theorem d_Rotations_rankByNext_23 : decode b_Rotations_rankByNext 23 = .ok (.iload 5, 2) := by decide +kernel
theorem d_Rotations_rankByNext_25 : decode b_Rotations_rankByNext 25 = .ok (.iaload, 1) := by decide +kernel
theorem d_Rotations_rankByNext_26 : decode b_Rotations_rankByNext 26 = .ok (.istore 6, 2) := by decide +kernel
theorem d_Rotations_rankByNext_28 : decode b_Rotations_rankByNext 28 = .ok (.iload 6, 2) := by decide +kernel
theorem d_Rotations_rankByNext_30 : decode b_Rotations_rankByNext 30 = .ok (.iload_n 2, 1) := by decide +kernel
theorem d_Rotations_rankByNext_31 : decode b_Rotations_rankByNext 31 = .ok (.iadd, 1) := by decide +kernel
theorem d_Rotations_rankByNext_32 : decode b_Rotations_rankByNext 32 = .ok (.istore 7, 2) := by decide +kernel
theorem d_Rotations_rankByNext_34 : decode b_Rotations_rankByNext 34 = .ok (.iload 7, 2) := by decide +kernel
theorem d_Rotations_rankByNext_36 : decode b_Rotations_rankByNext 36 = .ok (.iload 7, 2) := by decide +kernel
theorem d_Rotations_rankByNext_38 : decode b_Rotations_rankByNext 38 = .ok (.iload_n 1, 1) := by decide +kernel
theorem d_Rotations_rankByNext_39 : decode b_Rotations_rankByNext 39 = .ok (.if_icmp .lt 7, 3) := by decide +kernel
theorem d_Rotations_rankByNext_42 : decode b_Rotations_rankByNext 42 = .ok (.iload_n 1, 1) := by decide +kernel
theorem d_Rotations_rankByNext_43 : decode b_Rotations_rankByNext 43 = .ok (.goto 4, 3) := by decide +kernel
theorem d_Rotations_rankByNext_46 : decode b_Rotations_rankByNext 46 = .ok (.iconst 0, 1) := by decide +kernel
theorem d_Rotations_rankByNext_47 : decode b_Rotations_rankByNext 47 = .ok (.isub, 1) := by decide +kernel
theorem d_Rotations_rankByNext_48 : decode b_Rotations_rankByNext 48 = .ok (.istore 7, 2) := by decide +kernel
theorem d_Rotations_rankByNext_50 : decode b_Rotations_rankByNext 50 = .ok (.iload 5, 2) := by decide +kernel
theorem d_Rotations_rankByNext_52 : decode b_Rotations_rankByNext 52 = .ok (.ifCond .le 40, 3) := by decide +kernel
theorem d_Rotations_rankByNext_55 : decode b_Rotations_rankByNext 55 = .ok (.aload_n 0, 1) := by decide +kernel
theorem d_Rotations_rankByNext_56 : decode b_Rotations_rankByNext 56 = .ok (.getfield 18, 3) := by decide +kernel
theorem d_Rotations_rankByNext_59 : decode b_Rotations_rankByNext 59 = .ok (.iload 6, 2) := by decide +kernel
theorem d_Rotations_rankByNext_61 : decode b_Rotations_rankByNext 61 = .ok (.iaload, 1) := by decide +kernel
theorem d_Rotations_rankByNext_62 : decode b_Rotations_rankByNext 62 = .ok (.aload_n 0, 1) := by decide +kernel
theorem d_Rotations_rankByNext_63 : decode b_Rotations_rankByNext 63 = .ok (.getfield 18, 3) := by decide +kernel
theorem d_Rotations_rankByNext_66 : decode b_Rotations_rankByNext 66 = .ok (.iload_n 3, 1) := by decide +kernel
theorem d_Rotations_rankByNext_67 : decode b_Rotations_rankByNext 67 = .ok (.iaload, 1) := by decide +kernel
theorem d_Rotations_rankByNext_68 : decode b_Rotations_rankByNext 68 = .ok (.if_icmp .ne 24, 3) := by decide +kernel
theorem d_Rotations_rankByNext_71 : decode b_Rotations_rankByNext 71 = .ok (.aload_n 0, 1) := by decide +kernel
theorem d_Rotations_rankByNext_72 : decode b_Rotations_rankByNext 72 = .ok (.getfield 18, 3) := by decide +kernel
theorem d_Rotations_rankByNext_75 : decode b_Rotations_rankByNext 75 = .ok (.iload 7, 2) := by decide +kernel
theorem d_Rotations_rankByNext_77 : decode b_Rotations_rankByNext 77 = .ok (.iaload, 1) := by decide +kernel
theorem d_Rotations_rankByNext_78 : decode b_Rotations_rankByNext 78 = .ok (.aload_n 0, 1) := by decide +kernel
theorem d_Rotations_rankByNext_79 : decode b_Rotations_rankByNext 79 = .ok (.getfield 18, 3) := by decide +kernel
theorem d_Rotations_rankByNext_82 : decode b_Rotations_rankByNext 82 = .ok (.iload 4, 2) := by decide +kernel
theorem d_Rotations_rankByNext_84 : decode b_Rotations_rankByNext 84 = .ok (.iaload, 1) := by decide +kernel
theorem d_Rotations_rankByNext_85 : decode b_Rotations_rankByNext 85 = .ok (.if_icmp .ne 7, 3) := by decide +kernel
theorem d_Rotations_rankByNext_88 : decode b_Rotations_rankByNext 88 = .ok (.iconst 1, 1) := by decide +kernel
theorem d_Rotations_rankByNext_89 : decode b_Rotations_rankByNext 89 = .ok (.goto 4, 3) := by decide +kernel
theorem d_Rotations_rankByNext_92 : decode b_Rotations_rankByNext 92 = .ok (.iconst 0, 1) := by decide +kernel
theorem d_Rotations_rankByNext_93 : decode b_Rotations_rankByNext 93 = .ok (.istore 8, 2) := by decide +kernel
theorem d_Rotations_rankByNext_95 : decode b_Rotations_rankByNext 95 = .ok (.aload_n 0, 1) := by decide +kernel
theorem d_Rotations_rankByNext_96 : decode b_Rotations_rankByNext 96 = .ok (.getfield 21, 3) := by decide +kernel
theorem d_Rotations_rankByNext_99 : decode b_Rotations_rankByNext 99 = .ok (.iload 6, 2) := by decide +kernel
theorem d_Rotations_rankByNext_101 : decode b_Rotations_rankByNext 101 = .ok (.iload 8, 2) := by decide +kernel
theorem d_Rotations_rankByNext_103 : decode b_Rotations_rankByNext 103 = .ok (.ifCond .eq 12, 3) := by decide +kernel
theorem d_Rotations_rankByNext_106 : decode b_Rotations_rankByNext 106 = .ok (.aload_n 0, 1) := by decide +kernel
theorem d_Rotations_rankByNext_107 : decode b_Rotations_rankByNext 107 = .ok (.getfield 21, 3) := by decide +kernel
theorem d_Rotations_rankByNext_110 : decode b_Rotations_rankByNext 110 = .ok (.iload_n 3, 1) := by decide +kernel
theorem d_Rotations_rankByNext_111 : decode b_Rotations_rankByNext 111 = .ok (.iaload, 1) := by decide +kernel
theorem d_Rotations_rankByNext_112 : decode b_Rotations_rankByNext 112 = .ok (.goto 5, 3) := by decide +kernel
theorem d_Rotations_rankByNext_115 : decode b_Rotations_rankByNext 115 = .ok (.iload 5, 2) := by decide +kernel
theorem d_Rotations_rankByNext_117 : decode b_Rotations_rankByNext 117 = .ok (.iastore, 1) := by decide +kernel
theorem d_Rotations_rankByNext_118 : decode b_Rotations_rankByNext 118 = .ok (.aload_n 0, 1) := by decide +kernel
theorem d_Rotations_rankByNext_119 : decode b_Rotations_rankByNext 119 = .ok (.dup, 1) := by decide +kernel
theorem d_Rotations_rankByNext_120 : decode b_Rotations_rankByNext 120 = .ok (.getfield 27, 3) := by decide +kernel
theorem d_Rotations_rankByNext_123 : decode b_Rotations_rankByNext 123 = .ok (.iload 8, 2) := by decide +kernel
theorem d_Rotations_rankByNext_125 : decode b_Rotations_rankByNext 125 = .ok (.ifCond .eq 7, 3) := by decide +kernel
theorem d_Rotations_rankByNext_128 : decode b_Rotations_rankByNext 128 = .ok (.iconst 0, 1) := by decide +kernel
theorem d_Rotations_rankByNext_129 : decode b_Rotations_rankByNext 129 = .ok (.goto 4, 3) := by decide +kernel
theorem d_Rotations_rankByNext_132 : decode b_Rotations_rankByNext 132 = .ok (.iconst 1, 1) := by decide +kernel
theorem d_Rotations_rankByNext_133 : decode b_Rotations_rankByNext 133 = .ok (.iadd, 1) := by decide +kernel
theorem d_Rotations_rankByNext_134 : decode b_Rotations_rankByNext 134 = .ok (.putfield 27, 3) := by decide +kernel
theorem d_Rotations_rankByNext_137 : decode b_Rotations_rankByNext 137 = .ok (.iload 6, 2) := by decide +kernel
theorem d_Rotations_rankByNext_139 : decode b_Rotations_rankByNext 139 = .ok (.istore_n 3, 1) := by decide +kernel
theorem d_Rotations_rankByNext_140 : decode b_Rotations_rankByNext 140 = .ok (.iload 7, 2) := by decide +kernel
theorem d_Rotations_rankByNext_142 : decode b_Rotations_rankByNext 142 = .ok (.istore 4, 2) := by decide +kernel
theorem d_Rotations_rankByNext_144 : decode b_Rotations_rankByNext 144 = .ok (.iinc 5 1, 3) := by decide +kernel
theorem d_Rotations_rankByNext_147 : decode b_Rotations_rankByNext 147 = .ok (.goto (-134), 3) := by decide +kernel
theorem d_Rotations_rankByNext_150 : decode b_Rotations_rankByNext 150 = .ok (.aload_n 0, 1) := by decide +kernel
theorem d_Rotations_rankByNext_151 : decode b_Rotations_rankByNext 151 = .ok (.getfield 18, 3) := by decide +kernel
theorem d_Rotations_rankByNext_154 : decode b_Rotations_rankByNext 154 = .ok (.astore 5, 2) := by decide +kernel
theorem d_Rotations_rankByNext_156 : decode b_Rotations_rankByNext 156 = .ok (.aload_n 0, 1) := by decide +kernel
theorem d_Rotations_rankByNext_157 : decode b_Rotations_rankByNext 157 = .ok (.aload_n 0, 1) := by decide +kernel
theorem d_Rotations_rankByNext_158 : decode b_Rotations_rankByNext 158 = .ok (.getfield 21, 3) := by decide +kernel
theorem d_Rotations_rankByNext_161 : decode b_Rotations_rankByNext 161 = .ok (.putfield 18, 3) := by decide +kernel
theorem d_Rotations_rankByNext_164 : decode b_Rotations_rankByNext 164 = .ok (.aload_n 0, 1) := by decide +kernel
theorem d_Rotations_rankByNext_165 : decode b_Rotations_rankByNext 165 = .ok (.aload 5, 2) := by decide +kernel
theorem d_Rotations_rankByNext_167 : decode b_Rotations_rankByNext 167 = .ok (.putfield 21, 3) := by decide +kernel
theorem d_Rotations_rankByNext_170 : decode b_Rotations_rankByNext 170 = .ok (.return_, 1) := by decide +kernel
theorem k223 : (Jvm.Cond.fieldLink "RotationPress$Rotations" (21 : Nat) "RotationPress$Rotations" "rankNext" "[I") ∈ g_tbl := List.mem_filter.mpr ⟨List.mem_append_right (k2_sels lw_privs) (List.mem_append_left _ (List.mem_of_getElem? (l := tables_1_1) (i := 223) rfl)), rfl⟩
set_option maxRecDepth 100000 in
set_option maxHeartbeats 4000000 in
theorem m_Rotations_rankByNext {C : gT} (hC : gOk C b_Rotations_rankByNext R_Rotations { frames := 0, cells := 0, slots := 0, locals := 0 } 9) (q_a0 : Nat) (q_a0_order : Nat) (r_a0_orderNext : Nat) (q_a0_rank : Nat) (q_a0_rankNext : Nat) (r_a0_slots : Nat) (x_a0_ranks : Int32) (f_a0_order : (Nat → Int32)) (f_a0_rank : (Nat → Int32)) (f_a0_rankNext : (Nat → Int32)) (p1 : Int32) (p2 : Int32) (out : (Int32 × (Nat → Int32) × (Nat → Int32))) (hf : Rotations_rankByNext_f p1 f_a0_order p2 f_a0_rank f_a0_rankNext = some out) (kr : ∀ (x : (Nat × Nat)) (o9 : (Int32 × (Nat → Int32) × (Nat → Int32))) (pc : Nat) (lv : List (Nat × Value)), o9 = out → decode b_Rotations_rankByNext pc = .ok (.return_, 1) → gAt C 0 0 [(q_a0, .inr (10, [.ref q_a0_order, .ref r_a0_orderNext, .ref x.1, .ref x.2, .ref r_a0_slots, .int o9.1])), (q_a0_order, .inl (g_K C 0, 2250, .inl f_a0_order)), (x.1, .inl (g_K C 0, 2250, .inl o9.2.2)), (x.2, .inl (g_K C 0, 2250, .inl o9.2.1))] lv pc []) : gAt C 0 0 [(q_a0, .inr (10, [.ref q_a0_order, .ref r_a0_orderNext, .ref q_a0_rank, .ref q_a0_rankNext, .ref r_a0_slots, .int x_a0_ranks])), (q_a0_order, .inl (g_K C 0, 2250, .inl f_a0_order)), (q_a0_rank, .inl (g_K C 0, 2250, .inl f_a0_rank)), (q_a0_rankNext, .inl (g_K C 0, 2250, .inl f_a0_rankNext))] [(0, .ref q_a0), (1, .int p1), (2, .int p2)] 0 [] := by
  unfold Rotations_rankByNext_f at hf
  refine g_aload_n 0 hC (j := 0) (hj := rfl) (hd := d_Rotations_rankByNext_0) ?_
  refine g_iconst 1 hC (0 : Int32) (by decide) d_Rotations_rankByNext_1 ?_
  refine g_put 2 hC i_Rotations rfl 0 rfl 5 (by decide) t_Rotations tk_Rotations n_Rotations k225 rfl rfl rfl (Nat.le_of_ble_eq_true rfl) [(q_a0, .inr (10, [.ref q_a0_order, .ref r_a0_orderNext, .ref q_a0_rank, .ref q_a0_rankNext, .ref r_a0_slots, .int (0 : Int32)])), (q_a0_order, .inl (g_K C 0, 2250, .inl f_a0_order)), (q_a0_rank, .inl (g_K C 0, 2250, .inl f_a0_rank)), (q_a0_rankNext, .inl (g_K C 0, 2250, .inl f_a0_rankNext))] rfl d_Rotations_rankByNext_2 ?_
  refine g_iconst 5 hC (0 : Int32) (by decide) d_Rotations_rankByNext_5 ?_
  refine g_istore_n 6 hC (lv2 := [(3, .int (0 : Int32)), (0, .ref q_a0), (1, .int p1), (2, .int p2)]) (hn := (by decide)) (hl2 := rfl) (hd := d_Rotations_rankByNext_6) ?_
  refine g_iconst 7 hC (0 : Int32) (by decide) d_Rotations_rankByNext_7 ?_
  refine g_istore 8 hC (lv2 := [(4, .int (0 : Int32)), (3, .int (0 : Int32)), (0, .ref q_a0), (1, .int p1), (2, .int p2)]) (hn := (by decide)) (hl2 := rfl) (hd := d_Rotations_rankByNext_8) ?_
  refine g_iconst 10 hC (0 : Int32) (by decide) d_Rotations_rankByNext_10 ?_
  refine g_istore 11 hC (lv2 := [(5, .int (0 : Int32)), (4, .int (0 : Int32)), (3, .int (0 : Int32)), (0, .ref q_a0), (1, .int p1), (2, .int p2)]) (hn := (by decide)) (hl2 := rfl) (hd := d_Rotations_rankByNext_11) ?_
  obtain ⟨u2, hu2, hf⟩ := bd_some hf
  have Xu2_0 : ∀ (v3 : (Int32 × (Nat → Int32))), v3 = u2 → gAt C 0 0 [(q_a0, .inr (10, [.ref q_a0_order, .ref r_a0_orderNext, .ref q_a0_rank, .ref q_a0_rankNext, .ref r_a0_slots, .int v3.1])), (q_a0_order, .inl (g_K C 0, 2250, .inl f_a0_order)), (q_a0_rank, .inl (g_K C 0, 2250, .inl f_a0_rank)), (q_a0_rankNext, .inl (g_K C 0, 2250, .inl v3.2))] [(0, .ref q_a0)] 150 [] := by
    intro v3 hv
    rw [← hv] at hf
    refine g_aload_n 150 hC (j := 0) (hj := rfl) (hd := d_Rotations_rankByNext_150) ?_
    refine g_get 151 hC i_Rotations rfl 0 rfl 2 (by decide) k222 rfl d_Rotations_rankByNext_151 ?_
    refine g_astore 154 hC (lv2 := [(5, .ref q_a0_rank), (0, .ref q_a0)]) (hn := (by decide)) (hl2 := rfl) (hd := d_Rotations_rankByNext_154) ?_
    refine g_aload_n 156 hC (j := 1) (hj := rfl) (hd := d_Rotations_rankByNext_156) ?_
    refine g_aload_n 157 hC (j := 1) (hj := rfl) (hd := d_Rotations_rankByNext_157) ?_
    refine g_get 158 hC i_Rotations rfl 0 rfl 3 (by decide) k223 rfl d_Rotations_rankByNext_158 ?_
    refine g_put 161 hC i_Rotations rfl 0 rfl 2 (by decide) t_Rotations tk_Rotations n_Rotations k222 rfl rfl rfl (Nat.le_of_ble_eq_true rfl) [(q_a0, .inr (10, [.ref q_a0_order, .ref r_a0_orderNext, .ref q_a0_rankNext, .ref q_a0_rankNext, .ref r_a0_slots, .int v3.1])), (q_a0_order, .inl (g_K C 0, 2250, .inl f_a0_order)), (q_a0_rank, .inl (g_K C 0, 2250, .inl f_a0_rank)), (q_a0_rankNext, .inl (g_K C 0, 2250, .inl v3.2))] rfl d_Rotations_rankByNext_161 ?_
    refine g_aload_n 164 hC (j := 1) (hj := rfl) (hd := d_Rotations_rankByNext_164) ?_
    refine g_aload 165 hC (j := 0) (hj := rfl) (hd := d_Rotations_rankByNext_165) ?_
    refine g_put 167 hC i_Rotations rfl 0 rfl 3 (by decide) t_Rotations tk_Rotations n_Rotations k223 rfl rfl rfl (Nat.le_of_ble_eq_true rfl) [(q_a0, .inr (10, [.ref q_a0_order, .ref r_a0_orderNext, .ref q_a0_rankNext, .ref q_a0_rank, .ref r_a0_slots, .int v3.1])), (q_a0_order, .inl (g_K C 0, 2250, .inl f_a0_order)), (q_a0_rank, .inl (g_K C 0, 2250, .inl f_a0_rank)), (q_a0_rankNext, .inl (g_K C 0, 2250, .inl v3.2))] rfl d_Rotations_rankByNext_167 ?_
    exact g_re [0, 1, 3, 2] [] rfl rfl rfl (kr (q_a0_rankNext, q_a0_rank) (v3.1, f_a0_rank, v3.2) 170 [] (Option.some.inj hf) d_Rotations_rankByNext_170)
  have Gu2 := lp_ind (b := (Rotations_rankByNext_L13 p1 f_a0_order p2 f_a0_rank)) (G := fun (s1 : (Int32 × Int32 × Int32 × Int32 × (Nat → Int32))) => gAt C 0 0 [(q_a0, .inr (10, [.ref q_a0_order, .ref r_a0_orderNext, .ref q_a0_rank, .ref q_a0_rankNext, .ref r_a0_slots, .int s1.2.2.2.1])), (q_a0_order, .inl (g_K C 0, 2250, .inl f_a0_order)), (q_a0_rank, .inl (g_K C 0, 2250, .inl f_a0_rank)), (q_a0_rankNext, .inl (g_K C 0, 2250, .inl s1.2.2.2.2))] [(0, .ref q_a0), (1, .int p1), (2, .int p2), (3, .int s1.1), (4, .int s1.2.1), (5, .int s1.2.2.1)] 13 []) (o := u2) (by
      intro s1 u4 hf hI hX
      unfold Rotations_rankByNext_L13 at hf
      have J133 : ∀ (j133_0 : Int32) (j133_1 : Int32) (j133_2 : Int32) (j133_3 : Int32) (j133_4 : (Nat → Int32)), Rotations_rankByNext_J133 s1 j133_0 j133_1 j133_2 j133_3 j133_4 = some u4 → gAt C 0 0 [(q_a0, .inr (10, [.ref q_a0_order, .ref r_a0_orderNext, .ref q_a0_rank, .ref q_a0_rankNext, .ref r_a0_slots, .int s1.2.2.2.1])), (q_a0_order, .inl (g_K C 0, 2250, .inl f_a0_order)), (q_a0_rank, .inl (g_K C 0, 2250, .inl f_a0_rank)), (q_a0_rankNext, .inl (g_K C 0, 2250, .inl j133_4))] [(0, .ref q_a0), (1, .int p1), (2, .int p2), (5, .int s1.2.2.1), (6, .int j133_0), (7, .int j133_1)] 133 [.int j133_2, .int j133_3, .ref q_a0] := by
        intro j133_0 j133_1 j133_2 j133_3 j133_4 hf
        unfold Rotations_rankByNext_J133 at hf
        refine g_iadd 133 hC d_Rotations_rankByNext_133 ?_
        refine g_put 134 hC i_Rotations rfl 0 rfl 5 (by decide) t_Rotations tk_Rotations n_Rotations k225 rfl rfl rfl (Nat.le_of_ble_eq_true rfl) [(q_a0, .inr (10, [.ref q_a0_order, .ref r_a0_orderNext, .ref q_a0_rank, .ref q_a0_rankNext, .ref r_a0_slots, .int (j133_3 + j133_2)])), (q_a0_order, .inl (g_K C 0, 2250, .inl f_a0_order)), (q_a0_rank, .inl (g_K C 0, 2250, .inl f_a0_rank)), (q_a0_rankNext, .inl (g_K C 0, 2250, .inl j133_4))] rfl d_Rotations_rankByNext_134 ?_
        refine g_iload 137 hC (j := 4) (hj := rfl) (hd := d_Rotations_rankByNext_137) ?_
        refine g_istore_n 139 hC (lv2 := [(3, .int j133_0), (0, .ref q_a0), (1, .int p1), (2, .int p2), (5, .int s1.2.2.1), (6, .int j133_0), (7, .int j133_1)]) (hn := (by decide)) (hl2 := rfl) (hd := d_Rotations_rankByNext_139) ?_
        refine g_iload 140 hC (j := 6) (hj := rfl) (hd := d_Rotations_rankByNext_140) ?_
        refine g_istore 142 hC (lv2 := [(4, .int j133_1), (3, .int j133_0), (0, .ref q_a0), (1, .int p1), (2, .int p2), (5, .int s1.2.2.1), (6, .int j133_0), (7, .int j133_1)]) (hn := (by decide)) (hl2 := rfl) (hd := d_Rotations_rankByNext_142) ?_
        refine g_iinc 144 hC 5 (1 : Int32) [(5, .int (s1.2.2.1 + (1 : Int32))), (4, .int j133_1), (3, .int j133_0), (0, .ref q_a0), (1, .int p1), (2, .int p2), (6, .int j133_0), (7, .int j133_1)] rfl (by decide) (by decide) rfl d_Rotations_rankByNext_144 ?_
        refine g_goto 147 hC 13 (by decide) d_Rotations_rankByNext_147 ?_
        exact g_re [0, 1, 2, 3] [3, 4, 5, 2, 1, 0] rfl rfl rfl (hI (j133_0, j133_1, (s1.2.2.1 + (1 : Int32)), (j133_3 + j133_2), j133_4) hf)
      have J117 : ∀ (j117_0 : Int32) (j117_1 : Int32) (j117_2 : Int32) (j117_3 : Int32) (j117_4 : Int32), Rotations_rankByNext_J117 s1 j117_0 j117_1 j117_2 j117_3 j117_4 = some u4 → gAt C 0 0 [(q_a0, .inr (10, [.ref q_a0_order, .ref r_a0_orderNext, .ref q_a0_rank, .ref q_a0_rankNext, .ref r_a0_slots, .int s1.2.2.2.1])), (q_a0_order, .inl (g_K C 0, 2250, .inl f_a0_order)), (q_a0_rank, .inl (g_K C 0, 2250, .inl f_a0_rank)), (q_a0_rankNext, .inl (g_K C 0, 2250, .inl s1.2.2.2.2))] [(0, .ref q_a0), (1, .int p1), (2, .int p2), (5, .int s1.2.2.1), (6, .int j117_0), (7, .int j117_1), (8, .int j117_2)] 117 [.int j117_3, .int j117_4, .ref q_a0_rankNext] := by
        intro j117_0 j117_1 j117_2 j117_3 j117_4 hf
        unfold Rotations_rankByNext_J117 at hf
        obtain ⟨e5, hf⟩ := gd_some hf
        refine g_iast 117 hC 3 rfl e5 [(q_a0, .inr (10, [.ref q_a0_order, .ref r_a0_orderNext, .ref q_a0_rank, .ref q_a0_rankNext, .ref r_a0_slots, .int s1.2.2.2.1])), (q_a0_order, .inl (g_K C 0, 2250, .inl f_a0_order)), (q_a0_rank, .inl (g_K C 0, 2250, .inl f_a0_rank)), (q_a0_rankNext, .inl (g_K C 0, 2250, .inl (upd s1.2.2.2.2 j117_4.toNatClampNeg j117_3)))] rfl d_Rotations_rankByNext_117 ?_
        refine g_aload_n 118 hC (j := 0) (hj := rfl) (hd := d_Rotations_rankByNext_118) ?_
        refine g_dup 119 hC rfl d_Rotations_rankByNext_119 ?_
        refine g_get 120 hC i_Rotations rfl 0 rfl 5 (by decide) k225 rfl d_Rotations_rankByNext_120 ?_
        refine g_iload 123 hC (j := 6) (hj := rfl) (hd := d_Rotations_rankByNext_123) ?_
        refine g_if_eq 125 hC 132 (by decide) d_Rotations_rankByNext_125 (fun c6 => ?_) (fun c6 => ?_)
        · have hf := it_t c6 hf
          refine g_iconst 132 hC (1 : Int32) (by decide) d_Rotations_rankByNext_132 ?_
          exact g_re [0, 1, 2, 3] [0, 1, 2, 3, 4, 5] rfl rfl rfl (J133 j117_0 j117_1 (1 : Int32) s1.2.2.2.1 (upd s1.2.2.2.2 j117_4.toNatClampNeg j117_3) hf)
        · have hf := it_f c6 hf
          refine g_iconst 128 hC (0 : Int32) (by decide) d_Rotations_rankByNext_128 ?_
          refine g_goto 129 hC 133 (by decide) d_Rotations_rankByNext_129 ?_
          exact g_re [0, 1, 2, 3] [0, 1, 2, 3, 4, 5] rfl rfl rfl (J133 j117_0 j117_1 (0 : Int32) s1.2.2.2.1 (upd s1.2.2.2.2 j117_4.toNatClampNeg j117_3) hf)
      have J93 : ∀ (j93_0 : Int32) (j93_1 : Int32) (j93_2 : Int32), Rotations_rankByNext_J93 s1 j93_0 j93_1 j93_2 = some u4 → gAt C 0 0 [(q_a0, .inr (10, [.ref q_a0_order, .ref r_a0_orderNext, .ref q_a0_rank, .ref q_a0_rankNext, .ref r_a0_slots, .int s1.2.2.2.1])), (q_a0_order, .inl (g_K C 0, 2250, .inl f_a0_order)), (q_a0_rank, .inl (g_K C 0, 2250, .inl f_a0_rank)), (q_a0_rankNext, .inl (g_K C 0, 2250, .inl s1.2.2.2.2))] [(0, .ref q_a0), (1, .int p1), (2, .int p2), (3, .int s1.1), (5, .int s1.2.2.1), (6, .int j93_0), (7, .int j93_1)] 93 [.int j93_2] := by
        intro j93_0 j93_1 j93_2 hf
        unfold Rotations_rankByNext_J93 at hf
        refine g_istore 93 hC (lv2 := [(8, .int j93_2), (0, .ref q_a0), (1, .int p1), (2, .int p2), (3, .int s1.1), (5, .int s1.2.2.1), (6, .int j93_0), (7, .int j93_1)]) (hn := (by decide)) (hl2 := rfl) (hd := d_Rotations_rankByNext_93) ?_
        refine g_aload_n 95 hC (j := 1) (hj := rfl) (hd := d_Rotations_rankByNext_95) ?_
        refine g_get 96 hC i_Rotations rfl 0 rfl 3 (by decide) k223 rfl d_Rotations_rankByNext_96 ?_
        refine g_iload 99 hC (j := 6) (hj := rfl) (hd := d_Rotations_rankByNext_99) ?_
        refine g_iload 101 hC (j := 0) (hj := rfl) (hd := d_Rotations_rankByNext_101) ?_
        refine g_if_eq 103 hC 115 (by decide) d_Rotations_rankByNext_103 (fun c7 => ?_) (fun c7 => ?_)
        · have hf := it_t c7 hf
          refine g_iload 115 hC (j := 5) (hj := rfl) (hd := d_Rotations_rankByNext_115) ?_
          exact g_re [0, 1, 2, 3] [1, 2, 3, 5, 6, 7, 0] rfl rfl rfl (J117 j93_0 j93_1 j93_2 s1.2.2.1 j93_0 hf)
        · have hf := it_f c7 hf
          refine g_aload_n 106 hC (j := 1) (hj := rfl) (hd := d_Rotations_rankByNext_106) ?_
          refine g_get 107 hC i_Rotations rfl 0 rfl 3 (by decide) k223 rfl d_Rotations_rankByNext_107 ?_
          refine g_iload_n 110 hC (j := 4) (hj := rfl) (hd := d_Rotations_rankByNext_110) ?_
          obtain ⟨e8, hf⟩ := gd_some hf
          refine g_iald 111 hC 3 rfl e8 d_Rotations_rankByNext_111 ?_
          refine g_goto 112 hC 117 (by decide) d_Rotations_rankByNext_112 ?_
          exact g_re [0, 1, 2, 3] [1, 2, 3, 5, 6, 7, 0] rfl rfl rfl (J117 j93_0 j93_1 j93_2 (s1.2.2.2.2 s1.1.toNatClampNeg) j93_0 hf)
      have J92 : ∀ (j92_0 : Int32) (j92_1 : Int32), Rotations_rankByNext_J92 s1 j92_0 j92_1 = some u4 → gAt C 0 0 [(q_a0, .inr (10, [.ref q_a0_order, .ref r_a0_orderNext, .ref q_a0_rank, .ref q_a0_rankNext, .ref r_a0_slots, .int s1.2.2.2.1])), (q_a0_order, .inl (g_K C 0, 2250, .inl f_a0_order)), (q_a0_rank, .inl (g_K C 0, 2250, .inl f_a0_rank)), (q_a0_rankNext, .inl (g_K C 0, 2250, .inl s1.2.2.2.2))] [(0, .ref q_a0), (1, .int p1), (2, .int p2), (3, .int s1.1), (5, .int s1.2.2.1), (6, .int j92_0), (7, .int j92_1)] 92 [] := by
        intro j92_0 j92_1 hf
        unfold Rotations_rankByNext_J92 at hf
        refine g_iconst 92 hC (0 : Int32) (by decide) d_Rotations_rankByNext_92 ?_
        exact J93 j92_0 j92_1 (0 : Int32) hf
      have J47 : ∀ (j47_0 : Int32) (j47_1 : Int32) (j47_2 : Int32), Rotations_rankByNext_J47 s1 f_a0_rank j47_0 j47_1 j47_2 = some u4 → gAt C 0 0 [(q_a0, .inr (10, [.ref q_a0_order, .ref r_a0_orderNext, .ref q_a0_rank, .ref q_a0_rankNext, .ref r_a0_slots, .int s1.2.2.2.1])), (q_a0_order, .inl (g_K C 0, 2250, .inl f_a0_order)), (q_a0_rank, .inl (g_K C 0, 2250, .inl f_a0_rank)), (q_a0_rankNext, .inl (g_K C 0, 2250, .inl s1.2.2.2.2))] [(0, .ref q_a0), (1, .int p1), (2, .int p2), (3, .int s1.1), (4, .int s1.2.1), (5, .int s1.2.2.1), (6, .int j47_0)] 47 [.int j47_1, .int j47_2] := by
        intro j47_0 j47_1 j47_2 hf
        unfold Rotations_rankByNext_J47 at hf
        refine g_isub 47 hC d_Rotations_rankByNext_47 ?_
        refine g_istore 48 hC (lv2 := [(7, .int (j47_2 - j47_1)), (0, .ref q_a0), (1, .int p1), (2, .int p2), (3, .int s1.1), (4, .int s1.2.1), (5, .int s1.2.2.1), (6, .int j47_0)]) (hn := (by decide)) (hl2 := rfl) (hd := d_Rotations_rankByNext_48) ?_
        refine g_iload 50 hC (j := 6) (hj := rfl) (hd := d_Rotations_rankByNext_50) ?_
        refine g_if_le 52 hC 92 (by decide) d_Rotations_rankByNext_52 (fun c9 => ?_) (fun c9 => ?_)
        · have hf := it_t c9 hf
          exact g_re [0, 1, 2, 3] [1, 2, 3, 4, 6, 7, 0] rfl rfl rfl (J92 j47_0 (j47_2 - j47_1) hf)
        · have hf := it_f c9 hf
          refine g_aload_n 55 hC (j := 1) (hj := rfl) (hd := d_Rotations_rankByNext_55) ?_
          refine g_get 56 hC i_Rotations rfl 0 rfl 2 (by decide) k222 rfl d_Rotations_rankByNext_56 ?_
          refine g_iload 59 hC (j := 7) (hj := rfl) (hd := d_Rotations_rankByNext_59) ?_
          obtain ⟨e10, hf⟩ := gd_some hf
          refine g_iald 61 hC 2 rfl e10 d_Rotations_rankByNext_61 ?_
          refine g_aload_n 62 hC (j := 1) (hj := rfl) (hd := d_Rotations_rankByNext_62) ?_
          refine g_get 63 hC i_Rotations rfl 0 rfl 2 (by decide) k222 rfl d_Rotations_rankByNext_63 ?_
          refine g_iload_n 66 hC (j := 4) (hj := rfl) (hd := d_Rotations_rankByNext_66) ?_
          obtain ⟨e11, hf⟩ := gd_some hf
          refine g_iald 67 hC 2 rfl e11 d_Rotations_rankByNext_67 ?_
          refine g_icmp_ne 68 hC 92 (by decide) d_Rotations_rankByNext_68 (fun c12 => ?_) (fun c12 => ?_)
          · have hf := it_f c12 hf
            exact g_re [0, 1, 2, 3] [1, 2, 3, 4, 6, 7, 0] rfl rfl rfl (J92 j47_0 (j47_2 - j47_1) hf)
          · have hf := it_t c12 hf
            refine g_aload_n 71 hC (j := 1) (hj := rfl) (hd := d_Rotations_rankByNext_71) ?_
            refine g_get 72 hC i_Rotations rfl 0 rfl 2 (by decide) k222 rfl d_Rotations_rankByNext_72 ?_
            refine g_iload 75 hC (j := 0) (hj := rfl) (hd := d_Rotations_rankByNext_75) ?_
            obtain ⟨e13, hf⟩ := gd_some hf
            refine g_iald 77 hC 2 rfl e13 d_Rotations_rankByNext_77 ?_
            refine g_aload_n 78 hC (j := 1) (hj := rfl) (hd := d_Rotations_rankByNext_78) ?_
            refine g_get 79 hC i_Rotations rfl 0 rfl 2 (by decide) k222 rfl d_Rotations_rankByNext_79 ?_
            refine g_iload 82 hC (j := 5) (hj := rfl) (hd := d_Rotations_rankByNext_82) ?_
            obtain ⟨e14, hf⟩ := gd_some hf
            refine g_iald 84 hC 2 rfl e14 d_Rotations_rankByNext_84 ?_
            refine g_icmp_ne 85 hC 92 (by decide) d_Rotations_rankByNext_85 (fun c15 => ?_) (fun c15 => ?_)
            · have hf := it_f c15 hf
              exact g_re [0, 1, 2, 3] [1, 2, 3, 4, 6, 7, 0] rfl rfl rfl (J92 j47_0 (j47_2 - j47_1) hf)
            · have hf := it_t c15 hf
              refine g_iconst 88 hC (1 : Int32) (by decide) d_Rotations_rankByNext_88 ?_
              refine g_goto 89 hC 93 (by decide) d_Rotations_rankByNext_89 ?_
              exact g_re [0, 1, 2, 3] [1, 2, 3, 4, 6, 7, 0] rfl rfl rfl (J93 j47_0 (j47_2 - j47_1) (1 : Int32) hf)
      refine g_iload 13 hC (j := 5) (hj := rfl) (hd := d_Rotations_rankByNext_13) ?_
      refine g_iload_n 15 hC (j := 1) (hj := rfl) (hd := d_Rotations_rankByNext_15) ?_
      refine g_icmp_ge 16 hC 150 (by decide) d_Rotations_rankByNext_16 (fun c16 => ?_) (fun c16 => ?_)
      · have hf := it_t c16 hf
        exact g_re [0, 1, 2, 3] [0] rfl rfl rfl (Xu2_0 (s1.2.2.2.1, s1.2.2.2.2) (hX (s1.2.2.2.1, s1.2.2.2.2) hf))
      · have hf := it_f c16 hf
        refine g_aload_n 19 hC (j := 0) (hj := rfl) (hd := d_Rotations_rankByNext_19) ?_
        refine g_get 20 hC i_Rotations rfl 0 rfl 0 (by decide) k220 rfl d_Rotations_rankByNext_20 ?_
        refine g_iload 23 hC (j := 5) (hj := rfl) (hd := d_Rotations_rankByNext_23) ?_
        obtain ⟨e17, hf⟩ := gd_some hf
        refine g_iald 25 hC 1 rfl e17 d_Rotations_rankByNext_25 ?_
        refine g_istore 26 hC (lv2 := [(6, .int (f_a0_order s1.2.2.1.toNatClampNeg)), (0, .ref q_a0), (1, .int p1), (2, .int p2), (3, .int s1.1), (4, .int s1.2.1), (5, .int s1.2.2.1)]) (hn := (by decide)) (hl2 := rfl) (hd := d_Rotations_rankByNext_26) ?_
        refine g_iload 28 hC (j := 0) (hj := rfl) (hd := d_Rotations_rankByNext_28) ?_
        refine g_iload_n 30 hC (j := 3) (hj := rfl) (hd := d_Rotations_rankByNext_30) ?_
        refine g_iadd 31 hC d_Rotations_rankByNext_31 ?_
        refine g_istore 32 hC (lv2 := [(7, .int ((f_a0_order s1.2.2.1.toNatClampNeg) + p2)), (6, .int (f_a0_order s1.2.2.1.toNatClampNeg)), (0, .ref q_a0), (1, .int p1), (2, .int p2), (3, .int s1.1), (4, .int s1.2.1), (5, .int s1.2.2.1)]) (hn := (by decide)) (hl2 := rfl) (hd := d_Rotations_rankByNext_32) ?_
        refine g_iload 34 hC (j := 0) (hj := rfl) (hd := d_Rotations_rankByNext_34) ?_
        refine g_iload 36 hC (j := 0) (hj := rfl) (hd := d_Rotations_rankByNext_36) ?_
        refine g_iload_n 38 hC (j := 3) (hj := rfl) (hd := d_Rotations_rankByNext_38) ?_
        refine g_icmp_lt 39 hC 46 (by decide) d_Rotations_rankByNext_39 (fun c18 => ?_) (fun c18 => ?_)
        · have hf := it_t c18 hf
          refine g_iconst 46 hC (0 : Int32) (by decide) d_Rotations_rankByNext_46 ?_
          exact g_re [0, 1, 2, 3] [2, 3, 4, 5, 6, 7, 1] rfl rfl rfl (J47 (f_a0_order s1.2.2.1.toNatClampNeg) (0 : Int32) ((f_a0_order s1.2.2.1.toNatClampNeg) + p2) hf)
        · have hf := it_f c18 hf
          refine g_iload_n 42 hC (j := 3) (hj := rfl) (hd := d_Rotations_rankByNext_42) ?_
          refine g_goto 43 hC 47 (by decide) d_Rotations_rankByNext_43 ?_
          exact g_re [0, 1, 2, 3] [2, 3, 4, 5, 6, 7, 1] rfl rfl rfl (J47 (f_a0_order s1.2.2.1.toNatClampNeg) p1 ((f_a0_order s1.2.2.1.toNatClampNeg) + p2) hf)) gas
  exact g_re [0, 1, 2, 3] [3, 4, 5, 2, 1, 0] rfl rfl rfl (Gu2 ((0 : Int32), (0 : Int32), (0 : Int32), (0 : Int32), f_a0_rankNext) hu2)
theorem c_Rotations_rankByNext (l : Launch) (D : va_G) (K : Nat → ClassId) (q_a0 : Nat) (q_a0_order : Nat) (r_a0_orderNext : Nat) (q_a0_rank : Nat) (q_a0_rankNext : Nat) (r_a0_slots : Nat) (x_a0_ranks : Int32) (f_a0_order : (Nat → Int32)) (f_a0_rank : (Nat → Int32)) (f_a0_rankNext : (Nat → Int32)) (p1 : Int32) (p2 : Int32) (out : (Int32 × (Nat → Int32) × (Nat → Int32))) (hf : Rotations_rankByNext_f p1 f_a0_order p2 f_a0_rank f_a0_rankNext = some out) : Cv l D K y_Rotations_rankByNext (g_wd y_Rotations_rankByNext b_Rotations_rankByNext 9 none) { frames := 0, cells := 0, slots := 0, locals := 0 } [.ref q_a0, .int p1, .int p2] [(q_a0, .inr (10, [.ref q_a0_order, .ref r_a0_orderNext, .ref q_a0_rank, .ref q_a0_rankNext, .ref r_a0_slots, .int x_a0_ranks])), (q_a0_order, .inl (K 0, 2250, .inl f_a0_order)), (q_a0_rank, .inl (K 0, 2250, .inl f_a0_rank)), (q_a0_rankNext, .inl (K 0, 2250, .inl f_a0_rankNext))] (fun (x : (Nat × Nat)) => [(q_a0, .inr (10, [.ref q_a0_order, .ref r_a0_orderNext, .ref x.1, .ref x.2, .ref r_a0_slots, .int out.1])), (q_a0_order, .inl (K 0, 2250, .inl f_a0_order)), (x.1, .inl (K 0, 2250, .inl out.2.2)), (x.2, .inl (K 0, 2250, .inl out.2.1))]) := mk_v (by decide) (Nat.le_of_ble_eq_true rfl) (fun p e s m below meth c A Q hC kr => m_Rotations_rankByNext hC q_a0 q_a0_order r_a0_orderNext q_a0_rank q_a0_rankNext r_a0_slots x_a0_ranks f_a0_order f_a0_rank f_a0_rankNext p1 p2 out hf (fun x o9 pc lv ho => by subst ho; exact kr x pc lv))
