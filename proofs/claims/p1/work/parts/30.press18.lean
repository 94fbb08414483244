abbrev b_Coder_joinLeast : ByteArray := prog_8_method_11_code
def y_Coder_joinLeast : MethodName := ⟨R_Coder, "joinLeast", "(I)V"⟩
theorem d_Coder_joinLeast_0 : decode b_Coder_joinLeast 0 = .ok (.iconst 0, 1) := by decide +kernel
theorem d_Coder_joinLeast_1 : decode b_Coder_joinLeast 1 = .ok (.istore_n 2, 1) := by decide +kernel
theorem d_Coder_joinLeast_2 : decode b_Coder_joinLeast 2 = .ok (.iload_n 1, 1) := by decide +kernel
theorem d_Coder_joinLeast_3 : decode b_Coder_joinLeast 3 = .ok (.istore_n 3, 1) := by decide +kernel
theorem d_Coder_joinLeast_4 : decode b_Coder_joinLeast 4 = .ok (.iload_n 1, 1) := by decide +kernel
theorem d_Coder_joinLeast_5 : decode b_Coder_joinLeast 5 = .ok (.istore 4, 2) := by decide +kernel
theorem d_Coder_joinLeast_7 : decode b_Coder_joinLeast 7 = .ok (.iload 4, 2) := by decide +kernel
theorem d_Coder_joinLeast_9 : decode b_Coder_joinLeast 9 = .ok (.iconst 2, 1) := by decide +kernel
theorem d_Coder_joinLeast_10 : decode b_Coder_joinLeast 10 = .ok (.iload_n 1, 1) := by decide +kernel
theorem d_Coder_joinLeast_11 : decode b_Coder_joinLeast 11 = .ok (.imul, 1) := by decide +kernel
theorem d_Coder_joinLeast_12 : decode b_Coder_joinLeast 12 = .ok (.iconst 1, 1) := by decide +kernel
theorem d_Coder_joinLeast_13 : decode b_Coder_joinLeast 13 = .ok (.isub, 1) := by decide +kernel
theorem d_Coder_joinLeast_14 : decode b_Coder_joinLeast 14 = .ok (.if_icmp .ge 121, 3) := by decide +kernel
theorem d_Coder_joinLeast_17 : decode b_Coder_joinLeast 17 = .ok (.aload_n 0, 1) := by decide +kernel
theorem d_Coder_joinLeast_18 : decode b_Coder_joinLeast 18 = .ok (.getfield 9, 3) := by decide +kernel
theorem d_Coder_joinLeast_21 : decode b_Coder_joinLeast 21 = .ok (.iload 4, 2) := by decide +kernel
theorem d_Coder_joinLeast_23 : decode b_Coder_joinLeast 23 = .ok (.iconst 0, 1) := by decide +kernel
theorem d_Coder_joinLeast_24 : decode b_Coder_joinLeast 24 = .ok (.iastore, 1) := by decide +kernel
theorem d_Coder_joinLeast_25 : decode b_Coder_joinLeast 25 = .ok (.iconst 0, 1) := by decide +kernel
theorem d_Coder_joinLeast_26 : decode b_Coder_joinLeast 26 = .ok (.istore 5, 2) := by decide +kernel
theorem d_Coder_joinLeast_28 : decode b_Coder_joinLeast 28 = .ok (.iload 5, 2) := by decide +kernel
theorem d_Coder_joinLeast_30 : decode b_Coder_joinLeast 30 = .ok (.iconst 2, 1) := by decide +kernel
theorem d_Coder_joinLeast_31 : decode b_Coder_joinLeast 31 = .ok (.if_icmp .ge 98, 3) := by decide +kernel
theorem d_Coder_joinLeast_34 : decode b_Coder_joinLeast 34 = .ok (.iload_n 3, 1) := by decide +kernel
theorem d_Coder_joinLeast_35 : decode b_Coder_joinLeast 35 = .ok (.iload 4, 2) := by decide +kernel
theorem d_Coder_joinLeast_37 : decode b_Coder_joinLeast 37 = .ok (.if_icmp .ne 7, 3) := by decide +kernel
theorem d_Coder_joinLeast_40 : decode b_Coder_joinLeast 40 = .ok (.iconst 1, 1) := by decide +kernel
theorem d_Coder_joinLeast_41 : decode b_Coder_joinLeast 41 = .ok (.goto 4, 3) := by decide +kernel
theorem d_Coder_joinLeast_44 : decode b_Coder_joinLeast 44 = .ok (.iconst 0, 1) := by decide +kernel
theorem d_Coder_joinLeast_45 : decode b_Coder_joinLeast 45 = .ok (.istore 6, 2) := by decide +kernel
theorem d_Coder_joinLeast_47 : decode b_Coder_joinLeast 47 = .ok (.iload_n 3, 1) := by decide +kernel
theorem d_Coder_joinLeast_48 : decode b_Coder_joinLeast 48 = .ok (.istore 7, 2) := by decide +kernel
theorem d_Coder_joinLeast_50 : decode b_Coder_joinLeast 50 = .ok (.iload_n 2, 1) := by decide +kernel
theorem d_Coder_joinLeast_51 : decode b_Coder_joinLeast 51 = .ok (.iload_n 1, 1) := by decide +kernel
theorem d_Coder_joinLeast_52 : decode b_Coder_joinLeast 52 = .ok (.if_icmp .ge 42, 3) := by decide +kernel
theorem d_Coder_joinLeast_55 : decode b_Coder_joinLeast 55 = .ok (.iload 6, 2) := by decide +kernel
theorem d_Coder_joinLeast_57 : decode b_Coder_joinLeast 57 = .ok (.ifCond .ne 23, 3) := by decide +kernel
theorem d_Coder_joinLeast_60 : decode b_Coder_joinLeast 60 = .ok (.aload_n 0, 1) := by decide +kernel
theorem d_Coder_joinLeast_61 : decode b_Coder_joinLeast 61 = .ok (.getfield 9, 3) := by decide +kernel
theorem d_Coder_joinLeast_64 : decode b_Coder_joinLeast 64 = .ok (.aload_n 0, 1) := by decide +kernel
theorem d_Coder_joinLeast_65 : decode b_Coder_joinLeast 65 = .ok (.getfield 21, 3) := by decide +kernel
theorem d_Coder_joinLeast_68 : decode b_Coder_joinLeast 68 = .ok (.iload_n 2, 1) := by decide +kernel
theorem d_Coder_joinLeast_69 : decode b_Coder_joinLeast 69 = .ok (.iaload, 1) := by decide +kernel
theorem d_Coder_joinLeast_70 : decode b_Coder_joinLeast 70 = .ok (.iaload, 1) := by decide +kernel
theorem d_Coder_joinLeast_71 : decode b_Coder_joinLeast 71 = .ok (.aload_n 0, 1) := by decide +kernel
theorem d_Coder_joinLeast_72 : decode b_Coder_joinLeast 72 = .ok (.getfield 9, 3) := by decide +kernel
theorem d_Coder_joinLeast_75 : decode b_Coder_joinLeast 75 = .ok (.iload_n 3, 1) := by decide +kernel
theorem d_Coder_joinLeast_76 : decode b_Coder_joinLeast 76 = .ok (.iaload, 1) := by decide +kernel
theorem d_Coder_joinLeast_77 : decode b_Coder_joinLeast 77 = .ok (.if_icmp .gt 17, 3) := by decide +kernel
theorem d_Coder_joinLeast_80 : decode b_Coder_joinLeast 80 = .ok (.aload_n 0, 1) := by decide +kernel
theorem d_Coder_joinLeast_81 : decode b_Coder_joinLeast 81 = .ok (.getfield 21, 3) := by decide +kernel
theorem d_Coder_joinLeast_84 : decode b_Coder_joinLeast 84 = .ok (.iload_n 2, 1) := by decide +kernel
theorem d_Coder_joinLeast_85 : decode b_Coder_joinLeast 85 = .ok (.iaload, 1) := by decide +kernel
theorem d_Coder_joinLeast_86 : decode b_Coder_joinLeast 86 = .ok (.istore 7, 2) := by decide +kernel
theorem d_Coder_joinLeast_88 : decode b_Coder_joinLeast 88 = .ok (.iinc 2 1, 3) := by decide +kernel
theorem d_Coder_joinLeast_91 : decode b_Coder_joinLeast 91 = .ok (.goto 6, 3) := by decide +kernel
theorem d_Coder_joinLeast_94 : decode b_Coder_joinLeast 94 = .ok (.iinc 3 1, 3) := by decide +kernel
theorem d_Coder_joinLeast_97 : decode b_Coder_joinLeast 97 = .ok (.aload_n 0, 1) := by decide +kernel
theorem d_Coder_joinLeast_98 : decode b_Coder_joinLeast 98 = .ok (.getfield 15, 3) := by decide +kernel
theorem d_Coder_joinLeast_101 : decode b_Coder_joinLeast 101 = .ok (.iload 7, 2) := by decide +kernel
theorem d_Coder_joinLeast_103 : decode b_Coder_joinLeast 103 = .ok (.iload 4, 2) := by decide +kernel
theorem d_Coder_joinLeast_105 : decode b_Coder_joinLeast 105 = .ok (.iastore, 1) := by decide +kernel
theorem d_Coder_joinLeast_106 : decode b_Coder_joinLeast 106 = .ok (.aload_n 0, 1) := by decide +kernel
theorem d_Coder_joinLeast_107 : decode b_Coder_joinLeast 107 = .ok (.getfield 9, 3) := by decide +kernel
theorem d_Coder_joinLeast_110 : decode b_Coder_joinLeast 110 = .ok (.iload 4, 2) := by decide +kernel
theorem d_Coder_joinLeast_112 : decode b_Coder_joinLeast 112 = .ok (.dup2, 1) := by decide +kernel
theorem d_Coder_joinLeast_113 : decode b_Coder_joinLeast 113 = .ok (.iaload, 1) := by decide +kernel
theorem d_Coder_joinLeast_114 : decode b_Coder_joinLeast 114 = .ok (.aload_n 0, 1) := by decide +kernel
theorem d_Coder_joinLeast_115 : decode b_Coder_joinLeast 115 = .ok (.getfield 9, 3) := by decide +kernel
theorem d_Coder_joinLeast_118 : decode b_Coder_joinLeast 118 = .ok (.iload 7, 2) := by decide +kernel
theorem d_Coder_joinLeast_120 : decode b_Coder_joinLeast 120 = .ok (.iaload, 1) := by decide +kernel
theorem d_Coder_joinLeast_121 : decode b_Coder_joinLeast 121 = .ok (.iadd, 1) := by decide +kernel
theorem d_Coder_joinLeast_122 : decode b_Coder_joinLeast 122 = .ok (.iastore, 1) := by decide +kernel
theorem d_Coder_joinLeast_123 : decode b_Coder_joinLeast 123 = .ok (.iinc 5 1, 3) := by decide +kernel
theorem d_Coder_joinLeast_126 : decode b_Coder_joinLeast 126 = .ok (.goto (-98), 3) := by decide +kernel
theorem d_Coder_joinLeast_129 : decode b_Coder_joinLeast 129 = .ok (.iinc 4 1, 3) := by decide +kernel
theorem d_Coder_joinLeast_132 : decode b_Coder_joinLeast 132 = .ok (.goto (-125), 3) := by decide +kernel
theorem d_Coder_joinLeast_135 : decode b_Coder_joinLeast 135 = .ok (.return_, 1) := by decide +kernel
theorem k246 : (Jvm.Cond.fieldLink "RotationPress$Coder" (15 : Nat) "RotationPress$Coder" "sums" "[I") ∈ g_tbl := List.mem_filter.mpr ⟨List.mem_append_right (k2_sels lw_privs) (List.mem_append_right _ (List.mem_append_left _ (List.mem_of_getElem? (l := tables_1_2) (i := 6) rfl))), rfl⟩
set_option maxRecDepth 100000 in
set_option maxHeartbeats 4000000 in
theorem m_Coder_joinLeast {C : gT} (hC : gOk C b_Coder_joinLeast R_Coder { frames := 0, cells := 0, slots := 0, locals := 0 } 8) (q_a0 : Nat) (q_a0_weights : Nat) (q_a0_sums : Nat) (r_a0_depths : Nat) (q_a0_sorted : Nat) (r_a0_slots : Nat) (f_a0_weights : (Nat → Int32)) (f_a0_sorted : (Nat → Int32)) (f_a0_sums : (Nat → Int32)) (p1 : Int32) (out : ((Nat → Int32) × (Nat → Int32))) (hf : Coder_joinLeast_f p1 f_a0_sorted f_a0_weights f_a0_sums = some out) (kr : ∀ (x : Unit) (o9 : ((Nat → Int32) × (Nat → Int32))) (pc : Nat) (lv : List (Nat × Value)), o9 = out → decode b_Coder_joinLeast pc = .ok (.return_, 1) → gAt C 0 0 [(q_a0, .inr (7, [.ref q_a0_weights, .ref q_a0_sums, .ref r_a0_depths, .ref q_a0_sorted, .ref r_a0_slots])), (q_a0_weights, .inl (g_K C 0, 516, .inl o9.1)), (q_a0_sorted, .inl (g_K C 0, 258, .inl f_a0_sorted)), (q_a0_sums, .inl (g_K C 0, 516, .inl o9.2))] lv pc []) : gAt C 0 0 [(q_a0, .inr (7, [.ref q_a0_weights, .ref q_a0_sums, .ref r_a0_depths, .ref q_a0_sorted, .ref r_a0_slots])), (q_a0_weights, .inl (g_K C 0, 516, .inl f_a0_weights)), (q_a0_sorted, .inl (g_K C 0, 258, .inl f_a0_sorted)), (q_a0_sums, .inl (g_K C 0, 516, .inl f_a0_sums))] [(0, .ref q_a0), (1, .int p1)] 0 [] := by
  unfold Coder_joinLeast_f at hf
  refine g_iconst 0 hC (0 : Int32) (by decide) d_Coder_joinLeast_0 ?_
  refine g_istore_n 1 hC (lv2 := [(2, .int (0 : Int32)), (0, .ref q_a0), (1, .int p1)]) (hn := (by decide)) (hl2 := rfl) (hd := d_Coder_joinLeast_1) ?_
  refine g_iload_n 2 hC (j := 2) (hj := rfl) (hd := d_Coder_joinLeast_2) ?_
  refine g_istore_n 3 hC (lv2 := [(3, .int p1), (2, .int (0 : Int32)), (0, .ref q_a0), (1, .int p1)]) (hn := (by decide)) (hl2 := rfl) (hd := d_Coder_joinLeast_3) ?_
  refine g_iload_n 4 hC (j := 3) (hj := rfl) (hd := d_Coder_joinLeast_4) ?_
  refine g_istore 5 hC (lv2 := [(4, .int p1), (3, .int p1), (2, .int (0 : Int32)), (0, .ref q_a0), (1, .int p1)]) (hn := (by decide)) (hl2 := rfl) (hd := d_Coder_joinLeast_5) ?_
  obtain ⟨u2, hu2, hf⟩ := bd_some hf
  have Xu2_0 : ∀ (v3 : ((Nat → Int32) × (Nat → Int32))), v3 = u2 → gAt C 0 0 [(q_a0, .inr (7, [.ref q_a0_weights, .ref q_a0_sums, .ref r_a0_depths, .ref q_a0_sorted, .ref r_a0_slots])), (q_a0_weights, .inl (g_K C 0, 516, .inl v3.1)), (q_a0_sorted, .inl (g_K C 0, 258, .inl f_a0_sorted)), (q_a0_sums, .inl (g_K C 0, 516, .inl v3.2))] [] 135 [] := by
    intro v3 hv
    rw [← hv] at hf
    exact kr () (v3.1, v3.2) 135 [] (Option.some.inj hf) d_Coder_joinLeast_135
  have Gu2 := lp_ind (b := (Coder_joinLeast_L7 p1 f_a0_sorted)) (G := fun (s1 : (Int32 × Int32 × Int32 × (Nat → Int32) × (Nat → Int32))) => gAt C 0 0 [(q_a0, .inr (7, [.ref q_a0_weights, .ref q_a0_sums, .ref r_a0_depths, .ref q_a0_sorted, .ref r_a0_slots])), (q_a0_weights, .inl (g_K C 0, 516, .inl s1.2.2.2.1)), (q_a0_sorted, .inl (g_K C 0, 258, .inl f_a0_sorted)), (q_a0_sums, .inl (g_K C 0, 516, .inl s1.2.2.2.2))] [(0, .ref q_a0), (1, .int p1), (2, .int s1.1), (3, .int s1.2.1), (4, .int s1.2.2.1)] 7 []) (o := u2) (by
      intro s1 u4 hf hI hX
      unfold Coder_joinLeast_L7 at hf
      refine g_iload 7 hC (j := 4) (hj := rfl) (hd := d_Coder_joinLeast_7) ?_
      refine g_iconst 9 hC (2 : Int32) (by decide) d_Coder_joinLeast_9 ?_
      refine g_iload_n 10 hC (j := 1) (hj := rfl) (hd := d_Coder_joinLeast_10) ?_
      refine g_imul 11 hC d_Coder_joinLeast_11 ?_
      refine g_iconst 12 hC (1 : Int32) (by decide) d_Coder_joinLeast_12 ?_
      refine g_isub 13 hC d_Coder_joinLeast_13 ?_
      refine g_icmp_ge 14 hC 135 (by decide) d_Coder_joinLeast_14 (fun c5 => ?_) (fun c5 => ?_)
      · have hf := it_t c5 hf
        exact g_re [0, 1, 2, 3] [] rfl rfl rfl (Xu2_0 (s1.2.2.2.1, s1.2.2.2.2) (hX (s1.2.2.2.1, s1.2.2.2.2) hf))
      · have hf := it_f c5 hf
        refine g_aload_n 17 hC (j := 0) (hj := rfl) (hd := d_Coder_joinLeast_17) ?_
        refine g_get 18 hC i_Coder rfl 0 rfl 0 (by decide) k245 rfl d_Coder_joinLeast_18 ?_
        refine g_iload 21 hC (j := 4) (hj := rfl) (hd := d_Coder_joinLeast_21) ?_
        refine g_iconst 23 hC (0 : Int32) (by decide) d_Coder_joinLeast_23 ?_
        obtain ⟨e6, hf⟩ := gd_some hf
        refine g_iast 24 hC 1 rfl e6 [(q_a0, .inr (7, [.ref q_a0_weights, .ref q_a0_sums, .ref r_a0_depths, .ref q_a0_sorted, .ref r_a0_slots])), (q_a0_weights, .inl (g_K C 0, 516, .inl (upd s1.2.2.2.1 s1.2.2.1.toNatClampNeg (0 : Int32)))), (q_a0_sorted, .inl (g_K C 0, 258, .inl f_a0_sorted)), (q_a0_sums, .inl (g_K C 0, 516, .inl s1.2.2.2.2))] rfl d_Coder_joinLeast_24 ?_
        refine g_iconst 25 hC (0 : Int32) (by decide) d_Coder_joinLeast_25 ?_
        refine g_istore 26 hC (lv2 := [(5, .int (0 : Int32)), (0, .ref q_a0), (1, .int p1), (2, .int s1.1), (3, .int s1.2.1), (4, .int s1.2.2.1)]) (hn := (by decide)) (hl2 := rfl) (hd := d_Coder_joinLeast_26) ?_
        obtain ⟨u8, hu8, hf⟩ := bd_some hf
        have Xu8_0 : ∀ (v9 : (Int32 × Int32 × (Nat → Int32) × (Nat → Int32))), v9 = u8 → gAt C 0 0 [(q_a0, .inr (7, [.ref q_a0_weights, .ref q_a0_sums, .ref r_a0_depths, .ref q_a0_sorted, .ref r_a0_slots])), (q_a0_weights, .inl (g_K C 0, 516, .inl v9.2.2.1)), (q_a0_sorted, .inl (g_K C 0, 258, .inl f_a0_sorted)), (q_a0_sums, .inl (g_K C 0, 516, .inl v9.2.2.2))] [(0, .ref q_a0), (1, .int p1), (2, .int v9.1), (3, .int v9.2.1), (4, .int s1.2.2.1)] 129 [] := by
          intro v9 hv
          rw [← hv] at hf
          refine g_iinc 129 hC 4 (1 : Int32) [(4, .int (s1.2.2.1 + (1 : Int32))), (0, .ref q_a0), (1, .int p1), (2, .int v9.1), (3, .int v9.2.1)] rfl (by decide) (by decide) rfl d_Coder_joinLeast_129 ?_
          refine g_goto 132 hC 7 (by decide) d_Coder_joinLeast_132 ?_
          exact g_re [0, 1, 2, 3] [1, 2, 3, 4, 0] rfl rfl rfl (hI (v9.1, v9.2.1, (s1.2.2.1 + (1 : Int32)), v9.2.2.1, v9.2.2.2) hf)
        have Gu8 := lp_ind (b := (Coder_joinLeast_L28 s1 p1 f_a0_sorted)) (G := fun (s7 : (Int32 × Int32 × Int32 × (Nat → Int32) × (Nat → Int32))) => gAt C 0 0 [(q_a0, .inr (7, [.ref q_a0_weights, .ref q_a0_sums, .ref r_a0_depths, .ref q_a0_sorted, .ref r_a0_slots])), (q_a0_weights, .inl (g_K C 0, 516, .inl s7.2.2.2.1)), (q_a0_sorted, .inl (g_K C 0, 258, .inl f_a0_sorted)), (q_a0_sums, .inl (g_K C 0, 516, .inl s7.2.2.2.2))] [(0, .ref q_a0), (1, .int p1), (2, .int s7.1), (3, .int s7.2.1), (4, .int s1.2.2.1), (5, .int s7.2.2.1)] 28 []) (o := u8) (by
            intro s7 u10 hf hI hX
            unfold Coder_joinLeast_L28 at hf
            have J97 : ∀ (j97_0 : Int32) (j97_1 : Int32) (j97_2 : Int32), Coder_joinLeast_J97 s1 s7 j97_0 j97_1 j97_2 = some u10 → gAt C 0 0 [(q_a0, .inr (7, [.ref q_a0_weights, .ref q_a0_sums, .ref r_a0_depths, .ref q_a0_sorted, .ref r_a0_slots])), (q_a0_weights, .inl (g_K C 0, 516, .inl s7.2.2.2.1)), (q_a0_sorted, .inl (g_K C 0, 258, .inl f_a0_sorted)), (q_a0_sums, .inl (g_K C 0, 516, .inl s7.2.2.2.2))] [(0, .ref q_a0), (1, .int p1), (2, .int j97_0), (3, .int j97_1), (4, .int s1.2.2.1), (5, .int s7.2.2.1), (7, .int j97_2)] 97 [] := by
              intro j97_0 j97_1 j97_2 hf
              unfold Coder_joinLeast_J97 at hf
              refine g_aload_n 97 hC (j := 0) (hj := rfl) (hd := d_Coder_joinLeast_97) ?_
              refine g_get 98 hC i_Coder rfl 0 rfl 1 (by decide) k246 rfl d_Coder_joinLeast_98 ?_
              refine g_iload 101 hC (j := 6) (hj := rfl) (hd := d_Coder_joinLeast_101) ?_
              refine g_iload 103 hC (j := 4) (hj := rfl) (hd := d_Coder_joinLeast_103) ?_
              obtain ⟨e11, hf⟩ := gd_some hf
              refine g_iast 105 hC 3 rfl e11 [(q_a0, .inr (7, [.ref q_a0_weights, .ref q_a0_sums, .ref r_a0_depths, .ref q_a0_sorted, .ref r_a0_slots])), (q_a0_weights, .inl (g_K C 0, 516, .inl s7.2.2.2.1)), (q_a0_sorted, .inl (g_K C 0, 258, .inl f_a0_sorted)), (q_a0_sums, .inl (g_K C 0, 516, .inl (upd s7.2.2.2.2 j97_2.toNatClampNeg s1.2.2.1)))] rfl d_Coder_joinLeast_105 ?_
              refine g_aload_n 106 hC (j := 0) (hj := rfl) (hd := d_Coder_joinLeast_106) ?_
              refine g_get 107 hC i_Coder rfl 0 rfl 0 (by decide) k245 rfl d_Coder_joinLeast_107 ?_
              refine g_iload 110 hC (j := 4) (hj := rfl) (hd := d_Coder_joinLeast_110) ?_
              refine g_dup2 112 hC rfl rfl d_Coder_joinLeast_112 ?_
              obtain ⟨e12, hf⟩ := gd_some hf
              refine g_iald 113 hC 1 rfl e12 d_Coder_joinLeast_113 ?_
              refine g_aload_n 114 hC (j := 0) (hj := rfl) (hd := d_Coder_joinLeast_114) ?_
              refine g_get 115 hC i_Coder rfl 0 rfl 0 (by decide) k245 rfl d_Coder_joinLeast_115 ?_
              refine g_iload 118 hC (j := 6) (hj := rfl) (hd := d_Coder_joinLeast_118) ?_
              obtain ⟨e13, hf⟩ := gd_some hf
              refine g_iald 120 hC 1 rfl e13 d_Coder_joinLeast_120 ?_
              refine g_iadd 121 hC d_Coder_joinLeast_121 ?_
              obtain ⟨e14, hf⟩ := gd_some hf
              refine g_iast 122 hC 1 rfl e14 [(q_a0, .inr (7, [.ref q_a0_weights, .ref q_a0_sums, .ref r_a0_depths, .ref q_a0_sorted, .ref r_a0_slots])), (q_a0_weights, .inl (g_K C 0, 516, .inl (upd s7.2.2.2.1 s1.2.2.1.toNatClampNeg ((s7.2.2.2.1 s1.2.2.1.toNatClampNeg) + (s7.2.2.2.1 j97_2.toNatClampNeg))))), (q_a0_sorted, .inl (g_K C 0, 258, .inl f_a0_sorted)), (q_a0_sums, .inl (g_K C 0, 516, .inl (upd s7.2.2.2.2 j97_2.toNatClampNeg s1.2.2.1)))] rfl d_Coder_joinLeast_122 ?_
              refine g_iinc 123 hC 5 (1 : Int32) [(5, .int (s7.2.2.1 + (1 : Int32))), (0, .ref q_a0), (1, .int p1), (2, .int j97_0), (3, .int j97_1), (4, .int s1.2.2.1), (7, .int j97_2)] rfl (by decide) (by decide) rfl d_Coder_joinLeast_123 ?_
              refine g_goto 126 hC 28 (by decide) d_Coder_joinLeast_126 ?_
              exact g_re [0, 1, 2, 3] [1, 2, 3, 4, 5, 0] rfl rfl rfl (hI (j97_0, j97_1, (s7.2.2.1 + (1 : Int32)), (upd s7.2.2.2.1 s1.2.2.1.toNatClampNeg ((s7.2.2.2.1 s1.2.2.1.toNatClampNeg) + (s7.2.2.2.1 j97_2.toNatClampNeg))), (upd s7.2.2.2.2 j97_2.toNatClampNeg s1.2.2.1)) hf)
            have J94 : ∀ (j94_0 : Int32), Coder_joinLeast_J94 s1 s7 j94_0 = some u10 → gAt C 0 0 [(q_a0, .inr (7, [.ref q_a0_weights, .ref q_a0_sums, .ref r_a0_depths, .ref q_a0_sorted, .ref r_a0_slots])), (q_a0_weights, .inl (g_K C 0, 516, .inl s7.2.2.2.1)), (q_a0_sorted, .inl (g_K C 0, 258, .inl f_a0_sorted)), (q_a0_sums, .inl (g_K C 0, 516, .inl s7.2.2.2.2))] [(0, .ref q_a0), (1, .int p1), (2, .int s7.1), (3, .int s7.2.1), (4, .int s1.2.2.1), (5, .int s7.2.2.1), (7, .int j94_0)] 94 [] := by
              intro j94_0 hf
              unfold Coder_joinLeast_J94 at hf
              refine g_iinc 94 hC 3 (1 : Int32) [(3, .int (s7.2.1 + (1 : Int32))), (0, .ref q_a0), (1, .int p1), (2, .int s7.1), (4, .int s1.2.2.1), (5, .int s7.2.2.1), (7, .int j94_0)] rfl (by decide) (by decide) rfl d_Coder_joinLeast_94 ?_
              exact g_re [0, 1, 2, 3] [1, 2, 3, 0, 4, 5, 6] rfl rfl rfl (J97 s7.1 (s7.2.1 + (1 : Int32)) j94_0 hf)
            have J80 : Coder_joinLeast_J80 s7 s1 f_a0_sorted = some u10 → gAt C 0 0 [(q_a0, .inr (7, [.ref q_a0_weights, .ref q_a0_sums, .ref r_a0_depths, .ref q_a0_sorted, .ref r_a0_slots])), (q_a0_weights, .inl (g_K C 0, 516, .inl s7.2.2.2.1)), (q_a0_sorted, .inl (g_K C 0, 258, .inl f_a0_sorted)), (q_a0_sums, .inl (g_K C 0, 516, .inl s7.2.2.2.2))] [(0, .ref q_a0), (1, .int p1), (2, .int s7.1), (3, .int s7.2.1), (4, .int s1.2.2.1), (5, .int s7.2.2.1)] 80 [] := by
              intro hf
              unfold Coder_joinLeast_J80 at hf
              refine g_aload_n 80 hC (j := 0) (hj := rfl) (hd := d_Coder_joinLeast_80) ?_
              refine g_get 81 hC i_Coder rfl 0 rfl 3 (by decide) k248 rfl d_Coder_joinLeast_81 ?_
              refine g_iload_n 84 hC (j := 2) (hj := rfl) (hd := d_Coder_joinLeast_84) ?_
              obtain ⟨e15, hf⟩ := gd_some hf
              refine g_iald 85 hC 2 rfl e15 d_Coder_joinLeast_85 ?_
              refine g_istore 86 hC (lv2 := [(7, .int (f_a0_sorted s7.1.toNatClampNeg)), (0, .ref q_a0), (1, .int p1), (2, .int s7.1), (3, .int s7.2.1), (4, .int s1.2.2.1), (5, .int s7.2.2.1)]) (hn := (by decide)) (hl2 := rfl) (hd := d_Coder_joinLeast_86) ?_
              refine g_iinc 88 hC 3 (1 : Int32) [(2, .int (s7.1 + (1 : Int32))), (7, .int (f_a0_sorted s7.1.toNatClampNeg)), (0, .ref q_a0), (1, .int p1), (3, .int s7.2.1), (4, .int s1.2.2.1), (5, .int s7.2.2.1)] rfl (by decide) (by decide) rfl d_Coder_joinLeast_88 ?_
              refine g_goto 91 hC 97 (by decide) d_Coder_joinLeast_91 ?_
              exact g_re [0, 1, 2, 3] [2, 3, 0, 4, 5, 6, 1] rfl rfl rfl (J97 (s7.1 + (1 : Int32)) s7.2.1 (f_a0_sorted s7.1.toNatClampNeg) hf)
            have J45 : ∀ (j45_0 : Int32), Coder_joinLeast_J45 p1 s7 s1 f_a0_sorted j45_0 = some u10 → gAt C 0 0 [(q_a0, .inr (7, [.ref q_a0_weights, .ref q_a0_sums, .ref r_a0_depths, .ref q_a0_sorted, .ref r_a0_slots])), (q_a0_weights, .inl (g_K C 0, 516, .inl s7.2.2.2.1)), (q_a0_sorted, .inl (g_K C 0, 258, .inl f_a0_sorted)), (q_a0_sums, .inl (g_K C 0, 516, .inl s7.2.2.2.2))] [(0, .ref q_a0), (1, .int p1), (2, .int s7.1), (3, .int s7.2.1), (4, .int s1.2.2.1), (5, .int s7.2.2.1)] 45 [.int j45_0] := by
              intro j45_0 hf
              unfold Coder_joinLeast_J45 at hf
              refine g_istore 45 hC (lv2 := [(6, .int j45_0), (0, .ref q_a0), (1, .int p1), (2, .int s7.1), (3, .int s7.2.1), (4, .int s1.2.2.1), (5, .int s7.2.2.1)]) (hn := (by decide)) (hl2 := rfl) (hd := d_Coder_joinLeast_45) ?_
              refine g_iload_n 47 hC (j := 4) (hj := rfl) (hd := d_Coder_joinLeast_47) ?_
              refine g_istore 48 hC (lv2 := [(7, .int s7.2.1), (6, .int j45_0), (0, .ref q_a0), (1, .int p1), (2, .int s7.1), (3, .int s7.2.1), (4, .int s1.2.2.1), (5, .int s7.2.2.1)]) (hn := (by decide)) (hl2 := rfl) (hd := d_Coder_joinLeast_48) ?_
              refine g_iload_n 50 hC (j := 4) (hj := rfl) (hd := d_Coder_joinLeast_50) ?_
              refine g_iload_n 51 hC (j := 3) (hj := rfl) (hd := d_Coder_joinLeast_51) ?_
              refine g_icmp_ge 52 hC 94 (by decide) d_Coder_joinLeast_52 (fun c16 => ?_) (fun c16 => ?_)
              · have hf := it_t c16 hf
                exact g_re [0, 1, 2, 3] [2, 3, 4, 5, 6, 7, 0] rfl rfl rfl (J94 s7.2.1 hf)
              · have hf := it_f c16 hf
                refine g_iload 55 hC (j := 1) (hj := rfl) (hd := d_Coder_joinLeast_55) ?_
                refine g_if_ne 57 hC 80 (by decide) d_Coder_joinLeast_57 (fun c17 => ?_) (fun c17 => ?_)
                · have hf := it_f c17 hf
                  exact g_re [0, 1, 2, 3] [2, 3, 4, 5, 6, 7] rfl rfl rfl (J80 hf)
                · have hf := it_t c17 hf
                  refine g_aload_n 60 hC (j := 2) (hj := rfl) (hd := d_Coder_joinLeast_60) ?_
                  refine g_get 61 hC i_Coder rfl 0 rfl 0 (by decide) k245 rfl d_Coder_joinLeast_61 ?_
                  refine g_aload_n 64 hC (j := 2) (hj := rfl) (hd := d_Coder_joinLeast_64) ?_
                  refine g_get 65 hC i_Coder rfl 0 rfl 3 (by decide) k248 rfl d_Coder_joinLeast_65 ?_
                  refine g_iload_n 68 hC (j := 4) (hj := rfl) (hd := d_Coder_joinLeast_68) ?_
                  obtain ⟨e18, hf⟩ := gd_some hf
                  refine g_iald 69 hC 2 rfl e18 d_Coder_joinLeast_69 ?_
                  obtain ⟨e19, hf⟩ := gd_some hf
                  refine g_iald 70 hC 1 rfl e19 d_Coder_joinLeast_70 ?_
                  refine g_aload_n 71 hC (j := 2) (hj := rfl) (hd := d_Coder_joinLeast_71) ?_
                  refine g_get 72 hC i_Coder rfl 0 rfl 0 (by decide) k245 rfl d_Coder_joinLeast_72 ?_
                  refine g_iload_n 75 hC (j := 5) (hj := rfl) (hd := d_Coder_joinLeast_75) ?_
                  obtain ⟨e20, hf⟩ := gd_some hf
                  refine g_iald 76 hC 1 rfl e20 d_Coder_joinLeast_76 ?_
                  refine g_icmp_gt 77 hC 94 (by decide) d_Coder_joinLeast_77 (fun c21 => ?_) (fun c21 => ?_)
                  · have hf := it_t c21 hf
                    exact g_re [0, 1, 2, 3] [2, 3, 4, 5, 6, 7, 0] rfl rfl rfl (J94 s7.2.1 hf)
                  · have hf := it_f c21 hf
                    exact g_re [0, 1, 2, 3] [2, 3, 4, 5, 6, 7] rfl rfl rfl (J80 hf)
            refine g_iload 28 hC (j := 5) (hj := rfl) (hd := d_Coder_joinLeast_28) ?_
            refine g_iconst 30 hC (2 : Int32) (by decide) d_Coder_joinLeast_30 ?_
            refine g_icmp_ge 31 hC 129 (by decide) d_Coder_joinLeast_31 (fun c22 => ?_) (fun c22 => ?_)
            · have hf := it_t c22 hf
              exact g_re [0, 1, 2, 3] [0, 1, 2, 3, 4] rfl rfl rfl (Xu8_0 (s7.1, s7.2.1, s7.2.2.2.1, s7.2.2.2.2) (hX (s7.1, s7.2.1, s7.2.2.2.1, s7.2.2.2.2) hf))
            · have hf := it_f c22 hf
              refine g_iload_n 34 hC (j := 3) (hj := rfl) (hd := d_Coder_joinLeast_34) ?_
              refine g_iload 35 hC (j := 4) (hj := rfl) (hd := d_Coder_joinLeast_35) ?_
              refine g_icmp_ne 37 hC 44 (by decide) d_Coder_joinLeast_37 (fun c23 => ?_) (fun c23 => ?_)
              · have hf := it_f c23 hf
                refine g_iconst 44 hC (0 : Int32) (by decide) d_Coder_joinLeast_44 ?_
                exact J45 (0 : Int32) hf
              · have hf := it_t c23 hf
                refine g_iconst 40 hC (1 : Int32) (by decide) d_Coder_joinLeast_40 ?_
                refine g_goto 41 hC 45 (by decide) d_Coder_joinLeast_41 ?_
                exact J45 (1 : Int32) hf) gas
        exact g_re [0, 1, 2, 3] [1, 2, 3, 4, 5, 0] rfl rfl rfl (Gu8 (s1.1, s1.2.1, (0 : Int32), (upd s1.2.2.2.1 s1.2.2.1.toNatClampNeg (0 : Int32)), s1.2.2.2.2) hu8)) gas
  exact g_re [0, 1, 2, 3] [3, 4, 2, 1, 0] rfl rfl rfl (Gu2 ((0 : Int32), p1, p1, f_a0_weights, f_a0_sums) hu2)
theorem c_Coder_joinLeast (l : Launch) (D : va_G) (K : Nat → ClassId) (q_a0 : Nat) (q_a0_weights : Nat) (q_a0_sums : Nat) (r_a0_depths : Nat) (q_a0_sorted : Nat) (r_a0_slots : Nat) (f_a0_weights : (Nat → Int32)) (f_a0_sorted : (Nat → Int32)) (f_a0_sums : (Nat → Int32)) (p1 : Int32) (out : ((Nat → Int32) × (Nat → Int32))) (hf : Coder_joinLeast_f p1 f_a0_sorted f_a0_weights f_a0_sums = some out) : Cv l D K y_Coder_joinLeast (g_wd y_Coder_joinLeast b_Coder_joinLeast 8 none) { frames := 0, cells := 0, slots := 0, locals := 0 } [.ref q_a0, .int p1] [(q_a0, .inr (7, [.ref q_a0_weights, .ref q_a0_sums, .ref r_a0_depths, .ref q_a0_sorted, .ref r_a0_slots])), (q_a0_weights, .inl (K 0, 516, .inl f_a0_weights)), (q_a0_sorted, .inl (K 0, 258, .inl f_a0_sorted)), (q_a0_sums, .inl (K 0, 516, .inl f_a0_sums))] (fun (x : Unit) => [(q_a0, .inr (7, [.ref q_a0_weights, .ref q_a0_sums, .ref r_a0_depths, .ref q_a0_sorted, .ref r_a0_slots])), (q_a0_weights, .inl (K 0, 516, .inl out.1)), (q_a0_sorted, .inl (K 0, 258, .inl f_a0_sorted)), (q_a0_sums, .inl (K 0, 516, .inl out.2))]) := mk_v (by decide) (Nat.le_of_ble_eq_true rfl) (fun p e s m below meth c A Q hC kr => m_Coder_joinLeast hC q_a0 q_a0_weights q_a0_sums r_a0_depths q_a0_sorted r_a0_slots f_a0_weights f_a0_sorted f_a0_sums p1 out hf (fun x o9 pc lv ho => by subst ho; exact kr x pc lv))
