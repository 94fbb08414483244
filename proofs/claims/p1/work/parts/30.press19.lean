abbrev b_Coder_tellLengths : ByteArray := prog_8_method_12_code
def y_Coder_tellLengths : MethodName := ⟨R_Coder, "tellLengths", "([II)I"⟩
theorem d_Coder_tellLengths_0 : decode b_Coder_tellLengths 0 = .ok (.iconst 0, 1) := by decide +kernel
theorem d_Coder_tellLengths_1 : decode b_Coder_tellLengths 1 = .ok (.istore_n 3, 1) := by decide +kernel
theorem d_Coder_tellLengths_2 : decode b_Coder_tellLengths 2 = .ok (.aload_n 0, 1) := by decide +kernel
theorem d_Coder_tellLengths_3 : decode b_Coder_tellLengths 3 = .ok (.getfield 18, 3) := by decide +kernel
theorem d_Coder_tellLengths_6 : decode b_Coder_tellLengths 6 = .ok (.iconst 2, 1) := by decide +kernel
theorem d_Coder_tellLengths_7 : decode b_Coder_tellLengths 7 = .ok (.iload_n 2, 1) := by decide +kernel
theorem d_Coder_tellLengths_8 : decode b_Coder_tellLengths 8 = .ok (.imul, 1) := by decide +kernel
theorem d_Coder_tellLengths_9 : decode b_Coder_tellLengths 9 = .ok (.iconst 2, 1) := by decide +kernel
theorem d_Coder_tellLengths_10 : decode b_Coder_tellLengths 10 = .ok (.isub, 1) := by decide +kernel
theorem d_Coder_tellLengths_11 : decode b_Coder_tellLengths 11 = .ok (.iconst 0, 1) := by decide +kernel
theorem d_Coder_tellLengths_12 : decode b_Coder_tellLengths 12 = .ok (.iastore, 1) := by decide +kernel
theorem d_Coder_tellLengths_13 : decode b_Coder_tellLengths 13 = .ok (.iconst 2, 1) := by decide +kernel
theorem d_Coder_tellLengths_14 : decode b_Coder_tellLengths 14 = .ok (.iload_n 2, 1) := by decide +kernel
theorem d_Coder_tellLengths_15 : decode b_Coder_tellLengths 15 = .ok (.imul, 1) := by decide +kernel
theorem d_Coder_tellLengths_16 : decode b_Coder_tellLengths 16 = .ok (.iconst 3, 1) := by decide +kernel
theorem d_Coder_tellLengths_17 : decode b_Coder_tellLengths 17 = .ok (.isub, 1) := by decide +kernel
theorem d_Coder_tellLengths_18 : decode b_Coder_tellLengths 18 = .ok (.istore 4, 2) := by decide +kernel
theorem d_Coder_tellLengths_20 : decode b_Coder_tellLengths 20 = .ok (.iload 4, 2) := by decide +kernel
theorem d_Coder_tellLengths_22 : decode b_Coder_tellLengths 22 = .ok (.ifCond .lt 56, 3) := by decide +kernel
theorem d_Coder_tellLengths_25 : decode b_Coder_tellLengths 25 = .ok (.aload_n 0, 1) := by decide +kernel
theorem d_Coder_tellLengths_26 : decode b_Coder_tellLengths 26 = .ok (.getfield 18, 3) := by decide +kernel
theorem d_Coder_tellLengths_29 : decode b_Coder_tellLengths 29 = .ok (.iload 4, 2) := by decide +kernel
theorem d_Coder_tellLengths_31 : decode b_Coder_tellLengths 31 = .ok (.aload_n 0, 1) := by decide +kernel
theorem d_Coder_tellLengths_32 : decode b_Coder_tellLengths 32 = .ok (.getfield 18, 3) := by decide +kernel
theorem d_Coder_tellLengths_35 : decode b_Coder_tellLengths 35 = .ok (.aload_n 0, 1) := by decide +kernel
theorem d_Coder_tellLengths_36 : decode b_Coder_tellLengths 36 = .ok (.getfield 15, 3) := by decide +kernel
theorem d_Coder_tellLengths_39 : decode b_Coder_tellLengths 39 = .ok (.iload 4, 2) := by decide +kernel
theorem d_Coder_tellLengths_41 : decode b_Coder_tellLengths 41 = .ok (.iaload, 1) := by decide +kernel
theorem d_Coder_tellLengths_42 : decode b_Coder_tellLengths 42 = .ok (.iaload, 1) := by decide +kernel
theorem d_Coder_tellLengths_43 : decode b_Coder_tellLengths 43 = .ok (.iconst 1, 1) := by decide +kernel
theorem d_Coder_tellLengths_44 : decode b_Coder_tellLengths 44 = .ok (.iadd, 1) := by decide +kernel
theorem d_Coder_tellLengths_45 : decode b_Coder_tellLengths 45 = .ok (.iastore, 1) := by decide +kernel
theorem d_Coder_tellLengths_46 : decode b_Coder_tellLengths 46 = .ok (.iload 4, 2) := by decide +kernel
theorem d_Coder_tellLengths_48 : decode b_Coder_tellLengths 48 = .ok (.iload_n 2, 1) := by decide +kernel
theorem d_Coder_tellLengths_49 : decode b_Coder_tellLengths 49 = .ok (.if_icmp .ge 23, 3) := by decide +kernel
theorem d_Coder_tellLengths_52 : decode b_Coder_tellLengths 52 = .ok (.aload_n 1, 1) := by decide +kernel
theorem d_Coder_tellLengths_53 : decode b_Coder_tellLengths 53 = .ok (.iload 4, 2) := by decide +kernel
theorem d_Coder_tellLengths_55 : decode b_Coder_tellLengths 55 = .ok (.aload_n 0, 1) := by decide +kernel
theorem d_Coder_tellLengths_56 : decode b_Coder_tellLengths 56 = .ok (.getfield 18, 3) := by decide +kernel
theorem d_Coder_tellLengths_59 : decode b_Coder_tellLengths 59 = .ok (.iload 4, 2) := by decide +kernel
theorem d_Coder_tellLengths_61 : decode b_Coder_tellLengths 61 = .ok (.iaload, 1) := by decide +kernel
theorem d_Coder_tellLengths_62 : decode b_Coder_tellLengths 62 = .ok (.iastore, 1) := by decide +kernel
theorem d_Coder_tellLengths_63 : decode b_Coder_tellLengths 63 = .ok (.iload_n 3, 1) := by decide +kernel
theorem d_Coder_tellLengths_64 : decode b_Coder_tellLengths 64 = .ok (.aload_n 1, 1) := by decide +kernel
theorem d_Coder_tellLengths_65 : decode b_Coder_tellLengths 65 = .ok (.iload 4, 2) := by decide +kernel
theorem d_Coder_tellLengths_67 : decode b_Coder_tellLengths 67 = .ok (.iaload, 1) := by decide +kernel
theorem d_Coder_tellLengths_68 : decode b_Coder_tellLengths 68 = .ok (.invokestatic 120, 3) := by decide +kernel
theorem d_Coder_tellLengths_71 : decode b_Coder_tellLengths 71 = .ok (.istore_n 3, 1) := by decide +kernel
theorem d_Coder_tellLengths_72 : decode b_Coder_tellLengths 72 = .ok (.iinc 4 (-1), 3) := by decide +kernel
theorem d_Coder_tellLengths_75 : decode b_Coder_tellLengths 75 = .ok (.goto (-55), 3) := by decide +kernel
theorem d_Coder_tellLengths_78 : decode b_Coder_tellLengths 78 = .ok (.iload_n 3, 1) := by decide +kernel
theorem d_Coder_tellLengths_79 : decode b_Coder_tellLengths 79 = .ok (.ireturn, 1) := by decide +kernel
theorem k247 : (Jvm.Cond.fieldLink "RotationPress$Coder" (18 : Nat) "RotationPress$Coder" "depths" "[I") ∈ g_tbl := List.mem_filter.mpr ⟨List.mem_append_right (k2_sels lw_privs) (List.mem_append_right _ (List.mem_append_left _ (List.mem_of_getElem? (l := tables_1_2) (i := 7) rfl))), rfl⟩
set_option maxRecDepth 100000 in
set_option maxHeartbeats 4000000 in
theorem m_Coder_tellLengths {C : gT} (hC : gOk C b_Coder_tellLengths R_Coder { frames := 1, cells := 0, slots := 0, locals := 21 } 5) (q_a0 : Nat) (r_a0_weights : Nat) (q_a0_sums : Nat) (q_a0_depths : Nat) (r_a0_sorted : Nat) (r_a0_slots : Nat) (f_a0_depths : (Nat → Int32)) (f_a0_sums : (Nat → Int32)) (q_a1 : Nat) (n_a1 : Nat) (f_a1 : (Nat → Int32)) (p2 : Int32) (out : (Int32 × (Nat → Int32) × (Nat → Int32))) (hf : Coder_tellLengths_f p2 f_a0_sums n_a1 f_a0_depths f_a1 = some out) (kr : ∀ (x : Unit) (o9 : (Int32 × (Nat → Int32) × (Nat → Int32))) (pc : Nat) (lv : List (Nat × Value)), o9 = out → decode b_Coder_tellLengths pc = .ok (.ireturn, 1) → narrow .int (.int o9.1) = .int o9.1 → gAt C 0 0 [(q_a0, .inr (7, [.ref r_a0_weights, .ref q_a0_sums, .ref q_a0_depths, .ref r_a0_sorted, .ref r_a0_slots])), (q_a0_depths, .inl (g_K C 0, 516, .inl o9.2.1)), (q_a0_sums, .inl (g_K C 0, 516, .inl f_a0_sums)), (q_a1, .inl (g_K C 0, n_a1, .inl o9.2.2))] lv pc [.int o9.1]) : gAt C 0 0 [(q_a0, .inr (7, [.ref r_a0_weights, .ref q_a0_sums, .ref q_a0_depths, .ref r_a0_sorted, .ref r_a0_slots])), (q_a0_depths, .inl (g_K C 0, 516, .inl f_a0_depths)), (q_a0_sums, .inl (g_K C 0, 516, .inl f_a0_sums)), (q_a1, .inl (g_K C 0, n_a1, .inl f_a1))] [(0, .ref q_a0), (1, .ref q_a1), (2, .int p2)] 0 [] := by
  unfold Coder_tellLengths_f at hf
  refine g_iconst 0 hC (0 : Int32) (by decide) d_Coder_tellLengths_0 ?_
  refine g_istore_n 1 hC (lv2 := [(3, .int (0 : Int32)), (0, .ref q_a0), (1, .ref q_a1), (2, .int p2)]) (hn := (by decide)) (hl2 := rfl) (hd := d_Coder_tellLengths_1) ?_
  refine g_aload_n 2 hC (j := 1) (hj := rfl) (hd := d_Coder_tellLengths_2) ?_
  refine g_get 3 hC i_Coder rfl 0 rfl 2 (by decide) k247 rfl d_Coder_tellLengths_3 ?_
  refine g_iconst 6 hC (2 : Int32) (by decide) d_Coder_tellLengths_6 ?_
  refine g_iload_n 7 hC (j := 3) (hj := rfl) (hd := d_Coder_tellLengths_7) ?_
  refine g_imul 8 hC d_Coder_tellLengths_8 ?_
  refine g_iconst 9 hC (2 : Int32) (by decide) d_Coder_tellLengths_9 ?_
  refine g_isub 10 hC d_Coder_tellLengths_10 ?_
  refine g_iconst 11 hC (0 : Int32) (by decide) d_Coder_tellLengths_11 ?_
  obtain ⟨e1, hf⟩ := gd_some hf
  refine g_iast 12 hC 1 rfl e1 [(q_a0, .inr (7, [.ref r_a0_weights, .ref q_a0_sums, .ref q_a0_depths, .ref r_a0_sorted, .ref r_a0_slots])), (q_a0_depths, .inl (g_K C 0, 516, .inl (upd f_a0_depths (((2 : Int32) * p2) - (2 : Int32)).toNatClampNeg (0 : Int32)))), (q_a0_sums, .inl (g_K C 0, 516, .inl f_a0_sums)), (q_a1, .inl (g_K C 0, n_a1, .inl f_a1))] rfl d_Coder_tellLengths_12 ?_
  refine g_iconst 13 hC (2 : Int32) (by decide) d_Coder_tellLengths_13 ?_
  refine g_iload_n 14 hC (j := 3) (hj := rfl) (hd := d_Coder_tellLengths_14) ?_
  refine g_imul 15 hC d_Coder_tellLengths_15 ?_
  refine g_iconst 16 hC (3 : Int32) (by decide) d_Coder_tellLengths_16 ?_
  refine g_isub 17 hC d_Coder_tellLengths_17 ?_
  refine g_istore 18 hC (lv2 := [(4, .int (((2 : Int32) * p2) - (3 : Int32))), (3, .int (0 : Int32)), (0, .ref q_a0), (1, .ref q_a1), (2, .int p2)]) (hn := (by decide)) (hl2 := rfl) (hd := d_Coder_tellLengths_18) ?_
  obtain ⟨u3, hu3, hf⟩ := bd_some hf
  have Xu3_0 : ∀ (v4 : (Int32 × (Nat → Int32) × (Nat → Int32))), v4 = u3 → gAt C 0 0 [(q_a0, .inr (7, [.ref r_a0_weights, .ref q_a0_sums, .ref q_a0_depths, .ref r_a0_sorted, .ref r_a0_slots])), (q_a0_depths, .inl (g_K C 0, 516, .inl v4.2.1)), (q_a0_sums, .inl (g_K C 0, 516, .inl f_a0_sums)), (q_a1, .inl (g_K C 0, n_a1, .inl v4.2.2))] [(3, .int v4.1)] 78 [] := by
    intro v4 hv
    rw [← hv] at hf
    refine g_iload_n 78 hC (j := 0) (hj := rfl) (hd := d_Coder_tellLengths_78) ?_
    exact g_re [0, 1, 2, 3] [] rfl rfl rfl (kr () (v4.1, v4.2.1, v4.2.2) 79 [] (Option.some.inj hf) d_Coder_tellLengths_79 rfl)
  have Gu3 := lp_ind (b := (Coder_tellLengths_L20 f_a0_sums p2 n_a1)) (G := fun (s2 : (Int32 × Int32 × (Nat → Int32) × (Nat → Int32))) => gAt C 0 0 [(q_a0, .inr (7, [.ref r_a0_weights, .ref q_a0_sums, .ref q_a0_depths, .ref r_a0_sorted, .ref r_a0_slots])), (q_a0_depths, .inl (g_K C 0, 516, .inl s2.2.2.1)), (q_a0_sums, .inl (g_K C 0, 516, .inl f_a0_sums)), (q_a1, .inl (g_K C 0, n_a1, .inl s2.2.2.2))] [(0, .ref q_a0), (1, .ref q_a1), (2, .int p2), (3, .int s2.1), (4, .int s2.2.1)] 20 []) (o := u3) (by
      intro s2 u5 hf hI hX
      unfold Coder_tellLengths_L20 at hf
      have J72 : ∀ (j72_0 : Int32) (j72_1 : (Nat → Int32)) (j72_2 : (Nat → Int32)), Coder_tellLengths_J72 s2 j72_0 j72_1 j72_2 = some u5 → gAt C 0 0 [(q_a0, .inr (7, [.ref r_a0_weights, .ref q_a0_sums, .ref q_a0_depths, .ref r_a0_sorted, .ref r_a0_slots])), (q_a0_depths, .inl (g_K C 0, 516, .inl j72_1)), (q_a0_sums, .inl (g_K C 0, 516, .inl f_a0_sums)), (q_a1, .inl (g_K C 0, n_a1, .inl j72_2))] [(0, .ref q_a0), (1, .ref q_a1), (2, .int p2), (3, .int j72_0), (4, .int s2.2.1)] 72 [] := by
        intro j72_0 j72_1 j72_2 hf
        unfold Coder_tellLengths_J72 at hf
        refine g_iinc 72 hC 4 (-1 : Int32) [(4, .int (s2.2.1 + (-1 : Int32))), (0, .ref q_a0), (1, .ref q_a1), (2, .int p2), (3, .int j72_0)] rfl (by decide) (by decide) rfl d_Coder_tellLengths_72 ?_
        refine g_goto 75 hC 20 (by decide) d_Coder_tellLengths_75 ?_
        exact g_re [0, 1, 2, 3] [1, 2, 3, 4, 0] rfl rfl rfl (hI (j72_0, (s2.2.1 + (-1 : Int32)), j72_1, j72_2) hf)
      refine g_iload 20 hC (j := 4) (hj := rfl) (hd := d_Coder_tellLengths_20) ?_
      refine g_if_lt 22 hC 78 (by decide) d_Coder_tellLengths_22 (fun c6 => ?_) (fun c6 => ?_)
      · have hf := it_t c6 hf
        exact g_re [0, 1, 2, 3] [3] rfl rfl rfl (Xu3_0 (s2.1, s2.2.2.1, s2.2.2.2) (hX (s2.1, s2.2.2.1, s2.2.2.2) hf))
      · have hf := it_f c6 hf
        refine g_aload_n 25 hC (j := 0) (hj := rfl) (hd := d_Coder_tellLengths_25) ?_
        refine g_get 26 hC i_Coder rfl 0 rfl 2 (by decide) k247 rfl d_Coder_tellLengths_26 ?_
        refine g_iload 29 hC (j := 4) (hj := rfl) (hd := d_Coder_tellLengths_29) ?_
        refine g_aload_n 31 hC (j := 0) (hj := rfl) (hd := d_Coder_tellLengths_31) ?_
        refine g_get 32 hC i_Coder rfl 0 rfl 2 (by decide) k247 rfl d_Coder_tellLengths_32 ?_
        refine g_aload_n 35 hC (j := 0) (hj := rfl) (hd := d_Coder_tellLengths_35) ?_
        refine g_get 36 hC i_Coder rfl 0 rfl 1 (by decide) k246 rfl d_Coder_tellLengths_36 ?_
        refine g_iload 39 hC (j := 4) (hj := rfl) (hd := d_Coder_tellLengths_39) ?_
        obtain ⟨e7, hf⟩ := gd_some hf
        refine g_iald 41 hC 2 rfl e7 d_Coder_tellLengths_41 ?_
        obtain ⟨e8, hf⟩ := gd_some hf
        refine g_iald 42 hC 1 rfl e8 d_Coder_tellLengths_42 ?_
        refine g_iconst 43 hC (1 : Int32) (by decide) d_Coder_tellLengths_43 ?_
        refine g_iadd 44 hC d_Coder_tellLengths_44 ?_
        obtain ⟨e9, hf⟩ := gd_some hf
        refine g_iast 45 hC 1 rfl e9 [(q_a0, .inr (7, [.ref r_a0_weights, .ref q_a0_sums, .ref q_a0_depths, .ref r_a0_sorted, .ref r_a0_slots])), (q_a0_depths, .inl (g_K C 0, 516, .inl (upd s2.2.2.1 s2.2.1.toNatClampNeg ((s2.2.2.1 (f_a0_sums s2.2.1.toNatClampNeg).toNatClampNeg) + (1 : Int32))))), (q_a0_sums, .inl (g_K C 0, 516, .inl f_a0_sums)), (q_a1, .inl (g_K C 0, n_a1, .inl s2.2.2.2))] rfl d_Coder_tellLengths_45 ?_
        refine g_iload 46 hC (j := 4) (hj := rfl) (hd := d_Coder_tellLengths_46) ?_
        refine g_iload_n 48 hC (j := 2) (hj := rfl) (hd := d_Coder_tellLengths_48) ?_
        refine g_icmp_ge 49 hC 72 (by decide) d_Coder_tellLengths_49 (fun c10 => ?_) (fun c10 => ?_)
        · have hf := it_t c10 hf
          exact J72 s2.1 (upd s2.2.2.1 s2.2.1.toNatClampNeg ((s2.2.2.1 (f_a0_sums s2.2.1.toNatClampNeg).toNatClampNeg) + (1 : Int32))) s2.2.2.2 hf
        · have hf := it_f c10 hf
          refine g_aload_n 52 hC (j := 1) (hj := rfl) (hd := d_Coder_tellLengths_52) ?_
          refine g_iload 53 hC (j := 4) (hj := rfl) (hd := d_Coder_tellLengths_53) ?_
          refine g_aload_n 55 hC (j := 0) (hj := rfl) (hd := d_Coder_tellLengths_55) ?_
          refine g_get 56 hC i_Coder rfl 0 rfl 2 (by decide) k247 rfl d_Coder_tellLengths_56 ?_
          refine g_iload 59 hC (j := 4) (hj := rfl) (hd := d_Coder_tellLengths_59) ?_
          obtain ⟨e11, hf⟩ := gd_some hf
          refine g_iald 61 hC 1 rfl e11 d_Coder_tellLengths_61 ?_
          obtain ⟨e12, hf⟩ := gd_some hf
          refine g_iast 62 hC 3 rfl e12 [(q_a0, .inr (7, [.ref r_a0_weights, .ref q_a0_sums, .ref q_a0_depths, .ref r_a0_sorted, .ref r_a0_slots])), (q_a0_depths, .inl (g_K C 0, 516, .inl (upd s2.2.2.1 s2.2.1.toNatClampNeg ((s2.2.2.1 (f_a0_sums s2.2.1.toNatClampNeg).toNatClampNeg) + (1 : Int32))))), (q_a0_sums, .inl (g_K C 0, 516, .inl f_a0_sums)), (q_a1, .inl (g_K C 0, n_a1, .inl (upd s2.2.2.2 s2.2.1.toNatClampNeg ((upd s2.2.2.1 s2.2.1.toNatClampNeg ((s2.2.2.1 (f_a0_sums s2.2.1.toNatClampNeg).toNatClampNeg) + (1 : Int32))) s2.2.1.toNatClampNeg))))] rfl d_Coder_tellLengths_62 ?_
          refine g_iload_n 63 hC (j := 3) (hj := rfl) (hd := d_Coder_tellLengths_63) ?_
          refine g_aload_n 64 hC (j := 1) (hj := rfl) (hd := d_Coder_tellLengths_64) ?_
          refine g_iload 65 hC (j := 4) (hj := rfl) (hd := d_Coder_tellLengths_65) ?_
          obtain ⟨e13, hf⟩ := gd_some hf
          refine g_iald 67 hC 3 rfl e13 d_Coder_tellLengths_67 ?_
          refine g_mmax 68 hC k1008 k47 k3 k48 (by decide) (by decide) (by decide) (by decide) d_Coder_tellLengths_68 ?_
          refine g_istore_n 71 hC (lv2 := [(3, .int (jmax s2.1 ((upd s2.2.2.2 s2.2.1.toNatClampNeg ((upd s2.2.2.1 s2.2.1.toNatClampNeg ((s2.2.2.1 (f_a0_sums s2.2.1.toNatClampNeg).toNatClampNeg) + (1 : Int32))) s2.2.1.toNatClampNeg)) s2.2.1.toNatClampNeg))), (0, .ref q_a0), (1, .ref q_a1), (2, .int p2), (4, .int s2.2.1)]) (hn := (by decide)) (hl2 := rfl) (hd := d_Coder_tellLengths_71) ?_
          exact g_re [0, 1, 2, 3] [1, 2, 3, 0, 4] rfl rfl rfl (J72 (jmax s2.1 ((upd s2.2.2.2 s2.2.1.toNatClampNeg ((upd s2.2.2.1 s2.2.1.toNatClampNeg ((s2.2.2.1 (f_a0_sums s2.2.1.toNatClampNeg).toNatClampNeg) + (1 : Int32))) s2.2.1.toNatClampNeg)) s2.2.1.toNatClampNeg)) (upd s2.2.2.1 s2.2.1.toNatClampNeg ((s2.2.2.1 (f_a0_sums s2.2.1.toNatClampNeg).toNatClampNeg) + (1 : Int32))) (upd s2.2.2.2 s2.2.1.toNatClampNeg ((upd s2.2.2.1 s2.2.1.toNatClampNeg ((s2.2.2.1 (f_a0_sums s2.2.1.toNatClampNeg).toNatClampNeg) + (1 : Int32))) s2.2.1.toNatClampNeg)) hf)) gas
  exact g_re [0, 1, 2, 3] [2, 3, 4, 1, 0] rfl rfl rfl (Gu3 ((0 : Int32), (((2 : Int32) * p2) - (3 : Int32)), (upd f_a0_depths (((2 : Int32) * p2) - (2 : Int32)).toNatClampNeg (0 : Int32)), f_a1) hu3)
theorem c_Coder_tellLengths (l : Launch) (D : va_G) (K : Nat → ClassId) (q_a0 : Nat) (r_a0_weights : Nat) (q_a0_sums : Nat) (q_a0_depths : Nat) (r_a0_sorted : Nat) (r_a0_slots : Nat) (f_a0_depths : (Nat → Int32)) (f_a0_sums : (Nat → Int32)) (q_a1 : Nat) (n_a1 : Nat) (f_a1 : (Nat → Int32)) (p2 : Int32) (out : (Int32 × (Nat → Int32) × (Nat → Int32))) (hf : Coder_tellLengths_f p2 f_a0_sums n_a1 f_a0_depths f_a1 = some out) : Ci l D K y_Coder_tellLengths (g_wd y_Coder_tellLengths b_Coder_tellLengths 5 (some .int)) { frames := 1, cells := 0, slots := 0, locals := 21 } [.ref q_a0, .ref q_a1, .int p2] [(q_a0, .inr (7, [.ref r_a0_weights, .ref q_a0_sums, .ref q_a0_depths, .ref r_a0_sorted, .ref r_a0_slots])), (q_a0_depths, .inl (K 0, 516, .inl f_a0_depths)), (q_a0_sums, .inl (K 0, 516, .inl f_a0_sums)), (q_a1, .inl (K 0, n_a1, .inl f_a1))] (fun (x : Unit) => [(q_a0, .inr (7, [.ref r_a0_weights, .ref q_a0_sums, .ref q_a0_depths, .ref r_a0_sorted, .ref r_a0_slots])), (q_a0_depths, .inl (K 0, 516, .inl out.2.1)), (q_a0_sums, .inl (K 0, 516, .inl f_a0_sums)), (q_a1, .inl (K 0, n_a1, .inl out.2.2))]) out.1 := mk_i (by decide) (Nat.le_of_ble_eq_true rfl) (fun p e s m below meth c A Q hC kr => m_Coder_tellLengths hC q_a0 r_a0_weights q_a0_sums q_a0_depths r_a0_sorted r_a0_slots f_a0_depths f_a0_sums q_a1 n_a1 f_a1 p2 out hf (fun x o9 pc lv ho => by subst ho; exact kr x pc lv))
abbrev b_Coder_makeLengths : ByteArray := prog_8_method_8_code
def y_Coder_makeLengths : MethodName := ⟨R_Coder, "makeLengths", "([II)V"⟩
theorem d_Coder_makeLengths_0 : decode b_Coder_makeLengths 0 = .ok (.iconst 0, 1) := by decide +kernel
theorem d_Coder_makeLengths_1 : decode b_Coder_makeLengths 1 = .ok (.istore_n 3, 1) := by decide +kernel
theorem d_Coder_makeLengths_2 : decode b_Coder_makeLengths 2 = .ok (.iconst 0, 1) := by decide +kernel
theorem d_Coder_makeLengths_3 : decode b_Coder_makeLengths 3 = .ok (.istore 4, 2) := by decide +kernel
theorem d_Coder_makeLengths_5 : decode b_Coder_makeLengths 5 = .ok (.iload 4, 2) := by decide +kernel
theorem d_Coder_makeLengths_7 : decode b_Coder_makeLengths 7 = .ok (.bipush 32, 2) := by decide +kernel
theorem d_Coder_makeLengths_9 : decode b_Coder_makeLengths 9 = .ok (.if_icmp .ge 50, 3) := by decide +kernel
theorem d_Coder_makeLengths_12 : decode b_Coder_makeLengths 12 = .ok (.iload_n 3, 1) := by decide +kernel
theorem d_Coder_makeLengths_13 : decode b_Coder_makeLengths 13 = .ok (.ifCond .ne 46, 3) := by decide +kernel
theorem d_Coder_makeLengths_16 : decode b_Coder_makeLengths 16 = .ok (.iload 4, 2) := by decide +kernel
theorem d_Coder_makeLengths_18 : decode b_Coder_makeLengths 18 = .ok (.ifCond .le 8, 3) := by decide +kernel
theorem d_Coder_makeLengths_21 : decode b_Coder_makeLengths 21 = .ok (.aload_n 0, 1) := by decide +kernel
theorem d_Coder_makeLengths_22 : decode b_Coder_makeLengths 22 = .ok (.iload_n 2, 1) := by decide +kernel
theorem d_Coder_makeLengths_23 : decode b_Coder_makeLengths 23 = .ok (.invokevirtual 106, 3) := by decide +kernel
theorem d_Coder_makeLengths_26 : decode b_Coder_makeLengths 26 = .ok (.aload_n 0, 1) := by decide +kernel
theorem d_Coder_makeLengths_27 : decode b_Coder_makeLengths 27 = .ok (.iload_n 2, 1) := by decide +kernel
theorem d_Coder_makeLengths_28 : decode b_Coder_makeLengths 28 = .ok (.invokevirtual 110, 3) := by decide +kernel
theorem d_Coder_makeLengths_31 : decode b_Coder_makeLengths 31 = .ok (.aload_n 0, 1) := by decide +kernel
theorem d_Coder_makeLengths_32 : decode b_Coder_makeLengths 32 = .ok (.iload_n 2, 1) := by decide +kernel
theorem d_Coder_makeLengths_33 : decode b_Coder_makeLengths 33 = .ok (.invokevirtual 113, 3) := by decide +kernel
theorem d_Coder_makeLengths_36 : decode b_Coder_makeLengths 36 = .ok (.aload_n 0, 1) := by decide +kernel
theorem d_Coder_makeLengths_37 : decode b_Coder_makeLengths 37 = .ok (.aload_n 1, 1) := by decide +kernel
theorem d_Coder_makeLengths_38 : decode b_Coder_makeLengths 38 = .ok (.iload_n 2, 1) := by decide +kernel
theorem d_Coder_makeLengths_39 : decode b_Coder_makeLengths 39 = .ok (.invokevirtual 116, 3) := by decide +kernel
theorem d_Coder_makeLengths_42 : decode b_Coder_makeLengths 42 = .ok (.bipush 17, 2) := by decide +kernel
theorem d_Coder_makeLengths_44 : decode b_Coder_makeLengths 44 = .ok (.if_icmp .gt 7, 3) := by decide +kernel
theorem d_Coder_makeLengths_47 : decode b_Coder_makeLengths 47 = .ok (.iconst 1, 1) := by decide +kernel
theorem d_Coder_makeLengths_48 : decode b_Coder_makeLengths 48 = .ok (.goto 4, 3) := by decide +kernel
theorem d_Coder_makeLengths_51 : decode b_Coder_makeLengths 51 = .ok (.iconst 0, 1) := by decide +kernel
theorem d_Coder_makeLengths_52 : decode b_Coder_makeLengths 52 = .ok (.istore_n 3, 1) := by decide +kernel
theorem d_Coder_makeLengths_53 : decode b_Coder_makeLengths 53 = .ok (.iinc 4 1, 3) := by decide +kernel
theorem d_Coder_makeLengths_56 : decode b_Coder_makeLengths 56 = .ok (.goto (-51), 3) := by decide +kernel
theorem d_Coder_makeLengths_59 : decode b_Coder_makeLengths 59 = .ok (.return_, 1) := by decide +kernel
theorem k1007 : (Jvm.Cond.code ({ cls := "RotationPress$Coder", name := "sortByWeight", desc := "(I)V" } : Jvm.MethodName) prog_8_method_10_code (4 : Nat) (Option.none : Option Jvm.ClassFile.FieldType)) ∈ g_tbl := List.mem_filter.mpr ⟨List.mem_append_right (k2_sels lw_privs) (List.mem_append_right _ (List.mem_append_right _ (List.mem_append_right _ (List.mem_append_right _ (List.mem_append_left _ (List.mem_of_getElem? (l := tables_1_5) (i := 47) rfl)))))), rfl⟩
theorem k1004 : (Jvm.Cond.methodLink "RotationPress$Coder" (110 : Nat) ({ cls := "RotationPress$Coder", name := "sortByWeight", desc := "(I)V" } : Jvm.MethodName)) ∈ g_tbl := List.mem_filter.mpr ⟨List.mem_append_right (k2_sels lw_privs) (List.mem_append_right _ (List.mem_append_right _ (List.mem_append_right _ (List.mem_append_right _ (List.mem_append_left _ (List.mem_of_getElem? (l := tables_1_5) (i := 44) rfl)))))), rfl⟩
theorem k1006 : (Jvm.Cond.instanceMethod ({ cls := "RotationPress$Coder", name := "sortByWeight", desc := "(I)V" } : Jvm.MethodName)) ∈ g_tbl := List.mem_filter.mpr ⟨List.mem_append_right (k2_sels lw_privs) (List.mem_append_right _ (List.mem_append_right _ (List.mem_append_right _ (List.mem_append_right _ (List.mem_append_left _ (List.mem_of_getElem? (l := tables_1_5) (i := 46) rfl)))))), rfl⟩
theorem ks12 : (Jvm.Cond.selects "RotationPress$Coder" ({ cls := "RotationPress$Coder", name := "sortByWeight", desc := "(I)V" } : Jvm.MethodName) ({ cls := "RotationPress$Coder", name := "sortByWeight", desc := "(I)V" } : Jvm.MethodName)) ∈ g_tbl := List.mem_filter.mpr ⟨List.mem_append_left _ (List.mem_map.mpr ⟨(({ cls := "RotationPress$Coder", name := "sortByWeight", desc := "(I)V" } : Jvm.MethodName), _), List.mem_of_getElem? (i := 12) rfl, rfl⟩), rfl⟩
theorem k1012 : (Jvm.Cond.code ({ cls := "RotationPress$Coder", name := "joinLeast", desc := "(I)V" } : Jvm.MethodName) prog_8_method_11_code (8 : Nat) (Option.none : Option Jvm.ClassFile.FieldType)) ∈ g_tbl := List.mem_filter.mpr ⟨List.mem_append_right (k2_sels lw_privs) (List.mem_append_right _ (List.mem_append_right _ (List.mem_append_right _ (List.mem_append_right _ (List.mem_append_left _ (List.mem_of_getElem? (l := tables_1_5) (i := 52) rfl)))))), rfl⟩
theorem k1009 : (Jvm.Cond.methodLink "RotationPress$Coder" (113 : Nat) ({ cls := "RotationPress$Coder", name := "joinLeast", desc := "(I)V" } : Jvm.MethodName)) ∈ g_tbl := List.mem_filter.mpr ⟨List.mem_append_right (k2_sels lw_privs) (List.mem_append_right _ (List.mem_append_right _ (List.mem_append_right _ (List.mem_append_right _ (List.mem_append_left _ (List.mem_of_getElem? (l := tables_1_5) (i := 49) rfl)))))), rfl⟩
theorem k1011 : (Jvm.Cond.instanceMethod ({ cls := "RotationPress$Coder", name := "joinLeast", desc := "(I)V" } : Jvm.MethodName)) ∈ g_tbl := List.mem_filter.mpr ⟨List.mem_append_right (k2_sels lw_privs) (List.mem_append_right _ (List.mem_append_right _ (List.mem_append_right _ (List.mem_append_right _ (List.mem_append_left _ (List.mem_of_getElem? (l := tables_1_5) (i := 51) rfl)))))), rfl⟩
theorem ks13 : (Jvm.Cond.selects "RotationPress$Coder" ({ cls := "RotationPress$Coder", name := "joinLeast", desc := "(I)V" } : Jvm.MethodName) ({ cls := "RotationPress$Coder", name := "joinLeast", desc := "(I)V" } : Jvm.MethodName)) ∈ g_tbl := List.mem_filter.mpr ⟨List.mem_append_left _ (List.mem_map.mpr ⟨(({ cls := "RotationPress$Coder", name := "joinLeast", desc := "(I)V" } : Jvm.MethodName), _), List.mem_of_getElem? (i := 13) rfl, rfl⟩), rfl⟩
theorem k1016 : (Jvm.Cond.code ({ cls := "RotationPress$Coder", name := "tellLengths", desc := "([II)I" } : Jvm.MethodName) prog_8_method_12_code (5 : Nat) (Option.some Jvm.ClassFile.FieldType.int)) ∈ g_tbl := List.mem_filter.mpr ⟨List.mem_append_right (k2_sels lw_privs) (List.mem_append_right _ (List.mem_append_right _ (List.mem_append_right _ (List.mem_append_right _ (List.mem_append_left _ (List.mem_of_getElem? (l := tables_1_5) (i := 56) rfl)))))), rfl⟩
theorem k1013 : (Jvm.Cond.methodLink "RotationPress$Coder" (116 : Nat) ({ cls := "RotationPress$Coder", name := "tellLengths", desc := "([II)I" } : Jvm.MethodName)) ∈ g_tbl := List.mem_filter.mpr ⟨List.mem_append_right (k2_sels lw_privs) (List.mem_append_right _ (List.mem_append_right _ (List.mem_append_right _ (List.mem_append_right _ (List.mem_append_left _ (List.mem_of_getElem? (l := tables_1_5) (i := 53) rfl)))))), rfl⟩
theorem k1015 : (Jvm.Cond.instanceMethod ({ cls := "RotationPress$Coder", name := "tellLengths", desc := "([II)I" } : Jvm.MethodName)) ∈ g_tbl := List.mem_filter.mpr ⟨List.mem_append_right (k2_sels lw_privs) (List.mem_append_right _ (List.mem_append_right _ (List.mem_append_right _ (List.mem_append_right _ (List.mem_append_left _ (List.mem_of_getElem? (l := tables_1_5) (i := 55) rfl)))))), rfl⟩
theorem ks14 : (Jvm.Cond.selects "RotationPress$Coder" ({ cls := "RotationPress$Coder", name := "tellLengths", desc := "([II)I" } : Jvm.MethodName) ({ cls := "RotationPress$Coder", name := "tellLengths", desc := "([II)I" } : Jvm.MethodName)) ∈ g_tbl := List.mem_filter.mpr ⟨List.mem_append_left _ (List.mem_map.mpr ⟨(({ cls := "RotationPress$Coder", name := "tellLengths", desc := "([II)I" } : Jvm.MethodName), _), List.mem_of_getElem? (i := 14) rfl, rfl⟩), rfl⟩
theorem k1003 : (Jvm.Cond.code ({ cls := "RotationPress$Coder", name := "halve", desc := "(I)V" } : Jvm.MethodName) prog_8_method_9_code (3 : Nat) (Option.none : Option Jvm.ClassFile.FieldType)) ∈ g_tbl := List.mem_filter.mpr ⟨List.mem_append_right (k2_sels lw_privs) (List.mem_append_right _ (List.mem_append_right _ (List.mem_append_right _ (List.mem_append_right _ (List.mem_append_left _ (List.mem_of_getElem? (l := tables_1_5) (i := 43) rfl)))))), rfl⟩
theorem k1000 : (Jvm.Cond.methodLink "RotationPress$Coder" (106 : Nat) ({ cls := "RotationPress$Coder", name := "halve", desc := "(I)V" } : Jvm.MethodName)) ∈ g_tbl := List.mem_filter.mpr ⟨List.mem_append_right (k2_sels lw_privs) (List.mem_append_right _ (List.mem_append_right _ (List.mem_append_right _ (List.mem_append_right _ (List.mem_append_left _ (List.mem_of_getElem? (l := tables_1_5) (i := 40) rfl)))))), rfl⟩
theorem k1002 : (Jvm.Cond.instanceMethod ({ cls := "RotationPress$Coder", name := "halve", desc := "(I)V" } : Jvm.MethodName)) ∈ g_tbl := List.mem_filter.mpr ⟨List.mem_append_right (k2_sels lw_privs) (List.mem_append_right _ (List.mem_append_right _ (List.mem_append_right _ (List.mem_append_right _ (List.mem_append_left _ (List.mem_of_getElem? (l := tables_1_5) (i := 42) rfl)))))), rfl⟩
theorem ks11 : (Jvm.Cond.selects "RotationPress$Coder" ({ cls := "RotationPress$Coder", name := "halve", desc := "(I)V" } : Jvm.MethodName) ({ cls := "RotationPress$Coder", name := "halve", desc := "(I)V" } : Jvm.MethodName)) ∈ g_tbl := List.mem_filter.mpr ⟨List.mem_append_left _ (List.mem_map.mpr ⟨(({ cls := "RotationPress$Coder", name := "halve", desc := "(I)V" } : Jvm.MethodName), _), List.mem_of_getElem? (i := 11) rfl, rfl⟩), rfl⟩
set_option maxRecDepth 100000 in
set_option maxHeartbeats 4000000 in
theorem m_Coder_makeLengths {C : gT} (hC : gOk C b_Coder_makeLengths R_Coder { frames := 3, cells := 0, slots := 0, locals := 69 } 5) (q_a0 : Nat) (q_a0_weights : Nat) (q_a0_sums : Nat) (q_a0_depths : Nat) (q_a0_sorted : Nat) (q_a0_slots : Nat) (f_a0_weights : (Nat → Int32)) (f_a0_slots : (Nat → Int32)) (f_a0_sorted : (Nat → Int32)) (f_a0_sums : (Nat → Int32)) (f_a0_depths : (Nat → Int32)) (q_a1 : Nat) (n_a1 : Nat) (f_a1 : (Nat → Int32)) (p2 : Int32) (out : ((Nat → Int32) × (Nat → Int32) × (Nat → Int32) × (Nat → Int32) × (Nat → Int32) × (Nat → Int32))) (hf : Coder_makeLengths_f p2 n_a1 f_a0_weights f_a0_slots f_a0_sorted f_a0_sums f_a0_depths f_a1 = some out) (kr : ∀ (x : Unit) (o9 : ((Nat → Int32) × (Nat → Int32) × (Nat → Int32) × (Nat → Int32) × (Nat → Int32) × (Nat → Int32))) (pc : Nat) (lv : List (Nat × Value)), o9 = out → decode b_Coder_makeLengths pc = .ok (.return_, 1) → gAt C 0 0 [(q_a0, .inr (7, [.ref q_a0_weights, .ref q_a0_sums, .ref q_a0_depths, .ref q_a0_sorted, .ref q_a0_slots])), (q_a0_weights, .inl (g_K C 0, 516, .inl o9.1)), (q_a0_slots, .inl (g_K C 0, 2254, .inl o9.2.1)), (q_a0_sorted, .inl (g_K C 0, 258, .inl o9.2.2.1)), (q_a0_sums, .inl (g_K C 0, 516, .inl o9.2.2.2.1)), (q_a0_depths, .inl (g_K C 0, 516, .inl o9.2.2.2.2.1)), (q_a1, .inl (g_K C 0, n_a1, .inl o9.2.2.2.2.2))] lv pc []) : gAt C 0 0 [(q_a0, .inr (7, [.ref q_a0_weights, .ref q_a0_sums, .ref q_a0_depths, .ref q_a0_sorted, .ref q_a0_slots])), (q_a0_weights, .inl (g_K C 0, 516, .inl f_a0_weights)), (q_a0_slots, .inl (g_K C 0, 2254, .inl f_a0_slots)), (q_a0_sorted, .inl (g_K C 0, 258, .inl f_a0_sorted)), (q_a0_sums, .inl (g_K C 0, 516, .inl f_a0_sums)), (q_a0_depths, .inl (g_K C 0, 516, .inl f_a0_depths)), (q_a1, .inl (g_K C 0, n_a1, .inl f_a1))] [(0, .ref q_a0), (1, .ref q_a1), (2, .int p2)] 0 [] := by
  unfold Coder_makeLengths_f at hf
  refine g_iconst 0 hC (0 : Int32) (by decide) d_Coder_makeLengths_0 ?_
  refine g_istore_n 1 hC (lv2 := [(3, .int (0 : Int32)), (0, .ref q_a0), (1, .ref q_a1), (2, .int p2)]) (hn := (by decide)) (hl2 := rfl) (hd := d_Coder_makeLengths_1) ?_
  refine g_iconst 2 hC (0 : Int32) (by decide) d_Coder_makeLengths_2 ?_
  refine g_istore 3 hC (lv2 := [(4, .int (0 : Int32)), (3, .int (0 : Int32)), (0, .ref q_a0), (1, .ref q_a1), (2, .int p2)]) (hn := (by decide)) (hl2 := rfl) (hd := d_Coder_makeLengths_3) ?_
  obtain ⟨u2, hu2, hf⟩ := bd_some hf
  have Xu2_0 : ∀ (v3 : ((Nat → Int32) × (Nat → Int32) × (Nat → Int32) × (Nat → Int32) × (Nat → Int32) × (Nat → Int32))), v3 = u2 → gAt C 0 0 [(q_a0, .inr (7, [.ref q_a0_weights, .ref q_a0_sums, .ref q_a0_depths, .ref q_a0_sorted, .ref q_a0_slots])), (q_a0_weights, .inl (g_K C 0, 516, .inl v3.1)), (q_a0_slots, .inl (g_K C 0, 2254, .inl v3.2.1)), (q_a0_sorted, .inl (g_K C 0, 258, .inl v3.2.2.1)), (q_a0_sums, .inl (g_K C 0, 516, .inl v3.2.2.2.1)), (q_a0_depths, .inl (g_K C 0, 516, .inl v3.2.2.2.2.1)), (q_a1, .inl (g_K C 0, n_a1, .inl v3.2.2.2.2.2))] [] 59 [] := by
    intro v3 hv
    rw [← hv] at hf
    exact kr () (v3.1, v3.2.1, v3.2.2.1, v3.2.2.2.1, v3.2.2.2.2.1, v3.2.2.2.2.2) 59 [] (Option.some.inj hf) d_Coder_makeLengths_59
  have Gu2 := lp_ind (b := (Coder_makeLengths_L5 p2 n_a1)) (G := fun (s1 : (Int32 × Int32 × (Nat → Int32) × (Nat → Int32) × (Nat → Int32) × (Nat → Int32) × (Nat → Int32) × (Nat → Int32))) => gAt C 0 0 [(q_a0, .inr (7, [.ref q_a0_weights, .ref q_a0_sums, .ref q_a0_depths, .ref q_a0_sorted, .ref q_a0_slots])), (q_a0_weights, .inl (g_K C 0, 516, .inl s1.2.2.1)), (q_a0_slots, .inl (g_K C 0, 2254, .inl s1.2.2.2.1)), (q_a0_sorted, .inl (g_K C 0, 258, .inl s1.2.2.2.2.1)), (q_a0_sums, .inl (g_K C 0, 516, .inl s1.2.2.2.2.2.1)), (q_a0_depths, .inl (g_K C 0, 516, .inl s1.2.2.2.2.2.2.1)), (q_a1, .inl (g_K C 0, n_a1, .inl s1.2.2.2.2.2.2.2))] [(0, .ref q_a0), (1, .ref q_a1), (2, .int p2), (3, .int s1.1), (4, .int s1.2.1)] 5 []) (o := u2) (by
      intro s1 u4 hf hI hX
      unfold Coder_makeLengths_L5 at hf
      have J52 : ∀ (j52_0 : Int32) (j52_1 : (Nat → Int32)) (j52_2 : (Nat → Int32)) (j52_3 : (Nat → Int32)) (j52_4 : (Nat → Int32)) (j52_5 : (Nat → Int32)) (j52_6 : (Nat → Int32)), Coder_makeLengths_J52 s1 j52_0 j52_1 j52_2 j52_3 j52_4 j52_5 j52_6 = some u4 → gAt C 0 0 [(q_a0, .inr (7, [.ref q_a0_weights, .ref q_a0_sums, .ref q_a0_depths, .ref q_a0_sorted, .ref q_a0_slots])), (q_a0_weights, .inl (g_K C 0, 516, .inl j52_1)), (q_a0_slots, .inl (g_K C 0, 2254, .inl j52_2)), (q_a0_sorted, .inl (g_K C 0, 258, .inl j52_3)), (q_a0_sums, .inl (g_K C 0, 516, .inl j52_4)), (q_a0_depths, .inl (g_K C 0, 516, .inl j52_5)), (q_a1, .inl (g_K C 0, n_a1, .inl j52_6))] [(0, .ref q_a0), (1, .ref q_a1), (2, .int p2), (4, .int s1.2.1)] 52 [.int j52_0] := by
        intro j52_0 j52_1 j52_2 j52_3 j52_4 j52_5 j52_6 hf
        unfold Coder_makeLengths_J52 at hf
        refine g_istore_n 52 hC (lv2 := [(3, .int j52_0), (0, .ref q_a0), (1, .ref q_a1), (2, .int p2), (4, .int s1.2.1)]) (hn := (by decide)) (hl2 := rfl) (hd := d_Coder_makeLengths_52) ?_
        refine g_iinc 53 hC 4 (1 : Int32) [(4, .int (s1.2.1 + (1 : Int32))), (3, .int j52_0), (0, .ref q_a0), (1, .ref q_a1), (2, .int p2)] rfl (by decide) (by decide) rfl d_Coder_makeLengths_53 ?_
        refine g_goto 56 hC 5 (by decide) d_Coder_makeLengths_56 ?_
        exact g_re [0, 1, 2, 3, 4, 5, 6] [2, 3, 4, 1, 0] rfl rfl rfl (hI (j52_0, (s1.2.1 + (1 : Int32)), j52_1, j52_2, j52_3, j52_4, j52_5, j52_6) hf)
      have J26 : ∀ (j26_0 : (Nat → Int32)), Coder_makeLengths_J26 p2 s1 n_a1 j26_0 = some u4 → gAt C 0 0 [(q_a0, .inr (7, [.ref q_a0_weights, .ref q_a0_sums, .ref q_a0_depths, .ref q_a0_sorted, .ref q_a0_slots])), (q_a0_weights, .inl (g_K C 0, 516, .inl j26_0)), (q_a0_slots, .inl (g_K C 0, 2254, .inl s1.2.2.2.1)), (q_a0_sorted, .inl (g_K C 0, 258, .inl s1.2.2.2.2.1)), (q_a0_sums, .inl (g_K C 0, 516, .inl s1.2.2.2.2.2.1)), (q_a0_depths, .inl (g_K C 0, 516, .inl s1.2.2.2.2.2.2.1)), (q_a1, .inl (g_K C 0, n_a1, .inl s1.2.2.2.2.2.2.2))] [(0, .ref q_a0), (1, .ref q_a1), (2, .int p2), (4, .int s1.2.1)] 26 [] := by
        intro j26_0 hf
        unfold Coder_makeLengths_J26 at hf
        refine g_aload_n 26 hC (j := 0) (hj := rfl) (hd := d_Coder_makeLengths_26) ?_
        refine g_iload_n 27 hC (j := 2) (hj := rfl) (hd := d_Coder_makeLengths_27) ?_
        obtain ⟨u5, hu5, hf⟩ := bd_some hf
        refine g_callVv 28 hC (c_Coder_sortByWeight (g_l C) (g_D C) (g_K C) q_a0 q_a0_weights q_a0_sums q_a0_depths q_a0_sorted q_a0_slots j26_0 s1.2.2.2.1 s1.2.2.2.2.1 p2 u5 hu5) k1007 k10 k1004 k1006 ks12 1 rfl (by decide +kernel) (by decide) [0, 1, 2, 3] [4, 5, 6] [(q_a0_sums, .inl (g_K C 0, 516, .inl s1.2.2.2.2.2.1)), (q_a0_depths, .inl (g_K C 0, 516, .inl s1.2.2.2.2.2.2.1)), (q_a1, .inl (g_K C 0, n_a1, .inl s1.2.2.2.2.2.2.2))] rfl rfl rfl rfl rfl 0 7 rfl rfl rfl rfl (Nat.le_of_ble_eq_true rfl) ⟨Nat.le_of_ble_eq_true rfl, Nat.le_of_ble_eq_true rfl⟩ (fun (_ : Unit) => [(q_a0_sums, .inl (g_K C 0, 516, .inl s1.2.2.2.2.2.1)), (q_a0_depths, .inl (g_K C 0, 516, .inl s1.2.2.2.2.2.2.1)), (q_a1, .inl (g_K C 0, n_a1, .inl s1.2.2.2.2.2.2.2)), (q_a0, .inr (7, [.ref q_a0_weights, .ref q_a0_sums, .ref q_a0_depths, .ref q_a0_sorted, .ref q_a0_slots])), (q_a0_weights, .inl (g_K C 0, 516, .inl j26_0)), (q_a0_slots, .inl (g_K C 0, 2254, .inl u5.1)), (q_a0_sorted, .inl (g_K C 0, 258, .inl u5.2))]) (fun _ => rfl) d_Coder_makeLengths_28 0 0 rfl rfl (fun _ => ?_)
        refine g_aload_n 31 hC (j := 0) (hj := rfl) (hd := d_Coder_makeLengths_31) ?_
        refine g_iload_n 32 hC (j := 2) (hj := rfl) (hd := d_Coder_makeLengths_32) ?_
        obtain ⟨u6, hu6, hf⟩ := bd_some hf
        refine g_callVv 33 hC (c_Coder_joinLeast (g_l C) (g_D C) (g_K C) q_a0 q_a0_weights q_a0_sums q_a0_depths q_a0_sorted q_a0_slots j26_0 u5.2 s1.2.2.2.2.2.1 p2 u6 hu6) k1012 k10 k1009 k1011 ks13 1 rfl (by decide +kernel) (by decide) [3, 4, 6, 0] [1, 2, 5] [(q_a0_depths, .inl (g_K C 0, 516, .inl s1.2.2.2.2.2.2.1)), (q_a1, .inl (g_K C 0, n_a1, .inl s1.2.2.2.2.2.2.2)), (q_a0_slots, .inl (g_K C 0, 2254, .inl u5.1))] rfl rfl rfl rfl rfl 0 7 rfl rfl rfl rfl (Nat.le_of_ble_eq_true rfl) ⟨Nat.le_of_ble_eq_true rfl, Nat.le_of_ble_eq_true rfl⟩ (fun (_ : Unit) => [(q_a0_depths, .inl (g_K C 0, 516, .inl s1.2.2.2.2.2.2.1)), (q_a1, .inl (g_K C 0, n_a1, .inl s1.2.2.2.2.2.2.2)), (q_a0_slots, .inl (g_K C 0, 2254, .inl u5.1)), (q_a0, .inr (7, [.ref q_a0_weights, .ref q_a0_sums, .ref q_a0_depths, .ref q_a0_sorted, .ref q_a0_slots])), (q_a0_weights, .inl (g_K C 0, 516, .inl u6.1)), (q_a0_sorted, .inl (g_K C 0, 258, .inl u5.2)), (q_a0_sums, .inl (g_K C 0, 516, .inl u6.2))]) (fun _ => rfl) d_Coder_makeLengths_33 0 0 rfl rfl (fun _ => ?_)
        refine g_aload_n 36 hC (j := 0) (hj := rfl) (hd := d_Coder_makeLengths_36) ?_
        refine g_aload_n 37 hC (j := 1) (hj := rfl) (hd := d_Coder_makeLengths_37) ?_
        refine g_iload_n 38 hC (j := 2) (hj := rfl) (hd := d_Coder_makeLengths_38) ?_
        obtain ⟨u7, hu7, hf⟩ := bd_some hf
        refine g_callVi 39 hC (c_Coder_tellLengths (g_l C) (g_D C) (g_K C) q_a0 q_a0_weights q_a0_sums q_a0_depths q_a0_sorted q_a0_slots s1.2.2.2.2.2.2.1 u6.2 q_a1 n_a1 s1.2.2.2.2.2.2.2 p2 u7 hu7) k1016 k10 k1013 k1015 ks14 2 rfl (by decide +kernel) (by decide) [3, 0, 6, 1] [2, 4, 5] [(q_a0_slots, .inl (g_K C 0, 2254, .inl u5.1)), (q_a0_weights, .inl (g_K C 0, 516, .inl u6.1)), (q_a0_sorted, .inl (g_K C 0, 258, .inl u5.2))] rfl rfl rfl rfl rfl 0 7 rfl rfl rfl rfl (Nat.le_of_ble_eq_true rfl) ⟨Nat.le_of_ble_eq_true rfl, Nat.le_of_ble_eq_true rfl⟩ (fun (_ : Unit) => [(q_a0_slots, .inl (g_K C 0, 2254, .inl u5.1)), (q_a0_weights, .inl (g_K C 0, 516, .inl u6.1)), (q_a0_sorted, .inl (g_K C 0, 258, .inl u5.2)), (q_a0, .inr (7, [.ref q_a0_weights, .ref q_a0_sums, .ref q_a0_depths, .ref q_a0_sorted, .ref q_a0_slots])), (q_a0_depths, .inl (g_K C 0, 516, .inl u7.2.1)), (q_a0_sums, .inl (g_K C 0, 516, .inl u6.2)), (q_a1, .inl (g_K C 0, n_a1, .inl u7.2.2))]) (fun _ => rfl) d_Coder_makeLengths_39 0 0 rfl rfl (fun _ => ?_)
        refine g_bipush 42 hC (17 : Int32) (by decide) d_Coder_makeLengths_42 ?_
        refine g_icmp_gt 44 hC 51 (by decide) d_Coder_makeLengths_44 (fun c8 => ?_) (fun c8 => ?_)
        · have hf := it_t c8 hf
          refine g_iconst 51 hC (0 : Int32) (by decide) d_Coder_makeLengths_51 ?_
          exact g_re [3, 1, 0, 2, 5, 4, 6] [0, 1, 2, 3] rfl rfl rfl (J52 (0 : Int32) u6.1 u5.1 u5.2 u6.2 u7.2.1 u7.2.2 hf)
        · have hf := it_f c8 hf
          refine g_iconst 47 hC (1 : Int32) (by decide) d_Coder_makeLengths_47 ?_
          refine g_goto 48 hC 52 (by decide) d_Coder_makeLengths_48 ?_
          exact g_re [3, 1, 0, 2, 5, 4, 6] [0, 1, 2, 3] rfl rfl rfl (J52 (1 : Int32) u6.1 u5.1 u5.2 u6.2 u7.2.1 u7.2.2 hf)
      refine g_iload 5 hC (j := 4) (hj := rfl) (hd := d_Coder_makeLengths_5) ?_
      refine g_bipush 7 hC (32 : Int32) (by decide) d_Coder_makeLengths_7 ?_
      refine g_icmp_ge 9 hC 59 (by decide) d_Coder_makeLengths_9 (fun c9 => ?_) (fun c9 => ?_)
      · have hf := it_t c9 hf
        exact g_re [0, 1, 2, 3, 4, 5, 6] [] rfl rfl rfl (Xu2_0 (s1.2.2.1, s1.2.2.2.1, s1.2.2.2.2.1, s1.2.2.2.2.2.1, s1.2.2.2.2.2.2.1, s1.2.2.2.2.2.2.2) (hX (s1.2.2.1, s1.2.2.2.1, s1.2.2.2.2.1, s1.2.2.2.2.2.1, s1.2.2.2.2.2.2.1, s1.2.2.2.2.2.2.2) hf))
      · have hf := it_f c9 hf
        refine g_iload_n 12 hC (j := 3) (hj := rfl) (hd := d_Coder_makeLengths_12) ?_
        refine g_if_ne 13 hC 59 (by decide) d_Coder_makeLengths_13 (fun c10 => ?_) (fun c10 => ?_)
        · have hf := it_f c10 hf
          exact g_re [0, 1, 2, 3, 4, 5, 6] [] rfl rfl rfl (Xu2_0 (s1.2.2.1, s1.2.2.2.1, s1.2.2.2.2.1, s1.2.2.2.2.2.1, s1.2.2.2.2.2.2.1, s1.2.2.2.2.2.2.2) (hX (s1.2.2.1, s1.2.2.2.1, s1.2.2.2.2.1, s1.2.2.2.2.2.1, s1.2.2.2.2.2.2.1, s1.2.2.2.2.2.2.2) hf))
        · have hf := it_t c10 hf
          refine g_iload 16 hC (j := 4) (hj := rfl) (hd := d_Coder_makeLengths_16) ?_
          refine g_if_le 18 hC 26 (by decide) d_Coder_makeLengths_18 (fun c11 => ?_) (fun c11 => ?_)
          · have hf := it_t c11 hf
            exact g_re [0, 1, 2, 3, 4, 5, 6] [0, 1, 2, 4] rfl rfl rfl (J26 s1.2.2.1 hf)
          · have hf := it_f c11 hf
            refine g_aload_n 21 hC (j := 0) (hj := rfl) (hd := d_Coder_makeLengths_21) ?_
            refine g_iload_n 22 hC (j := 2) (hj := rfl) (hd := d_Coder_makeLengths_22) ?_
            obtain ⟨u12, hu12, hf⟩ := bd_some hf
            refine g_callVv 23 hC (c_Coder_halve (g_l C) (g_D C) (g_K C) q_a0 q_a0_weights q_a0_sums q_a0_depths q_a0_sorted q_a0_slots s1.2.2.1 p2 u12 hu12) k1003 k10 k1000 k1002 ks11 1 rfl (by decide +kernel) (by decide) [0, 1] [2, 3, 4, 5, 6] [(q_a0_slots, .inl (g_K C 0, 2254, .inl s1.2.2.2.1)), (q_a0_sorted, .inl (g_K C 0, 258, .inl s1.2.2.2.2.1)), (q_a0_sums, .inl (g_K C 0, 516, .inl s1.2.2.2.2.2.1)), (q_a0_depths, .inl (g_K C 0, 516, .inl s1.2.2.2.2.2.2.1)), (q_a1, .inl (g_K C 0, n_a1, .inl s1.2.2.2.2.2.2.2))] rfl rfl rfl rfl rfl 0 7 rfl rfl rfl rfl (Nat.le_of_ble_eq_true rfl) ⟨Nat.le_of_ble_eq_true rfl, Nat.le_of_ble_eq_true rfl⟩ (fun (_ : Unit) => [(q_a0_slots, .inl (g_K C 0, 2254, .inl s1.2.2.2.1)), (q_a0_sorted, .inl (g_K C 0, 258, .inl s1.2.2.2.2.1)), (q_a0_sums, .inl (g_K C 0, 516, .inl s1.2.2.2.2.2.1)), (q_a0_depths, .inl (g_K C 0, 516, .inl s1.2.2.2.2.2.2.1)), (q_a1, .inl (g_K C 0, n_a1, .inl s1.2.2.2.2.2.2.2)), (q_a0, .inr (7, [.ref q_a0_weights, .ref q_a0_sums, .ref q_a0_depths, .ref q_a0_sorted, .ref q_a0_slots])), (q_a0_weights, .inl (g_K C 0, 516, .inl u12))]) (fun _ => rfl) d_Coder_makeLengths_23 0 0 rfl rfl (fun _ => ?_)
            exact g_re [5, 6, 0, 1, 2, 3, 4] [0, 1, 2, 4] rfl rfl rfl (J26 u12 hf)) gas
  exact g_re [0, 1, 2, 3, 4, 5, 6] [2, 3, 4, 1, 0] rfl rfl rfl (Gu2 ((0 : Int32), (0 : Int32), f_a0_weights, f_a0_slots, f_a0_sorted, f_a0_sums, f_a0_depths, f_a1) hu2)
theorem c_Coder_makeLengths (l : Launch) (D : va_G) (K : Nat → ClassId) (q_a0 : Nat) (q_a0_weights : Nat) (q_a0_sums : Nat) (q_a0_depths : Nat) (q_a0_sorted : Nat) (q_a0_slots : Nat) (f_a0_weights : (Nat → Int32)) (f_a0_slots : (Nat → Int32)) (f_a0_sorted : (Nat → Int32)) (f_a0_sums : (Nat → Int32)) (f_a0_depths : (Nat → Int32)) (q_a1 : Nat) (n_a1 : Nat) (f_a1 : (Nat → Int32)) (p2 : Int32) (out : ((Nat → Int32) × (Nat → Int32) × (Nat → Int32) × (Nat → Int32) × (Nat → Int32) × (Nat → Int32))) (hf : Coder_makeLengths_f p2 n_a1 f_a0_weights f_a0_slots f_a0_sorted f_a0_sums f_a0_depths f_a1 = some out) : Cv l D K y_Coder_makeLengths (g_wd y_Coder_makeLengths b_Coder_makeLengths 5 none) { frames := 3, cells := 0, slots := 0, locals := 69 } [.ref q_a0, .ref q_a1, .int p2] [(q_a0, .inr (7, [.ref q_a0_weights, .ref q_a0_sums, .ref q_a0_depths, .ref q_a0_sorted, .ref q_a0_slots])), (q_a0_weights, .inl (K 0, 516, .inl f_a0_weights)), (q_a0_slots, .inl (K 0, 2254, .inl f_a0_slots)), (q_a0_sorted, .inl (K 0, 258, .inl f_a0_sorted)), (q_a0_sums, .inl (K 0, 516, .inl f_a0_sums)), (q_a0_depths, .inl (K 0, 516, .inl f_a0_depths)), (q_a1, .inl (K 0, n_a1, .inl f_a1))] (fun (x : Unit) => [(q_a0, .inr (7, [.ref q_a0_weights, .ref q_a0_sums, .ref q_a0_depths, .ref q_a0_sorted, .ref q_a0_slots])), (q_a0_weights, .inl (K 0, 516, .inl out.1)), (q_a0_slots, .inl (K 0, 2254, .inl out.2.1)), (q_a0_sorted, .inl (K 0, 258, .inl out.2.2.1)), (q_a0_sums, .inl (K 0, 516, .inl out.2.2.2.1)), (q_a0_depths, .inl (K 0, 516, .inl out.2.2.2.2.1)), (q_a1, .inl (K 0, n_a1, .inl out.2.2.2.2.2))]) := mk_v (by decide) (Nat.le_of_ble_eq_true rfl) (fun p e s m below meth c A Q hC kr => m_Coder_makeLengths hC q_a0 q_a0_weights q_a0_sums q_a0_depths q_a0_sorted q_a0_slots f_a0_weights f_a0_slots f_a0_sorted f_a0_sums f_a0_depths q_a1 n_a1 f_a1 p2 out hf (fun x o9 pc lv ho => by subst ho; exact kr x pc lv))
