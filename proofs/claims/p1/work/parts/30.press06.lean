abbrev b_Rotations_sortEqualByPlace : ByteArray := prog_11_method_8_code
def y_Rotations_sortEqualByPlace : MethodName := ⟨R_Rotations, "sortEqualByPlace", "(I)V"⟩
theorem d_Rotations_sortEqualByPlace_0 : decode b_Rotations_sortEqualByPlace 0 = .ok (.aload_n 0, 1) := by decide +kernel
theorem d_Rotations_sortEqualByPlace_1 : decode b_Rotations_sortEqualByPlace 1 = .ok (.iload_n 1, 1) := by decide +kernel
theorem d_Rotations_sortEqualByPlace_2 : decode b_Rotations_sortEqualByPlace 2 = .ok (.invokevirtual 56, 3) := by decide +kernel
theorem d_Rotations_sortEqualByPlace_5 : decode b_Rotations_sortEqualByPlace 5 = .ok (.iconst 0, 1) := by decide +kernel
theorem d_Rotations_sortEqualByPlace_6 : decode b_Rotations_sortEqualByPlace 6 = .ok (.istore_n 2, 1) := by decide +kernel
theorem d_Rotations_sortEqualByPlace_7 : decode b_Rotations_sortEqualByPlace 7 = .ok (.iload_n 2, 1) := by decide +kernel
theorem d_Rotations_sortEqualByPlace_8 : decode b_Rotations_sortEqualByPlace 8 = .ok (.iload_n 1, 1) := by decide +kernel
theorem d_Rotations_sortEqualByPlace_9 : decode b_Rotations_sortEqualByPlace 9 = .ok (.if_icmp .ge 41, 3) := by decide +kernel
theorem d_Rotations_sortEqualByPlace_12 : decode b_Rotations_sortEqualByPlace 12 = .ok (.aload_n 0, 1) := by decide +kernel
theorem d_Rotations_sortEqualByPlace_13 : decode b_Rotations_sortEqualByPlace 13 = .ok (.getfield 9, 3) := by decide +kernel
theorem d_Rotations_sortEqualByPlace_16 : decode b_Rotations_sortEqualByPlace 16 = .ok (.aload_n 0, 1) := by decide +kernel
theorem d_Rotations_sortEqualByPlace_17 : decode b_Rotations_sortEqualByPlace 17 = .ok (.getfield 24, 3) := by decide +kernel
theorem d_Rotations_sortEqualByPlace_20 : decode b_Rotations_sortEqualByPlace 20 = .ok (.aload_n 0, 1) := by decide +kernel
theorem d_Rotations_sortEqualByPlace_21 : decode b_Rotations_sortEqualByPlace 21 = .ok (.getfield 18, 3) := by decide +kernel
theorem d_Rotations_sortEqualByPlace_24 : decode b_Rotations_sortEqualByPlace 24 = .ok (.iload_n 2, 1) := by decide +kernel
theorem d_Rotations_sortEqualByPlace_25 : decode b_Rotations_sortEqualByPlace 25 = .ok (.iaload, 1) := by decide +kernel
theorem d_Rotations_sortEqualByPlace_26 : decode b_Rotations_sortEqualByPlace 26 = .ok (.iaload, 1) := by decide +kernel
theorem d_Rotations_sortEqualByPlace_27 : decode b_Rotations_sortEqualByPlace 27 = .ok (.iload_n 2, 1) := by decide +kernel
theorem d_Rotations_sortEqualByPlace_28 : decode b_Rotations_sortEqualByPlace 28 = .ok (.iastore, 1) := by decide +kernel
theorem d_Rotations_sortEqualByPlace_29 : decode b_Rotations_sortEqualByPlace 29 = .ok (.aload_n 0, 1) := by decide +kernel
theorem d_Rotations_sortEqualByPlace_30 : decode b_Rotations_sortEqualByPlace 30 = .ok (.getfield 24, 3) := by decide +kernel
theorem d_Rotations_sortEqualByPlace_33 : decode b_Rotations_sortEqualByPlace 33 = .ok (.aload_n 0, 1) := by decide +kernel
theorem d_Rotations_sortEqualByPlace_34 : decode b_Rotations_sortEqualByPlace 34 = .ok (.getfield 18, 3) := by decide +kernel
theorem d_Rotations_sortEqualByPlace_37 : decode b_Rotations_sortEqualByPlace 37 = .ok (.iload_n 2, 1) := by decide +kernel
theorem d_Rotations_sortEqualByPlace_38 : decode b_Rotations_sortEqualByPlace 38 = .ok (.iaload, 1) := by decide +kernel
theorem d_Rotations_sortEqualByPlace_39 : decode b_Rotations_sortEqualByPlace 39 = .ok (.dup2, 1) := by decide +kernel
theorem d_Rotations_sortEqualByPlace_40 : decode b_Rotations_sortEqualByPlace 40 = .ok (.iaload, 1) := by decide +kernel
theorem d_Rotations_sortEqualByPlace_41 : decode b_Rotations_sortEqualByPlace 41 = .ok (.iconst 1, 1) := by decide +kernel
theorem d_Rotations_sortEqualByPlace_42 : decode b_Rotations_sortEqualByPlace 42 = .ok (.iadd, 1) := by decide +kernel
theorem d_Rotations_sortEqualByPlace_43 : decode b_Rotations_sortEqualByPlace 43 = .ok (.iastore, 1) := by decide +kernel
theorem d_Rotations_sortEqualByPlace_44 : decode b_Rotations_sortEqualByPlace 44 = .ok (.iinc 2 1, 3) := by decide +kernel
theorem d_Rotations_sortEqualByPlace_47 : decode b_Rotations_sortEqualByPlace 47 = .ok (.goto (-40), 3) := by decide +kernel
theorem d_Rotations_sortEqualByPlace_50 : decode b_Rotations_sortEqualByPlace 50 = .ok (.return_, 1) := by decide +kernel
set_option maxRecDepth 100000 in
set_option maxHeartbeats 4000000 in
theorem m_Rotations_sortEqualByPlace {C : gT} (hC : gOk C b_Rotations_sortEqualByPlace R_Rotations { frames := 1, cells := 0, slots := 0, locals := 22 } 3) (q_a0 : Nat) (q_a0_order : Nat) (r_a0_orderNext : Nat) (q_a0_rank : Nat) (r_a0_rankNext : Nat) (q_a0_slots : Nat) (x_a0_ranks : Int32) (f_a0_slots : (Nat → Int32)) (f_a0_rank : (Nat → Int32)) (f_a0_order : (Nat → Int32)) (p1 : Int32) (out : ((Nat → Int32) × (Nat → Int32))) (hf : Rotations_sortEqualByPlace_f p1 f_a0_slots f_a0_rank f_a0_order = some out) (kr : ∀ (x : Unit) (o9 : ((Nat → Int32) × (Nat → Int32))) (pc : Nat) (lv : List (Nat × Value)), o9 = out → decode b_Rotations_sortEqualByPlace pc = .ok (.return_, 1) → gAt C 0 0 [(q_a0, .inr (10, [.ref q_a0_order, .ref r_a0_orderNext, .ref q_a0_rank, .ref r_a0_rankNext, .ref q_a0_slots, .int x_a0_ranks])), (q_a0_slots, .inl (g_K C 0, 2250, .inl o9.1)), (q_a0_rank, .inl (g_K C 0, 2250, .inl f_a0_rank)), (q_a0_order, .inl (g_K C 0, 2250, .inl o9.2))] lv pc []) : gAt C 0 0 [(q_a0, .inr (10, [.ref q_a0_order, .ref r_a0_orderNext, .ref q_a0_rank, .ref r_a0_rankNext, .ref q_a0_slots, .int x_a0_ranks])), (q_a0_slots, .inl (g_K C 0, 2250, .inl f_a0_slots)), (q_a0_rank, .inl (g_K C 0, 2250, .inl f_a0_rank)), (q_a0_order, .inl (g_K C 0, 2250, .inl f_a0_order))] [(0, .ref q_a0), (1, .int p1)] 0 [] := by
  unfold Rotations_sortEqualByPlace_f at hf
  refine g_aload_n 0 hC (j := 0) (hj := rfl) (hd := d_Rotations_sortEqualByPlace_0) ?_
  refine g_iload_n 1 hC (j := 1) (hj := rfl) (hd := d_Rotations_sortEqualByPlace_1) ?_
  obtain ⟨u1, hu1, hf⟩ := bd_some hf
  refine g_callVv 2 hC (c_Rotations_openSlots (g_l C) (g_D C) (g_K C) q_a0 q_a0_order r_a0_orderNext q_a0_rank r_a0_rankNext q_a0_slots x_a0_ranks f_a0_slots p1 u1 hu1) k943 k9 k940 k942 ks5 1 rfl (by decide +kernel) (by decide) [0, 1] [2, 3] [(q_a0_rank, .inl (g_K C 0, 2250, .inl f_a0_rank)), (q_a0_order, .inl (g_K C 0, 2250, .inl f_a0_order))] rfl rfl rfl rfl rfl 0 10 rfl rfl rfl rfl (Nat.le_of_ble_eq_true rfl) ⟨Nat.le_of_ble_eq_true rfl, Nat.le_of_ble_eq_true rfl⟩ (fun (_ : Unit) => [(q_a0_rank, .inl (g_K C 0, 2250, .inl f_a0_rank)), (q_a0_order, .inl (g_K C 0, 2250, .inl f_a0_order)), (q_a0, .inr (10, [.ref q_a0_order, .ref r_a0_orderNext, .ref q_a0_rank, .ref r_a0_rankNext, .ref q_a0_slots, .int x_a0_ranks])), (q_a0_slots, .inl (g_K C 0, 2250, .inl u1))]) (fun _ => rfl) d_Rotations_sortEqualByPlace_2 0 0 rfl rfl (fun _ => ?_)
  refine g_iconst 5 hC (0 : Int32) (by decide) d_Rotations_sortEqualByPlace_5 ?_
  refine g_istore_n 6 hC (lv2 := [(2, .int (0 : Int32)), (0, .ref q_a0), (1, .int p1)]) (hn := (by decide)) (hl2 := rfl) (hd := d_Rotations_sortEqualByPlace_6) ?_
  obtain ⟨u3, hu3, hf⟩ := bd_some hf
  have Xu3_0 : ∀ (v4 : ((Nat → Int32) × (Nat → Int32))), v4 = u3 → gAt C 0 0 [(q_a0, .inr (10, [.ref q_a0_order, .ref r_a0_orderNext, .ref q_a0_rank, .ref r_a0_rankNext, .ref q_a0_slots, .int x_a0_ranks])), (q_a0_slots, .inl (g_K C 0, 2250, .inl v4.1)), (q_a0_rank, .inl (g_K C 0, 2250, .inl f_a0_rank)), (q_a0_order, .inl (g_K C 0, 2250, .inl v4.2))] [] 50 [] := by
    intro v4 hv
    rw [← hv] at hf
    exact kr () (v4.1, v4.2) 50 [] (Option.some.inj hf) d_Rotations_sortEqualByPlace_50
  have Gu3 := lp_ind (b := (Rotations_sortEqualByPlace_L7 p1 f_a0_rank)) (G := fun (s2 : (Int32 × (Nat → Int32) × (Nat → Int32))) => gAt C 0 0 [(q_a0, .inr (10, [.ref q_a0_order, .ref r_a0_orderNext, .ref q_a0_rank, .ref r_a0_rankNext, .ref q_a0_slots, .int x_a0_ranks])), (q_a0_slots, .inl (g_K C 0, 2250, .inl s2.2.1)), (q_a0_rank, .inl (g_K C 0, 2250, .inl f_a0_rank)), (q_a0_order, .inl (g_K C 0, 2250, .inl s2.2.2))] [(0, .ref q_a0), (1, .int p1), (2, .int s2.1)] 7 []) (o := u3) (by
      intro s2 u5 hf hI hX
      unfold Rotations_sortEqualByPlace_L7 at hf
      refine g_iload_n 7 hC (j := 2) (hj := rfl) (hd := d_Rotations_sortEqualByPlace_7) ?_
      refine g_iload_n 8 hC (j := 1) (hj := rfl) (hd := d_Rotations_sortEqualByPlace_8) ?_
      refine g_icmp_ge 9 hC 50 (by decide) d_Rotations_sortEqualByPlace_9 (fun c6 => ?_) (fun c6 => ?_)
      · have hf := it_t c6 hf
        exact g_re [0, 1, 2, 3] [] rfl rfl rfl (Xu3_0 (s2.2.1, s2.2.2) (hX (s2.2.1, s2.2.2) hf))
      · have hf := it_f c6 hf
        refine g_aload_n 12 hC (j := 0) (hj := rfl) (hd := d_Rotations_sortEqualByPlace_12) ?_
        refine g_get 13 hC i_Rotations rfl 0 rfl 0 (by decide) k220 rfl d_Rotations_sortEqualByPlace_13 ?_
        refine g_aload_n 16 hC (j := 0) (hj := rfl) (hd := d_Rotations_sortEqualByPlace_16) ?_
        refine g_get 17 hC i_Rotations rfl 0 rfl 4 (by decide) k224 rfl d_Rotations_sortEqualByPlace_17 ?_
        refine g_aload_n 20 hC (j := 0) (hj := rfl) (hd := d_Rotations_sortEqualByPlace_20) ?_
        refine g_get 21 hC i_Rotations rfl 0 rfl 2 (by decide) k222 rfl d_Rotations_sortEqualByPlace_21 ?_
        refine g_iload_n 24 hC (j := 2) (hj := rfl) (hd := d_Rotations_sortEqualByPlace_24) ?_
        obtain ⟨e7, hf⟩ := gd_some hf
        refine g_iald 25 hC 2 rfl e7 d_Rotations_sortEqualByPlace_25 ?_
        obtain ⟨e8, hf⟩ := gd_some hf
        refine g_iald 26 hC 1 rfl e8 d_Rotations_sortEqualByPlace_26 ?_
        refine g_iload_n 27 hC (j := 2) (hj := rfl) (hd := d_Rotations_sortEqualByPlace_27) ?_
        obtain ⟨e9, hf⟩ := gd_some hf
        refine g_iast 28 hC 3 rfl e9 [(q_a0, .inr (10, [.ref q_a0_order, .ref r_a0_orderNext, .ref q_a0_rank, .ref r_a0_rankNext, .ref q_a0_slots, .int x_a0_ranks])), (q_a0_slots, .inl (g_K C 0, 2250, .inl s2.2.1)), (q_a0_rank, .inl (g_K C 0, 2250, .inl f_a0_rank)), (q_a0_order, .inl (g_K C 0, 2250, .inl (upd s2.2.2 (s2.2.1 (f_a0_rank s2.1.toNatClampNeg).toNatClampNeg).toNatClampNeg s2.1)))] rfl d_Rotations_sortEqualByPlace_28 ?_
        refine g_aload_n 29 hC (j := 0) (hj := rfl) (hd := d_Rotations_sortEqualByPlace_29) ?_
        refine g_get 30 hC i_Rotations rfl 0 rfl 4 (by decide) k224 rfl d_Rotations_sortEqualByPlace_30 ?_
        refine g_aload_n 33 hC (j := 0) (hj := rfl) (hd := d_Rotations_sortEqualByPlace_33) ?_
        refine g_get 34 hC i_Rotations rfl 0 rfl 2 (by decide) k222 rfl d_Rotations_sortEqualByPlace_34 ?_
        refine g_iload_n 37 hC (j := 2) (hj := rfl) (hd := d_Rotations_sortEqualByPlace_37) ?_
        obtain ⟨e10, hf⟩ := gd_some hf
        refine g_iald 38 hC 2 rfl e10 d_Rotations_sortEqualByPlace_38 ?_
        refine g_dup2 39 hC rfl rfl d_Rotations_sortEqualByPlace_39 ?_
        obtain ⟨e11, hf⟩ := gd_some hf
        refine g_iald 40 hC 1 rfl e11 d_Rotations_sortEqualByPlace_40 ?_
        refine g_iconst 41 hC (1 : Int32) (by decide) d_Rotations_sortEqualByPlace_41 ?_
        refine g_iadd 42 hC d_Rotations_sortEqualByPlace_42 ?_
        obtain ⟨e12, hf⟩ := gd_some hf
        refine g_iast 43 hC 1 rfl e12 [(q_a0, .inr (10, [.ref q_a0_order, .ref r_a0_orderNext, .ref q_a0_rank, .ref r_a0_rankNext, .ref q_a0_slots, .int x_a0_ranks])), (q_a0_slots, .inl (g_K C 0, 2250, .inl (upd s2.2.1 (f_a0_rank s2.1.toNatClampNeg).toNatClampNeg ((s2.2.1 (f_a0_rank s2.1.toNatClampNeg).toNatClampNeg) + (1 : Int32))))), (q_a0_rank, .inl (g_K C 0, 2250, .inl f_a0_rank)), (q_a0_order, .inl (g_K C 0, 2250, .inl (upd s2.2.2 (s2.2.1 (f_a0_rank s2.1.toNatClampNeg).toNatClampNeg).toNatClampNeg s2.1)))] rfl d_Rotations_sortEqualByPlace_43 ?_
        refine g_iinc 44 hC 2 (1 : Int32) [(2, .int (s2.1 + (1 : Int32))), (0, .ref q_a0), (1, .int p1)] rfl (by decide) (by decide) rfl d_Rotations_sortEqualByPlace_44 ?_
        refine g_goto 47 hC 7 (by decide) d_Rotations_sortEqualByPlace_47 ?_
        exact g_re [0, 1, 2, 3] [1, 2, 0] rfl rfl rfl (hI ((s2.1 + (1 : Int32)), (upd s2.2.1 (f_a0_rank s2.1.toNatClampNeg).toNatClampNeg ((s2.2.1 (f_a0_rank s2.1.toNatClampNeg).toNatClampNeg) + (1 : Int32))), (upd s2.2.2 (s2.2.1 (f_a0_rank s2.1.toNatClampNeg).toNatClampNeg).toNatClampNeg s2.1)) hf)) gas
  exact g_re [2, 3, 0, 1] [1, 2, 0] rfl rfl rfl (Gu3 ((0 : Int32), u1, f_a0_order) hu3)
theorem c_Rotations_sortEqualByPlace (l : Launch) (D : va_G) (K : Nat → ClassId) (q_a0 : Nat) (q_a0_order : Nat) (r_a0_orderNext : Nat) (q_a0_rank : Nat) (r_a0_rankNext : Nat) (q_a0_slots : Nat) (x_a0_ranks : Int32) (f_a0_slots : (Nat → Int32)) (f_a0_rank : (Nat → Int32)) (f_a0_order : (Nat → Int32)) (p1 : Int32) (out : ((Nat → Int32) × (Nat → Int32))) (hf : Rotations_sortEqualByPlace_f p1 f_a0_slots f_a0_rank f_a0_order = some out) : Cv l D K y_Rotations_sortEqualByPlace (g_wd y_Rotations_sortEqualByPlace b_Rotations_sortEqualByPlace 3 none) { frames := 1, cells := 0, slots := 0, locals := 22 } [.ref q_a0, .int p1] [(q_a0, .inr (10, [.ref q_a0_order, .ref r_a0_orderNext, .ref q_a0_rank, .ref r_a0_rankNext, .ref q_a0_slots, .int x_a0_ranks])), (q_a0_slots, .inl (K 0, 2250, .inl f_a0_slots)), (q_a0_rank, .inl (K 0, 2250, .inl f_a0_rank)), (q_a0_order, .inl (K 0, 2250, .inl f_a0_order))] (fun (x : Unit) => [(q_a0, .inr (10, [.ref q_a0_order, .ref r_a0_orderNext, .ref q_a0_rank, .ref r_a0_rankNext, .ref q_a0_slots, .int x_a0_ranks])), (q_a0_slots, .inl (K 0, 2250, .inl out.1)), (q_a0_rank, .inl (K 0, 2250, .inl f_a0_rank)), (q_a0_order, .inl (K 0, 2250, .inl out.2))]) := mk_v (by decide) (Nat.le_of_ble_eq_true rfl) (fun p e s m below meth c A Q hC kr => m_Rotations_sortEqualByPlace hC q_a0 q_a0_order r_a0_orderNext q_a0_rank r_a0_rankNext q_a0_slots x_a0_ranks f_a0_slots f_a0_rank f_a0_order p1 out hf (fun x o9 pc lv ho => by subst ho; exact kr x pc lv))
abbrev b_Rotations_sortByByte : ByteArray := prog_11_method_3_code
def y_Rotations_sortByByte : MethodName := ⟨R_Rotations, "sortByByte", "([II[I[I)V"⟩
theorem d_Rotations_sortByByte_0 : decode b_Rotations_sortByByte 0 = .ok (.aload_n 3, 1) := by decide +kernel
theorem d_Rotations_sortByByte_1 : decode b_Rotations_sortByByte 1 = .ok (.iconst 0, 1) := by decide +kernel
theorem d_Rotations_sortByByte_2 : decode b_Rotations_sortByByte 2 = .ok (.sipush 257, 3) := by decide +kernel
theorem d_Rotations_sortByByte_5 : decode b_Rotations_sortByByte 5 = .ok (.iconst 0, 1) := by decide +kernel
theorem d_Rotations_sortByByte_6 : decode b_Rotations_sortByByte 6 = .ok (.invokestatic 50, 3) := by decide +kernel
theorem d_Rotations_sortByByte_9 : decode b_Rotations_sortByByte 9 = .ok (.iconst 0, 1) := by decide +kernel
theorem d_Rotations_sortByByte_10 : decode b_Rotations_sortByByte 10 = .ok (.istore 4, 2) := by decide +kernel
theorem d_Rotations_sortByByte_12 : decode b_Rotations_sortByByte 12 = .ok (.iload 4, 2) := by decide +kernel
theorem d_Rotations_sortByByte_14 : decode b_Rotations_sortByByte 14 = .ok (.iload_n 1, 1) := by decide +kernel
theorem d_Rotations_sortByByte_15 : decode b_Rotations_sortByByte 15 = .ok (.if_icmp .ge 21, 3) := by decide +kernel
theorem d_Rotations_sortByByte_18 : decode b_Rotations_sortByByte 18 = .ok (.aload_n 3, 1) := by decide +kernel
theorem d_Rotations_sortByByte_19 : decode b_Rotations_sortByByte 19 = .ok (.aload_n 0, 1) := by decide +kernel
theorem d_Rotations_sortByByte_20 : decode b_Rotations_sortByByte 20 = .ok (.iload 4, 2) := by decide +kernel
theorem d_Rotations_sortByByte_22 : decode b_Rotations_sortByByte 22 = .ok (.iaload, 1) := by decide +kernel
theorem d_Rotations_sortByByte_23 : decode b_Rotations_sortByByte 23 = .ok (.iconst 1, 1) := by decide +kernel
theorem d_Rotations_sortByByte_24 : decode b_Rotations_sortByByte 24 = .ok (.iadd, 1) := by decide +kernel
theorem d_Rotations_sortByByte_25 : decode b_Rotations_sortByByte 25 = .ok (.dup2, 1) := by decide +kernel
theorem d_Rotations_sortByByte_26 : decode b_Rotations_sortByByte 26 = .ok (.iaload, 1) := by decide +kernel
theorem d_Rotations_sortByByte_27 : decode b_Rotations_sortByByte 27 = .ok (.iconst 1, 1) := by decide +kernel
theorem d_Rotations_sortByByte_28 : decode b_Rotations_sortByByte 28 = .ok (.iadd, 1) := by decide +kernel
theorem d_Rotations_sortByByte_29 : decode b_Rotations_sortByByte 29 = .ok (.iastore, 1) := by decide +kernel
theorem d_Rotations_sortByByte_30 : decode b_Rotations_sortByByte 30 = .ok (.iinc 4 1, 3) := by decide +kernel
theorem d_Rotations_sortByByte_33 : decode b_Rotations_sortByByte 33 = .ok (.goto (-21), 3) := by decide +kernel
theorem d_Rotations_sortByByte_36 : decode b_Rotations_sortByByte 36 = .ok (.iconst 1, 1) := by decide +kernel
theorem d_Rotations_sortByByte_37 : decode b_Rotations_sortByByte 37 = .ok (.istore 4, 2) := by decide +kernel
theorem d_Rotations_sortByByte_39 : decode b_Rotations_sortByByte 39 = .ok (.iload 4, 2) := by decide +kernel
theorem d_Rotations_sortByByte_41 : decode b_Rotations_sortByByte 41 = .ok (.sipush 256, 3) := by decide +kernel
theorem d_Rotations_sortByByte_44 : decode b_Rotations_sortByByte 44 = .ok (.if_icmp .ge 22, 3) := by decide +kernel
theorem d_Rotations_sortByByte_47 : decode b_Rotations_sortByByte 47 = .ok (.aload_n 3, 1) := by decide +kernel
theorem d_Rotations_sortByByte_48 : decode b_Rotations_sortByByte 48 = .ok (.iload 4, 2) := by decide +kernel
theorem d_Rotations_sortByByte_50 : decode b_Rotations_sortByByte 50 = .ok (.dup2, 1) := by decide +kernel
theorem d_Rotations_sortByByte_51 : decode b_Rotations_sortByByte 51 = .ok (.iaload, 1) := by decide +kernel
theorem d_Rotations_sortByByte_52 : decode b_Rotations_sortByByte 52 = .ok (.aload_n 3, 1) := by decide +kernel
theorem d_Rotations_sortByByte_53 : decode b_Rotations_sortByByte 53 = .ok (.iload 4, 2) := by decide +kernel
theorem d_Rotations_sortByByte_55 : decode b_Rotations_sortByByte 55 = .ok (.iconst 1, 1) := by decide +kernel
theorem d_Rotations_sortByByte_56 : decode b_Rotations_sortByByte 56 = .ok (.isub, 1) := by decide +kernel
theorem d_Rotations_sortByByte_57 : decode b_Rotations_sortByByte 57 = .ok (.iaload, 1) := by decide +kernel
theorem d_Rotations_sortByByte_58 : decode b_Rotations_sortByByte 58 = .ok (.iadd, 1) := by decide +kernel
theorem d_Rotations_sortByByte_59 : decode b_Rotations_sortByByte 59 = .ok (.iastore, 1) := by decide +kernel
theorem d_Rotations_sortByByte_60 : decode b_Rotations_sortByByte 60 = .ok (.iinc 4 1, 3) := by decide +kernel
theorem d_Rotations_sortByByte_63 : decode b_Rotations_sortByByte 63 = .ok (.goto (-24), 3) := by decide +kernel
theorem d_Rotations_sortByByte_66 : decode b_Rotations_sortByByte 66 = .ok (.iconst 0, 1) := by decide +kernel
theorem d_Rotations_sortByByte_67 : decode b_Rotations_sortByByte 67 = .ok (.istore 4, 2) := by decide +kernel
theorem d_Rotations_sortByByte_69 : decode b_Rotations_sortByByte 69 = .ok (.iload 4, 2) := by decide +kernel
theorem d_Rotations_sortByByte_71 : decode b_Rotations_sortByByte 71 = .ok (.iload_n 1, 1) := by decide +kernel
theorem d_Rotations_sortByByte_72 : decode b_Rotations_sortByByte 72 = .ok (.if_icmp .ge 29, 3) := by decide +kernel
theorem d_Rotations_sortByByte_75 : decode b_Rotations_sortByByte 75 = .ok (.aload_n 2, 1) := by decide +kernel
theorem d_Rotations_sortByByte_76 : decode b_Rotations_sortByByte 76 = .ok (.aload_n 3, 1) := by decide +kernel
theorem d_Rotations_sortByByte_77 : decode b_Rotations_sortByByte 77 = .ok (.aload_n 0, 1) := by decide +kernel
theorem d_Rotations_sortByByte_78 : decode b_Rotations_sortByByte 78 = .ok (.iload 4, 2) := by decide +kernel
theorem d_Rotations_sortByByte_80 : decode b_Rotations_sortByByte 80 = .ok (.iaload, 1) := by decide +kernel
theorem d_Rotations_sortByByte_81 : decode b_Rotations_sortByByte 81 = .ok (.iaload, 1) := by decide +kernel
theorem d_Rotations_sortByByte_82 : decode b_Rotations_sortByByte 82 = .ok (.iload 4, 2) := by decide +kernel
theorem d_Rotations_sortByByte_84 : decode b_Rotations_sortByByte 84 = .ok (.iastore, 1) := by decide +kernel
theorem d_Rotations_sortByByte_85 : decode b_Rotations_sortByByte 85 = .ok (.aload_n 3, 1) := by decide +kernel
theorem d_Rotations_sortByByte_86 : decode b_Rotations_sortByByte 86 = .ok (.aload_n 0, 1) := by decide +kernel
theorem d_Rotations_sortByByte_87 : decode b_Rotations_sortByByte 87 = .ok (.iload 4, 2) := by decide +kernel
theorem d_Rotations_sortByByte_89 : decode b_Rotations_sortByByte 89 = .ok (.iaload, 1) := by decide +kernel
theorem d_Rotations_sortByByte_90 : decode b_Rotations_sortByByte 90 = .ok (.dup2, 1) := by decide +kernel
theorem d_Rotations_sortByByte_91 : decode b_Rotations_sortByByte 91 = .ok (.iaload, 1) := by decide +kernel
theorem d_Rotations_sortByByte_92 : decode b_Rotations_sortByByte 92 = .ok (.iconst 1, 1) := by decide +kernel
theorem d_Rotations_sortByByte_93 : decode b_Rotations_sortByByte 93 = .ok (.iadd, 1) := by decide +kernel
theorem d_Rotations_sortByByte_94 : decode b_Rotations_sortByByte 94 = .ok (.iastore, 1) := by decide +kernel
theorem d_Rotations_sortByByte_95 : decode b_Rotations_sortByByte 95 = .ok (.iinc 4 1, 3) := by decide +kernel
theorem d_Rotations_sortByByte_98 : decode b_Rotations_sortByByte 98 = .ok (.goto (-29), 3) := by decide +kernel
theorem d_Rotations_sortByByte_101 : decode b_Rotations_sortByByte 101 = .ok (.return_, 1) := by decide +kernel
theorem k677 : (Jvm.Cond.code ({ cls := "java/util/Arrays", name := "fill", desc := "([IIII)V" } : Jvm.MethodName) prog_31_method_104_code (5 : Nat) (Option.none : Option Jvm.ClassFile.FieldType)) ∈ g_tbl := List.mem_filter.mpr ⟨List.mem_append_right (k2_sels lw_privs) (List.mem_append_right _ (List.mem_append_right _ (List.mem_append_left _ (List.mem_of_getElem? (l := tables_1_3) (i := 197) rfl)))), rfl⟩
theorem k675 : (Jvm.Cond.methodLink "RotationPress$Rotations" (50 : Nat) ({ cls := "java/util/Arrays", name := "fill", desc := "([IIII)V" } : Jvm.MethodName)) ∈ g_tbl := List.mem_filter.mpr ⟨List.mem_append_right (k2_sels lw_privs) (List.mem_append_right _ (List.mem_append_right _ (List.mem_append_left _ (List.mem_of_getElem? (l := tables_1_3) (i := 195) rfl)))), rfl⟩
theorem k676 : (Jvm.Cond.static ({ cls := "java/util/Arrays", name := "fill", desc := "([IIII)V" } : Jvm.MethodName)) ∈ g_tbl := List.mem_filter.mpr ⟨List.mem_append_right (k2_sels lw_privs) (List.mem_append_right _ (List.mem_append_right _ (List.mem_append_left _ (List.mem_of_getElem? (l := tables_1_3) (i := 196) rfl)))), rfl⟩
set_option maxRecDepth 100000 in
set_option maxHeartbeats 4000000 in
theorem m_Rotations_sortByByte {C : gT} (hC : gOk C b_Rotations_sortByByte R_Rotations { frames := 2, cells := 0, slots := 0, locals := 46 } 5) (q_a3 : Nat) (n_a3 : Nat) (f_a3 : (Nat → Int32)) (q_a0 : Nat) (n_a0 : Nat) (f_a0 : (Nat → Int32)) (q_a2 : Nat) (n_a2 : Nat) (f_a2 : (Nat → Int32)) (p1 : Int32) (out : ((Nat → Int32) × (Nat → Int32))) (hf : Rotations_sortByByte_f n_a3 f_a3 p1 n_a0 f_a0 n_a2 f_a2 = some out) (kr : ∀ (x : Unit) (o9 : ((Nat → Int32) × (Nat → Int32))) (pc : Nat) (lv : List (Nat × Value)), o9 = out → decode b_Rotations_sortByByte pc = .ok (.return_, 1) → gAt C 0 0 [(q_a3, .inl (g_K C 0, n_a3, .inl o9.1)), (q_a0, .inl (g_K C 0, n_a0, .inl f_a0)), (q_a2, .inl (g_K C 0, n_a2, .inl o9.2))] lv pc []) : gAt C 0 0 [(q_a3, .inl (g_K C 0, n_a3, .inl f_a3)), (q_a0, .inl (g_K C 0, n_a0, .inl f_a0)), (q_a2, .inl (g_K C 0, n_a2, .inl f_a2))] [(0, .ref q_a0), (1, .int p1), (2, .ref q_a2), (3, .ref q_a3)] 0 [] := by
  unfold Rotations_sortByByte_f at hf
  refine g_aload_n 0 hC (j := 3) (hj := rfl) (hd := d_Rotations_sortByByte_0) ?_
  refine g_iconst 1 hC (0 : Int32) (by decide) d_Rotations_sortByByte_1 ?_
  refine g_sipush 2 hC (257 : Int32) (by decide) d_Rotations_sortByByte_2 ?_
  refine g_iconst 5 hC (0 : Int32) (by decide) d_Rotations_sortByByte_5 ?_
  obtain ⟨u1, hu1, hf⟩ := bd_some hf
  refine g_callSv 6 hC (c_Arrays_fill1 (g_l C) (g_D C) (g_K C) q_a3 n_a3 f_a3 (0 : Int32) (257 : Int32) (0 : Int32) u1 hu1) k677 k19 k675 k676 4 rfl (by decide +kernel) (by decide) [0] [1, 2] [(q_a0, .inl (g_K C 0, n_a0, .inl f_a0)), (q_a2, .inl (g_K C 0, n_a2, .inl f_a2))] rfl rfl rfl rfl rfl rfl (Nat.le_of_ble_eq_true rfl) ⟨Nat.le_of_ble_eq_true rfl, Nat.le_of_ble_eq_true rfl⟩ (fun (_ : Unit) => [(q_a0, .inl (g_K C 0, n_a0, .inl f_a0)), (q_a2, .inl (g_K C 0, n_a2, .inl f_a2)), (q_a3, .inl (g_K C 0, n_a3, .inl u1))]) (fun _ => rfl) d_Rotations_sortByByte_6 0 0 rfl rfl (fun _ => ?_)
  refine g_iconst 9 hC (0 : Int32) (by decide) d_Rotations_sortByByte_9 ?_
  refine g_istore 10 hC (lv2 := [(4, .int (0 : Int32)), (0, .ref q_a0), (1, .int p1), (2, .ref q_a2), (3, .ref q_a3)]) (hn := (by decide)) (hl2 := rfl) (hd := d_Rotations_sortByByte_10) ?_
  obtain ⟨u3, hu3, hf⟩ := bd_some hf
  have Xu3_0 : ∀ (v4 : (Nat → Int32)), v4 = u3 → gAt C 0 0 [(q_a3, .inl (g_K C 0, n_a3, .inl v4)), (q_a0, .inl (g_K C 0, n_a0, .inl f_a0)), (q_a2, .inl (g_K C 0, n_a2, .inl f_a2))] [(0, .ref q_a0), (1, .int p1), (2, .ref q_a2), (3, .ref q_a3)] 36 [] := by
    intro v4 hv
    rw [← hv] at hf
    refine g_iconst 36 hC (1 : Int32) (by decide) d_Rotations_sortByByte_36 ?_
    refine g_istore 37 hC (lv2 := [(4, .int (1 : Int32)), (0, .ref q_a0), (1, .int p1), (2, .ref q_a2), (3, .ref q_a3)]) (hn := (by decide)) (hl2 := rfl) (hd := d_Rotations_sortByByte_37) ?_
    obtain ⟨u6, hu6, hf⟩ := bd_some hf
    have Xu6_0 : ∀ (v7 : (Nat → Int32)), v7 = u6 → gAt C 0 0 [(q_a3, .inl (g_K C 0, n_a3, .inl v7)), (q_a0, .inl (g_K C 0, n_a0, .inl f_a0)), (q_a2, .inl (g_K C 0, n_a2, .inl f_a2))] [(0, .ref q_a0), (1, .int p1), (2, .ref q_a2), (3, .ref q_a3)] 66 [] := by
      intro v7 hv
      rw [← hv] at hf
      refine g_iconst 66 hC (0 : Int32) (by decide) d_Rotations_sortByByte_66 ?_
      refine g_istore 67 hC (lv2 := [(4, .int (0 : Int32)), (0, .ref q_a0), (1, .int p1), (2, .ref q_a2), (3, .ref q_a3)]) (hn := (by decide)) (hl2 := rfl) (hd := d_Rotations_sortByByte_67) ?_
      obtain ⟨u9, hu9, hf⟩ := bd_some hf
      have Xu9_0 : ∀ (v10 : ((Nat → Int32) × (Nat → Int32))), v10 = u9 → gAt C 0 0 [(q_a3, .inl (g_K C 0, n_a3, .inl v10.1)), (q_a0, .inl (g_K C 0, n_a0, .inl f_a0)), (q_a2, .inl (g_K C 0, n_a2, .inl v10.2))] [] 101 [] := by
        intro v10 hv
        rw [← hv] at hf
        exact kr () (v10.1, v10.2) 101 [] (Option.some.inj hf) d_Rotations_sortByByte_101
      have Gu9 := lp_ind (b := (Rotations_sortByByte_L69 p1 n_a0 f_a0 n_a3 n_a2)) (G := fun (s8 : (Int32 × (Nat → Int32) × (Nat → Int32))) => gAt C 0 0 [(q_a3, .inl (g_K C 0, n_a3, .inl s8.2.1)), (q_a0, .inl (g_K C 0, n_a0, .inl f_a0)), (q_a2, .inl (g_K C 0, n_a2, .inl s8.2.2))] [(0, .ref q_a0), (1, .int p1), (2, .ref q_a2), (3, .ref q_a3), (4, .int s8.1)] 69 []) (o := u9) (by
          intro s8 u11 hf hI hX
          unfold Rotations_sortByByte_L69 at hf
          refine g_iload 69 hC (j := 4) (hj := rfl) (hd := d_Rotations_sortByByte_69) ?_
          refine g_iload_n 71 hC (j := 1) (hj := rfl) (hd := d_Rotations_sortByByte_71) ?_
          refine g_icmp_ge 72 hC 101 (by decide) d_Rotations_sortByByte_72 (fun c12 => ?_) (fun c12 => ?_)
          · have hf := it_t c12 hf
            exact g_re [0, 1, 2] [] rfl rfl rfl (Xu9_0 (s8.2.1, s8.2.2) (hX (s8.2.1, s8.2.2) hf))
          · have hf := it_f c12 hf
            refine g_aload_n 75 hC (j := 2) (hj := rfl) (hd := d_Rotations_sortByByte_75) ?_
            refine g_aload_n 76 hC (j := 3) (hj := rfl) (hd := d_Rotations_sortByByte_76) ?_
            refine g_aload_n 77 hC (j := 0) (hj := rfl) (hd := d_Rotations_sortByByte_77) ?_
            refine g_iload 78 hC (j := 4) (hj := rfl) (hd := d_Rotations_sortByByte_78) ?_
            obtain ⟨e13, hf⟩ := gd_some hf
            refine g_iald 80 hC 1 rfl e13 d_Rotations_sortByByte_80 ?_
            obtain ⟨e14, hf⟩ := gd_some hf
            refine g_iald 81 hC 0 rfl e14 d_Rotations_sortByByte_81 ?_
            refine g_iload 82 hC (j := 4) (hj := rfl) (hd := d_Rotations_sortByByte_82) ?_
            obtain ⟨e15, hf⟩ := gd_some hf
            refine g_iast 84 hC 2 rfl e15 [(q_a3, .inl (g_K C 0, n_a3, .inl s8.2.1)), (q_a0, .inl (g_K C 0, n_a0, .inl f_a0)), (q_a2, .inl (g_K C 0, n_a2, .inl (upd s8.2.2 (s8.2.1 (f_a0 s8.1.toNatClampNeg).toNatClampNeg).toNatClampNeg s8.1)))] rfl d_Rotations_sortByByte_84 ?_
            refine g_aload_n 85 hC (j := 3) (hj := rfl) (hd := d_Rotations_sortByByte_85) ?_
            refine g_aload_n 86 hC (j := 0) (hj := rfl) (hd := d_Rotations_sortByByte_86) ?_
            refine g_iload 87 hC (j := 4) (hj := rfl) (hd := d_Rotations_sortByByte_87) ?_
            obtain ⟨e16, hf⟩ := gd_some hf
            refine g_iald 89 hC 1 rfl e16 d_Rotations_sortByByte_89 ?_
            refine g_dup2 90 hC rfl rfl d_Rotations_sortByByte_90 ?_
            obtain ⟨e17, hf⟩ := gd_some hf
            refine g_iald 91 hC 0 rfl e17 d_Rotations_sortByByte_91 ?_
            refine g_iconst 92 hC (1 : Int32) (by decide) d_Rotations_sortByByte_92 ?_
            refine g_iadd 93 hC d_Rotations_sortByByte_93 ?_
            obtain ⟨e18, hf⟩ := gd_some hf
            refine g_iast 94 hC 0 rfl e18 [(q_a3, .inl (g_K C 0, n_a3, .inl (upd s8.2.1 (f_a0 s8.1.toNatClampNeg).toNatClampNeg ((s8.2.1 (f_a0 s8.1.toNatClampNeg).toNatClampNeg) + (1 : Int32))))), (q_a0, .inl (g_K C 0, n_a0, .inl f_a0)), (q_a2, .inl (g_K C 0, n_a2, .inl (upd s8.2.2 (s8.2.1 (f_a0 s8.1.toNatClampNeg).toNatClampNeg).toNatClampNeg s8.1)))] rfl d_Rotations_sortByByte_94 ?_
            refine g_iinc 95 hC 4 (1 : Int32) [(4, .int (s8.1 + (1 : Int32))), (0, .ref q_a0), (1, .int p1), (2, .ref q_a2), (3, .ref q_a3)] rfl (by decide) (by decide) rfl d_Rotations_sortByByte_95 ?_
            refine g_goto 98 hC 69 (by decide) d_Rotations_sortByByte_98 ?_
            exact g_re [0, 1, 2] [1, 2, 3, 4, 0] rfl rfl rfl (hI ((s8.1 + (1 : Int32)), (upd s8.2.1 (f_a0 s8.1.toNatClampNeg).toNatClampNeg ((s8.2.1 (f_a0 s8.1.toNatClampNeg).toNatClampNeg) + (1 : Int32))), (upd s8.2.2 (s8.2.1 (f_a0 s8.1.toNatClampNeg).toNatClampNeg).toNatClampNeg s8.1)) hf)) gas
      exact g_re [0, 1, 2] [1, 2, 3, 4, 0] rfl rfl rfl (Gu9 ((0 : Int32), v7, f_a2) hu9)
    have Gu6 := lp_ind (b := (Rotations_sortByByte_L39 n_a3)) (G := fun (s5 : (Int32 × (Nat → Int32))) => gAt C 0 0 [(q_a3, .inl (g_K C 0, n_a3, .inl s5.2)), (q_a0, .inl (g_K C 0, n_a0, .inl f_a0)), (q_a2, .inl (g_K C 0, n_a2, .inl f_a2))] [(0, .ref q_a0), (1, .int p1), (2, .ref q_a2), (3, .ref q_a3), (4, .int s5.1)] 39 []) (o := u6) (by
        intro s5 u19 hf hI hX
        unfold Rotations_sortByByte_L39 at hf
        refine g_iload 39 hC (j := 4) (hj := rfl) (hd := d_Rotations_sortByByte_39) ?_
        refine g_sipush 41 hC (256 : Int32) (by decide) d_Rotations_sortByByte_41 ?_
        refine g_icmp_ge 44 hC 66 (by decide) d_Rotations_sortByByte_44 (fun c20 => ?_) (fun c20 => ?_)
        · have hf := it_t c20 hf
          exact g_re [0, 1, 2] [0, 1, 2, 3] rfl rfl rfl (Xu6_0 s5.2 (hX s5.2 hf))
        · have hf := it_f c20 hf
          refine g_aload_n 47 hC (j := 3) (hj := rfl) (hd := d_Rotations_sortByByte_47) ?_
          refine g_iload 48 hC (j := 4) (hj := rfl) (hd := d_Rotations_sortByByte_48) ?_
          refine g_dup2 50 hC rfl rfl d_Rotations_sortByByte_50 ?_
          obtain ⟨e21, hf⟩ := gd_some hf
          refine g_iald 51 hC 0 rfl e21 d_Rotations_sortByByte_51 ?_
          refine g_aload_n 52 hC (j := 3) (hj := rfl) (hd := d_Rotations_sortByByte_52) ?_
          refine g_iload 53 hC (j := 4) (hj := rfl) (hd := d_Rotations_sortByByte_53) ?_
          refine g_iconst 55 hC (1 : Int32) (by decide) d_Rotations_sortByByte_55 ?_
          refine g_isub 56 hC d_Rotations_sortByByte_56 ?_
          obtain ⟨e22, hf⟩ := gd_some hf
          refine g_iald 57 hC 0 rfl e22 d_Rotations_sortByByte_57 ?_
          refine g_iadd 58 hC d_Rotations_sortByByte_58 ?_
          obtain ⟨e23, hf⟩ := gd_some hf
          refine g_iast 59 hC 0 rfl e23 [(q_a3, .inl (g_K C 0, n_a3, .inl (upd s5.2 s5.1.toNatClampNeg ((s5.2 s5.1.toNatClampNeg) + (s5.2 (s5.1 - (1 : Int32)).toNatClampNeg))))), (q_a0, .inl (g_K C 0, n_a0, .inl f_a0)), (q_a2, .inl (g_K C 0, n_a2, .inl f_a2))] rfl d_Rotations_sortByByte_59 ?_
          refine g_iinc 60 hC 4 (1 : Int32) [(4, .int (s5.1 + (1 : Int32))), (0, .ref q_a0), (1, .int p1), (2, .ref q_a2), (3, .ref q_a3)] rfl (by decide) (by decide) rfl d_Rotations_sortByByte_60 ?_
          refine g_goto 63 hC 39 (by decide) d_Rotations_sortByByte_63 ?_
          exact g_re [0, 1, 2] [1, 2, 3, 4, 0] rfl rfl rfl (hI ((s5.1 + (1 : Int32)), (upd s5.2 s5.1.toNatClampNeg ((s5.2 s5.1.toNatClampNeg) + (s5.2 (s5.1 - (1 : Int32)).toNatClampNeg)))) hf)) gas
    exact g_re [0, 1, 2] [1, 2, 3, 4, 0] rfl rfl rfl (Gu6 ((1 : Int32), v4) hu6)
  have Gu3 := lp_ind (b := (Rotations_sortByByte_L12 p1 n_a0 f_a0 n_a3)) (G := fun (s2 : (Int32 × (Nat → Int32))) => gAt C 0 0 [(q_a3, .inl (g_K C 0, n_a3, .inl s2.2)), (q_a0, .inl (g_K C 0, n_a0, .inl f_a0)), (q_a2, .inl (g_K C 0, n_a2, .inl f_a2))] [(0, .ref q_a0), (1, .int p1), (2, .ref q_a2), (3, .ref q_a3), (4, .int s2.1)] 12 []) (o := u3) (by
      intro s2 u24 hf hI hX
      unfold Rotations_sortByByte_L12 at hf
      refine g_iload 12 hC (j := 4) (hj := rfl) (hd := d_Rotations_sortByByte_12) ?_
      refine g_iload_n 14 hC (j := 1) (hj := rfl) (hd := d_Rotations_sortByByte_14) ?_
      refine g_icmp_ge 15 hC 36 (by decide) d_Rotations_sortByByte_15 (fun c25 => ?_) (fun c25 => ?_)
      · have hf := it_t c25 hf
        exact g_re [0, 1, 2] [0, 1, 2, 3] rfl rfl rfl (Xu3_0 s2.2 (hX s2.2 hf))
      · have hf := it_f c25 hf
        refine g_aload_n 18 hC (j := 3) (hj := rfl) (hd := d_Rotations_sortByByte_18) ?_
        refine g_aload_n 19 hC (j := 0) (hj := rfl) (hd := d_Rotations_sortByByte_19) ?_
        refine g_iload 20 hC (j := 4) (hj := rfl) (hd := d_Rotations_sortByByte_20) ?_
        obtain ⟨e26, hf⟩ := gd_some hf
        refine g_iald 22 hC 1 rfl e26 d_Rotations_sortByByte_22 ?_
        refine g_iconst 23 hC (1 : Int32) (by decide) d_Rotations_sortByByte_23 ?_
        refine g_iadd 24 hC d_Rotations_sortByByte_24 ?_
        refine g_dup2 25 hC rfl rfl d_Rotations_sortByByte_25 ?_
        obtain ⟨e27, hf⟩ := gd_some hf
        refine g_iald 26 hC 0 rfl e27 d_Rotations_sortByByte_26 ?_
        refine g_iconst 27 hC (1 : Int32) (by decide) d_Rotations_sortByByte_27 ?_
        refine g_iadd 28 hC d_Rotations_sortByByte_28 ?_
        obtain ⟨e28, hf⟩ := gd_some hf
        refine g_iast 29 hC 0 rfl e28 [(q_a3, .inl (g_K C 0, n_a3, .inl (upd s2.2 ((f_a0 s2.1.toNatClampNeg) + (1 : Int32)).toNatClampNeg ((s2.2 ((f_a0 s2.1.toNatClampNeg) + (1 : Int32)).toNatClampNeg) + (1 : Int32))))), (q_a0, .inl (g_K C 0, n_a0, .inl f_a0)), (q_a2, .inl (g_K C 0, n_a2, .inl f_a2))] rfl d_Rotations_sortByByte_29 ?_
        refine g_iinc 30 hC 4 (1 : Int32) [(4, .int (s2.1 + (1 : Int32))), (0, .ref q_a0), (1, .int p1), (2, .ref q_a2), (3, .ref q_a3)] rfl (by decide) (by decide) rfl d_Rotations_sortByByte_30 ?_
        refine g_goto 33 hC 12 (by decide) d_Rotations_sortByByte_33 ?_
        exact g_re [0, 1, 2] [1, 2, 3, 4, 0] rfl rfl rfl (hI ((s2.1 + (1 : Int32)), (upd s2.2 ((f_a0 s2.1.toNatClampNeg) + (1 : Int32)).toNatClampNeg ((s2.2 ((f_a0 s2.1.toNatClampNeg) + (1 : Int32)).toNatClampNeg) + (1 : Int32)))) hf)) gas
  exact g_re [2, 0, 1] [1, 2, 3, 4, 0] rfl rfl rfl (Gu3 ((0 : Int32), u1) hu3)
theorem c_Rotations_sortByByte (l : Launch) (D : va_G) (K : Nat → ClassId) (q_a3 : Nat) (n_a3 : Nat) (f_a3 : (Nat → Int32)) (q_a0 : Nat) (n_a0 : Nat) (f_a0 : (Nat → Int32)) (q_a2 : Nat) (n_a2 : Nat) (f_a2 : (Nat → Int32)) (p1 : Int32) (out : ((Nat → Int32) × (Nat → Int32))) (hf : Rotations_sortByByte_f n_a3 f_a3 p1 n_a0 f_a0 n_a2 f_a2 = some out) : Cv l D K y_Rotations_sortByByte (g_wd y_Rotations_sortByByte b_Rotations_sortByByte 5 none) { frames := 2, cells := 0, slots := 0, locals := 46 } [.ref q_a0, .int p1, .ref q_a2, .ref q_a3] [(q_a3, .inl (K 0, n_a3, .inl f_a3)), (q_a0, .inl (K 0, n_a0, .inl f_a0)), (q_a2, .inl (K 0, n_a2, .inl f_a2))] (fun (x : Unit) => [(q_a3, .inl (K 0, n_a3, .inl out.1)), (q_a0, .inl (K 0, n_a0, .inl f_a0)), (q_a2, .inl (K 0, n_a2, .inl out.2))]) := mk_v (by decide) (Nat.le_of_ble_eq_true rfl) (fun p e s m below meth c A Q hC kr => m_Rotations_sortByByte hC q_a3 n_a3 f_a3 q_a0 n_a0 f_a0 q_a2 n_a2 f_a2 p1 out hf (fun x o9 pc lv ho => by subst ho; exact kr x pc lv))
