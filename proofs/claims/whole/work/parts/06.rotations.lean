abbrev b_Rotations_openSlots : ByteArray := prog_11_method_5_code
def y_Rotations_openSlots : MethodName := ⟨R_Rotations, "openSlots", "(I)V"⟩
theorem d_Rotations_openSlots_0 : decode b_Rotations_openSlots 0 = .ok (.iconst 0, 1) := by decide +kernel
theorem d_Rotations_openSlots_1 : decode b_Rotations_openSlots 1 = .ok (.istore_n 2, 1) := by decide +kernel
theorem d_Rotations_openSlots_2 : decode b_Rotations_openSlots 2 = .ok (.iload_n 2, 1) := by decide +kernel
theorem d_Rotations_openSlots_3 : decode b_Rotations_openSlots 3 = .ok (.iload_n 1, 1) := by decide +kernel
theorem d_Rotations_openSlots_4 : decode b_Rotations_openSlots 4 = .ok (.if_icmp .ge 16, 3) := by decide +kernel
theorem d_Rotations_openSlots_7 : decode b_Rotations_openSlots 7 = .ok (.aload_n 0, 1) := by decide +kernel
theorem d_Rotations_openSlots_8 : decode b_Rotations_openSlots 8 = .ok (.getfield 24, 3) := by decide +kernel
theorem d_Rotations_openSlots_11 : decode b_Rotations_openSlots 11 = .ok (.iload_n 2, 1) := by decide +kernel
theorem d_Rotations_openSlots_12 : decode b_Rotations_openSlots 12 = .ok (.iload_n 2, 1) := by decide +kernel
theorem d_Rotations_openSlots_13 : decode b_Rotations_openSlots 13 = .ok (.iastore, 1) := by decide +kernel
theorem d_Rotations_openSlots_14 : decode b_Rotations_openSlots 14 = .ok (.iinc 2 1, 3) := by decide +kernel
theorem d_Rotations_openSlots_17 : decode b_Rotations_openSlots 17 = .ok (.goto (-15), 3) := by decide +kernel
theorem d_Rotations_openSlots_20 : decode b_Rotations_openSlots 20 = .ok (.return_, 1) := by decide +kernel
theorem k224 : (Jvm.Cond.fieldLink "RotationPress$Rotations" (24 : Nat) "RotationPress$Rotations" "slots" "[I") ∈ g_tbl := List.mem_filter.mpr ⟨List.mem_append_right (k2_sels lw_privs) (List.mem_append_left _ (List.mem_of_getElem? (l := tables_1_1) (i := 224) rfl)), rfl⟩
noncomputable def Rotations_openSlots_L2 (p1 : Int32) (s1 : (Int32 × (Nat → Int32))) : Option ((Int32 × (Nat → Int32)) ⊕ (Nat → Int32)) :=
  (if p1 ≤ s1.1 then some (Sum.inr s1.2) else gd (ix s1.1 2250) (some (Sum.inl ((s1.1 + (1 : Int32)), (upd s1.2 s1.1.toNatClampNeg s1.1)))))
noncomputable def Rotations_openSlots_f (p1 : Int32) (f_a0_slots : (Nat → Int32)) : Option (Nat → Int32) :=
  bd (lpF (Rotations_openSlots_L2 p1) gas ((0 : Int32), f_a0_slots)) (fun v3 => some v3)
set_option maxRecDepth 100000 in
set_option maxHeartbeats 4000000 in
theorem m_Rotations_openSlots {C : gT} (hC : gOk C b_Rotations_openSlots R_Rotations { frames := 0, cells := 0, slots := 0, locals := 0 } 3) (q_a0 : Nat) (r_a0_order : Nat) (r_a0_orderNext : Nat) (r_a0_rank : Nat) (r_a0_rankNext : Nat) (q_a0_slots : Nat) (x_a0_ranks : Int32) (f_a0_slots : (Nat → Int32)) (p1 : Int32) (out : (Nat → Int32)) (hf : Rotations_openSlots_f p1 f_a0_slots = some out) (kr : ∀ (x : Unit) (o9 : (Nat → Int32)) (pc : Nat) (lv : List (Nat × Value)), o9 = out → decode b_Rotations_openSlots pc = .ok (.return_, 1) → gAt C 0 0 [(q_a0, .inr (10, [.ref r_a0_order, .ref r_a0_orderNext, .ref r_a0_rank, .ref r_a0_rankNext, .ref q_a0_slots, .int x_a0_ranks])), (q_a0_slots, .inl (g_K C 0, 2250, .inl o9))] lv pc []) : gAt C 0 0 [(q_a0, .inr (10, [.ref r_a0_order, .ref r_a0_orderNext, .ref r_a0_rank, .ref r_a0_rankNext, .ref q_a0_slots, .int x_a0_ranks])), (q_a0_slots, .inl (g_K C 0, 2250, .inl f_a0_slots))] [(0, .ref q_a0), (1, .int p1)] 0 [] := by
  unfold Rotations_openSlots_f at hf
  refine g_iconst 0 hC (0 : Int32) (by decide) d_Rotations_openSlots_0 ?_
  refine g_istore_n 1 hC (lv2 := [(2, .int (0 : Int32)), (0, .ref q_a0), (1, .int p1)]) (hn := (by decide)) (hl2 := rfl) (hd := d_Rotations_openSlots_1) ?_
  obtain ⟨u2, hu2, hf⟩ := bd_some hf
  have Xu2_0 : ∀ (v3 : (Nat → Int32)), v3 = u2 → gAt C 0 0 [(q_a0, .inr (10, [.ref r_a0_order, .ref r_a0_orderNext, .ref r_a0_rank, .ref r_a0_rankNext, .ref q_a0_slots, .int x_a0_ranks])), (q_a0_slots, .inl (g_K C 0, 2250, .inl v3))] [] 20 [] := by
    intro v3 hv
    rw [← hv] at hf
    exact kr () v3 20 [] (Option.some.inj hf) d_Rotations_openSlots_20
  have Gu2 := lp_ind (b := (Rotations_openSlots_L2 p1)) (G := fun (s1 : (Int32 × (Nat → Int32))) => gAt C 0 0 [(q_a0, .inr (10, [.ref r_a0_order, .ref r_a0_orderNext, .ref r_a0_rank, .ref r_a0_rankNext, .ref q_a0_slots, .int x_a0_ranks])), (q_a0_slots, .inl (g_K C 0, 2250, .inl s1.2))] [(0, .ref q_a0), (1, .int p1), (2, .int s1.1)] 2 []) (o := u2) (by
      intro s1 u4 hf hI hX
      unfold Rotations_openSlots_L2 at hf
      refine g_iload_n 2 hC (j := 2) (hj := rfl) (hd := d_Rotations_openSlots_2) ?_
      refine g_iload_n 3 hC (j := 1) (hj := rfl) (hd := d_Rotations_openSlots_3) ?_
      refine g_icmp_ge 4 hC 20 (by decide) d_Rotations_openSlots_4 (fun c5 => ?_) (fun c5 => ?_)
      · have hf := it_t c5 hf
        exact g_re [0, 1] [] rfl rfl rfl (Xu2_0 s1.2 (hX s1.2 hf))
      · have hf := it_f c5 hf
        refine g_aload_n 7 hC (j := 0) (hj := rfl) (hd := d_Rotations_openSlots_7) ?_
        refine g_get 8 hC i_Rotations rfl 0 rfl 4 (by decide) k224 rfl d_Rotations_openSlots_8 ?_
        refine g_iload_n 11 hC (j := 2) (hj := rfl) (hd := d_Rotations_openSlots_11) ?_
        refine g_iload_n 12 hC (j := 2) (hj := rfl) (hd := d_Rotations_openSlots_12) ?_
        obtain ⟨e6, hf⟩ := gd_some hf
        refine g_iast 13 hC 1 rfl e6 [(q_a0, .inr (10, [.ref r_a0_order, .ref r_a0_orderNext, .ref r_a0_rank, .ref r_a0_rankNext, .ref q_a0_slots, .int x_a0_ranks])), (q_a0_slots, .inl (g_K C 0, 2250, .inl (upd s1.2 s1.1.toNatClampNeg s1.1)))] rfl d_Rotations_openSlots_13 ?_
        refine g_iinc 14 hC 2 (1 : Int32) [(2, .int (s1.1 + (1 : Int32))), (0, .ref q_a0), (1, .int p1)] rfl (by decide) (by decide) rfl d_Rotations_openSlots_14 ?_
        refine g_goto 17 hC 2 (by decide) d_Rotations_openSlots_17 ?_
        exact g_re [0, 1] [1, 2, 0] rfl rfl rfl (hI ((s1.1 + (1 : Int32)), (upd s1.2 s1.1.toNatClampNeg s1.1)) hf)) gas
  exact g_re [0, 1] [1, 2, 0] rfl rfl rfl (Gu2 ((0 : Int32), f_a0_slots) hu2)
theorem c_Rotations_openSlots (l : Launch) (D : va_G) (K : Nat → ClassId) (q_a0 : Nat) (r_a0_order : Nat) (r_a0_orderNext : Nat) (r_a0_rank : Nat) (r_a0_rankNext : Nat) (q_a0_slots : Nat) (x_a0_ranks : Int32) (f_a0_slots : (Nat → Int32)) (p1 : Int32) (out : (Nat → Int32)) (hf : Rotations_openSlots_f p1 f_a0_slots = some out) : Cv l D K y_Rotations_openSlots (g_wd y_Rotations_openSlots b_Rotations_openSlots 3 none) { frames := 0, cells := 0, slots := 0, locals := 0 } [.ref q_a0, .int p1] [(q_a0, .inr (10, [.ref r_a0_order, .ref r_a0_orderNext, .ref r_a0_rank, .ref r_a0_rankNext, .ref q_a0_slots, .int x_a0_ranks])), (q_a0_slots, .inl (K 0, 2250, .inl f_a0_slots))] (fun (x : Unit) => [(q_a0, .inr (10, [.ref r_a0_order, .ref r_a0_orderNext, .ref r_a0_rank, .ref r_a0_rankNext, .ref q_a0_slots, .int x_a0_ranks])), (q_a0_slots, .inl (K 0, 2250, .inl out))]) := mk_v (by decide) (Nat.le_of_ble_eq_true rfl) (fun p e s m below meth c A Q hC kr => m_Rotations_openSlots hC q_a0 r_a0_order r_a0_orderNext r_a0_rank r_a0_rankNext q_a0_slots x_a0_ranks f_a0_slots p1 out hf (fun x o9 pc lv ho => ho ▸ kr x pc lv))
abbrev b_Rotations_rankByByte : ByteArray := prog_11_method_4_code
def y_Rotations_rankByByte : MethodName := ⟨R_Rotations, "rankByByte", "([II)V"⟩
theorem d_Rotations_rankByByte_0 : decode b_Rotations_rankByByte 0 = .ok (.aload_n 0, 1) := by decide +kernel
theorem d_Rotations_rankByByte_1 : decode b_Rotations_rankByByte 1 = .ok (.iconst 0, 1) := by decide +kernel
theorem d_Rotations_rankByByte_2 : decode b_Rotations_rankByByte 2 = .ok (.putfield 27, 3) := by decide +kernel
theorem d_Rotations_rankByByte_5 : decode b_Rotations_rankByByte 5 = .ok (.iconst 0, 1) := by decide +kernel
theorem d_Rotations_rankByByte_6 : decode b_Rotations_rankByByte 6 = .ok (.istore_n 3, 1) := by decide +kernel
theorem d_Rotations_rankByByte_7 : decode b_Rotations_rankByByte 7 = .ok (.iload_n 3, 1) := by decide +kernel
theorem d_Rotations_rankByByte_8 : decode b_Rotations_rankByByte 8 = .ok (.iload_n 2, 1) := by decide +kernel
theorem d_Rotations_rankByByte_9 : decode b_Rotations_rankByByte 9 = .ok (.if_icmp .ge 93, 3) := by decide +kernel
theorem d_Rotations_rankByByte_12 : decode b_Rotations_rankByByte 12 = .ok (.iload_n 3, 1) := by decide +kernel
theorem d_Rotations_rankByByte_13 : decode b_Rotations_rankByByte 13 = .ok (.ifCond .le 28, 3) := by decide +kernel
theorem d_Rotations_rankByByte_16 : decode b_Rotations_rankByByte 16 = .ok (.aload_n 1, 1) := by decide +kernel
theorem d_Rotations_rankByByte_17 : decode b_Rotations_rankByByte 17 = .ok (.aload_n 0, 1) := by decide +kernel
theorem d_Rotations_rankByByte_18 : decode b_Rotations_rankByByte 18 = .ok (.getfield 9, 3) := by decide +kernel
theorem d_Rotations_rankByByte_21 : decode b_Rotations_rankByByte 21 = .ok (.iload_n 3, 1) := by decide +kernel
theorem d_Rotations_rankByByte_22 : decode b_Rotations_rankByByte 22 = .ok (.iaload, 1) := by decide +kernel
theorem d_Rotations_rankByByte_23 : decode b_Rotations_rankByByte 23 = .ok (.iaload, 1) := by decide +kernel
theorem d_Rotations_rankByByte_24 : decode b_Rotations_rankByByte 24 = .ok (.aload_n 1, 1) := by decide +kernel
theorem d_Rotations_rankByByte_25 : decode b_Rotations_rankByByte 25 = .ok (.aload_n 0, 1) := by decide +kernel
theorem d_Rotations_rankByByte_26 : decode b_Rotations_rankByByte 26 = .ok (.getfield 9, 3) := by decide +kernel
theorem d_Rotations_rankByByte_29 : decode b_Rotations_rankByByte 29 = .ok (.iload_n 3, 1) := by decide +kernel
theorem d_Rotations_rankByByte_30 : decode b_Rotations_rankByByte 30 = .ok (.iconst 1, 1) := by decide +kernel
theorem d_Rotations_rankByByte_31 : decode b_Rotations_rankByByte 31 = .ok (.isub, 1) := by decide +kernel
theorem d_Rotations_rankByByte_32 : decode b_Rotations_rankByByte 32 = .ok (.iaload, 1) := by decide +kernel
theorem d_Rotations_rankByByte_33 : decode b_Rotations_rankByByte 33 = .ok (.iaload, 1) := by decide +kernel
theorem d_Rotations_rankByByte_34 : decode b_Rotations_rankByByte 34 = .ok (.if_icmp .ne 7, 3) := by decide +kernel
theorem d_Rotations_rankByByte_37 : decode b_Rotations_rankByByte 37 = .ok (.iconst 1, 1) := by decide +kernel
theorem d_Rotations_rankByByte_38 : decode b_Rotations_rankByByte 38 = .ok (.goto 4, 3) := by decide +kernel
theorem d_Rotations_rankByByte_41 : decode b_Rotations_rankByByte 41 = .ok (.iconst 0, 1) := by decide +kernel
theorem d_Rotations_rankByByte_42 : decode b_Rotations_rankByByte 42 = .ok (.istore 4, 2) := by decide +kernel
theorem d_Rotations_rankByByte_44 : decode b_Rotations_rankByByte 44 = .ok (.aload_n 0, 1) := by decide +kernel
theorem d_Rotations_rankByByte_45 : decode b_Rotations_rankByByte 45 = .ok (.getfield 18, 3) := by decide +kernel
theorem d_Rotations_rankByByte_48 : decode b_Rotations_rankByByte 48 = .ok (.aload_n 0, 1) := by decide +kernel
theorem d_Rotations_rankByByte_49 : decode b_Rotations_rankByByte 49 = .ok (.getfield 9, 3) := by decide +kernel
theorem d_Rotations_rankByByte_52 : decode b_Rotations_rankByByte 52 = .ok (.iload_n 3, 1) := by decide +kernel
theorem d_Rotations_rankByByte_53 : decode b_Rotations_rankByByte 53 = .ok (.iaload, 1) := by decide +kernel
theorem d_Rotations_rankByByte_54 : decode b_Rotations_rankByByte 54 = .ok (.iload 4, 2) := by decide +kernel
theorem d_Rotations_rankByByte_56 : decode b_Rotations_rankByByte 56 = .ok (.ifCond .eq 19, 3) := by decide +kernel
theorem d_Rotations_rankByByte_59 : decode b_Rotations_rankByByte 59 = .ok (.aload_n 0, 1) := by decide +kernel
theorem d_Rotations_rankByByte_60 : decode b_Rotations_rankByByte 60 = .ok (.getfield 18, 3) := by decide +kernel
theorem d_Rotations_rankByByte_63 : decode b_Rotations_rankByByte 63 = .ok (.aload_n 0, 1) := by decide +kernel
theorem d_Rotations_rankByByte_64 : decode b_Rotations_rankByByte 64 = .ok (.getfield 9, 3) := by decide +kernel
theorem d_Rotations_rankByByte_67 : decode b_Rotations_rankByByte 67 = .ok (.iload_n 3, 1) := by decide +kernel
theorem d_Rotations_rankByByte_68 : decode b_Rotations_rankByByte 68 = .ok (.iconst 1, 1) := by decide +kernel
theorem d_Rotations_rankByByte_69 : decode b_Rotations_rankByByte 69 = .ok (.isub, 1) := by decide +kernel
theorem d_Rotations_rankByByte_70 : decode b_Rotations_rankByByte 70 = .ok (.iaload, 1) := by decide +kernel
theorem d_Rotations_rankByByte_71 : decode b_Rotations_rankByByte 71 = .ok (.iaload, 1) := by decide +kernel
theorem d_Rotations_rankByByte_72 : decode b_Rotations_rankByByte 72 = .ok (.goto 4, 3) := by decide +kernel
theorem d_Rotations_rankByByte_75 : decode b_Rotations_rankByByte 75 = .ok (.iload_n 3, 1) := by decide +kernel
theorem d_Rotations_rankByByte_76 : decode b_Rotations_rankByByte 76 = .ok (.iastore, 1) := by decide +kernel
theorem d_Rotations_rankByByte_77 : decode b_Rotations_rankByByte 77 = .ok (.aload_n 0, 1) := by decide +kernel
theorem d_Rotations_rankByByte_78 : decode b_Rotations_rankByByte 78 = .ok (.dup, 1) := by decide +kernel
theorem d_Rotations_rankByByte_79 : decode b_Rotations_rankByByte 79 = .ok (.getfield 27, 3) := by decide +kernel
theorem d_Rotations_rankByByte_82 : decode b_Rotations_rankByByte 82 = .ok (.iload 4, 2) := by decide +kernel
theorem d_Rotations_rankByByte_84 : decode b_Rotations_rankByByte 84 = .ok (.ifCond .eq 7, 3) := by decide +kernel
theorem d_Rotations_rankByByte_87 : decode b_Rotations_rankByByte 87 = .ok (.iconst 0, 1) := by decide +kernel
theorem d_Rotations_rankByByte_88 : decode b_Rotations_rankByByte 88 = .ok (.goto 4, 3) := by decide +kernel
theorem d_Rotations_rankByByte_91 : decode b_Rotations_rankByByte 91 = .ok (.iconst 1, 1) := by decide +kernel
theorem d_Rotations_rankByByte_92 : decode b_Rotations_rankByByte 92 = .ok (.iadd, 1) := by decide +kernel
theorem d_Rotations_rankByByte_93 : decode b_Rotations_rankByByte 93 = .ok (.putfield 27, 3) := by decide +kernel
theorem d_Rotations_rankByByte_96 : decode b_Rotations_rankByByte 96 = .ok (.iinc 3 1, 3) := by decide +kernel
theorem d_Rotations_rankByByte_99 : decode b_Rotations_rankByByte 99 = .ok (.goto (-92), 3) := by decide +kernel
theorem d_Rotations_rankByByte_102 : decode b_Rotations_rankByByte 102 = .ok (.return_, 1) := by decide +kernel
theorem k225 : (Jvm.Cond.fieldLink "RotationPress$Rotations" (27 : Nat) "RotationPress$Rotations" "ranks" "I") ∈ g_tbl := List.mem_filter.mpr ⟨List.mem_append_right (k2_sels lw_privs) (List.mem_append_left _ (List.mem_of_getElem? (l := tables_1_1) (i := 225) rfl)), rfl⟩
theorem k222 : (Jvm.Cond.fieldLink "RotationPress$Rotations" (18 : Nat) "RotationPress$Rotations" "rank" "[I") ∈ g_tbl := List.mem_filter.mpr ⟨List.mem_append_right (k2_sels lw_privs) (List.mem_append_left _ (List.mem_of_getElem? (l := tables_1_1) (i := 222) rfl)), rfl⟩
theorem k220 : (Jvm.Cond.fieldLink "RotationPress$Rotations" (9 : Nat) "RotationPress$Rotations" "order" "[I") ∈ g_tbl := List.mem_filter.mpr ⟨List.mem_append_right (k2_sels lw_privs) (List.mem_append_left _ (List.mem_of_getElem? (l := tables_1_1) (i := 220) rfl)), rfl⟩
noncomputable def Rotations_rankByByte_J92 (s1 : (Int32 × Int32 × (Nat → Int32))) (j92_0 : Int32) (j92_1 : Int32) (j92_2 : (Nat → Int32)) : Option ((Int32 × Int32 × (Nat → Int32)) ⊕ (Int32 × (Nat → Int32))) :=
  some (Sum.inl ((s1.1 + (1 : Int32)), (j92_1 + j92_0), j92_2))
noncomputable def Rotations_rankByByte_J76 (s1 : (Int32 × Int32 × (Nat → Int32))) (j76_0 : Int32) (j76_1 : Int32) (j76_2 : Int32) : Option ((Int32 × Int32 × (Nat → Int32)) ⊕ (Int32 × (Nat → Int32))) :=
  gd (ix j76_2 2250) ((if j76_0 = 0 then Rotations_rankByByte_J92 s1 (1 : Int32) s1.2.1 (upd s1.2.2 j76_2.toNatClampNeg j76_1) else Rotations_rankByByte_J92 s1 (0 : Int32) s1.2.1 (upd s1.2.2 j76_2.toNatClampNeg j76_1)))
noncomputable def Rotations_rankByByte_J42 (s1 : (Int32 × Int32 × (Nat → Int32))) (f_a0_order : (Nat → Int32)) (j42_0 : Int32) : Option ((Int32 × Int32 × (Nat → Int32)) ⊕ (Int32 × (Nat → Int32))) :=
  gd (ix s1.1 2250) ((if j42_0 = 0 then Rotations_rankByByte_J76 s1 j42_0 s1.1 (f_a0_order s1.1.toNatClampNeg) else gd (ix (s1.1 - (1 : Int32)) 2250) (gd (ix (f_a0_order (s1.1 - (1 : Int32)).toNatClampNeg) 2250) (Rotations_rankByByte_J76 s1 j42_0 (s1.2.2 (f_a0_order (s1.1 - (1 : Int32)).toNatClampNeg).toNatClampNeg) (f_a0_order s1.1.toNatClampNeg)))))
noncomputable def Rotations_rankByByte_J41 (s1 : (Int32 × Int32 × (Nat → Int32))) (f_a0_order : (Nat → Int32)) : Option ((Int32 × Int32 × (Nat → Int32)) ⊕ (Int32 × (Nat → Int32))) :=
  Rotations_rankByByte_J42 s1 f_a0_order (0 : Int32)
noncomputable def Rotations_rankByByte_L7 (p2 : Int32) (f_a0_order : (Nat → Int32)) (n_a1 : Nat) (f_a1 : (Nat → Int32)) (s1 : (Int32 × Int32 × (Nat → Int32))) : Option ((Int32 × Int32 × (Nat → Int32)) ⊕ (Int32 × (Nat → Int32))) :=
  (if p2 ≤ s1.1 then some (Sum.inr (s1.2.1, s1.2.2)) else (if s1.1 ≤ 0 then Rotations_rankByByte_J41 s1 f_a0_order else gd (ix s1.1 2250) (gd (ix (f_a0_order s1.1.toNatClampNeg) n_a1) (gd (ix (s1.1 - (1 : Int32)) 2250) (gd (ix (f_a0_order (s1.1 - (1 : Int32)).toNatClampNeg) n_a1) ((if (f_a1 (f_a0_order s1.1.toNatClampNeg).toNatClampNeg) = (f_a1 (f_a0_order (s1.1 - (1 : Int32)).toNatClampNeg).toNatClampNeg) then Rotations_rankByByte_J42 s1 f_a0_order (1 : Int32) else Rotations_rankByByte_J41 s1 f_a0_order)))))))
noncomputable def Rotations_rankByByte_f (p2 : Int32) (f_a0_order : (Nat → Int32)) (n_a1 : Nat) (f_a1 : (Nat → Int32)) (f_a0_rank : (Nat → Int32)) : Option (Int32 × (Nat → Int32)) :=
  bd (lpF (Rotations_rankByByte_L7 p2 f_a0_order n_a1 f_a1) gas ((0 : Int32), (0 : Int32), f_a0_rank)) (fun v3 => some (v3.1, v3.2))
set_option maxRecDepth 100000 in
set_option maxHeartbeats 4000000 in
theorem m_Rotations_rankByByte {C : gT} (hC : gOk C b_Rotations_rankByByte R_Rotations { frames := 0, cells := 0, slots := 0, locals := 0 } 5) (q_a0 : Nat) (q_a0_order : Nat) (r_a0_orderNext : Nat) (q_a0_rank : Nat) (r_a0_rankNext : Nat) (r_a0_slots : Nat) (x_a0_ranks : Int32) (f_a0_order : (Nat → Int32)) (q_a1 : Nat) (n_a1 : Nat) (f_a1 : (Nat → Int32)) (f_a0_rank : (Nat → Int32)) (p2 : Int32) (out : (Int32 × (Nat → Int32))) (hf : Rotations_rankByByte_f p2 f_a0_order n_a1 f_a1 f_a0_rank = some out) (kr : ∀ (x : Unit) (o9 : (Int32 × (Nat → Int32))) (pc : Nat) (lv : List (Nat × Value)), o9 = out → decode b_Rotations_rankByByte pc = .ok (.return_, 1) → gAt C 0 0 [(q_a0, .inr (10, [.ref q_a0_order, .ref r_a0_orderNext, .ref q_a0_rank, .ref r_a0_rankNext, .ref r_a0_slots, .int o9.1])), (q_a0_order, .inl (g_K C 0, 2250, .inl f_a0_order)), (q_a1, .inl (g_K C 0, n_a1, .inl f_a1)), (q_a0_rank, .inl (g_K C 0, 2250, .inl o9.2))] lv pc []) : gAt C 0 0 [(q_a0, .inr (10, [.ref q_a0_order, .ref r_a0_orderNext, .ref q_a0_rank, .ref r_a0_rankNext, .ref r_a0_slots, .int x_a0_ranks])), (q_a0_order, .inl (g_K C 0, 2250, .inl f_a0_order)), (q_a1, .inl (g_K C 0, n_a1, .inl f_a1)), (q_a0_rank, .inl (g_K C 0, 2250, .inl f_a0_rank))] [(0, .ref q_a0), (1, .ref q_a1), (2, .int p2)] 0 [] := by
  unfold Rotations_rankByByte_f at hf
  refine g_aload_n 0 hC (j := 0) (hj := rfl) (hd := d_Rotations_rankByByte_0) ?_
  refine g_iconst 1 hC (0 : Int32) (by decide) d_Rotations_rankByByte_1 ?_
  refine g_put 2 hC i_Rotations rfl 0 rfl 5 (by decide) t_Rotations tk_Rotations n_Rotations k225 rfl rfl rfl (Nat.le_of_ble_eq_true rfl) [(q_a0, .inr (10, [.ref q_a0_order, .ref r_a0_orderNext, .ref q_a0_rank, .ref r_a0_rankNext, .ref r_a0_slots, .int (0 : Int32)])), (q_a0_order, .inl (g_K C 0, 2250, .inl f_a0_order)), (q_a1, .inl (g_K C 0, n_a1, .inl f_a1)), (q_a0_rank, .inl (g_K C 0, 2250, .inl f_a0_rank))] rfl d_Rotations_rankByByte_2 ?_
  refine g_iconst 5 hC (0 : Int32) (by decide) d_Rotations_rankByByte_5 ?_
  refine g_istore_n 6 hC (lv2 := [(3, .int (0 : Int32)), (0, .ref q_a0), (1, .ref q_a1), (2, .int p2)]) (hn := (by decide)) (hl2 := rfl) (hd := d_Rotations_rankByByte_6) ?_
  obtain ⟨u2, hu2, hf⟩ := bd_some hf
  have Xu2_0 : ∀ (v3 : (Int32 × (Nat → Int32))), v3 = u2 → gAt C 0 0 [(q_a0, .inr (10, [.ref q_a0_order, .ref r_a0_orderNext, .ref q_a0_rank, .ref r_a0_rankNext, .ref r_a0_slots, .int v3.1])), (q_a0_order, .inl (g_K C 0, 2250, .inl f_a0_order)), (q_a1, .inl (g_K C 0, n_a1, .inl f_a1)), (q_a0_rank, .inl (g_K C 0, 2250, .inl v3.2))] [] 102 [] := by
    intro v3 hv
    rw [← hv] at hf
    exact kr () (v3.1, v3.2) 102 [] (Option.some.inj hf) d_Rotations_rankByByte_102
  have Gu2 := lp_ind (b := (Rotations_rankByByte_L7 p2 f_a0_order n_a1 f_a1)) (G := fun (s1 : (Int32 × Int32 × (Nat → Int32))) => gAt C 0 0 [(q_a0, .inr (10, [.ref q_a0_order, .ref r_a0_orderNext, .ref q_a0_rank, .ref r_a0_rankNext, .ref r_a0_slots, .int s1.2.1])), (q_a0_order, .inl (g_K C 0, 2250, .inl f_a0_order)), (q_a1, .inl (g_K C 0, n_a1, .inl f_a1)), (q_a0_rank, .inl (g_K C 0, 2250, .inl s1.2.2))] [(0, .ref q_a0), (1, .ref q_a1), (2, .int p2), (3, .int s1.1)] 7 []) (o := u2) (by
      intro s1 u4 hf hI hX
      unfold Rotations_rankByByte_L7 at hf
      have J92 : ∀ (j92_0 : Int32) (j92_1 : Int32) (j92_2 : (Nat → Int32)), Rotations_rankByByte_J92 s1 j92_0 j92_1 j92_2 = some u4 → gAt C 0 0 [(q_a0, .inr (10, [.ref q_a0_order, .ref r_a0_orderNext, .ref q_a0_rank, .ref r_a0_rankNext, .ref r_a0_slots, .int s1.2.1])), (q_a0_order, .inl (g_K C 0, 2250, .inl f_a0_order)), (q_a1, .inl (g_K C 0, n_a1, .inl f_a1)), (q_a0_rank, .inl (g_K C 0, 2250, .inl j92_2))] [(0, .ref q_a0), (1, .ref q_a1), (2, .int p2), (3, .int s1.1)] 92 [.int j92_0, .int j92_1, .ref q_a0] := by
        intro j92_0 j92_1 j92_2 hf
        unfold Rotations_rankByByte_J92 at hf
        refine g_iadd 92 hC d_Rotations_rankByByte_92 ?_
        refine g_put 93 hC i_Rotations rfl 0 rfl 5 (by decide) t_Rotations tk_Rotations n_Rotations k225 rfl rfl rfl (Nat.le_of_ble_eq_true rfl) [(q_a0, .inr (10, [.ref q_a0_order, .ref r_a0_orderNext, .ref q_a0_rank, .ref r_a0_rankNext, .ref r_a0_slots, .int (j92_1 + j92_0)])), (q_a0_order, .inl (g_K C 0, 2250, .inl f_a0_order)), (q_a1, .inl (g_K C 0, n_a1, .inl f_a1)), (q_a0_rank, .inl (g_K C 0, 2250, .inl j92_2))] rfl d_Rotations_rankByByte_93 ?_
        refine g_iinc 96 hC 3 (1 : Int32) [(3, .int (s1.1 + (1 : Int32))), (0, .ref q_a0), (1, .ref q_a1), (2, .int p2)] rfl (by decide) (by decide) rfl d_Rotations_rankByByte_96 ?_
        refine g_goto 99 hC 7 (by decide) d_Rotations_rankByByte_99 ?_
        exact g_re [0, 1, 2, 3] [1, 2, 3, 0] rfl rfl rfl (hI ((s1.1 + (1 : Int32)), (j92_1 + j92_0), j92_2) hf)
      have J76 : ∀ (j76_0 : Int32) (j76_1 : Int32) (j76_2 : Int32), Rotations_rankByByte_J76 s1 j76_0 j76_1 j76_2 = some u4 → gAt C 0 0 [(q_a0, .inr (10, [.ref q_a0_order, .ref r_a0_orderNext, .ref q_a0_rank, .ref r_a0_rankNext, .ref r_a0_slots, .int s1.2.1])), (q_a0_order, .inl (g_K C 0, 2250, .inl f_a0_order)), (q_a1, .inl (g_K C 0, n_a1, .inl f_a1)), (q_a0_rank, .inl (g_K C 0, 2250, .inl s1.2.2))] [(0, .ref q_a0), (1, .ref q_a1), (2, .int p2), (3, .int s1.1), (4, .int j76_0)] 76 [.int j76_1, .int j76_2, .ref q_a0_rank] := by
        intro j76_0 j76_1 j76_2 hf
        unfold Rotations_rankByByte_J76 at hf
        obtain ⟨e5, hf⟩ := gd_some hf
        refine g_iast 76 hC 3 rfl e5 [(q_a0, .inr (10, [.ref q_a0_order, .ref r_a0_orderNext, .ref q_a0_rank, .ref r_a0_rankNext, .ref r_a0_slots, .int s1.2.1])), (q_a0_order, .inl (g_K C 0, 2250, .inl f_a0_order)), (q_a1, .inl (g_K C 0, n_a1, .inl f_a1)), (q_a0_rank, .inl (g_K C 0, 2250, .inl (upd s1.2.2 j76_2.toNatClampNeg j76_1)))] rfl d_Rotations_rankByByte_76 ?_
        refine g_aload_n 77 hC (j := 0) (hj := rfl) (hd := d_Rotations_rankByByte_77) ?_
        refine g_dup 78 hC rfl d_Rotations_rankByByte_78 ?_
        refine g_get 79 hC i_Rotations rfl 0 rfl 5 (by decide) k225 rfl d_Rotations_rankByByte_79 ?_
        refine g_iload 82 hC (j := 4) (hj := rfl) (hd := d_Rotations_rankByByte_82) ?_
        refine g_if_eq 84 hC 91 (by decide) d_Rotations_rankByByte_84 (fun c6 => ?_) (fun c6 => ?_)
        · have hf := it_t c6 hf
          refine g_iconst 91 hC (1 : Int32) (by decide) d_Rotations_rankByByte_91 ?_
          exact g_re [0, 1, 2, 3] [0, 1, 2, 3] rfl rfl rfl (J92 (1 : Int32) s1.2.1 (upd s1.2.2 j76_2.toNatClampNeg j76_1) hf)
        · have hf := it_f c6 hf
          refine g_iconst 87 hC (0 : Int32) (by decide) d_Rotations_rankByByte_87 ?_
          refine g_goto 88 hC 92 (by decide) d_Rotations_rankByByte_88 ?_
          exact g_re [0, 1, 2, 3] [0, 1, 2, 3] rfl rfl rfl (J92 (0 : Int32) s1.2.1 (upd s1.2.2 j76_2.toNatClampNeg j76_1) hf)
      have J42 : ∀ (j42_0 : Int32), Rotations_rankByByte_J42 s1 f_a0_order j42_0 = some u4 → gAt C 0 0 [(q_a0, .inr (10, [.ref q_a0_order, .ref r_a0_orderNext, .ref q_a0_rank, .ref r_a0_rankNext, .ref r_a0_slots, .int s1.2.1])), (q_a0_order, .inl (g_K C 0, 2250, .inl f_a0_order)), (q_a1, .inl (g_K C 0, n_a1, .inl f_a1)), (q_a0_rank, .inl (g_K C 0, 2250, .inl s1.2.2))] [(0, .ref q_a0), (1, .ref q_a1), (2, .int p2), (3, .int s1.1)] 42 [.int j42_0] := by
        intro j42_0 hf
        unfold Rotations_rankByByte_J42 at hf
        refine g_istore 42 hC (lv2 := [(4, .int j42_0), (0, .ref q_a0), (1, .ref q_a1), (2, .int p2), (3, .int s1.1)]) (hn := (by decide)) (hl2 := rfl) (hd := d_Rotations_rankByByte_42) ?_
        refine g_aload_n 44 hC (j := 1) (hj := rfl) (hd := d_Rotations_rankByByte_44) ?_
        refine g_get 45 hC i_Rotations rfl 0 rfl 2 (by decide) k222 rfl d_Rotations_rankByByte_45 ?_
        refine g_aload_n 48 hC (j := 1) (hj := rfl) (hd := d_Rotations_rankByByte_48) ?_
        refine g_get 49 hC i_Rotations rfl 0 rfl 0 (by decide) k220 rfl d_Rotations_rankByByte_49 ?_
        refine g_iload_n 52 hC (j := 4) (hj := rfl) (hd := d_Rotations_rankByByte_52) ?_
        obtain ⟨e7, hf⟩ := gd_some hf
        refine g_iald 53 hC 1 rfl e7 d_Rotations_rankByByte_53 ?_
        refine g_iload 54 hC (j := 0) (hj := rfl) (hd := d_Rotations_rankByByte_54) ?_
        refine g_if_eq 56 hC 75 (by decide) d_Rotations_rankByByte_56 (fun c8 => ?_) (fun c8 => ?_)
        · have hf := it_t c8 hf
          refine g_iload_n 75 hC (j := 4) (hj := rfl) (hd := d_Rotations_rankByByte_75) ?_
          exact g_re [0, 1, 2, 3] [1, 2, 3, 4, 0] rfl rfl rfl (J76 j42_0 s1.1 (f_a0_order s1.1.toNatClampNeg) hf)
        · have hf := it_f c8 hf
          refine g_aload_n 59 hC (j := 1) (hj := rfl) (hd := d_Rotations_rankByByte_59) ?_
          refine g_get 60 hC i_Rotations rfl 0 rfl 2 (by decide) k222 rfl d_Rotations_rankByByte_60 ?_
          refine g_aload_n 63 hC (j := 1) (hj := rfl) (hd := d_Rotations_rankByByte_63) ?_
          refine g_get 64 hC i_Rotations rfl 0 rfl 0 (by decide) k220 rfl d_Rotations_rankByByte_64 ?_
          refine g_iload_n 67 hC (j := 4) (hj := rfl) (hd := d_Rotations_rankByByte_67) ?_
          refine g_iconst 68 hC (1 : Int32) (by decide) d_Rotations_rankByByte_68 ?_
          refine g_isub 69 hC d_Rotations_rankByByte_69 ?_
          obtain ⟨e9, hf⟩ := gd_some hf
          refine g_iald 70 hC 1 rfl e9 d_Rotations_rankByByte_70 ?_
          obtain ⟨e10, hf⟩ := gd_some hf
          refine g_iald 71 hC 3 rfl e10 d_Rotations_rankByByte_71 ?_
          refine g_goto 72 hC 76 (by decide) d_Rotations_rankByByte_72 ?_
          exact g_re [0, 1, 2, 3] [1, 2, 3, 4, 0] rfl rfl rfl (J76 j42_0 (s1.2.2 (f_a0_order (s1.1 - (1 : Int32)).toNatClampNeg).toNatClampNeg) (f_a0_order s1.1.toNatClampNeg) hf)
      have J41 : Rotations_rankByByte_J41 s1 f_a0_order = some u4 → gAt C 0 0 [(q_a0, .inr (10, [.ref q_a0_order, .ref r_a0_orderNext, .ref q_a0_rank, .ref r_a0_rankNext, .ref r_a0_slots, .int s1.2.1])), (q_a0_order, .inl (g_K C 0, 2250, .inl f_a0_order)), (q_a1, .inl (g_K C 0, n_a1, .inl f_a1)), (q_a0_rank, .inl (g_K C 0, 2250, .inl s1.2.2))] [(0, .ref q_a0), (1, .ref q_a1), (2, .int p2), (3, .int s1.1)] 41 [] := by
        intro hf
        unfold Rotations_rankByByte_J41 at hf
        refine g_iconst 41 hC (0 : Int32) (by decide) d_Rotations_rankByByte_41 ?_
        exact J42 (0 : Int32) hf
      refine g_iload_n 7 hC (j := 3) (hj := rfl) (hd := d_Rotations_rankByByte_7) ?_
      refine g_iload_n 8 hC (j := 2) (hj := rfl) (hd := d_Rotations_rankByByte_8) ?_
      refine g_icmp_ge 9 hC 102 (by decide) d_Rotations_rankByByte_9 (fun c11 => ?_) (fun c11 => ?_)
      · have hf := it_t c11 hf
        exact g_re [0, 1, 2, 3] [] rfl rfl rfl (Xu2_0 (s1.2.1, s1.2.2) (hX (s1.2.1, s1.2.2) hf))
      · have hf := it_f c11 hf
        refine g_iload_n 12 hC (j := 3) (hj := rfl) (hd := d_Rotations_rankByByte_12) ?_
        refine g_if_le 13 hC 41 (by decide) d_Rotations_rankByByte_13 (fun c12 => ?_) (fun c12 => ?_)
        · have hf := it_t c12 hf
          exact J41 hf
        · have hf := it_f c12 hf
          refine g_aload_n 16 hC (j := 1) (hj := rfl) (hd := d_Rotations_rankByByte_16) ?_
          refine g_aload_n 17 hC (j := 0) (hj := rfl) (hd := d_Rotations_rankByByte_17) ?_
          refine g_get 18 hC i_Rotations rfl 0 rfl 0 (by decide) k220 rfl d_Rotations_rankByByte_18 ?_
          refine g_iload_n 21 hC (j := 3) (hj := rfl) (hd := d_Rotations_rankByByte_21) ?_
          obtain ⟨e13, hf⟩ := gd_some hf
          refine g_iald 22 hC 1 rfl e13 d_Rotations_rankByByte_22 ?_
          obtain ⟨e14, hf⟩ := gd_some hf
          refine g_iald 23 hC 2 rfl e14 d_Rotations_rankByByte_23 ?_
          refine g_aload_n 24 hC (j := 1) (hj := rfl) (hd := d_Rotations_rankByByte_24) ?_
          refine g_aload_n 25 hC (j := 0) (hj := rfl) (hd := d_Rotations_rankByByte_25) ?_
          refine g_get 26 hC i_Rotations rfl 0 rfl 0 (by decide) k220 rfl d_Rotations_rankByByte_26 ?_
          refine g_iload_n 29 hC (j := 3) (hj := rfl) (hd := d_Rotations_rankByByte_29) ?_
          refine g_iconst 30 hC (1 : Int32) (by decide) d_Rotations_rankByByte_30 ?_
          refine g_isub 31 hC d_Rotations_rankByByte_31 ?_
          obtain ⟨e15, hf⟩ := gd_some hf
          refine g_iald 32 hC 1 rfl e15 d_Rotations_rankByByte_32 ?_
          obtain ⟨e16, hf⟩ := gd_some hf
          refine g_iald 33 hC 2 rfl e16 d_Rotations_rankByByte_33 ?_
          refine g_icmp_ne 34 hC 41 (by decide) d_Rotations_rankByByte_34 (fun c17 => ?_) (fun c17 => ?_)
          · have hf := it_f c17 hf
            exact J41 hf
          · have hf := it_t c17 hf
            refine g_iconst 37 hC (1 : Int32) (by decide) d_Rotations_rankByByte_37 ?_
            refine g_goto 38 hC 42 (by decide) d_Rotations_rankByByte_38 ?_
            exact J42 (1 : Int32) hf) gas
  exact g_re [0, 1, 2, 3] [1, 2, 3, 0] rfl rfl rfl (Gu2 ((0 : Int32), (0 : Int32), f_a0_rank) hu2)
theorem c_Rotations_rankByByte (l : Launch) (D : va_G) (K : Nat → ClassId) (q_a0 : Nat) (q_a0_order : Nat) (r_a0_orderNext : Nat) (q_a0_rank : Nat) (r_a0_rankNext : Nat) (r_a0_slots : Nat) (x_a0_ranks : Int32) (f_a0_order : (Nat → Int32)) (q_a1 : Nat) (n_a1 : Nat) (f_a1 : (Nat → Int32)) (f_a0_rank : (Nat → Int32)) (p2 : Int32) (out : (Int32 × (Nat → Int32))) (hf : Rotations_rankByByte_f p2 f_a0_order n_a1 f_a1 f_a0_rank = some out) : Cv l D K y_Rotations_rankByByte (g_wd y_Rotations_rankByByte b_Rotations_rankByByte 5 none) { frames := 0, cells := 0, slots := 0, locals := 0 } [.ref q_a0, .ref q_a1, .int p2] [(q_a0, .inr (10, [.ref q_a0_order, .ref r_a0_orderNext, .ref q_a0_rank, .ref r_a0_rankNext, .ref r_a0_slots, .int x_a0_ranks])), (q_a0_order, .inl (K 0, 2250, .inl f_a0_order)), (q_a1, .inl (K 0, n_a1, .inl f_a1)), (q_a0_rank, .inl (K 0, 2250, .inl f_a0_rank))] (fun (x : Unit) => [(q_a0, .inr (10, [.ref q_a0_order, .ref r_a0_orderNext, .ref q_a0_rank, .ref r_a0_rankNext, .ref r_a0_slots, .int out.1])), (q_a0_order, .inl (K 0, 2250, .inl f_a0_order)), (q_a1, .inl (K 0, n_a1, .inl f_a1)), (q_a0_rank, .inl (K 0, 2250, .inl out.2))]) := mk_v (by decide) (Nat.le_of_ble_eq_true rfl) (fun p e s m below meth c A Q hC kr => m_Rotations_rankByByte hC q_a0 q_a0_order r_a0_orderNext q_a0_rank r_a0_rankNext r_a0_slots x_a0_ranks f_a0_order q_a1 n_a1 f_a1 f_a0_rank p2 out hf (fun x o9 pc lv ho => ho ▸ kr x pc lv))
abbrev b_Rotations_sortByNext : ByteArray := prog_11_method_6_code
def y_Rotations_sortByNext : MethodName := ⟨R_Rotations, "sortByNext", "(II)V"⟩
theorem d_Rotations_sortByNext_0 : decode b_Rotations_sortByNext 0 = .ok (.aload_n 0, 1) := by decide +kernel
theorem d_Rotations_sortByNext_1 : decode b_Rotations_sortByNext 1 = .ok (.iload_n 1, 1) := by decide +kernel
theorem d_Rotations_sortByNext_2 : decode b_Rotations_sortByNext 2 = .ok (.invokevirtual 56, 3) := by decide +kernel
theorem d_Rotations_sortByNext_5 : decode b_Rotations_sortByNext 5 = .ok (.iconst 0, 1) := by decide +kernel
theorem d_Rotations_sortByNext_6 : decode b_Rotations_sortByNext 6 = .ok (.istore_n 3, 1) := by decide +kernel
theorem d_Rotations_sortByNext_7 : decode b_Rotations_sortByNext 7 = .ok (.iload_n 3, 1) := by decide +kernel
theorem d_Rotations_sortByNext_8 : decode b_Rotations_sortByNext 8 = .ok (.iload_n 1, 1) := by decide +kernel
theorem d_Rotations_sortByNext_9 : decode b_Rotations_sortByNext 9 = .ok (.if_icmp .ge 69, 3) := by decide +kernel
theorem d_Rotations_sortByNext_12 : decode b_Rotations_sortByNext 12 = .ok (.aload_n 0, 1) := by decide +kernel
theorem d_Rotations_sortByNext_13 : decode b_Rotations_sortByNext 13 = .ok (.getfield 9, 3) := by decide +kernel
theorem d_Rotations_sortByNext_16 : decode b_Rotations_sortByNext 16 = .ok (.iload_n 3, 1) := by decide +kernel
theorem d_Rotations_sortByNext_17 : decode b_Rotations_sortByNext 17 = .ok (.iaload, 1) := by decide +kernel
theorem d_Rotations_sortByNext_18 : decode b_Rotations_sortByNext 18 = .ok (.iload_n 2, 1) := by decide +kernel
theorem d_Rotations_sortByNext_19 : decode b_Rotations_sortByNext 19 = .ok (.isub, 1) := by decide +kernel
theorem d_Rotations_sortByNext_20 : decode b_Rotations_sortByNext 20 = .ok (.istore 4, 2) := by decide +kernel
theorem d_Rotations_sortByNext_22 : decode b_Rotations_sortByNext 22 = .ok (.iload 4, 2) := by decide +kernel
theorem d_Rotations_sortByNext_24 : decode b_Rotations_sortByNext 24 = .ok (.iload 4, 2) := by decide +kernel
theorem d_Rotations_sortByNext_26 : decode b_Rotations_sortByNext 26 = .ok (.ifCond .ge 7, 3) := by decide +kernel
theorem d_Rotations_sortByNext_29 : decode b_Rotations_sortByNext 29 = .ok (.iload_n 1, 1) := by decide +kernel
theorem d_Rotations_sortByNext_30 : decode b_Rotations_sortByNext 30 = .ok (.goto 4, 3) := by decide +kernel
theorem d_Rotations_sortByNext_33 : decode b_Rotations_sortByNext 33 = .ok (.iconst 0, 1) := by decide +kernel
theorem d_Rotations_sortByNext_34 : decode b_Rotations_sortByNext 34 = .ok (.iadd, 1) := by decide +kernel
theorem d_Rotations_sortByNext_35 : decode b_Rotations_sortByNext 35 = .ok (.istore 4, 2) := by decide +kernel
theorem d_Rotations_sortByNext_37 : decode b_Rotations_sortByNext 37 = .ok (.aload_n 0, 1) := by decide +kernel
theorem d_Rotations_sortByNext_38 : decode b_Rotations_sortByNext 38 = .ok (.getfield 15, 3) := by decide +kernel
theorem d_Rotations_sortByNext_41 : decode b_Rotations_sortByNext 41 = .ok (.aload_n 0, 1) := by decide +kernel
theorem d_Rotations_sortByNext_42 : decode b_Rotations_sortByNext 42 = .ok (.getfield 24, 3) := by decide +kernel
theorem d_Rotations_sortByNext_45 : decode b_Rotations_sortByNext 45 = .ok (.aload_n 0, 1) := by decide +kernel
theorem d_Rotations_sortByNext_46 : decode b_Rotations_sortByNext 46 = .ok (.getfield 18, 3) := by decide +kernel
theorem d_Rotations_sortByNext_49 : decode b_Rotations_sortByNext 49 = .ok (.iload 4, 2) := by decide +kernel
theorem d_Rotations_sortByNext_51 : decode b_Rotations_sortByNext 51 = .ok (.iaload, 1) := by decide +kernel
theorem d_Rotations_sortByNext_52 : decode b_Rotations_sortByNext 52 = .ok (.iaload, 1) := by decide +kernel
theorem d_Rotations_sortByNext_53 : decode b_Rotations_sortByNext 53 = .ok (.iload 4, 2) := by decide +kernel
theorem d_Rotations_sortByNext_55 : decode b_Rotations_sortByNext 55 = .ok (.iastore, 1) := by decide +kernel
theorem d_Rotations_sortByNext_56 : decode b_Rotations_sortByNext 56 = .ok (.aload_n 0, 1) := by decide +kernel
theorem d_Rotations_sortByNext_57 : decode b_Rotations_sortByNext 57 = .ok (.getfield 24, 3) := by decide +kernel
theorem d_Rotations_sortByNext_60 : decode b_Rotations_sortByNext 60 = .ok (.aload_n 0, 1) := by decide +kernel
theorem d_Rotations_sortByNext_61 : decode b_Rotations_sortByNext 61 = .ok (.getfield 18, 3) := by decide +kernel
theorem d_Rotations_sortByNext_64 : decode b_Rotations_sortByNext 64 = .ok (.iload 4, 2) := by decide +kernel
theorem d_Rotations_sortByNext_66 : decode b_Rotations_sortByNext 66 = .ok (.iaload, 1) := by decide +kernel
theorem d_Rotations_sortByNext_67 : decode b_Rotations_sortByNext 67 = .ok (.dup2, 1) := by decide +kernel
theorem d_Rotations_sortByNext_68 : decode b_Rotations_sortByNext 68 = .ok (.iaload, 1) := by decide +kernel
theorem d_Rotations_sortByNext_69 : decode b_Rotations_sortByNext 69 = .ok (.iconst 1, 1) := by decide +kernel
theorem d_Rotations_sortByNext_70 : decode b_Rotations_sortByNext 70 = .ok (.iadd, 1) := by decide +kernel
theorem d_Rotations_sortByNext_71 : decode b_Rotations_sortByNext 71 = .ok (.iastore, 1) := by decide +kernel
theorem d_Rotations_sortByNext_72 : decode b_Rotations_sortByNext 72 = .ok (.iinc 3 1, 3) := by decide +kernel
theorem d_Rotations_sortByNext_75 : decode b_Rotations_sortByNext 75 = .ok (.goto (-68), 3) := by decide +kernel
theorem d_Rotations_sortByNext_78 : decode b_Rotations_sortByNext 78 = .ok (.aload_n 0, 1) := by decide +kernel
theorem d_Rotations_sortByNext_79 : decode b_Rotations_sortByNext 79 = .ok (.getfield 9, 3) := by decide +kernel
theorem d_Rotations_sortByNext_82 : decode b_Rotations_sortByNext 82 = .ok (.astore_n 3, 1) := by decide +kernel
theorem d_Rotations_sortByNext_83 : decode b_Rotations_sortByNext 83 = .ok (.aload_n 0, 1) := by decide +kernel
theorem d_Rotations_sortByNext_84 : decode b_Rotations_sortByNext 84 = .ok (.aload_n 0, 1) := by decide +kernel
theorem d_Rotations_sortByNext_85 : decode b_Rotations_sortByNext 85 = .ok (.getfield 15, 3) := by decide +kernel
theorem d_Rotations_sortByNext_88 : decode b_Rotations_sortByNext 88 = .ok (.putfield 9, 3) := by decide +kernel
theorem d_Rotations_sortByNext_91 : decode b_Rotations_sortByNext 91 = .ok (.aload_n 0, 1) := by decide +kernel
theorem d_Rotations_sortByNext_92 : decode b_Rotations_sortByNext 92 = .ok (.aload_n 3, 1) := by decide +kernel
theorem d_Rotations_sortByNext_93 : decode b_Rotations_sortByNext 93 = .ok (.putfield 15, 3) := by decide +kernel
theorem d_Rotations_sortByNext_96 : decode b_Rotations_sortByNext 96 = .ok (.return_, 1) := by decide +kernel
theorem k943 : (Jvm.Cond.code ({ cls := "RotationPress$Rotations", name := "openSlots", desc := "(I)V" } : Jvm.MethodName) prog_11_method_5_code (3 : Nat) (Option.none : Option Jvm.ClassFile.FieldType)) ∈ g_tbl := List.mem_filter.mpr ⟨List.mem_append_right (k2_sels lw_privs) (List.mem_append_right _ (List.mem_append_right _ (List.mem_append_right _ (List.mem_append_left _ (List.mem_of_getElem? (l := tables_1_4) (i := 223) rfl))))), rfl⟩
theorem k9 : (Jvm.Cond.initialized "RotationPress$Rotations") ∈ g_tbl := List.mem_filter.mpr ⟨List.mem_append_right (k2_sels lw_privs) (List.mem_append_left _ (List.mem_of_getElem? (l := tables_1_1) (i := 9) rfl)), rfl⟩
theorem k940 : (Jvm.Cond.methodLink "RotationPress$Rotations" (56 : Nat) ({ cls := "RotationPress$Rotations", name := "openSlots", desc := "(I)V" } : Jvm.MethodName)) ∈ g_tbl := List.mem_filter.mpr ⟨List.mem_append_right (k2_sels lw_privs) (List.mem_append_right _ (List.mem_append_right _ (List.mem_append_right _ (List.mem_append_left _ (List.mem_of_getElem? (l := tables_1_4) (i := 220) rfl))))), rfl⟩
theorem k942 : (Jvm.Cond.instanceMethod ({ cls := "RotationPress$Rotations", name := "openSlots", desc := "(I)V" } : Jvm.MethodName)) ∈ g_tbl := List.mem_filter.mpr ⟨List.mem_append_right (k2_sels lw_privs) (List.mem_append_right _ (List.mem_append_right _ (List.mem_append_right _ (List.mem_append_left _ (List.mem_of_getElem? (l := tables_1_4) (i := 222) rfl))))), rfl⟩
theorem ks5 : (Jvm.Cond.selects "RotationPress$Rotations" ({ cls := "RotationPress$Rotations", name := "openSlots", desc := "(I)V" } : Jvm.MethodName) ({ cls := "RotationPress$Rotations", name := "openSlots", desc := "(I)V" } : Jvm.MethodName)) ∈ g_tbl := List.mem_filter.mpr ⟨List.mem_append_left _ (List.mem_map.mpr ⟨(({ cls := "RotationPress$Rotations", name := "openSlots", desc := "(I)V" } : Jvm.MethodName), _), List.mem_of_getElem? (i := 5) rfl, rfl⟩), rfl⟩
theorem k221 : (Jvm.Cond.fieldLink "RotationPress$Rotations" (15 : Nat) "RotationPress$Rotations" "orderNext" "[I") ∈ g_tbl := List.mem_filter.mpr ⟨List.mem_append_right (k2_sels lw_privs) (List.mem_append_left _ (List.mem_of_getElem? (l := tables_1_1) (i := 221) rfl)), rfl⟩
noncomputable def Rotations_sortByNext_J34 (f_a0_rank : (Nat → Int32)) (s2 : (Int32 × (Nat → Int32) × (Nat → Int32))) (j34_0 : Int32) (j34_1 : Int32) : Option ((Int32 × (Nat → Int32) × (Nat → Int32)) ⊕ ((Nat → Int32) × (Nat → Int32))) :=
  gd (ix (j34_1 + j34_0) 2250) (gd (ix (f_a0_rank (j34_1 + j34_0).toNatClampNeg) 2250) (gd (ix (s2.2.1 (f_a0_rank (j34_1 + j34_0).toNatClampNeg).toNatClampNeg) 2250) (gd (ix (j34_1 + j34_0) 2250) (gd (ix (f_a0_rank (j34_1 + j34_0).toNatClampNeg) 2250) (gd (ix (f_a0_rank (j34_1 + j34_0).toNatClampNeg) 2250) (some (Sum.inl ((s2.1 + (1 : Int32)), (upd s2.2.1 (f_a0_rank (j34_1 + j34_0).toNatClampNeg).toNatClampNeg ((s2.2.1 (f_a0_rank (j34_1 + j34_0).toNatClampNeg).toNatClampNeg) + (1 : Int32))), (upd s2.2.2 (s2.2.1 (f_a0_rank (j34_1 + j34_0).toNatClampNeg).toNatClampNeg).toNatClampNeg (j34_1 + j34_0))))))))))
noncomputable def Rotations_sortByNext_L7 (p1 : Int32) (f_a0_order : (Nat → Int32)) (p2 : Int32) (f_a0_rank : (Nat → Int32)) (s2 : (Int32 × (Nat → Int32) × (Nat → Int32))) : Option ((Int32 × (Nat → Int32) × (Nat → Int32)) ⊕ ((Nat → Int32) × (Nat → Int32))) :=
  (if p1 ≤ s2.1 then some (Sum.inr (s2.2.1, s2.2.2)) else gd (ix s2.1 2250) ((if 0 ≤ ((f_a0_order s2.1.toNatClampNeg) - p2) then Rotations_sortByNext_J34 f_a0_rank s2 (0 : Int32) ((f_a0_order s2.1.toNatClampNeg) - p2) else Rotations_sortByNext_J34 f_a0_rank s2 p1 ((f_a0_order s2.1.toNatClampNeg) - p2))))
noncomputable def Rotations_sortByNext_f (p1 : Int32) (f_a0_slots : (Nat → Int32)) (f_a0_order : (Nat → Int32)) (p2 : Int32) (f_a0_rank : (Nat → Int32)) (f_a0_orderNext : (Nat → Int32)) : Option ((Nat → Int32) × (Nat → Int32) × (Nat → Int32)) :=
  bd (Rotations_openSlots_f p1 f_a0_slots) (fun u1 => bd (lpF (Rotations_sortByNext_L7 p1 f_a0_order p2 f_a0_rank) gas ((0 : Int32), u1, f_a0_orderNext)) (fun v4 => some (v4.1, f_a0_order, v4.2)))
set_option maxRecDepth 100000 in
set_option maxHeartbeats 4000000 in
theorem m_Rotations_sortByNext {C : gT} (hC : gOk C b_Rotations_sortByNext R_Rotations { frames := 1, cells := 0, slots := 0, locals := 22 } 5) (q_a0 : Nat) (q_a0_order : Nat) (q_a0_orderNext : Nat) (q_a0_rank : Nat) (r_a0_rankNext : Nat) (q_a0_slots : Nat) (x_a0_ranks : Int32) (f_a0_slots : (Nat → Int32)) (f_a0_order : (Nat → Int32)) (f_a0_rank : (Nat → Int32)) (f_a0_orderNext : (Nat → Int32)) (p1 : Int32) (p2 : Int32) (out : ((Nat → Int32) × (Nat → Int32) × (Nat → Int32))) (hf : Rotations_sortByNext_f p1 f_a0_slots f_a0_order p2 f_a0_rank f_a0_orderNext = some out) (kr : ∀ (x : (Nat × Nat)) (o9 : ((Nat → Int32) × (Nat → Int32) × (Nat → Int32))) (pc : Nat) (lv : List (Nat × Value)), o9 = out → decode b_Rotations_sortByNext pc = .ok (.return_, 1) → gAt C 0 0 [(q_a0, .inr (10, [.ref x.1, .ref x.2, .ref q_a0_rank, .ref r_a0_rankNext, .ref q_a0_slots, .int x_a0_ranks])), (q_a0_slots, .inl (g_K C 0, 2250, .inl o9.1)), (x.1, .inl (g_K C 0, 2250, .inl o9.2.2)), (q_a0_rank, .inl (g_K C 0, 2250, .inl f_a0_rank)), (x.2, .inl (g_K C 0, 2250, .inl o9.2.1))] lv pc []) : gAt C 0 0 [(q_a0, .inr (10, [.ref q_a0_order, .ref q_a0_orderNext, .ref q_a0_rank, .ref r_a0_rankNext, .ref q_a0_slots, .int x_a0_ranks])), (q_a0_slots, .inl (g_K C 0, 2250, .inl f_a0_slots)), (q_a0_order, .inl (g_K C 0, 2250, .inl f_a0_order)), (q_a0_rank, .inl (g_K C 0, 2250, .inl f_a0_rank)), (q_a0_orderNext, .inl (g_K C 0, 2250, .inl f_a0_orderNext))] [(0, .ref q_a0), (1, .int p1), (2, .int p2)] 0 [] := by
  unfold Rotations_sortByNext_f at hf
  refine g_aload_n 0 hC (j := 0) (hj := rfl) (hd := d_Rotations_sortByNext_0) ?_
  refine g_iload_n 1 hC (j := 1) (hj := rfl) (hd := d_Rotations_sortByNext_1) ?_
  obtain ⟨u1, hu1, hf⟩ := bd_some hf
  refine g_callVv 2 hC (c_Rotations_openSlots (g_l C) (g_D C) (g_K C) q_a0 q_a0_order q_a0_orderNext q_a0_rank r_a0_rankNext q_a0_slots x_a0_ranks f_a0_slots p1 u1 hu1) k943 k9 k940 k942 ks5 1 rfl (by decide +kernel) (by decide) [0, 1] [2, 3, 4] [(q_a0_order, .inl (g_K C 0, 2250, .inl f_a0_order)), (q_a0_rank, .inl (g_K C 0, 2250, .inl f_a0_rank)), (q_a0_orderNext, .inl (g_K C 0, 2250, .inl f_a0_orderNext))] rfl rfl rfl rfl rfl 0 10 rfl rfl rfl rfl (Nat.le_of_ble_eq_true rfl) ⟨Nat.le_of_ble_eq_true rfl, Nat.le_of_ble_eq_true rfl⟩ (fun (_ : Unit) => [(q_a0_order, .inl (g_K C 0, 2250, .inl f_a0_order)), (q_a0_rank, .inl (g_K C 0, 2250, .inl f_a0_rank)), (q_a0_orderNext, .inl (g_K C 0, 2250, .inl f_a0_orderNext)), (q_a0, .inr (10, [.ref q_a0_order, .ref q_a0_orderNext, .ref q_a0_rank, .ref r_a0_rankNext, .ref q_a0_slots, .int x_a0_ranks])), (q_a0_slots, .inl (g_K C 0, 2250, .inl u1))]) (fun _ => rfl) d_Rotations_sortByNext_2 0 0 rfl rfl (fun _ => ?_)
  refine g_iconst 5 hC (0 : Int32) (by decide) d_Rotations_sortByNext_5 ?_
  refine g_istore_n 6 hC (lv2 := [(3, .int (0 : Int32)), (0, .ref q_a0), (1, .int p1), (2, .int p2)]) (hn := (by decide)) (hl2 := rfl) (hd := d_Rotations_sortByNext_6) ?_
  obtain ⟨u3, hu3, hf⟩ := bd_some hf
  have Xu3_0 : ∀ (v4 : ((Nat → Int32) × (Nat → Int32))), v4 = u3 → gAt C 0 0 [(q_a0, .inr (10, [.ref q_a0_order, .ref q_a0_orderNext, .ref q_a0_rank, .ref r_a0_rankNext, .ref q_a0_slots, .int x_a0_ranks])), (q_a0_slots, .inl (g_K C 0, 2250, .inl v4.1)), (q_a0_order, .inl (g_K C 0, 2250, .inl f_a0_order)), (q_a0_rank, .inl (g_K C 0, 2250, .inl f_a0_rank)), (q_a0_orderNext, .inl (g_K C 0, 2250, .inl v4.2))] [(0, .ref q_a0)] 78 [] := by
    intro v4 hv
    rw [← hv] at hf
    refine g_aload_n 78 hC (j := 0) (hj := rfl) (hd := d_Rotations_sortByNext_78) ?_
    refine g_get 79 hC i_Rotations rfl 0 rfl 0 (by decide) k220 rfl d_Rotations_sortByNext_79 ?_
    refine g_astore_n 82 hC (lv2 := [(3, .ref q_a0_order), (0, .ref q_a0)]) (hn := (by decide)) (hl2 := rfl) (hd := d_Rotations_sortByNext_82) ?_
    refine g_aload_n 83 hC (j := 1) (hj := rfl) (hd := d_Rotations_sortByNext_83) ?_
    refine g_aload_n 84 hC (j := 1) (hj := rfl) (hd := d_Rotations_sortByNext_84) ?_
    refine g_get 85 hC i_Rotations rfl 0 rfl 1 (by decide) k221 rfl d_Rotations_sortByNext_85 ?_
    refine g_put 88 hC i_Rotations rfl 0 rfl 0 (by decide) t_Rotations tk_Rotations n_Rotations k220 rfl rfl rfl (Nat.le_of_ble_eq_true rfl) [(q_a0, .inr (10, [.ref q_a0_orderNext, .ref q_a0_orderNext, .ref q_a0_rank, .ref r_a0_rankNext, .ref q_a0_slots, .int x_a0_ranks])), (q_a0_slots, .inl (g_K C 0, 2250, .inl v4.1)), (q_a0_order, .inl (g_K C 0, 2250, .inl f_a0_order)), (q_a0_rank, .inl (g_K C 0, 2250, .inl f_a0_rank)), (q_a0_orderNext, .inl (g_K C 0, 2250, .inl v4.2))] rfl d_Rotations_sortByNext_88 ?_
    refine g_aload_n 91 hC (j := 1) (hj := rfl) (hd := d_Rotations_sortByNext_91) ?_
    refine g_aload_n 92 hC (j := 0) (hj := rfl) (hd := d_Rotations_sortByNext_92) ?_
    refine g_put 93 hC i_Rotations rfl 0 rfl 1 (by decide) t_Rotations tk_Rotations n_Rotations k221 rfl rfl rfl (Nat.le_of_ble_eq_true rfl) [(q_a0, .inr (10, [.ref q_a0_orderNext, .ref q_a0_order, .ref q_a0_rank, .ref r_a0_rankNext, .ref q_a0_slots, .int x_a0_ranks])), (q_a0_slots, .inl (g_K C 0, 2250, .inl v4.1)), (q_a0_order, .inl (g_K C 0, 2250, .inl f_a0_order)), (q_a0_rank, .inl (g_K C 0, 2250, .inl f_a0_rank)), (q_a0_orderNext, .inl (g_K C 0, 2250, .inl v4.2))] rfl d_Rotations_sortByNext_93 ?_
    exact g_re [0, 1, 4, 3, 2] [] rfl rfl rfl (kr (q_a0_orderNext, q_a0_order) (v4.1, f_a0_order, v4.2) 96 [] (Option.some.inj hf) d_Rotations_sortByNext_96)
  have Gu3 := lp_ind (b := (Rotations_sortByNext_L7 p1 f_a0_order p2 f_a0_rank)) (G := fun (s2 : (Int32 × (Nat → Int32) × (Nat → Int32))) => gAt C 0 0 [(q_a0, .inr (10, [.ref q_a0_order, .ref q_a0_orderNext, .ref q_a0_rank, .ref r_a0_rankNext, .ref q_a0_slots, .int x_a0_ranks])), (q_a0_slots, .inl (g_K C 0, 2250, .inl s2.2.1)), (q_a0_order, .inl (g_K C 0, 2250, .inl f_a0_order)), (q_a0_rank, .inl (g_K C 0, 2250, .inl f_a0_rank)), (q_a0_orderNext, .inl (g_K C 0, 2250, .inl s2.2.2))] [(0, .ref q_a0), (1, .int p1), (2, .int p2), (3, .int s2.1)] 7 []) (o := u3) (by
      intro s2 u5 hf hI hX
      unfold Rotations_sortByNext_L7 at hf
      have J34 : ∀ (j34_0 : Int32) (j34_1 : Int32), Rotations_sortByNext_J34 f_a0_rank s2 j34_0 j34_1 = some u5 → gAt C 0 0 [(q_a0, .inr (10, [.ref q_a0_order, .ref q_a0_orderNext, .ref q_a0_rank, .ref r_a0_rankNext, .ref q_a0_slots, .int x_a0_ranks])), (q_a0_slots, .inl (g_K C 0, 2250, .inl s2.2.1)), (q_a0_order, .inl (g_K C 0, 2250, .inl f_a0_order)), (q_a0_rank, .inl (g_K C 0, 2250, .inl f_a0_rank)), (q_a0_orderNext, .inl (g_K C 0, 2250, .inl s2.2.2))] [(0, .ref q_a0), (1, .int p1), (2, .int p2), (3, .int s2.1)] 34 [.int j34_0, .int j34_1] := by
        intro j34_0 j34_1 hf
        unfold Rotations_sortByNext_J34 at hf
        refine g_iadd 34 hC d_Rotations_sortByNext_34 ?_
        refine g_istore 35 hC (lv2 := [(4, .int (j34_1 + j34_0)), (0, .ref q_a0), (1, .int p1), (2, .int p2), (3, .int s2.1)]) (hn := (by decide)) (hl2 := rfl) (hd := d_Rotations_sortByNext_35) ?_
        refine g_aload_n 37 hC (j := 1) (hj := rfl) (hd := d_Rotations_sortByNext_37) ?_
        refine g_get 38 hC i_Rotations rfl 0 rfl 1 (by decide) k221 rfl d_Rotations_sortByNext_38 ?_
        refine g_aload_n 41 hC (j := 1) (hj := rfl) (hd := d_Rotations_sortByNext_41) ?_
        refine g_get 42 hC i_Rotations rfl 0 rfl 4 (by decide) k224 rfl d_Rotations_sortByNext_42 ?_
        refine g_aload_n 45 hC (j := 1) (hj := rfl) (hd := d_Rotations_sortByNext_45) ?_
        refine g_get 46 hC i_Rotations rfl 0 rfl 2 (by decide) k222 rfl d_Rotations_sortByNext_46 ?_
        refine g_iload 49 hC (j := 0) (hj := rfl) (hd := d_Rotations_sortByNext_49) ?_
        obtain ⟨e6, hf⟩ := gd_some hf
        refine g_iald 51 hC 3 rfl e6 d_Rotations_sortByNext_51 ?_
        obtain ⟨e7, hf⟩ := gd_some hf
        refine g_iald 52 hC 1 rfl e7 d_Rotations_sortByNext_52 ?_
        refine g_iload 53 hC (j := 0) (hj := rfl) (hd := d_Rotations_sortByNext_53) ?_
        obtain ⟨e8, hf⟩ := gd_some hf
        refine g_iast 55 hC 4 rfl e8 [(q_a0, .inr (10, [.ref q_a0_order, .ref q_a0_orderNext, .ref q_a0_rank, .ref r_a0_rankNext, .ref q_a0_slots, .int x_a0_ranks])), (q_a0_slots, .inl (g_K C 0, 2250, .inl s2.2.1)), (q_a0_order, .inl (g_K C 0, 2250, .inl f_a0_order)), (q_a0_rank, .inl (g_K C 0, 2250, .inl f_a0_rank)), (q_a0_orderNext, .inl (g_K C 0, 2250, .inl (upd s2.2.2 (s2.2.1 (f_a0_rank (j34_1 + j34_0).toNatClampNeg).toNatClampNeg).toNatClampNeg (j34_1 + j34_0))))] rfl d_Rotations_sortByNext_55 ?_
        refine g_aload_n 56 hC (j := 1) (hj := rfl) (hd := d_Rotations_sortByNext_56) ?_
        refine g_get 57 hC i_Rotations rfl 0 rfl 4 (by decide) k224 rfl d_Rotations_sortByNext_57 ?_
        refine g_aload_n 60 hC (j := 1) (hj := rfl) (hd := d_Rotations_sortByNext_60) ?_
        refine g_get 61 hC i_Rotations rfl 0 rfl 2 (by decide) k222 rfl d_Rotations_sortByNext_61 ?_
        refine g_iload 64 hC (j := 0) (hj := rfl) (hd := d_Rotations_sortByNext_64) ?_
        obtain ⟨e9, hf⟩ := gd_some hf
        refine g_iald 66 hC 3 rfl e9 d_Rotations_sortByNext_66 ?_
        refine g_dup2 67 hC rfl rfl d_Rotations_sortByNext_67 ?_
        obtain ⟨e10, hf⟩ := gd_some hf
        refine g_iald 68 hC 1 rfl e10 d_Rotations_sortByNext_68 ?_
        refine g_iconst 69 hC (1 : Int32) (by decide) d_Rotations_sortByNext_69 ?_
        refine g_iadd 70 hC d_Rotations_sortByNext_70 ?_
        obtain ⟨e11, hf⟩ := gd_some hf
        refine g_iast 71 hC 1 rfl e11 [(q_a0, .inr (10, [.ref q_a0_order, .ref q_a0_orderNext, .ref q_a0_rank, .ref r_a0_rankNext, .ref q_a0_slots, .int x_a0_ranks])), (q_a0_slots, .inl (g_K C 0, 2250, .inl (upd s2.2.1 (f_a0_rank (j34_1 + j34_0).toNatClampNeg).toNatClampNeg ((s2.2.1 (f_a0_rank (j34_1 + j34_0).toNatClampNeg).toNatClampNeg) + (1 : Int32))))), (q_a0_order, .inl (g_K C 0, 2250, .inl f_a0_order)), (q_a0_rank, .inl (g_K C 0, 2250, .inl f_a0_rank)), (q_a0_orderNext, .inl (g_K C 0, 2250, .inl (upd s2.2.2 (s2.2.1 (f_a0_rank (j34_1 + j34_0).toNatClampNeg).toNatClampNeg).toNatClampNeg (j34_1 + j34_0))))] rfl d_Rotations_sortByNext_71 ?_
        refine g_iinc 72 hC 4 (1 : Int32) [(3, .int (s2.1 + (1 : Int32))), (4, .int (j34_1 + j34_0)), (0, .ref q_a0), (1, .int p1), (2, .int p2)] rfl (by decide) (by decide) rfl d_Rotations_sortByNext_72 ?_
        refine g_goto 75 hC 7 (by decide) d_Rotations_sortByNext_75 ?_
        exact g_re [0, 1, 2, 3, 4] [2, 3, 4, 0] rfl rfl rfl (hI ((s2.1 + (1 : Int32)), (upd s2.2.1 (f_a0_rank (j34_1 + j34_0).toNatClampNeg).toNatClampNeg ((s2.2.1 (f_a0_rank (j34_1 + j34_0).toNatClampNeg).toNatClampNeg) + (1 : Int32))), (upd s2.2.2 (s2.2.1 (f_a0_rank (j34_1 + j34_0).toNatClampNeg).toNatClampNeg).toNatClampNeg (j34_1 + j34_0))) hf)
      refine g_iload_n 7 hC (j := 3) (hj := rfl) (hd := d_Rotations_sortByNext_7) ?_
      refine g_iload_n 8 hC (j := 1) (hj := rfl) (hd := d_Rotations_sortByNext_8) ?_
      refine g_icmp_ge 9 hC 78 (by decide) d_Rotations_sortByNext_9 (fun c12 => ?_) (fun c12 => ?_)
      · have hf := it_t c12 hf
        exact g_re [0, 1, 2, 3, 4] [0] rfl rfl rfl (Xu3_0 (s2.2.1, s2.2.2) (hX (s2.2.1, s2.2.2) hf))
      · have hf := it_f c12 hf
        refine g_aload_n 12 hC (j := 0) (hj := rfl) (hd := d_Rotations_sortByNext_12) ?_
        refine g_get 13 hC i_Rotations rfl 0 rfl 0 (by decide) k220 rfl d_Rotations_sortByNext_13 ?_
        refine g_iload_n 16 hC (j := 3) (hj := rfl) (hd := d_Rotations_sortByNext_16) ?_
        obtain ⟨e13, hf⟩ := gd_some hf
        refine g_iald 17 hC 2 rfl e13 d_Rotations_sortByNext_17 ?_
        refine g_iload_n 18 hC (j := 2) (hj := rfl) (hd := d_Rotations_sortByNext_18) ?_
        refine g_isub 19 hC d_Rotations_sortByNext_19 ?_
        refine g_istore 20 hC (lv2 := [(4, .int ((f_a0_order s2.1.toNatClampNeg) - p2)), (0, .ref q_a0), (1, .int p1), (2, .int p2), (3, .int s2.1)]) (hn := (by decide)) (hl2 := rfl) (hd := d_Rotations_sortByNext_20) ?_
        refine g_iload 22 hC (j := 0) (hj := rfl) (hd := d_Rotations_sortByNext_22) ?_
        refine g_iload 24 hC (j := 0) (hj := rfl) (hd := d_Rotations_sortByNext_24) ?_
        refine g_if_ge 26 hC 33 (by decide) d_Rotations_sortByNext_26 (fun c14 => ?_) (fun c14 => ?_)
        · have hf := it_t c14 hf
          refine g_iconst 33 hC (0 : Int32) (by decide) d_Rotations_sortByNext_33 ?_
          exact g_re [0, 1, 2, 3, 4] [1, 2, 3, 4] rfl rfl rfl (J34 (0 : Int32) ((f_a0_order s2.1.toNatClampNeg) - p2) hf)
        · have hf := it_f c14 hf
          refine g_iload_n 29 hC (j := 2) (hj := rfl) (hd := d_Rotations_sortByNext_29) ?_
          refine g_goto 30 hC 34 (by decide) d_Rotations_sortByNext_30 ?_
          exact g_re [0, 1, 2, 3, 4] [1, 2, 3, 4] rfl rfl rfl (J34 p1 ((f_a0_order s2.1.toNatClampNeg) - p2) hf)) gas
  exact g_re [3, 4, 0, 1, 2] [1, 2, 3, 0] rfl rfl rfl (Gu3 ((0 : Int32), u1, f_a0_orderNext) hu3)
theorem c_Rotations_sortByNext (l : Launch) (D : va_G) (K : Nat → ClassId) (q_a0 : Nat) (q_a0_order : Nat) (q_a0_orderNext : Nat) (q_a0_rank : Nat) (r_a0_rankNext : Nat) (q_a0_slots : Nat) (x_a0_ranks : Int32) (f_a0_slots : (Nat → Int32)) (f_a0_order : (Nat → Int32)) (f_a0_rank : (Nat → Int32)) (f_a0_orderNext : (Nat → Int32)) (p1 : Int32) (p2 : Int32) (out : ((Nat → Int32) × (Nat → Int32) × (Nat → Int32))) (hf : Rotations_sortByNext_f p1 f_a0_slots f_a0_order p2 f_a0_rank f_a0_orderNext = some out) : Cv l D K y_Rotations_sortByNext (g_wd y_Rotations_sortByNext b_Rotations_sortByNext 5 none) { frames := 1, cells := 0, slots := 0, locals := 22 } [.ref q_a0, .int p1, .int p2] [(q_a0, .inr (10, [.ref q_a0_order, .ref q_a0_orderNext, .ref q_a0_rank, .ref r_a0_rankNext, .ref q_a0_slots, .int x_a0_ranks])), (q_a0_slots, .inl (K 0, 2250, .inl f_a0_slots)), (q_a0_order, .inl (K 0, 2250, .inl f_a0_order)), (q_a0_rank, .inl (K 0, 2250, .inl f_a0_rank)), (q_a0_orderNext, .inl (K 0, 2250, .inl f_a0_orderNext))] (fun (x : (Nat × Nat)) => [(q_a0, .inr (10, [.ref x.1, .ref x.2, .ref q_a0_rank, .ref r_a0_rankNext, .ref q_a0_slots, .int x_a0_ranks])), (q_a0_slots, .inl (K 0, 2250, .inl out.1)), (x.1, .inl (K 0, 2250, .inl out.2.2)), (q_a0_rank, .inl (K 0, 2250, .inl f_a0_rank)), (x.2, .inl (K 0, 2250, .inl out.2.1))]) := mk_v (by decide) (Nat.le_of_ble_eq_true rfl) (fun p e s m below meth c A Q hC kr => m_Rotations_sortByNext hC q_a0 q_a0_order q_a0_orderNext q_a0_rank r_a0_rankNext q_a0_slots x_a0_ranks f_a0_slots f_a0_order f_a0_rank f_a0_orderNext p1 p2 out hf (fun x o9 pc lv ho => ho ▸ kr x pc lv))
abbrev b_Rotations_rankByNext : ByteArray := prog_11_method_7_code
def y_Rotations_rankByNext : MethodName := ⟨R_Rotations, "rankByNext", "(II)V"⟩
theorem d_Rotations_rankByNext_0 : decode b_Rotations_rankByNext 0 = .ok (.aload_n 0, 1) := by decide +kernel
theorem d_Rotations_rankByNext_1 : decode b_Rotations_rankByNext 1 = .ok (.iconst 0, 1) := by decide +kernel
theorem d_Rotations_rankByNext_2 : decode b_Rotations_rankByNext 2 = .ok (.putfield 27, 3) := by decide +kernel
theorem d_Rotations_rankByNext_5 : decode b_Rotations_rankByNext 5 = .ok (.iconst 0, 1) := by decide +kernel
theorem d_Rotations_rankByNext_6 : decode b_Rotations_rankByNext 6 = .ok (.istore_n 3, 1) := by decide +kernel
theorem d_Rotations_rankByNext_7 : decode b_Rotations_rankByNext 7 = .ok (.iconst 0, 1) := by decide +kernel
theorem d_Rotations_rankByNext_8 : decode b_Rotations_rankByNext 8 = .ok (.istore 4, 2) := by decide +kernel
theorem d_Rotations_rankByNext_10 : decode b_Rotations_rankByNext 10 = .ok (.iconst 0, 1) := by decide +kernel
theorem d_Rotations_rankByNext_11 : decode b_Rotations_rankByNext 11 = .ok (.istore 5, 2) := by decide +kernel
theorem d_Rotations_rankByNext_13 : decode b_Rotations_rankByNext 13 = .ok (.iload 5, 2) := by decide +kernel
theorem d_Rotations_rankByNext_15 : decode b_Rotations_rankByNext 15 = .ok (.iload_n 1, 1) := by decide +kernel
theorem d_Rotations_rankByNext_16 : decode b_Rotations_rankByNext 16 = .ok (.if_icmp .ge 134, 3) := by decide +kernel
theorem d_Rotations_rankByNext_19 : decode b_Rotations_rankByNext 19 = .ok (.aload_n 0, 1) := by decide +kernel
theorem d_Rotations_rankByNext_20 : decode b_Rotations_rankByNext 20 = .ok (.getfield 9, 3) := by decide +kernel
theorem d_Rotations_rankByNext_23 : decode b_Rotations_rankByNext 23 = .ok (.iload 5, 2) := by decide +kernel
theorem d_Rotations_rankByNext_25 : decode b_Rotations_rankByNext 25 = .ok (.iaload, 1) := by decide +kernel
theorem d_Rotations_rankByNext_26 : decode b_Rotations_rankByNext 26 = .ok (.istore 6, 2) := by decide +kernel
theorem d_Rotations_rankByNext_28 : decode b_Rotations_rankByNext 28 = .ok (.iload 6, 2) := by decide +kernel
theorem d_Rotations_rankByNext_30 : decode b_Rotations_rankByNext 30 = .ok (.iload_n 2, 1) := by decide +kernel
theorem d_Rotations_rankByNext_31 : decode b_Rotations_rankByNext 31 = .ok (.iadd, 1) := by decide +kernel
theorem d_Rotations_rankByNext_32 : decode b_Rotations_rankByNext 32 = .ok (.istore 7, 2) := by decide +kernel
theorem d_Rotations_rankByNext_34 : decode b_Rotations_rankByNext 34 = .ok (.iload 7, 2) := by decide +kernel
theorem d_Rotations_rankByNext_36 : decode b_Rotations_rankByNext 36 = .ok (.iload 7, 2) := by decide +kernel
theorem d_Rotations_rankByNext_38 : decode b_Rotations_rankByNext 38 = .ok (.iload_n 1, 1) := by decide +kernel
theorem d_Rotations_rankByNext_39 : decode b_Rotations_rankByNext 39 = .ok (.if_icmp .lt 7, 3) := by decide +kernel
theorem d_Rotations_rankByNext_42 : decode b_Rotations_rankByNext 42 = .ok (.iload_n 1, 1) := by decide +kernel
theorem d_Rotations_rankByNext_43 : decode b_Rotations_rankByNext 43 = .ok (.goto 4, 3) := by decide +kernel
theorem d_Rotations_rankByNext_46 : decode b_Rotations_rankByNext 46 = .ok (.iconst 0, 1) := by decide +kernel
theorem d_Rotations_rankByNext_47 : decode b_Rotations_rankByNext 47 = .ok (.isub, 1) := by decide +kernel
theorem d_Rotations_rankByNext_48 : decode b_Rotations_rankByNext 48 = .ok (.istore 7, 2) := by decide +kernel
theorem d_Rotations_rankByNext_50 : decode b_Rotations_rankByNext 50 = .ok (.iload 5, 2) := by decide +kernel
theorem d_Rotations_rankByNext_52 : decode b_Rotations_rankByNext 52 = .ok (.ifCond .le 40, 3) := by decide +kernel
theorem d_Rotations_rankByNext_55 : decode b_Rotations_rankByNext 55 = .ok (.aload_n 0, 1) := by decide +kernel
theorem d_Rotations_rankByNext_56 : decode b_Rotations_rankByNext 56 = .ok (.getfield 18, 3) := by decide +kernel
theorem d_Rotations_rankByNext_59 : decode b_Rotations_rankByNext 59 = .ok (.iload 6, 2) := by decide +kernel
theorem d_Rotations_rankByNext_61 : decode b_Rotations_rankByNext 61 = .ok (.iaload, 1) := by decide +kernel
theorem d_Rotations_rankByNext_62 : decode b_Rotations_rankByNext 62 = .ok (.aload_n 0, 1) := by decide +kernel
theorem d_Rotations_rankByNext_63 : decode b_Rotations_rankByNext 63 = .ok (.getfield 18, 3) := by decide +kernel
theorem d_Rotations_rankByNext_66 : decode b_Rotations_rankByNext 66 = .ok (.iload_n 3, 1) := by decide +kernel
theorem d_Rotations_rankByNext_67 : decode b_Rotations_rankByNext 67 = .ok (.iaload, 1) := by decide +kernel
theorem d_Rotations_rankByNext_68 : decode b_Rotations_rankByNext 68 = .ok (.if_icmp .ne 24, 3) := by decide +kernel
theorem d_Rotations_rankByNext_71 : decode b_Rotations_rankByNext 71 = .ok (.aload_n 0, 1) := by decide +kernel
theorem d_Rotations_rankByNext_72 : decode b_Rotations_rankByNext 72 = .ok (.getfield 18, 3) := by decide +kernel
theorem d_Rotations_rankByNext_75 : decode b_Rotations_rankByNext 75 = .ok (.iload 7, 2) := by decide +kernel
theorem d_Rotations_rankByNext_77 : decode b_Rotations_rankByNext 77 = .ok (.iaload, 1) := by decide +kernel
theorem d_Rotations_rankByNext_78 : decode b_Rotations_rankByNext 78 = .ok (.aload_n 0, 1) := by decide +kernel
theorem d_Rotations_rankByNext_79 : decode b_Rotations_rankByNext 79 = .ok (.getfield 18, 3) := by decide +kernel
theorem d_Rotations_rankByNext_82 : decode b_Rotations_rankByNext 82 = .ok (.iload 4, 2) := by decide +kernel
theorem d_Rotations_rankByNext_84 : decode b_Rotations_rankByNext 84 = .ok (.iaload, 1) := by decide +kernel
theorem d_Rotations_rankByNext_85 : decode b_Rotations_rankByNext 85 = .ok (.if_icmp .ne 7, 3) := by decide +kernel
theorem d_Rotations_rankByNext_88 : decode b_Rotations_rankByNext 88 = .ok (.iconst 1, 1) := by decide +kernel
theorem d_Rotations_rankByNext_89 : decode b_Rotations_rankByNext 89 = .ok (.goto 4, 3) := by decide +kernel
theorem d_Rotations_rankByNext_92 : decode b_Rotations_rankByNext 92 = .ok (.iconst 0, 1) := by decide +kernel
theorem d_Rotations_rankByNext_93 : decode b_Rotations_rankByNext 93 = .ok (.istore 8, 2) := by decide +kernel
theorem d_Rotations_rankByNext_95 : decode b_Rotations_rankByNext 95 = .ok (.aload_n 0, 1) := by decide +kernel
theorem d_Rotations_rankByNext_96 : decode b_Rotations_rankByNext 96 = .ok (.getfield 21, 3) := by decide +kernel
theorem d_Rotations_rankByNext_99 : decode b_Rotations_rankByNext 99 = .ok (.iload 6, 2) := by decide +kernel
theorem d_Rotations_rankByNext_101 : decode b_Rotations_rankByNext 101 = .ok (.iload 8, 2) := by decide +kernel
theorem d_Rotations_rankByNext_103 : decode b_Rotations_rankByNext 103 = .ok (.ifCond .eq 12, 3) := by decide +kernel
theorem d_Rotations_rankByNext_106 : decode b_Rotations_rankByNext 106 = .ok (.aload_n 0, 1) := by decide +kernel
theorem d_Rotations_rankByNext_107 : decode b_Rotations_rankByNext 107 = .ok (.getfield 21, 3) := by decide +kernel
theorem d_Rotations_rankByNext_110 : decode b_Rotations_rankByNext 110 = .ok (.iload_n 3, 1) := by decide +kernel
theorem d_Rotations_rankByNext_111 : decode b_Rotations_rankByNext 111 = .ok (.iaload, 1) := by decide +kernel
theorem d_Rotations_rankByNext_112 : decode b_Rotations_rankByNext 112 = .ok (.goto 5, 3) := by decide +kernel
theorem d_Rotations_rankByNext_115 : decode b_Rotations_rankByNext 115 = .ok (.iload 5, 2) := by decide +kernel
theorem d_Rotations_rankByNext_117 : decode b_Rotations_rankByNext 117 = .ok (.iastore, 1) := by decide +kernel
theorem d_Rotations_rankByNext_118 : decode b_Rotations_rankByNext 118 = .ok (.aload_n 0, 1) := by decide +kernel
theorem d_Rotations_rankByNext_119 : decode b_Rotations_rankByNext 119 = .ok (.dup, 1) := by decide +kernel
theorem d_Rotations_rankByNext_120 : decode b_Rotations_rankByNext 120 = .ok (.getfield 27, 3) := by decide +kernel
theorem d_Rotations_rankByNext_123 : decode b_Rotations_rankByNext 123 = .ok (.iload 8, 2) := by decide +kernel
theorem d_Rotations_rankByNext_125 : decode b_Rotations_rankByNext 125 = .ok (.ifCond .eq 7, 3) := by decide +kernel
theorem d_Rotations_rankByNext_128 : decode b_Rotations_rankByNext 128 = .ok (.iconst 0, 1) := by decide +kernel
theorem d_Rotations_rankByNext_129 : decode b_Rotations_rankByNext 129 = .ok (.goto 4, 3) := by decide +kernel
theorem d_Rotations_rankByNext_132 : decode b_Rotations_rankByNext 132 = .ok (.iconst 1, 1) := by decide +kernel
theorem d_Rotations_rankByNext_133 : decode b_Rotations_rankByNext 133 = .ok (.iadd, 1) := by decide +kernel
theorem d_Rotations_rankByNext_134 : decode b_Rotations_rankByNext 134 = .ok (.putfield 27, 3) := by decide +kernel
theorem d_Rotations_rankByNext_137 : decode b_Rotations_rankByNext 137 = .ok (.iload 6, 2) := by decide +kernel
theorem d_Rotations_rankByNext_139 : decode b_Rotations_rankByNext 139 = .ok (.istore_n 3, 1) := by decide +kernel
theorem d_Rotations_rankByNext_140 : decode b_Rotations_rankByNext 140 = .ok (.iload 7, 2) := by decide +kernel
theorem d_Rotations_rankByNext_142 : decode b_Rotations_rankByNext 142 = .ok (.istore 4, 2) := by decide +kernel
theorem d_Rotations_rankByNext_144 : decode b_Rotations_rankByNext 144 = .ok (.iinc 5 1, 3) := by decide +kernel
theorem d_Rotations_rankByNext_147 : decode b_Rotations_rankByNext 147 = .ok (.goto (-134), 3) := by decide +kernel
theorem d_Rotations_rankByNext_150 : decode b_Rotations_rankByNext 150 = .ok (.aload_n 0, 1) := by decide +kernel
theorem d_Rotations_rankByNext_151 : decode b_Rotations_rankByNext 151 = .ok (.getfield 18, 3) := by decide +kernel
theorem d_Rotations_rankByNext_154 : decode b_Rotations_rankByNext 154 = .ok (.astore 5, 2) := by decide +kernel
theorem d_Rotations_rankByNext_156 : decode b_Rotations_rankByNext 156 = .ok (.aload_n 0, 1) := by decide +kernel
theorem d_Rotations_rankByNext_157 : decode b_Rotations_rankByNext 157 = .ok (.aload_n 0, 1) := by decide +kernel
theorem d_Rotations_rankByNext_158 : decode b_Rotations_rankByNext 158 = .ok (.getfield 21, 3) := by decide +kernel
theorem d_Rotations_rankByNext_161 : decode b_Rotations_rankByNext 161 = .ok (.putfield 18, 3) := by decide +kernel
theorem d_Rotations_rankByNext_164 : decode b_Rotations_rankByNext 164 = .ok (.aload_n 0, 1) := by decide +kernel
theorem d_Rotations_rankByNext_165 : decode b_Rotations_rankByNext 165 = .ok (.aload 5, 2) := by decide +kernel
theorem d_Rotations_rankByNext_167 : decode b_Rotations_rankByNext 167 = .ok (.putfield 21, 3) := by decide +kernel
theorem d_Rotations_rankByNext_170 : decode b_Rotations_rankByNext 170 = .ok (.return_, 1) := by decide +kernel
theorem k223 : (Jvm.Cond.fieldLink "RotationPress$Rotations" (21 : Nat) "RotationPress$Rotations" "rankNext" "[I") ∈ g_tbl := List.mem_filter.mpr ⟨List.mem_append_right (k2_sels lw_privs) (List.mem_append_left _ (List.mem_of_getElem? (l := tables_1_1) (i := 223) rfl)), rfl⟩
noncomputable def Rotations_rankByNext_J133 (s1 : (Int32 × Int32 × Int32 × Int32 × (Nat → Int32))) (j133_0 : Int32) (j133_1 : Int32) (j133_2 : Int32) (j133_3 : Int32) (j133_4 : (Nat → Int32)) : Option ((Int32 × Int32 × Int32 × Int32 × (Nat → Int32)) ⊕ (Int32 × (Nat → Int32))) :=
  some (Sum.inl (j133_0, j133_1, (s1.2.2.1 + (1 : Int32)), (j133_3 + j133_2), j133_4))
noncomputable def Rotations_rankByNext_J117 (s1 : (Int32 × Int32 × Int32 × Int32 × (Nat → Int32))) (j117_0 : Int32) (j117_1 : Int32) (j117_2 : Int32) (j117_3 : Int32) (j117_4 : Int32) : Option ((Int32 × Int32 × Int32 × Int32 × (Nat → Int32)) ⊕ (Int32 × (Nat → Int32))) :=
  gd (ix j117_4 2250) ((if j117_2 = 0 then Rotations_rankByNext_J133 s1 j117_0 j117_1 (1 : Int32) s1.2.2.2.1 (upd s1.2.2.2.2 j117_4.toNatClampNeg j117_3) else Rotations_rankByNext_J133 s1 j117_0 j117_1 (0 : Int32) s1.2.2.2.1 (upd s1.2.2.2.2 j117_4.toNatClampNeg j117_3)))
noncomputable def Rotations_rankByNext_J93 (s1 : (Int32 × Int32 × Int32 × Int32 × (Nat → Int32))) (j93_0 : Int32) (j93_1 : Int32) (j93_2 : Int32) : Option ((Int32 × Int32 × Int32 × Int32 × (Nat → Int32)) ⊕ (Int32 × (Nat → Int32))) :=
  (if j93_2 = 0 then Rotations_rankByNext_J117 s1 j93_0 j93_1 j93_2 s1.2.2.1 j93_0 else gd (ix s1.1 2250) (Rotations_rankByNext_J117 s1 j93_0 j93_1 j93_2 (s1.2.2.2.2 s1.1.toNatClampNeg) j93_0))
noncomputable def Rotations_rankByNext_J92 (s1 : (Int32 × Int32 × Int32 × Int32 × (Nat → Int32))) (j92_0 : Int32) (j92_1 : Int32) : Option ((Int32 × Int32 × Int32 × Int32 × (Nat → Int32)) ⊕ (Int32 × (Nat → Int32))) :=
  Rotations_rankByNext_J93 s1 j92_0 j92_1 (0 : Int32)
noncomputable def Rotations_rankByNext_J47 (s1 : (Int32 × Int32 × Int32 × Int32 × (Nat → Int32))) (f_a0_rank : (Nat → Int32)) (j47_0 : Int32) (j47_1 : Int32) (j47_2 : Int32) : Option ((Int32 × Int32 × Int32 × Int32 × (Nat → Int32)) ⊕ (Int32 × (Nat → Int32))) :=
  (if s1.2.2.1 ≤ 0 then Rotations_rankByNext_J92 s1 j47_0 (j47_2 - j47_1) else gd (ix j47_0 2250) (gd (ix s1.1 2250) ((if (f_a0_rank j47_0.toNatClampNeg) = (f_a0_rank s1.1.toNatClampNeg) then gd (ix (j47_2 - j47_1) 2250) (gd (ix s1.2.1 2250) ((if (f_a0_rank (j47_2 - j47_1).toNatClampNeg) = (f_a0_rank s1.2.1.toNatClampNeg) then Rotations_rankByNext_J93 s1 j47_0 (j47_2 - j47_1) (1 : Int32) else Rotations_rankByNext_J92 s1 j47_0 (j47_2 - j47_1)))) else Rotations_rankByNext_J92 s1 j47_0 (j47_2 - j47_1)))))
noncomputable def Rotations_rankByNext_L13 (p1 : Int32) (f_a0_order : (Nat → Int32)) (p2 : Int32) (f_a0_rank : (Nat → Int32)) (s1 : (Int32 × Int32 × Int32 × Int32 × (Nat → Int32))) : Option ((Int32 × Int32 × Int32 × Int32 × (Nat → Int32)) ⊕ (Int32 × (Nat → Int32))) :=
  (if p1 ≤ s1.2.2.1 then some (Sum.inr (s1.2.2.2.1, s1.2.2.2.2)) else gd (ix s1.2.2.1 2250) ((if ((f_a0_order s1.2.2.1.toNatClampNeg) + p2) < p1 then Rotations_rankByNext_J47 s1 f_a0_rank (f_a0_order s1.2.2.1.toNatClampNeg) (0 : Int32) ((f_a0_order s1.2.2.1.toNatClampNeg) + p2) else Rotations_rankByNext_J47 s1 f_a0_rank (f_a0_order s1.2.2.1.toNatClampNeg) p1 ((f_a0_order s1.2.2.1.toNatClampNeg) + p2))))
noncomputable def Rotations_rankByNext_f (p1 : Int32) (f_a0_order : (Nat → Int32)) (p2 : Int32) (f_a0_rank : (Nat → Int32)) (f_a0_rankNext : (Nat → Int32)) : Option (Int32 × (Nat → Int32) × (Nat → Int32)) :=
  bd (lpF (Rotations_rankByNext_L13 p1 f_a0_order p2 f_a0_rank) gas ((0 : Int32), (0 : Int32), (0 : Int32), (0 : Int32), f_a0_rankNext)) (fun v3 => some (v3.1, f_a0_rank, v3.2))
set_option maxRecDepth 100000 in
set_option maxHeartbeats 4000000 in
theorem m_Rotations_rankByNext {C : gT} (hC : gOk C b_Rotations_rankByNext R_Rotations { frames := 0, cells := 0, slots := 0, locals := 0 } 9) (q_a0 : Nat) (q_a0_order : Nat) (r_a0_orderNext : Nat) (q_a0_rank : Nat) (q_a0_rankNext : Nat) (r_a0_slots : Nat) (x_a0_ranks : Int32) (f_a0_order : (Nat → Int32)) (f_a0_rank : (Nat → Int32)) (f_a0_rankNext : (Nat → Int32)) (p1 : Int32) (p2 : Int32) (out : (Int32 × (Nat → Int32) × (Nat → Int32))) (hf : Rotations_rankByNext_f p1 f_a0_order p2 f_a0_rank f_a0_rankNext = some out) (kr : ∀ (x : (Nat × Nat)) (o9 : (Int32 × (Nat → Int32) × (Nat → Int32))) (pc : Nat) (lv : List (Nat × Value)), o9 = out → decode b_Rotations_rankByNext pc = .ok (.return_, 1) → gAt C 0 0 [(q_a0, .inr (10, [.ref q_a0_order, .ref r_a0_orderNext, .ref x.1, .ref x.2, .ref r_a0_slots, .int o9.1])), (q_a0_order, .inl (g_K C 0, 2250, .inl f_a0_order)), (x.1, .inl (g_K C 0, 2250, .inl o9.2.2)), (x.2, .inl (g_K C 0, 2250, .inl o9.2.1))] lv pc []) : gAt C 0 0 [(q_a0, .inr (10, [.ref q_a0_order, .ref r_a0_orderNext, .ref q_a0_rank, .ref q_a0_rankNext, .ref r_a0_slots, .int x_a0_ranks])), (q_a0_order, .inl (g_K C 0, 2250, .inl f_a0_order)), (q_a0_rank, .inl (g_K C 0, 2250, .inl f_a0_rank)), (q_a0_rankNext, .inl (g_K C 0, 2250, .inl f_a0_rankNext))] [(0, .ref q_a0), (1, .int p1), (2, .int p2)] 0 [] := by
  unfold Rotations_rankByNext_f at hf
  refine g_aload_n 0 hC (j := 0) (hj := rfl) (hd := d_Rotations_rankByNext_0) ?_
  refine g_iconst 1 hC (0 : Int32) (by decide) d_Rotations_rankByNext_1 ?_
  refine g_put 2 hC i_Rotations rfl 0 rfl 5 (by decide) t_Rotations tk_Rotations n_Rotations k225 rfl rfl rfl (Nat.le_of_ble_eq_true rfl) [(q_a0, .inr (10, [.ref q_a0_order, .ref r_a0_orderNext, .ref q_a0_rank, .ref q_a0_rankNext, .ref r_a0_slots, .int (0 : Int32)])), (q_a0_order, .inl (g_K C 0, 2250, .inl f_a0_order)), (q_a0_rank, .inl (g_K C 0, 2250, .inl f_a0_rank)), (q_a0_rankNext, .inl (g_K C 0, 2250, .inl f_a0_rankNext))] rfl d_Rotations_rankByNext_2 ?_
  refine g_iconst 5 hC (0 : Int32) (by decide) d_Rotations_rankByNext_5 ?_
  refine g_istore_n 6 hC (lv2 := [(3, .int (0 : Int32)), (0, .ref q_a0), (1, .int p1), (2, .int p2)]) (hn := (by decide)) (hl2 := rfl) (hd := d_Rotations_rankByNext_6) ?_
  refine g_iconst 7 hC (0 : Int32) (by decide) d_Rotations_rankByNext_7 ?_
  refine g_istore 8 hC (lv2 := [(4, .int (0 : Int32)), (3, .int (0 : Int32)), (0, .ref q_a0), (1, .int p1), (2, .int p2)]) (hn := (by decide)) (hl2 := rfl) (hd := d_Rotations_rankByNext_8) ?_
  refine g_iconst 10 hC (0 : Int32) (by decide) d_Rotations_rankByNext_10 ?_
  refine g_istore 11 hC (lv2 := [(5, .int (0 : Int32)), (4, .int (0 : Int32)), (3, .int (0 : Int32)), (0, .ref q_a0), (1, .int p1), (2, .int p2)]) (hn := (by decide)) (hl2 := rfl) (hd := d_Rotations_rankByNext_11) ?_
  obtain ⟨u2, hu2, hf⟩ := bd_some hf
  have Xu2_0 : ∀ (v3 : (Int32 × (Nat → Int32))), v3 = u2 → gAt C 0 0 [(q_a0, .inr (10, [.ref q_a0_order, .ref r_a0_orderNext, .ref q_a0_rank, .ref q_a0_rankNext, .ref r_a0_slots, .int v3.1])), (q_a0_order, .inl (g_K C 0, 2250, .inl f_a0_order)), (q_a0_rank, .inl (g_K C 0, 2250, .inl f_a0_rank)), (q_a0_rankNext, .inl (g_K C 0, 2250, .inl v3.2))] [(0, .ref q_a0)] 150 [] := by
    intro v3 hv
    rw [← hv] at hf
    refine g_aload_n 150 hC (j := 0) (hj := rfl) (hd := d_Rotations_rankByNext_150) ?_
    refine g_get 151 hC i_Rotations rfl 0 rfl 2 (by decide) k222 rfl d_Rotations_rankByNext_151 ?_
    refine g_astore 154 hC (lv2 := [(5, .ref q_a0_rank), (0, .ref q_a0)]) (hn := (by decide)) (hl2 := rfl) (hd := d_Rotations_rankByNext_154) ?_
    refine g_aload_n 156 hC (j := 1) (hj := rfl) (hd := d_Rotations_rankByNext_156) ?_
    refine g_aload_n 157 hC (j := 1) (hj := rfl) (hd := d_Rotations_rankByNext_157) ?_
    refine g_get 158 hC i_Rotations rfl 0 rfl 3 (by decide) k223 rfl d_Rotations_rankByNext_158 ?_
    refine g_put 161 hC i_Rotations rfl 0 rfl 2 (by decide) t_Rotations tk_Rotations n_Rotations k222 rfl rfl rfl (Nat.le_of_ble_eq_true rfl) [(q_a0, .inr (10, [.ref q_a0_order, .ref r_a0_orderNext, .ref q_a0_rankNext, .ref q_a0_rankNext, .ref r_a0_slots, .int v3.1])), (q_a0_order, .inl (g_K C 0, 2250, .inl f_a0_order)), (q_a0_rank, .inl (g_K C 0, 2250, .inl f_a0_rank)), (q_a0_rankNext, .inl (g_K C 0, 2250, .inl v3.2))] rfl d_Rotations_rankByNext_161 ?_
    refine g_aload_n 164 hC (j := 1) (hj := rfl) (hd := d_Rotations_rankByNext_164) ?_
    refine g_aload 165 hC (j := 0) (hj := rfl) (hd := d_Rotations_rankByNext_165) ?_
    refine g_put 167 hC i_Rotations rfl 0 rfl 3 (by decide) t_Rotations tk_Rotations n_Rotations k223 rfl rfl rfl (Nat.le_of_ble_eq_true rfl) [(q_a0, .inr (10, [.ref q_a0_order, .ref r_a0_orderNext, .ref q_a0_rankNext, .ref q_a0_rank, .ref r_a0_slots, .int v3.1])), (q_a0_order, .inl (g_K C 0, 2250, .inl f_a0_order)), (q_a0_rank, .inl (g_K C 0, 2250, .inl f_a0_rank)), (q_a0_rankNext, .inl (g_K C 0, 2250, .inl v3.2))] rfl d_Rotations_rankByNext_167 ?_
    exact g_re [0, 1, 3, 2] [] rfl rfl rfl (kr (q_a0_rankNext, q_a0_rank) (v3.1, f_a0_rank, v3.2) 170 [] (Option.some.inj hf) d_Rotations_rankByNext_170)
  have Gu2 := lp_ind (b := (Rotations_rankByNext_L13 p1 f_a0_order p2 f_a0_rank)) (G := fun (s1 : (Int32 × Int32 × Int32 × Int32 × (Nat → Int32))) => gAt C 0 0 [(q_a0, .inr (10, [.ref q_a0_order, .ref r_a0_orderNext, .ref q_a0_rank, .ref q_a0_rankNext, .ref r_a0_slots, .int s1.2.2.2.1])), (q_a0_order, .inl (g_K C 0, 2250, .inl f_a0_order)), (q_a0_rank, .inl (g_K C 0, 2250, .inl f_a0_rank)), (q_a0_rankNext, .inl (g_K C 0, 2250, .inl s1.2.2.2.2))] [(0, .ref q_a0), (1, .int p1), (2, .int p2), (3, .int s1.1), (4, .int s1.2.1), (5, .int s1.2.2.1)] 13 []) (o := u2) (by
      intro s1 u4 hf hI hX
      unfold Rotations_rankByNext_L13 at hf
      have J133 : ∀ (j133_0 : Int32) (j133_1 : Int32) (j133_2 : Int32) (j133_3 : Int32) (j133_4 : (Nat → Int32)), Rotations_rankByNext_J133 s1 j133_0 j133_1 j133_2 j133_3 j133_4 = some u4 → gAt C 0 0 [(q_a0, .inr (10, [.ref q_a0_order, .ref r_a0_orderNext, .ref q_a0_rank, .ref q_a0_rankNext, .ref r_a0_slots, .int s1.2.2.2.1])), (q_a0_order, .inl (g_K C 0, 2250, .inl f_a0_order)), (q_a0_rank, .inl (g_K C 0, 2250, .inl f_a0_rank)), (q_a0_rankNext, .inl (g_K C 0, 2250, .inl j133_4))] [(0, .ref q_a0), (1, .int p1), (2, .int p2), (5, .int s1.2.2.1), (6, .int j133_0), (7, .int j133_1)] 133 [.int j133_2, .int j133_3, .ref q_a0] := by
        intro j133_0 j133_1 j133_2 j133_3 j133_4 hf
        unfold Rotations_rankByNext_J133 at hf
        refine g_iadd 133 hC d_Rotations_rankByNext_133 ?_
        refine g_put 134 hC i_Rotations rfl 0 rfl 5 (by decide) t_Rotations tk_Rotations n_Rotations k225 rfl rfl rfl (Nat.le_of_ble_eq_true rfl) [(q_a0, .inr (10, [.ref q_a0_order, .ref r_a0_orderNext, .ref q_a0_rank, .ref q_a0_rankNext, .ref r_a0_slots, .int (j133_3 + j133_2)])), (q_a0_order, .inl (g_K C 0, 2250, .inl f_a0_order)), (q_a0_rank, .inl (g_K C 0, 2250, .inl f_a0_rank)), (q_a0_rankNext, .inl (g_K C 0, 2250, .inl j133_4))] rfl d_Rotations_rankByNext_134 ?_
        refine g_iload 137 hC (j := 4) (hj := rfl) (hd := d_Rotations_rankByNext_137) ?_
        refine g_istore_n 139 hC (lv2 := [(3, .int j133_0), (0, .ref q_a0), (1, .int p1), (2, .int p2), (5, .int s1.2.2.1), (6, .int j133_0), (7, .int j133_1)]) (hn := (by decide)) (hl2 := rfl) (hd := d_Rotations_rankByNext_139) ?_
        refine g_iload 140 hC (j := 6) (hj := rfl) (hd := d_Rotations_rankByNext_140) ?_
        refine g_istore 142 hC (lv2 := [(4, .int j133_1), (3, .int j133_0), (0, .ref q_a0), (1, .int p1), (2, .int p2), (5, .int s1.2.2.1), (6, .int j133_0), (7, .int j133_1)]) (hn := (by decide)) (hl2 := rfl) (hd := d_Rotations_rankByNext_142) ?_
        refine g_iinc 144 hC 5 (1 : Int32) [(5, .int (s1.2.2.1 + (1 : Int32))), (4, .int j133_1), (3, .int j133_0), (0, .ref q_a0), (1, .int p1), (2, .int p2), (6, .int j133_0), (7, .int j133_1)] rfl (by decide) (by decide) rfl d_Rotations_rankByNext_144 ?_
        refine g_goto 147 hC 13 (by decide) d_Rotations_rankByNext_147 ?_
        exact g_re [0, 1, 2, 3] [3, 4, 5, 2, 1, 0] rfl rfl rfl (hI (j133_0, j133_1, (s1.2.2.1 + (1 : Int32)), (j133_3 + j133_2), j133_4) hf)
      have J117 : ∀ (j117_0 : Int32) (j117_1 : Int32) (j117_2 : Int32) (j117_3 : Int32) (j117_4 : Int32), Rotations_rankByNext_J117 s1 j117_0 j117_1 j117_2 j117_3 j117_4 = some u4 → gAt C 0 0 [(q_a0, .inr (10, [.ref q_a0_order, .ref r_a0_orderNext, .ref q_a0_rank, .ref q_a0_rankNext, .ref r_a0_slots, .int s1.2.2.2.1])), (q_a0_order, .inl (g_K C 0, 2250, .inl f_a0_order)), (q_a0_rank, .inl (g_K C 0, 2250, .inl f_a0_rank)), (q_a0_rankNext, .inl (g_K C 0, 2250, .inl s1.2.2.2.2))] [(0, .ref q_a0), (1, .int p1), (2, .int p2), (5, .int s1.2.2.1), (6, .int j117_0), (7, .int j117_1), (8, .int j117_2)] 117 [.int j117_3, .int j117_4, .ref q_a0_rankNext] := by
        intro j117_0 j117_1 j117_2 j117_3 j117_4 hf
        unfold Rotations_rankByNext_J117 at hf
        obtain ⟨e5, hf⟩ := gd_some hf
        refine g_iast 117 hC 3 rfl e5 [(q_a0, .inr (10, [.ref q_a0_order, .ref r_a0_orderNext, .ref q_a0_rank, .ref q_a0_rankNext, .ref r_a0_slots, .int s1.2.2.2.1])), (q_a0_order, .inl (g_K C 0, 2250, .inl f_a0_order)), (q_a0_rank, .inl (g_K C 0, 2250, .inl f_a0_rank)), (q_a0_rankNext, .inl (g_K C 0, 2250, .inl (upd s1.2.2.2.2 j117_4.toNatClampNeg j117_3)))] rfl d_Rotations_rankByNext_117 ?_
        refine g_aload_n 118 hC (j := 0) (hj := rfl) (hd := d_Rotations_rankByNext_118) ?_
        refine g_dup 119 hC rfl d_Rotations_rankByNext_119 ?_
        refine g_get 120 hC i_Rotations rfl 0 rfl 5 (by decide) k225 rfl d_Rotations_rankByNext_120 ?_
        refine g_iload 123 hC (j := 6) (hj := rfl) (hd := d_Rotations_rankByNext_123) ?_
        refine g_if_eq 125 hC 132 (by decide) d_Rotations_rankByNext_125 (fun c6 => ?_) (fun c6 => ?_)
        · have hf := it_t c6 hf
          refine g_iconst 132 hC (1 : Int32) (by decide) d_Rotations_rankByNext_132 ?_
          exact g_re [0, 1, 2, 3] [0, 1, 2, 3, 4, 5] rfl rfl rfl (J133 j117_0 j117_1 (1 : Int32) s1.2.2.2.1 (upd s1.2.2.2.2 j117_4.toNatClampNeg j117_3) hf)
        · have hf := it_f c6 hf
          refine g_iconst 128 hC (0 : Int32) (by decide) d_Rotations_rankByNext_128 ?_
          refine g_goto 129 hC 133 (by decide) d_Rotations_rankByNext_129 ?_
          exact g_re [0, 1, 2, 3] [0, 1, 2, 3, 4, 5] rfl rfl rfl (J133 j117_0 j117_1 (0 : Int32) s1.2.2.2.1 (upd s1.2.2.2.2 j117_4.toNatClampNeg j117_3) hf)
      have J93 : ∀ (j93_0 : Int32) (j93_1 : Int32) (j93_2 : Int32), Rotations_rankByNext_J93 s1 j93_0 j93_1 j93_2 = some u4 → gAt C 0 0 [(q_a0, .inr (10, [.ref q_a0_order, .ref r_a0_orderNext, .ref q_a0_rank, .ref q_a0_rankNext, .ref r_a0_slots, .int s1.2.2.2.1])), (q_a0_order, .inl (g_K C 0, 2250, .inl f_a0_order)), (q_a0_rank, .inl (g_K C 0, 2250, .inl f_a0_rank)), (q_a0_rankNext, .inl (g_K C 0, 2250, .inl s1.2.2.2.2))] [(0, .ref q_a0), (1, .int p1), (2, .int p2), (3, .int s1.1), (5, .int s1.2.2.1), (6, .int j93_0), (7, .int j93_1)] 93 [.int j93_2] := by
        intro j93_0 j93_1 j93_2 hf
        unfold Rotations_rankByNext_J93 at hf
        refine g_istore 93 hC (lv2 := [(8, .int j93_2), (0, .ref q_a0), (1, .int p1), (2, .int p2), (3, .int s1.1), (5, .int s1.2.2.1), (6, .int j93_0), (7, .int j93_1)]) (hn := (by decide)) (hl2 := rfl) (hd := d_Rotations_rankByNext_93) ?_
        refine g_aload_n 95 hC (j := 1) (hj := rfl) (hd := d_Rotations_rankByNext_95) ?_
        refine g_get 96 hC i_Rotations rfl 0 rfl 3 (by decide) k223 rfl d_Rotations_rankByNext_96 ?_
        refine g_iload 99 hC (j := 6) (hj := rfl) (hd := d_Rotations_rankByNext_99) ?_
        refine g_iload 101 hC (j := 0) (hj := rfl) (hd := d_Rotations_rankByNext_101) ?_
        refine g_if_eq 103 hC 115 (by decide) d_Rotations_rankByNext_103 (fun c7 => ?_) (fun c7 => ?_)
        · have hf := it_t c7 hf
          refine g_iload 115 hC (j := 5) (hj := rfl) (hd := d_Rotations_rankByNext_115) ?_
          exact g_re [0, 1, 2, 3] [1, 2, 3, 5, 6, 7, 0] rfl rfl rfl (J117 j93_0 j93_1 j93_2 s1.2.2.1 j93_0 hf)
        · have hf := it_f c7 hf
          refine g_aload_n 106 hC (j := 1) (hj := rfl) (hd := d_Rotations_rankByNext_106) ?_
          refine g_get 107 hC i_Rotations rfl 0 rfl 3 (by decide) k223 rfl d_Rotations_rankByNext_107 ?_
          refine g_iload_n 110 hC (j := 4) (hj := rfl) (hd := d_Rotations_rankByNext_110) ?_
          obtain ⟨e8, hf⟩ := gd_some hf
          refine g_iald 111 hC 3 rfl e8 d_Rotations_rankByNext_111 ?_
          refine g_goto 112 hC 117 (by decide) d_Rotations_rankByNext_112 ?_
          exact g_re [0, 1, 2, 3] [1, 2, 3, 5, 6, 7, 0] rfl rfl rfl (J117 j93_0 j93_1 j93_2 (s1.2.2.2.2 s1.1.toNatClampNeg) j93_0 hf)
      have J92 : ∀ (j92_0 : Int32) (j92_1 : Int32), Rotations_rankByNext_J92 s1 j92_0 j92_1 = some u4 → gAt C 0 0 [(q_a0, .inr (10, [.ref q_a0_order, .ref r_a0_orderNext, .ref q_a0_rank, .ref q_a0_rankNext, .ref r_a0_slots, .int s1.2.2.2.1])), (q_a0_order, .inl (g_K C 0, 2250, .inl f_a0_order)), (q_a0_rank, .inl (g_K C 0, 2250, .inl f_a0_rank)), (q_a0_rankNext, .inl (g_K C 0, 2250, .inl s1.2.2.2.2))] [(0, .ref q_a0), (1, .int p1), (2, .int p2), (3, .int s1.1), (5, .int s1.2.2.1), (6, .int j92_0), (7, .int j92_1)] 92 [] := by
        intro j92_0 j92_1 hf
        unfold Rotations_rankByNext_J92 at hf
        refine g_iconst 92 hC (0 : Int32) (by decide) d_Rotations_rankByNext_92 ?_
        exact J93 j92_0 j92_1 (0 : Int32) hf
      have J47 : ∀ (j47_0 : Int32) (j47_1 : Int32) (j47_2 : Int32), Rotations_rankByNext_J47 s1 f_a0_rank j47_0 j47_1 j47_2 = some u4 → gAt C 0 0 [(q_a0, .inr (10, [.ref q_a0_order, .ref r_a0_orderNext, .ref q_a0_rank, .ref q_a0_rankNext, .ref r_a0_slots, .int s1.2.2.2.1])), (q_a0_order, .inl (g_K C 0, 2250, .inl f_a0_order)), (q_a0_rank, .inl (g_K C 0, 2250, .inl f_a0_rank)), (q_a0_rankNext, .inl (g_K C 0, 2250, .inl s1.2.2.2.2))] [(0, .ref q_a0), (1, .int p1), (2, .int p2), (3, .int s1.1), (4, .int s1.2.1), (5, .int s1.2.2.1), (6, .int j47_0)] 47 [.int j47_1, .int j47_2] := by
        intro j47_0 j47_1 j47_2 hf
        unfold Rotations_rankByNext_J47 at hf
        refine g_isub 47 hC d_Rotations_rankByNext_47 ?_
        refine g_istore 48 hC (lv2 := [(7, .int (j47_2 - j47_1)), (0, .ref q_a0), (1, .int p1), (2, .int p2), (3, .int s1.1), (4, .int s1.2.1), (5, .int s1.2.2.1), (6, .int j47_0)]) (hn := (by decide)) (hl2 := rfl) (hd := d_Rotations_rankByNext_48) ?_
        refine g_iload 50 hC (j := 6) (hj := rfl) (hd := d_Rotations_rankByNext_50) ?_
        refine g_if_le 52 hC 92 (by decide) d_Rotations_rankByNext_52 (fun c9 => ?_) (fun c9 => ?_)
        · have hf := it_t c9 hf
          exact g_re [0, 1, 2, 3] [1, 2, 3, 4, 6, 7, 0] rfl rfl rfl (J92 j47_0 (j47_2 - j47_1) hf)
        · have hf := it_f c9 hf
          refine g_aload_n 55 hC (j := 1) (hj := rfl) (hd := d_Rotations_rankByNext_55) ?_
          refine g_get 56 hC i_Rotations rfl 0 rfl 2 (by decide) k222 rfl d_Rotations_rankByNext_56 ?_
          refine g_iload 59 hC (j := 7) (hj := rfl) (hd := d_Rotations_rankByNext_59) ?_
          obtain ⟨e10, hf⟩ := gd_some hf
          refine g_iald 61 hC 2 rfl e10 d_Rotations_rankByNext_61 ?_
          refine g_aload_n 62 hC (j := 1) (hj := rfl) (hd := d_Rotations_rankByNext_62) ?_
          refine g_get 63 hC i_Rotations rfl 0 rfl 2 (by decide) k222 rfl d_Rotations_rankByNext_63 ?_
          refine g_iload_n 66 hC (j := 4) (hj := rfl) (hd := d_Rotations_rankByNext_66) ?_
          obtain ⟨e11, hf⟩ := gd_some hf
          refine g_iald 67 hC 2 rfl e11 d_Rotations_rankByNext_67 ?_
          refine g_icmp_ne 68 hC 92 (by decide) d_Rotations_rankByNext_68 (fun c12 => ?_) (fun c12 => ?_)
          · have hf := it_f c12 hf
            exact g_re [0, 1, 2, 3] [1, 2, 3, 4, 6, 7, 0] rfl rfl rfl (J92 j47_0 (j47_2 - j47_1) hf)
          · have hf := it_t c12 hf
            refine g_aload_n 71 hC (j := 1) (hj := rfl) (hd := d_Rotations_rankByNext_71) ?_
            refine g_get 72 hC i_Rotations rfl 0 rfl 2 (by decide) k222 rfl d_Rotations_rankByNext_72 ?_
            refine g_iload 75 hC (j := 0) (hj := rfl) (hd := d_Rotations_rankByNext_75) ?_
            obtain ⟨e13, hf⟩ := gd_some hf
            refine g_iald 77 hC 2 rfl e13 d_Rotations_rankByNext_77 ?_
            refine g_aload_n 78 hC (j := 1) (hj := rfl) (hd := d_Rotations_rankByNext_78) ?_
            refine g_get 79 hC i_Rotations rfl 0 rfl 2 (by decide) k222 rfl d_Rotations_rankByNext_79 ?_
            refine g_iload 82 hC (j := 5) (hj := rfl) (hd := d_Rotations_rankByNext_82) ?_
            obtain ⟨e14, hf⟩ := gd_some hf
            refine g_iald 84 hC 2 rfl e14 d_Rotations_rankByNext_84 ?_
            refine g_icmp_ne 85 hC 92 (by decide) d_Rotations_rankByNext_85 (fun c15 => ?_) (fun c15 => ?_)
            · have hf := it_f c15 hf
              exact g_re [0, 1, 2, 3] [1, 2, 3, 4, 6, 7, 0] rfl rfl rfl (J92 j47_0 (j47_2 - j47_1) hf)
            · have hf := it_t c15 hf
              refine g_iconst 88 hC (1 : Int32) (by decide) d_Rotations_rankByNext_88 ?_
              refine g_goto 89 hC 93 (by decide) d_Rotations_rankByNext_89 ?_
              exact g_re [0, 1, 2, 3] [1, 2, 3, 4, 6, 7, 0] rfl rfl rfl (J93 j47_0 (j47_2 - j47_1) (1 : Int32) hf)
      refine g_iload 13 hC (j := 5) (hj := rfl) (hd := d_Rotations_rankByNext_13) ?_
      refine g_iload_n 15 hC (j := 1) (hj := rfl) (hd := d_Rotations_rankByNext_15) ?_
      refine g_icmp_ge 16 hC 150 (by decide) d_Rotations_rankByNext_16 (fun c16 => ?_) (fun c16 => ?_)
      · have hf := it_t c16 hf
        exact g_re [0, 1, 2, 3] [0] rfl rfl rfl (Xu2_0 (s1.2.2.2.1, s1.2.2.2.2) (hX (s1.2.2.2.1, s1.2.2.2.2) hf))
      · have hf := it_f c16 hf
        refine g_aload_n 19 hC (j := 0) (hj := rfl) (hd := d_Rotations_rankByNext_19) ?_
        refine g_get 20 hC i_Rotations rfl 0 rfl 0 (by decide) k220 rfl d_Rotations_rankByNext_20 ?_
        refine g_iload 23 hC (j := 5) (hj := rfl) (hd := d_Rotations_rankByNext_23) ?_
        obtain ⟨e17, hf⟩ := gd_some hf
        refine g_iald 25 hC 1 rfl e17 d_Rotations_rankByNext_25 ?_
        refine g_istore 26 hC (lv2 := [(6, .int (f_a0_order s1.2.2.1.toNatClampNeg)), (0, .ref q_a0), (1, .int p1), (2, .int p2), (3, .int s1.1), (4, .int s1.2.1), (5, .int s1.2.2.1)]) (hn := (by decide)) (hl2 := rfl) (hd := d_Rotations_rankByNext_26) ?_
        refine g_iload 28 hC (j := 0) (hj := rfl) (hd := d_Rotations_rankByNext_28) ?_
        refine g_iload_n 30 hC (j := 3) (hj := rfl) (hd := d_Rotations_rankByNext_30) ?_
        refine g_iadd 31 hC d_Rotations_rankByNext_31 ?_
        refine g_istore 32 hC (lv2 := [(7, .int ((f_a0_order s1.2.2.1.toNatClampNeg) + p2)), (6, .int (f_a0_order s1.2.2.1.toNatClampNeg)), (0, .ref q_a0), (1, .int p1), (2, .int p2), (3, .int s1.1), (4, .int s1.2.1), (5, .int s1.2.2.1)]) (hn := (by decide)) (hl2 := rfl) (hd := d_Rotations_rankByNext_32) ?_
        refine g_iload 34 hC (j := 0) (hj := rfl) (hd := d_Rotations_rankByNext_34) ?_
        refine g_iload 36 hC (j := 0) (hj := rfl) (hd := d_Rotations_rankByNext_36) ?_
        refine g_iload_n 38 hC (j := 3) (hj := rfl) (hd := d_Rotations_rankByNext_38) ?_
        refine g_icmp_lt 39 hC 46 (by decide) d_Rotations_rankByNext_39 (fun c18 => ?_) (fun c18 => ?_)
        · have hf := it_t c18 hf
          refine g_iconst 46 hC (0 : Int32) (by decide) d_Rotations_rankByNext_46 ?_
          exact g_re [0, 1, 2, 3] [2, 3, 4, 5, 6, 7, 1] rfl rfl rfl (J47 (f_a0_order s1.2.2.1.toNatClampNeg) (0 : Int32) ((f_a0_order s1.2.2.1.toNatClampNeg) + p2) hf)
        · have hf := it_f c18 hf
          refine g_iload_n 42 hC (j := 3) (hj := rfl) (hd := d_Rotations_rankByNext_42) ?_
          refine g_goto 43 hC 47 (by decide) d_Rotations_rankByNext_43 ?_
          exact g_re [0, 1, 2, 3] [2, 3, 4, 5, 6, 7, 1] rfl rfl rfl (J47 (f_a0_order s1.2.2.1.toNatClampNeg) p1 ((f_a0_order s1.2.2.1.toNatClampNeg) + p2) hf)) gas
  exact g_re [0, 1, 2, 3] [3, 4, 5, 2, 1, 0] rfl rfl rfl (Gu2 ((0 : Int32), (0 : Int32), (0 : Int32), (0 : Int32), f_a0_rankNext) hu2)
theorem c_Rotations_rankByNext (l : Launch) (D : va_G) (K : Nat → ClassId) (q_a0 : Nat) (q_a0_order : Nat) (r_a0_orderNext : Nat) (q_a0_rank : Nat) (q_a0_rankNext : Nat) (r_a0_slots : Nat) (x_a0_ranks : Int32) (f_a0_order : (Nat → Int32)) (f_a0_rank : (Nat → Int32)) (f_a0_rankNext : (Nat → Int32)) (p1 : Int32) (p2 : Int32) (out : (Int32 × (Nat → Int32) × (Nat → Int32))) (hf : Rotations_rankByNext_f p1 f_a0_order p2 f_a0_rank f_a0_rankNext = some out) : Cv l D K y_Rotations_rankByNext (g_wd y_Rotations_rankByNext b_Rotations_rankByNext 9 none) { frames := 0, cells := 0, slots := 0, locals := 0 } [.ref q_a0, .int p1, .int p2] [(q_a0, .inr (10, [.ref q_a0_order, .ref r_a0_orderNext, .ref q_a0_rank, .ref q_a0_rankNext, .ref r_a0_slots, .int x_a0_ranks])), (q_a0_order, .inl (K 0, 2250, .inl f_a0_order)), (q_a0_rank, .inl (K 0, 2250, .inl f_a0_rank)), (q_a0_rankNext, .inl (K 0, 2250, .inl f_a0_rankNext))] (fun (x : (Nat × Nat)) => [(q_a0, .inr (10, [.ref q_a0_order, .ref r_a0_orderNext, .ref x.1, .ref x.2, .ref r_a0_slots, .int out.1])), (q_a0_order, .inl (K 0, 2250, .inl f_a0_order)), (x.1, .inl (K 0, 2250, .inl out.2.2)), (x.2, .inl (K 0, 2250, .inl out.2.1))]) := mk_v (by decide) (Nat.le_of_ble_eq_true rfl) (fun p e s m below meth c A Q hC kr => m_Rotations_rankByNext hC q_a0 q_a0_order r_a0_orderNext q_a0_rank q_a0_rankNext r_a0_slots x_a0_ranks f_a0_order f_a0_rank f_a0_rankNext p1 p2 out hf (fun x o9 pc lv ho => ho ▸ kr x pc lv))
abbrev b_Rotations_sortEqualByPlace : ByteArray := prog_11_method_8_code
def y_Rotations_sortEqualByPlace : MethodName := ⟨R_Rotations, "sortEqualByPlace", "(I)V"⟩
theorem d_Rotations_sortEqualByPlace_0 : decode b_Rotations_sortEqualByPlace 0 = .ok (.aload_n 0, 1) := by decide +kernel
theorem d_Rotations_sortEqualByPlace_1 : decode b_Rotations_sortEqualByPlace 1 = .ok (.iload_n 1, 1) := by decide +kernel
theorem d_Rotations_sortEqualByPlace_2 : decode b_Rotations_sortEqualByPlace 2 = .ok (.invokevirtual 56, 3) := by decide +kernel
theorem d_Rotations_sortEqualByPlace_5 : decode b_Rotations_sortEqualByPlace 5 = .ok (.iconst 0, 1) := by decide +kernel
theorem d_Rotations_sortEqualByPlace_6 : decode b_Rotations_sortEqualByPlace 6 = .ok (.istore_n 2, 1) := by decide +kernel
theorem d_Rotations_sortEqualByPlace_7 : decode b_Rotations_sortEqualByPlace 7 = .ok (.iload_n 2, 1) := by decide +kernel
theorem d_Rotations_sortEqualByPlace_8 : decode b_Rotations_sortEqualByPlace 8 = .ok (.iload_n 1, 1) := by decide +kernel
theorem d_Rotations_sortEqualByPlace_9 : decode b_Rotations_sortEqualByPlace 9 = .ok (.if_icmp .ge 41, 3) := by decide +kernel
theorem d_Rotations_sortEqualByPlace_12 : decode b_Rotations_sortEqualByPlace 12 = .ok (.aload_n 0, 1) := by decide +kernel
theorem d_Rotations_sortEqualByPlace_13 : decode b_Rotations_sortEqualByPlace 13 = .ok (.getfield 9, 3) := by decide +kernel
theorem d_Rotations_sortEqualByPlace_16 : decode b_Rotations_sortEqualByPlace 16 = .ok (.aload_n 0, 1) := by decide +kernel
theorem d_Rotations_sortEqualByPlace_17 : decode b_Rotations_sortEqualByPlace 17 = .ok (.getfield 24, 3) := by decide +kernel
theorem d_Rotations_sortEqualByPlace_20 : decode b_Rotations_sortEqualByPlace 20 = .ok (.aload_n 0, 1) := by decide +kernel
theorem d_Rotations_sortEqualByPlace_21 : decode b_Rotations_sortEqualByPlace 21 = .ok (.getfield 18, 3) := by decide +kernel
theorem d_Rotations_sortEqualByPlace_24 : decode b_Rotations_sortEqualByPlace 24 = .ok (.iload_n 2, 1) := by decide +kernel
theorem d_Rotations_sortEqualByPlace_25 : decode b_Rotations_sortEqualByPlace 25 = .ok (.iaload, 1) := by decide +kernel
theorem d_Rotations_sortEqualByPlace_26 : decode b_Rotations_sortEqualByPlace 26 = .ok (.iaload, 1) := by decide +kernel
theorem d_Rotations_sortEqualByPlace_27 : decode b_Rotations_sortEqualByPlace 27 = .ok (.iload_n 2, 1) := by decide +kernel
theorem d_Rotations_sortEqualByPlace_28 : decode b_Rotations_sortEqualByPlace 28 = .ok (.iastore, 1) := by decide +kernel
theorem d_Rotations_sortEqualByPlace_29 : decode b_Rotations_sortEqualByPlace 29 = .ok (.aload_n 0, 1) := by decide +kernel
theorem d_Rotations_sortEqualByPlace_30 : decode b_Rotations_sortEqualByPlace 30 = .ok (.getfield 24, 3) := by decide +kernel
theorem d_Rotations_sortEqualByPlace_33 : decode b_Rotations_sortEqualByPlace 33 = .ok (.aload_n 0, 1) := by decide +kernel
theorem d_Rotations_sortEqualByPlace_34 : decode b_Rotations_sortEqualByPlace 34 = .ok (.getfield 18, 3) := by decide +kernel
theorem d_Rotations_sortEqualByPlace_37 : decode b_Rotations_sortEqualByPlace 37 = .ok (.iload_n 2, 1) := by decide +kernel
theorem d_Rotations_sortEqualByPlace_38 : decode b_Rotations_sortEqualByPlace 38 = .ok (.iaload, 1) := by decide +kernel
theorem d_Rotations_sortEqualByPlace_39 : decode b_Rotations_sortEqualByPlace 39 = .ok (.dup2, 1) := by decide +kernel
theorem d_Rotations_sortEqualByPlace_40 : decode b_Rotations_sortEqualByPlace 40 = .ok (.iaload, 1) := by decide +kernel
theorem d_Rotations_sortEqualByPlace_41 : decode b_Rotations_sortEqualByPlace 41 = .ok (.iconst 1, 1) := by decide +kernel
theorem d_Rotations_sortEqualByPlace_42 : decode b_Rotations_sortEqualByPlace 42 = .ok (.iadd, 1) := by decide +kernel
theorem d_Rotations_sortEqualByPlace_43 : decode b_Rotations_sortEqualByPlace 43 = .ok (.iastore, 1) := by decide +kernel
theorem d_Rotations_sortEqualByPlace_44 : decode b_Rotations_sortEqualByPlace 44 = .ok (.iinc 2 1, 3) := by decide +kernel
theorem d_Rotations_sortEqualByPlace_47 : decode b_Rotations_sortEqualByPlace 47 = .ok (.goto (-40), 3) := by decide +kernel
theorem d_Rotations_sortEqualByPlace_50 : decode b_Rotations_sortEqualByPlace 50 = .ok (.return_, 1) := by decide +kernel
noncomputable def Rotations_sortEqualByPlace_L7 (p1 : Int32) (f_a0_rank : (Nat → Int32)) (s2 : (Int32 × (Nat → Int32) × (Nat → Int32))) : Option ((Int32 × (Nat → Int32) × (Nat → Int32)) ⊕ ((Nat → Int32) × (Nat → Int32))) :=
  (if p1 ≤ s2.1 then some (Sum.inr (s2.2.1, s2.2.2)) else gd (ix s2.1 2250) (gd (ix (f_a0_rank s2.1.toNatClampNeg) 2250) (gd (ix (s2.2.1 (f_a0_rank s2.1.toNatClampNeg).toNatClampNeg) 2250) (gd (ix s2.1 2250) (gd (ix (f_a0_rank s2.1.toNatClampNeg) 2250) (gd (ix (f_a0_rank s2.1.toNatClampNeg) 2250) (some (Sum.inl ((s2.1 + (1 : Int32)), (upd s2.2.1 (f_a0_rank s2.1.toNatClampNeg).toNatClampNeg ((s2.2.1 (f_a0_rank s2.1.toNatClampNeg).toNatClampNeg) + (1 : Int32))), (upd s2.2.2 (s2.2.1 (f_a0_rank s2.1.toNatClampNeg).toNatClampNeg).toNatClampNeg s2.1))))))))))
noncomputable def Rotations_sortEqualByPlace_f (p1 : Int32) (f_a0_slots : (Nat → Int32)) (f_a0_rank : (Nat → Int32)) (f_a0_order : (Nat → Int32)) : Option ((Nat → Int32) × (Nat → Int32)) :=
  bd (Rotations_openSlots_f p1 f_a0_slots) (fun u1 => bd (lpF (Rotations_sortEqualByPlace_L7 p1 f_a0_rank) gas ((0 : Int32), u1, f_a0_order)) (fun v4 => some (v4.1, v4.2)))
set_option maxRecDepth 100000 in
set_option maxHeartbeats 4000000 in
theorem m_Rotations_sortEqualByPlace {C : gT} (hC : gOk C b_Rotations_sortEqualByPlace R_Rotations { frames := 1, cells := 0, slots := 0, locals := 22 } 3) (q_a0 : Nat) (q_a0_order : Nat) (r_a0_orderNext : Nat) (q_a0_rank : Nat) (r_a0_rankNext : Nat) (q_a0_slots : Nat) (x_a0_ranks : Int32) (f_a0_slots : (Nat → Int32)) (f_a0_rank : (Nat → Int32)) (f_a0_order : (Nat → Int32)) (p1 : Int32) (out : ((Nat → Int32) × (Nat → Int32))) (hf : Rotations_sortEqualByPlace_f p1 f_a0_slots f_a0_rank f_a0_order = some out) (kr : ∀ (x : Unit) (o9 : ((Nat → Int32) × (Nat → Int32))) (pc : Nat) (lv : List (Nat × Value)), o9 = out → decode b_Rotations_sortEqualByPlace pc = .ok (.return_, 1) → gAt C 0 0 [(q_a0, .inr (10, [.ref q_a0_order, .ref r_a0_orderNext, .ref q_a0_rank, .ref r_a0_rankNext, .ref q_a0_slots, .int x_a0_ranks])), (q_a0_slots, .inl (g_K C 0, 2250, .inl o9.1)), (q_a0_rank, .inl (g_K C 0, 2250, .inl f_a0_rank)), (q_a0_order, .inl (g_K C 0, 2250, .inl o9.2))] lv pc []) : gAt C 0 0 [(q_a0, .inr (10, [.ref q_a0_order, .ref r_a0_orderNext, .ref q_a0_rank, .ref r_a0_rankNext, .ref q_a0_slots, .int x_a0_ranks])), (q_a0_slots, .inl (g_K C 0, 2250, .inl f_a0_slots)), (q_a0_rank, .inl (g_K C 0, 2250, .inl f_a0_rank)), (q_a0_order, .inl (g_K C 0, 2250, .inl f_a0_order))] [(0, .ref q_a0), (1, .int p1)] 0 [] := by
  unfold Rotations_sortEqualByPlace_f at hf
  refine g_aload_n 0 hC (j := 0) (hj := rfl) (hd := d_Rotations_sortEqualByPlace_0) ?_
  refine g_iload_n 1 hC (j := 1) (hj := rfl) (hd := d_Rotations_sortEqualByPlace_1) ?_
  obtain ⟨u1, hu1, hf⟩ := bd_some hf
  refine g_callVv 2 hC (c_Rotations_openSlots (g_l C) (g_D C) (g_K C) q_a0 q_a0_order r_a0_orderNext q_a0_rank r_a0_rankNext q_a0_slots x_a0_ranks f_a0_slots p1 u1 hu1) k943 k9 k940 k942 ks5 1 rfl (by decide +kernel) (by decide) [0, 1] [2, 3] [(q_a0_rank, .inl (g_K C 0, 2250, .inl f_a0_rank)), (q_a0_order, .inl (g_K C 0, 2250, .inl f_a0_order))] rfl rfl rfl rfl rfl 0 10 rfl rfl rfl rfl (Nat.le_of_ble_eq_true rfl) ⟨Nat.le_of_ble_eq_true rfl, Nat.le_of_ble_eq_true rfl⟩ (fun (_ : Unit) => [(q_a0_rank, .inl (g_K C 0, 2250, .inl f_a0_rank)), (q_a0_order, .inl (g_K C 0, 2250, .inl f_a0_order)), (q_a0, .inr (10, [.ref q_a0_order, .ref r_a0_orderNext, .ref q_a0_rank, .ref r_a0_rankNext, .ref q_a0_slots, .int x_a0_ranks])), (q_a0_slots, .inl (g_K C 0, 2250, .inl u1))]) (fun _ => rfl) d_Rotations_sortEqualByPlace_2 0 0 rfl rfl (fun _ => ?_)
  refine g_iconst 5 hC (0 : Int32) (by decide) d_Rotations_sortEqualByPlace_5 ?_
  refine g_istore_n 6 hC (lv2 := [(2, .int (0 : Int32)), (0, .ref q_a0), (1, .int p1)]) (hn := (by decide)) (hl2 := rfl) (hd := d_Rotations_sortEqualByPlace_6) ?_
  obtain ⟨u3, hu3, hf⟩ := bd_some hf
  have Xu3_0 : ∀ (v4 : ((Nat → Int32) × (Nat → Int32))), v4 = u3 → gAt C 0 0 [(q_a0, .inr (10, [.ref q_a0_order, .ref r_a0_orderNext, .ref q_a0_rank, .ref r_a0_rankNext, .ref q_a0_slots, .int x_a0_ranks])), (q_a0_slots, .inl (g_K C 0, 2250, .inl v4.1)), (q_a0_rank, .inl (g_K C 0, 2250, .inl f_a0_rank)), (q_a0_order, .inl (g_K C 0, 2250, .inl v4.2))] [] 50 [] := by
    intro v4 hv
    rw [← hv] at hf
    exact kr () (v4.1, v4.2) 50 [] (Option.some.inj hf) d_Rotations_sortEqualByPlace_50
  have Gu3 := lp_ind (b := (Rotations_sortEqualByPlace_L7 p1 f_a0_rank)) (G := fun (s2 : (Int32 × (Nat → Int32) × (Nat → Int32))) => gAt C 0 0 [(q_a0, .inr (10, [.ref q_a0_order, .ref r_a0_orderNext, .ref q_a0_rank, .ref r_a0_rankNext, .ref q_a0_slots, .int x_a0_ranks])), (q_a0_slots, .inl (g_K C 0, 2250, .inl s2.2.1)), (q_a0_rank, .inl (g_K C 0, 2250, .inl f_a0_rank)), (q_a0_order, .inl (g_K C 0, 2250, .inl s2.2.2))] [(0, .ref q_a0), (1, .int p1), (2, .int s2.1)] 7 []) (o := u3) (by
      intro s2 u5 hf hI hX
      unfold Rotations_sortEqualByPlace_L7 at hf
      refine g_iload_n 7 hC (j := 2) (hj := rfl) (hd := d_Rotations_sortEqualByPlace_7) ?_
      refine g_iload_n 8 hC (j := 1) (hj := rfl) (hd := d_Rotations_sortEqualByPlace_8) ?_
      refine g_icmp_ge 9 hC 50 (by decide) d_Rotations_sortEqualByPlace_9 (fun c6 => ?_) (fun c6 => ?_)
      · have hf := it_t c6 hf
        exact g_re [0, 1, 2, 3] [] rfl rfl rfl (Xu3_0 (s2.2.1, s2.2.2) (hX (s2.2.1, s2.2.2) hf))
      · have hf := it_f c6 hf
        refine g_aload_n 12 hC (j := 0) (hj := rfl) (hd := d_Rotations_sortEqualByPlace_12) ?_
        refine g_get 13 hC i_Rotations rfl 0 rfl 0 (by decide) k220 rfl d_Rotations_sortEqualByPlace_13 ?_
        refine g_aload_n 16 hC (j := 0) (hj := rfl) (hd := d_Rotations_sortEqualByPlace_16) ?_
        refine g_get 17 hC i_Rotations rfl 0 rfl 4 (by decide) k224 rfl d_Rotations_sortEqualByPlace_17 ?_
        refine g_aload_n 20 hC (j := 0) (hj := rfl) (hd := d_Rotations_sortEqualByPlace_20) ?_
        refine g_get 21 hC i_Rotations rfl 0 rfl 2 (by decide) k222 rfl d_Rotations_sortEqualByPlace_21 ?_
        refine g_iload_n 24 hC (j := 2) (hj := rfl) (hd := d_Rotations_sortEqualByPlace_24) ?_
        obtain ⟨e7, hf⟩ := gd_some hf
        refine g_iald 25 hC 2 rfl e7 d_Rotations_sortEqualByPlace_25 ?_
        obtain ⟨e8, hf⟩ := gd_some hf
        refine g_iald 26 hC 1 rfl e8 d_Rotations_sortEqualByPlace_26 ?_
        refine g_iload_n 27 hC (j := 2) (hj := rfl) (hd := d_Rotations_sortEqualByPlace_27) ?_
        obtain ⟨e9, hf⟩ := gd_some hf
        refine g_iast 28 hC 3 rfl e9 [(q_a0, .inr (10, [.ref q_a0_order, .ref r_a0_orderNext, .ref q_a0_rank, .ref r_a0_rankNext, .ref q_a0_slots, .int x_a0_ranks])), (q_a0_slots, .inl (g_K C 0, 2250, .inl s2.2.1)), (q_a0_rank, .inl (g_K C 0, 2250, .inl f_a0_rank)), (q_a0_order, .inl (g_K C 0, 2250, .inl (upd s2.2.2 (s2.2.1 (f_a0_rank s2.1.toNatClampNeg).toNatClampNeg).toNatClampNeg s2.1)))] rfl d_Rotations_sortEqualByPlace_28 ?_
        refine g_aload_n 29 hC (j := 0) (hj := rfl) (hd := d_Rotations_sortEqualByPlace_29) ?_
        refine g_get 30 hC i_Rotations rfl 0 rfl 4 (by decide) k224 rfl d_Rotations_sortEqualByPlace_30 ?_
        refine g_aload_n 33 hC (j := 0) (hj := rfl) (hd := d_Rotations_sortEqualByPlace_33) ?_
        refine g_get 34 hC i_Rotations rfl 0 rfl 2 (by decide) k222 rfl d_Rotations_sortEqualByPlace_34 ?_
        refine g_iload_n 37 hC (j := 2) (hj := rfl) (hd := d_Rotations_sortEqualByPlace_37) ?_
        obtain ⟨e10, hf⟩ := gd_some hf
        refine g_iald 38 hC 2 rfl e10 d_Rotations_sortEqualByPlace_38 ?_
        refine g_dup2 39 hC rfl rfl d_Rotations_sortEqualByPlace_39 ?_
        obtain ⟨e11, hf⟩ := gd_some hf
        refine g_iald 40 hC 1 rfl e11 d_Rotations_sortEqualByPlace_40 ?_
        refine g_iconst 41 hC (1 : Int32) (by decide) d_Rotations_sortEqualByPlace_41 ?_
        refine g_iadd 42 hC d_Rotations_sortEqualByPlace_42 ?_
        obtain ⟨e12, hf⟩ := gd_some hf
        refine g_iast 43 hC 1 rfl e12 [(q_a0, .inr (10, [.ref q_a0_order, .ref r_a0_orderNext, .ref q_a0_rank, .ref r_a0_rankNext, .ref q_a0_slots, .int x_a0_ranks])), (q_a0_slots, .inl (g_K C 0, 2250, .inl (upd s2.2.1 (f_a0_rank s2.1.toNatClampNeg).toNatClampNeg ((s2.2.1 (f_a0_rank s2.1.toNatClampNeg).toNatClampNeg) + (1 : Int32))))), (q_a0_rank, .inl (g_K C 0, 2250, .inl f_a0_rank)), (q_a0_order, .inl (g_K C 0, 2250, .inl (upd s2.2.2 (s2.2.1 (f_a0_rank s2.1.toNatClampNeg).toNatClampNeg).toNatClampNeg s2.1)))] rfl d_Rotations_sortEqualByPlace_43 ?_
        refine g_iinc 44 hC 2 (1 : Int32) [(2, .int (s2.1 + (1 : Int32))), (0, .ref q_a0), (1, .int p1)] rfl (by decide) (by decide) rfl d_Rotations_sortEqualByPlace_44 ?_
        refine g_goto 47 hC 7 (by decide) d_Rotations_sortEqualByPlace_47 ?_
        exact g_re [0, 1, 2, 3] [1, 2, 0] rfl rfl rfl (hI ((s2.1 + (1 : Int32)), (upd s2.2.1 (f_a0_rank s2.1.toNatClampNeg).toNatClampNeg ((s2.2.1 (f_a0_rank s2.1.toNatClampNeg).toNatClampNeg) + (1 : Int32))), (upd s2.2.2 (s2.2.1 (f_a0_rank s2.1.toNatClampNeg).toNatClampNeg).toNatClampNeg s2.1)) hf)) gas
  exact g_re [2, 3, 0, 1] [1, 2, 0] rfl rfl rfl (Gu3 ((0 : Int32), u1, f_a0_order) hu3)
theorem c_Rotations_sortEqualByPlace (l : Launch) (D : va_G) (K : Nat → ClassId) (q_a0 : Nat) (q_a0_order : Nat) (r_a0_orderNext : Nat) (q_a0_rank : Nat) (r_a0_rankNext : Nat) (q_a0_slots : Nat) (x_a0_ranks : Int32) (f_a0_slots : (Nat → Int32)) (f_a0_rank : (Nat → Int32)) (f_a0_order : (Nat → Int32)) (p1 : Int32) (out : ((Nat → Int32) × (Nat → Int32))) (hf : Rotations_sortEqualByPlace_f p1 f_a0_slots f_a0_rank f_a0_order = some out) : Cv l D K y_Rotations_sortEqualByPlace (g_wd y_Rotations_sortEqualByPlace b_Rotations_sortEqualByPlace 3 none) { frames := 1, cells := 0, slots := 0, locals := 22 } [.ref q_a0, .int p1] [(q_a0, .inr (10, [.ref q_a0_order, .ref r_a0_orderNext, .ref q_a0_rank, .ref r_a0_rankNext, .ref q_a0_slots, .int x_a0_ranks])), (q_a0_slots, .inl (K 0, 2250, .inl f_a0_slots)), (q_a0_rank, .inl (K 0, 2250, .inl f_a0_rank)), (q_a0_order, .inl (K 0, 2250, .inl f_a0_order))] (fun (x : Unit) => [(q_a0, .inr (10, [.ref q_a0_order, .ref r_a0_orderNext, .ref q_a0_rank, .ref r_a0_rankNext, .ref q_a0_slots, .int x_a0_ranks])), (q_a0_slots, .inl (K 0, 2250, .inl out.1)), (q_a0_rank, .inl (K 0, 2250, .inl f_a0_rank)), (q_a0_order, .inl (K 0, 2250, .inl out.2))]) := mk_v (by decide) (Nat.le_of_ble_eq_true rfl) (fun p e s m below meth c A Q hC kr => m_Rotations_sortEqualByPlace hC q_a0 q_a0_order r_a0_orderNext q_a0_rank r_a0_rankNext q_a0_slots x_a0_ranks f_a0_slots f_a0_rank f_a0_order p1 out hf (fun x o9 pc lv ho => ho ▸ kr x pc lv))
