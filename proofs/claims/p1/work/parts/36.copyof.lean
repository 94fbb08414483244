abbrev b_Arrays_copyOf1 : ByteArray := prog_31_method_123_code
def y_Arrays_copyOf1 : MethodName := ⟨"java/util/Arrays", "copyOf", "([II)[I"⟩
theorem d_Arrays_copyOf1_0 : decode b_Arrays_copyOf1 0 = .ok (.iload_n 1, 1) := by decide +kernel
theorem d_Arrays_copyOf1_1 : decode b_Arrays_copyOf1 1 = .ok (.aload_n 0, 1) := by decide +kernel
theorem d_Arrays_copyOf1_2 : decode b_Arrays_copyOf1 2 = .ok (.arraylength, 1) := by decide +kernel
theorem d_Arrays_copyOf1_3 : decode b_Arrays_copyOf1 3 = .ok (.if_icmp .ne 11, 3) := by decide +kernel
theorem d_Arrays_copyOf1_14 : decode b_Arrays_copyOf1 14 = .ok (.iload_n 1, 1) := by decide +kernel
theorem d_Arrays_copyOf1_15 : decode b_Arrays_copyOf1 15 = .ok (.newarray .int, 2) := by decide +kernel
theorem d_Arrays_copyOf1_17 : decode b_Arrays_copyOf1 17 = .ok (.astore_n 2, 1) := by decide +kernel
theorem d_Arrays_copyOf1_18 : decode b_Arrays_copyOf1 18 = .ok (.aload_n 0, 1) := by decide +kernel
theorem d_Arrays_copyOf1_19 : decode b_Arrays_copyOf1 19 = .ok (.iconst 0, 1) := by decide +kernel
theorem d_Arrays_copyOf1_20 : decode b_Arrays_copyOf1 20 = .ok (.aload_n 2, 1) := by decide +kernel
theorem d_Arrays_copyOf1_21 : decode b_Arrays_copyOf1 21 = .ok (.iconst 0, 1) := by decide +kernel
theorem d_Arrays_copyOf1_22 : decode b_Arrays_copyOf1 22 = .ok (.aload_n 0, 1) := by decide +kernel
theorem d_Arrays_copyOf1_23 : decode b_Arrays_copyOf1 23 = .ok (.arraylength, 1) := by decide +kernel
theorem d_Arrays_copyOf1_24 : decode b_Arrays_copyOf1 24 = .ok (.iload_n 1, 1) := by decide +kernel
theorem d_Arrays_copyOf1_25 : decode b_Arrays_copyOf1 25 = .ok (.invokestatic 304, 3) := by decide +kernel
theorem d_Arrays_copyOf1_28 : decode b_Arrays_copyOf1 28 = .ok (.invokestatic 150, 3) := by decide +kernel
theorem d_Arrays_copyOf1_31 : decode b_Arrays_copyOf1 31 = .ok (.aload_n 2, 1) := by decide +kernel
theorem d_Arrays_copyOf1_32 : decode b_Arrays_copyOf1 32 = .ok (.areturn, 1) := by decide +kernel
theorem k62 : (Jvm.Cond.arrayClass Jvm.ClassFile.FieldType.int) ∈ g_tbl := List.mem_filter.mpr ⟨List.mem_append_right (k2_sels lw_privs) (List.mem_append_left _ (List.mem_of_getElem? (l := tables_1_1) (i := 62) rfl)), rfl⟩
theorem k543 : (Jvm.Cond.methodLink "java/util/Arrays" (304 : Nat) ({ cls := "java/lang/Math", name := "min", desc := "(II)I" } : Jvm.MethodName)) ∈ g_tbl := List.mem_filter.mpr ⟨List.mem_append_right (k2_sels lw_privs) (List.mem_append_right _ (List.mem_append_right _ (List.mem_append_left _ (List.mem_of_getElem? (l := tables_1_3) (i := 63) rfl)))), rfl⟩
theorem k546 : (Jvm.Cond.methodLink "java/util/Arrays" (150 : Nat) ({ cls := "java/lang/System", name := "arraycopy", desc := "(Ljava/lang/Object;ILjava/lang/Object;II)V" } : Jvm.MethodName)) ∈ g_tbl := List.mem_filter.mpr ⟨List.mem_append_right (k2_sels lw_privs) (List.mem_append_right _ (List.mem_append_right _ (List.mem_append_left _ (List.mem_of_getElem? (l := tables_1_3) (i := 66) rfl)))), rfl⟩
set_option maxRecDepth 100000 in
set_option maxHeartbeats 4000000 in
theorem c_copyOf (l : Launch) (D : va_G) (K : Nat → ClassId) (q n : Nat) (f : Nat → Int32) (L : Int32) (hk : cok n L = true) : Cr l D K y_Arrays_copyOf1 (g_wd y_Arrays_copyOf1 b_Arrays_copyOf1 3 (some (.array .int))) { frames := 1, cells := 1, slots := L.toNatClampNeg, locals := 45 } [.ref q, .int L] [(q, .inl (K 0, n, .inl f))] (fun (q2 : Nat) => [(q, .inl (K 0, n, .inl f)), (q2, .inl (K 0, L.toNatClampNeg, .inl (va_cpy f (fun _ => 0) 0 0 n)))]) := by
  obtain ⟨h1, h2, h3, h4⟩ := cok_all hk
  refine mk_r (by decide) (Nat.le_of_ble_eq_true rfl) ?_
  intro p e s m below meth c A Q hC kr
  have hn : n < 2 ^ 31 := by omega
  have hz : jmin (Int32.ofNat n) L = nI n := by
    obtain ⟨j, hj, rfl⟩ := nI_of h1
    rw [nI_clamp hj] at h3
    show (if nI j < nI n then nI j else nI n) = nI n
    rw [if_neg (nI_nlt (by omega) hj)]
  have hz2 : (jmin (Int32.ofNat n) L).toNatClampNeg = n := by rw [hz]; exact nI_clamp hn
  have hne : ¬ L = Int32.ofNat n := by
    intro h9
    rw [h9, show (Int32.ofNat n).toNatClampNeg = n from nI_clamp hn] at h3
    omega
  refine g_iload_n 0 hC (j := 1) (hj := rfl) (hd := d_Arrays_copyOf1_0) ?_
  refine g_aload_n 1 hC (j := 0) (hj := rfl) (hd := d_Arrays_copyOf1_1) ?_
  refine g_alen 2 hC 0 rfl d_Arrays_copyOf1_2 ?_
  refine g_icmp_ne 3 hC 14 (by decide) d_Arrays_copyOf1_3 (fun _ => ?_) (fun c9 => absurd c9 hne)
  refine g_iload_n 14 hC (j := 1) (hj := rfl) (hd := d_Arrays_copyOf1_14) ?_
  refine g_newi 15 hC L.toNatClampNeg k62 h1 rfl (by omega) (Nat.le_refl _) (show 0 + L.toNatClampNeg ≤ L.toNatClampNeg by omega) d_Arrays_copyOf1_15 (fun q2 => ?_)
  refine g_astore_n 17 hC (lv2 := [(2, .ref q2), (0, .ref q), (1, .int L)]) (hn := (by decide)) (hl2 := rfl) (hd := d_Arrays_copyOf1_17) ?_
  refine g_aload_n 18 hC (j := 1) (hj := rfl) (hd := d_Arrays_copyOf1_18) ?_
  refine g_iconst 19 hC (0 : Int32) (by decide) d_Arrays_copyOf1_19 ?_
  refine g_aload_n 20 hC (j := 0) (hj := rfl) (hd := d_Arrays_copyOf1_20) ?_
  refine g_iconst 21 hC (0 : Int32) (by decide) d_Arrays_copyOf1_21 ?_
  refine g_aload_n 22 hC (j := 1) (hj := rfl) (hd := d_Arrays_copyOf1_22) ?_
  refine g_alen 23 hC 0 rfl d_Arrays_copyOf1_23 ?_
  refine g_iload_n 24 hC (j := 2) (hj := rfl) (hd := d_Arrays_copyOf1_24) ?_
  refine g_mmin 25 hC k543 k544 k3 k545 (Nat.le_refl _) (Nat.le_of_ble_eq_true rfl) (Nat.le_refl _) (show 0 + L.toNatClampNeg ≤ L.toNatClampNeg by omega) d_Arrays_copyOf1_25 ?_
  refine g_acopy 28 hC k546 k548 k547 k20 0 1 rfl rfl ?_ (Nat.le_refl _) (Nat.le_of_ble_eq_true rfl) [(q, .inl (K 0, n, .inl f)), (q2, .inl (K 0, L.toNatClampNeg, .inl (va_cpy f (fun _ => 0) 0 0 n)))] (by rw [hz2]; rfl) d_Arrays_copyOf1_28 ?_
  · simp only [cpk, hz2, Bool.and_eq_true, decide_eq_true_eq]
    refine ⟨⟨⟨⟨by decide, by decide⟩, ?_⟩, ?_⟩, ?_⟩
    · rw [hz]; exact nI_pos hn
    · show 0 + n ≤ n; omega
    · show 0 + n ≤ L.toNatClampNeg; omega
  refine g_aload_n 31 hC (j := 0) (hj := rfl) (hd := d_Arrays_copyOf1_31) ?_
  refine g_wide 1 L.toNatClampNeg (Nat.le_refl _) (show 0 + L.toNatClampNeg ≤ L.toNatClampNeg by omega) ?_
  exact g_re [0, 1] [] rfl rfl rfl (kr q2 32 [] d_Arrays_copyOf1_32)
