abbrev b_BitWriter_putUsed : ByteArray := prog_3_method_6_code
def y_BitWriter_putUsed : MethodName := ⟨R_BitWriter, "putUsed", "([I)V"⟩
theorem d_BitWriter_putUsed_0 : decode b_BitWriter_putUsed 0 = .ok (.iconst 0, 1) := by decide +kernel
theorem d_BitWriter_putUsed_1 : decode b_BitWriter_putUsed 1 = .ok (.istore_n 2, 1) := by decide +kernel
theorem d_BitWriter_putUsed_2 : decode b_BitWriter_putUsed 2 = .ok (.iconst 0, 1) := by decide +kernel
theorem d_BitWriter_putUsed_3 : decode b_BitWriter_putUsed 3 = .ok (.istore_n 3, 1) := by decide +kernel
theorem d_BitWriter_putUsed_4 : decode b_BitWriter_putUsed 4 = .ok (.iload_n 3, 1) := by decide +kernel
theorem d_BitWriter_putUsed_5 : decode b_BitWriter_putUsed 5 = .ok (.sipush 256, 3) := by decide +kernel
theorem d_BitWriter_putUsed_8 : decode b_BitWriter_putUsed 8 = .ok (.if_icmp .ge 23, 3) := by decide +kernel
theorem d_BitWriter_putUsed_11 : decode b_BitWriter_putUsed 11 = .ok (.iload_n 2, 1) := by decide +kernel
theorem d_BitWriter_putUsed_12 : decode b_BitWriter_putUsed 12 = .ok (.aload_n 1, 1) := by decide +kernel
theorem d_BitWriter_putUsed_13 : decode b_BitWriter_putUsed 13 = .ok (.iload_n 3, 1) := by decide +kernel
theorem d_BitWriter_putUsed_14 : decode b_BitWriter_putUsed 14 = .ok (.iaload, 1) := by decide +kernel
theorem d_BitWriter_putUsed_15 : decode b_BitWriter_putUsed 15 = .ok (.bipush 15, 2) := by decide +kernel
theorem d_BitWriter_putUsed_17 : decode b_BitWriter_putUsed 17 = .ok (.iload_n 3, 1) := by decide +kernel
theorem d_BitWriter_putUsed_18 : decode b_BitWriter_putUsed 18 = .ok (.bipush 16, 2) := by decide +kernel
theorem d_BitWriter_putUsed_20 : decode b_BitWriter_putUsed 20 = .ok (.idiv, 1) := by decide +kernel
theorem d_BitWriter_putUsed_21 : decode b_BitWriter_putUsed 21 = .ok (.isub, 1) := by decide +kernel
theorem d_BitWriter_putUsed_22 : decode b_BitWriter_putUsed 22 = .ok (.ishl, 1) := by decide +kernel
theorem d_BitWriter_putUsed_23 : decode b_BitWriter_putUsed 23 = .ok (.ior, 1) := by decide +kernel
theorem d_BitWriter_putUsed_24 : decode b_BitWriter_putUsed 24 = .ok (.istore_n 2, 1) := by decide +kernel
theorem d_BitWriter_putUsed_25 : decode b_BitWriter_putUsed 25 = .ok (.iinc 3 1, 3) := by decide +kernel
theorem d_BitWriter_putUsed_28 : decode b_BitWriter_putUsed 28 = .ok (.goto (-24), 3) := by decide +kernel
theorem d_BitWriter_putUsed_31 : decode b_BitWriter_putUsed 31 = .ok (.aload_n 0, 1) := by decide +kernel
theorem d_BitWriter_putUsed_32 : decode b_BitWriter_putUsed 32 = .ok (.iload_n 2, 1) := by decide +kernel
theorem d_BitWriter_putUsed_33 : decode b_BitWriter_putUsed 33 = .ok (.bipush 16, 2) := by decide +kernel
theorem d_BitWriter_putUsed_35 : decode b_BitWriter_putUsed 35 = .ok (.invokevirtual 38, 3) := by decide +kernel
theorem d_BitWriter_putUsed_38 : decode b_BitWriter_putUsed 38 = .ok (.iconst 0, 1) := by decide +kernel
theorem d_BitWriter_putUsed_39 : decode b_BitWriter_putUsed 39 = .ok (.istore_n 3, 1) := by decide +kernel
theorem d_BitWriter_putUsed_40 : decode b_BitWriter_putUsed 40 = .ok (.iload_n 3, 1) := by decide +kernel
theorem d_BitWriter_putUsed_41 : decode b_BitWriter_putUsed 41 = .ok (.sipush 256, 3) := by decide +kernel
theorem d_BitWriter_putUsed_44 : decode b_BitWriter_putUsed 44 = .ok (.if_icmp .ge 32, 3) := by decide +kernel
theorem d_BitWriter_putUsed_47 : decode b_BitWriter_putUsed 47 = .ok (.iload_n 2, 1) := by decide +kernel
theorem d_BitWriter_putUsed_48 : decode b_BitWriter_putUsed 48 = .ok (.bipush 15, 2) := by decide +kernel
theorem d_BitWriter_putUsed_50 : decode b_BitWriter_putUsed 50 = .ok (.iload_n 3, 1) := by decide +kernel
theorem d_BitWriter_putUsed_51 : decode b_BitWriter_putUsed 51 = .ok (.bipush 16, 2) := by decide +kernel
theorem d_BitWriter_putUsed_53 : decode b_BitWriter_putUsed 53 = .ok (.idiv, 1) := by decide +kernel
theorem d_BitWriter_putUsed_54 : decode b_BitWriter_putUsed 54 = .ok (.isub, 1) := by decide +kernel
theorem d_BitWriter_putUsed_55 : decode b_BitWriter_putUsed 55 = .ok (.ishr, 1) := by decide +kernel
theorem d_BitWriter_putUsed_56 : decode b_BitWriter_putUsed 56 = .ok (.iconst 1, 1) := by decide +kernel
theorem d_BitWriter_putUsed_57 : decode b_BitWriter_putUsed 57 = .ok (.iand, 1) := by decide +kernel
theorem d_BitWriter_putUsed_58 : decode b_BitWriter_putUsed 58 = .ok (.iconst 1, 1) := by decide +kernel
theorem d_BitWriter_putUsed_59 : decode b_BitWriter_putUsed 59 = .ok (.if_icmp .ne 11, 3) := by decide +kernel
theorem d_BitWriter_putUsed_62 : decode b_BitWriter_putUsed 62 = .ok (.aload_n 0, 1) := by decide +kernel
theorem d_BitWriter_putUsed_63 : decode b_BitWriter_putUsed 63 = .ok (.aload_n 1, 1) := by decide +kernel
theorem d_BitWriter_putUsed_64 : decode b_BitWriter_putUsed 64 = .ok (.iload_n 3, 1) := by decide +kernel
theorem d_BitWriter_putUsed_65 : decode b_BitWriter_putUsed 65 = .ok (.iaload, 1) := by decide +kernel
theorem d_BitWriter_putUsed_66 : decode b_BitWriter_putUsed 66 = .ok (.iconst 1, 1) := by decide +kernel
theorem d_BitWriter_putUsed_67 : decode b_BitWriter_putUsed 67 = .ok (.invokevirtual 38, 3) := by decide +kernel
theorem d_BitWriter_putUsed_70 : decode b_BitWriter_putUsed 70 = .ok (.iinc 3 1, 3) := by decide +kernel
theorem d_BitWriter_putUsed_73 : decode b_BitWriter_putUsed 73 = .ok (.goto (-33), 3) := by decide +kernel
theorem d_BitWriter_putUsed_76 : decode b_BitWriter_putUsed 76 = .ok (.return_, 1) := by decide +kernel
theorem BitWriter_putUsed_J70_mo {s5 : (Int32 × Int32 × Int32 × Nat × (Nat → Int32) × Int32)} {j70_0 : Int32} {j70_1 : Int32} {j70_2 : Nat} {j70_3 : (Nat → Int32)} {j70_4 : Int32} {o : ((Int32 × Int32 × Int32 × Nat × (Nat → Int32) × Int32) ⊕ (Int32 × Int32 × Nat × (Nat → Int32) × Int32))} (h : BitWriter_putUsed_J70 s5 j70_0 j70_1 j70_2 j70_3 j70_4 = some o) : j70_2 ≤ (fun (w : (Int32 × Int32 × Int32 × Nat × (Nat → Int32) × Int32) ⊕ (Int32 × Int32 × Nat × (Nat → Int32) × Int32)) => Sum.elim (fun (w : (Int32 × Int32 × Int32 × Nat × (Nat → Int32) × Int32)) => w.2.2.2.1) (fun (w : (Int32 × Int32 × Nat × (Nat → Int32) × Int32)) => w.2.2.1) w) o := by
  unfold BitWriter_putUsed_J70 at h
  exact mo_leaf (L := (fun (w : (Int32 × Int32 × Int32 × Nat × (Nat → Int32) × Int32) ⊕ (Int32 × Int32 × Nat × (Nat → Int32) × Int32)) => Sum.elim (fun (w : (Int32 × Int32 × Int32 × Nat × (Nat → Int32) × Int32)) => w.2.2.2.1) (fun (w : (Int32 × Int32 × Nat × (Nat → Int32) × Int32)) => w.2.2.1) w)) h (show j70_2 ≤ j70_2 by omega)
theorem BitWriter_putUsed_L40_mo {v3 : Int32} {n_a1 : Nat} {f_a1 : (Nat → Int32)} {s5 : (Int32 × Int32 × Int32 × Nat × (Nat → Int32) × Int32)} {o : ((Int32 × Int32 × Int32 × Nat × (Nat → Int32) × Int32) ⊕ (Int32 × Int32 × Nat × (Nat → Int32) × Int32))} (h : BitWriter_putUsed_L40 v3 n_a1 f_a1 s5 = some o) : s5.2.2.2.1 ≤ (fun (w : (Int32 × Int32 × Int32 × Nat × (Nat → Int32) × Int32) ⊕ (Int32 × Int32 × Nat × (Nat → Int32) × Int32)) => Sum.elim (fun (w : (Int32 × Int32 × Int32 × Nat × (Nat → Int32) × Int32)) => w.2.2.2.1) (fun (w : (Int32 × Int32 × Nat × (Nat → Int32) × Int32)) => w.2.2.1) w) o := by
  unfold BitWriter_putUsed_L40 at h
  by_cases c9 : (256 : Int32) ≤ s5.1
  · have h := it_t c9 h
    exact mo_leaf (L := (fun (w : (Int32 × Int32 × Int32 × Nat × (Nat → Int32) × Int32) ⊕ (Int32 × Int32 × Nat × (Nat → Int32) × Int32)) => Sum.elim (fun (w : (Int32 × Int32 × Int32 × Nat × (Nat → Int32) × Int32)) => w.2.2.2.1) (fun (w : (Int32 × Int32 × Nat × (Nat → Int32) × Int32)) => w.2.2.1) w)) h (show s5.2.2.2.1 ≤ s5.2.2.2.1 by omega)
  · have h := it_f c9 h
    by_cases c10 : ((v3 >>> (((15 : Int32) - (s5.1 / (16 : Int32))) &&& 31)) &&& (1 : Int32)) = (1 : Int32)
    · have h := it_t c10 h
      obtain ⟨_, h⟩ := gd_some h
      obtain ⟨u12, hu12, h⟩ := bd_some h
      have lu12 : s5.2.2.2.1 ≤ u12.2.2.1 := BitWriter_put_f_mo hu12
      exact Nat.le_trans (show s5.2.2.2.1 ≤ u12.2.2.1 by omega) (BitWriter_putUsed_J70_mo h)
    · have h := it_f c10 h
      exact Nat.le_trans (show s5.2.2.2.1 ≤ s5.2.2.2.1 by omega) (BitWriter_putUsed_J70_mo h)
theorem BitWriter_putUsed_L4_mo {n_a1 : Nat} {f_a1 : (Nat → Int32)} {s1 : (Int32 × Int32)} {nn : Nat} {o : ((Int32 × Int32) ⊕ Int32)} (h : BitWriter_putUsed_L4 n_a1 f_a1 s1 = some o) : nn ≤ (fun (w : (Int32 × Int32) ⊕ Int32) => Sum.elim (fun (_ : (Int32 × Int32)) => nn) (fun (_ : Int32) => nn) w) o := by
  unfold BitWriter_putUsed_L4 at h
  by_cases c14 : (256 : Int32) ≤ s1.2
  · have h := it_t c14 h
    exact mo_leaf (L := (fun (w : (Int32 × Int32) ⊕ Int32) => Sum.elim (fun (_ : (Int32 × Int32)) => nn) (fun (_ : Int32) => nn) w)) h (show nn ≤ nn by omega)
  · have h := it_f c14 h
    obtain ⟨_, h⟩ := gd_some h
    exact mo_leaf (L := (fun (w : (Int32 × Int32) ⊕ Int32) => Sum.elim (fun (_ : (Int32 × Int32)) => nn) (fun (_ : Int32) => nn) w)) h (show nn ≤ nn by omega)
theorem BitWriter_putUsed_f_mo {n_a1 : Nat} {f_a1 : (Nat → Int32)} {x_a0_held : Int32} {x_a0_heldCount : Int32} {n_a0_row_bytes : Nat} {f_a0_row_bytes : (Nat → Int32)} {x_a0_row_count : Int32} {o : (Int32 × Int32 × Nat × (Nat → Int32) × Int32)} (h : BitWriter_putUsed_f n_a1 f_a1 x_a0_held x_a0_heldCount n_a0_row_bytes f_a0_row_bytes x_a0_row_count = some o) : n_a0_row_bytes ≤ (fun (o : (Int32 × Int32 × Nat × (Nat → Int32) × Int32)) => o.2.2.1) o := by
  unfold BitWriter_putUsed_f at h
  obtain ⟨u2, hu2, h⟩ := bd_some h
  have lu2 : n_a0_row_bytes ≤ (fun (_ : Int32) => n_a0_row_bytes) u2 := lp_mo (b := (BitWriter_putUsed_L4 n_a1 f_a1)) (m := (fun (_ : (Int32 × Int32)) => n_a0_row_bytes)) (me := (fun (_ : Int32) => n_a0_row_bytes)) (fun w u hb => BitWriter_putUsed_L4_mo hb) ((0 : Int32), (0 : Int32)) hu2
  have lu2 : n_a0_row_bytes ≤ n_a0_row_bytes := lu2
  obtain ⟨u4, hu4, h⟩ := bd_some h
  have lu4 : n_a0_row_bytes ≤ u4.2.2.1 := BitWriter_put_f_mo hu4
  obtain ⟨u6, hu6, h⟩ := bd_some h
  have lu6 : u4.2.2.1 ≤ (fun (w : (Int32 × Int32 × Nat × (Nat → Int32) × Int32)) => w.2.2.1) u6 := lp_mo (b := (BitWriter_putUsed_L40 u2 n_a1 f_a1)) (m := (fun (w : (Int32 × Int32 × Int32 × Nat × (Nat → Int32) × Int32)) => w.2.2.2.1)) (me := (fun (w : (Int32 × Int32 × Nat × (Nat → Int32) × Int32)) => w.2.2.1)) (fun w u hb => BitWriter_putUsed_L40_mo hb) ((0 : Int32), u4.1, u4.2.1, u4.2.2.1, u4.2.2.2.1, u4.2.2.2.2) hu6
  have lu6 : u4.2.2.1 ≤ u6.2.2.1 := lu6
  exact mo_leaf (L := (fun (o : (Int32 × Int32 × Nat × (Nat → Int32) × Int32)) => o.2.2.1)) h (show n_a0_row_bytes ≤ u6.2.2.1 by omega)
set_option maxRecDepth 100000 in
set_option maxHeartbeats 4000000 in
theorem m_BitWriter_putUsed {C : gT} (q_a1 : Nat) (n_a1 : Nat) (f_a1 : (Nat → Int32)) (q_a0 : Nat) (q_a0_row : Nat) (r_a0_tableList : Nat) (x_a0_held : Int32) (x_a0_heldCount : Int32) (q_a0_row_bytes : Nat) (x_a0_row_count : Int32) (n_a0_row_bytes : Nat) (f_a0_row_bytes : (Nat → Int32)) (out : (Int32 × Int32 × Nat × (Nat → Int32) × Int32)) (hC : gOk C b_BitWriter_putUsed R_BitWriter { frames := 4, cells := out.2.2.1 - n_a0_row_bytes, slots := 2 * (out.2.2.1 - n_a0_row_bytes), locals := 111 } 4) (hf : BitWriter_putUsed_f n_a1 f_a1 x_a0_held x_a0_heldCount n_a0_row_bytes f_a0_row_bytes x_a0_row_count = some out) (kr : ∀ (x : Nat) (o9 : (Int32 × Int32 × Nat × (Nat → Int32) × Int32)) (pc : Nat) (lv : List (Nat × Value)), o9 = out → decode b_BitWriter_putUsed pc = .ok (.return_, 1) → gAt C (o9.2.2.1 - n_a0_row_bytes) (2 * (o9.2.2.1 - n_a0_row_bytes)) [(q_a1, .inl (g_K C 0, n_a1, .inl f_a1)), (q_a0, .inr (2, [.ref q_a0_row, .ref r_a0_tableList, .int o9.1, .int o9.2.1])), (q_a0_row, .inr (4, [.ref x, .int o9.2.2.2.2])), (x, .inl (g_K C 0, o9.2.2.1, .inl o9.2.2.2.1))] lv pc []) : gAt C 0 0 [(q_a1, .inl (g_K C 0, n_a1, .inl f_a1)), (q_a0, .inr (2, [.ref q_a0_row, .ref r_a0_tableList, .int x_a0_held, .int x_a0_heldCount])), (q_a0_row, .inr (4, [.ref q_a0_row_bytes, .int x_a0_row_count])), (q_a0_row_bytes, .inl (g_K C 0, n_a0_row_bytes, .inl f_a0_row_bytes))] [(0, .ref q_a0), (1, .ref q_a1)] 0 [] := by
  have hle : n_a0_row_bytes ≤ n_a0_row_bytes := Nat.le_refl _
  have hfi : n_a0_row_bytes ≤ out.2.2.1 := BitWriter_putUsed_f_mo hf
  refine g_wide (n_a0_row_bytes - n_a0_row_bytes) (2 * (n_a0_row_bytes - n_a0_row_bytes)) (Nat.zero_le _) (Nat.zero_le _) ?_
  unfold BitWriter_putUsed_f at hf
  refine g_iconst 0 hC (0 : Int32) (by decide) d_BitWriter_putUsed_0 ?_
  refine g_istore_n 1 hC (lv2 := [(2, .int (0 : Int32)), (0, .ref q_a0), (1, .ref q_a1)]) (hn := (by decide)) (hl2 := rfl) (hd := d_BitWriter_putUsed_1) ?_
  refine g_iconst 2 hC (0 : Int32) (by decide) d_BitWriter_putUsed_2 ?_
  refine g_istore_n 3 hC (lv2 := [(3, .int (0 : Int32)), (2, .int (0 : Int32)), (0, .ref q_a0), (1, .ref q_a1)]) (hn := (by decide)) (hl2 := rfl) (hd := d_BitWriter_putUsed_3) ?_
  obtain ⟨u2, hu2, hf⟩ := bd_some hf
  have hB : (fun (_ : Int32) => n_a0_row_bytes) u2 ≤ out.2.2.1 := by
    have h := hf
    obtain ⟨u4, hu4, h⟩ := bd_some h
    have lu4 : n_a0_row_bytes ≤ u4.2.2.1 := BitWriter_put_f_mo hu4
    obtain ⟨u6, hu6, h⟩ := bd_some h
    have lu6 : u4.2.2.1 ≤ (fun (w : (Int32 × Int32 × Nat × (Nat → Int32) × Int32)) => w.2.2.1) u6 := lp_mo (b := (BitWriter_putUsed_L40 u2 n_a1 f_a1)) (m := (fun (w : (Int32 × Int32 × Int32 × Nat × (Nat → Int32) × Int32)) => w.2.2.2.1)) (me := (fun (w : (Int32 × Int32 × Nat × (Nat → Int32) × Int32)) => w.2.2.1)) (fun w u hb => BitWriter_putUsed_L40_mo hb) ((0 : Int32), u4.1, u4.2.1, u4.2.2.1, u4.2.2.2.1, u4.2.2.2.2) hu6
    have lu6 : u4.2.2.1 ≤ u6.2.2.1 := lu6
    exact mo_leaf (L := (fun (o : (Int32 × Int32 × Nat × (Nat → Int32) × Int32)) => o.2.2.1)) h (show n_a0_row_bytes ≤ u6.2.2.1 by omega)
  have Xu2_0 : ∀ (v3 : Int32), v3 = u2 → n_a0_row_bytes ≤ n_a0_row_bytes → gAt C (n_a0_row_bytes - n_a0_row_bytes) (2 * (n_a0_row_bytes - n_a0_row_bytes)) [(q_a1, .inl (g_K C 0, n_a1, .inl f_a1)), (q_a0, .inr (2, [.ref q_a0_row, .ref r_a0_tableList, .int x_a0_held, .int x_a0_heldCount])), (q_a0_row, .inr (4, [.ref q_a0_row_bytes, .int x_a0_row_count])), (q_a0_row_bytes, .inl (g_K C 0, n_a0_row_bytes, .inl f_a0_row_bytes))] [(0, .ref q_a0), (1, .ref q_a1), (2, .int v3)] 31 [] := by
    intro v3 hv hle
    rw [← hv] at hf
    have hfi : n_a0_row_bytes ≤ out.2.2.1 := by
      have h := hf
      obtain ⟨u4, hu4, h⟩ := bd_some h
      have lu4 : n_a0_row_bytes ≤ u4.2.2.1 := BitWriter_put_f_mo hu4
      obtain ⟨u6, hu6, h⟩ := bd_some h
      have lu6 : u4.2.2.1 ≤ (fun (w : (Int32 × Int32 × Nat × (Nat → Int32) × Int32)) => w.2.2.1) u6 := lp_mo (b := (BitWriter_putUsed_L40 v3 n_a1 f_a1)) (m := (fun (w : (Int32 × Int32 × Int32 × Nat × (Nat → Int32) × Int32)) => w.2.2.2.1)) (me := (fun (w : (Int32 × Int32 × Nat × (Nat → Int32) × Int32)) => w.2.2.1)) (fun w u hb => BitWriter_putUsed_L40_mo hb) ((0 : Int32), u4.1, u4.2.1, u4.2.2.1, u4.2.2.2.1, u4.2.2.2.2) hu6
      have lu6 : u4.2.2.1 ≤ u6.2.2.1 := lu6
      exact mo_leaf (L := (fun (o : (Int32 × Int32 × Nat × (Nat → Int32) × Int32)) => o.2.2.1)) h (show n_a0_row_bytes ≤ u6.2.2.1 by omega)
    refine g_aload_n 31 hC (j := 0) (hj := rfl) (hd := d_BitWriter_putUsed_31) ?_
    refine g_iload_n 32 hC (j := 2) (hj := rfl) (hd := d_BitWriter_putUsed_32) ?_
    refine g_bipush 33 hC (16 : Int32) (by decide) d_BitWriter_putUsed_33 ?_
    obtain ⟨u4, hu4, hf⟩ := bd_some hf
    have lu4 : n_a0_row_bytes ≤ u4.2.2.1 := BitWriter_put_f_mo hu4
    have hfi : u4.2.2.1 ≤ out.2.2.1 := by
      have h := hf
      obtain ⟨u6, hu6, h⟩ := bd_some h
      have lu6 : u4.2.2.1 ≤ (fun (w : (Int32 × Int32 × Nat × (Nat → Int32) × Int32)) => w.2.2.1) u6 := lp_mo (b := (BitWriter_putUsed_L40 v3 n_a1 f_a1)) (m := (fun (w : (Int32 × Int32 × Int32 × Nat × (Nat → Int32) × Int32)) => w.2.2.2.1)) (me := (fun (w : (Int32 × Int32 × Nat × (Nat → Int32) × Int32)) => w.2.2.1)) (fun w u hb => BitWriter_putUsed_L40_mo hb) ((0 : Int32), u4.1, u4.2.1, u4.2.2.1, u4.2.2.2.1, u4.2.2.2.2) hu6
      have lu6 : u4.2.2.1 ≤ u6.2.2.1 := lu6
      exact mo_leaf (L := (fun (o : (Int32 × Int32 × Nat × (Nat → Int32) × Int32)) => o.2.2.1)) h (show u4.2.2.1 ≤ u6.2.2.1 by omega)
    refine g_callVv 35 hC (c_BitWriter_put (g_l C) (g_D C) (g_K C) q_a0 q_a0_row r_a0_tableList x_a0_held x_a0_heldCount q_a0_row_bytes x_a0_row_count n_a0_row_bytes f_a0_row_bytes v3 (16 : Int32) u4 hu4) k639 k11 k636 k638 ks1 2 rfl (by decide +kernel) ⟨Nat.le_of_ble_eq_true rfl, Nat.le_of_ble_eq_true rfl⟩ [1, 2, 3] [0] [(q_a1, .inl (g_K C 0, n_a1, .inl f_a1))] rfl rfl rfl rfl rfl 0 2 rfl rfl rfl rfl (Nat.le_of_ble_eq_true rfl) ⟨show (n_a0_row_bytes - n_a0_row_bytes) + (u4.2.2.1 - n_a0_row_bytes) ≤ out.2.2.1 - n_a0_row_bytes by omega, show (2 * (n_a0_row_bytes - n_a0_row_bytes)) + 2 * (u4.2.2.1 - n_a0_row_bytes) ≤ 2 * (out.2.2.1 - n_a0_row_bytes) by omega⟩ (fun (xu4 : Nat) => [(q_a1, .inl (g_K C 0, n_a1, .inl f_a1)), (q_a0, .inr (2, [.ref q_a0_row, .ref r_a0_tableList, .int u4.1, .int u4.2.1])), (q_a0_row, .inr (4, [.ref xu4, .int u4.2.2.2.2])), (xu4, .inl (g_K C 0, u4.2.2.1, .inl u4.2.2.2.1))]) (fun _ => rfl) d_BitWriter_putUsed_35 (u4.2.2.1 - n_a0_row_bytes) (2 * (u4.2.2.1 - n_a0_row_bytes)) (show (n_a0_row_bytes - n_a0_row_bytes) + (u4.2.2.1 - n_a0_row_bytes) = (u4.2.2.1 - n_a0_row_bytes) by omega) (show (2 * (n_a0_row_bytes - n_a0_row_bytes)) + 2 * (u4.2.2.1 - n_a0_row_bytes) = (2 * (u4.2.2.1 - n_a0_row_bytes)) by omega) (fun xu4 => ?_)
    have hle : n_a0_row_bytes ≤ u4.2.2.1 := by omega
    refine g_iconst 38 hC (0 : Int32) (by decide) d_BitWriter_putUsed_38 ?_
    refine g_istore_n 39 hC (lv2 := [(3, .int (0 : Int32)), (0, .ref q_a0), (1, .ref q_a1), (2, .int v3)]) (hn := (by decide)) (hl2 := rfl) (hd := d_BitWriter_putUsed_39) ?_
    obtain ⟨u6, hu6, hf⟩ := bd_some hf
    have hB : (fun (w : (Int32 × Int32 × Nat × (Nat → Int32) × Int32)) => w.2.2.1) u6 ≤ out.2.2.1 := by
      have h := hf
      exact mo_leaf (L := (fun (o : (Int32 × Int32 × Nat × (Nat → Int32) × Int32)) => o.2.2.1)) h (show u6.2.2.1 ≤ u6.2.2.1 by omega)
    have Xu6_0 : ∀ (v7 : (Int32 × Int32 × Nat × (Nat → Int32) × Int32)), v7 = u6 → ∀ (y40_a0_row_bytes : Nat), n_a0_row_bytes ≤ v7.2.2.1 → gAt C (v7.2.2.1 - n_a0_row_bytes) (2 * (v7.2.2.1 - n_a0_row_bytes)) [(q_a1, .inl (g_K C 0, n_a1, .inl f_a1)), (q_a0, .inr (2, [.ref q_a0_row, .ref r_a0_tableList, .int v7.1, .int v7.2.1])), (q_a0_row, .inr (4, [.ref y40_a0_row_bytes, .int v7.2.2.2.2])), (y40_a0_row_bytes, .inl (g_K C 0, v7.2.2.1, .inl v7.2.2.2.1))] [] 76 [] := by
      intro v7 hv y40_a0_row_bytes hle
      rw [← hv] at hf
      have hfi : v7.2.2.1 ≤ out.2.2.1 := by
        have h := hf
        exact mo_leaf (L := (fun (o : (Int32 × Int32 × Nat × (Nat → Int32) × Int32)) => o.2.2.1)) h (show v7.2.2.1 ≤ v7.2.2.1 by omega)
      exact kr y40_a0_row_bytes (v7.1, v7.2.1, v7.2.2.1, v7.2.2.2.1, v7.2.2.2.2) 76 [] (Option.some.inj hf) d_BitWriter_putUsed_76
    have Gu6 := lp_indM (b := (BitWriter_putUsed_L40 v3 n_a1 f_a1)) (G := fun (s5 : (Int32 × Int32 × Int32 × Nat × (Nat → Int32) × Int32)) => ∀ (y40_a0_row_bytes : Nat), n_a0_row_bytes ≤ s5.2.2.2.1 → gAt C (s5.2.2.2.1 - n_a0_row_bytes) (2 * (s5.2.2.2.1 - n_a0_row_bytes)) [(q_a1, .inl (g_K C 0, n_a1, .inl f_a1)), (q_a0, .inr (2, [.ref q_a0_row, .ref r_a0_tableList, .int s5.2.1, .int s5.2.2.1])), (q_a0_row, .inr (4, [.ref y40_a0_row_bytes, .int s5.2.2.2.2.2])), (y40_a0_row_bytes, .inl (g_K C 0, s5.2.2.2.1, .inl s5.2.2.2.2.1))] [(0, .ref q_a0), (1, .ref q_a1), (2, .int v3), (3, .int s5.1)] 40 []) (o := u6) (m := (fun (w : (Int32 × Int32 × Int32 × Nat × (Nat → Int32) × Int32)) => w.2.2.2.1)) (me := (fun (w : (Int32 × Int32 × Nat × (Nat → Int32) × Int32)) => w.2.2.1)) (B := out.2.2.1) (fun w u hb => BitWriter_putUsed_L40_mo hb) hB (by
        intro s5 u8 hf hI hX hU y40_a0_row_bytes hle
        have hfi : s5.2.2.2.1 ≤ out.2.2.1 := Nat.le_trans (BitWriter_putUsed_L40_mo hf) hU
        unfold BitWriter_putUsed_L40 at hf
        have J70 : ∀ (j70_0 : Int32) (j70_1 : Int32) (j70_2 : Nat) (j70_3 : (Nat → Int32)) (j70_4 : Int32) (y70_a0_row_bytes : Nat), n_a0_row_bytes ≤ j70_2 → BitWriter_putUsed_J70 s5 j70_0 j70_1 j70_2 j70_3 j70_4 = some u8 → gAt C (j70_2 - n_a0_row_bytes) (2 * (j70_2 - n_a0_row_bytes)) [(q_a1, .inl (g_K C 0, n_a1, .inl f_a1)), (q_a0, .inr (2, [.ref q_a0_row, .ref r_a0_tableList, .int j70_0, .int j70_1])), (q_a0_row, .inr (4, [.ref y70_a0_row_bytes, .int j70_4])), (y70_a0_row_bytes, .inl (g_K C 0, j70_2, .inl j70_3))] [(0, .ref q_a0), (1, .ref q_a1), (2, .int v3), (3, .int s5.1)] 70 [] := by
          intro j70_0 j70_1 j70_2 j70_3 j70_4 y70_a0_row_bytes hle hf
          have hfi : j70_2 ≤ out.2.2.1 := Nat.le_trans (show j70_2 ≤ (fun (w : (Int32 × Int32 × Int32 × Nat × (Nat → Int32) × Int32) ⊕ (Int32 × Int32 × Nat × (Nat → Int32) × Int32)) => Sum.elim (fun (w : (Int32 × Int32 × Int32 × Nat × (Nat → Int32) × Int32)) => w.2.2.2.1) (fun (w : (Int32 × Int32 × Nat × (Nat → Int32) × Int32)) => w.2.2.1) w) u8 from by
            exact BitWriter_putUsed_J70_mo hf) hU
          unfold BitWriter_putUsed_J70 at hf
          refine g_iinc 70 hC 3 (1 : Int32) [(3, .int (s5.1 + (1 : Int32))), (0, .ref q_a0), (1, .ref q_a1), (2, .int v3)] rfl (by decide) (by decide) rfl d_BitWriter_putUsed_70 ?_
          refine g_goto 73 hC 40 (by decide) d_BitWriter_putUsed_73 ?_
          exact g_re [0, 1, 2, 3] [1, 2, 3, 0] rfl rfl rfl (hI ((s5.1 + (1 : Int32)), j70_0, j70_1, j70_2, j70_3, j70_4) hf y70_a0_row_bytes hle)
        refine g_iload_n 40 hC (j := 3) (hj := rfl) (hd := d_BitWriter_putUsed_40) ?_
        refine g_sipush 41 hC (256 : Int32) (by decide) d_BitWriter_putUsed_41 ?_
        refine g_icmp_ge 44 hC 76 (by decide) d_BitWriter_putUsed_44 (fun c9 => ?_) (fun c9 => ?_)
        · have hf := it_t c9 hf
          exact g_re [0, 1, 2, 3] [] rfl rfl rfl (Xu6_0 (s5.2.1, s5.2.2.1, s5.2.2.2.1, s5.2.2.2.2.1, s5.2.2.2.2.2) (hX (s5.2.1, s5.2.2.1, s5.2.2.2.1, s5.2.2.2.2.1, s5.2.2.2.2.2) hf) y40_a0_row_bytes hle)
        · have hf := it_f c9 hf
          refine g_iload_n 47 hC (j := 2) (hj := rfl) (hd := d_BitWriter_putUsed_47) ?_
          refine g_bipush 48 hC (15 : Int32) (by decide) d_BitWriter_putUsed_48 ?_
          refine g_iload_n 50 hC (j := 3) (hj := rfl) (hd := d_BitWriter_putUsed_50) ?_
          refine g_bipush 51 hC (16 : Int32) (by decide) d_BitWriter_putUsed_51 ?_
          refine g_idiv 53 hC (hne := (by decide)) (hd := d_BitWriter_putUsed_53) ?_
          refine g_isub 54 hC d_BitWriter_putUsed_54 ?_
          refine g_ishr 55 hC d_BitWriter_putUsed_55 ?_
          refine g_iconst 56 hC (1 : Int32) (by decide) d_BitWriter_putUsed_56 ?_
          refine g_iand 57 hC d_BitWriter_putUsed_57 ?_
          refine g_iconst 58 hC (1 : Int32) (by decide) d_BitWriter_putUsed_58 ?_
          refine g_icmp_ne 59 hC 70 (by decide) d_BitWriter_putUsed_59 (fun c10 => ?_) (fun c10 => ?_)
          · have hf := it_f c10 hf
            exact J70 s5.2.1 s5.2.2.1 s5.2.2.2.1 s5.2.2.2.2.1 s5.2.2.2.2.2 y40_a0_row_bytes hle hf
          · have hf := it_t c10 hf
            refine g_aload_n 62 hC (j := 0) (hj := rfl) (hd := d_BitWriter_putUsed_62) ?_
            refine g_aload_n 63 hC (j := 1) (hj := rfl) (hd := d_BitWriter_putUsed_63) ?_
            refine g_iload_n 64 hC (j := 3) (hj := rfl) (hd := d_BitWriter_putUsed_64) ?_
            obtain ⟨e11, hf⟩ := gd_some hf
            refine g_iald 65 hC 0 rfl e11 d_BitWriter_putUsed_65 ?_
            refine g_iconst 66 hC (1 : Int32) (by decide) d_BitWriter_putUsed_66 ?_
            obtain ⟨u12, hu12, hf⟩ := bd_some hf
            have lu12 : s5.2.2.2.1 ≤ u12.2.2.1 := BitWriter_put_f_mo hu12
            have hfi : u12.2.2.1 ≤ out.2.2.1 := Nat.le_trans (show u12.2.2.1 ≤ (fun (w : (Int32 × Int32 × Int32 × Nat × (Nat → Int32) × Int32) ⊕ (Int32 × Int32 × Nat × (Nat → Int32) × Int32)) => Sum.elim (fun (w : (Int32 × Int32 × Int32 × Nat × (Nat → Int32) × Int32)) => w.2.2.2.1) (fun (w : (Int32 × Int32 × Nat × (Nat → Int32) × Int32)) => w.2.2.1) w) u8 from by
              have h := hf
              exact Nat.le_trans (show u12.2.2.1 ≤ u12.2.2.1 by omega) (BitWriter_putUsed_J70_mo h)) hU
            refine g_callVv 67 hC (c_BitWriter_put (g_l C) (g_D C) (g_K C) q_a0 q_a0_row r_a0_tableList s5.2.1 s5.2.2.1 y40_a0_row_bytes s5.2.2.2.2.2 s5.2.2.2.1 s5.2.2.2.2.1 (f_a1 s5.1.toNatClampNeg) (1 : Int32) u12 hu12) k639 k11 k636 k638 ks1 2 rfl (by decide +kernel) ⟨Nat.le_of_ble_eq_true rfl, Nat.le_of_ble_eq_true rfl⟩ [1, 2, 3] [0] [(q_a1, .inl (g_K C 0, n_a1, .inl f_a1))] rfl rfl rfl rfl rfl 0 2 rfl rfl rfl rfl (Nat.le_of_ble_eq_true rfl) ⟨show (s5.2.2.2.1 - n_a0_row_bytes) + (u12.2.2.1 - s5.2.2.2.1) ≤ out.2.2.1 - n_a0_row_bytes by omega, show (2 * (s5.2.2.2.1 - n_a0_row_bytes)) + 2 * (u12.2.2.1 - s5.2.2.2.1) ≤ 2 * (out.2.2.1 - n_a0_row_bytes) by omega⟩ (fun (xu12 : Nat) => [(q_a1, .inl (g_K C 0, n_a1, .inl f_a1)), (q_a0, .inr (2, [.ref q_a0_row, .ref r_a0_tableList, .int u12.1, .int u12.2.1])), (q_a0_row, .inr (4, [.ref xu12, .int u12.2.2.2.2])), (xu12, .inl (g_K C 0, u12.2.2.1, .inl u12.2.2.2.1))]) (fun _ => rfl) d_BitWriter_putUsed_67 (u12.2.2.1 - n_a0_row_bytes) (2 * (u12.2.2.1 - n_a0_row_bytes)) (show (s5.2.2.2.1 - n_a0_row_bytes) + (u12.2.2.1 - s5.2.2.2.1) = (u12.2.2.1 - n_a0_row_bytes) by omega) (show (2 * (s5.2.2.2.1 - n_a0_row_bytes)) + 2 * (u12.2.2.1 - s5.2.2.2.1) = (2 * (u12.2.2.1 - n_a0_row_bytes)) by omega) (fun xu12 => ?_)
            have hle : n_a0_row_bytes ≤ u12.2.2.1 := by omega
            exact J70 u12.1 u12.2.1 u12.2.2.1 u12.2.2.2.1 u12.2.2.2.2 xu12 hle hf) gas
    exact g_re [0, 1, 2, 3] [1, 2, 3, 0] rfl rfl rfl (Gu6 ((0 : Int32), u4.1, u4.2.1, u4.2.2.1, u4.2.2.2.1, u4.2.2.2.2) hu6 xu4 hle)
  have Gu2 := lp_indM (b := (BitWriter_putUsed_L4 n_a1 f_a1)) (G := fun (s1 : (Int32 × Int32)) => n_a0_row_bytes ≤ n_a0_row_bytes → gAt C (n_a0_row_bytes - n_a0_row_bytes) (2 * (n_a0_row_bytes - n_a0_row_bytes)) [(q_a1, .inl (g_K C 0, n_a1, .inl f_a1)), (q_a0, .inr (2, [.ref q_a0_row, .ref r_a0_tableList, .int x_a0_held, .int x_a0_heldCount])), (q_a0_row, .inr (4, [.ref q_a0_row_bytes, .int x_a0_row_count])), (q_a0_row_bytes, .inl (g_K C 0, n_a0_row_bytes, .inl f_a0_row_bytes))] [(0, .ref q_a0), (1, .ref q_a1), (2, .int s1.1), (3, .int s1.2)] 4 []) (o := u2) (m := (fun (_ : (Int32 × Int32)) => n_a0_row_bytes)) (me := (fun (_ : Int32) => n_a0_row_bytes)) (B := out.2.2.1) (fun w u hb => BitWriter_putUsed_L4_mo hb) hB (by
      intro s1 u13 hf hI hX hU hle
      have hfi : n_a0_row_bytes ≤ out.2.2.1 := Nat.le_trans (BitWriter_putUsed_L4_mo hf) hU
      unfold BitWriter_putUsed_L4 at hf
      refine g_iload_n 4 hC (j := 3) (hj := rfl) (hd := d_BitWriter_putUsed_4) ?_
      refine g_sipush 5 hC (256 : Int32) (by decide) d_BitWriter_putUsed_5 ?_
      refine g_icmp_ge 8 hC 31 (by decide) d_BitWriter_putUsed_8 (fun c14 => ?_) (fun c14 => ?_)
      · have hf := it_t c14 hf
        exact g_re [0, 1, 2, 3] [0, 1, 2] rfl rfl rfl (Xu2_0 s1.1 (hX s1.1 hf) hle)
      · have hf := it_f c14 hf
        refine g_iload_n 11 hC (j := 2) (hj := rfl) (hd := d_BitWriter_putUsed_11) ?_
        refine g_aload_n 12 hC (j := 1) (hj := rfl) (hd := d_BitWriter_putUsed_12) ?_
        refine g_iload_n 13 hC (j := 3) (hj := rfl) (hd := d_BitWriter_putUsed_13) ?_
        obtain ⟨e15, hf⟩ := gd_some hf
        refine g_iald 14 hC 0 rfl e15 d_BitWriter_putUsed_14 ?_
        refine g_bipush 15 hC (15 : Int32) (by decide) d_BitWriter_putUsed_15 ?_
        refine g_iload_n 17 hC (j := 3) (hj := rfl) (hd := d_BitWriter_putUsed_17) ?_
        refine g_bipush 18 hC (16 : Int32) (by decide) d_BitWriter_putUsed_18 ?_
        refine g_idiv 20 hC (hne := (by decide)) (hd := d_BitWriter_putUsed_20) ?_
        refine g_isub 21 hC d_BitWriter_putUsed_21 ?_
        refine g_ishl 22 hC d_BitWriter_putUsed_22 ?_
        refine g_ior 23 hC d_BitWriter_putUsed_23 ?_
        refine g_istore_n 24 hC (lv2 := [(2, .int (s1.1 ||| ((f_a1 s1.2.toNatClampNeg) <<< (((15 : Int32) - (s1.2 / (16 : Int32))) &&& 31)))), (0, .ref q_a0), (1, .ref q_a1), (3, .int s1.2)]) (hn := (by decide)) (hl2 := rfl) (hd := d_BitWriter_putUsed_24) ?_
        refine g_iinc 25 hC 3 (1 : Int32) [(3, .int (s1.2 + (1 : Int32))), (2, .int (s1.1 ||| ((f_a1 s1.2.toNatClampNeg) <<< (((15 : Int32) - (s1.2 / (16 : Int32))) &&& 31)))), (0, .ref q_a0), (1, .ref q_a1)] rfl (by decide) (by decide) rfl d_BitWriter_putUsed_25 ?_
        refine g_goto 28 hC 4 (by decide) d_BitWriter_putUsed_28 ?_
        exact g_re [0, 1, 2, 3] [2, 3, 1, 0] rfl rfl rfl (hI ((s1.1 ||| ((f_a1 s1.2.toNatClampNeg) <<< (((15 : Int32) - (s1.2 / (16 : Int32))) &&& 31))), (s1.2 + (1 : Int32))) hf hle)) gas
  exact g_re [0, 1, 2, 3] [2, 3, 1, 0] rfl rfl rfl (Gu2 ((0 : Int32), (0 : Int32)) hu2 hle)
theorem c_BitWriter_putUsed (l : Launch) (D : va_G) (K : Nat → ClassId) (q_a1 : Nat) (n_a1 : Nat) (f_a1 : (Nat → Int32)) (q_a0 : Nat) (q_a0_row : Nat) (r_a0_tableList : Nat) (x_a0_held : Int32) (x_a0_heldCount : Int32) (q_a0_row_bytes : Nat) (x_a0_row_count : Int32) (n_a0_row_bytes : Nat) (f_a0_row_bytes : (Nat → Int32)) (out : (Int32 × Int32 × Nat × (Nat → Int32) × Int32)) (hf : BitWriter_putUsed_f n_a1 f_a1 x_a0_held x_a0_heldCount n_a0_row_bytes f_a0_row_bytes x_a0_row_count = some out) : Cv l D K y_BitWriter_putUsed (g_wd y_BitWriter_putUsed b_BitWriter_putUsed 4 none) { frames := 4, cells := out.2.2.1 - n_a0_row_bytes, slots := 2 * (out.2.2.1 - n_a0_row_bytes), locals := 111 } [.ref q_a0, .ref q_a1] [(q_a1, .inl (K 0, n_a1, .inl f_a1)), (q_a0, .inr (2, [.ref q_a0_row, .ref r_a0_tableList, .int x_a0_held, .int x_a0_heldCount])), (q_a0_row, .inr (4, [.ref q_a0_row_bytes, .int x_a0_row_count])), (q_a0_row_bytes, .inl (K 0, n_a0_row_bytes, .inl f_a0_row_bytes))] (fun (x : Nat) => [(q_a1, .inl (K 0, n_a1, .inl f_a1)), (q_a0, .inr (2, [.ref q_a0_row, .ref r_a0_tableList, .int out.1, .int out.2.1])), (q_a0_row, .inr (4, [.ref x, .int out.2.2.2.2])), (x, .inl (K 0, out.2.2.1, .inl out.2.2.2.1))]) := mk_v (by decide) (Nat.le_of_ble_eq_true rfl) (fun p e s m below meth c A Q hC kr => m_BitWriter_putUsed q_a1 n_a1 f_a1 q_a0 q_a0_row r_a0_tableList x_a0_held x_a0_heldCount q_a0_row_bytes x_a0_row_count n_a0_row_bytes f_a0_row_bytes out hC hf (fun x o9 pc lv ho => by subst ho; exact kr x pc lv))
abbrev b_BitWriter_putGroups : ByteArray := prog_3_method_7_code
def y_BitWriter_putGroups : MethodName := ⟨R_BitWriter, "putGroups", "(LRotationPress$Block;)V"⟩
theorem d_BitWriter_putGroups_0 : decode b_BitWriter_putGroups 0 = .ok (.aload_n 0, 1) := by decide +kernel
theorem d_BitWriter_putGroups_1 : decode b_BitWriter_putGroups 1 = .ok (.getfield 18, 3) := by decide +kernel
theorem d_BitWriter_putGroups_4 : decode b_BitWriter_putGroups 4 = .ok (.aload_n 1, 1) := by decide +kernel
theorem d_BitWriter_putGroups_5 : decode b_BitWriter_putGroups 5 = .ok (.getfield 58, 3) := by decide +kernel
theorem d_BitWriter_putGroups_8 : decode b_BitWriter_putGroups 8 = .ok (.invokevirtual 79, 3) := by decide +kernel
theorem d_BitWriter_putGroups_11 : decode b_BitWriter_putGroups 11 = .ok (.iconst 0, 1) := by decide +kernel
theorem d_BitWriter_putGroups_12 : decode b_BitWriter_putGroups 12 = .ok (.istore_n 2, 1) := by decide +kernel
theorem d_BitWriter_putGroups_13 : decode b_BitWriter_putGroups 13 = .ok (.iload_n 2, 1) := by decide +kernel
theorem d_BitWriter_putGroups_14 : decode b_BitWriter_putGroups 14 = .ok (.aload_n 1, 1) := by decide +kernel
theorem d_BitWriter_putGroups_15 : decode b_BitWriter_putGroups 15 = .ok (.getfield 61, 3) := by decide +kernel
theorem d_BitWriter_putGroups_18 : decode b_BitWriter_putGroups 18 = .ok (.if_icmp .ge 50, 3) := by decide +kernel
theorem d_BitWriter_putGroups_21 : decode b_BitWriter_putGroups 21 = .ok (.aload_n 0, 1) := by decide +kernel
theorem d_BitWriter_putGroups_22 : decode b_BitWriter_putGroups 22 = .ok (.getfield 18, 3) := by decide +kernel
theorem d_BitWriter_putGroups_25 : decode b_BitWriter_putGroups 25 = .ok (.aload_n 1, 1) := by decide +kernel
theorem d_BitWriter_putGroups_26 : decode b_BitWriter_putGroups 26 = .ok (.getfield 82, 3) := by decide +kernel
theorem d_BitWriter_putGroups_29 : decode b_BitWriter_putGroups 29 = .ok (.iload_n 2, 1) := by decide +kernel
theorem d_BitWriter_putGroups_30 : decode b_BitWriter_putGroups 30 = .ok (.iaload, 1) := by decide +kernel
theorem d_BitWriter_putGroups_31 : decode b_BitWriter_putGroups 31 = .ok (.invokevirtual 85, 3) := by decide +kernel
theorem d_BitWriter_putGroups_34 : decode b_BitWriter_putGroups 34 = .ok (.istore_n 3, 1) := by decide +kernel
theorem d_BitWriter_putGroups_35 : decode b_BitWriter_putGroups 35 = .ok (.iconst 0, 1) := by decide +kernel
theorem d_BitWriter_putGroups_36 : decode b_BitWriter_putGroups 36 = .ok (.istore 4, 2) := by decide +kernel
theorem d_BitWriter_putGroups_38 : decode b_BitWriter_putGroups 38 = .ok (.iload 4, 2) := by decide +kernel
theorem d_BitWriter_putGroups_40 : decode b_BitWriter_putGroups 40 = .ok (.iload_n 3, 1) := by decide +kernel
theorem d_BitWriter_putGroups_41 : decode b_BitWriter_putGroups 41 = .ok (.if_icmp .ge 15, 3) := by decide +kernel
theorem d_BitWriter_putGroups_44 : decode b_BitWriter_putGroups 44 = .ok (.aload_n 0, 1) := by decide +kernel
theorem d_BitWriter_putGroups_45 : decode b_BitWriter_putGroups 45 = .ok (.iconst 1, 1) := by decide +kernel
theorem d_BitWriter_putGroups_46 : decode b_BitWriter_putGroups 46 = .ok (.iconst 1, 1) := by decide +kernel
theorem d_BitWriter_putGroups_47 : decode b_BitWriter_putGroups 47 = .ok (.invokevirtual 38, 3) := by decide +kernel
theorem d_BitWriter_putGroups_50 : decode b_BitWriter_putGroups 50 = .ok (.iinc 4 1, 3) := by decide +kernel
theorem d_BitWriter_putGroups_53 : decode b_BitWriter_putGroups 53 = .ok (.goto (-15), 3) := by decide +kernel
theorem d_BitWriter_putGroups_56 : decode b_BitWriter_putGroups 56 = .ok (.aload_n 0, 1) := by decide +kernel
theorem d_BitWriter_putGroups_57 : decode b_BitWriter_putGroups 57 = .ok (.iconst 0, 1) := by decide +kernel
theorem d_BitWriter_putGroups_58 : decode b_BitWriter_putGroups 58 = .ok (.iconst 1, 1) := by decide +kernel
theorem d_BitWriter_putGroups_59 : decode b_BitWriter_putGroups 59 = .ok (.invokevirtual 38, 3) := by decide +kernel
theorem d_BitWriter_putGroups_62 : decode b_BitWriter_putGroups 62 = .ok (.iinc 2 1, 3) := by decide +kernel
theorem d_BitWriter_putGroups_65 : decode b_BitWriter_putGroups 65 = .ok (.goto (-52), 3) := by decide +kernel
theorem d_BitWriter_putGroups_68 : decode b_BitWriter_putGroups 68 = .ok (.return_, 1) := by decide +kernel
theorem k270 : (Jvm.Cond.fieldLink "RotationPress$BitWriter" (18 : Nat) "RotationPress$BitWriter" "tableList" "LRotationPress$FrontList;") ∈ g_tbl := List.mem_filter.mpr ⟨List.mem_append_right (k2_sels lw_privs) (List.mem_append_right _ (List.mem_append_left _ (List.mem_of_getElem? (l := tables_1_2) (i := 30) rfl))), rfl⟩
theorem k167 : (Jvm.Cond.fieldLink "RotationPress$BitWriter" (58 : Nat) "RotationPress$Block" "tableCount" "I") ∈ g_tbl := List.mem_filter.mpr ⟨List.mem_append_right (k2_sels lw_privs) (List.mem_append_left _ (List.mem_of_getElem? (l := tables_1_1) (i := 167) rfl)), rfl⟩
theorem k1041 : (Jvm.Cond.methodLink "RotationPress$BitWriter" (79 : Nat) ({ cls := "RotationPress$FrontList", name := "beginWithFirst", desc := "(I)V" } : Jvm.MethodName)) ∈ g_tbl := List.mem_filter.mpr ⟨List.mem_append_right (k2_sels lw_privs) (List.mem_append_right _ (List.mem_append_right _ (List.mem_append_right _ (List.mem_append_right _ (List.mem_append_left _ (List.mem_of_getElem? (l := tables_1_5) (i := 81) rfl)))))), rfl⟩
theorem k163 : (Jvm.Cond.fieldLink "RotationPress$BitWriter" (61 : Nat) "RotationPress$Block" "groupCount" "I") ∈ g_tbl := List.mem_filter.mpr ⟨List.mem_append_right (k2_sels lw_privs) (List.mem_append_left _ (List.mem_of_getElem? (l := tables_1_1) (i := 163) rfl)), rfl⟩
theorem k159 : (Jvm.Cond.fieldLink "RotationPress$BitWriter" (82 : Nat) "RotationPress$Block" "groupTables" "[I") ∈ g_tbl := List.mem_filter.mpr ⟨List.mem_append_right (k2_sels lw_privs) (List.mem_append_left _ (List.mem_of_getElem? (l := tables_1_1) (i := 159) rfl)), rfl⟩
theorem k1046 : (Jvm.Cond.methodLink "RotationPress$BitWriter" (85 : Nat) ({ cls := "RotationPress$FrontList", name := "raise", desc := "(I)I" } : Jvm.MethodName)) ∈ g_tbl := List.mem_filter.mpr ⟨List.mem_append_right (k2_sels lw_privs) (List.mem_append_right _ (List.mem_append_right _ (List.mem_append_right _ (List.mem_append_right _ (List.mem_append_left _ (List.mem_of_getElem? (l := tables_1_5) (i := 86) rfl)))))), rfl⟩
theorem BitWriter_putGroups_L38_mo {u8 : (Int32 × (Nat → Int32))} {s9 : (Int32 × Int32 × Int32 × Nat × (Nat → Int32) × Int32)} {o : ((Int32 × Int32 × Int32 × Nat × (Nat → Int32) × Int32) ⊕ (Int32 × Int32 × Nat × (Nat → Int32) × Int32))} (h : BitWriter_putGroups_L38 u8 s9 = some o) : s9.2.2.2.1 ≤ (fun (w : (Int32 × Int32 × Int32 × Nat × (Nat → Int32) × Int32) ⊕ (Int32 × Int32 × Nat × (Nat → Int32) × Int32)) => Sum.elim (fun (w : (Int32 × Int32 × Int32 × Nat × (Nat → Int32) × Int32)) => w.2.2.2.1) (fun (w : (Int32 × Int32 × Nat × (Nat → Int32) × Int32)) => w.2.2.1) w) o := by
  unfold BitWriter_putGroups_L38 at h
  by_cases c14 : u8.1 ≤ s9.1
  · have h := it_t c14 h
    exact mo_leaf (L := (fun (w : (Int32 × Int32 × Int32 × Nat × (Nat → Int32) × Int32) ⊕ (Int32 × Int32 × Nat × (Nat → Int32) × Int32)) => Sum.elim (fun (w : (Int32 × Int32 × Int32 × Nat × (Nat → Int32) × Int32)) => w.2.2.2.1) (fun (w : (Int32 × Int32 × Nat × (Nat → Int32) × Int32)) => w.2.2.1) w)) h (show s9.2.2.2.1 ≤ s9.2.2.2.1 by omega)
  · have h := it_f c14 h
    obtain ⟨u15, hu15, h⟩ := bd_some h
    have lu15 : s9.2.2.2.1 ≤ u15.2.2.1 := BitWriter_put_f_mo hu15
    exact mo_leaf (L := (fun (w : (Int32 × Int32 × Int32 × Nat × (Nat → Int32) × Int32) ⊕ (Int32 × Int32 × Nat × (Nat → Int32) × Int32)) => Sum.elim (fun (w : (Int32 × Int32 × Int32 × Nat × (Nat → Int32) × Int32)) => w.2.2.2.1) (fun (w : (Int32 × Int32 × Nat × (Nat → Int32) × Int32)) => w.2.2.1) w)) h (show s9.2.2.2.1 ≤ u15.2.2.1 by omega)
theorem BitWriter_putGroups_L13_mo {x_a1_groupCount : Int32} {u1 : (Int32 × (Nat → Int32))} {f_a1_groupTables : (Nat → Int32)} {s2 : (Int32 × (Nat → Int32) × Int32 × Int32 × Nat × (Nat → Int32) × Int32)} {o : ((Int32 × (Nat → Int32) × Int32 × Int32 × Nat × (Nat → Int32) × Int32) ⊕ ((Nat → Int32) × Int32 × Int32 × Nat × (Nat → Int32) × Int32))} (h : BitWriter_putGroups_L13 x_a1_groupCount u1 f_a1_groupTables s2 = some o) : s2.2.2.2.2.1 ≤ (fun (w : (Int32 × (Nat → Int32) × Int32 × Int32 × Nat × (Nat → Int32) × Int32) ⊕ ((Nat → Int32) × Int32 × Int32 × Nat × (Nat → Int32) × Int32)) => Sum.elim (fun (w : (Int32 × (Nat → Int32) × Int32 × Int32 × Nat × (Nat → Int32) × Int32)) => w.2.2.2.2.1) (fun (w : ((Nat → Int32) × Int32 × Int32 × Nat × (Nat → Int32) × Int32)) => w.2.2.2.1) w) o := by
  unfold BitWriter_putGroups_L13 at h
  by_cases c6 : x_a1_groupCount ≤ s2.1
  · have h := it_t c6 h
    exact mo_leaf (L := (fun (w : (Int32 × (Nat → Int32) × Int32 × Int32 × Nat × (Nat → Int32) × Int32) ⊕ ((Nat → Int32) × Int32 × Int32 × Nat × (Nat → Int32) × Int32)) => Sum.elim (fun (w : (Int32 × (Nat → Int32) × Int32 × Int32 × Nat × (Nat → Int32) × Int32)) => w.2.2.2.2.1) (fun (w : ((Nat → Int32) × Int32 × Int32 × Nat × (Nat → Int32) × Int32)) => w.2.2.2.1) w)) h (show s2.2.2.2.2.1 ≤ s2.2.2.2.2.1 by omega)
  · have h := it_f c6 h
    obtain ⟨_, h⟩ := gd_some h
    obtain ⟨u8, hu8, h⟩ := bd_some h
    obtain ⟨u10, hu10, h⟩ := bd_some h
    have lu10 : s2.2.2.2.2.1 ≤ (fun (w : (Int32 × Int32 × Nat × (Nat → Int32) × Int32)) => w.2.2.1) u10 := lp_mo (b := (BitWriter_putGroups_L38 u8)) (m := (fun (w : (Int32 × Int32 × Int32 × Nat × (Nat → Int32) × Int32)) => w.2.2.2.1)) (me := (fun (w : (Int32 × Int32 × Nat × (Nat → Int32) × Int32)) => w.2.2.1)) (fun w u hb => BitWriter_putGroups_L38_mo hb) ((0 : Int32), s2.2.2.1, s2.2.2.2.1, s2.2.2.2.2.1, s2.2.2.2.2.2.1, s2.2.2.2.2.2.2) hu10
    have lu10 : s2.2.2.2.2.1 ≤ u10.2.2.1 := lu10
    obtain ⟨u12, hu12, h⟩ := bd_some h
    have lu12 : u10.2.2.1 ≤ u12.2.2.1 := BitWriter_put_f_mo hu12
    exact mo_leaf (L := (fun (w : (Int32 × (Nat → Int32) × Int32 × Int32 × Nat × (Nat → Int32) × Int32) ⊕ ((Nat → Int32) × Int32 × Int32 × Nat × (Nat → Int32) × Int32)) => Sum.elim (fun (w : (Int32 × (Nat → Int32) × Int32 × Int32 × Nat × (Nat → Int32) × Int32)) => w.2.2.2.2.1) (fun (w : ((Nat → Int32) × Int32 × Int32 × Nat × (Nat → Int32) × Int32)) => w.2.2.2.1) w)) h (show s2.2.2.2.2.1 ≤ u12.2.2.1 by omega)
theorem BitWriter_putGroups_f_mo {x_a1_tableCount : Int32} {f_a0_tableList_members : (Nat → Int32)} {x_a1_groupCount : Int32} {f_a1_groupTables : (Nat → Int32)} {x_a0_held : Int32} {x_a0_heldCount : Int32} {n_a0_row_bytes : Nat} {f_a0_row_bytes : (Nat → Int32)} {x_a0_row_count : Int32} {o : (Int32 × (Nat → Int32) × Int32 × Int32 × Nat × (Nat → Int32) × Int32)} (h : BitWriter_putGroups_f x_a1_tableCount f_a0_tableList_members x_a1_groupCount f_a1_groupTables x_a0_held x_a0_heldCount n_a0_row_bytes f_a0_row_bytes x_a0_row_count = some o) : n_a0_row_bytes ≤ (fun (o : (Int32 × (Nat → Int32) × Int32 × Int32 × Nat × (Nat → Int32) × Int32)) => o.2.2.2.2.1) o := by
  unfold BitWriter_putGroups_f at h
  obtain ⟨u1, hu1, h⟩ := bd_some h
  obtain ⟨u3, hu3, h⟩ := bd_some h
  have lu3 : n_a0_row_bytes ≤ (fun (w : ((Nat → Int32) × Int32 × Int32 × Nat × (Nat → Int32) × Int32)) => w.2.2.2.1) u3 := lp_mo (b := (BitWriter_putGroups_L13 x_a1_groupCount u1 f_a1_groupTables)) (m := (fun (w : (Int32 × (Nat → Int32) × Int32 × Int32 × Nat × (Nat → Int32) × Int32)) => w.2.2.2.2.1)) (me := (fun (w : ((Nat → Int32) × Int32 × Int32 × Nat × (Nat → Int32) × Int32)) => w.2.2.2.1)) (fun w u hb => BitWriter_putGroups_L13_mo hb) ((0 : Int32), u1.2, x_a0_held, x_a0_heldCount, n_a0_row_bytes, f_a0_row_bytes, x_a0_row_count) hu3
  have lu3 : n_a0_row_bytes ≤ u3.2.2.2.1 := lu3
  exact mo_leaf (L := (fun (o : (Int32 × (Nat → Int32) × Int32 × Int32 × Nat × (Nat → Int32) × Int32)) => o.2.2.2.2.1)) h (show n_a0_row_bytes ≤ u3.2.2.2.1 by omega)
set_option maxRecDepth 100000 in
set_option maxHeartbeats 4000000 in
theorem m_BitWriter_putGroups {C : gT} (q_a0 : Nat) (q_a0_row : Nat) (q_a0_tableList : Nat) (x_a0_held : Int32) (x_a0_heldCount : Int32) (q_a1 : Nat) (r_a1_told : Nat) (x_a1_toldCount : Int32) (r_a1_last : Nat) (r_a1_ups : Nat) (r_a1_symbols : Nat) (x_a1_symbolCount : Int32) (r_a1_used : Nat) (r_a1_list : Nat) (x_a1_origin : Int32) (x_a1_check : Int32) (q_a1_groupTables : Nat) (x_a1_groupCount : Int32) (x_a1_tableCount : Int32) (r_a1_tables : Nat) (q_a0_tableList_members : Nat) (x_a0_tableList_count : Int32) (f_a0_tableList_members : (Nat → Int32)) (f_a1_groupTables : (Nat → Int32)) (q_a0_row_bytes : Nat) (x_a0_row_count : Int32) (n_a0_row_bytes : Nat) (f_a0_row_bytes : (Nat → Int32)) (out : (Int32 × (Nat → Int32) × Int32 × Int32 × Nat × (Nat → Int32) × Int32)) (hC : gOk C b_BitWriter_putGroups R_BitWriter { frames := 4, cells := out.2.2.2.2.1 - n_a0_row_bytes, slots := 2 * (out.2.2.2.2.1 - n_a0_row_bytes), locals := 111 } 5) (hf : BitWriter_putGroups_f x_a1_tableCount f_a0_tableList_members x_a1_groupCount f_a1_groupTables x_a0_held x_a0_heldCount n_a0_row_bytes f_a0_row_bytes x_a0_row_count = some out) (kr : ∀ (x : Nat) (o9 : (Int32 × (Nat → Int32) × Int32 × Int32 × Nat × (Nat → Int32) × Int32)) (pc : Nat) (lv : List (Nat × Value)), o9 = out → decode b_BitWriter_putGroups pc = .ok (.return_, 1) → gAt C (o9.2.2.2.2.1 - n_a0_row_bytes) (2 * (o9.2.2.2.2.1 - n_a0_row_bytes)) [(q_a0, .inr (2, [.ref q_a0_row, .ref q_a0_tableList, .int o9.2.2.1, .int o9.2.2.2.1])), (q_a1, .inr (3, [.ref r_a1_told, .int x_a1_toldCount, .ref r_a1_last, .ref r_a1_ups, .ref r_a1_symbols, .int x_a1_symbolCount, .ref r_a1_used, .ref r_a1_list, .int x_a1_origin, .int x_a1_check, .ref q_a1_groupTables, .int x_a1_groupCount, .int x_a1_tableCount, .ref r_a1_tables])), (q_a0_tableList, .inr (8, [.ref q_a0_tableList_members, .int o9.1])), (q_a0_tableList_members, .inl (g_K C 0, 256, .inl o9.2.1)), (q_a1_groupTables, .inl (g_K C 0, 46, .inl f_a1_groupTables)), (q_a0_row, .inr (4, [.ref x, .int o9.2.2.2.2.2.2])), (x, .inl (g_K C 0, o9.2.2.2.2.1, .inl o9.2.2.2.2.2.1))] lv pc []) : gAt C 0 0 [(q_a0, .inr (2, [.ref q_a0_row, .ref q_a0_tableList, .int x_a0_held, .int x_a0_heldCount])), (q_a1, .inr (3, [.ref r_a1_told, .int x_a1_toldCount, .ref r_a1_last, .ref r_a1_ups, .ref r_a1_symbols, .int x_a1_symbolCount, .ref r_a1_used, .ref r_a1_list, .int x_a1_origin, .int x_a1_check, .ref q_a1_groupTables, .int x_a1_groupCount, .int x_a1_tableCount, .ref r_a1_tables])), (q_a0_tableList, .inr (8, [.ref q_a0_tableList_members, .int x_a0_tableList_count])), (q_a0_tableList_members, .inl (g_K C 0, 256, .inl f_a0_tableList_members)), (q_a1_groupTables, .inl (g_K C 0, 46, .inl f_a1_groupTables)), (q_a0_row, .inr (4, [.ref q_a0_row_bytes, .int x_a0_row_count])), (q_a0_row_bytes, .inl (g_K C 0, n_a0_row_bytes, .inl f_a0_row_bytes))] [(0, .ref q_a0), (1, .ref q_a1)] 0 [] := by
  have hle : n_a0_row_bytes ≤ n_a0_row_bytes := Nat.le_refl _
  have hfi : n_a0_row_bytes ≤ out.2.2.2.2.1 := BitWriter_putGroups_f_mo hf
  refine g_wide (n_a0_row_bytes - n_a0_row_bytes) (2 * (n_a0_row_bytes - n_a0_row_bytes)) (Nat.zero_le _) (Nat.zero_le _) ?_
  unfold BitWriter_putGroups_f at hf
  refine g_aload_n 0 hC (j := 0) (hj := rfl) (hd := d_BitWriter_putGroups_0) ?_
  refine g_get 1 hC i_BitWriter rfl 0 rfl 1 (by decide) k270 rfl d_BitWriter_putGroups_1 ?_
  refine g_aload_n 4 hC (j := 1) (hj := rfl) (hd := d_BitWriter_putGroups_4) ?_
  refine g_get 5 hC i_Block rfl 1 rfl 12 (by decide) k167 rfl d_BitWriter_putGroups_5 ?_
  obtain ⟨u1, hu1, hf⟩ := bd_some hf
  refine g_callVv 8 hC (c_FrontList_beginWithFirst (g_l C) (g_D C) (g_K C) q_a0_tableList q_a0_tableList_members x_a0_tableList_count f_a0_tableList_members x_a1_tableCount u1 hu1) k1044 k6 k1041 k1042 k1043 1 rfl (by decide +kernel) ⟨Nat.le_of_ble_eq_true rfl, Nat.le_of_ble_eq_true rfl⟩ [2, 3] [0, 1, 4, 5, 6] [(q_a0, .inr (2, [.ref q_a0_row, .ref q_a0_tableList, .int x_a0_held, .int x_a0_heldCount])), (q_a1, .inr (3, [.ref r_a1_told, .int x_a1_toldCount, .ref r_a1_last, .ref r_a1_ups, .ref r_a1_symbols, .int x_a1_symbolCount, .ref r_a1_used, .ref r_a1_list, .int x_a1_origin, .int x_a1_check, .ref q_a1_groupTables, .int x_a1_groupCount, .int x_a1_tableCount, .ref r_a1_tables])), (q_a1_groupTables, .inl (g_K C 0, 46, .inl f_a1_groupTables)), (q_a0_row, .inr (4, [.ref q_a0_row_bytes, .int x_a0_row_count])), (q_a0_row_bytes, .inl (g_K C 0, n_a0_row_bytes, .inl f_a0_row_bytes))] rfl rfl rfl rfl rfl 0 8 rfl rfl rfl rfl (Nat.le_of_ble_eq_true rfl) ⟨show (n_a0_row_bytes - n_a0_row_bytes) + 0 ≤ out.2.2.2.2.1 - n_a0_row_bytes by omega, show (2 * (n_a0_row_bytes - n_a0_row_bytes)) + 0 ≤ 2 * (out.2.2.2.2.1 - n_a0_row_bytes) by omega⟩ (fun (_ : Unit) => [(q_a0, .inr (2, [.ref q_a0_row, .ref q_a0_tableList, .int x_a0_held, .int x_a0_heldCount])), (q_a1, .inr (3, [.ref r_a1_told, .int x_a1_toldCount, .ref r_a1_last, .ref r_a1_ups, .ref r_a1_symbols, .int x_a1_symbolCount, .ref r_a1_used, .ref r_a1_list, .int x_a1_origin, .int x_a1_check, .ref q_a1_groupTables, .int x_a1_groupCount, .int x_a1_tableCount, .ref r_a1_tables])), (q_a1_groupTables, .inl (g_K C 0, 46, .inl f_a1_groupTables)), (q_a0_row, .inr (4, [.ref q_a0_row_bytes, .int x_a0_row_count])), (q_a0_row_bytes, .inl (g_K C 0, n_a0_row_bytes, .inl f_a0_row_bytes)), (q_a0_tableList, .inr (8, [.ref q_a0_tableList_members, .int u1.1])), (q_a0_tableList_members, .inl (g_K C 0, 256, .inl u1.2))]) (fun _ => rfl) d_BitWriter_putGroups_8 (n_a0_row_bytes - n_a0_row_bytes) (2 * (n_a0_row_bytes - n_a0_row_bytes)) rfl rfl (fun _ => ?_)
  refine g_iconst 11 hC (0 : Int32) (by decide) d_BitWriter_putGroups_11 ?_
  refine g_istore_n 12 hC (lv2 := [(2, .int (0 : Int32)), (0, .ref q_a0), (1, .ref q_a1)]) (hn := (by decide)) (hl2 := rfl) (hd := d_BitWriter_putGroups_12) ?_
  obtain ⟨u3, hu3, hf⟩ := bd_some hf
  have hB : (fun (w : ((Nat → Int32) × Int32 × Int32 × Nat × (Nat → Int32) × Int32)) => w.2.2.2.1) u3 ≤ out.2.2.2.2.1 := by
    have h := hf
    exact mo_leaf (L := (fun (o : (Int32 × (Nat → Int32) × Int32 × Int32 × Nat × (Nat → Int32) × Int32)) => o.2.2.2.2.1)) h (show u3.2.2.2.1 ≤ u3.2.2.2.1 by omega)
  have Xu3_0 : ∀ (v4 : ((Nat → Int32) × Int32 × Int32 × Nat × (Nat → Int32) × Int32)), v4 = u3 → ∀ (y13_a0_row_bytes : Nat), n_a0_row_bytes ≤ v4.2.2.2.1 → gAt C (v4.2.2.2.1 - n_a0_row_bytes) (2 * (v4.2.2.2.1 - n_a0_row_bytes)) [(q_a0, .inr (2, [.ref q_a0_row, .ref q_a0_tableList, .int v4.2.1, .int v4.2.2.1])), (q_a1, .inr (3, [.ref r_a1_told, .int x_a1_toldCount, .ref r_a1_last, .ref r_a1_ups, .ref r_a1_symbols, .int x_a1_symbolCount, .ref r_a1_used, .ref r_a1_list, .int x_a1_origin, .int x_a1_check, .ref q_a1_groupTables, .int x_a1_groupCount, .int x_a1_tableCount, .ref r_a1_tables])), (q_a0_tableList, .inr (8, [.ref q_a0_tableList_members, .int u1.1])), (q_a0_tableList_members, .inl (g_K C 0, 256, .inl v4.1)), (q_a1_groupTables, .inl (g_K C 0, 46, .inl f_a1_groupTables)), (q_a0_row, .inr (4, [.ref y13_a0_row_bytes, .int v4.2.2.2.2.2])), (y13_a0_row_bytes, .inl (g_K C 0, v4.2.2.2.1, .inl v4.2.2.2.2.1))] [] 68 [] := by
    intro v4 hv y13_a0_row_bytes hle
    rw [← hv] at hf
    have hfi : v4.2.2.2.1 ≤ out.2.2.2.2.1 := by
      have h := hf
      exact mo_leaf (L := (fun (o : (Int32 × (Nat → Int32) × Int32 × Int32 × Nat × (Nat → Int32) × Int32)) => o.2.2.2.2.1)) h (show v4.2.2.2.1 ≤ v4.2.2.2.1 by omega)
    exact kr y13_a0_row_bytes (u1.1, v4.1, v4.2.1, v4.2.2.1, v4.2.2.2.1, v4.2.2.2.2.1, v4.2.2.2.2.2) 68 [] (Option.some.inj hf) d_BitWriter_putGroups_68
  have Gu3 := lp_indM (b := (BitWriter_putGroups_L13 x_a1_groupCount u1 f_a1_groupTables)) (G := fun (s2 : (Int32 × (Nat → Int32) × Int32 × Int32 × Nat × (Nat → Int32) × Int32)) => ∀ (y13_a0_row_bytes : Nat), n_a0_row_bytes ≤ s2.2.2.2.2.1 → gAt C (s2.2.2.2.2.1 - n_a0_row_bytes) (2 * (s2.2.2.2.2.1 - n_a0_row_bytes)) [(q_a0, .inr (2, [.ref q_a0_row, .ref q_a0_tableList, .int s2.2.2.1, .int s2.2.2.2.1])), (q_a1, .inr (3, [.ref r_a1_told, .int x_a1_toldCount, .ref r_a1_last, .ref r_a1_ups, .ref r_a1_symbols, .int x_a1_symbolCount, .ref r_a1_used, .ref r_a1_list, .int x_a1_origin, .int x_a1_check, .ref q_a1_groupTables, .int x_a1_groupCount, .int x_a1_tableCount, .ref r_a1_tables])), (q_a0_tableList, .inr (8, [.ref q_a0_tableList_members, .int u1.1])), (q_a0_tableList_members, .inl (g_K C 0, 256, .inl s2.2.1)), (q_a1_groupTables, .inl (g_K C 0, 46, .inl f_a1_groupTables)), (q_a0_row, .inr (4, [.ref y13_a0_row_bytes, .int s2.2.2.2.2.2.2])), (y13_a0_row_bytes, .inl (g_K C 0, s2.2.2.2.2.1, .inl s2.2.2.2.2.2.1))] [(0, .ref q_a0), (1, .ref q_a1), (2, .int s2.1)] 13 []) (o := u3) (m := (fun (w : (Int32 × (Nat → Int32) × Int32 × Int32 × Nat × (Nat → Int32) × Int32)) => w.2.2.2.2.1)) (me := (fun (w : ((Nat → Int32) × Int32 × Int32 × Nat × (Nat → Int32) × Int32)) => w.2.2.2.1)) (B := out.2.2.2.2.1) (fun w u hb => BitWriter_putGroups_L13_mo hb) hB (by
      intro s2 u5 hf hI hX hU y13_a0_row_bytes hle
      have hfi : s2.2.2.2.2.1 ≤ out.2.2.2.2.1 := Nat.le_trans (BitWriter_putGroups_L13_mo hf) hU
      unfold BitWriter_putGroups_L13 at hf
      refine g_iload_n 13 hC (j := 2) (hj := rfl) (hd := d_BitWriter_putGroups_13) ?_
      refine g_aload_n 14 hC (j := 1) (hj := rfl) (hd := d_BitWriter_putGroups_14) ?_
      refine g_get 15 hC i_Block rfl 1 rfl 11 (by decide) k163 rfl d_BitWriter_putGroups_15 ?_
      refine g_icmp_ge 18 hC 68 (by decide) d_BitWriter_putGroups_18 (fun c6 => ?_) (fun c6 => ?_)
      · have hf := it_t c6 hf
        exact g_re [0, 1, 2, 3, 4, 5, 6] [] rfl rfl rfl (Xu3_0 (s2.2.1, s2.2.2.1, s2.2.2.2.1, s2.2.2.2.2.1, s2.2.2.2.2.2.1, s2.2.2.2.2.2.2) (hX (s2.2.1, s2.2.2.1, s2.2.2.2.1, s2.2.2.2.2.1, s2.2.2.2.2.2.1, s2.2.2.2.2.2.2) hf) y13_a0_row_bytes hle)
      · have hf := it_f c6 hf
        refine g_aload_n 21 hC (j := 0) (hj := rfl) (hd := d_BitWriter_putGroups_21) ?_
        refine g_get 22 hC i_BitWriter rfl 0 rfl 1 (by decide) k270 rfl d_BitWriter_putGroups_22 ?_
        refine g_aload_n 25 hC (j := 1) (hj := rfl) (hd := d_BitWriter_putGroups_25) ?_
        refine g_get 26 hC i_Block rfl 1 rfl 10 (by decide) k159 rfl d_BitWriter_putGroups_26 ?_
        refine g_iload_n 29 hC (j := 2) (hj := rfl) (hd := d_BitWriter_putGroups_29) ?_
        obtain ⟨e7, hf⟩ := gd_some hf
        refine g_iald 30 hC 4 rfl e7 d_BitWriter_putGroups_30 ?_
        obtain ⟨u8, hu8, hf⟩ := bd_some hf
        refine g_callVi 31 hC (c_FrontList_raise (g_l C) (g_D C) (g_K C) q_a0_tableList q_a0_tableList_members u1.1 s2.2.1 (f_a1_groupTables s2.1.toNatClampNeg) u8 hu8) k966 k6 k1046 k964 k965 1 rfl (by decide +kernel) ⟨Nat.le_of_ble_eq_true rfl, Nat.le_of_ble_eq_true rfl⟩ [2, 3] [0, 1, 4, 5, 6] [(q_a0, .inr (2, [.ref q_a0_row, .ref q_a0_tableList, .int s2.2.2.1, .int s2.2.2.2.1])), (q_a1, .inr (3, [.ref r_a1_told, .int x_a1_toldCount, .ref r_a1_last, .ref r_a1_ups, .ref r_a1_symbols, .int x_a1_symbolCount, .ref r_a1_used, .ref r_a1_list, .int x_a1_origin, .int x_a1_check, .ref q_a1_groupTables, .int x_a1_groupCount, .int x_a1_tableCount, .ref r_a1_tables])), (q_a1_groupTables, .inl (g_K C 0, 46, .inl f_a1_groupTables)), (q_a0_row, .inr (4, [.ref y13_a0_row_bytes, .int s2.2.2.2.2.2.2])), (y13_a0_row_bytes, .inl (g_K C 0, s2.2.2.2.2.1, .inl s2.2.2.2.2.2.1))] rfl rfl rfl rfl rfl 0 8 rfl rfl rfl rfl (Nat.le_of_ble_eq_true rfl) ⟨show (s2.2.2.2.2.1 - n_a0_row_bytes) + 0 ≤ out.2.2.2.2.1 - n_a0_row_bytes by omega, show (2 * (s2.2.2.2.2.1 - n_a0_row_bytes)) + 0 ≤ 2 * (out.2.2.2.2.1 - n_a0_row_bytes) by omega⟩ (fun (_ : Unit) => [(q_a0, .inr (2, [.ref q_a0_row, .ref q_a0_tableList, .int s2.2.2.1, .int s2.2.2.2.1])), (q_a1, .inr (3, [.ref r_a1_told, .int x_a1_toldCount, .ref r_a1_last, .ref r_a1_ups, .ref r_a1_symbols, .int x_a1_symbolCount, .ref r_a1_used, .ref r_a1_list, .int x_a1_origin, .int x_a1_check, .ref q_a1_groupTables, .int x_a1_groupCount, .int x_a1_tableCount, .ref r_a1_tables])), (q_a1_groupTables, .inl (g_K C 0, 46, .inl f_a1_groupTables)), (q_a0_row, .inr (4, [.ref y13_a0_row_bytes, .int s2.2.2.2.2.2.2])), (y13_a0_row_bytes, .inl (g_K C 0, s2.2.2.2.2.1, .inl s2.2.2.2.2.2.1)), (q_a0_tableList, .inr (8, [.ref q_a0_tableList_members, .int u1.1])), (q_a0_tableList_members, .inl (g_K C 0, 256, .inl u8.2))]) (fun _ => rfl) d_BitWriter_putGroups_31 (s2.2.2.2.2.1 - n_a0_row_bytes) (2 * (s2.2.2.2.2.1 - n_a0_row_bytes)) rfl rfl (fun _ => ?_)
        refine g_istore_n 34 hC (lv2 := [(3, .int u8.1), (0, .ref q_a0), (1, .ref q_a1), (2, .int s2.1)]) (hn := (by decide)) (hl2 := rfl) (hd := d_BitWriter_putGroups_34) ?_
        refine g_iconst 35 hC (0 : Int32) (by decide) d_BitWriter_putGroups_35 ?_
        refine g_istore 36 hC (lv2 := [(4, .int (0 : Int32)), (3, .int u8.1), (0, .ref q_a0), (1, .ref q_a1), (2, .int s2.1)]) (hn := (by decide)) (hl2 := rfl) (hd := d_BitWriter_putGroups_36) ?_
        obtain ⟨u10, hu10, hf⟩ := bd_some hf
        have hB : (fun (w : (Int32 × Int32 × Nat × (Nat → Int32) × Int32)) => w.2.2.1) u10 ≤ out.2.2.2.2.1 := Nat.le_trans (show (fun (w : (Int32 × Int32 × Nat × (Nat → Int32) × Int32)) => w.2.2.1) u10 ≤ (fun (w : (Int32 × (Nat → Int32) × Int32 × Int32 × Nat × (Nat → Int32) × Int32) ⊕ ((Nat → Int32) × Int32 × Int32 × Nat × (Nat → Int32) × Int32)) => Sum.elim (fun (w : (Int32 × (Nat → Int32) × Int32 × Int32 × Nat × (Nat → Int32) × Int32)) => w.2.2.2.2.1) (fun (w : ((Nat → Int32) × Int32 × Int32 × Nat × (Nat → Int32) × Int32)) => w.2.2.2.1) w) u5 from by
          have h := hf
          obtain ⟨u12, hu12, h⟩ := bd_some h
          have lu12 : u10.2.2.1 ≤ u12.2.2.1 := BitWriter_put_f_mo hu12
          exact mo_leaf (L := (fun (w : (Int32 × (Nat → Int32) × Int32 × Int32 × Nat × (Nat → Int32) × Int32) ⊕ ((Nat → Int32) × Int32 × Int32 × Nat × (Nat → Int32) × Int32)) => Sum.elim (fun (w : (Int32 × (Nat → Int32) × Int32 × Int32 × Nat × (Nat → Int32) × Int32)) => w.2.2.2.2.1) (fun (w : ((Nat → Int32) × Int32 × Int32 × Nat × (Nat → Int32) × Int32)) => w.2.2.2.1) w)) h (show u10.2.2.1 ≤ u12.2.2.1 by omega)) hU
        have Xu10_0 : ∀ (v11 : (Int32 × Int32 × Nat × (Nat → Int32) × Int32)), v11 = u10 → ∀ (y38_a0_row_bytes : Nat), n_a0_row_bytes ≤ v11.2.2.1 → gAt C (v11.2.2.1 - n_a0_row_bytes) (2 * (v11.2.2.1 - n_a0_row_bytes)) [(q_a0, .inr (2, [.ref q_a0_row, .ref q_a0_tableList, .int v11.1, .int v11.2.1])), (q_a1, .inr (3, [.ref r_a1_told, .int x_a1_toldCount, .ref r_a1_last, .ref r_a1_ups, .ref r_a1_symbols, .int x_a1_symbolCount, .ref r_a1_used, .ref r_a1_list, .int x_a1_origin, .int x_a1_check, .ref q_a1_groupTables, .int x_a1_groupCount, .int x_a1_tableCount, .ref r_a1_tables])), (q_a0_tableList, .inr (8, [.ref q_a0_tableList_members, .int u1.1])), (q_a0_tableList_members, .inl (g_K C 0, 256, .inl u8.2)), (q_a1_groupTables, .inl (g_K C 0, 46, .inl f_a1_groupTables)), (q_a0_row, .inr (4, [.ref y38_a0_row_bytes, .int v11.2.2.2.2])), (y38_a0_row_bytes, .inl (g_K C 0, v11.2.2.1, .inl v11.2.2.2.1))] [(0, .ref q_a0), (1, .ref q_a1), (2, .int s2.1)] 56 [] := by
          intro v11 hv y38_a0_row_bytes hle
          rw [← hv] at hf
          have hfi : v11.2.2.1 ≤ out.2.2.2.2.1 := Nat.le_trans (show v11.2.2.1 ≤ (fun (w : (Int32 × (Nat → Int32) × Int32 × Int32 × Nat × (Nat → Int32) × Int32) ⊕ ((Nat → Int32) × Int32 × Int32 × Nat × (Nat → Int32) × Int32)) => Sum.elim (fun (w : (Int32 × (Nat → Int32) × Int32 × Int32 × Nat × (Nat → Int32) × Int32)) => w.2.2.2.2.1) (fun (w : ((Nat → Int32) × Int32 × Int32 × Nat × (Nat → Int32) × Int32)) => w.2.2.2.1) w) u5 from by
            have h := hf
            obtain ⟨u12, hu12, h⟩ := bd_some h
            have lu12 : v11.2.2.1 ≤ u12.2.2.1 := BitWriter_put_f_mo hu12
            exact mo_leaf (L := (fun (w : (Int32 × (Nat → Int32) × Int32 × Int32 × Nat × (Nat → Int32) × Int32) ⊕ ((Nat → Int32) × Int32 × Int32 × Nat × (Nat → Int32) × Int32)) => Sum.elim (fun (w : (Int32 × (Nat → Int32) × Int32 × Int32 × Nat × (Nat → Int32) × Int32)) => w.2.2.2.2.1) (fun (w : ((Nat → Int32) × Int32 × Int32 × Nat × (Nat → Int32) × Int32)) => w.2.2.2.1) w)) h (show v11.2.2.1 ≤ u12.2.2.1 by omega)) hU
          refine g_aload_n 56 hC (j := 0) (hj := rfl) (hd := d_BitWriter_putGroups_56) ?_
          refine g_iconst 57 hC (0 : Int32) (by decide) d_BitWriter_putGroups_57 ?_
          refine g_iconst 58 hC (1 : Int32) (by decide) d_BitWriter_putGroups_58 ?_
          obtain ⟨u12, hu12, hf⟩ := bd_some hf
          have lu12 : v11.2.2.1 ≤ u12.2.2.1 := BitWriter_put_f_mo hu12
          have hfi : u12.2.2.1 ≤ out.2.2.2.2.1 := Nat.le_trans (show u12.2.2.1 ≤ (fun (w : (Int32 × (Nat → Int32) × Int32 × Int32 × Nat × (Nat → Int32) × Int32) ⊕ ((Nat → Int32) × Int32 × Int32 × Nat × (Nat → Int32) × Int32)) => Sum.elim (fun (w : (Int32 × (Nat → Int32) × Int32 × Int32 × Nat × (Nat → Int32) × Int32)) => w.2.2.2.2.1) (fun (w : ((Nat → Int32) × Int32 × Int32 × Nat × (Nat → Int32) × Int32)) => w.2.2.2.1) w) u5 from by
            have h := hf
            exact mo_leaf (L := (fun (w : (Int32 × (Nat → Int32) × Int32 × Int32 × Nat × (Nat → Int32) × Int32) ⊕ ((Nat → Int32) × Int32 × Int32 × Nat × (Nat → Int32) × Int32)) => Sum.elim (fun (w : (Int32 × (Nat → Int32) × Int32 × Int32 × Nat × (Nat → Int32) × Int32)) => w.2.2.2.2.1) (fun (w : ((Nat → Int32) × Int32 × Int32 × Nat × (Nat → Int32) × Int32)) => w.2.2.2.1) w)) h (show u12.2.2.1 ≤ u12.2.2.1 by omega)) hU
          refine g_callVv 59 hC (c_BitWriter_put (g_l C) (g_D C) (g_K C) q_a0 q_a0_row q_a0_tableList v11.1 v11.2.1 y38_a0_row_bytes v11.2.2.2.2 v11.2.2.1 v11.2.2.2.1 (0 : Int32) (1 : Int32) u12 hu12) k639 k11 k636 k638 ks1 2 rfl (by decide +kernel) ⟨Nat.le_of_ble_eq_true rfl, Nat.le_of_ble_eq_true rfl⟩ [0, 5, 6] [1, 2, 3, 4] [(q_a1, .inr (3, [.ref r_a1_told, .int x_a1_toldCount, .ref r_a1_last, .ref r_a1_ups, .ref r_a1_symbols, .int x_a1_symbolCount, .ref r_a1_used, .ref r_a1_list, .int x_a1_origin, .int x_a1_check, .ref q_a1_groupTables, .int x_a1_groupCount, .int x_a1_tableCount, .ref r_a1_tables])), (q_a0_tableList, .inr (8, [.ref q_a0_tableList_members, .int u1.1])), (q_a0_tableList_members, .inl (g_K C 0, 256, .inl u8.2)), (q_a1_groupTables, .inl (g_K C 0, 46, .inl f_a1_groupTables))] rfl rfl rfl rfl rfl 0 2 rfl rfl rfl rfl (Nat.le_of_ble_eq_true rfl) ⟨show (v11.2.2.1 - n_a0_row_bytes) + (u12.2.2.1 - v11.2.2.1) ≤ out.2.2.2.2.1 - n_a0_row_bytes by omega, show (2 * (v11.2.2.1 - n_a0_row_bytes)) + 2 * (u12.2.2.1 - v11.2.2.1) ≤ 2 * (out.2.2.2.2.1 - n_a0_row_bytes) by omega⟩ (fun (xu12 : Nat) => [(q_a1, .inr (3, [.ref r_a1_told, .int x_a1_toldCount, .ref r_a1_last, .ref r_a1_ups, .ref r_a1_symbols, .int x_a1_symbolCount, .ref r_a1_used, .ref r_a1_list, .int x_a1_origin, .int x_a1_check, .ref q_a1_groupTables, .int x_a1_groupCount, .int x_a1_tableCount, .ref r_a1_tables])), (q_a0_tableList, .inr (8, [.ref q_a0_tableList_members, .int u1.1])), (q_a0_tableList_members, .inl (g_K C 0, 256, .inl u8.2)), (q_a1_groupTables, .inl (g_K C 0, 46, .inl f_a1_groupTables)), (q_a0, .inr (2, [.ref q_a0_row, .ref q_a0_tableList, .int u12.1, .int u12.2.1])), (q_a0_row, .inr (4, [.ref xu12, .int u12.2.2.2.2])), (xu12, .inl (g_K C 0, u12.2.2.1, .inl u12.2.2.2.1))]) (fun _ => rfl) d_BitWriter_putGroups_59 (u12.2.2.1 - n_a0_row_bytes) (2 * (u12.2.2.1 - n_a0_row_bytes)) (show (v11.2.2.1 - n_a0_row_bytes) + (u12.2.2.1 - v11.2.2.1) = (u12.2.2.1 - n_a0_row_bytes) by omega) (show (2 * (v11.2.2.1 - n_a0_row_bytes)) + 2 * (u12.2.2.1 - v11.2.2.1) = (2 * (u12.2.2.1 - n_a0_row_bytes)) by omega) (fun xu12 => ?_)
          have hle : n_a0_row_bytes ≤ u12.2.2.1 := by omega
          refine g_iinc 62 hC 2 (1 : Int32) [(2, .int (s2.1 + (1 : Int32))), (0, .ref q_a0), (1, .ref q_a1)] rfl (by decide) (by decide) rfl d_BitWriter_putGroups_62 ?_
          refine g_goto 65 hC 13 (by decide) d_BitWriter_putGroups_65 ?_
          exact g_re [4, 0, 1, 2, 3, 5, 6] [1, 2, 0] rfl rfl rfl (hI ((s2.1 + (1 : Int32)), u8.2, u12.1, u12.2.1, u12.2.2.1, u12.2.2.2.1, u12.2.2.2.2) hf xu12 hle)
        have Gu10 := lp_indM (b := (BitWriter_putGroups_L38 u8)) (G := fun (s9 : (Int32 × Int32 × Int32 × Nat × (Nat → Int32) × Int32)) => ∀ (y38_a0_row_bytes : Nat), n_a0_row_bytes ≤ s9.2.2.2.1 → gAt C (s9.2.2.2.1 - n_a0_row_bytes) (2 * (s9.2.2.2.1 - n_a0_row_bytes)) [(q_a0, .inr (2, [.ref q_a0_row, .ref q_a0_tableList, .int s9.2.1, .int s9.2.2.1])), (q_a1, .inr (3, [.ref r_a1_told, .int x_a1_toldCount, .ref r_a1_last, .ref r_a1_ups, .ref r_a1_symbols, .int x_a1_symbolCount, .ref r_a1_used, .ref r_a1_list, .int x_a1_origin, .int x_a1_check, .ref q_a1_groupTables, .int x_a1_groupCount, .int x_a1_tableCount, .ref r_a1_tables])), (q_a0_tableList, .inr (8, [.ref q_a0_tableList_members, .int u1.1])), (q_a0_tableList_members, .inl (g_K C 0, 256, .inl u8.2)), (q_a1_groupTables, .inl (g_K C 0, 46, .inl f_a1_groupTables)), (q_a0_row, .inr (4, [.ref y38_a0_row_bytes, .int s9.2.2.2.2.2])), (y38_a0_row_bytes, .inl (g_K C 0, s9.2.2.2.1, .inl s9.2.2.2.2.1))] [(0, .ref q_a0), (1, .ref q_a1), (2, .int s2.1), (3, .int u8.1), (4, .int s9.1)] 38 []) (o := u10) (m := (fun (w : (Int32 × Int32 × Int32 × Nat × (Nat → Int32) × Int32)) => w.2.2.2.1)) (me := (fun (w : (Int32 × Int32 × Nat × (Nat → Int32) × Int32)) => w.2.2.1)) (B := out.2.2.2.2.1) (fun w u hb => BitWriter_putGroups_L38_mo hb) hB (by
            intro s9 u13 hf hI hX hU y38_a0_row_bytes hle
            have hfi : s9.2.2.2.1 ≤ out.2.2.2.2.1 := Nat.le_trans (BitWriter_putGroups_L38_mo hf) hU
            unfold BitWriter_putGroups_L38 at hf
            refine g_iload 38 hC (j := 4) (hj := rfl) (hd := d_BitWriter_putGroups_38) ?_
            refine g_iload_n 40 hC (j := 3) (hj := rfl) (hd := d_BitWriter_putGroups_40) ?_
            refine g_icmp_ge 41 hC 56 (by decide) d_BitWriter_putGroups_41 (fun c14 => ?_) (fun c14 => ?_)
            · have hf := it_t c14 hf
              exact g_re [0, 1, 2, 3, 4, 5, 6] [0, 1, 2] rfl rfl rfl (Xu10_0 (s9.2.1, s9.2.2.1, s9.2.2.2.1, s9.2.2.2.2.1, s9.2.2.2.2.2) (hX (s9.2.1, s9.2.2.1, s9.2.2.2.1, s9.2.2.2.2.1, s9.2.2.2.2.2) hf) y38_a0_row_bytes hle)
            · have hf := it_f c14 hf
              refine g_aload_n 44 hC (j := 0) (hj := rfl) (hd := d_BitWriter_putGroups_44) ?_
              refine g_iconst 45 hC (1 : Int32) (by decide) d_BitWriter_putGroups_45 ?_
              refine g_iconst 46 hC (1 : Int32) (by decide) d_BitWriter_putGroups_46 ?_
              obtain ⟨u15, hu15, hf⟩ := bd_some hf
              have lu15 : s9.2.2.2.1 ≤ u15.2.2.1 := BitWriter_put_f_mo hu15
              have hfi : u15.2.2.1 ≤ out.2.2.2.2.1 := Nat.le_trans (show u15.2.2.1 ≤ (fun (w : (Int32 × Int32 × Int32 × Nat × (Nat → Int32) × Int32) ⊕ (Int32 × Int32 × Nat × (Nat → Int32) × Int32)) => Sum.elim (fun (w : (Int32 × Int32 × Int32 × Nat × (Nat → Int32) × Int32)) => w.2.2.2.1) (fun (w : (Int32 × Int32 × Nat × (Nat → Int32) × Int32)) => w.2.2.1) w) u13 from by
                have h := hf
                exact mo_leaf (L := (fun (w : (Int32 × Int32 × Int32 × Nat × (Nat → Int32) × Int32) ⊕ (Int32 × Int32 × Nat × (Nat → Int32) × Int32)) => Sum.elim (fun (w : (Int32 × Int32 × Int32 × Nat × (Nat → Int32) × Int32)) => w.2.2.2.1) (fun (w : (Int32 × Int32 × Nat × (Nat → Int32) × Int32)) => w.2.2.1) w)) h (show u15.2.2.1 ≤ u15.2.2.1 by omega)) hU
              refine g_callVv 47 hC (c_BitWriter_put (g_l C) (g_D C) (g_K C) q_a0 q_a0_row q_a0_tableList s9.2.1 s9.2.2.1 y38_a0_row_bytes s9.2.2.2.2.2 s9.2.2.2.1 s9.2.2.2.2.1 (1 : Int32) (1 : Int32) u15 hu15) k639 k11 k636 k638 ks1 2 rfl (by decide +kernel) ⟨Nat.le_of_ble_eq_true rfl, Nat.le_of_ble_eq_true rfl⟩ [0, 5, 6] [1, 2, 3, 4] [(q_a1, .inr (3, [.ref r_a1_told, .int x_a1_toldCount, .ref r_a1_last, .ref r_a1_ups, .ref r_a1_symbols, .int x_a1_symbolCount, .ref r_a1_used, .ref r_a1_list, .int x_a1_origin, .int x_a1_check, .ref q_a1_groupTables, .int x_a1_groupCount, .int x_a1_tableCount, .ref r_a1_tables])), (q_a0_tableList, .inr (8, [.ref q_a0_tableList_members, .int u1.1])), (q_a0_tableList_members, .inl (g_K C 0, 256, .inl u8.2)), (q_a1_groupTables, .inl (g_K C 0, 46, .inl f_a1_groupTables))] rfl rfl rfl rfl rfl 0 2 rfl rfl rfl rfl (Nat.le_of_ble_eq_true rfl) ⟨show (s9.2.2.2.1 - n_a0_row_bytes) + (u15.2.2.1 - s9.2.2.2.1) ≤ out.2.2.2.2.1 - n_a0_row_bytes by omega, show (2 * (s9.2.2.2.1 - n_a0_row_bytes)) + 2 * (u15.2.2.1 - s9.2.2.2.1) ≤ 2 * (out.2.2.2.2.1 - n_a0_row_bytes) by omega⟩ (fun (xu15 : Nat) => [(q_a1, .inr (3, [.ref r_a1_told, .int x_a1_toldCount, .ref r_a1_last, .ref r_a1_ups, .ref r_a1_symbols, .int x_a1_symbolCount, .ref r_a1_used, .ref r_a1_list, .int x_a1_origin, .int x_a1_check, .ref q_a1_groupTables, .int x_a1_groupCount, .int x_a1_tableCount, .ref r_a1_tables])), (q_a0_tableList, .inr (8, [.ref q_a0_tableList_members, .int u1.1])), (q_a0_tableList_members, .inl (g_K C 0, 256, .inl u8.2)), (q_a1_groupTables, .inl (g_K C 0, 46, .inl f_a1_groupTables)), (q_a0, .inr (2, [.ref q_a0_row, .ref q_a0_tableList, .int u15.1, .int u15.2.1])), (q_a0_row, .inr (4, [.ref xu15, .int u15.2.2.2.2])), (xu15, .inl (g_K C 0, u15.2.2.1, .inl u15.2.2.2.1))]) (fun _ => rfl) d_BitWriter_putGroups_47 (u15.2.2.1 - n_a0_row_bytes) (2 * (u15.2.2.1 - n_a0_row_bytes)) (show (s9.2.2.2.1 - n_a0_row_bytes) + (u15.2.2.1 - s9.2.2.2.1) = (u15.2.2.1 - n_a0_row_bytes) by omega) (show (2 * (s9.2.2.2.1 - n_a0_row_bytes)) + 2 * (u15.2.2.1 - s9.2.2.2.1) = (2 * (u15.2.2.1 - n_a0_row_bytes)) by omega) (fun xu15 => ?_)
              have hle : n_a0_row_bytes ≤ u15.2.2.1 := by omega
              refine g_iinc 50 hC 4 (1 : Int32) [(4, .int (s9.1 + (1 : Int32))), (0, .ref q_a0), (1, .ref q_a1), (2, .int s2.1), (3, .int u8.1)] rfl (by decide) (by decide) rfl d_BitWriter_putGroups_50 ?_
              refine g_goto 53 hC 38 (by decide) d_BitWriter_putGroups_53 ?_
              exact g_re [4, 0, 1, 2, 3, 5, 6] [1, 2, 3, 4, 0] rfl rfl rfl (hI ((s9.1 + (1 : Int32)), u15.1, u15.2.1, u15.2.2.1, u15.2.2.2.1, u15.2.2.2.2) hf xu15 hle)) gas
        exact g_re [0, 1, 5, 6, 2, 3, 4] [2, 3, 4, 1, 0] rfl rfl rfl (Gu10 ((0 : Int32), s2.2.2.1, s2.2.2.2.1, s2.2.2.2.2.1, s2.2.2.2.2.2.1, s2.2.2.2.2.2.2) hu10 y13_a0_row_bytes hle)) gas
  exact g_re [0, 1, 5, 6, 2, 3, 4] [1, 2, 0] rfl rfl rfl (Gu3 ((0 : Int32), u1.2, x_a0_held, x_a0_heldCount, n_a0_row_bytes, f_a0_row_bytes, x_a0_row_count) hu3 q_a0_row_bytes hle)
theorem c_BitWriter_putGroups (l : Launch) (D : va_G) (K : Nat → ClassId) (q_a0 : Nat) (q_a0_row : Nat) (q_a0_tableList : Nat) (x_a0_held : Int32) (x_a0_heldCount : Int32) (q_a1 : Nat) (r_a1_told : Nat) (x_a1_toldCount : Int32) (r_a1_last : Nat) (r_a1_ups : Nat) (r_a1_symbols : Nat) (x_a1_symbolCount : Int32) (r_a1_used : Nat) (r_a1_list : Nat) (x_a1_origin : Int32) (x_a1_check : Int32) (q_a1_groupTables : Nat) (x_a1_groupCount : Int32) (x_a1_tableCount : Int32) (r_a1_tables : Nat) (q_a0_tableList_members : Nat) (x_a0_tableList_count : Int32) (f_a0_tableList_members : (Nat → Int32)) (f_a1_groupTables : (Nat → Int32)) (q_a0_row_bytes : Nat) (x_a0_row_count : Int32) (n_a0_row_bytes : Nat) (f_a0_row_bytes : (Nat → Int32)) (out : (Int32 × (Nat → Int32) × Int32 × Int32 × Nat × (Nat → Int32) × Int32)) (hf : BitWriter_putGroups_f x_a1_tableCount f_a0_tableList_members x_a1_groupCount f_a1_groupTables x_a0_held x_a0_heldCount n_a0_row_bytes f_a0_row_bytes x_a0_row_count = some out) : Cv l D K y_BitWriter_putGroups (g_wd y_BitWriter_putGroups b_BitWriter_putGroups 5 none) { frames := 4, cells := out.2.2.2.2.1 - n_a0_row_bytes, slots := 2 * (out.2.2.2.2.1 - n_a0_row_bytes), locals := 111 } [.ref q_a0, .ref q_a1] [(q_a0, .inr (2, [.ref q_a0_row, .ref q_a0_tableList, .int x_a0_held, .int x_a0_heldCount])), (q_a1, .inr (3, [.ref r_a1_told, .int x_a1_toldCount, .ref r_a1_last, .ref r_a1_ups, .ref r_a1_symbols, .int x_a1_symbolCount, .ref r_a1_used, .ref r_a1_list, .int x_a1_origin, .int x_a1_check, .ref q_a1_groupTables, .int x_a1_groupCount, .int x_a1_tableCount, .ref r_a1_tables])), (q_a0_tableList, .inr (8, [.ref q_a0_tableList_members, .int x_a0_tableList_count])), (q_a0_tableList_members, .inl (K 0, 256, .inl f_a0_tableList_members)), (q_a1_groupTables, .inl (K 0, 46, .inl f_a1_groupTables)), (q_a0_row, .inr (4, [.ref q_a0_row_bytes, .int x_a0_row_count])), (q_a0_row_bytes, .inl (K 0, n_a0_row_bytes, .inl f_a0_row_bytes))] (fun (x : Nat) => [(q_a0, .inr (2, [.ref q_a0_row, .ref q_a0_tableList, .int out.2.2.1, .int out.2.2.2.1])), (q_a1, .inr (3, [.ref r_a1_told, .int x_a1_toldCount, .ref r_a1_last, .ref r_a1_ups, .ref r_a1_symbols, .int x_a1_symbolCount, .ref r_a1_used, .ref r_a1_list, .int x_a1_origin, .int x_a1_check, .ref q_a1_groupTables, .int x_a1_groupCount, .int x_a1_tableCount, .ref r_a1_tables])), (q_a0_tableList, .inr (8, [.ref q_a0_tableList_members, .int out.1])), (q_a0_tableList_members, .inl (K 0, 256, .inl out.2.1)), (q_a1_groupTables, .inl (K 0, 46, .inl f_a1_groupTables)), (q_a0_row, .inr (4, [.ref x, .int out.2.2.2.2.2.2])), (x, .inl (K 0, out.2.2.2.2.1, .inl out.2.2.2.2.2.1))]) := mk_v (by decide) (Nat.le_of_ble_eq_true rfl) (fun p e s m below meth c A Q hC kr => m_BitWriter_putGroups q_a0 q_a0_row q_a0_tableList x_a0_held x_a0_heldCount q_a1 r_a1_told x_a1_toldCount r_a1_last r_a1_ups r_a1_symbols x_a1_symbolCount r_a1_used r_a1_list x_a1_origin x_a1_check q_a1_groupTables x_a1_groupCount x_a1_tableCount r_a1_tables q_a0_tableList_members x_a0_tableList_count f_a0_tableList_members f_a1_groupTables q_a0_row_bytes x_a0_row_count n_a0_row_bytes f_a0_row_bytes out hC hf (fun x o9 pc lv ho => by subst ho; exact kr x pc lv))
