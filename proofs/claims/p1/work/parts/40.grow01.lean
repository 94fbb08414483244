abbrev b_BitWriter_put : ByteArray := prog_3_method_2_code
def y_BitWriter_put : MethodName := ⟨R_BitWriter, "put", "(II)V"⟩
theorem d_BitWriter_put_0 : decode b_BitWriter_put 0 = .ok (.iload_n 2, 1) := by decide +kernel
theorem d_BitWriter_put_1 : decode b_BitWriter_put 1 = .ok (.iconst 1, 1) := by decide +kernel
theorem d_BitWriter_put_2 : decode b_BitWriter_put 2 = .ok (.isub, 1) := by decide +kernel
theorem d_BitWriter_put_3 : decode b_BitWriter_put 3 = .ok (.istore_n 3, 1) := by decide +kernel
theorem d_BitWriter_put_4 : decode b_BitWriter_put 4 = .ok (.iload_n 3, 1) := by decide +kernel
theorem d_BitWriter_put_5 : decode b_BitWriter_put 5 = .ok (.ifCond .lt 65, 3) := by decide +kernel
theorem d_BitWriter_put_8 : decode b_BitWriter_put 8 = .ok (.aload_n 0, 1) := by decide +kernel
theorem d_BitWriter_put_9 : decode b_BitWriter_put 9 = .ok (.aload_n 0, 1) := by decide +kernel
theorem d_BitWriter_put_10 : decode b_BitWriter_put 10 = .ok (.getfield 22, 3) := by decide +kernel
theorem d_BitWriter_put_13 : decode b_BitWriter_put 13 = .ok (.iconst 1, 1) := by decide +kernel
theorem d_BitWriter_put_14 : decode b_BitWriter_put 14 = .ok (.ishl, 1) := by decide +kernel
theorem d_BitWriter_put_15 : decode b_BitWriter_put 15 = .ok (.iload_n 1, 1) := by decide +kernel
theorem d_BitWriter_put_16 : decode b_BitWriter_put 16 = .ok (.iload_n 3, 1) := by decide +kernel
theorem d_BitWriter_put_17 : decode b_BitWriter_put 17 = .ok (.iushr, 1) := by decide +kernel
theorem d_BitWriter_put_18 : decode b_BitWriter_put 18 = .ok (.iconst 1, 1) := by decide +kernel
theorem d_BitWriter_put_19 : decode b_BitWriter_put 19 = .ok (.iand, 1) := by decide +kernel
theorem d_BitWriter_put_20 : decode b_BitWriter_put 20 = .ok (.ior, 1) := by decide +kernel
theorem d_BitWriter_put_21 : decode b_BitWriter_put 21 = .ok (.putfield 22, 3) := by decide +kernel
theorem d_BitWriter_put_24 : decode b_BitWriter_put 24 = .ok (.aload_n 0, 1) := by decide +kernel
theorem d_BitWriter_put_25 : decode b_BitWriter_put 25 = .ok (.dup, 1) := by decide +kernel
theorem d_BitWriter_put_26 : decode b_BitWriter_put 26 = .ok (.getfield 26, 3) := by decide +kernel
theorem d_BitWriter_put_29 : decode b_BitWriter_put 29 = .ok (.iconst 1, 1) := by decide +kernel
theorem d_BitWriter_put_30 : decode b_BitWriter_put 30 = .ok (.iadd, 1) := by decide +kernel
theorem d_BitWriter_put_31 : decode b_BitWriter_put 31 = .ok (.putfield 26, 3) := by decide +kernel
theorem d_BitWriter_put_34 : decode b_BitWriter_put 34 = .ok (.aload_n 0, 1) := by decide +kernel
theorem d_BitWriter_put_35 : decode b_BitWriter_put 35 = .ok (.getfield 26, 3) := by decide +kernel
theorem d_BitWriter_put_38 : decode b_BitWriter_put 38 = .ok (.bipush 8, 2) := by decide +kernel
theorem d_BitWriter_put_40 : decode b_BitWriter_put 40 = .ok (.if_icmp .ne 24, 3) := by decide +kernel
theorem d_BitWriter_put_43 : decode b_BitWriter_put 43 = .ok (.aload_n 0, 1) := by decide +kernel
theorem d_BitWriter_put_44 : decode b_BitWriter_put 44 = .ok (.getfield 9, 3) := by decide +kernel
theorem d_BitWriter_put_47 : decode b_BitWriter_put 47 = .ok (.aload_n 0, 1) := by decide +kernel
theorem d_BitWriter_put_48 : decode b_BitWriter_put 48 = .ok (.getfield 22, 3) := by decide +kernel
theorem d_BitWriter_put_51 : decode b_BitWriter_put 51 = .ok (.invokevirtual 29, 3) := by decide +kernel
theorem d_BitWriter_put_54 : decode b_BitWriter_put 54 = .ok (.aload_n 0, 1) := by decide +kernel
theorem d_BitWriter_put_55 : decode b_BitWriter_put 55 = .ok (.iconst 0, 1) := by decide +kernel
theorem d_BitWriter_put_56 : decode b_BitWriter_put 56 = .ok (.putfield 22, 3) := by decide +kernel
theorem d_BitWriter_put_59 : decode b_BitWriter_put 59 = .ok (.aload_n 0, 1) := by decide +kernel
theorem d_BitWriter_put_60 : decode b_BitWriter_put 60 = .ok (.iconst 0, 1) := by decide +kernel
theorem d_BitWriter_put_61 : decode b_BitWriter_put 61 = .ok (.putfield 26, 3) := by decide +kernel
theorem d_BitWriter_put_64 : decode b_BitWriter_put 64 = .ok (.iinc 3 (-1), 3) := by decide +kernel
theorem d_BitWriter_put_67 : decode b_BitWriter_put 67 = .ok (.goto (-63), 3) := by decide +kernel
theorem d_BitWriter_put_70 : decode b_BitWriter_put 70 = .ok (.return_, 1) := by decide +kernel
theorem k271 : (Jvm.Cond.fieldLink "RotationPress$BitWriter" (22 : Nat) "RotationPress$BitWriter" "held" "I") ∈ g_tbl := List.mem_filter.mpr ⟨List.mem_append_right (k2_sels lw_privs) (List.mem_append_right _ (List.mem_append_left _ (List.mem_of_getElem? (l := tables_1_2) (i := 31) rfl))), rfl⟩
theorem k272 : (Jvm.Cond.fieldLink "RotationPress$BitWriter" (26 : Nat) "RotationPress$BitWriter" "heldCount" "I") ∈ g_tbl := List.mem_filter.mpr ⟨List.mem_append_right (k2_sels lw_privs) (List.mem_append_right _ (List.mem_append_left _ (List.mem_of_getElem? (l := tables_1_2) (i := 32) rfl))), rfl⟩
theorem k269 : (Jvm.Cond.fieldLink "RotationPress$BitWriter" (9 : Nat) "RotationPress$BitWriter" "row" "LRotationPress$ByteRow;") ∈ g_tbl := List.mem_filter.mpr ⟨List.mem_append_right (k2_sels lw_privs) (List.mem_append_right _ (List.mem_append_left _ (List.mem_of_getElem? (l := tables_1_2) (i := 29) rfl))), rfl⟩
theorem k640 : (Jvm.Cond.methodLink "RotationPress$BitWriter" (29 : Nat) ({ cls := "RotationPress$ByteRow", name := "add", desc := "(I)V" } : Jvm.MethodName)) ∈ g_tbl := List.mem_filter.mpr ⟨List.mem_append_right (k2_sels lw_privs) (List.mem_append_right _ (List.mem_append_right _ (List.mem_append_left _ (List.mem_of_getElem? (l := tables_1_3) (i := 160) rfl)))), rfl⟩
theorem BitWriter_put_J64_mo {s1 : (Int32 × Int32 × Int32 × Nat × (Nat → Int32) × Int32)} {j64_0 : Int32} {j64_1 : Int32} {j64_2 : Nat} {j64_3 : (Nat → Int32)} {j64_4 : Int32} {o : ((Int32 × Int32 × Int32 × Nat × (Nat → Int32) × Int32) ⊕ (Int32 × Int32 × Nat × (Nat → Int32) × Int32))} (h : BitWriter_put_J64 s1 j64_0 j64_1 j64_2 j64_3 j64_4 = some o) : j64_2 ≤ (fun (w : (Int32 × Int32 × Int32 × Nat × (Nat → Int32) × Int32) ⊕ (Int32 × Int32 × Nat × (Nat → Int32) × Int32)) => Sum.elim (fun (w : (Int32 × Int32 × Int32 × Nat × (Nat → Int32) × Int32)) => w.2.2.2.1) (fun (w : (Int32 × Int32 × Nat × (Nat → Int32) × Int32)) => w.2.2.1) w) o := by
  unfold BitWriter_put_J64 at h
  exact mo_leaf (L := (fun (w : (Int32 × Int32 × Int32 × Nat × (Nat → Int32) × Int32) ⊕ (Int32 × Int32 × Nat × (Nat → Int32) × Int32)) => Sum.elim (fun (w : (Int32 × Int32 × Int32 × Nat × (Nat → Int32) × Int32)) => w.2.2.2.1) (fun (w : (Int32 × Int32 × Nat × (Nat → Int32) × Int32)) => w.2.2.1) w)) h (show j64_2 ≤ j64_2 by omega)
theorem BitWriter_put_L4_mo {p1 : Int32} {s1 : (Int32 × Int32 × Int32 × Nat × (Nat → Int32) × Int32)} {o : ((Int32 × Int32 × Int32 × Nat × (Nat → Int32) × Int32) ⊕ (Int32 × Int32 × Nat × (Nat → Int32) × Int32))} (h : BitWriter_put_L4 p1 s1 = some o) : s1.2.2.2.1 ≤ (fun (w : (Int32 × Int32 × Int32 × Nat × (Nat → Int32) × Int32) ⊕ (Int32 × Int32 × Nat × (Nat → Int32) × Int32)) => Sum.elim (fun (w : (Int32 × Int32 × Int32 × Nat × (Nat → Int32) × Int32)) => w.2.2.2.1) (fun (w : (Int32 × Int32 × Nat × (Nat → Int32) × Int32)) => w.2.2.1) w) o := by
  unfold BitWriter_put_L4 at h
  by_cases c5 : s1.1 < 0
  · have h := it_t c5 h
    exact mo_leaf (L := (fun (w : (Int32 × Int32 × Int32 × Nat × (Nat → Int32) × Int32) ⊕ (Int32 × Int32 × Nat × (Nat → Int32) × Int32)) => Sum.elim (fun (w : (Int32 × Int32 × Int32 × Nat × (Nat → Int32) × Int32)) => w.2.2.2.1) (fun (w : (Int32 × Int32 × Nat × (Nat → Int32) × Int32)) => w.2.2.1) w)) h (show s1.2.2.2.1 ≤ s1.2.2.2.1 by omega)
  · have h := it_f c5 h
    by_cases c6 : (s1.2.2.1 + (1 : Int32)) = (8 : Int32)
    · have h := it_t c6 h
      obtain ⟨u7, hu7, h⟩ := bd_some h
      have lu7 : s1.2.2.2.1 ≤ u7.1 := ByteRow_add_f_mo hu7
      exact Nat.le_trans (show s1.2.2.2.1 ≤ u7.1 by omega) (BitWriter_put_J64_mo h)
    · have h := it_f c6 h
      exact Nat.le_trans (show s1.2.2.2.1 ≤ s1.2.2.2.1 by omega) (BitWriter_put_J64_mo h)
theorem BitWriter_put_f_mo {p1 : Int32} {p2 : Int32} {x_a0_held : Int32} {x_a0_heldCount : Int32} {n_a0_row_bytes : Nat} {f_a0_row_bytes : (Nat → Int32)} {x_a0_row_count : Int32} {o : (Int32 × Int32 × Nat × (Nat → Int32) × Int32)} (h : BitWriter_put_f p1 p2 x_a0_held x_a0_heldCount n_a0_row_bytes f_a0_row_bytes x_a0_row_count = some o) : n_a0_row_bytes ≤ (fun (o : (Int32 × Int32 × Nat × (Nat → Int32) × Int32)) => o.2.2.1) o := by
  unfold BitWriter_put_f at h
  obtain ⟨u2, hu2, h⟩ := bd_some h
  have lu2 : n_a0_row_bytes ≤ (fun (w : (Int32 × Int32 × Nat × (Nat → Int32) × Int32)) => w.2.2.1) u2 := lp_mo (b := (BitWriter_put_L4 p1)) (m := (fun (w : (Int32 × Int32 × Int32 × Nat × (Nat → Int32) × Int32)) => w.2.2.2.1)) (me := (fun (w : (Int32 × Int32 × Nat × (Nat → Int32) × Int32)) => w.2.2.1)) (fun w u hb => BitWriter_put_L4_mo hb) ((p2 - (1 : Int32)), x_a0_held, x_a0_heldCount, n_a0_row_bytes, f_a0_row_bytes, x_a0_row_count) hu2
  have lu2 : n_a0_row_bytes ≤ u2.2.2.1 := lu2
  exact mo_leaf (L := (fun (o : (Int32 × Int32 × Nat × (Nat → Int32) × Int32)) => o.2.2.1)) h (show n_a0_row_bytes ≤ u2.2.2.1 by omega)
set_option maxRecDepth 100000 in
set_option maxHeartbeats 4000000 in
theorem m_BitWriter_put {C : gT} (q_a0 : Nat) (q_a0_row : Nat) (r_a0_tableList : Nat) (x_a0_held : Int32) (x_a0_heldCount : Int32) (q_a0_row_bytes : Nat) (x_a0_row_count : Int32) (n_a0_row_bytes : Nat) (f_a0_row_bytes : (Nat → Int32)) (p1 : Int32) (p2 : Int32) (out : (Int32 × Int32 × Nat × (Nat → Int32) × Int32)) (hC : gOk C b_BitWriter_put R_BitWriter { frames := 3, cells := out.2.2.1 - n_a0_row_bytes, slots := 2 * (out.2.2.1 - n_a0_row_bytes), locals := 88 } 4) (hf : BitWriter_put_f p1 p2 x_a0_held x_a0_heldCount n_a0_row_bytes f_a0_row_bytes x_a0_row_count = some out) (kr : ∀ (x : Nat) (o9 : (Int32 × Int32 × Nat × (Nat → Int32) × Int32)) (pc : Nat) (lv : List (Nat × Value)), o9 = out → decode b_BitWriter_put pc = .ok (.return_, 1) → gAt C (o9.2.2.1 - n_a0_row_bytes) (2 * (o9.2.2.1 - n_a0_row_bytes)) [(q_a0, .inr (2, [.ref q_a0_row, .ref r_a0_tableList, .int o9.1, .int o9.2.1])), (q_a0_row, .inr (4, [.ref x, .int o9.2.2.2.2])), (x, .inl (g_K C 0, o9.2.2.1, .inl o9.2.2.2.1))] lv pc []) : gAt C 0 0 [(q_a0, .inr (2, [.ref q_a0_row, .ref r_a0_tableList, .int x_a0_held, .int x_a0_heldCount])), (q_a0_row, .inr (4, [.ref q_a0_row_bytes, .int x_a0_row_count])), (q_a0_row_bytes, .inl (g_K C 0, n_a0_row_bytes, .inl f_a0_row_bytes))] [(0, .ref q_a0), (1, .int p1), (2, .int p2)] 0 [] := by
  have hle : n_a0_row_bytes ≤ n_a0_row_bytes := Nat.le_refl _
  have hfi : n_a0_row_bytes ≤ out.2.2.1 := BitWriter_put_f_mo hf
  refine g_wide (n_a0_row_bytes - n_a0_row_bytes) (2 * (n_a0_row_bytes - n_a0_row_bytes)) (Nat.zero_le _) (Nat.zero_le _) ?_
  unfold BitWriter_put_f at hf
  refine g_iload_n 0 hC (j := 2) (hj := rfl) (hd := d_BitWriter_put_0) ?_
  refine g_iconst 1 hC (1 : Int32) (by decide) d_BitWriter_put_1 ?_
  refine g_isub 2 hC d_BitWriter_put_2 ?_
  refine g_istore_n 3 hC (lv2 := [(3, .int (p2 - (1 : Int32))), (0, .ref q_a0), (1, .int p1), (2, .int p2)]) (hn := (by decide)) (hl2 := rfl) (hd := d_BitWriter_put_3) ?_
  obtain ⟨u2, hu2, hf⟩ := bd_some hf
  have hB : (fun (w : (Int32 × Int32 × Nat × (Nat → Int32) × Int32)) => w.2.2.1) u2 ≤ out.2.2.1 := by
    have h := hf
    exact mo_leaf (L := (fun (o : (Int32 × Int32 × Nat × (Nat → Int32) × Int32)) => o.2.2.1)) h (show u2.2.2.1 ≤ u2.2.2.1 by omega)
  have Xu2_0 : ∀ (v3 : (Int32 × Int32 × Nat × (Nat → Int32) × Int32)), v3 = u2 → ∀ (y4_a0_row_bytes : Nat), n_a0_row_bytes ≤ v3.2.2.1 → gAt C (v3.2.2.1 - n_a0_row_bytes) (2 * (v3.2.2.1 - n_a0_row_bytes)) [(q_a0, .inr (2, [.ref q_a0_row, .ref r_a0_tableList, .int v3.1, .int v3.2.1])), (q_a0_row, .inr (4, [.ref y4_a0_row_bytes, .int v3.2.2.2.2])), (y4_a0_row_bytes, .inl (g_K C 0, v3.2.2.1, .inl v3.2.2.2.1))] [] 70 [] := by
    intro v3 hv y4_a0_row_bytes hle
    rw [← hv] at hf
    have hfi : v3.2.2.1 ≤ out.2.2.1 := by
      have h := hf
      exact mo_leaf (L := (fun (o : (Int32 × Int32 × Nat × (Nat → Int32) × Int32)) => o.2.2.1)) h (show v3.2.2.1 ≤ v3.2.2.1 by omega)
    exact kr y4_a0_row_bytes (v3.1, v3.2.1, v3.2.2.1, v3.2.2.2.1, v3.2.2.2.2) 70 [] (Option.some.inj hf) d_BitWriter_put_70
  have Gu2 := lp_indM (b := (BitWriter_put_L4 p1)) (G := fun (s1 : (Int32 × Int32 × Int32 × Nat × (Nat → Int32) × Int32)) => ∀ (y4_a0_row_bytes : Nat), n_a0_row_bytes ≤ s1.2.2.2.1 → gAt C (s1.2.2.2.1 - n_a0_row_bytes) (2 * (s1.2.2.2.1 - n_a0_row_bytes)) [(q_a0, .inr (2, [.ref q_a0_row, .ref r_a0_tableList, .int s1.2.1, .int s1.2.2.1])), (q_a0_row, .inr (4, [.ref y4_a0_row_bytes, .int s1.2.2.2.2.2])), (y4_a0_row_bytes, .inl (g_K C 0, s1.2.2.2.1, .inl s1.2.2.2.2.1))] [(0, .ref q_a0), (1, .int p1), (3, .int s1.1)] 4 []) (o := u2) (m := (fun (w : (Int32 × Int32 × Int32 × Nat × (Nat → Int32) × Int32)) => w.2.2.2.1)) (me := (fun (w : (Int32 × Int32 × Nat × (Nat → Int32) × Int32)) => w.2.2.1)) (B := out.2.2.1) (fun w u hb => BitWriter_put_L4_mo hb) hB (by
      intro s1 u4 hf hI hX hU y4_a0_row_bytes hle
      have hfi : s1.2.2.2.1 ≤ out.2.2.1 := Nat.le_trans (BitWriter_put_L4_mo hf) hU
      unfold BitWriter_put_L4 at hf
      have J64 : ∀ (j64_0 : Int32) (j64_1 : Int32) (j64_2 : Nat) (j64_3 : (Nat → Int32)) (j64_4 : Int32) (y64_a0_row_bytes : Nat), n_a0_row_bytes ≤ j64_2 → BitWriter_put_J64 s1 j64_0 j64_1 j64_2 j64_3 j64_4 = some u4 → gAt C (j64_2 - n_a0_row_bytes) (2 * (j64_2 - n_a0_row_bytes)) [(q_a0, .inr (2, [.ref q_a0_row, .ref r_a0_tableList, .int j64_0, .int j64_1])), (q_a0_row, .inr (4, [.ref y64_a0_row_bytes, .int j64_4])), (y64_a0_row_bytes, .inl (g_K C 0, j64_2, .inl j64_3))] [(0, .ref q_a0), (1, .int p1), (3, .int s1.1)] 64 [] := by
        intro j64_0 j64_1 j64_2 j64_3 j64_4 y64_a0_row_bytes hle hf
        have hfi : j64_2 ≤ out.2.2.1 := Nat.le_trans (show j64_2 ≤ (fun (w : (Int32 × Int32 × Int32 × Nat × (Nat → Int32) × Int32) ⊕ (Int32 × Int32 × Nat × (Nat → Int32) × Int32)) => Sum.elim (fun (w : (Int32 × Int32 × Int32 × Nat × (Nat → Int32) × Int32)) => w.2.2.2.1) (fun (w : (Int32 × Int32 × Nat × (Nat → Int32) × Int32)) => w.2.2.1) w) u4 from by
          exact BitWriter_put_J64_mo hf) hU
        unfold BitWriter_put_J64 at hf
        refine g_iinc 64 hC 2 (-1 : Int32) [(3, .int (s1.1 + (-1 : Int32))), (0, .ref q_a0), (1, .int p1)] rfl (by decide) (by decide) rfl d_BitWriter_put_64 ?_
        refine g_goto 67 hC 4 (by decide) d_BitWriter_put_67 ?_
        exact g_re [0, 1, 2] [1, 2, 0] rfl rfl rfl (hI ((s1.1 + (-1 : Int32)), j64_0, j64_1, j64_2, j64_3, j64_4) hf y64_a0_row_bytes hle)
      refine g_iload_n 4 hC (j := 2) (hj := rfl) (hd := d_BitWriter_put_4) ?_
      refine g_if_lt 5 hC 70 (by decide) d_BitWriter_put_5 (fun c5 => ?_) (fun c5 => ?_)
      · have hf := it_t c5 hf
        exact g_re [0, 1, 2] [] rfl rfl rfl (Xu2_0 (s1.2.1, s1.2.2.1, s1.2.2.2.1, s1.2.2.2.2.1, s1.2.2.2.2.2) (hX (s1.2.1, s1.2.2.1, s1.2.2.2.1, s1.2.2.2.2.1, s1.2.2.2.2.2) hf) y4_a0_row_bytes hle)
      · have hf := it_f c5 hf
        refine g_aload_n 8 hC (j := 0) (hj := rfl) (hd := d_BitWriter_put_8) ?_
        refine g_aload_n 9 hC (j := 0) (hj := rfl) (hd := d_BitWriter_put_9) ?_
        refine g_get 10 hC i_BitWriter rfl 0 rfl 2 (by decide) k271 rfl d_BitWriter_put_10 ?_
        refine g_iconst 13 hC (1 : Int32) (by decide) d_BitWriter_put_13 ?_
        refine g_ishl 14 hC d_BitWriter_put_14 ?_
        refine g_iload_n 15 hC (j := 1) (hj := rfl) (hd := d_BitWriter_put_15) ?_
        refine g_iload_n 16 hC (j := 2) (hj := rfl) (hd := d_BitWriter_put_16) ?_
        refine g_iushr 17 hC d_BitWriter_put_17 ?_
        refine g_iconst 18 hC (1 : Int32) (by decide) d_BitWriter_put_18 ?_
        refine g_iand 19 hC d_BitWriter_put_19 ?_
        refine g_ior 20 hC d_BitWriter_put_20 ?_
        refine g_put 21 hC i_BitWriter rfl 0 rfl 2 (by decide) t_BitWriter tk_BitWriter n_BitWriter k271 rfl rfl rfl (Nat.le_of_ble_eq_true rfl) [(q_a0, .inr (2, [.ref q_a0_row, .ref r_a0_tableList, .int ((s1.2.1 <<< ((1 : Int32) &&& 31)) ||| ((ush p1 s1.1) &&& (1 : Int32))), .int s1.2.2.1])), (q_a0_row, .inr (4, [.ref y4_a0_row_bytes, .int s1.2.2.2.2.2])), (y4_a0_row_bytes, .inl (g_K C 0, s1.2.2.2.1, .inl s1.2.2.2.2.1))] rfl d_BitWriter_put_21 ?_
        refine g_aload_n 24 hC (j := 0) (hj := rfl) (hd := d_BitWriter_put_24) ?_
        refine g_dup 25 hC rfl d_BitWriter_put_25 ?_
        refine g_get 26 hC i_BitWriter rfl 0 rfl 3 (by decide) k272 rfl d_BitWriter_put_26 ?_
        refine g_iconst 29 hC (1 : Int32) (by decide) d_BitWriter_put_29 ?_
        refine g_iadd 30 hC d_BitWriter_put_30 ?_
        refine g_put 31 hC i_BitWriter rfl 0 rfl 3 (by decide) t_BitWriter tk_BitWriter n_BitWriter k272 rfl rfl rfl (Nat.le_of_ble_eq_true rfl) [(q_a0, .inr (2, [.ref q_a0_row, .ref r_a0_tableList, .int ((s1.2.1 <<< ((1 : Int32) &&& 31)) ||| ((ush p1 s1.1) &&& (1 : Int32))), .int (s1.2.2.1 + (1 : Int32))])), (q_a0_row, .inr (4, [.ref y4_a0_row_bytes, .int s1.2.2.2.2.2])), (y4_a0_row_bytes, .inl (g_K C 0, s1.2.2.2.1, .inl s1.2.2.2.2.1))] rfl d_BitWriter_put_31 ?_
        refine g_aload_n 34 hC (j := 0) (hj := rfl) (hd := d_BitWriter_put_34) ?_
        refine g_get 35 hC i_BitWriter rfl 0 rfl 3 (by decide) k272 rfl d_BitWriter_put_35 ?_
        refine g_bipush 38 hC (8 : Int32) (by decide) d_BitWriter_put_38 ?_
        refine g_icmp_ne 40 hC 64 (by decide) d_BitWriter_put_40 (fun c6 => ?_) (fun c6 => ?_)
        · have hf := it_f c6 hf
          exact J64 ((s1.2.1 <<< ((1 : Int32) &&& 31)) ||| ((ush p1 s1.1) &&& (1 : Int32))) (s1.2.2.1 + (1 : Int32)) s1.2.2.2.1 s1.2.2.2.2.1 s1.2.2.2.2.2 y4_a0_row_bytes hle hf
        · have hf := it_t c6 hf
          refine g_aload_n 43 hC (j := 0) (hj := rfl) (hd := d_BitWriter_put_43) ?_
          refine g_get 44 hC i_BitWriter rfl 0 rfl 0 (by decide) k269 rfl d_BitWriter_put_44 ?_
          refine g_aload_n 47 hC (j := 0) (hj := rfl) (hd := d_BitWriter_put_47) ?_
          refine g_get 48 hC i_BitWriter rfl 0 rfl 2 (by decide) k271 rfl d_BitWriter_put_48 ?_
          obtain ⟨u7, hu7, hf⟩ := bd_some hf
          have lu7 : s1.2.2.2.1 ≤ u7.1 := ByteRow_add_f_mo hu7
          have hfi : u7.1 ≤ out.2.2.1 := Nat.le_trans (show u7.1 ≤ (fun (w : (Int32 × Int32 × Int32 × Nat × (Nat → Int32) × Int32) ⊕ (Int32 × Int32 × Nat × (Nat → Int32) × Int32)) => Sum.elim (fun (w : (Int32 × Int32 × Int32 × Nat × (Nat → Int32) × Int32)) => w.2.2.2.1) (fun (w : (Int32 × Int32 × Nat × (Nat → Int32) × Int32)) => w.2.2.1) w) u4 from by
            have h := hf
            exact Nat.le_trans (show u7.1 ≤ u7.1 by omega) (BitWriter_put_J64_mo h)) hU
          refine g_callVv 51 hC (c_ByteRow_add (g_l C) (g_D C) (g_K C) q_a0_row y4_a0_row_bytes s1.2.2.2.2.2 s1.2.2.2.1 s1.2.2.2.2.1 ((s1.2.1 <<< ((1 : Int32) &&& 31)) ||| ((ush p1 s1.1) &&& (1 : Int32))) u7 hu7) k532 k2 k640 k530 k531 1 rfl (by decide +kernel) ⟨Nat.le_of_ble_eq_true rfl, Nat.le_of_ble_eq_true rfl⟩ [1, 2] [0] [(q_a0, .inr (2, [.ref q_a0_row, .ref r_a0_tableList, .int ((s1.2.1 <<< ((1 : Int32) &&& 31)) ||| ((ush p1 s1.1) &&& (1 : Int32))), .int (s1.2.2.1 + (1 : Int32))]))] rfl rfl rfl rfl rfl 0 4 rfl rfl rfl rfl (Nat.le_of_ble_eq_true rfl) ⟨show (s1.2.2.2.1 - n_a0_row_bytes) + (u7.1 - s1.2.2.2.1) ≤ out.2.2.1 - n_a0_row_bytes by omega, show (2 * (s1.2.2.2.1 - n_a0_row_bytes)) + 2 * (u7.1 - s1.2.2.2.1) ≤ 2 * (out.2.2.1 - n_a0_row_bytes) by omega⟩ (fun (xu7 : Nat) => [(q_a0, .inr (2, [.ref q_a0_row, .ref r_a0_tableList, .int ((s1.2.1 <<< ((1 : Int32) &&& 31)) ||| ((ush p1 s1.1) &&& (1 : Int32))), .int (s1.2.2.1 + (1 : Int32))])), (q_a0_row, .inr (4, [.ref xu7, .int u7.2.2])), (xu7, .inl (g_K C 0, u7.1, .inl u7.2.1))]) (fun _ => rfl) d_BitWriter_put_51 (u7.1 - n_a0_row_bytes) (2 * (u7.1 - n_a0_row_bytes)) (show (s1.2.2.2.1 - n_a0_row_bytes) + (u7.1 - s1.2.2.2.1) = (u7.1 - n_a0_row_bytes) by omega) (show (2 * (s1.2.2.2.1 - n_a0_row_bytes)) + 2 * (u7.1 - s1.2.2.2.1) = (2 * (u7.1 - n_a0_row_bytes)) by omega) (fun xu7 => ?_)
          have hle : n_a0_row_bytes ≤ u7.1 := by omega
          refine g_aload_n 54 hC (j := 0) (hj := rfl) (hd := d_BitWriter_put_54) ?_
          refine g_iconst 55 hC (0 : Int32) (by decide) d_BitWriter_put_55 ?_
          refine g_put 56 hC i_BitWriter rfl 0 rfl 2 (by decide) t_BitWriter tk_BitWriter n_BitWriter k271 rfl rfl rfl (Nat.le_of_ble_eq_true rfl) [(q_a0, .inr (2, [.ref q_a0_row, .ref r_a0_tableList, .int (0 : Int32), .int (s1.2.2.1 + (1 : Int32))])), (q_a0_row, .inr (4, [.ref xu7, .int u7.2.2])), (xu7, .inl (g_K C 0, u7.1, .inl u7.2.1))] rfl d_BitWriter_put_56 ?_
          refine g_aload_n 59 hC (j := 0) (hj := rfl) (hd := d_BitWriter_put_59) ?_
          refine g_iconst 60 hC (0 : Int32) (by decide) d_BitWriter_put_60 ?_
          refine g_put 61 hC i_BitWriter rfl 0 rfl 3 (by decide) t_BitWriter tk_BitWriter n_BitWriter k272 rfl rfl rfl (Nat.le_of_ble_eq_true rfl) [(q_a0, .inr (2, [.ref q_a0_row, .ref r_a0_tableList, .int (0 : Int32), .int (0 : Int32)])), (q_a0_row, .inr (4, [.ref xu7, .int u7.2.2])), (xu7, .inl (g_K C 0, u7.1, .inl u7.2.1))] rfl d_BitWriter_put_61 ?_
          exact J64 (0 : Int32) (0 : Int32) u7.1 u7.2.1 u7.2.2 xu7 hle hf) gas
  exact g_re [0, 1, 2] [1, 2, 0] rfl rfl rfl (Gu2 ((p2 - (1 : Int32)), x_a0_held, x_a0_heldCount, n_a0_row_bytes, f_a0_row_bytes, x_a0_row_count) hu2 q_a0_row_bytes hle)
theorem c_BitWriter_put (l : Launch) (D : va_G) (K : Nat → ClassId) (q_a0 : Nat) (q_a0_row : Nat) (r_a0_tableList : Nat) (x_a0_held : Int32) (x_a0_heldCount : Int32) (q_a0_row_bytes : Nat) (x_a0_row_count : Int32) (n_a0_row_bytes : Nat) (f_a0_row_bytes : (Nat → Int32)) (p1 : Int32) (p2 : Int32) (out : (Int32 × Int32 × Nat × (Nat → Int32) × Int32)) (hf : BitWriter_put_f p1 p2 x_a0_held x_a0_heldCount n_a0_row_bytes f_a0_row_bytes x_a0_row_count = some out) : Cv l D K y_BitWriter_put (g_wd y_BitWriter_put b_BitWriter_put 4 none) { frames := 3, cells := out.2.2.1 - n_a0_row_bytes, slots := 2 * (out.2.2.1 - n_a0_row_bytes), locals := 88 } [.ref q_a0, .int p1, .int p2] [(q_a0, .inr (2, [.ref q_a0_row, .ref r_a0_tableList, .int x_a0_held, .int x_a0_heldCount])), (q_a0_row, .inr (4, [.ref q_a0_row_bytes, .int x_a0_row_count])), (q_a0_row_bytes, .inl (K 0, n_a0_row_bytes, .inl f_a0_row_bytes))] (fun (x : Nat) => [(q_a0, .inr (2, [.ref q_a0_row, .ref r_a0_tableList, .int out.1, .int out.2.1])), (q_a0_row, .inr (4, [.ref x, .int out.2.2.2.2])), (x, .inl (K 0, out.2.2.1, .inl out.2.2.2.1))]) := mk_v (by decide) (Nat.le_of_ble_eq_true rfl) (fun p e s m below meth c A Q hC kr => m_BitWriter_put q_a0 q_a0_row r_a0_tableList x_a0_held x_a0_heldCount q_a0_row_bytes x_a0_row_count n_a0_row_bytes f_a0_row_bytes p1 p2 out hC hf (fun x o9 pc lv ho => by subst ho; exact kr x pc lv))
abbrev b_BitWriter_begin : ByteArray := prog_3_method_3_code
def y_BitWriter_begin : MethodName := ⟨R_BitWriter, "begin", "(I)V"⟩
theorem d_BitWriter_begin_0 : decode b_BitWriter_begin 0 = .ok (.aload_n 0, 1) := by decide +kernel
theorem d_BitWriter_begin_1 : decode b_BitWriter_begin 1 = .ok (.getfield 9, 3) := by decide +kernel
theorem d_BitWriter_begin_4 : decode b_BitWriter_begin 4 = .ok (.iconst 0, 1) := by decide +kernel
theorem d_BitWriter_begin_5 : decode b_BitWriter_begin 5 = .ok (.putfield 35, 3) := by decide +kernel
theorem d_BitWriter_begin_8 : decode b_BitWriter_begin 8 = .ok (.aload_n 0, 1) := by decide +kernel
theorem d_BitWriter_begin_9 : decode b_BitWriter_begin 9 = .ok (.bipush 82, 2) := by decide +kernel
theorem d_BitWriter_begin_11 : decode b_BitWriter_begin 11 = .ok (.bipush 8, 2) := by decide +kernel
theorem d_BitWriter_begin_13 : decode b_BitWriter_begin 13 = .ok (.invokevirtual 38, 3) := by decide +kernel
theorem d_BitWriter_begin_16 : decode b_BitWriter_begin 16 = .ok (.aload_n 0, 1) := by decide +kernel
theorem d_BitWriter_begin_17 : decode b_BitWriter_begin 17 = .ok (.bipush 80, 2) := by decide +kernel
theorem d_BitWriter_begin_19 : decode b_BitWriter_begin 19 = .ok (.bipush 8, 2) := by decide +kernel
theorem d_BitWriter_begin_21 : decode b_BitWriter_begin 21 = .ok (.invokevirtual 38, 3) := by decide +kernel
theorem d_BitWriter_begin_24 : decode b_BitWriter_begin 24 = .ok (.aload_n 0, 1) := by decide +kernel
theorem d_BitWriter_begin_25 : decode b_BitWriter_begin 25 = .ok (.bipush 48, 2) := by decide +kernel
theorem d_BitWriter_begin_27 : decode b_BitWriter_begin 27 = .ok (.iload_n 1, 1) := by decide +kernel
theorem d_BitWriter_begin_28 : decode b_BitWriter_begin 28 = .ok (.iadd, 1) := by decide +kernel
theorem d_BitWriter_begin_29 : decode b_BitWriter_begin 29 = .ok (.bipush 8, 2) := by decide +kernel
theorem d_BitWriter_begin_31 : decode b_BitWriter_begin 31 = .ok (.invokevirtual 38, 3) := by decide +kernel
theorem d_BitWriter_begin_34 : decode b_BitWriter_begin 34 = .ok (.return_, 1) := by decide +kernel
theorem k55 : (Jvm.Cond.fieldLink "RotationPress$BitWriter" (35 : Nat) "RotationPress$ByteRow" "count" "I") ∈ g_tbl := List.mem_filter.mpr ⟨List.mem_append_right (k2_sels lw_privs) (List.mem_append_left _ (List.mem_of_getElem? (l := tables_1_1) (i := 55) rfl)), rfl⟩
theorem k639 : (Jvm.Cond.code ({ cls := "RotationPress$BitWriter", name := "put", desc := "(II)V" } : Jvm.MethodName) prog_3_method_2_code (4 : Nat) (Option.none : Option Jvm.ClassFile.FieldType)) ∈ g_tbl := List.mem_filter.mpr ⟨List.mem_append_right (k2_sels lw_privs) (List.mem_append_right _ (List.mem_append_right _ (List.mem_append_left _ (List.mem_of_getElem? (l := tables_1_3) (i := 159) rfl)))), rfl⟩
theorem k11 : (Jvm.Cond.initialized "RotationPress$BitWriter") ∈ g_tbl := List.mem_filter.mpr ⟨List.mem_append_right (k2_sels lw_privs) (List.mem_append_left _ (List.mem_of_getElem? (l := tables_1_1) (i := 11) rfl)), rfl⟩
theorem k636 : (Jvm.Cond.methodLink "RotationPress$BitWriter" (38 : Nat) ({ cls := "RotationPress$BitWriter", name := "put", desc := "(II)V" } : Jvm.MethodName)) ∈ g_tbl := List.mem_filter.mpr ⟨List.mem_append_right (k2_sels lw_privs) (List.mem_append_right _ (List.mem_append_right _ (List.mem_append_left _ (List.mem_of_getElem? (l := tables_1_3) (i := 156) rfl)))), rfl⟩
theorem k638 : (Jvm.Cond.instanceMethod ({ cls := "RotationPress$BitWriter", name := "put", desc := "(II)V" } : Jvm.MethodName)) ∈ g_tbl := List.mem_filter.mpr ⟨List.mem_append_right (k2_sels lw_privs) (List.mem_append_right _ (List.mem_append_right _ (List.mem_append_left _ (List.mem_of_getElem? (l := tables_1_3) (i := 158) rfl)))), rfl⟩
theorem ks1 : (Jvm.Cond.selects "RotationPress$BitWriter" ({ cls := "RotationPress$BitWriter", name := "put", desc := "(II)V" } : Jvm.MethodName) ({ cls := "RotationPress$BitWriter", name := "put", desc := "(II)V" } : Jvm.MethodName)) ∈ g_tbl := List.mem_filter.mpr ⟨List.mem_append_left _ (List.mem_map.mpr ⟨(({ cls := "RotationPress$BitWriter", name := "put", desc := "(II)V" } : Jvm.MethodName), _), List.mem_of_getElem? (i := 1) rfl, rfl⟩), rfl⟩
theorem BitWriter_begin_f_mo {x_a0_held : Int32} {x_a0_heldCount : Int32} {n_a0_row_bytes : Nat} {f_a0_row_bytes : (Nat → Int32)} {p1 : Int32} {o : (Int32 × Int32 × Int32 × Nat × (Nat → Int32))} (h : BitWriter_begin_f x_a0_held x_a0_heldCount n_a0_row_bytes f_a0_row_bytes p1 = some o) : n_a0_row_bytes ≤ (fun (o : (Int32 × Int32 × Int32 × Nat × (Nat → Int32))) => o.2.2.2.1) o := by
  unfold BitWriter_begin_f at h
  obtain ⟨u1, hu1, h⟩ := bd_some h
  have lu1 : n_a0_row_bytes ≤ u1.2.2.1 := BitWriter_put_f_mo hu1
  obtain ⟨u2, hu2, h⟩ := bd_some h
  have lu2 : u1.2.2.1 ≤ u2.2.2.1 := BitWriter_put_f_mo hu2
  obtain ⟨u3, hu3, h⟩ := bd_some h
  have lu3 : u2.2.2.1 ≤ u3.2.2.1 := BitWriter_put_f_mo hu3
  exact mo_leaf (L := (fun (o : (Int32 × Int32 × Int32 × Nat × (Nat → Int32))) => o.2.2.2.1)) h (show n_a0_row_bytes ≤ u3.2.2.1 by omega)
set_option maxRecDepth 100000 in
set_option maxHeartbeats 4000000 in
theorem m_BitWriter_begin {C : gT} (q_a0 : Nat) (q_a0_row : Nat) (r_a0_tableList : Nat) (x_a0_held : Int32) (x_a0_heldCount : Int32) (q_a0_row_bytes : Nat) (x_a0_row_count : Int32) (n_a0_row_bytes : Nat) (f_a0_row_bytes : (Nat → Int32)) (p1 : Int32) (out : (Int32 × Int32 × Int32 × Nat × (Nat → Int32))) (hC : gOk C b_BitWriter_begin R_BitWriter { frames := 4, cells := out.2.2.2.1 - n_a0_row_bytes, slots := 2 * (out.2.2.2.1 - n_a0_row_bytes), locals := 111 } 2) (hf : BitWriter_begin_f x_a0_held x_a0_heldCount n_a0_row_bytes f_a0_row_bytes p1 = some out) (kr : ∀ (x : Nat) (o9 : (Int32 × Int32 × Int32 × Nat × (Nat → Int32))) (pc : Nat) (lv : List (Nat × Value)), o9 = out → decode b_BitWriter_begin pc = .ok (.return_, 1) → gAt C (o9.2.2.2.1 - n_a0_row_bytes) (2 * (o9.2.2.2.1 - n_a0_row_bytes)) [(q_a0, .inr (2, [.ref q_a0_row, .ref r_a0_tableList, .int o9.2.1, .int o9.2.2.1])), (q_a0_row, .inr (4, [.ref x, .int o9.1])), (x, .inl (g_K C 0, o9.2.2.2.1, .inl o9.2.2.2.2))] lv pc []) : gAt C 0 0 [(q_a0, .inr (2, [.ref q_a0_row, .ref r_a0_tableList, .int x_a0_held, .int x_a0_heldCount])), (q_a0_row, .inr (4, [.ref q_a0_row_bytes, .int x_a0_row_count])), (q_a0_row_bytes, .inl (g_K C 0, n_a0_row_bytes, .inl f_a0_row_bytes))] [(0, .ref q_a0), (1, .int p1)] 0 [] := by
  have hle : n_a0_row_bytes ≤ n_a0_row_bytes := Nat.le_refl _
  have hfi : n_a0_row_bytes ≤ out.2.2.2.1 := BitWriter_begin_f_mo hf
  refine g_wide (n_a0_row_bytes - n_a0_row_bytes) (2 * (n_a0_row_bytes - n_a0_row_bytes)) (Nat.zero_le _) (Nat.zero_le _) ?_
  unfold BitWriter_begin_f at hf
  refine g_aload_n 0 hC (j := 0) (hj := rfl) (hd := d_BitWriter_begin_0) ?_
  refine g_get 1 hC i_BitWriter rfl 0 rfl 0 (by decide) k269 rfl d_BitWriter_begin_1 ?_
  refine g_iconst 4 hC (0 : Int32) (by decide) d_BitWriter_begin_4 ?_
  refine g_put 5 hC i_ByteRow rfl 1 rfl 1 (by decide) t_ByteRow tk_ByteRow n_ByteRow k55 rfl rfl rfl (Nat.le_of_ble_eq_true rfl) [(q_a0, .inr (2, [.ref q_a0_row, .ref r_a0_tableList, .int x_a0_held, .int x_a0_heldCount])), (q_a0_row, .inr (4, [.ref q_a0_row_bytes, .int (0 : Int32)])), (q_a0_row_bytes, .inl (g_K C 0, n_a0_row_bytes, .inl f_a0_row_bytes))] rfl d_BitWriter_begin_5 ?_
  refine g_aload_n 8 hC (j := 0) (hj := rfl) (hd := d_BitWriter_begin_8) ?_
  refine g_bipush 9 hC (82 : Int32) (by decide) d_BitWriter_begin_9 ?_
  refine g_bipush 11 hC (8 : Int32) (by decide) d_BitWriter_begin_11 ?_
  obtain ⟨u1, hu1, hf⟩ := bd_some hf
  have lu1 : n_a0_row_bytes ≤ u1.2.2.1 := BitWriter_put_f_mo hu1
  have hfi : u1.2.2.1 ≤ out.2.2.2.1 := by
    have h := hf
    obtain ⟨u2, hu2, h⟩ := bd_some h
    have lu2 : u1.2.2.1 ≤ u2.2.2.1 := BitWriter_put_f_mo hu2
    obtain ⟨u3, hu3, h⟩ := bd_some h
    have lu3 : u2.2.2.1 ≤ u3.2.2.1 := BitWriter_put_f_mo hu3
    exact mo_leaf (L := (fun (o : (Int32 × Int32 × Int32 × Nat × (Nat → Int32))) => o.2.2.2.1)) h (show u1.2.2.1 ≤ u3.2.2.1 by omega)
  refine g_callVv 13 hC (c_BitWriter_put (g_l C) (g_D C) (g_K C) q_a0 q_a0_row r_a0_tableList x_a0_held x_a0_heldCount q_a0_row_bytes (0 : Int32) n_a0_row_bytes f_a0_row_bytes (82 : Int32) (8 : Int32) u1 hu1) k639 k11 k636 k638 ks1 2 rfl (by decide +kernel) ⟨Nat.le_of_ble_eq_true rfl, Nat.le_of_ble_eq_true rfl⟩ [0, 1, 2] [] [] rfl rfl rfl rfl rfl 0 2 rfl rfl rfl rfl (Nat.le_of_ble_eq_true rfl) ⟨show (n_a0_row_bytes - n_a0_row_bytes) + (u1.2.2.1 - n_a0_row_bytes) ≤ out.2.2.2.1 - n_a0_row_bytes by omega, show (2 * (n_a0_row_bytes - n_a0_row_bytes)) + 2 * (u1.2.2.1 - n_a0_row_bytes) ≤ 2 * (out.2.2.2.1 - n_a0_row_bytes) by omega⟩ (fun (xu1 : Nat) => [(q_a0, .inr (2, [.ref q_a0_row, .ref r_a0_tableList, .int u1.1, .int u1.2.1])), (q_a0_row, .inr (4, [.ref xu1, .int u1.2.2.2.2])), (xu1, .inl (g_K C 0, u1.2.2.1, .inl u1.2.2.2.1))]) (fun _ => rfl) d_BitWriter_begin_13 (u1.2.2.1 - n_a0_row_bytes) (2 * (u1.2.2.1 - n_a0_row_bytes)) (show (n_a0_row_bytes - n_a0_row_bytes) + (u1.2.2.1 - n_a0_row_bytes) = (u1.2.2.1 - n_a0_row_bytes) by omega) (show (2 * (n_a0_row_bytes - n_a0_row_bytes)) + 2 * (u1.2.2.1 - n_a0_row_bytes) = (2 * (u1.2.2.1 - n_a0_row_bytes)) by omega) (fun xu1 => ?_)
  have hle : n_a0_row_bytes ≤ u1.2.2.1 := by omega
  refine g_aload_n 16 hC (j := 0) (hj := rfl) (hd := d_BitWriter_begin_16) ?_
  refine g_bipush 17 hC (80 : Int32) (by decide) d_BitWriter_begin_17 ?_
  refine g_bipush 19 hC (8 : Int32) (by decide) d_BitWriter_begin_19 ?_
  obtain ⟨u2, hu2, hf⟩ := bd_some hf
  have lu2 : u1.2.2.1 ≤ u2.2.2.1 := BitWriter_put_f_mo hu2
  have hfi : u2.2.2.1 ≤ out.2.2.2.1 := by
    have h := hf
    obtain ⟨u3, hu3, h⟩ := bd_some h
    have lu3 : u2.2.2.1 ≤ u3.2.2.1 := BitWriter_put_f_mo hu3
    exact mo_leaf (L := (fun (o : (Int32 × Int32 × Int32 × Nat × (Nat → Int32))) => o.2.2.2.1)) h (show u2.2.2.1 ≤ u3.2.2.1 by omega)
  refine g_callVv 21 hC (c_BitWriter_put (g_l C) (g_D C) (g_K C) q_a0 q_a0_row r_a0_tableList u1.1 u1.2.1 xu1 u1.2.2.2.2 u1.2.2.1 u1.2.2.2.1 (80 : Int32) (8 : Int32) u2 hu2) k639 k11 k636 k638 ks1 2 rfl (by decide +kernel) ⟨Nat.le_of_ble_eq_true rfl, Nat.le_of_ble_eq_true rfl⟩ [0, 1, 2] [] [] rfl rfl rfl rfl rfl 0 2 rfl rfl rfl rfl (Nat.le_of_ble_eq_true rfl) ⟨show (u1.2.2.1 - n_a0_row_bytes) + (u2.2.2.1 - u1.2.2.1) ≤ out.2.2.2.1 - n_a0_row_bytes by omega, show (2 * (u1.2.2.1 - n_a0_row_bytes)) + 2 * (u2.2.2.1 - u1.2.2.1) ≤ 2 * (out.2.2.2.1 - n_a0_row_bytes) by omega⟩ (fun (xu2 : Nat) => [(q_a0, .inr (2, [.ref q_a0_row, .ref r_a0_tableList, .int u2.1, .int u2.2.1])), (q_a0_row, .inr (4, [.ref xu2, .int u2.2.2.2.2])), (xu2, .inl (g_K C 0, u2.2.2.1, .inl u2.2.2.2.1))]) (fun _ => rfl) d_BitWriter_begin_21 (u2.2.2.1 - n_a0_row_bytes) (2 * (u2.2.2.1 - n_a0_row_bytes)) (show (u1.2.2.1 - n_a0_row_bytes) + (u2.2.2.1 - u1.2.2.1) = (u2.2.2.1 - n_a0_row_bytes) by omega) (show (2 * (u1.2.2.1 - n_a0_row_bytes)) + 2 * (u2.2.2.1 - u1.2.2.1) = (2 * (u2.2.2.1 - n_a0_row_bytes)) by omega) (fun xu2 => ?_)
  have hle : n_a0_row_bytes ≤ u2.2.2.1 := by omega
  refine g_aload_n 24 hC (j := 0) (hj := rfl) (hd := d_BitWriter_begin_24) ?_
  refine g_bipush 25 hC (48 : Int32) (by decide) d_BitWriter_begin_25 ?_
  refine g_iload_n 27 hC (j := 1) (hj := rfl) (hd := d_BitWriter_begin_27) ?_
  refine g_iadd 28 hC d_BitWriter_begin_28 ?_
  refine g_bipush 29 hC (8 : Int32) (by decide) d_BitWriter_begin_29 ?_
  obtain ⟨u3, hu3, hf⟩ := bd_some hf
  have lu3 : u2.2.2.1 ≤ u3.2.2.1 := BitWriter_put_f_mo hu3
  have hfi : u3.2.2.1 ≤ out.2.2.2.1 := by
    have h := hf
    exact mo_leaf (L := (fun (o : (Int32 × Int32 × Int32 × Nat × (Nat → Int32))) => o.2.2.2.1)) h (show u3.2.2.1 ≤ u3.2.2.1 by omega)
  refine g_callVv 31 hC (c_BitWriter_put (g_l C) (g_D C) (g_K C) q_a0 q_a0_row r_a0_tableList u2.1 u2.2.1 xu2 u2.2.2.2.2 u2.2.2.1 u2.2.2.2.1 ((48 : Int32) + p1) (8 : Int32) u3 hu3) k639 k11 k636 k638 ks1 2 rfl (by decide +kernel) ⟨Nat.le_of_ble_eq_true rfl, Nat.le_of_ble_eq_true rfl⟩ [0, 1, 2] [] [] rfl rfl rfl rfl rfl 0 2 rfl rfl rfl rfl (Nat.le_of_ble_eq_true rfl) ⟨show (u2.2.2.1 - n_a0_row_bytes) + (u3.2.2.1 - u2.2.2.1) ≤ out.2.2.2.1 - n_a0_row_bytes by omega, show (2 * (u2.2.2.1 - n_a0_row_bytes)) + 2 * (u3.2.2.1 - u2.2.2.1) ≤ 2 * (out.2.2.2.1 - n_a0_row_bytes) by omega⟩ (fun (xu3 : Nat) => [(q_a0, .inr (2, [.ref q_a0_row, .ref r_a0_tableList, .int u3.1, .int u3.2.1])), (q_a0_row, .inr (4, [.ref xu3, .int u3.2.2.2.2])), (xu3, .inl (g_K C 0, u3.2.2.1, .inl u3.2.2.2.1))]) (fun _ => rfl) d_BitWriter_begin_31 (u3.2.2.1 - n_a0_row_bytes) (2 * (u3.2.2.1 - n_a0_row_bytes)) (show (u2.2.2.1 - n_a0_row_bytes) + (u3.2.2.1 - u2.2.2.1) = (u3.2.2.1 - n_a0_row_bytes) by omega) (show (2 * (u2.2.2.1 - n_a0_row_bytes)) + 2 * (u3.2.2.1 - u2.2.2.1) = (2 * (u3.2.2.1 - n_a0_row_bytes)) by omega) (fun xu3 => ?_)
  have hle : n_a0_row_bytes ≤ u3.2.2.1 := by omega
  exact g_re [0, 1, 2] [] rfl rfl rfl (kr xu3 (u3.2.2.2.2, u3.1, u3.2.1, u3.2.2.1, u3.2.2.2.1) 34 [] (Option.some.inj hf) d_BitWriter_begin_34)
theorem c_BitWriter_begin (l : Launch) (D : va_G) (K : Nat → ClassId) (q_a0 : Nat) (q_a0_row : Nat) (r_a0_tableList : Nat) (x_a0_held : Int32) (x_a0_heldCount : Int32) (q_a0_row_bytes : Nat) (x_a0_row_count : Int32) (n_a0_row_bytes : Nat) (f_a0_row_bytes : (Nat → Int32)) (p1 : Int32) (out : (Int32 × Int32 × Int32 × Nat × (Nat → Int32))) (hf : BitWriter_begin_f x_a0_held x_a0_heldCount n_a0_row_bytes f_a0_row_bytes p1 = some out) : Cv l D K y_BitWriter_begin (g_wd y_BitWriter_begin b_BitWriter_begin 2 none) { frames := 4, cells := out.2.2.2.1 - n_a0_row_bytes, slots := 2 * (out.2.2.2.1 - n_a0_row_bytes), locals := 111 } [.ref q_a0, .int p1] [(q_a0, .inr (2, [.ref q_a0_row, .ref r_a0_tableList, .int x_a0_held, .int x_a0_heldCount])), (q_a0_row, .inr (4, [.ref q_a0_row_bytes, .int x_a0_row_count])), (q_a0_row_bytes, .inl (K 0, n_a0_row_bytes, .inl f_a0_row_bytes))] (fun (x : Nat) => [(q_a0, .inr (2, [.ref q_a0_row, .ref r_a0_tableList, .int out.2.1, .int out.2.2.1])), (q_a0_row, .inr (4, [.ref x, .int out.1])), (x, .inl (K 0, out.2.2.2.1, .inl out.2.2.2.2))]) := mk_v (by decide) (Nat.le_of_ble_eq_true rfl) (fun p e s m below meth c A Q hC kr => m_BitWriter_begin q_a0 q_a0_row r_a0_tableList x_a0_held x_a0_heldCount q_a0_row_bytes x_a0_row_count n_a0_row_bytes f_a0_row_bytes p1 out hC hf (fun x o9 pc lv ho => by subst ho; exact kr x pc lv))
abbrev b_BitWriter_finish : ByteArray := prog_3_method_4_code
def y_BitWriter_finish : MethodName := ⟨R_BitWriter, "finish", "(I)V"⟩
theorem d_BitWriter_finish_0 : decode b_BitWriter_finish 0 = .ok (.aload_n 0, 1) := by decide +kernel
theorem d_BitWriter_finish_1 : decode b_BitWriter_finish 1 = .ok (.iconst 0, 1) := by decide +kernel
theorem d_BitWriter_finish_2 : decode b_BitWriter_finish 2 = .ok (.bipush 8, 2) := by decide +kernel
theorem d_BitWriter_finish_4 : decode b_BitWriter_finish 4 = .ok (.invokevirtual 38, 3) := by decide +kernel
theorem d_BitWriter_finish_7 : decode b_BitWriter_finish 7 = .ok (.aload_n 0, 1) := by decide +kernel
theorem d_BitWriter_finish_8 : decode b_BitWriter_finish 8 = .ok (.iload_n 1, 1) := by decide +kernel
theorem d_BitWriter_finish_9 : decode b_BitWriter_finish 9 = .ok (.bipush 32, 2) := by decide +kernel
theorem d_BitWriter_finish_11 : decode b_BitWriter_finish 11 = .ok (.invokevirtual 38, 3) := by decide +kernel
theorem d_BitWriter_finish_14 : decode b_BitWriter_finish 14 = .ok (.aload_n 0, 1) := by decide +kernel
theorem d_BitWriter_finish_15 : decode b_BitWriter_finish 15 = .ok (.iconst 0, 1) := by decide +kernel
theorem d_BitWriter_finish_16 : decode b_BitWriter_finish 16 = .ok (.bipush 8, 2) := by decide +kernel
theorem d_BitWriter_finish_18 : decode b_BitWriter_finish 18 = .ok (.aload_n 0, 1) := by decide +kernel
theorem d_BitWriter_finish_19 : decode b_BitWriter_finish 19 = .ok (.getfield 26, 3) := by decide +kernel
theorem d_BitWriter_finish_22 : decode b_BitWriter_finish 22 = .ok (.isub, 1) := by decide +kernel
theorem d_BitWriter_finish_23 : decode b_BitWriter_finish 23 = .ok (.bipush 7, 2) := by decide +kernel
theorem d_BitWriter_finish_25 : decode b_BitWriter_finish 25 = .ok (.iand, 1) := by decide +kernel
theorem d_BitWriter_finish_26 : decode b_BitWriter_finish 26 = .ok (.invokevirtual 38, 3) := by decide +kernel
theorem d_BitWriter_finish_29 : decode b_BitWriter_finish 29 = .ok (.return_, 1) := by decide +kernel
theorem BitWriter_finish_f_mo {x_a0_held : Int32} {x_a0_heldCount : Int32} {n_a0_row_bytes : Nat} {f_a0_row_bytes : (Nat → Int32)} {x_a0_row_count : Int32} {p1 : Int32} {o : (Int32 × Int32 × Nat × (Nat → Int32) × Int32)} (h : BitWriter_finish_f x_a0_held x_a0_heldCount n_a0_row_bytes f_a0_row_bytes x_a0_row_count p1 = some o) : n_a0_row_bytes ≤ (fun (o : (Int32 × Int32 × Nat × (Nat → Int32) × Int32)) => o.2.2.1) o := by
  unfold BitWriter_finish_f at h
  obtain ⟨u1, hu1, h⟩ := bd_some h
  have lu1 : n_a0_row_bytes ≤ u1.2.2.1 := BitWriter_put_f_mo hu1
  obtain ⟨u2, hu2, h⟩ := bd_some h
  have lu2 : u1.2.2.1 ≤ u2.2.2.1 := BitWriter_put_f_mo hu2
  obtain ⟨u3, hu3, h⟩ := bd_some h
  have lu3 : u2.2.2.1 ≤ u3.2.2.1 := BitWriter_put_f_mo hu3
  exact mo_leaf (L := (fun (o : (Int32 × Int32 × Nat × (Nat → Int32) × Int32)) => o.2.2.1)) h (show n_a0_row_bytes ≤ u3.2.2.1 by omega)
set_option maxRecDepth 100000 in
set_option maxHeartbeats 4000000 in
theorem m_BitWriter_finish {C : gT} (q_a0 : Nat) (q_a0_row : Nat) (r_a0_tableList : Nat) (x_a0_held : Int32) (x_a0_heldCount : Int32) (q_a0_row_bytes : Nat) (x_a0_row_count : Int32) (n_a0_row_bytes : Nat) (f_a0_row_bytes : (Nat → Int32)) (p1 : Int32) (out : (Int32 × Int32 × Nat × (Nat → Int32) × Int32)) (hC : gOk C b_BitWriter_finish R_BitWriter { frames := 4, cells := out.2.2.1 - n_a0_row_bytes, slots := 2 * (out.2.2.1 - n_a0_row_bytes), locals := 111 } 2) (hf : BitWriter_finish_f x_a0_held x_a0_heldCount n_a0_row_bytes f_a0_row_bytes x_a0_row_count p1 = some out) (kr : ∀ (x : Nat) (o9 : (Int32 × Int32 × Nat × (Nat → Int32) × Int32)) (pc : Nat) (lv : List (Nat × Value)), o9 = out → decode b_BitWriter_finish pc = .ok (.return_, 1) → gAt C (o9.2.2.1 - n_a0_row_bytes) (2 * (o9.2.2.1 - n_a0_row_bytes)) [(q_a0, .inr (2, [.ref q_a0_row, .ref r_a0_tableList, .int o9.1, .int o9.2.1])), (q_a0_row, .inr (4, [.ref x, .int o9.2.2.2.2])), (x, .inl (g_K C 0, o9.2.2.1, .inl o9.2.2.2.1))] lv pc []) : gAt C 0 0 [(q_a0, .inr (2, [.ref q_a0_row, .ref r_a0_tableList, .int x_a0_held, .int x_a0_heldCount])), (q_a0_row, .inr (4, [.ref q_a0_row_bytes, .int x_a0_row_count])), (q_a0_row_bytes, .inl (g_K C 0, n_a0_row_bytes, .inl f_a0_row_bytes))] [(0, .ref q_a0), (1, .int p1)] 0 [] := by
  have hle : n_a0_row_bytes ≤ n_a0_row_bytes := Nat.le_refl _
  have hfi : n_a0_row_bytes ≤ out.2.2.1 := BitWriter_finish_f_mo hf
  refine g_wide (n_a0_row_bytes - n_a0_row_bytes) (2 * (n_a0_row_bytes - n_a0_row_bytes)) (Nat.zero_le _) (Nat.zero_le _) ?_
  unfold BitWriter_finish_f at hf
  refine g_aload_n 0 hC (j := 0) (hj := rfl) (hd := d_BitWriter_finish_0) ?_
  refine g_iconst 1 hC (0 : Int32) (by decide) d_BitWriter_finish_1 ?_
  refine g_bipush 2 hC (8 : Int32) (by decide) d_BitWriter_finish_2 ?_
  obtain ⟨u1, hu1, hf⟩ := bd_some hf
  have lu1 : n_a0_row_bytes ≤ u1.2.2.1 := BitWriter_put_f_mo hu1
  have hfi : u1.2.2.1 ≤ out.2.2.1 := by
    have h := hf
    obtain ⟨u2, hu2, h⟩ := bd_some h
    have lu2 : u1.2.2.1 ≤ u2.2.2.1 := BitWriter_put_f_mo hu2
    obtain ⟨u3, hu3, h⟩ := bd_some h
    have lu3 : u2.2.2.1 ≤ u3.2.2.1 := BitWriter_put_f_mo hu3
    exact mo_leaf (L := (fun (o : (Int32 × Int32 × Nat × (Nat → Int32) × Int32)) => o.2.2.1)) h (show u1.2.2.1 ≤ u3.2.2.1 by omega)
  refine g_callVv 4 hC (c_BitWriter_put (g_l C) (g_D C) (g_K C) q_a0 q_a0_row r_a0_tableList x_a0_held x_a0_heldCount q_a0_row_bytes x_a0_row_count n_a0_row_bytes f_a0_row_bytes (0 : Int32) (8 : Int32) u1 hu1) k639 k11 k636 k638 ks1 2 rfl (by decide +kernel) ⟨Nat.le_of_ble_eq_true rfl, Nat.le_of_ble_eq_true rfl⟩ [0, 1, 2] [] [] rfl rfl rfl rfl rfl 0 2 rfl rfl rfl rfl (Nat.le_of_ble_eq_true rfl) ⟨show (n_a0_row_bytes - n_a0_row_bytes) + (u1.2.2.1 - n_a0_row_bytes) ≤ out.2.2.1 - n_a0_row_bytes by omega, show (2 * (n_a0_row_bytes - n_a0_row_bytes)) + 2 * (u1.2.2.1 - n_a0_row_bytes) ≤ 2 * (out.2.2.1 - n_a0_row_bytes) by omega⟩ (fun (xu1 : Nat) => [(q_a0, .inr (2, [.ref q_a0_row, .ref r_a0_tableList, .int u1.1, .int u1.2.1])), (q_a0_row, .inr (4, [.ref xu1, .int u1.2.2.2.2])), (xu1, .inl (g_K C 0, u1.2.2.1, .inl u1.2.2.2.1))]) (fun _ => rfl) d_BitWriter_finish_4 (u1.2.2.1 - n_a0_row_bytes) (2 * (u1.2.2.1 - n_a0_row_bytes)) (show (n_a0_row_bytes - n_a0_row_bytes) + (u1.2.2.1 - n_a0_row_bytes) = (u1.2.2.1 - n_a0_row_bytes) by omega) (show (2 * (n_a0_row_bytes - n_a0_row_bytes)) + 2 * (u1.2.2.1 - n_a0_row_bytes) = (2 * (u1.2.2.1 - n_a0_row_bytes)) by omega) (fun xu1 => ?_)
  have hle : n_a0_row_bytes ≤ u1.2.2.1 := by omega
  refine g_aload_n 7 hC (j := 0) (hj := rfl) (hd := d_BitWriter_finish_7) ?_
  refine g_iload_n 8 hC (j := 1) (hj := rfl) (hd := d_BitWriter_finish_8) ?_
  refine g_bipush 9 hC (32 : Int32) (by decide) d_BitWriter_finish_9 ?_
  obtain ⟨u2, hu2, hf⟩ := bd_some hf
  have lu2 : u1.2.2.1 ≤ u2.2.2.1 := BitWriter_put_f_mo hu2
  have hfi : u2.2.2.1 ≤ out.2.2.1 := by
    have h := hf
    obtain ⟨u3, hu3, h⟩ := bd_some h
    have lu3 : u2.2.2.1 ≤ u3.2.2.1 := BitWriter_put_f_mo hu3
    exact mo_leaf (L := (fun (o : (Int32 × Int32 × Nat × (Nat → Int32) × Int32)) => o.2.2.1)) h (show u2.2.2.1 ≤ u3.2.2.1 by omega)
  refine g_callVv 11 hC (c_BitWriter_put (g_l C) (g_D C) (g_K C) q_a0 q_a0_row r_a0_tableList u1.1 u1.2.1 xu1 u1.2.2.2.2 u1.2.2.1 u1.2.2.2.1 p1 (32 : Int32) u2 hu2) k639 k11 k636 k638 ks1 2 rfl (by decide +kernel) ⟨Nat.le_of_ble_eq_true rfl, Nat.le_of_ble_eq_true rfl⟩ [0, 1, 2] [] [] rfl rfl rfl rfl rfl 0 2 rfl rfl rfl rfl (Nat.le_of_ble_eq_true rfl) ⟨show (u1.2.2.1 - n_a0_row_bytes) + (u2.2.2.1 - u1.2.2.1) ≤ out.2.2.1 - n_a0_row_bytes by omega, show (2 * (u1.2.2.1 - n_a0_row_bytes)) + 2 * (u2.2.2.1 - u1.2.2.1) ≤ 2 * (out.2.2.1 - n_a0_row_bytes) by omega⟩ (fun (xu2 : Nat) => [(q_a0, .inr (2, [.ref q_a0_row, .ref r_a0_tableList, .int u2.1, .int u2.2.1])), (q_a0_row, .inr (4, [.ref xu2, .int u2.2.2.2.2])), (xu2, .inl (g_K C 0, u2.2.2.1, .inl u2.2.2.2.1))]) (fun _ => rfl) d_BitWriter_finish_11 (u2.2.2.1 - n_a0_row_bytes) (2 * (u2.2.2.1 - n_a0_row_bytes)) (show (u1.2.2.1 - n_a0_row_bytes) + (u2.2.2.1 - u1.2.2.1) = (u2.2.2.1 - n_a0_row_bytes) by omega) (show (2 * (u1.2.2.1 - n_a0_row_bytes)) + 2 * (u2.2.2.1 - u1.2.2.1) = (2 * (u2.2.2.1 - n_a0_row_bytes)) by omega) (fun xu2 => ?_)
  have hle : n_a0_row_bytes ≤ u2.2.2.1 := by omega
  refine g_aload_n 14 hC (j := 0) (hj := rfl) (hd := d_BitWriter_finish_14) ?_
  refine g_iconst 15 hC (0 : Int32) (by decide) d_BitWriter_finish_15 ?_
  refine g_bipush 16 hC (8 : Int32) (by decide) d_BitWriter_finish_16 ?_
  refine g_aload_n 18 hC (j := 0) (hj := rfl) (hd := d_BitWriter_finish_18) ?_
  refine g_get 19 hC i_BitWriter rfl 0 rfl 3 (by decide) k272 rfl d_BitWriter_finish_19 ?_
  refine g_isub 22 hC d_BitWriter_finish_22 ?_
  refine g_bipush 23 hC (7 : Int32) (by decide) d_BitWriter_finish_23 ?_
  refine g_iand 25 hC d_BitWriter_finish_25 ?_
  obtain ⟨u3, hu3, hf⟩ := bd_some hf
  have lu3 : u2.2.2.1 ≤ u3.2.2.1 := BitWriter_put_f_mo hu3
  have hfi : u3.2.2.1 ≤ out.2.2.1 := by
    have h := hf
    exact mo_leaf (L := (fun (o : (Int32 × Int32 × Nat × (Nat → Int32) × Int32)) => o.2.2.1)) h (show u3.2.2.1 ≤ u3.2.2.1 by omega)
  refine g_callVv 26 hC (c_BitWriter_put (g_l C) (g_D C) (g_K C) q_a0 q_a0_row r_a0_tableList u2.1 u2.2.1 xu2 u2.2.2.2.2 u2.2.2.1 u2.2.2.2.1 (0 : Int32) (((8 : Int32) - u2.2.1) &&& (7 : Int32)) u3 hu3) k639 k11 k636 k638 ks1 2 rfl (by decide +kernel) ⟨Nat.le_of_ble_eq_true rfl, Nat.le_of_ble_eq_true rfl⟩ [0, 1, 2] [] [] rfl rfl rfl rfl rfl 0 2 rfl rfl rfl rfl (Nat.le_of_ble_eq_true rfl) ⟨show (u2.2.2.1 - n_a0_row_bytes) + (u3.2.2.1 - u2.2.2.1) ≤ out.2.2.1 - n_a0_row_bytes by omega, show (2 * (u2.2.2.1 - n_a0_row_bytes)) + 2 * (u3.2.2.1 - u2.2.2.1) ≤ 2 * (out.2.2.1 - n_a0_row_bytes) by omega⟩ (fun (xu3 : Nat) => [(q_a0, .inr (2, [.ref q_a0_row, .ref r_a0_tableList, .int u3.1, .int u3.2.1])), (q_a0_row, .inr (4, [.ref xu3, .int u3.2.2.2.2])), (xu3, .inl (g_K C 0, u3.2.2.1, .inl u3.2.2.2.1))]) (fun _ => rfl) d_BitWriter_finish_26 (u3.2.2.1 - n_a0_row_bytes) (2 * (u3.2.2.1 - n_a0_row_bytes)) (show (u2.2.2.1 - n_a0_row_bytes) + (u3.2.2.1 - u2.2.2.1) = (u3.2.2.1 - n_a0_row_bytes) by omega) (show (2 * (u2.2.2.1 - n_a0_row_bytes)) + 2 * (u3.2.2.1 - u2.2.2.1) = (2 * (u3.2.2.1 - n_a0_row_bytes)) by omega) (fun xu3 => ?_)
  have hle : n_a0_row_bytes ≤ u3.2.2.1 := by omega
  exact g_re [0, 1, 2] [] rfl rfl rfl (kr xu3 (u3.1, u3.2.1, u3.2.2.1, u3.2.2.2.1, u3.2.2.2.2) 29 [] (Option.some.inj hf) d_BitWriter_finish_29)
theorem c_BitWriter_finish (l : Launch) (D : va_G) (K : Nat → ClassId) (q_a0 : Nat) (q_a0_row : Nat) (r_a0_tableList : Nat) (x_a0_held : Int32) (x_a0_heldCount : Int32) (q_a0_row_bytes : Nat) (x_a0_row_count : Int32) (n_a0_row_bytes : Nat) (f_a0_row_bytes : (Nat → Int32)) (p1 : Int32) (out : (Int32 × Int32 × Nat × (Nat → Int32) × Int32)) (hf : BitWriter_finish_f x_a0_held x_a0_heldCount n_a0_row_bytes f_a0_row_bytes x_a0_row_count p1 = some out) : Cv l D K y_BitWriter_finish (g_wd y_BitWriter_finish b_BitWriter_finish 2 none) { frames := 4, cells := out.2.2.1 - n_a0_row_bytes, slots := 2 * (out.2.2.1 - n_a0_row_bytes), locals := 111 } [.ref q_a0, .int p1] [(q_a0, .inr (2, [.ref q_a0_row, .ref r_a0_tableList, .int x_a0_held, .int x_a0_heldCount])), (q_a0_row, .inr (4, [.ref q_a0_row_bytes, .int x_a0_row_count])), (q_a0_row_bytes, .inl (K 0, n_a0_row_bytes, .inl f_a0_row_bytes))] (fun (x : Nat) => [(q_a0, .inr (2, [.ref q_a0_row, .ref r_a0_tableList, .int out.1, .int out.2.1])), (q_a0_row, .inr (4, [.ref x, .int out.2.2.2.2])), (x, .inl (K 0, out.2.2.1, .inl out.2.2.2.1))]) := mk_v (by decide) (Nat.le_of_ble_eq_true rfl) (fun p e s m below meth c A Q hC kr => m_BitWriter_finish q_a0 q_a0_row r_a0_tableList x_a0_held x_a0_heldCount q_a0_row_bytes x_a0_row_count n_a0_row_bytes f_a0_row_bytes p1 out hC hf (fun x o9 pc lv ho => by subst ho; exact kr x pc lv))
