/-! THE LAW's LOOP AND ITS START -/
theorem kn_x : (Jvm.Cond.classLink "RotationPressLaw" (8 : Nat) "RotationPress") ∈ g_tbl := List.mem_filter.mpr ⟨List.mem_append_right (k2_sels lw_privs) (List.mem_append_left _ (List.mem_of_getElem? (l := tables_1_1) (i := 32) rfl)), rfl⟩
theorem kn_xi : (Jvm.Cond.instantiable "RotationPress" (6 : Nat)) ∈ g_tbl := List.mem_filter.mpr ⟨List.mem_append_right (k2_sels lw_privs) (List.mem_append_left _ (List.mem_of_getElem? (l := tables_1_1) (i := 33) rfl)), rfl⟩
theorem kn_m : (Jvm.Cond.classLink "RotationPressLaw" (48 : Nat) "RotationPressModel") ∈ g_tbl := List.mem_filter.mpr ⟨List.mem_append_right (k2_sels lw_privs) (List.mem_append_right _ (List.mem_append_right _ (List.mem_append_right _ (List.mem_append_right _ (List.mem_append_right _ (List.mem_append_left _ (List.mem_of_getElem? (l := tables_1_6) (i := 22) rfl))))))), rfl⟩
theorem kn_mi : (Jvm.Cond.instantiable "RotationPressModel" (46 : Nat)) ∈ g_tbl := List.mem_filter.mpr ⟨List.mem_append_right (k2_sels lw_privs) (List.mem_append_right _ (List.mem_append_right _ (List.mem_append_right _ (List.mem_append_right _ (List.mem_append_right _ (List.mem_append_left _ (List.mem_of_getElem? (l := tables_1_6) (i := 23) rfl))))))), rfl⟩
theorem kn_xc : (Jvm.Cond.code ({ cls := "RotationPress", name := "<init>", desc := "()V" } : Jvm.MethodName) prog_1_method_1_code (3 : Nat) (Option.none : Option Jvm.ClassFile.FieldType)) ∈ g_tbl := List.mem_filter.mpr ⟨List.mem_append_right (k2_sels lw_privs) (List.mem_append_left _ (List.mem_of_getElem? (l := tables_1_1) (i := 36) rfl)), rfl⟩
theorem kn_xl : (Jvm.Cond.methodLink "RotationPressLaw" (47 : Nat) ({ cls := "RotationPress", name := "<init>", desc := "()V" } : Jvm.MethodName)) ∈ g_tbl := List.mem_filter.mpr ⟨List.mem_append_right (k2_sels lw_privs) (List.mem_append_left _ (List.mem_of_getElem? (l := tables_1_1) (i := 34) rfl)), rfl⟩
theorem kn_xm : (Jvm.Cond.instanceMethod ({ cls := "RotationPress", name := "<init>", desc := "()V" } : Jvm.MethodName)) ∈ g_tbl := List.mem_filter.mpr ⟨List.mem_append_right (k2_sels lw_privs) (List.mem_append_left _ (List.mem_of_getElem? (l := tables_1_1) (i := 35) rfl)), rfl⟩
theorem kn_mc : (Jvm.Cond.code ({ cls := "RotationPressModel", name := "<init>", desc := "()V" } : Jvm.MethodName) prog_14_method_1_code (1 : Nat) (Option.none : Option Jvm.ClassFile.FieldType)) ∈ g_tbl := List.mem_filter.mpr ⟨List.mem_append_right (k2_sels lw_privs) (List.mem_append_right _ (List.mem_append_right _ (List.mem_append_right _ (List.mem_append_right _ (List.mem_append_right _ (List.mem_append_left _ (List.mem_of_getElem? (l := tables_1_6) (i := 26) rfl))))))), rfl⟩
theorem kn_ml : (Jvm.Cond.methodLink "RotationPressLaw" (50 : Nat) ({ cls := "RotationPressModel", name := "<init>", desc := "()V" } : Jvm.MethodName)) ∈ g_tbl := List.mem_filter.mpr ⟨List.mem_append_right (k2_sels lw_privs) (List.mem_append_right _ (List.mem_append_right _ (List.mem_append_right _ (List.mem_append_right _ (List.mem_append_right _ (List.mem_append_left _ (List.mem_of_getElem? (l := tables_1_6) (i := 24) rfl))))))), rfl⟩
theorem kn_mm : (Jvm.Cond.instanceMethod ({ cls := "RotationPressModel", name := "<init>", desc := "()V" } : Jvm.MethodName)) ∈ g_tbl := List.mem_filter.mpr ⟨List.mem_append_right (k2_sels lw_privs) (List.mem_append_right _ (List.mem_append_right _ (List.mem_append_right _ (List.mem_append_right _ (List.mem_append_right _ (List.mem_append_left _ (List.mem_of_getElem? (l := tables_1_6) (i := 25) rfl))))))), rfl⟩
theorem kn_l : (Jvm.Cond.arrayClass Jvm.ClassFile.FieldType.long) ∈ g_tbl := List.mem_filter.mpr ⟨List.mem_append_right (k2_sels lw_privs) (List.mem_append_right _ (List.mem_append_right _ (List.mem_append_right _ (List.mem_append_right _ (List.mem_append_right _ (List.mem_append_right _ (List.mem_of_getElem? (l := tables_1_7) (i := 132) rfl))))))), rfl⟩
theorem L_head {C : gT} {b L : Nat} {xs : Nat → Int32} (hL : LW C b L xs) {q qx qm i k n : Nat} {ws : va_W} (h1 : i + 6 ≤ L → gAt C k n ws (lvH b qx qm q i) 40 [.int (xs i &&& (15 : Int32))]) (h2 : gAt C k n ws (lvH b qx qm q i) 694 [.int 1]) (hi : i ≤ 3100 := by omega) : gAt C k n ws (lvH b qx qm q i) 23 [] := by
  obtain ⟨hC, hTs, hA, hX, hL9, hst⟩ := hL
  refine g_iload 23 hC (j := 0) (hj := rfl) (hd := d_law_23) ?_
  refine g_aload_n 25 hC (j := 4) (hj := rfl) (hd := d_law_25) ?_
  refine g_xlen 26 hC hA hX d_law_26 ?_
  refine g_bipush 27 hC (6 : Int32) (by decide) d_law_27 ?_
  refine g_isub 29 hC d_law_29 ?_
  refine g_icmp_gt 30 hC 693 (by decide) d_law_30 (fun _ => ?_) (fun h9 => ?_)
  · refine g_iconst 693 hC (1 : Int32) (by decide) d_law_693 ?_
    exact h2
  have hiL : i + 6 ≤ L := by
    by_cases h6 : L < 6
    · exact absurd (Int32.lt_of_lt_of_le (pk_sneg (a := L) (b := 6) (by omega) h6) (nI_pos' (n := i) (by omega))) h9
    · have h8 : ¬ nI (L - 6) < nI i := by
        rw [← show nI L - (6 : Int32) = nI (L - 6) from pk_sub (b := 6) (by omega)]
        exact h9
      rw [nI_ltI (by omega) (by omega)] at h8
      omega
  refine g_aload_n 33 hC (j := 4) (hj := rfl) (hd := d_law_33) ?_
  refine g_iload 34 hC (j := 0) (hj := rfl) (hd := d_law_34) ?_
  refine g_xald 36 hC hA hX i rfl (by omega) (by omega) d_law_36 ?_
  refine g_bipush 37 hC (15 : Int32) (by decide) d_law_37 ?_
  refine g_iand 39 hC d_law_39 ?_
  exact h1 hiL
/-- alter's second refusal -/
def A2 (C : gT) (b L : Nat) (xs : Nat → Int32) : Prop := ∀ {q qx qm i N k n : Nat} {kk : Int32} {f : Nat → Int64} {wx wm : va_W} {s : ST}, i + 6 ≤ L → stOk s → CX (g_K C) qx s N wx → CM (g_K C) qm s kk wm → k = 152 + (N - 16384) + i → n = 398815 + 2 * (N - 16384) + i → NXt C b qx qm q i → (i = 0 → s.F = 0) → ∀ {i0 : Nat}, i0 < s.F → xs (i + 1) = nI i0 → (xs (i + 2) < 0 ∨ ¬ xs (i + 2) < 0 ∧ nI 256 ≤ xs (i + 2)) → gAt C k n (ocell (g_K C) q f :: (wx ++ wm)) (lvH b qx qm q i) 244 []
theorem L_case {C : gT} {b L : Nat} {xs : Nat → Int32} (hL : LW C b L xs) (hA2 : A2 C b L xs) {q qx qm i N k n : Nat} {kk : Int32} {f : Nat → Int64} {wx wm : va_W} {s : ST} (hi : i + 6 ≤ L) (hs : stOk s) (hx : CX (g_K C) qx s N wx) (hm : CM (g_K C) qm s kk wm) (hk : k = 152 + (N - 16384) + i) (hn : n = 398815 + 2 * (N - 16384) + i) (nx : NXt C b qx qm q i) (hz : i = 0 → s.F = 0) (x : Int32) (hx16 : ∃ j, j < 16 ∧ x = nI j) : gAt C k n (ocell (g_K C) q f :: (wx ++ wm)) (lvH b qx qm q i) 40 [.int x] := by
  have hC := hL.1
  obtain ⟨j, hj, hxj⟩ := hx16
  rcases (by omega : j = 0 ∨ j = 1 ∨ j = 2 ∨ j = 3 ∨ j = 4 ∨ j = 5 ∨ j = 6 ∨ j = 7 ∨ j = 8 ∨ j = 9 ∨ j = 10 ∨ j = 11 ∨ 12 ≤ j) with rfl | rfl | rfl | rfl | rfl | rfl | rfl | rfl | rfl | rfl | rfl | rfl | h12
  · refine g_tabIn 40 hC 64 (0 : Int32) 104 hxj d_law_40 (by decide) (by decide) (by decide) (by decide) ?_
    by_cases hc : s.F ≤ 10220
    · exact L_feed hL hi hs hx hm hk hn nx hc
    · exact L_feedr hL hi hs hx hm hk hn nx (by omega)
  · refine g_tabIn 40 hC 168 (1 : Int32) 208 hxj d_law_40 (by decide) (by decide) (by decide) (by decide) ?_
    rcases le_cases (xs (i + 1)) (c := s.F) (by have := hs.1; omega) with hp | ⟨i0, hi0, ep⟩
    · exact L_endr hL hi hs hx hm hk hn nx hp
    · exact L_end hL hi hs hx hm hk hn nx hi0 ep
  · refine g_tabIn 40 hC 204 (2 : Int32) 244 hxj d_law_40 (by decide) (by decide) (by decide) (by decide) ?_
    rcases lt_cases (xs (i + 1)) (c := s.F) (by have := hs.1; omega) with hp | ⟨i0, hi0, ep⟩
    · exact L_alterr hL hi hs hx hm hk hn nx hp
    · rcases lt_cases (xs (i + 2)) (c := 256) (by omega) with hp | ⟨b0, hb0, eb⟩
      · exact hA2 hi hs hx hm hk hn nx hz hi0 ep hp
      · exact L_alter hL hi hs hx hm hk hn nx hi0 hb0 ep eb
  · refine g_tabIn 40 hC 272 (3 : Int32) 312 hxj d_law_40 (by decide) (by decide) (by decide) (by decide) ?_
    by_cases hc : s.M ≤ 10240
    · exact L_copy hL hi hs hx hm hk hn nx hc
    · exact L_copyr hL hi hs hx hm hk hn nx (by omega)
  · refine g_tabIn 40 hC 316 (4 : Int32) 356 hxj d_law_40 (by decide) (by decide) (by decide) (by decide) ?_
    rcases lv_cases (xs (i + 1)) with hp | ⟨lv, h1, h9, ep⟩
    · exact L_packr hL hi hs hx hm hk hn nx hp
    · exact L_pack hL hi hs hx hm hk hn nx h1 h9 ep
  · refine g_tabIn 40 hC 372 (5 : Int32) 412 hxj d_law_40 (by decide) (by decide) (by decide) (by decide) ?_
    rcases le_cases (xs (i + 1)) (c := 60000) (by omega) with hp | ⟨lim, hl, ep⟩
    · exact L_unpackr hL hi hs hx hm hk hn nx hp
    · exact L_unpack hL hi hs hx hm hk hn nx hl ep
  · refine g_tabIn 40 hC 428 (6 : Int32) 468 hxj d_law_40 (by decide) (by decide) (by decide) (by decide) ?_
    exact L_place hL hi hs hx hm hk hn nx
  · refine g_tabIn 40 hC 441 (7 : Int32) 481 hxj d_law_40 (by decide) (by decide) (by decide) (by decide) ?_
    exact L_length hL hi hs hx hm hk hn nx
  · refine g_tabIn 40 hC 454 (8 : Int32) 494 hxj d_law_40 (by decide) (by decide) (by decide) (by decide) ?_
    exact L_size hL hi hs hx hm hk hn nx
  · refine g_tabIn 40 hC 467 (9 : Int32) 507 hxj d_law_40 (by decide) (by decide) (by decide) (by decide) ?_
    rcases lt_cases (xs (i + 1)) (c := s.M) (by have := hs.2.2.1; omega) with hp | ⟨i0, hi0, ep⟩
    · exact L_outr hL hi hs hx hm hk hn nx hp
    · exact L_out hL hi hs hx hm hk hn nx hi0 ep
  · refine g_tabIn 40 hC 523 (10 : Int32) 563 hxj d_law_40 (by decide) (by decide) (by decide) (by decide) ?_
    rcases lt_cases (xs (i + 1)) (c := 11) (by omega) with hp | ⟨i0, hi0, ep⟩
    · exact L_piecer hL hi hs hx hm hk hn nx hp
    · exact L_piece hL hi hs hx hm hk hn nx hi0 ep
  · refine g_tabIn 40 hC 591 (11 : Int32) 631 hxj d_law_40 (by decide) (by decide) (by decide) (by decide) ?_
    rcases lt_cases (xs (i + 1)) (c := 8) (by omega) with hp | ⟨i0, hi0, ep⟩
    · exact L_aboutr hL hi hs hx hm hk hn nx hp
    · exact L_about hL hi hs hx hm hk hn nx hi0 ep
  · refine g_tabOut 40 hC 687 d_law_40 (Or.inr ?_) (by decide) ?_
    · rw [hxj, nI_toInt (by omega)]
      omega
    · exact g_wide (152 + (N - 16384) + (i + 6)) (398815 + 2 * (N - 16384) + (i + 6)) (by omega) (by omega) (nx s N wx wm f kk hs hx hm)
theorem L_loop {C : gT} {b L : Nat} {xs : Nat → Int32} (hL : LW C b L xs) (hA2 : A2 C b L xs) {q qx qm : Nat} (hend : ∀ (k n : Nat) (ws : va_W) (lv : List (Nat × Value)), k ≤ 600002 → n ≤ 7302232 → gAt C k n ws lv 694 [.int 1]) : ∀ (t i : Nat) (s : ST) (N : Nat) (wx wm : va_W) (f : Nat → Int64) (kk : Int32), L ≤ i + 6 * t + 5 → i ≤ 3100 → stOk s → CX (g_K C) qx s N wx → CM (g_K C) qm s kk wm → (i = 0 → s.F = 0) → gAt C (152 + (N - 16384) + i) (398815 + 2 * (N - 16384) + i) (ocell (g_K C) q f :: (wx ++ wm)) (lvH b qx qm q i) 23 [] := by
  have hL0 := hL
  obtain ⟨hC, hTs, hA, hX, hL9, hst⟩ := hL0
  intro t
  induction t with
  | zero =>
    intro i s N wx wm f kk ht hi9 hs hx hm hz
    obtain ⟨-, hN1, hN2⟩ := CX_0 hx
    exact L_head hL (fun h => absurd h (by omega)) (hend _ _ _ _ (by omega) (by omega))
  | succ t ih =>
    intro i s N wx wm f kk ht hi9 hs hx hm hz
    obtain ⟨-, hN1, hN2⟩ := CX_0 hx
    refine L_head hL (fun hi => ?_) (hend _ _ _ _ (by omega) (by omega))
    refine L_case hL hA2 hi hs hx hm rfl rfl ?_ hz _ ⟨_, Nat.mod_lt _ (by decide), pk_and (xs i) 4 rfl⟩
    intro s2 N2 wx2 wm2 f2 kk2 hs2 hx2 hm2
    refine g_iinc 687 hC 0 (6 : Int32) _ rfl (by decide) (by decide) rfl d_law_687 ?_
    refine g_goto 690 hC 23 (by decide) d_law_690 ?_
    have h := ih (i + 6) s2 N2 wx2 wm2 f2 kk2 (by omega) (by omega) hs2 hx2 hm2 (fun h9 => by omega)
    unfold lvH at h
    rw [← show nI i + (6 : Int32) = nI (i + 6) from nI_add i 6] at h
    exact h
theorem a_callI (pc : Nat) {C : gT} {cc : ByteArray} {own : String} {R0 : Room} {nL k n : Nat} {wr : va_W} {lv : List (Nat × Value)} {st : List Value} (hC : gOk C cc own R0 nL) {y : MethodName} {bytes : ByteArray} {maxL index : Nat} {rm : Room} {b : Nat} {As : List Value} {wi : va_W} {X : Type} {wo : X → va_W} {stk : List Value} (hM : Cv (g_l C) (g_D C) (g_K C) y (g_wd y bytes maxL none) rm (.ref b :: As) wi wo) (hm1 : Cond.code y bytes maxL none ∈ g_tbl) (hm2 : Cond.initialized y.cls ∈ g_tbl) (hm3 : Cond.methodLink own index y ∈ g_tbl) (hm4 : Cond.instanceMethod y ∈ g_tbl) (hy1 : y.name = "<init>") (na : Nat) (hna : As.length = na) (hdd : y.cls ≠ "java/lang/invoke/MethodHandle" ∧ y.cls ≠ "java/lang/invoke/VarHandle" ∧ (parseMethodDescriptor y.desc).map (fun d => d.parameters.length) = some na) (hR : rm.frames + 1 ≤ R0.frames ∧ 8 + (maxL + 11) + rm.locals ≤ R0.locals) (hst : stk = As.reverse ++ .ref b :: st) (hro : (st.map fun v => v.category).sum ≤ 8) (k2 n2 : Nat) (hk2 : k + rm.cells ≤ k2) (hs2 : n + rm.slots ≤ n2) (hkr : k2 ≤ R0.cells) (hsr : n2 ≤ R0.slots) (hd : decode cc pc = .ok (.invokespecial index, 3)) (h : ∀ x : X, gAt C k2 n2 (wo x ++ wr) lv (pc + 3) st) : gAt C k n (wi ++ wr) lv pc stk :=
  g_callI pc hC hM hm1 hm2 hm3 hm4 hy1 na hna hdd hR (List.range' 0 wi.length) (List.range' wi.length wr.length) wr (nd_range _ _) at_fst (nd_range _ _) at_snd (dis_fs _ _) hst hro ⟨Nat.le_trans hk2 hkr, Nat.le_trans hs2 hsr⟩ _ (fun _ => rfl) hd _ _ rfl rfl (fun x => g_wide k2 n2 hk2 hs2 (g_perm List.perm_append_comm (h x)))
theorem g_newl (pc : Nat) {C : gT} {cc : ByteArray} {own : String} {R0 : Room} {nL k n : Nat} {ws : va_W} {lv : List (Nat × Value)} {st : List Value} (hC : gOk C cc own R0 nL) {x : Int32} (N : Nat) (hw : Cond.arrayClass .long ∈ g_tbl) (hn : ¬ x < 0) (hN : x.toNatClampNeg = N) (hby : N * 8 ≤ 536870912) (hce : k + 1 ≤ R0.cells) (hsl : n + N ≤ R0.slots) (hd : decode cc pc = .ok (.newarray .long, 2)) (h : ∀ q : Nat, gAt C (k + 1) (n + N) (ws ++ [(q, .inl (g_K C 2, N, .inr (.inl (fun _ => 0))))]) lv (pc + 2) (.ref q :: st)) : gAt C k n ws lv pc (.int x :: st) := by
  intro H locs ls hP hD hS hl
  obtain ⟨hx, hb, hml, hown, hts, hK, hA, hR0, hnL, hO⟩ := hC
  rw [← hR0] at hce hsl
  refine va_newa (atype := .long) (ty := .long) (a0 := (N, .inr (.inl (fun _ => 0)))) hx hb (hts _ hw) rfl hK hP hD hS hA (fun cA => rfl) hn hN hby hce hsl hd (fun q cA H1 hK1 hP1 hD1 hS1 => ?_)
  have e1 : (g_s C).vm.findClass "[J" = some cA := (hK1.2 4 (cA, .long) rfl).2
  have e2 : (g_s C).vm.findClass "[J" = some (g_K C 2) := (hK.2 2 (g_K C 2, .long) rfl).2
  have e3 : cA = g_K C 2 := Option.some.inj (e1.symm.trans e2)
  subst e3
  exact h q H1 locs ls hP1 hD1 hS1 hl
theorem L_start {C : gT} {b L : Nat} {xs : Nat → Int32} (hL : LW C b L xs) (hA2 : A2 C b L xs) (hend : ∀ (k n : Nat) (ws : va_W) (lv : List (Nat × Value)), k ≤ 600002 → n ≤ 7302232 → gAt C k n ws lv 694 [.int 1]) : gAt C 0 0 [] [(0, .ref b)] 0 [] := by
  have hL0 := hL
  obtain ⟨hC, hTs, hA, hX, hL9, hst⟩ := hL0
  refine g_new 0 hC i_Press (ci := 0) rfl t_Press tk_Press kn_x kn_xi kw_ini [.null, .null, .null, .null, .int (0 : Int32), .int (0 : Int32)] (by decide +kernel) (by decide) (by decide) d_law_0 1 6 rfl rfl (fun qx => ?_)
  refine g_dup 3 hC rfl d_law_3 ?_
  refine a_callI 4 (wr := []) hC (Ox_init (g_l C) (g_D C) (g_K C) qx) kn_xc kw_ini kn_xl kn_xm rfl 0 rfl (by decide +kernel) (by decide) rfl (Nat.le_of_ble_eq_true rfl) 130 67814 (by decide) (by decide) (by decide) (by decide) d_law_4 (fun x => ?_)
  obtain ⟨wx, hx⟩ := x
  show gAt C 130 67814 (wx ++ []) _ _ _
  rw [List.append_nil]
  refine g_astore_n 7 hC _ (by decide) rfl d_law_7 ?_
  refine g_new 8 hC i_Model (ci := 12) rfl t_Model tk_Model kn_m kn_mi kw_inim [.null, .int (0 : Int32), .null, .int (0 : Int32), .int (0 : Int32), .int (0 : Int32), .null, .int (0 : Int32), .null, .null, .null, .null, .null, .int (0 : Int32), .null, .int (0 : Int32), .null, .int (0 : Int32), .int (0 : Int32), .null, .null, .null, .null, .null, .int (0 : Int32), .int (0 : Int32), .int (0 : Int32), .int (0 : Int32), .int (0 : Int32), .int (0 : Int32), .int (0 : Int32), .int (0 : Int32), .int (0 : Int32), .int (0 : Int32), .int (0 : Int32), .null, .null, .int (0 : Int32), .null, .int (0 : Int32), .null, .null, .int (0 : Int32), .int (0 : Int32), .int (0 : Int32), .int (0 : Int32)] (by decide +kernel) (by decide) (by decide) d_law_8 131 67860 rfl rfl (fun qm => ?_)
  refine g_dup 11 hC rfl d_law_11 ?_
  obtain ⟨fs, hOm, hfs⟩ := Om_init (g_l C) (g_D C) (g_K C) qm
  subst hfs
  refine g_perm List.perm_append_comm ?_
  refine a_callI 12 hC hOm kn_mc kw_inim kn_ml kn_mm rfl 0 rfl (by decide +kernel) (by decide) rfl (Nat.le_of_ble_eq_true rfl) 151 398814 (by decide) (by decide) (by decide) (by decide) d_law_12 (fun y => ?_)
  obtain ⟨wm, hm⟩ := y
  refine g_astore_n 15 hC _ (by decide) rfl d_law_15 ?_
  refine g_iconst 16 hC (1 : Int32) (by decide) d_law_16 ?_
  refine g_newl 17 hC 1 kn_l (by decide) (by decide) (by decide) (by decide) (by decide) d_law_17 (fun q => ?_)
  refine g_astore_n 19 hC _ (by decide) rfl d_law_19 ?_
  refine g_iconst 20 hC (0 : Int32) (by decide) d_law_20 ?_
  refine g_istore 21 hC _ (by decide) rfl d_law_21 ?_
  refine g_perm (ws2 := ocell (g_K C) q (fun _ => 0) :: (wx ++ wm)) ?_ ?_
  · refine List.perm_append_comm.trans ?_
    exact List.Perm.cons _ (List.perm_append_comm (l₁ := wm) (l₂ := wx))
  · exact L_loop hL hA2 hend L 0 s0 16384 wx wm (fun _ => 0) 0 (by omega) (by omega) s0_ok hx hm (fun _ => rfl)
