/-! THE LAW's WRAPPERS -/
theorem at_tail {c : Nat × va_E} {v : va_W} : (List.range' 1 v.length).map (fun i => (c :: v)[i]?) = v.map some := by
  have h := at_range (u := [c]) (v := v) (w := [])
  rw [List.append_nil] at h
  exact h
theorem dis_0 (n : Nat) : [0].all (fun i => !(List.range' 1 n).contains i) = true := by
  have h := dis_range 0 1 1 n (Or.inl (Nat.le_refl _))
  exact h
theorem at_all {v : va_W} : (List.range' 0 v.length).map (fun i => v[i]?) = v.map some := by
  have h := at_range (u := []) (v := v) (w := [])
  rw [List.append_nil] at h
  exact h
abbrev ocell (K : Nat → ClassId) (q : Nat) (f : Nat → Int64) : Nat × va_E := (q, .inl (K 2, 1, .inr (.inl f)))
theorem kw_ini : (Jvm.Cond.initialized "RotationPress") ∈ g_tbl := List.mem_filter.mpr ⟨List.mem_append_right (k2_sels lw_privs) (List.mem_append_left _ (List.mem_of_getElem? (l := tables_1_1) (i := 1) rfl)), rfl⟩
theorem kw_inil : (Jvm.Cond.initialized "RotationPressLaw") ∈ g_tbl := List.mem_filter.mpr ⟨List.mem_append_right (k2_sels lw_privs) (List.mem_append_left _ (List.mem_of_getElem? (l := tables_1_1) (i := 0) rfl)), rfl⟩
theorem kc_ISE : Cond.castable "java/lang/IllegalStateException" "java/lang/IllegalStateException" ∈ tsW := by decide
theorem kd_ISE : (Jvm.Cond.classLink "RotationPressLaw" (13 : Nat) "java/lang/IllegalStateException") ∈ g_tbl := List.mem_filter.mpr ⟨List.mem_append_right (k2_sels lw_privs) (List.mem_append_right _ (List.mem_append_left _ (List.mem_of_getElem? (l := tables_1_2) (i := 211) rfl))), rfl⟩
theorem kc_IAE : Cond.castable "java/lang/IllegalArgumentException" "java/lang/IllegalArgumentException" ∈ tsW := by decide
theorem kd_IAE : (Jvm.Cond.classLink "RotationPressLaw" (19 : Nat) "java/lang/IllegalArgumentException") ∈ g_tbl := List.mem_filter.mpr ⟨List.mem_append_right (k2_sels lw_privs) (List.mem_append_right _ (List.mem_append_right _ (List.mem_append_left _ (List.mem_of_getElem? (l := tables_1_3) (i := 72) rfl)))), rfl⟩
theorem kc_IOB : Cond.castable "java/lang/IndexOutOfBoundsException" "java/lang/IndexOutOfBoundsException" ∈ tsW := by decide
theorem kd_IOB : (Jvm.Cond.classLink "RotationPressLaw" (25 : Nat) "java/lang/IndexOutOfBoundsException") ∈ g_tbl := List.mem_filter.mpr ⟨List.mem_append_right (k2_sels lw_privs) (List.mem_append_right _ (List.mem_append_right _ (List.mem_append_left _ (List.mem_of_getElem? (l := tables_1_3) (i := 96) rfl)))), rfl⟩
abbrev b_Law_feed : ByteArray := method_3_code
def y_Law_feed : MethodName := ⟨"RotationPressLaw", "feed", "(LRotationPress;IIIII[J)I"⟩
theorem d_Law_feed_0 : decode b_Law_feed 0 = .ok (.aload 6, 2) := by decide +kernel
theorem d_Law_feed_2 : decode b_Law_feed 2 = .ok (.iconst 0, 1) := by decide +kernel
theorem d_Law_feed_3 : decode b_Law_feed 3 = .ok (.aload_n 0, 1) := by decide +kernel
theorem d_Law_feed_4 : decode b_Law_feed 4 = .ok (.iload_n 1, 1) := by decide +kernel
theorem d_Law_feed_5 : decode b_Law_feed 5 = .ok (.iload_n 2, 1) := by decide +kernel
theorem d_Law_feed_6 : decode b_Law_feed 6 = .ok (.iload_n 3, 1) := by decide +kernel
theorem d_Law_feed_7 : decode b_Law_feed 7 = .ok (.iload 4, 2) := by decide +kernel
theorem d_Law_feed_9 : decode b_Law_feed 9 = .ok (.iload 5, 2) := by decide +kernel
theorem d_Law_feed_11 : decode b_Law_feed 11 = .ok (.invokevirtual 7, 3) := by decide +kernel
theorem d_Law_feed_14 : decode b_Law_feed 14 = .ok (.i2l, 1) := by decide +kernel
theorem d_Law_feed_15 : decode b_Law_feed 15 = .ok (.lastore, 1) := by decide +kernel
theorem d_Law_feed_16 : decode b_Law_feed 16 = .ok (.goto 7, 3) := by decide +kernel
theorem d_Law_feed_19 : decode b_Law_feed 19 = .ok (.astore 7, 2) := by decide +kernel
theorem d_Law_feed_21 : decode b_Law_feed 21 = .ok (.iconst 1, 1) := by decide +kernel
theorem d_Law_feed_22 : decode b_Law_feed 22 = .ok (.ireturn, 1) := by decide +kernel
theorem d_Law_feed_23 : decode b_Law_feed 23 = .ok (.iconst 0, 1) := by decide +kernel
theorem d_Law_feed_24 : decode b_Law_feed 24 = .ok (.ireturn, 1) := by decide +kernel
theorem kx_feed : (Jvm.Cond.code ({ cls := "RotationPress", name := "feed", desc := "(IIIII)I" } : Jvm.MethodName) prog_1_method_2_code (6 : Nat) (Option.some Jvm.ClassFile.FieldType.int)) ∈ g_tbl := List.mem_filter.mpr ⟨List.mem_append_right (k2_sels lw_privs) (List.mem_append_right _ (List.mem_append_left _ (List.mem_of_getElem? (l := tables_1_2) (i := 215) rfl))), rfl⟩
theorem kl_feed : (Jvm.Cond.methodLink "RotationPressLaw" (7 : Nat) ({ cls := "RotationPress", name := "feed", desc := "(IIIII)I" } : Jvm.MethodName)) ∈ g_tbl := List.mem_filter.mpr ⟨List.mem_append_right (k2_sels lw_privs) (List.mem_append_right _ (List.mem_append_left _ (List.mem_of_getElem? (l := tables_1_2) (i := 212) rfl))), rfl⟩
theorem km_feed : (Jvm.Cond.instanceMethod ({ cls := "RotationPress", name := "feed", desc := "(IIIII)I" } : Jvm.MethodName)) ∈ g_tbl := List.mem_filter.mpr ⟨List.mem_append_right (k2_sels lw_privs) (List.mem_append_right _ (List.mem_append_left _ (List.mem_of_getElem? (l := tables_1_2) (i := 213) rfl))), rfl⟩
theorem ks_feed : (Jvm.Cond.selects "RotationPress" ({ cls := "RotationPress", name := "feed", desc := "(IIIII)I" } : Jvm.MethodName) ({ cls := "RotationPress", name := "feed", desc := "(IIIII)I" } : Jvm.MethodName)) ∈ g_tbl := List.mem_filter.mpr ⟨List.mem_append_right (k2_sels lw_privs) (List.mem_append_right _ (List.mem_append_left _ (List.mem_of_getElem? (l := tables_1_2) (i := 214) rfl))), rfl⟩
theorem kv_feed : (Jvm.Cond.codeWith ({ cls := "RotationPressLaw", name := "feed", desc := "(LRotationPress;IIIII[J)I" } : Jvm.MethodName) method_3_code (8 : Nat) (Option.some Jvm.ClassFile.FieldType.int) [((0 : Nat), (16 : Nat), (19 : Nat), (13 : Nat))]) ∈ g_tbl := List.mem_filter.mpr ⟨List.mem_append_right (k2_sels lw_privs) (List.mem_append_right _ (List.mem_append_left _ (List.mem_of_getElem? (l := tables_1_2) (i := 210) rfl))), rfl⟩
theorem w_feed {l : Launch} {D : va_G} {K : Nat → ClassId} {q : Nat} (o : Nat) (f : Nat → Int64) (p1 p2 p3 p4 p5 : Int32) {wx : va_W} {X : Type} {wo : X → va_W} {rm : Room} {r : Int32} {fs : List Value} (rw : Room) (hM : Ci l D K y_Press_feed (g_wd y_Press_feed b_Press_feed 6 (some .int)) rm [.ref q, .int p1, .int p2, .int p3, .int p4, .int p5] wx wo r) (hq : wx[0]? = some (q, .inr (0, fs))) (hR : rm.frames + 1 ≤ rw.frames ∧ 8 + (6 + 11) + rm.locals ≤ rw.locals) (hc : rm.cells ≤ rw.cells) (hs : rm.slots ≤ rw.slots) : CiT l D K y_Law_feed (g_wdW y_Law_feed b_Law_feed 8 (some .int) [(0, 16, 19, 13)]) rw [.ref q, .int p1, .int p2, .int p3, .int p4, .int p5, .ref o] (ocell K o f :: wx) (fun x => ocell K o (vp_updL f 0 r.toInt64) :: wo x) (fun k => k = 0) :=
  mk_iT (by decide) (Nat.le_of_ble_eq_true rfl) (fun p e s m below meth c A Q hC hTs htab kr => by
    refine g_aload 0 hC (j := 6) (hj := rfl) (hd := d_Law_feed_0) ?_
    refine g_iconst 2 hC (0 : Int32) (by decide) d_Law_feed_2 ?_
    refine g_aload_n 3 hC (j := 0) (hj := rfl) (hd := d_Law_feed_3) ?_
    refine g_iload_n 4 hC (j := 1) (hj := rfl) (hd := d_Law_feed_4) ?_
    refine g_iload_n 5 hC (j := 2) (hj := rfl) (hd := d_Law_feed_5) ?_
    refine g_iload_n 6 hC (j := 3) (hj := rfl) (hd := d_Law_feed_6) ?_
    refine g_iload 7 hC (j := 4) (hj := rfl) (hd := d_Law_feed_7) ?_
    refine g_iload 9 hC (j := 5) (hj := rfl) (hd := d_Law_feed_9) ?_
    refine g_callVi 11 hC hM kx_feed kw_ini kl_feed km_feed ks_feed 5 rfl (by decide +kernel) hR (List.range' 1 wx.length) [0] [ocell K o f] (nd_range 1 _) at_tail rfl rfl (dis_0 _) 0 0 rfl rfl hq rfl (Nat.le_of_ble_eq_true rfl) ⟨by rw [Nat.zero_add]; exact hc, by rw [Nat.zero_add]; exact hs⟩ (fun x => ocell K o f :: wo x) (fun x => rfl) d_Law_feed_11 _ _ rfl rfl (fun x => ?_)
    refine g_i2l 14 hC d_Law_feed_14 ?_
    refine g_last 15 hC 0 rfl rfl d_Law_feed_15 _ rfl ?_
    refine g_goto 16 hC 23 (by decide) d_Law_feed_16 ?_
    refine g_iconst 23 hC (0 : Int32) (by decide) d_Law_feed_23 ?_
    exact g_wide rw.cells rw.slots (by rw [Nat.zero_add]; exact hc) (by rw [Nat.zero_add]; exact hs) (kr x 0 24 _ rfl d_Law_feed_24))
theorem wt_feed {l : Launch} {D : va_G} {K : Nat → ClassId} {q : Nat} (o : Nat) (f : Nat → Int64) (p1 p2 p3 p4 p5 : Int32) {wx : va_W} {rm : Room} {fs : List Value} (rw : Room) (hM : Ct l D K y_Press_feed (g_wd y_Press_feed b_Press_feed 6 (some .int)) rm [.ref q, .int p1, .int p2, .int p3, .int p4, .int p5] wx "java/lang/IllegalStateException") (hq : wx[0]? = some (q, .inr (0, fs))) (hR : rm.frames + 1 ≤ rw.frames ∧ 8 + (6 + 11) + rm.locals ≤ rw.locals) (hc : rm.cells ≤ rw.cells) (hs : rm.slots ≤ rw.slots) : CiT l D K y_Law_feed (g_wdW y_Law_feed b_Law_feed 8 (some .int) [(0, 16, 19, 13)]) rw [.ref q, .int p1, .int p2, .int p3, .int p4, .int p5, .ref o] (ocell K o f :: wx) (fun (_ : Unit) => (ocell K o f :: wx)) (fun k => k = 1) :=
  mk_iT (by decide) (Nat.le_of_ble_eq_true rfl) (fun p e s m below meth c A Q hC hTs htab kr => by
    refine g_aload 0 hC (j := 6) (hj := rfl) (hd := d_Law_feed_0) ?_
    refine g_iconst 2 hC (0 : Int32) (by decide) d_Law_feed_2 ?_
    refine g_aload_n 3 hC (j := 0) (hj := rfl) (hd := d_Law_feed_3) ?_
    refine g_iload_n 4 hC (j := 1) (hj := rfl) (hd := d_Law_feed_4) ?_
    refine g_iload_n 5 hC (j := 2) (hj := rfl) (hd := d_Law_feed_5) ?_
    refine g_iload_n 6 hC (j := 3) (hj := rfl) (hd := d_Law_feed_6) ?_
    refine g_iload 7 hC (j := 4) (hj := rfl) (hd := d_Law_feed_7) ?_
    refine g_iload 9 hC (j := 5) (hj := rfl) (hd := d_Law_feed_9) ?_
    refine g_callVt 11 hC hTs hM kx_feed kw_ini kl_feed km_feed ks_feed 5 rfl (by decide +kernel) hR (List.range' 1 wx.length) at_tail 0 0 rfl rfl hq rfl (Nat.le_of_ble_eq_true rfl) ⟨by rw [Nat.zero_add]; exact hc, by rw [Nat.zero_add]; exact hs⟩ d_Law_feed_11 _ _ rfl rfl (fun hpl cE hE => ?_)
    refine ⟨[], ⟨0, 16, 19, 13⟩, [], htab, (fun z hz => (by cases hz)), by decide, row_catches hpl hC.2.2.2.1 hE (by decide) (hC.2.2.2.2.1 _ kd_ISE) ((hTs s [] (State.WarmedH.refl s) va_S.rf).any _ _ kc_ISE), fun a => ?_⟩
    refine g_astore 19 hC _ (by decide) rfl d_Law_feed_19 ?_
    refine g_iconst 21 hC (1 : Int32) (by decide) d_Law_feed_21 ?_
    exact g_wide rw.cells rw.slots (by rw [Nat.zero_add]; exact hc) (by rw [Nat.zero_add]; exact hs) (kr () 1 22 _ rfl d_Law_feed_22))
abbrev b_Law_end : ByteArray := method_4_code
def y_Law_end : MethodName := ⟨"RotationPressLaw", "end", "(LRotationPress;I)I"⟩
theorem d_Law_end_0 : decode b_Law_end 0 = .ok (.aload_n 0, 1) := by decide +kernel
theorem d_Law_end_1 : decode b_Law_end 1 = .ok (.iload_n 1, 1) := by decide +kernel
theorem d_Law_end_2 : decode b_Law_end 2 = .ok (.invokevirtual 15, 3) := by decide +kernel
theorem d_Law_end_5 : decode b_Law_end 5 = .ok (.goto 6, 3) := by decide +kernel
theorem d_Law_end_8 : decode b_Law_end 8 = .ok (.astore_n 2, 1) := by decide +kernel
theorem d_Law_end_9 : decode b_Law_end 9 = .ok (.iconst 1, 1) := by decide +kernel
theorem d_Law_end_10 : decode b_Law_end 10 = .ok (.ireturn, 1) := by decide +kernel
theorem d_Law_end_11 : decode b_Law_end 11 = .ok (.iconst 0, 1) := by decide +kernel
theorem d_Law_end_12 : decode b_Law_end 12 = .ok (.ireturn, 1) := by decide +kernel
theorem kx_end : (Jvm.Cond.code ({ cls := "RotationPress", name := "end", desc := "(I)V" } : Jvm.MethodName) prog_1_method_3_code (2 : Nat) (Option.none : Option Jvm.ClassFile.FieldType)) ∈ g_tbl := List.mem_filter.mpr ⟨List.mem_append_right (k2_sels lw_privs) (List.mem_append_right _ (List.mem_append_right _ (List.mem_append_left _ (List.mem_of_getElem? (l := tables_1_3) (i := 76) rfl)))), rfl⟩
theorem kl_end : (Jvm.Cond.methodLink "RotationPressLaw" (15 : Nat) ({ cls := "RotationPress", name := "end", desc := "(I)V" } : Jvm.MethodName)) ∈ g_tbl := List.mem_filter.mpr ⟨List.mem_append_right (k2_sels lw_privs) (List.mem_append_right _ (List.mem_append_right _ (List.mem_append_left _ (List.mem_of_getElem? (l := tables_1_3) (i := 73) rfl)))), rfl⟩
theorem km_end : (Jvm.Cond.instanceMethod ({ cls := "RotationPress", name := "end", desc := "(I)V" } : Jvm.MethodName)) ∈ g_tbl := List.mem_filter.mpr ⟨List.mem_append_right (k2_sels lw_privs) (List.mem_append_right _ (List.mem_append_right _ (List.mem_append_left _ (List.mem_of_getElem? (l := tables_1_3) (i := 74) rfl)))), rfl⟩
theorem ks_end : (Jvm.Cond.selects "RotationPress" ({ cls := "RotationPress", name := "end", desc := "(I)V" } : Jvm.MethodName) ({ cls := "RotationPress", name := "end", desc := "(I)V" } : Jvm.MethodName)) ∈ g_tbl := List.mem_filter.mpr ⟨List.mem_append_right (k2_sels lw_privs) (List.mem_append_right _ (List.mem_append_right _ (List.mem_append_left _ (List.mem_of_getElem? (l := tables_1_3) (i := 75) rfl)))), rfl⟩
theorem kv_end : (Jvm.Cond.codeWith ({ cls := "RotationPressLaw", name := "end", desc := "(LRotationPress;I)I" } : Jvm.MethodName) method_4_code (3 : Nat) (Option.some Jvm.ClassFile.FieldType.int) [((0 : Nat), (5 : Nat), (8 : Nat), (19 : Nat))]) ∈ g_tbl := List.mem_filter.mpr ⟨List.mem_append_right (k2_sels lw_privs) (List.mem_append_right _ (List.mem_append_right _ (List.mem_append_left _ (List.mem_of_getElem? (l := tables_1_3) (i := 71) rfl)))), rfl⟩
theorem w_end {l : Launch} {D : va_G} {K : Nat → ClassId} {q : Nat} (p1 : Int32) {wx : va_W} {X : Type} {wo : X → va_W} {rm : Room} {fs : List Value} (rw : Room) (hM : Cv l D K y_Press_end (g_wd y_Press_end b_Press_end 2 none) rm [.ref q, .int p1] wx wo) (hq : wx[0]? = some (q, .inr (0, fs))) (hR : rm.frames + 1 ≤ rw.frames ∧ 8 + (2 + 11) + rm.locals ≤ rw.locals) (hc : rm.cells ≤ rw.cells) (hs : rm.slots ≤ rw.slots) : CiT l D K y_Law_end (g_wdW y_Law_end b_Law_end 3 (some .int) [(0, 5, 8, 19)]) rw [.ref q, .int p1] wx wo (fun k => k = 0) :=
  mk_iT (by decide) (Nat.le_of_ble_eq_true rfl) (fun p e s m below meth c A Q hC hTs htab kr => by
    refine g_aload_n 0 hC (j := 0) (hj := rfl) (hd := d_Law_end_0) ?_
    refine g_iload_n 1 hC (j := 1) (hj := rfl) (hd := d_Law_end_1) ?_
    refine g_callVv 2 hC hM kx_end kw_ini kl_end km_end ks_end 1 rfl (by decide +kernel) hR (List.range' 0 wx.length) [] [] (nd_range 0 _) at_all rfl rfl rfl 0 0 rfl rfl hq rfl (Nat.le_of_ble_eq_true rfl) ⟨by rw [Nat.zero_add]; exact hc, by rw [Nat.zero_add]; exact hs⟩ wo (fun x => rfl) d_Law_end_2 _ _ rfl rfl (fun x => ?_)
    refine g_goto 5 hC 11 (by decide) d_Law_end_5 ?_
    refine g_iconst 11 hC (0 : Int32) (by decide) d_Law_end_11 ?_
    exact g_wide rw.cells rw.slots (by rw [Nat.zero_add]; exact hc) (by rw [Nat.zero_add]; exact hs) (kr x 0 12 _ rfl d_Law_end_12))
theorem wt_end {l : Launch} {D : va_G} {K : Nat → ClassId} {q : Nat} (p1 : Int32) {wx : va_W} {rm : Room} {fs : List Value} (rw : Room) (hM : Ct l D K y_Press_end (g_wd y_Press_end b_Press_end 2 none) rm [.ref q, .int p1] wx "java/lang/IllegalArgumentException") (hq : wx[0]? = some (q, .inr (0, fs))) (hR : rm.frames + 1 ≤ rw.frames ∧ 8 + (2 + 11) + rm.locals ≤ rw.locals) (hc : rm.cells ≤ rw.cells) (hs : rm.slots ≤ rw.slots) : CiT l D K y_Law_end (g_wdW y_Law_end b_Law_end 3 (some .int) [(0, 5, 8, 19)]) rw [.ref q, .int p1] wx (fun (_ : Unit) => wx) (fun k => k = 1) :=
  mk_iT (by decide) (Nat.le_of_ble_eq_true rfl) (fun p e s m below meth c A Q hC hTs htab kr => by
    refine g_aload_n 0 hC (j := 0) (hj := rfl) (hd := d_Law_end_0) ?_
    refine g_iload_n 1 hC (j := 1) (hj := rfl) (hd := d_Law_end_1) ?_
    refine g_callVt 2 hC hTs hM kx_end kw_ini kl_end km_end ks_end 1 rfl (by decide +kernel) hR (List.range' 0 wx.length) at_all 0 0 rfl rfl hq rfl (Nat.le_of_ble_eq_true rfl) ⟨by rw [Nat.zero_add]; exact hc, by rw [Nat.zero_add]; exact hs⟩ d_Law_end_2 _ _ rfl rfl (fun hpl cE hE => ?_)
    refine ⟨[], ⟨0, 5, 8, 19⟩, [], htab, (fun z hz => (by cases hz)), by decide, row_catches hpl hC.2.2.2.1 hE (by decide) (hC.2.2.2.2.1 _ kd_IAE) ((hTs s [] (State.WarmedH.refl s) va_S.rf).any _ _ kc_IAE), fun a => ?_⟩
    refine g_astore_n 8 hC _ (by decide) rfl d_Law_end_8 ?_
    refine g_iconst 9 hC (1 : Int32) (by decide) d_Law_end_9 ?_
    exact g_wide rw.cells rw.slots (by rw [Nat.zero_add]; exact hc) (by rw [Nat.zero_add]; exact hs) (kr () 1 10 _ rfl d_Law_end_10))
abbrev b_Law_alter : ByteArray := method_5_code
def y_Law_alter : MethodName := ⟨"RotationPressLaw", "alter", "(LRotationPress;II[J)I"⟩
theorem d_Law_alter_0 : decode b_Law_alter 0 = .ok (.aload_n 3, 1) := by decide +kernel
theorem d_Law_alter_1 : decode b_Law_alter 1 = .ok (.iconst 0, 1) := by decide +kernel
theorem d_Law_alter_2 : decode b_Law_alter 2 = .ok (.aload_n 0, 1) := by decide +kernel
theorem d_Law_alter_3 : decode b_Law_alter 3 = .ok (.iload_n 1, 1) := by decide +kernel
theorem d_Law_alter_4 : decode b_Law_alter 4 = .ok (.iload_n 2, 1) := by decide +kernel
theorem d_Law_alter_5 : decode b_Law_alter 5 = .ok (.invokevirtual 21, 3) := by decide +kernel
theorem d_Law_alter_8 : decode b_Law_alter 8 = .ok (.i2l, 1) := by decide +kernel
theorem d_Law_alter_9 : decode b_Law_alter 9 = .ok (.lastore, 1) := by decide +kernel
theorem d_Law_alter_10 : decode b_Law_alter 10 = .ok (.goto 11, 3) := by decide +kernel
theorem d_Law_alter_13 : decode b_Law_alter 13 = .ok (.astore 4, 2) := by decide +kernel
theorem d_Law_alter_15 : decode b_Law_alter 15 = .ok (.iconst 1, 1) := by decide +kernel
theorem d_Law_alter_16 : decode b_Law_alter 16 = .ok (.ireturn, 1) := by decide +kernel
theorem d_Law_alter_17 : decode b_Law_alter 17 = .ok (.astore 4, 2) := by decide +kernel
theorem d_Law_alter_19 : decode b_Law_alter 19 = .ok (.iconst 2, 1) := by decide +kernel
theorem d_Law_alter_20 : decode b_Law_alter 20 = .ok (.ireturn, 1) := by decide +kernel
theorem d_Law_alter_21 : decode b_Law_alter 21 = .ok (.iconst 0, 1) := by decide +kernel
theorem d_Law_alter_22 : decode b_Law_alter 22 = .ok (.ireturn, 1) := by decide +kernel
theorem kx_alter : (Jvm.Cond.code ({ cls := "RotationPress", name := "alter", desc := "(II)I" } : Jvm.MethodName) prog_1_method_4_code (3 : Nat) (Option.some Jvm.ClassFile.FieldType.int)) ∈ g_tbl := List.mem_filter.mpr ⟨List.mem_append_right (k2_sels lw_privs) (List.mem_append_right _ (List.mem_append_right _ (List.mem_append_left _ (List.mem_of_getElem? (l := tables_1_3) (i := 100) rfl)))), rfl⟩
theorem kl_alter : (Jvm.Cond.methodLink "RotationPressLaw" (21 : Nat) ({ cls := "RotationPress", name := "alter", desc := "(II)I" } : Jvm.MethodName)) ∈ g_tbl := List.mem_filter.mpr ⟨List.mem_append_right (k2_sels lw_privs) (List.mem_append_right _ (List.mem_append_right _ (List.mem_append_left _ (List.mem_of_getElem? (l := tables_1_3) (i := 97) rfl)))), rfl⟩
theorem km_alter : (Jvm.Cond.instanceMethod ({ cls := "RotationPress", name := "alter", desc := "(II)I" } : Jvm.MethodName)) ∈ g_tbl := List.mem_filter.mpr ⟨List.mem_append_right (k2_sels lw_privs) (List.mem_append_right _ (List.mem_append_right _ (List.mem_append_left _ (List.mem_of_getElem? (l := tables_1_3) (i := 98) rfl)))), rfl⟩
theorem ks_alter : (Jvm.Cond.selects "RotationPress" ({ cls := "RotationPress", name := "alter", desc := "(II)I" } : Jvm.MethodName) ({ cls := "RotationPress", name := "alter", desc := "(II)I" } : Jvm.MethodName)) ∈ g_tbl := List.mem_filter.mpr ⟨List.mem_append_right (k2_sels lw_privs) (List.mem_append_right _ (List.mem_append_right _ (List.mem_append_left _ (List.mem_of_getElem? (l := tables_1_3) (i := 99) rfl)))), rfl⟩
theorem kv_alter : (Jvm.Cond.codeWith ({ cls := "RotationPressLaw", name := "alter", desc := "(LRotationPress;II[J)I" } : Jvm.MethodName) method_5_code (5 : Nat) (Option.some Jvm.ClassFile.FieldType.int) [((0 : Nat), (10 : Nat), (13 : Nat), (25 : Nat)), ((0 : Nat), (10 : Nat), (17 : Nat), (19 : Nat))]) ∈ g_tbl := List.mem_filter.mpr ⟨List.mem_append_right (k2_sels lw_privs) (List.mem_append_right _ (List.mem_append_right _ (List.mem_append_left _ (List.mem_of_getElem? (l := tables_1_3) (i := 95) rfl)))), rfl⟩
theorem w_alter {l : Launch} {D : va_G} {K : Nat → ClassId} {q : Nat} (o : Nat) (f : Nat → Int64) (p1 p2 : Int32) {wx : va_W} {X : Type} {wo : X → va_W} {rm : Room} {r : Int32} {fs : List Value} (rw : Room) (hM : Ci l D K y_Press_alter (g_wd y_Press_alter b_Press_alter 3 (some .int)) rm [.ref q, .int p1, .int p2] wx wo r) (hq : wx[0]? = some (q, .inr (0, fs))) (hR : rm.frames + 1 ≤ rw.frames ∧ 8 + (3 + 11) + rm.locals ≤ rw.locals) (hc : rm.cells ≤ rw.cells) (hs : rm.slots ≤ rw.slots) : CiT l D K y_Law_alter (g_wdW y_Law_alter b_Law_alter 5 (some .int) [(0, 10, 13, 25), (0, 10, 17, 19)]) rw [.ref q, .int p1, .int p2, .ref o] (ocell K o f :: wx) (fun x => ocell K o (vp_updL f 0 r.toInt64) :: wo x) (fun k => k = 0) :=
  mk_iT (by decide) (Nat.le_of_ble_eq_true rfl) (fun p e s m below meth c A Q hC hTs htab kr => by
    refine g_aload_n 0 hC (j := 3) (hj := rfl) (hd := d_Law_alter_0) ?_
    refine g_iconst 1 hC (0 : Int32) (by decide) d_Law_alter_1 ?_
    refine g_aload_n 2 hC (j := 0) (hj := rfl) (hd := d_Law_alter_2) ?_
    refine g_iload_n 3 hC (j := 1) (hj := rfl) (hd := d_Law_alter_3) ?_
    refine g_iload_n 4 hC (j := 2) (hj := rfl) (hd := d_Law_alter_4) ?_
    refine g_callVi 5 hC hM kx_alter kw_ini kl_alter km_alter ks_alter 2 rfl (by decide +kernel) hR (List.range' 1 wx.length) [0] [ocell K o f] (nd_range 1 _) at_tail rfl rfl (dis_0 _) 0 0 rfl rfl hq rfl (Nat.le_of_ble_eq_true rfl) ⟨by rw [Nat.zero_add]; exact hc, by rw [Nat.zero_add]; exact hs⟩ (fun x => ocell K o f :: wo x) (fun x => rfl) d_Law_alter_5 _ _ rfl rfl (fun x => ?_)
    refine g_i2l 8 hC d_Law_alter_8 ?_
    refine g_last 9 hC 0 rfl rfl d_Law_alter_9 _ rfl ?_
    refine g_goto 10 hC 21 (by decide) d_Law_alter_10 ?_
    refine g_iconst 21 hC (0 : Int32) (by decide) d_Law_alter_21 ?_
    exact g_wide rw.cells rw.slots (by rw [Nat.zero_add]; exact hc) (by rw [Nat.zero_add]; exact hs) (kr x 0 22 _ rfl d_Law_alter_22))
theorem wt_alter {l : Launch} {D : va_G} {K : Nat → ClassId} {q : Nat} (o : Nat) (f : Nat → Int64) (p1 p2 : Int32) {wx : va_W} {rm : Room} {fs : List Value} (rw : Room) (hM : Ct l D K y_Press_alter (g_wd y_Press_alter b_Press_alter 3 (some .int)) rm [.ref q, .int p1, .int p2] wx "java/lang/IndexOutOfBoundsException") (hq : wx[0]? = some (q, .inr (0, fs))) (hR : rm.frames + 1 ≤ rw.frames ∧ 8 + (3 + 11) + rm.locals ≤ rw.locals) (hc : rm.cells ≤ rw.cells) (hs : rm.slots ≤ rw.slots) : CiT l D K y_Law_alter (g_wdW y_Law_alter b_Law_alter 5 (some .int) [(0, 10, 13, 25), (0, 10, 17, 19)]) rw [.ref q, .int p1, .int p2, .ref o] (ocell K o f :: wx) (fun (_ : Unit) => (ocell K o f :: wx)) (fun k => k = 1) :=
  mk_iT (by decide) (Nat.le_of_ble_eq_true rfl) (fun p e s m below meth c A Q hC hTs htab kr => by
    refine g_aload_n 0 hC (j := 3) (hj := rfl) (hd := d_Law_alter_0) ?_
    refine g_iconst 1 hC (0 : Int32) (by decide) d_Law_alter_1 ?_
    refine g_aload_n 2 hC (j := 0) (hj := rfl) (hd := d_Law_alter_2) ?_
    refine g_iload_n 3 hC (j := 1) (hj := rfl) (hd := d_Law_alter_3) ?_
    refine g_iload_n 4 hC (j := 2) (hj := rfl) (hd := d_Law_alter_4) ?_
    refine g_callVt 5 hC hTs hM kx_alter kw_ini kl_alter km_alter ks_alter 2 rfl (by decide +kernel) hR (List.range' 1 wx.length) at_tail 0 0 rfl rfl hq rfl (Nat.le_of_ble_eq_true rfl) ⟨by rw [Nat.zero_add]; exact hc, by rw [Nat.zero_add]; exact hs⟩ d_Law_alter_5 _ _ rfl rfl (fun hpl cE hE => ?_)
    refine ⟨[], ⟨0, 10, 13, 25⟩, [⟨0, 10, 17, 19⟩], htab, (fun z hz => (by cases hz)), by decide, row_catches hpl hC.2.2.2.1 hE (by decide) (hC.2.2.2.2.1 _ kd_IOB) ((hTs s [] (State.WarmedH.refl s) va_S.rf).any _ _ kc_IOB), fun a => ?_⟩
    refine g_astore 13 hC _ (by decide) rfl d_Law_alter_13 ?_
    refine g_iconst 15 hC (1 : Int32) (by decide) d_Law_alter_15 ?_
    exact g_wide rw.cells rw.slots (by rw [Nat.zero_add]; exact hc) (by rw [Nat.zero_add]; exact hs) (kr () 1 16 _ rfl d_Law_alter_16))
theorem wt_alter2 {l : Launch} {D : va_G} {K : Nat → ClassId} {q : Nat} (o : Nat) (f : Nat → Int64) (p1 p2 : Int32) {wx : va_W} {rm : Room} {fs : List Value} (rw : Room) (hM : Ct l D K y_Press_alter (g_wd y_Press_alter b_Press_alter 3 (some .int)) rm [.ref q, .int p1, .int p2] wx "java/lang/IllegalArgumentException") (hq : wx[0]? = some (q, .inr (0, fs))) (hR : rm.frames + 1 ≤ rw.frames ∧ 8 + (3 + 11) + rm.locals ≤ rw.locals) (hc : rm.cells ≤ rw.cells) (hs : rm.slots ≤ rw.slots) : CiT l D K y_Law_alter (g_wdW y_Law_alter b_Law_alter 5 (some .int) [(0, 10, 13, 25), (0, 10, 17, 19)]) rw [.ref q, .int p1, .int p2, .ref o] (ocell K o f :: wx) (fun (_ : Unit) => (ocell K o f :: wx)) (fun k => k = 2) :=
  mk_iT (by decide) (Nat.le_of_ble_eq_true rfl) (fun p e s m below meth c A Q hC hTs htab kr => by
    refine g_aload_n 0 hC (j := 3) (hj := rfl) (hd := d_Law_alter_0) ?_
    refine g_iconst 1 hC (0 : Int32) (by decide) d_Law_alter_1 ?_
    refine g_aload_n 2 hC (j := 0) (hj := rfl) (hd := d_Law_alter_2) ?_
    refine g_iload_n 3 hC (j := 1) (hj := rfl) (hd := d_Law_alter_3) ?_
    refine g_iload_n 4 hC (j := 2) (hj := rfl) (hd := d_Law_alter_4) ?_
    refine g_callVt 5 hC hTs hM kx_alter kw_ini kl_alter km_alter ks_alter 2 rfl (by decide +kernel) hR (List.range' 1 wx.length) at_tail 0 0 rfl rfl hq rfl (Nat.le_of_ble_eq_true rfl) ⟨by rw [Nat.zero_add]; exact hc, by rw [Nat.zero_add]; exact hs⟩ d_Law_alter_5 _ _ rfl rfl (fun hpl cE hE => ?_)
    have hN := (hTs s [] (State.WarmedH.refl s) va_S.rf).2.2
    refine ⟨[⟨0, 10, 13, 25⟩], ⟨0, 10, 17, 19⟩, [], htab, fun z hz => ?_, by decide, row_catches hpl hC.2.2.2.1 hE (by decide) (hC.2.2.2.2.1 _ kd_IAE) ((hTs s [] (State.WarmedH.refl s) va_S.rf).any _ _ kc_IAE), fun a => ?_⟩
    · rw [List.mem_singleton] at hz
      subst hz
      exact RowPassed.of_words hpl hC.2.2.2.1 (by decide) (hC.2.2.2.2.1 _ kd_IOB) hE (nc_ride (a' := [Value.ref q, .int p1, .int p2, .ref o].toArray) (State.WarmedH.refl s) hN)
    · refine g_astore 17 hC _ (by decide) rfl d_Law_alter_17 ?_
      refine g_iconst 19 hC (2 : Int32) (by decide) d_Law_alter_19 ?_
      exact g_wide rw.cells rw.slots (by rw [Nat.zero_add]; exact hc) (by rw [Nat.zero_add]; exact hs) (kr () 2 20 _ rfl d_Law_alter_20))
abbrev b_Law_copy : ByteArray := method_6_code
def y_Law_copy : MethodName := ⟨"RotationPressLaw", "copy", "(LRotationPress;[J)I"⟩
theorem d_Law_copy_0 : decode b_Law_copy 0 = .ok (.aload_n 1, 1) := by decide +kernel
theorem d_Law_copy_1 : decode b_Law_copy 1 = .ok (.iconst 0, 1) := by decide +kernel
theorem d_Law_copy_2 : decode b_Law_copy 2 = .ok (.aload_n 0, 1) := by decide +kernel
theorem d_Law_copy_3 : decode b_Law_copy 3 = .ok (.invokevirtual 27, 3) := by decide +kernel
theorem d_Law_copy_6 : decode b_Law_copy 6 = .ok (.i2l, 1) := by decide +kernel
theorem d_Law_copy_7 : decode b_Law_copy 7 = .ok (.lastore, 1) := by decide +kernel
theorem d_Law_copy_8 : decode b_Law_copy 8 = .ok (.goto 6, 3) := by decide +kernel
theorem d_Law_copy_11 : decode b_Law_copy 11 = .ok (.astore_n 2, 1) := by decide +kernel
theorem d_Law_copy_12 : decode b_Law_copy 12 = .ok (.iconst 1, 1) := by decide +kernel
theorem d_Law_copy_13 : decode b_Law_copy 13 = .ok (.ireturn, 1) := by decide +kernel
theorem d_Law_copy_14 : decode b_Law_copy 14 = .ok (.iconst 0, 1) := by decide +kernel
theorem d_Law_copy_15 : decode b_Law_copy 15 = .ok (.ireturn, 1) := by decide +kernel
theorem kx_copy : (Jvm.Cond.code ({ cls := "RotationPress", name := "copy", desc := "()I" } : Jvm.MethodName) prog_1_method_5_code (1 : Nat) (Option.some Jvm.ClassFile.FieldType.int)) ∈ g_tbl := List.mem_filter.mpr ⟨List.mem_append_right (k2_sels lw_privs) (List.mem_append_right _ (List.mem_append_right _ (List.mem_append_left _ (List.mem_of_getElem? (l := tables_1_3) (i := 133) rfl)))), rfl⟩
theorem kl_copy : (Jvm.Cond.methodLink "RotationPressLaw" (27 : Nat) ({ cls := "RotationPress", name := "copy", desc := "()I" } : Jvm.MethodName)) ∈ g_tbl := List.mem_filter.mpr ⟨List.mem_append_right (k2_sels lw_privs) (List.mem_append_right _ (List.mem_append_right _ (List.mem_append_left _ (List.mem_of_getElem? (l := tables_1_3) (i := 130) rfl)))), rfl⟩
theorem km_copy : (Jvm.Cond.instanceMethod ({ cls := "RotationPress", name := "copy", desc := "()I" } : Jvm.MethodName)) ∈ g_tbl := List.mem_filter.mpr ⟨List.mem_append_right (k2_sels lw_privs) (List.mem_append_right _ (List.mem_append_right _ (List.mem_append_left _ (List.mem_of_getElem? (l := tables_1_3) (i := 131) rfl)))), rfl⟩
theorem ks_copy : (Jvm.Cond.selects "RotationPress" ({ cls := "RotationPress", name := "copy", desc := "()I" } : Jvm.MethodName) ({ cls := "RotationPress", name := "copy", desc := "()I" } : Jvm.MethodName)) ∈ g_tbl := List.mem_filter.mpr ⟨List.mem_append_right (k2_sels lw_privs) (List.mem_append_right _ (List.mem_append_right _ (List.mem_append_left _ (List.mem_of_getElem? (l := tables_1_3) (i := 132) rfl)))), rfl⟩
theorem kv_copy : (Jvm.Cond.codeWith ({ cls := "RotationPressLaw", name := "copy", desc := "(LRotationPress;[J)I" } : Jvm.MethodName) method_6_code (3 : Nat) (Option.some Jvm.ClassFile.FieldType.int) [((0 : Nat), (8 : Nat), (11 : Nat), (13 : Nat))]) ∈ g_tbl := List.mem_filter.mpr ⟨List.mem_append_right (k2_sels lw_privs) (List.mem_append_right _ (List.mem_append_right _ (List.mem_append_left _ (List.mem_of_getElem? (l := tables_1_3) (i := 129) rfl)))), rfl⟩
theorem w_copy {l : Launch} {D : va_G} {K : Nat → ClassId} {q : Nat} (o : Nat) (f : Nat → Int64) {wx : va_W} {X : Type} {wo : X → va_W} {rm : Room} {r : Int32} {fs : List Value} (rw : Room) (hM : Ci l D K y_Press_copy (g_wd y_Press_copy b_Press_copy 1 (some .int)) rm [.ref q] wx wo r) (hq : wx[0]? = some (q, .inr (0, fs))) (hR : rm.frames + 1 ≤ rw.frames ∧ 8 + (1 + 11) + rm.locals ≤ rw.locals) (hc : rm.cells ≤ rw.cells) (hs : rm.slots ≤ rw.slots) : CiT l D K y_Law_copy (g_wdW y_Law_copy b_Law_copy 3 (some .int) [(0, 8, 11, 13)]) rw [.ref q, .ref o] (ocell K o f :: wx) (fun x => ocell K o (vp_updL f 0 r.toInt64) :: wo x) (fun k => k = 0) :=
  mk_iT (by decide) (Nat.le_of_ble_eq_true rfl) (fun p e s m below meth c A Q hC hTs htab kr => by
    refine g_aload_n 0 hC (j := 1) (hj := rfl) (hd := d_Law_copy_0) ?_
    refine g_iconst 1 hC (0 : Int32) (by decide) d_Law_copy_1 ?_
    refine g_aload_n 2 hC (j := 0) (hj := rfl) (hd := d_Law_copy_2) ?_
    refine g_callVi 3 hC hM kx_copy kw_ini kl_copy km_copy ks_copy 0 rfl (by decide +kernel) hR (List.range' 1 wx.length) [0] [ocell K o f] (nd_range 1 _) at_tail rfl rfl (dis_0 _) 0 0 rfl rfl hq rfl (Nat.le_of_ble_eq_true rfl) ⟨by rw [Nat.zero_add]; exact hc, by rw [Nat.zero_add]; exact hs⟩ (fun x => ocell K o f :: wo x) (fun x => rfl) d_Law_copy_3 _ _ rfl rfl (fun x => ?_)
    refine g_i2l 6 hC d_Law_copy_6 ?_
    refine g_last 7 hC 0 rfl rfl d_Law_copy_7 _ rfl ?_
    refine g_goto 8 hC 14 (by decide) d_Law_copy_8 ?_
    refine g_iconst 14 hC (0 : Int32) (by decide) d_Law_copy_14 ?_
    exact g_wide rw.cells rw.slots (by rw [Nat.zero_add]; exact hc) (by rw [Nat.zero_add]; exact hs) (kr x 0 15 _ rfl d_Law_copy_15))
theorem wt_copy {l : Launch} {D : va_G} {K : Nat → ClassId} {q : Nat} (o : Nat) (f : Nat → Int64) {wx : va_W} {rm : Room} {fs : List Value} (rw : Room) (hM : Ct l D K y_Press_copy (g_wd y_Press_copy b_Press_copy 1 (some .int)) rm [.ref q] wx "java/lang/IllegalStateException") (hq : wx[0]? = some (q, .inr (0, fs))) (hR : rm.frames + 1 ≤ rw.frames ∧ 8 + (1 + 11) + rm.locals ≤ rw.locals) (hc : rm.cells ≤ rw.cells) (hs : rm.slots ≤ rw.slots) : CiT l D K y_Law_copy (g_wdW y_Law_copy b_Law_copy 3 (some .int) [(0, 8, 11, 13)]) rw [.ref q, .ref o] (ocell K o f :: wx) (fun (_ : Unit) => (ocell K o f :: wx)) (fun k => k = 1) :=
  mk_iT (by decide) (Nat.le_of_ble_eq_true rfl) (fun p e s m below meth c A Q hC hTs htab kr => by
    refine g_aload_n 0 hC (j := 1) (hj := rfl) (hd := d_Law_copy_0) ?_
    refine g_iconst 1 hC (0 : Int32) (by decide) d_Law_copy_1 ?_
    refine g_aload_n 2 hC (j := 0) (hj := rfl) (hd := d_Law_copy_2) ?_
    refine g_callVt 3 hC hTs hM kx_copy kw_ini kl_copy km_copy ks_copy 0 rfl (by decide +kernel) hR (List.range' 1 wx.length) at_tail 0 0 rfl rfl hq rfl (Nat.le_of_ble_eq_true rfl) ⟨by rw [Nat.zero_add]; exact hc, by rw [Nat.zero_add]; exact hs⟩ d_Law_copy_3 _ _ rfl rfl (fun hpl cE hE => ?_)
    refine ⟨[], ⟨0, 8, 11, 13⟩, [], htab, (fun z hz => (by cases hz)), by decide, row_catches hpl hC.2.2.2.1 hE (by decide) (hC.2.2.2.2.1 _ kd_ISE) ((hTs s [] (State.WarmedH.refl s) va_S.rf).any _ _ kc_ISE), fun a => ?_⟩
    refine g_astore_n 11 hC _ (by decide) rfl d_Law_copy_11 ?_
    refine g_iconst 12 hC (1 : Int32) (by decide) d_Law_copy_12 ?_
    exact g_wide rw.cells rw.slots (by rw [Nat.zero_add]; exact hc) (by rw [Nat.zero_add]; exact hs) (kr () 1 13 _ rfl d_Law_copy_13))
abbrev b_Law_pack : ByteArray := method_7_code
def y_Law_pack : MethodName := ⟨"RotationPressLaw", "pack", "(LRotationPress;I[J)I"⟩
theorem d_Law_pack_0 : decode b_Law_pack 0 = .ok (.aload_n 2, 1) := by decide +kernel
theorem d_Law_pack_1 : decode b_Law_pack 1 = .ok (.iconst 0, 1) := by decide +kernel
theorem d_Law_pack_2 : decode b_Law_pack 2 = .ok (.aload_n 0, 1) := by decide +kernel
theorem d_Law_pack_3 : decode b_Law_pack 3 = .ok (.iload_n 1, 1) := by decide +kernel
theorem d_Law_pack_4 : decode b_Law_pack 4 = .ok (.invokevirtual 31, 3) := by decide +kernel
theorem d_Law_pack_7 : decode b_Law_pack 7 = .ok (.i2l, 1) := by decide +kernel
theorem d_Law_pack_8 : decode b_Law_pack 8 = .ok (.lastore, 1) := by decide +kernel
theorem d_Law_pack_9 : decode b_Law_pack 9 = .ok (.goto 6, 3) := by decide +kernel
theorem d_Law_pack_12 : decode b_Law_pack 12 = .ok (.astore_n 3, 1) := by decide +kernel
theorem d_Law_pack_13 : decode b_Law_pack 13 = .ok (.iconst 1, 1) := by decide +kernel
theorem d_Law_pack_14 : decode b_Law_pack 14 = .ok (.ireturn, 1) := by decide +kernel
theorem d_Law_pack_15 : decode b_Law_pack 15 = .ok (.iconst 0, 1) := by decide +kernel
theorem d_Law_pack_16 : decode b_Law_pack 16 = .ok (.ireturn, 1) := by decide +kernel
theorem kx_pack : (Jvm.Cond.code ({ cls := "RotationPress", name := "pack", desc := "(I)I" } : Jvm.MethodName) prog_1_method_6_code (2 : Nat) (Option.some Jvm.ClassFile.FieldType.int)) ∈ g_tbl := List.mem_filter.mpr ⟨List.mem_append_right (k2_sels lw_privs) (List.mem_append_right _ (List.mem_append_right _ (List.mem_append_left _ (List.mem_of_getElem? (l := tables_1_3) (i := 146) rfl)))), rfl⟩
theorem kl_pack : (Jvm.Cond.methodLink "RotationPressLaw" (31 : Nat) ({ cls := "RotationPress", name := "pack", desc := "(I)I" } : Jvm.MethodName)) ∈ g_tbl := List.mem_filter.mpr ⟨List.mem_append_right (k2_sels lw_privs) (List.mem_append_right _ (List.mem_append_right _ (List.mem_append_left _ (List.mem_of_getElem? (l := tables_1_3) (i := 143) rfl)))), rfl⟩
theorem km_pack : (Jvm.Cond.instanceMethod ({ cls := "RotationPress", name := "pack", desc := "(I)I" } : Jvm.MethodName)) ∈ g_tbl := List.mem_filter.mpr ⟨List.mem_append_right (k2_sels lw_privs) (List.mem_append_right _ (List.mem_append_right _ (List.mem_append_left _ (List.mem_of_getElem? (l := tables_1_3) (i := 144) rfl)))), rfl⟩
theorem ks_pack : (Jvm.Cond.selects "RotationPress" ({ cls := "RotationPress", name := "pack", desc := "(I)I" } : Jvm.MethodName) ({ cls := "RotationPress", name := "pack", desc := "(I)I" } : Jvm.MethodName)) ∈ g_tbl := List.mem_filter.mpr ⟨List.mem_append_right (k2_sels lw_privs) (List.mem_append_right _ (List.mem_append_right _ (List.mem_append_left _ (List.mem_of_getElem? (l := tables_1_3) (i := 145) rfl)))), rfl⟩
theorem kv_pack : (Jvm.Cond.codeWith ({ cls := "RotationPressLaw", name := "pack", desc := "(LRotationPress;I[J)I" } : Jvm.MethodName) method_7_code (4 : Nat) (Option.some Jvm.ClassFile.FieldType.int) [((0 : Nat), (9 : Nat), (12 : Nat), (19 : Nat))]) ∈ g_tbl := List.mem_filter.mpr ⟨List.mem_append_right (k2_sels lw_privs) (List.mem_append_right _ (List.mem_append_right _ (List.mem_append_left _ (List.mem_of_getElem? (l := tables_1_3) (i := 142) rfl)))), rfl⟩
theorem w_pack {l : Launch} {D : va_G} {K : Nat → ClassId} {q : Nat} (o : Nat) (f : Nat → Int64) (p1 : Int32) {wx : va_W} {X : Type} {wo : X → va_W} {rm : Room} {r : Int32} {fs : List Value} (rw : Room) (hM : Ci l D K y_Press_pack (g_wd y_Press_pack b_Press_pack 2 (some .int)) rm [.ref q, .int p1] wx wo r) (hq : wx[0]? = some (q, .inr (0, fs))) (hR : rm.frames + 1 ≤ rw.frames ∧ 8 + (2 + 11) + rm.locals ≤ rw.locals) (hc : rm.cells ≤ rw.cells) (hs : rm.slots ≤ rw.slots) : CiT l D K y_Law_pack (g_wdW y_Law_pack b_Law_pack 4 (some .int) [(0, 9, 12, 19)]) rw [.ref q, .int p1, .ref o] (ocell K o f :: wx) (fun x => ocell K o (vp_updL f 0 r.toInt64) :: wo x) (fun k => k = 0) :=
  mk_iT (by decide) (Nat.le_of_ble_eq_true rfl) (fun p e s m below meth c A Q hC hTs htab kr => by
    refine g_aload_n 0 hC (j := 2) (hj := rfl) (hd := d_Law_pack_0) ?_
    refine g_iconst 1 hC (0 : Int32) (by decide) d_Law_pack_1 ?_
    refine g_aload_n 2 hC (j := 0) (hj := rfl) (hd := d_Law_pack_2) ?_
    refine g_iload_n 3 hC (j := 1) (hj := rfl) (hd := d_Law_pack_3) ?_
    refine g_callVi 4 hC hM kx_pack kw_ini kl_pack km_pack ks_pack 1 rfl (by decide +kernel) hR (List.range' 1 wx.length) [0] [ocell K o f] (nd_range 1 _) at_tail rfl rfl (dis_0 _) 0 0 rfl rfl hq rfl (Nat.le_of_ble_eq_true rfl) ⟨by rw [Nat.zero_add]; exact hc, by rw [Nat.zero_add]; exact hs⟩ (fun x => ocell K o f :: wo x) (fun x => rfl) d_Law_pack_4 _ _ rfl rfl (fun x => ?_)
    refine g_i2l 7 hC d_Law_pack_7 ?_
    refine g_last 8 hC 0 rfl rfl d_Law_pack_8 _ rfl ?_
    refine g_goto 9 hC 15 (by decide) d_Law_pack_9 ?_
    refine g_iconst 15 hC (0 : Int32) (by decide) d_Law_pack_15 ?_
    exact g_wide rw.cells rw.slots (by rw [Nat.zero_add]; exact hc) (by rw [Nat.zero_add]; exact hs) (kr x 0 16 _ rfl d_Law_pack_16))
theorem wt_pack {l : Launch} {D : va_G} {K : Nat → ClassId} {q : Nat} (o : Nat) (f : Nat → Int64) (p1 : Int32) {wx : va_W} {rm : Room} {fs : List Value} (rw : Room) (hM : Ct l D K y_Press_pack (g_wd y_Press_pack b_Press_pack 2 (some .int)) rm [.ref q, .int p1] wx "java/lang/IllegalArgumentException") (hq : wx[0]? = some (q, .inr (0, fs))) (hR : rm.frames + 1 ≤ rw.frames ∧ 8 + (2 + 11) + rm.locals ≤ rw.locals) (hc : rm.cells ≤ rw.cells) (hs : rm.slots ≤ rw.slots) : CiT l D K y_Law_pack (g_wdW y_Law_pack b_Law_pack 4 (some .int) [(0, 9, 12, 19)]) rw [.ref q, .int p1, .ref o] (ocell K o f :: wx) (fun (_ : Unit) => (ocell K o f :: wx)) (fun k => k = 1) :=
  mk_iT (by decide) (Nat.le_of_ble_eq_true rfl) (fun p e s m below meth c A Q hC hTs htab kr => by
    refine g_aload_n 0 hC (j := 2) (hj := rfl) (hd := d_Law_pack_0) ?_
    refine g_iconst 1 hC (0 : Int32) (by decide) d_Law_pack_1 ?_
    refine g_aload_n 2 hC (j := 0) (hj := rfl) (hd := d_Law_pack_2) ?_
    refine g_iload_n 3 hC (j := 1) (hj := rfl) (hd := d_Law_pack_3) ?_
    refine g_callVt 4 hC hTs hM kx_pack kw_ini kl_pack km_pack ks_pack 1 rfl (by decide +kernel) hR (List.range' 1 wx.length) at_tail 0 0 rfl rfl hq rfl (Nat.le_of_ble_eq_true rfl) ⟨by rw [Nat.zero_add]; exact hc, by rw [Nat.zero_add]; exact hs⟩ d_Law_pack_4 _ _ rfl rfl (fun hpl cE hE => ?_)
    refine ⟨[], ⟨0, 9, 12, 19⟩, [], htab, (fun z hz => (by cases hz)), by decide, row_catches hpl hC.2.2.2.1 hE (by decide) (hC.2.2.2.2.1 _ kd_IAE) ((hTs s [] (State.WarmedH.refl s) va_S.rf).any _ _ kc_IAE), fun a => ?_⟩
    refine g_astore_n 12 hC _ (by decide) rfl d_Law_pack_12 ?_
    refine g_iconst 13 hC (1 : Int32) (by decide) d_Law_pack_13 ?_
    exact g_wide rw.cells rw.slots (by rw [Nat.zero_add]; exact hc) (by rw [Nat.zero_add]; exact hs) (kr () 1 14 _ rfl d_Law_pack_14))
abbrev b_Law_unpack : ByteArray := method_8_code
def y_Law_unpack : MethodName := ⟨"RotationPressLaw", "unpack", "(LRotationPress;I[J)I"⟩
theorem d_Law_unpack_0 : decode b_Law_unpack 0 = .ok (.aload_n 2, 1) := by decide +kernel
theorem d_Law_unpack_1 : decode b_Law_unpack 1 = .ok (.iconst 0, 1) := by decide +kernel
theorem d_Law_unpack_2 : decode b_Law_unpack 2 = .ok (.aload_n 0, 1) := by decide +kernel
theorem d_Law_unpack_3 : decode b_Law_unpack 3 = .ok (.iload_n 1, 1) := by decide +kernel
theorem d_Law_unpack_4 : decode b_Law_unpack 4 = .ok (.invokevirtual 35, 3) := by decide +kernel
theorem d_Law_unpack_7 : decode b_Law_unpack 7 = .ok (.i2l, 1) := by decide +kernel
theorem d_Law_unpack_8 : decode b_Law_unpack 8 = .ok (.lastore, 1) := by decide +kernel
theorem d_Law_unpack_9 : decode b_Law_unpack 9 = .ok (.goto 6, 3) := by decide +kernel
theorem d_Law_unpack_12 : decode b_Law_unpack 12 = .ok (.astore_n 3, 1) := by decide +kernel
theorem d_Law_unpack_13 : decode b_Law_unpack 13 = .ok (.iconst 1, 1) := by decide +kernel
theorem d_Law_unpack_14 : decode b_Law_unpack 14 = .ok (.ireturn, 1) := by decide +kernel
theorem d_Law_unpack_15 : decode b_Law_unpack 15 = .ok (.iconst 0, 1) := by decide +kernel
theorem d_Law_unpack_16 : decode b_Law_unpack 16 = .ok (.ireturn, 1) := by decide +kernel
theorem kx_unpack : (Jvm.Cond.code ({ cls := "RotationPress", name := "unpack", desc := "(I)I" } : Jvm.MethodName) prog_1_method_7_code (3 : Nat) (Option.some Jvm.ClassFile.FieldType.int)) ∈ g_tbl := List.mem_filter.mpr ⟨List.mem_append_right (k2_sels lw_privs) (List.mem_append_right _ (List.mem_append_right _ (List.mem_append_right _ (List.mem_append_right _ (List.mem_append_left _ (List.mem_of_getElem? (l := tables_1_5) (i := 112) rfl)))))), rfl⟩
theorem kl_unpack : (Jvm.Cond.methodLink "RotationPressLaw" (35 : Nat) ({ cls := "RotationPress", name := "unpack", desc := "(I)I" } : Jvm.MethodName)) ∈ g_tbl := List.mem_filter.mpr ⟨List.mem_append_right (k2_sels lw_privs) (List.mem_append_right _ (List.mem_append_right _ (List.mem_append_right _ (List.mem_append_right _ (List.mem_append_left _ (List.mem_of_getElem? (l := tables_1_5) (i := 109) rfl)))))), rfl⟩
theorem km_unpack : (Jvm.Cond.instanceMethod ({ cls := "RotationPress", name := "unpack", desc := "(I)I" } : Jvm.MethodName)) ∈ g_tbl := List.mem_filter.mpr ⟨List.mem_append_right (k2_sels lw_privs) (List.mem_append_right _ (List.mem_append_right _ (List.mem_append_right _ (List.mem_append_right _ (List.mem_append_left _ (List.mem_of_getElem? (l := tables_1_5) (i := 110) rfl)))))), rfl⟩
theorem ks_unpack : (Jvm.Cond.selects "RotationPress" ({ cls := "RotationPress", name := "unpack", desc := "(I)I" } : Jvm.MethodName) ({ cls := "RotationPress", name := "unpack", desc := "(I)I" } : Jvm.MethodName)) ∈ g_tbl := List.mem_filter.mpr ⟨List.mem_append_right (k2_sels lw_privs) (List.mem_append_right _ (List.mem_append_right _ (List.mem_append_right _ (List.mem_append_right _ (List.mem_append_left _ (List.mem_of_getElem? (l := tables_1_5) (i := 111) rfl)))))), rfl⟩
theorem kv_unpack : (Jvm.Cond.codeWith ({ cls := "RotationPressLaw", name := "unpack", desc := "(LRotationPress;I[J)I" } : Jvm.MethodName) method_8_code (4 : Nat) (Option.some Jvm.ClassFile.FieldType.int) [((0 : Nat), (9 : Nat), (12 : Nat), (19 : Nat))]) ∈ g_tbl := List.mem_filter.mpr ⟨List.mem_append_right (k2_sels lw_privs) (List.mem_append_right _ (List.mem_append_right _ (List.mem_append_right _ (List.mem_append_right _ (List.mem_append_left _ (List.mem_of_getElem? (l := tables_1_5) (i := 108) rfl)))))), rfl⟩
theorem w_unpack {l : Launch} {D : va_G} {K : Nat → ClassId} {q : Nat} (o : Nat) (f : Nat → Int64) (p1 : Int32) {wx : va_W} {X : Type} {wo : X → va_W} {rm : Room} {r : Int32} {fs : List Value} (rw : Room) (hM : Ci l D K y_Press_unpack (g_wd y_Press_unpack b_Press_unpack 3 (some .int)) rm [.ref q, .int p1] wx wo r) (hq : wx[0]? = some (q, .inr (0, fs))) (hR : rm.frames + 1 ≤ rw.frames ∧ 8 + (3 + 11) + rm.locals ≤ rw.locals) (hc : rm.cells ≤ rw.cells) (hs : rm.slots ≤ rw.slots) : CiT l D K y_Law_unpack (g_wdW y_Law_unpack b_Law_unpack 4 (some .int) [(0, 9, 12, 19)]) rw [.ref q, .int p1, .ref o] (ocell K o f :: wx) (fun x => ocell K o (vp_updL f 0 r.toInt64) :: wo x) (fun k => k = 0) :=
  mk_iT (by decide) (Nat.le_of_ble_eq_true rfl) (fun p e s m below meth c A Q hC hTs htab kr => by
    refine g_aload_n 0 hC (j := 2) (hj := rfl) (hd := d_Law_unpack_0) ?_
    refine g_iconst 1 hC (0 : Int32) (by decide) d_Law_unpack_1 ?_
    refine g_aload_n 2 hC (j := 0) (hj := rfl) (hd := d_Law_unpack_2) ?_
    refine g_iload_n 3 hC (j := 1) (hj := rfl) (hd := d_Law_unpack_3) ?_
    refine g_callVi 4 hC hM kx_unpack kw_ini kl_unpack km_unpack ks_unpack 1 rfl (by decide +kernel) hR (List.range' 1 wx.length) [0] [ocell K o f] (nd_range 1 _) at_tail rfl rfl (dis_0 _) 0 0 rfl rfl hq rfl (Nat.le_of_ble_eq_true rfl) ⟨by rw [Nat.zero_add]; exact hc, by rw [Nat.zero_add]; exact hs⟩ (fun x => ocell K o f :: wo x) (fun x => rfl) d_Law_unpack_4 _ _ rfl rfl (fun x => ?_)
    refine g_i2l 7 hC d_Law_unpack_7 ?_
    refine g_last 8 hC 0 rfl rfl d_Law_unpack_8 _ rfl ?_
    refine g_goto 9 hC 15 (by decide) d_Law_unpack_9 ?_
    refine g_iconst 15 hC (0 : Int32) (by decide) d_Law_unpack_15 ?_
    exact g_wide rw.cells rw.slots (by rw [Nat.zero_add]; exact hc) (by rw [Nat.zero_add]; exact hs) (kr x 0 16 _ rfl d_Law_unpack_16))
theorem wt_unpack {l : Launch} {D : va_G} {K : Nat → ClassId} {q : Nat} (o : Nat) (f : Nat → Int64) (p1 : Int32) {wx : va_W} {rm : Room} {fs : List Value} (rw : Room) (hM : Ct l D K y_Press_unpack (g_wd y_Press_unpack b_Press_unpack 3 (some .int)) rm [.ref q, .int p1] wx "java/lang/IllegalArgumentException") (hq : wx[0]? = some (q, .inr (0, fs))) (hR : rm.frames + 1 ≤ rw.frames ∧ 8 + (3 + 11) + rm.locals ≤ rw.locals) (hc : rm.cells ≤ rw.cells) (hs : rm.slots ≤ rw.slots) : CiT l D K y_Law_unpack (g_wdW y_Law_unpack b_Law_unpack 4 (some .int) [(0, 9, 12, 19)]) rw [.ref q, .int p1, .ref o] (ocell K o f :: wx) (fun (_ : Unit) => (ocell K o f :: wx)) (fun k => k = 1) :=
  mk_iT (by decide) (Nat.le_of_ble_eq_true rfl) (fun p e s m below meth c A Q hC hTs htab kr => by
    refine g_aload_n 0 hC (j := 2) (hj := rfl) (hd := d_Law_unpack_0) ?_
    refine g_iconst 1 hC (0 : Int32) (by decide) d_Law_unpack_1 ?_
    refine g_aload_n 2 hC (j := 0) (hj := rfl) (hd := d_Law_unpack_2) ?_
    refine g_iload_n 3 hC (j := 1) (hj := rfl) (hd := d_Law_unpack_3) ?_
    refine g_callVt 4 hC hTs hM kx_unpack kw_ini kl_unpack km_unpack ks_unpack 1 rfl (by decide +kernel) hR (List.range' 1 wx.length) at_tail 0 0 rfl rfl hq rfl (Nat.le_of_ble_eq_true rfl) ⟨by rw [Nat.zero_add]; exact hc, by rw [Nat.zero_add]; exact hs⟩ d_Law_unpack_4 _ _ rfl rfl (fun hpl cE hE => ?_)
    refine ⟨[], ⟨0, 9, 12, 19⟩, [], htab, (fun z hz => (by cases hz)), by decide, row_catches hpl hC.2.2.2.1 hE (by decide) (hC.2.2.2.2.1 _ kd_IAE) ((hTs s [] (State.WarmedH.refl s) va_S.rf).any _ _ kc_IAE), fun a => ?_⟩
    refine g_astore_n 12 hC _ (by decide) rfl d_Law_unpack_12 ?_
    refine g_iconst 13 hC (1 : Int32) (by decide) d_Law_unpack_13 ?_
    exact g_wide rw.cells rw.slots (by rw [Nat.zero_add]; exact hc) (by rw [Nat.zero_add]; exact hs) (kr () 1 14 _ rfl d_Law_unpack_14))
abbrev b_Law_out : ByteArray := method_9_code
def y_Law_out : MethodName := ⟨"RotationPressLaw", "out", "(LRotationPress;I[J)I"⟩
theorem d_Law_out_0 : decode b_Law_out 0 = .ok (.aload_n 2, 1) := by decide +kernel
theorem d_Law_out_1 : decode b_Law_out 1 = .ok (.iconst 0, 1) := by decide +kernel
theorem d_Law_out_2 : decode b_Law_out 2 = .ok (.aload_n 0, 1) := by decide +kernel
theorem d_Law_out_3 : decode b_Law_out 3 = .ok (.iload_n 1, 1) := by decide +kernel
theorem d_Law_out_4 : decode b_Law_out 4 = .ok (.invokevirtual 38, 3) := by decide +kernel
theorem d_Law_out_7 : decode b_Law_out 7 = .ok (.i2l, 1) := by decide +kernel
theorem d_Law_out_8 : decode b_Law_out 8 = .ok (.lastore, 1) := by decide +kernel
theorem d_Law_out_9 : decode b_Law_out 9 = .ok (.goto 6, 3) := by decide +kernel
theorem d_Law_out_12 : decode b_Law_out 12 = .ok (.astore_n 3, 1) := by decide +kernel
theorem d_Law_out_13 : decode b_Law_out 13 = .ok (.iconst 1, 1) := by decide +kernel
theorem d_Law_out_14 : decode b_Law_out 14 = .ok (.ireturn, 1) := by decide +kernel
theorem d_Law_out_15 : decode b_Law_out 15 = .ok (.iconst 0, 1) := by decide +kernel
theorem d_Law_out_16 : decode b_Law_out 16 = .ok (.ireturn, 1) := by decide +kernel
theorem kx_out : (Jvm.Cond.code ({ cls := "RotationPress", name := "out", desc := "(I)I" } : Jvm.MethodName) prog_1_method_11_code (2 : Nat) (Option.some Jvm.ClassFile.FieldType.int)) ∈ g_tbl := List.mem_filter.mpr ⟨List.mem_append_right (k2_sels lw_privs) (List.mem_append_right _ (List.mem_append_right _ (List.mem_append_right _ (List.mem_append_right _ (List.mem_append_left _ (List.mem_of_getElem? (l := tables_1_5) (i := 228) rfl)))))), rfl⟩
theorem kl_out : (Jvm.Cond.methodLink "RotationPressLaw" (38 : Nat) ({ cls := "RotationPress", name := "out", desc := "(I)I" } : Jvm.MethodName)) ∈ g_tbl := List.mem_filter.mpr ⟨List.mem_append_right (k2_sels lw_privs) (List.mem_append_right _ (List.mem_append_right _ (List.mem_append_right _ (List.mem_append_right _ (List.mem_append_left _ (List.mem_of_getElem? (l := tables_1_5) (i := 225) rfl)))))), rfl⟩
theorem km_out : (Jvm.Cond.instanceMethod ({ cls := "RotationPress", name := "out", desc := "(I)I" } : Jvm.MethodName)) ∈ g_tbl := List.mem_filter.mpr ⟨List.mem_append_right (k2_sels lw_privs) (List.mem_append_right _ (List.mem_append_right _ (List.mem_append_right _ (List.mem_append_right _ (List.mem_append_left _ (List.mem_of_getElem? (l := tables_1_5) (i := 226) rfl)))))), rfl⟩
theorem ks_out : (Jvm.Cond.selects "RotationPress" ({ cls := "RotationPress", name := "out", desc := "(I)I" } : Jvm.MethodName) ({ cls := "RotationPress", name := "out", desc := "(I)I" } : Jvm.MethodName)) ∈ g_tbl := List.mem_filter.mpr ⟨List.mem_append_right (k2_sels lw_privs) (List.mem_append_right _ (List.mem_append_right _ (List.mem_append_right _ (List.mem_append_right _ (List.mem_append_left _ (List.mem_of_getElem? (l := tables_1_5) (i := 227) rfl)))))), rfl⟩
theorem kv_out : (Jvm.Cond.codeWith ({ cls := "RotationPressLaw", name := "out", desc := "(LRotationPress;I[J)I" } : Jvm.MethodName) method_9_code (4 : Nat) (Option.some Jvm.ClassFile.FieldType.int) [((0 : Nat), (9 : Nat), (12 : Nat), (25 : Nat))]) ∈ g_tbl := List.mem_filter.mpr ⟨List.mem_append_right (k2_sels lw_privs) (List.mem_append_right _ (List.mem_append_right _ (List.mem_append_right _ (List.mem_append_right _ (List.mem_append_left _ (List.mem_of_getElem? (l := tables_1_5) (i := 224) rfl)))))), rfl⟩
theorem w_out {l : Launch} {D : va_G} {K : Nat → ClassId} {q : Nat} (o : Nat) (f : Nat → Int64) (p1 : Int32) {wx : va_W} {X : Type} {wo : X → va_W} {rm : Room} {r : Int32} {fs : List Value} (rw : Room) (hM : Ci l D K y_Press_out (g_wd y_Press_out b_Press_out 2 (some .int)) rm [.ref q, .int p1] wx wo r) (hq : wx[0]? = some (q, .inr (0, fs))) (hR : rm.frames + 1 ≤ rw.frames ∧ 8 + (2 + 11) + rm.locals ≤ rw.locals) (hc : rm.cells ≤ rw.cells) (hs : rm.slots ≤ rw.slots) : CiT l D K y_Law_out (g_wdW y_Law_out b_Law_out 4 (some .int) [(0, 9, 12, 25)]) rw [.ref q, .int p1, .ref o] (ocell K o f :: wx) (fun x => ocell K o (vp_updL f 0 r.toInt64) :: wo x) (fun k => k = 0) :=
  mk_iT (by decide) (Nat.le_of_ble_eq_true rfl) (fun p e s m below meth c A Q hC hTs htab kr => by
    refine g_aload_n 0 hC (j := 2) (hj := rfl) (hd := d_Law_out_0) ?_
    refine g_iconst 1 hC (0 : Int32) (by decide) d_Law_out_1 ?_
    refine g_aload_n 2 hC (j := 0) (hj := rfl) (hd := d_Law_out_2) ?_
    refine g_iload_n 3 hC (j := 1) (hj := rfl) (hd := d_Law_out_3) ?_
    refine g_callVi 4 hC hM kx_out kw_ini kl_out km_out ks_out 1 rfl (by decide +kernel) hR (List.range' 1 wx.length) [0] [ocell K o f] (nd_range 1 _) at_tail rfl rfl (dis_0 _) 0 0 rfl rfl hq rfl (Nat.le_of_ble_eq_true rfl) ⟨by rw [Nat.zero_add]; exact hc, by rw [Nat.zero_add]; exact hs⟩ (fun x => ocell K o f :: wo x) (fun x => rfl) d_Law_out_4 _ _ rfl rfl (fun x => ?_)
    refine g_i2l 7 hC d_Law_out_7 ?_
    refine g_last 8 hC 0 rfl rfl d_Law_out_8 _ rfl ?_
    refine g_goto 9 hC 15 (by decide) d_Law_out_9 ?_
    refine g_iconst 15 hC (0 : Int32) (by decide) d_Law_out_15 ?_
    exact g_wide rw.cells rw.slots (by rw [Nat.zero_add]; exact hc) (by rw [Nat.zero_add]; exact hs) (kr x 0 16 _ rfl d_Law_out_16))
theorem wt_out {l : Launch} {D : va_G} {K : Nat → ClassId} {q : Nat} (o : Nat) (f : Nat → Int64) (p1 : Int32) {wx : va_W} {rm : Room} {fs : List Value} (rw : Room) (hM : Ct l D K y_Press_out (g_wd y_Press_out b_Press_out 2 (some .int)) rm [.ref q, .int p1] wx "java/lang/IndexOutOfBoundsException") (hq : wx[0]? = some (q, .inr (0, fs))) (hR : rm.frames + 1 ≤ rw.frames ∧ 8 + (2 + 11) + rm.locals ≤ rw.locals) (hc : rm.cells ≤ rw.cells) (hs : rm.slots ≤ rw.slots) : CiT l D K y_Law_out (g_wdW y_Law_out b_Law_out 4 (some .int) [(0, 9, 12, 25)]) rw [.ref q, .int p1, .ref o] (ocell K o f :: wx) (fun (_ : Unit) => (ocell K o f :: wx)) (fun k => k = 1) :=
  mk_iT (by decide) (Nat.le_of_ble_eq_true rfl) (fun p e s m below meth c A Q hC hTs htab kr => by
    refine g_aload_n 0 hC (j := 2) (hj := rfl) (hd := d_Law_out_0) ?_
    refine g_iconst 1 hC (0 : Int32) (by decide) d_Law_out_1 ?_
    refine g_aload_n 2 hC (j := 0) (hj := rfl) (hd := d_Law_out_2) ?_
    refine g_iload_n 3 hC (j := 1) (hj := rfl) (hd := d_Law_out_3) ?_
    refine g_callVt 4 hC hTs hM kx_out kw_ini kl_out km_out ks_out 1 rfl (by decide +kernel) hR (List.range' 1 wx.length) at_tail 0 0 rfl rfl hq rfl (Nat.le_of_ble_eq_true rfl) ⟨by rw [Nat.zero_add]; exact hc, by rw [Nat.zero_add]; exact hs⟩ d_Law_out_4 _ _ rfl rfl (fun hpl cE hE => ?_)
    refine ⟨[], ⟨0, 9, 12, 25⟩, [], htab, (fun z hz => (by cases hz)), by decide, row_catches hpl hC.2.2.2.1 hE (by decide) (hC.2.2.2.2.1 _ kd_IOB) ((hTs s [] (State.WarmedH.refl s) va_S.rf).any _ _ kc_IOB), fun a => ?_⟩
    refine g_astore_n 12 hC _ (by decide) rfl d_Law_out_12 ?_
    refine g_iconst 13 hC (1 : Int32) (by decide) d_Law_out_13 ?_
    exact g_wide rw.cells rw.slots (by rw [Nat.zero_add]; exact hc) (by rw [Nat.zero_add]; exact hs) (kr () 1 14 _ rfl d_Law_out_14))
abbrev b_Law_piece : ByteArray := method_10_code
def y_Law_piece : MethodName := ⟨"RotationPressLaw", "piece", "(LRotationPress;II[J)I"⟩
theorem d_Law_piece_0 : decode b_Law_piece 0 = .ok (.aload_n 3, 1) := by decide +kernel
theorem d_Law_piece_1 : decode b_Law_piece 1 = .ok (.iconst 0, 1) := by decide +kernel
theorem d_Law_piece_2 : decode b_Law_piece 2 = .ok (.aload_n 0, 1) := by decide +kernel
theorem d_Law_piece_3 : decode b_Law_piece 3 = .ok (.iload_n 1, 1) := by decide +kernel
theorem d_Law_piece_4 : decode b_Law_piece 4 = .ok (.iload_n 2, 1) := by decide +kernel
theorem d_Law_piece_5 : decode b_Law_piece 5 = .ok (.invokevirtual 41, 3) := by decide +kernel
theorem d_Law_piece_8 : decode b_Law_piece 8 = .ok (.i2l, 1) := by decide +kernel
theorem d_Law_piece_9 : decode b_Law_piece 9 = .ok (.lastore, 1) := by decide +kernel
theorem d_Law_piece_10 : decode b_Law_piece 10 = .ok (.goto 7, 3) := by decide +kernel
theorem d_Law_piece_13 : decode b_Law_piece 13 = .ok (.astore 4, 2) := by decide +kernel
theorem d_Law_piece_15 : decode b_Law_piece 15 = .ok (.iconst 1, 1) := by decide +kernel
theorem d_Law_piece_16 : decode b_Law_piece 16 = .ok (.ireturn, 1) := by decide +kernel
theorem d_Law_piece_17 : decode b_Law_piece 17 = .ok (.iconst 0, 1) := by decide +kernel
theorem d_Law_piece_18 : decode b_Law_piece 18 = .ok (.ireturn, 1) := by decide +kernel
theorem kx_piece : (Jvm.Cond.code ({ cls := "RotationPress", name := "piece", desc := "(II)I" } : Jvm.MethodName) prog_1_method_12_code (3 : Nat) (Option.some Jvm.ClassFile.FieldType.int)) ∈ g_tbl := List.mem_filter.mpr ⟨List.mem_append_right (k2_sels lw_privs) (List.mem_append_right _ (List.mem_append_right _ (List.mem_append_right _ (List.mem_append_right _ (List.mem_append_left _ (List.mem_of_getElem? (l := tables_1_5) (i := 237) rfl)))))), rfl⟩
theorem kl_piece : (Jvm.Cond.methodLink "RotationPressLaw" (41 : Nat) ({ cls := "RotationPress", name := "piece", desc := "(II)I" } : Jvm.MethodName)) ∈ g_tbl := List.mem_filter.mpr ⟨List.mem_append_right (k2_sels lw_privs) (List.mem_append_right _ (List.mem_append_right _ (List.mem_append_right _ (List.mem_append_right _ (List.mem_append_left _ (List.mem_of_getElem? (l := tables_1_5) (i := 234) rfl)))))), rfl⟩
theorem km_piece : (Jvm.Cond.instanceMethod ({ cls := "RotationPress", name := "piece", desc := "(II)I" } : Jvm.MethodName)) ∈ g_tbl := List.mem_filter.mpr ⟨List.mem_append_right (k2_sels lw_privs) (List.mem_append_right _ (List.mem_append_right _ (List.mem_append_right _ (List.mem_append_right _ (List.mem_append_left _ (List.mem_of_getElem? (l := tables_1_5) (i := 235) rfl)))))), rfl⟩
theorem ks_piece : (Jvm.Cond.selects "RotationPress" ({ cls := "RotationPress", name := "piece", desc := "(II)I" } : Jvm.MethodName) ({ cls := "RotationPress", name := "piece", desc := "(II)I" } : Jvm.MethodName)) ∈ g_tbl := List.mem_filter.mpr ⟨List.mem_append_right (k2_sels lw_privs) (List.mem_append_right _ (List.mem_append_right _ (List.mem_append_right _ (List.mem_append_right _ (List.mem_append_left _ (List.mem_of_getElem? (l := tables_1_5) (i := 236) rfl)))))), rfl⟩
theorem kv_piece : (Jvm.Cond.codeWith ({ cls := "RotationPressLaw", name := "piece", desc := "(LRotationPress;II[J)I" } : Jvm.MethodName) method_10_code (5 : Nat) (Option.some Jvm.ClassFile.FieldType.int) [((0 : Nat), (10 : Nat), (13 : Nat), (19 : Nat))]) ∈ g_tbl := List.mem_filter.mpr ⟨List.mem_append_right (k2_sels lw_privs) (List.mem_append_right _ (List.mem_append_right _ (List.mem_append_right _ (List.mem_append_right _ (List.mem_append_left _ (List.mem_of_getElem? (l := tables_1_5) (i := 233) rfl)))))), rfl⟩
theorem w_piece {l : Launch} {D : va_G} {K : Nat → ClassId} {q : Nat} (o : Nat) (f : Nat → Int64) (p1 p2 : Int32) {wx : va_W} {X : Type} {wo : X → va_W} {rm : Room} {r : Int32} {fs : List Value} (rw : Room) (hM : Ci l D K y_Press_piece (g_wd y_Press_piece b_Press_piece 3 (some .int)) rm [.ref q, .int p1, .int p2] wx wo r) (hq : wx[0]? = some (q, .inr (0, fs))) (hR : rm.frames + 1 ≤ rw.frames ∧ 8 + (3 + 11) + rm.locals ≤ rw.locals) (hc : rm.cells ≤ rw.cells) (hs : rm.slots ≤ rw.slots) : CiT l D K y_Law_piece (g_wdW y_Law_piece b_Law_piece 5 (some .int) [(0, 10, 13, 19)]) rw [.ref q, .int p1, .int p2, .ref o] (ocell K o f :: wx) (fun x => ocell K o (vp_updL f 0 r.toInt64) :: wo x) (fun k => k = 0) :=
  mk_iT (by decide) (Nat.le_of_ble_eq_true rfl) (fun p e s m below meth c A Q hC hTs htab kr => by
    refine g_aload_n 0 hC (j := 3) (hj := rfl) (hd := d_Law_piece_0) ?_
    refine g_iconst 1 hC (0 : Int32) (by decide) d_Law_piece_1 ?_
    refine g_aload_n 2 hC (j := 0) (hj := rfl) (hd := d_Law_piece_2) ?_
    refine g_iload_n 3 hC (j := 1) (hj := rfl) (hd := d_Law_piece_3) ?_
    refine g_iload_n 4 hC (j := 2) (hj := rfl) (hd := d_Law_piece_4) ?_
    refine g_callVi 5 hC hM kx_piece kw_ini kl_piece km_piece ks_piece 2 rfl (by decide +kernel) hR (List.range' 1 wx.length) [0] [ocell K o f] (nd_range 1 _) at_tail rfl rfl (dis_0 _) 0 0 rfl rfl hq rfl (Nat.le_of_ble_eq_true rfl) ⟨by rw [Nat.zero_add]; exact hc, by rw [Nat.zero_add]; exact hs⟩ (fun x => ocell K o f :: wo x) (fun x => rfl) d_Law_piece_5 _ _ rfl rfl (fun x => ?_)
    refine g_i2l 8 hC d_Law_piece_8 ?_
    refine g_last 9 hC 0 rfl rfl d_Law_piece_9 _ rfl ?_
    refine g_goto 10 hC 17 (by decide) d_Law_piece_10 ?_
    refine g_iconst 17 hC (0 : Int32) (by decide) d_Law_piece_17 ?_
    exact g_wide rw.cells rw.slots (by rw [Nat.zero_add]; exact hc) (by rw [Nat.zero_add]; exact hs) (kr x 0 18 _ rfl d_Law_piece_18))
theorem wt_piece {l : Launch} {D : va_G} {K : Nat → ClassId} {q : Nat} (o : Nat) (f : Nat → Int64) (p1 p2 : Int32) {wx : va_W} {rm : Room} {fs : List Value} (rw : Room) (hM : Ct l D K y_Press_piece (g_wd y_Press_piece b_Press_piece 3 (some .int)) rm [.ref q, .int p1, .int p2] wx "java/lang/IllegalArgumentException") (hq : wx[0]? = some (q, .inr (0, fs))) (hR : rm.frames + 1 ≤ rw.frames ∧ 8 + (3 + 11) + rm.locals ≤ rw.locals) (hc : rm.cells ≤ rw.cells) (hs : rm.slots ≤ rw.slots) : CiT l D K y_Law_piece (g_wdW y_Law_piece b_Law_piece 5 (some .int) [(0, 10, 13, 19)]) rw [.ref q, .int p1, .int p2, .ref o] (ocell K o f :: wx) (fun (_ : Unit) => (ocell K o f :: wx)) (fun k => k = 1) :=
  mk_iT (by decide) (Nat.le_of_ble_eq_true rfl) (fun p e s m below meth c A Q hC hTs htab kr => by
    refine g_aload_n 0 hC (j := 3) (hj := rfl) (hd := d_Law_piece_0) ?_
    refine g_iconst 1 hC (0 : Int32) (by decide) d_Law_piece_1 ?_
    refine g_aload_n 2 hC (j := 0) (hj := rfl) (hd := d_Law_piece_2) ?_
    refine g_iload_n 3 hC (j := 1) (hj := rfl) (hd := d_Law_piece_3) ?_
    refine g_iload_n 4 hC (j := 2) (hj := rfl) (hd := d_Law_piece_4) ?_
    refine g_callVt 5 hC hTs hM kx_piece kw_ini kl_piece km_piece ks_piece 2 rfl (by decide +kernel) hR (List.range' 1 wx.length) at_tail 0 0 rfl rfl hq rfl (Nat.le_of_ble_eq_true rfl) ⟨by rw [Nat.zero_add]; exact hc, by rw [Nat.zero_add]; exact hs⟩ d_Law_piece_5 _ _ rfl rfl (fun hpl cE hE => ?_)
    refine ⟨[], ⟨0, 10, 13, 19⟩, [], htab, (fun z hz => (by cases hz)), by decide, row_catches hpl hC.2.2.2.1 hE (by decide) (hC.2.2.2.2.1 _ kd_IAE) ((hTs s [] (State.WarmedH.refl s) va_S.rf).any _ _ kc_IAE), fun a => ?_⟩
    refine g_astore 13 hC _ (by decide) rfl d_Law_piece_13 ?_
    refine g_iconst 15 hC (1 : Int32) (by decide) d_Law_piece_15 ?_
    exact g_wide rw.cells rw.slots (by rw [Nat.zero_add]; exact hc) (by rw [Nat.zero_add]; exact hs) (kr () 1 16 _ rfl d_Law_piece_16))
abbrev b_Law_about : ByteArray := method_11_code
def y_Law_about : MethodName := ⟨"RotationPressLaw", "about", "(LRotationPress;I[J)I"⟩
theorem d_Law_about_0 : decode b_Law_about 0 = .ok (.aload_n 2, 1) := by decide +kernel
theorem d_Law_about_1 : decode b_Law_about 1 = .ok (.iconst 0, 1) := by decide +kernel
theorem d_Law_about_2 : decode b_Law_about 2 = .ok (.aload_n 0, 1) := by decide +kernel
theorem d_Law_about_3 : decode b_Law_about 3 = .ok (.iload_n 1, 1) := by decide +kernel
theorem d_Law_about_4 : decode b_Law_about 4 = .ok (.invokevirtual 44, 3) := by decide +kernel
theorem d_Law_about_7 : decode b_Law_about 7 = .ok (.i2l, 1) := by decide +kernel
theorem d_Law_about_8 : decode b_Law_about 8 = .ok (.lastore, 1) := by decide +kernel
theorem d_Law_about_9 : decode b_Law_about 9 = .ok (.goto 6, 3) := by decide +kernel
theorem d_Law_about_12 : decode b_Law_about 12 = .ok (.astore_n 3, 1) := by decide +kernel
theorem d_Law_about_13 : decode b_Law_about 13 = .ok (.iconst 1, 1) := by decide +kernel
theorem d_Law_about_14 : decode b_Law_about 14 = .ok (.ireturn, 1) := by decide +kernel
theorem d_Law_about_15 : decode b_Law_about 15 = .ok (.iconst 0, 1) := by decide +kernel
theorem d_Law_about_16 : decode b_Law_about 16 = .ok (.ireturn, 1) := by decide +kernel
theorem kx_about : (Jvm.Cond.code ({ cls := "RotationPress", name := "about", desc := "(I)I" } : Jvm.MethodName) prog_1_method_13_code (2 : Nat) (Option.some Jvm.ClassFile.FieldType.int)) ∈ g_tbl := List.mem_filter.mpr ⟨List.mem_append_right (k2_sels lw_privs) (List.mem_append_right _ (List.mem_append_right _ (List.mem_append_right _ (List.mem_append_right _ (List.mem_append_right _ (List.mem_append_left _ (List.mem_of_getElem? (l := tables_1_6) (i := 16) rfl))))))), rfl⟩
theorem kl_about : (Jvm.Cond.methodLink "RotationPressLaw" (44 : Nat) ({ cls := "RotationPress", name := "about", desc := "(I)I" } : Jvm.MethodName)) ∈ g_tbl := List.mem_filter.mpr ⟨List.mem_append_right (k2_sels lw_privs) (List.mem_append_right _ (List.mem_append_right _ (List.mem_append_right _ (List.mem_append_right _ (List.mem_append_right _ (List.mem_append_left _ (List.mem_of_getElem? (l := tables_1_6) (i := 13) rfl))))))), rfl⟩
theorem km_about : (Jvm.Cond.instanceMethod ({ cls := "RotationPress", name := "about", desc := "(I)I" } : Jvm.MethodName)) ∈ g_tbl := List.mem_filter.mpr ⟨List.mem_append_right (k2_sels lw_privs) (List.mem_append_right _ (List.mem_append_right _ (List.mem_append_right _ (List.mem_append_right _ (List.mem_append_right _ (List.mem_append_left _ (List.mem_of_getElem? (l := tables_1_6) (i := 14) rfl))))))), rfl⟩
theorem ks_about : (Jvm.Cond.selects "RotationPress" ({ cls := "RotationPress", name := "about", desc := "(I)I" } : Jvm.MethodName) ({ cls := "RotationPress", name := "about", desc := "(I)I" } : Jvm.MethodName)) ∈ g_tbl := List.mem_filter.mpr ⟨List.mem_append_right (k2_sels lw_privs) (List.mem_append_right _ (List.mem_append_right _ (List.mem_append_right _ (List.mem_append_right _ (List.mem_append_right _ (List.mem_append_left _ (List.mem_of_getElem? (l := tables_1_6) (i := 15) rfl))))))), rfl⟩
theorem kv_about : (Jvm.Cond.codeWith ({ cls := "RotationPressLaw", name := "about", desc := "(LRotationPress;I[J)I" } : Jvm.MethodName) method_11_code (4 : Nat) (Option.some Jvm.ClassFile.FieldType.int) [((0 : Nat), (9 : Nat), (12 : Nat), (19 : Nat))]) ∈ g_tbl := List.mem_filter.mpr ⟨List.mem_append_right (k2_sels lw_privs) (List.mem_append_right _ (List.mem_append_right _ (List.mem_append_right _ (List.mem_append_right _ (List.mem_append_right _ (List.mem_append_left _ (List.mem_of_getElem? (l := tables_1_6) (i := 12) rfl))))))), rfl⟩
theorem w_about {l : Launch} {D : va_G} {K : Nat → ClassId} {q : Nat} (o : Nat) (f : Nat → Int64) (p1 : Int32) {wx : va_W} {X : Type} {wo : X → va_W} {rm : Room} {r : Int32} {fs : List Value} (rw : Room) (hM : Ci l D K y_Press_about (g_wd y_Press_about b_Press_about 2 (some .int)) rm [.ref q, .int p1] wx wo r) (hq : wx[0]? = some (q, .inr (0, fs))) (hR : rm.frames + 1 ≤ rw.frames ∧ 8 + (2 + 11) + rm.locals ≤ rw.locals) (hc : rm.cells ≤ rw.cells) (hs : rm.slots ≤ rw.slots) : CiT l D K y_Law_about (g_wdW y_Law_about b_Law_about 4 (some .int) [(0, 9, 12, 19)]) rw [.ref q, .int p1, .ref o] (ocell K o f :: wx) (fun x => ocell K o (vp_updL f 0 r.toInt64) :: wo x) (fun k => k = 0) :=
  mk_iT (by decide) (Nat.le_of_ble_eq_true rfl) (fun p e s m below meth c A Q hC hTs htab kr => by
    refine g_aload_n 0 hC (j := 2) (hj := rfl) (hd := d_Law_about_0) ?_
    refine g_iconst 1 hC (0 : Int32) (by decide) d_Law_about_1 ?_
    refine g_aload_n 2 hC (j := 0) (hj := rfl) (hd := d_Law_about_2) ?_
    refine g_iload_n 3 hC (j := 1) (hj := rfl) (hd := d_Law_about_3) ?_
    refine g_callVi 4 hC hM kx_about kw_ini kl_about km_about ks_about 1 rfl (by decide +kernel) hR (List.range' 1 wx.length) [0] [ocell K o f] (nd_range 1 _) at_tail rfl rfl (dis_0 _) 0 0 rfl rfl hq rfl (Nat.le_of_ble_eq_true rfl) ⟨by rw [Nat.zero_add]; exact hc, by rw [Nat.zero_add]; exact hs⟩ (fun x => ocell K o f :: wo x) (fun x => rfl) d_Law_about_4 _ _ rfl rfl (fun x => ?_)
    refine g_i2l 7 hC d_Law_about_7 ?_
    refine g_last 8 hC 0 rfl rfl d_Law_about_8 _ rfl ?_
    refine g_goto 9 hC 15 (by decide) d_Law_about_9 ?_
    refine g_iconst 15 hC (0 : Int32) (by decide) d_Law_about_15 ?_
    exact g_wide rw.cells rw.slots (by rw [Nat.zero_add]; exact hc) (by rw [Nat.zero_add]; exact hs) (kr x 0 16 _ rfl d_Law_about_16))
theorem wt_about {l : Launch} {D : va_G} {K : Nat → ClassId} {q : Nat} (o : Nat) (f : Nat → Int64) (p1 : Int32) {wx : va_W} {rm : Room} {fs : List Value} (rw : Room) (hM : Ct l D K y_Press_about (g_wd y_Press_about b_Press_about 2 (some .int)) rm [.ref q, .int p1] wx "java/lang/IllegalArgumentException") (hq : wx[0]? = some (q, .inr (0, fs))) (hR : rm.frames + 1 ≤ rw.frames ∧ 8 + (2 + 11) + rm.locals ≤ rw.locals) (hc : rm.cells ≤ rw.cells) (hs : rm.slots ≤ rw.slots) : CiT l D K y_Law_about (g_wdW y_Law_about b_Law_about 4 (some .int) [(0, 9, 12, 19)]) rw [.ref q, .int p1, .ref o] (ocell K o f :: wx) (fun (_ : Unit) => (ocell K o f :: wx)) (fun k => k = 1) :=
  mk_iT (by decide) (Nat.le_of_ble_eq_true rfl) (fun p e s m below meth c A Q hC hTs htab kr => by
    refine g_aload_n 0 hC (j := 2) (hj := rfl) (hd := d_Law_about_0) ?_
    refine g_iconst 1 hC (0 : Int32) (by decide) d_Law_about_1 ?_
    refine g_aload_n 2 hC (j := 0) (hj := rfl) (hd := d_Law_about_2) ?_
    refine g_iload_n 3 hC (j := 1) (hj := rfl) (hd := d_Law_about_3) ?_
    refine g_callVt 4 hC hTs hM kx_about kw_ini kl_about km_about ks_about 1 rfl (by decide +kernel) hR (List.range' 1 wx.length) at_tail 0 0 rfl rfl hq rfl (Nat.le_of_ble_eq_true rfl) ⟨by rw [Nat.zero_add]; exact hc, by rw [Nat.zero_add]; exact hs⟩ d_Law_about_4 _ _ rfl rfl (fun hpl cE hE => ?_)
    refine ⟨[], ⟨0, 9, 12, 19⟩, [], htab, (fun z hz => (by cases hz)), by decide, row_catches hpl hC.2.2.2.1 hE (by decide) (hC.2.2.2.2.1 _ kd_IAE) ((hTs s [] (State.WarmedH.refl s) va_S.rf).any _ _ kc_IAE), fun a => ?_⟩
    refine g_astore_n 12 hC _ (by decide) rfl d_Law_about_12 ?_
    refine g_iconst 13 hC (1 : Int32) (by decide) d_Law_about_13 ?_
    exact g_wide rw.cells rw.slots (by rw [Nat.zero_add]; exact hc) (by rw [Nat.zero_add]; exact hs) (kr () 1 14 _ rfl d_Law_about_14))
