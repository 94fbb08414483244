abbrev b_Press_place : ByteArray := prog_1_method_8_code
def y_Press_place : MethodName := ⟨R_Press, "place", "()I"⟩
theorem d_Press_place_0 : decode b_Press_place 0 = .ok (.aload_n 0, 1) := by decide +kernel
theorem d_Press_place_1 : decode b_Press_place 1 = .ok (.getfield 37, 3) := by decide +kernel
theorem d_Press_place_4 : decode b_Press_place 4 = .ok (.ireturn, 1) := by decide +kernel
theorem k421 : (Jvm.Cond.fieldLink "RotationPress" (37 : Nat) "RotationPress" "faultPlace" "I") ∈ g_tbl := List.mem_filter.mpr ⟨List.mem_append_right (k2_sels lw_privs) (List.mem_append_right _ (List.mem_append_left _ (List.mem_of_getElem? (l := tables_1_2) (i := 181) rfl))), rfl⟩
set_option maxRecDepth 100000 in
set_option maxHeartbeats 4000000 in
theorem m_Press_place {C : gT} (hC : gOk C b_Press_place R_Press { frames := 0, cells := 0, slots := 0, locals := 0 } 1) (q_a0 : Nat) (r_a0_tape : Nat) (r_a0_made : Nat) (r_a0_packer : Nat) (r_a0_unpacker : Nat) (x_a0_faultPlace : Int32) (x_a0_piecesStand : Int32) (out : Int32) (hf : Press_place_f x_a0_faultPlace = some out) (kr : ∀ (x : Unit) (o9 : Int32) (pc : Nat) (lv : List (Nat × Value)), o9 = out → decode b_Press_place pc = .ok (.ireturn, 1) → narrow .int (.int o9) = .int o9 → gAt C 0 0 [(q_a0, .inr (0, [.ref r_a0_tape, .ref r_a0_made, .ref r_a0_packer, .ref r_a0_unpacker, .int x_a0_faultPlace, .int x_a0_piecesStand]))] lv pc [.int o9]) : gAt C 0 0 [(q_a0, .inr (0, [.ref r_a0_tape, .ref r_a0_made, .ref r_a0_packer, .ref r_a0_unpacker, .int x_a0_faultPlace, .int x_a0_piecesStand]))] [(0, .ref q_a0)] 0 [] := by
  unfold Press_place_f at hf
  refine g_aload_n 0 hC (j := 0) (hj := rfl) (hd := d_Press_place_0) ?_
  refine g_get 1 hC i_Press rfl 0 rfl 4 (by decide) k421 rfl d_Press_place_1 ?_
  exact g_re [0] [] rfl rfl rfl (kr () x_a0_faultPlace 4 [] (Option.some.inj hf) d_Press_place_4 rfl)
theorem c_Press_place (l : Launch) (D : va_G) (K : Nat → ClassId) (q_a0 : Nat) (r_a0_tape : Nat) (r_a0_made : Nat) (r_a0_packer : Nat) (r_a0_unpacker : Nat) (x_a0_faultPlace : Int32) (x_a0_piecesStand : Int32) (out : Int32) (hf : Press_place_f x_a0_faultPlace = some out) : Ci l D K y_Press_place (g_wd y_Press_place b_Press_place 1 (some .int)) { frames := 0, cells := 0, slots := 0, locals := 0 } [.ref q_a0] [(q_a0, .inr (0, [.ref r_a0_tape, .ref r_a0_made, .ref r_a0_packer, .ref r_a0_unpacker, .int x_a0_faultPlace, .int x_a0_piecesStand]))] (fun (x : Unit) => [(q_a0, .inr (0, [.ref r_a0_tape, .ref r_a0_made, .ref r_a0_packer, .ref r_a0_unpacker, .int x_a0_faultPlace, .int x_a0_piecesStand]))]) out := mk_i (by decide) (Nat.le_of_ble_eq_true rfl) (fun p e s m below meth c A Q hC kr => m_Press_place hC q_a0 r_a0_tape r_a0_made r_a0_packer r_a0_unpacker x_a0_faultPlace x_a0_piecesStand out hf (fun x o9 pc lv ho => by subst ho; exact kr x pc lv))
abbrev b_Press_length : ByteArray := prog_1_method_9_code
def y_Press_length : MethodName := ⟨R_Press, "length", "()I"⟩
theorem d_Press_length_0 : decode b_Press_length 0 = .ok (.aload_n 0, 1) := by decide +kernel
theorem d_Press_length_1 : decode b_Press_length 1 = .ok (.getfield 14, 3) := by decide +kernel
theorem d_Press_length_4 : decode b_Press_length 4 = .ok (.getfield 45, 3) := by decide +kernel
theorem d_Press_length_7 : decode b_Press_length 7 = .ok (.ireturn, 1) := by decide +kernel
theorem k417 : (Jvm.Cond.fieldLink "RotationPress" (14 : Nat) "RotationPress" "tape" "LRotationPress$ByteRow;") ∈ g_tbl := List.mem_filter.mpr ⟨List.mem_append_right (k2_sels lw_privs) (List.mem_append_right _ (List.mem_append_left _ (List.mem_of_getElem? (l := tables_1_2) (i := 177) rfl))), rfl⟩
theorem k51 : (Jvm.Cond.fieldLink "RotationPress" (45 : Nat) "RotationPress$ByteRow" "count" "I") ∈ g_tbl := List.mem_filter.mpr ⟨List.mem_append_right (k2_sels lw_privs) (List.mem_append_left _ (List.mem_of_getElem? (l := tables_1_1) (i := 51) rfl)), rfl⟩
set_option maxRecDepth 100000 in
set_option maxHeartbeats 4000000 in
theorem m_Press_length {C : gT} (hC : gOk C b_Press_length R_Press { frames := 0, cells := 0, slots := 0, locals := 0 } 1) (q_a0 : Nat) (q_a0_tape : Nat) (r_a0_made : Nat) (r_a0_packer : Nat) (r_a0_unpacker : Nat) (x_a0_faultPlace : Int32) (x_a0_piecesStand : Int32) (r_a0_tape_bytes : Nat) (x_a0_tape_count : Int32) (out : Int32) (hf : Press_length_f x_a0_tape_count = some out) (kr : ∀ (x : Unit) (o9 : Int32) (pc : Nat) (lv : List (Nat × Value)), o9 = out → decode b_Press_length pc = .ok (.ireturn, 1) → narrow .int (.int o9) = .int o9 → gAt C 0 0 [(q_a0, .inr (0, [.ref q_a0_tape, .ref r_a0_made, .ref r_a0_packer, .ref r_a0_unpacker, .int x_a0_faultPlace, .int x_a0_piecesStand])), (q_a0_tape, .inr (4, [.ref r_a0_tape_bytes, .int x_a0_tape_count]))] lv pc [.int o9]) : gAt C 0 0 [(q_a0, .inr (0, [.ref q_a0_tape, .ref r_a0_made, .ref r_a0_packer, .ref r_a0_unpacker, .int x_a0_faultPlace, .int x_a0_piecesStand])), (q_a0_tape, .inr (4, [.ref r_a0_tape_bytes, .int x_a0_tape_count]))] [(0, .ref q_a0)] 0 [] := by
  unfold Press_length_f at hf
  refine g_aload_n 0 hC (j := 0) (hj := rfl) (hd := d_Press_length_0) ?_
  refine g_get 1 hC i_Press rfl 0 rfl 0 (by decide) k417 rfl d_Press_length_1 ?_
  refine g_get 4 hC i_ByteRow rfl 1 rfl 1 (by decide) k51 rfl d_Press_length_4 ?_
  exact g_re [0, 1] [] rfl rfl rfl (kr () x_a0_tape_count 7 [] (Option.some.inj hf) d_Press_length_7 rfl)
theorem c_Press_length (l : Launch) (D : va_G) (K : Nat → ClassId) (q_a0 : Nat) (q_a0_tape : Nat) (r_a0_made : Nat) (r_a0_packer : Nat) (r_a0_unpacker : Nat) (x_a0_faultPlace : Int32) (x_a0_piecesStand : Int32) (r_a0_tape_bytes : Nat) (x_a0_tape_count : Int32) (out : Int32) (hf : Press_length_f x_a0_tape_count = some out) : Ci l D K y_Press_length (g_wd y_Press_length b_Press_length 1 (some .int)) { frames := 0, cells := 0, slots := 0, locals := 0 } [.ref q_a0] [(q_a0, .inr (0, [.ref q_a0_tape, .ref r_a0_made, .ref r_a0_packer, .ref r_a0_unpacker, .int x_a0_faultPlace, .int x_a0_piecesStand])), (q_a0_tape, .inr (4, [.ref r_a0_tape_bytes, .int x_a0_tape_count]))] (fun (x : Unit) => [(q_a0, .inr (0, [.ref q_a0_tape, .ref r_a0_made, .ref r_a0_packer, .ref r_a0_unpacker, .int x_a0_faultPlace, .int x_a0_piecesStand])), (q_a0_tape, .inr (4, [.ref r_a0_tape_bytes, .int x_a0_tape_count]))]) out := mk_i (by decide) (Nat.le_of_ble_eq_true rfl) (fun p e s m below meth c A Q hC kr => m_Press_length hC q_a0 q_a0_tape r_a0_made r_a0_packer r_a0_unpacker x_a0_faultPlace x_a0_piecesStand r_a0_tape_bytes x_a0_tape_count out hf (fun x o9 pc lv ho => by subst ho; exact kr x pc lv))
abbrev b_Press_size : ByteArray := prog_1_method_10_code
def y_Press_size : MethodName := ⟨R_Press, "size", "()I"⟩
theorem d_Press_size_0 : decode b_Press_size 0 = .ok (.aload_n 0, 1) := by decide +kernel
theorem d_Press_size_1 : decode b_Press_size 1 = .ok (.getfield 18, 3) := by decide +kernel
theorem d_Press_size_4 : decode b_Press_size 4 = .ok (.getfield 45, 3) := by decide +kernel
theorem d_Press_size_7 : decode b_Press_size 7 = .ok (.ireturn, 1) := by decide +kernel
theorem k418 : (Jvm.Cond.fieldLink "RotationPress" (18 : Nat) "RotationPress" "made" "LRotationPress$ByteRow;") ∈ g_tbl := List.mem_filter.mpr ⟨List.mem_append_right (k2_sels lw_privs) (List.mem_append_right _ (List.mem_append_left _ (List.mem_of_getElem? (l := tables_1_2) (i := 178) rfl))), rfl⟩
set_option maxRecDepth 100000 in
set_option maxHeartbeats 4000000 in
theorem m_Press_size {C : gT} (hC : gOk C b_Press_size R_Press { frames := 0, cells := 0, slots := 0, locals := 0 } 1) (q_a0 : Nat) (r_a0_tape : Nat) (q_a0_made : Nat) (r_a0_packer : Nat) (r_a0_unpacker : Nat) (x_a0_faultPlace : Int32) (x_a0_piecesStand : Int32) (r_a0_made_bytes : Nat) (x_a0_made_count : Int32) (out : Int32) (hf : Press_size_f x_a0_made_count = some out) (kr : ∀ (x : Unit) (o9 : Int32) (pc : Nat) (lv : List (Nat × Value)), o9 = out → decode b_Press_size pc = .ok (.ireturn, 1) → narrow .int (.int o9) = .int o9 → gAt C 0 0 [(q_a0, .inr (0, [.ref r_a0_tape, .ref q_a0_made, .ref r_a0_packer, .ref r_a0_unpacker, .int x_a0_faultPlace, .int x_a0_piecesStand])), (q_a0_made, .inr (4, [.ref r_a0_made_bytes, .int x_a0_made_count]))] lv pc [.int o9]) : gAt C 0 0 [(q_a0, .inr (0, [.ref r_a0_tape, .ref q_a0_made, .ref r_a0_packer, .ref r_a0_unpacker, .int x_a0_faultPlace, .int x_a0_piecesStand])), (q_a0_made, .inr (4, [.ref r_a0_made_bytes, .int x_a0_made_count]))] [(0, .ref q_a0)] 0 [] := by
  unfold Press_size_f at hf
  refine g_aload_n 0 hC (j := 0) (hj := rfl) (hd := d_Press_size_0) ?_
  refine g_get 1 hC i_Press rfl 0 rfl 1 (by decide) k418 rfl d_Press_size_1 ?_
  refine g_get 4 hC i_ByteRow rfl 1 rfl 1 (by decide) k51 rfl d_Press_size_4 ?_
  exact g_re [0, 1] [] rfl rfl rfl (kr () x_a0_made_count 7 [] (Option.some.inj hf) d_Press_size_7 rfl)
theorem c_Press_size (l : Launch) (D : va_G) (K : Nat → ClassId) (q_a0 : Nat) (r_a0_tape : Nat) (q_a0_made : Nat) (r_a0_packer : Nat) (r_a0_unpacker : Nat) (x_a0_faultPlace : Int32) (x_a0_piecesStand : Int32) (r_a0_made_bytes : Nat) (x_a0_made_count : Int32) (out : Int32) (hf : Press_size_f x_a0_made_count = some out) : Ci l D K y_Press_size (g_wd y_Press_size b_Press_size 1 (some .int)) { frames := 0, cells := 0, slots := 0, locals := 0 } [.ref q_a0] [(q_a0, .inr (0, [.ref r_a0_tape, .ref q_a0_made, .ref r_a0_packer, .ref r_a0_unpacker, .int x_a0_faultPlace, .int x_a0_piecesStand])), (q_a0_made, .inr (4, [.ref r_a0_made_bytes, .int x_a0_made_count]))] (fun (x : Unit) => [(q_a0, .inr (0, [.ref r_a0_tape, .ref q_a0_made, .ref r_a0_packer, .ref r_a0_unpacker, .int x_a0_faultPlace, .int x_a0_piecesStand])), (q_a0_made, .inr (4, [.ref r_a0_made_bytes, .int x_a0_made_count]))]) out := mk_i (by decide) (Nat.le_of_ble_eq_true rfl) (fun p e s m below meth c A Q hC kr => m_Press_size hC q_a0 r_a0_tape q_a0_made r_a0_packer r_a0_unpacker x_a0_faultPlace x_a0_piecesStand r_a0_made_bytes x_a0_made_count out hf (fun x o9 pc lv ho => by subst ho; exact kr x pc lv))
abbrev b_Press_feed : ByteArray := prog_1_method_2_code
def y_Press_feed : MethodName := ⟨R_Press, "feed", "(IIIII)I"⟩
theorem d_Press_feed_0 : decode b_Press_feed 0 = .ok (.aload_n 0, 1) := by decide +kernel
theorem d_Press_feed_1 : decode b_Press_feed 1 = .ok (.getfield 14, 3) := by decide +kernel
theorem d_Press_feed_4 : decode b_Press_feed 4 = .ok (.getfield 45, 3) := by decide +kernel
theorem d_Press_feed_7 : decode b_Press_feed 7 = .ok (.sipush 10220, 3) := by decide +kernel
theorem d_Press_feed_10 : decode b_Press_feed 10 = .ok (.if_icmp .le 13, 3) := by decide +kernel
theorem d_Press_feed_13 : decode b_Press_feed 13 = .ok (.new 48, 3) := by decide +kernel
theorem d_Press_feed_23 : decode b_Press_feed 23 = .ok (.aload_n 0, 1) := by decide +kernel
theorem d_Press_feed_24 : decode b_Press_feed 24 = .ok (.getfield 14, 3) := by decide +kernel
theorem d_Press_feed_27 : decode b_Press_feed 27 = .ok (.iload_n 1, 1) := by decide +kernel
theorem d_Press_feed_28 : decode b_Press_feed 28 = .ok (.invokevirtual 55, 3) := by decide +kernel
theorem d_Press_feed_31 : decode b_Press_feed 31 = .ok (.aload_n 0, 1) := by decide +kernel
theorem d_Press_feed_32 : decode b_Press_feed 32 = .ok (.getfield 14, 3) := by decide +kernel
theorem d_Press_feed_35 : decode b_Press_feed 35 = .ok (.iload_n 2, 1) := by decide +kernel
theorem d_Press_feed_36 : decode b_Press_feed 36 = .ok (.invokevirtual 55, 3) := by decide +kernel
theorem d_Press_feed_39 : decode b_Press_feed 39 = .ok (.aload_n 0, 1) := by decide +kernel
theorem d_Press_feed_40 : decode b_Press_feed 40 = .ok (.getfield 14, 3) := by decide +kernel
theorem d_Press_feed_43 : decode b_Press_feed 43 = .ok (.iload_n 3, 1) := by decide +kernel
theorem d_Press_feed_44 : decode b_Press_feed 44 = .ok (.invokevirtual 55, 3) := by decide +kernel
theorem d_Press_feed_47 : decode b_Press_feed 47 = .ok (.aload_n 0, 1) := by decide +kernel
theorem d_Press_feed_48 : decode b_Press_feed 48 = .ok (.getfield 14, 3) := by decide +kernel
theorem d_Press_feed_51 : decode b_Press_feed 51 = .ok (.iload 4, 2) := by decide +kernel
theorem d_Press_feed_53 : decode b_Press_feed 53 = .ok (.invokevirtual 55, 3) := by decide +kernel
theorem d_Press_feed_56 : decode b_Press_feed 56 = .ok (.aload_n 0, 1) := by decide +kernel
theorem d_Press_feed_57 : decode b_Press_feed 57 = .ok (.getfield 14, 3) := by decide +kernel
theorem d_Press_feed_60 : decode b_Press_feed 60 = .ok (.iload 5, 2) := by decide +kernel
theorem d_Press_feed_62 : decode b_Press_feed 62 = .ok (.invokevirtual 55, 3) := by decide +kernel
theorem d_Press_feed_65 : decode b_Press_feed 65 = .ok (.aload_n 0, 1) := by decide +kernel
theorem d_Press_feed_66 : decode b_Press_feed 66 = .ok (.getfield 14, 3) := by decide +kernel
theorem d_Press_feed_69 : decode b_Press_feed 69 = .ok (.getfield 45, 3) := by decide +kernel
theorem d_Press_feed_72 : decode b_Press_feed 72 = .ok (.ireturn, 1) := by decide +kernel
theorem k528 : (Jvm.Cond.code ({ cls := "RotationPress$ByteRow", name := "addNumber", desc := "(I)V" } : Jvm.MethodName) prog_5_method_5_code (2 : Nat) (Option.none : Option Jvm.ClassFile.FieldType)) ∈ g_tbl := List.mem_filter.mpr ⟨List.mem_append_right (k2_sels lw_privs) (List.mem_append_right _ (List.mem_append_right _ (List.mem_append_left _ (List.mem_of_getElem? (l := tables_1_3) (i := 48) rfl)))), rfl⟩
theorem k525 : (Jvm.Cond.methodLink "RotationPress" (55 : Nat) ({ cls := "RotationPress$ByteRow", name := "addNumber", desc := "(I)V" } : Jvm.MethodName)) ∈ g_tbl := List.mem_filter.mpr ⟨List.mem_append_right (k2_sels lw_privs) (List.mem_append_right _ (List.mem_append_right _ (List.mem_append_left _ (List.mem_of_getElem? (l := tables_1_3) (i := 45) rfl)))), rfl⟩
theorem k526 : (Jvm.Cond.instanceMethod ({ cls := "RotationPress$ByteRow", name := "addNumber", desc := "(I)V" } : Jvm.MethodName)) ∈ g_tbl := List.mem_filter.mpr ⟨List.mem_append_right (k2_sels lw_privs) (List.mem_append_right _ (List.mem_append_right _ (List.mem_append_left _ (List.mem_of_getElem? (l := tables_1_3) (i := 46) rfl)))), rfl⟩
theorem k527 : (Jvm.Cond.selects "RotationPress$ByteRow" ({ cls := "RotationPress$ByteRow", name := "addNumber", desc := "(I)V" } : Jvm.MethodName) ({ cls := "RotationPress$ByteRow", name := "addNumber", desc := "(I)V" } : Jvm.MethodName)) ∈ g_tbl := List.mem_filter.mpr ⟨List.mem_append_right (k2_sels lw_privs) (List.mem_append_right _ (List.mem_append_right _ (List.mem_append_left _ (List.mem_of_getElem? (l := tables_1_3) (i := 47) rfl)))), rfl⟩
theorem Press_feed_f_mo {x_a0_tape_count : Int32} {n_a0_tape_bytes : Nat} {p1 : Int32} {f_a0_tape_bytes : (Nat → Int32)} {p2 : Int32} {p3 : Int32} {p4 : Int32} {p5 : Int32} {o : (Int32 × Nat × (Nat → Int32) × Int32)} (h : Press_feed_f x_a0_tape_count n_a0_tape_bytes p1 f_a0_tape_bytes p2 p3 p4 p5 = some o) : n_a0_tape_bytes ≤ (fun (o : (Int32 × Nat × (Nat → Int32) × Int32)) => o.2.1) o := by
  unfold Press_feed_f at h
  by_cases c1 : x_a0_tape_count ≤ (10220 : Int32)
  · have h := it_t c1 h
    obtain ⟨u2, hu2, h⟩ := bd_some h
    have lu2 : n_a0_tape_bytes ≤ u2.1 := ByteRow_addNumber_f_mo hu2
    obtain ⟨u3, hu3, h⟩ := bd_some h
    have lu3 : u2.1 ≤ u3.1 := ByteRow_addNumber_f_mo hu3
    obtain ⟨u4, hu4, h⟩ := bd_some h
    have lu4 : u3.1 ≤ u4.1 := ByteRow_addNumber_f_mo hu4
    obtain ⟨u5, hu5, h⟩ := bd_some h
    have lu5 : u4.1 ≤ u5.1 := ByteRow_addNumber_f_mo hu5
    obtain ⟨u6, hu6, h⟩ := bd_some h
    have lu6 : u5.1 ≤ u6.1 := ByteRow_addNumber_f_mo hu6
    exact mo_leaf (L := (fun (o : (Int32 × Nat × (Nat → Int32) × Int32)) => o.2.1)) h (show n_a0_tape_bytes ≤ u6.1 by omega)
  · have h := it_f c1 h
    cases h
set_option maxRecDepth 100000 in
set_option maxHeartbeats 4000000 in
theorem m_Press_feed {C : gT} (q_a0 : Nat) (q_a0_tape : Nat) (r_a0_made : Nat) (r_a0_packer : Nat) (r_a0_unpacker : Nat) (x_a0_faultPlace : Int32) (x_a0_piecesStand : Int32) (q_a0_tape_bytes : Nat) (x_a0_tape_count : Int32) (n_a0_tape_bytes : Nat) (f_a0_tape_bytes : (Nat → Int32)) (p1 : Int32) (p2 : Int32) (p3 : Int32) (p4 : Int32) (p5 : Int32) (out : (Int32 × Nat × (Nat → Int32) × Int32)) (hC : gOk C b_Press_feed R_Press { frames := 4, cells := out.2.1 - n_a0_tape_bytes, slots := 2 * (out.2.1 - n_a0_tape_bytes), locals := 109 } 6) (hf : Press_feed_f x_a0_tape_count n_a0_tape_bytes p1 f_a0_tape_bytes p2 p3 p4 p5 = some out) (kr : ∀ (x : Nat) (o9 : (Int32 × Nat × (Nat → Int32) × Int32)) (pc : Nat) (lv : List (Nat × Value)), o9 = out → decode b_Press_feed pc = .ok (.ireturn, 1) → narrow .int (.int o9.1) = .int o9.1 → gAt C (o9.2.1 - n_a0_tape_bytes) (2 * (o9.2.1 - n_a0_tape_bytes)) [(q_a0, .inr (0, [.ref q_a0_tape, .ref r_a0_made, .ref r_a0_packer, .ref r_a0_unpacker, .int x_a0_faultPlace, .int x_a0_piecesStand])), (q_a0_tape, .inr (4, [.ref x, .int o9.2.2.2])), (x, .inl (g_K C 0, o9.2.1, .inl o9.2.2.1))] lv pc [.int o9.1]) : gAt C 0 0 [(q_a0, .inr (0, [.ref q_a0_tape, .ref r_a0_made, .ref r_a0_packer, .ref r_a0_unpacker, .int x_a0_faultPlace, .int x_a0_piecesStand])), (q_a0_tape, .inr (4, [.ref q_a0_tape_bytes, .int x_a0_tape_count])), (q_a0_tape_bytes, .inl (g_K C 0, n_a0_tape_bytes, .inl f_a0_tape_bytes))] [(0, .ref q_a0), (1, .int p1), (2, .int p2), (3, .int p3), (4, .int p4), (5, .int p5)] 0 [] := by
  have hle : n_a0_tape_bytes ≤ n_a0_tape_bytes := Nat.le_refl _
  have hfi : n_a0_tape_bytes ≤ out.2.1 := Press_feed_f_mo hf
  refine g_wide (n_a0_tape_bytes - n_a0_tape_bytes) (2 * (n_a0_tape_bytes - n_a0_tape_bytes)) (Nat.zero_le _) (Nat.zero_le _) ?_
  unfold Press_feed_f at hf
  refine g_aload_n 0 hC (j := 0) (hj := rfl) (hd := d_Press_feed_0) ?_
  refine g_get 1 hC i_Press rfl 0 rfl 0 (by decide) k417 rfl d_Press_feed_1 ?_
  refine g_get 4 hC i_ByteRow rfl 1 rfl 1 (by decide) k51 rfl d_Press_feed_4 ?_
  refine g_sipush 7 hC (10220 : Int32) (by decide) d_Press_feed_7 ?_
  refine g_icmp_le 10 hC 23 (by decide) d_Press_feed_10 (fun c1 => ?_) (fun c1 => ?_)
  · have hf := it_t c1 hf
    refine g_aload_n 23 hC (j := 0) (hj := rfl) (hd := d_Press_feed_23) ?_
    refine g_get 24 hC i_Press rfl 0 rfl 0 (by decide) k417 rfl d_Press_feed_24 ?_
    refine g_iload_n 27 hC (j := 1) (hj := rfl) (hd := d_Press_feed_27) ?_
    obtain ⟨u2, hu2, hf⟩ := bd_some hf
    have lu2 : n_a0_tape_bytes ≤ u2.1 := ByteRow_addNumber_f_mo hu2
    have hfi : u2.1 ≤ out.2.1 := by
      have h := hf
      obtain ⟨u3, hu3, h⟩ := bd_some h
      have lu3 : u2.1 ≤ u3.1 := ByteRow_addNumber_f_mo hu3
      obtain ⟨u4, hu4, h⟩ := bd_some h
      have lu4 : u3.1 ≤ u4.1 := ByteRow_addNumber_f_mo hu4
      obtain ⟨u5, hu5, h⟩ := bd_some h
      have lu5 : u4.1 ≤ u5.1 := ByteRow_addNumber_f_mo hu5
      obtain ⟨u6, hu6, h⟩ := bd_some h
      have lu6 : u5.1 ≤ u6.1 := ByteRow_addNumber_f_mo hu6
      exact mo_leaf (L := (fun (o : (Int32 × Nat × (Nat → Int32) × Int32)) => o.2.1)) h (show u2.1 ≤ u6.1 by omega)
    refine g_callVv 28 hC (c_ByteRow_addNumber (g_l C) (g_D C) (g_K C) q_a0_tape q_a0_tape_bytes x_a0_tape_count n_a0_tape_bytes f_a0_tape_bytes p1 u2 hu2) k528 k2 k525 k526 k527 1 rfl (by decide +kernel) ⟨Nat.le_of_ble_eq_true rfl, Nat.le_of_ble_eq_true rfl⟩ [1, 2] [0] [(q_a0, .inr (0, [.ref q_a0_tape, .ref r_a0_made, .ref r_a0_packer, .ref r_a0_unpacker, .int x_a0_faultPlace, .int x_a0_piecesStand]))] rfl rfl rfl rfl rfl 0 4 rfl rfl rfl rfl (Nat.le_of_ble_eq_true rfl) ⟨show (n_a0_tape_bytes - n_a0_tape_bytes) + (u2.1 - n_a0_tape_bytes) ≤ out.2.1 - n_a0_tape_bytes by omega, show (2 * (n_a0_tape_bytes - n_a0_tape_bytes)) + 2 * (u2.1 - n_a0_tape_bytes) ≤ 2 * (out.2.1 - n_a0_tape_bytes) by omega⟩ (fun (xu2 : Nat) => [(q_a0, .inr (0, [.ref q_a0_tape, .ref r_a0_made, .ref r_a0_packer, .ref r_a0_unpacker, .int x_a0_faultPlace, .int x_a0_piecesStand])), (q_a0_tape, .inr (4, [.ref xu2, .int u2.2.2])), (xu2, .inl (g_K C 0, u2.1, .inl u2.2.1))]) (fun _ => rfl) d_Press_feed_28 (u2.1 - n_a0_tape_bytes) (2 * (u2.1 - n_a0_tape_bytes)) (show (n_a0_tape_bytes - n_a0_tape_bytes) + (u2.1 - n_a0_tape_bytes) = (u2.1 - n_a0_tape_bytes) by omega) (show (2 * (n_a0_tape_bytes - n_a0_tape_bytes)) + 2 * (u2.1 - n_a0_tape_bytes) = (2 * (u2.1 - n_a0_tape_bytes)) by omega) (fun xu2 => ?_)
    have hle : n_a0_tape_bytes ≤ u2.1 := by omega
    refine g_aload_n 31 hC (j := 0) (hj := rfl) (hd := d_Press_feed_31) ?_
    refine g_get 32 hC i_Press rfl 0 rfl 0 (by decide) k417 rfl d_Press_feed_32 ?_
    refine g_iload_n 35 hC (j := 2) (hj := rfl) (hd := d_Press_feed_35) ?_
    obtain ⟨u3, hu3, hf⟩ := bd_some hf
    have lu3 : u2.1 ≤ u3.1 := ByteRow_addNumber_f_mo hu3
    have hfi : u3.1 ≤ out.2.1 := by
      have h := hf
      obtain ⟨u4, hu4, h⟩ := bd_some h
      have lu4 : u3.1 ≤ u4.1 := ByteRow_addNumber_f_mo hu4
      obtain ⟨u5, hu5, h⟩ := bd_some h
      have lu5 : u4.1 ≤ u5.1 := ByteRow_addNumber_f_mo hu5
      obtain ⟨u6, hu6, h⟩ := bd_some h
      have lu6 : u5.1 ≤ u6.1 := ByteRow_addNumber_f_mo hu6
      exact mo_leaf (L := (fun (o : (Int32 × Nat × (Nat → Int32) × Int32)) => o.2.1)) h (show u3.1 ≤ u6.1 by omega)
    refine g_callVv 36 hC (c_ByteRow_addNumber (g_l C) (g_D C) (g_K C) q_a0_tape xu2 u2.2.2 u2.1 u2.2.1 p2 u3 hu3) k528 k2 k525 k526 k527 1 rfl (by decide +kernel) ⟨Nat.le_of_ble_eq_true rfl, Nat.le_of_ble_eq_true rfl⟩ [1, 2] [0] [(q_a0, .inr (0, [.ref q_a0_tape, .ref r_a0_made, .ref r_a0_packer, .ref r_a0_unpacker, .int x_a0_faultPlace, .int x_a0_piecesStand]))] rfl rfl rfl rfl rfl 0 4 rfl rfl rfl rfl (Nat.le_of_ble_eq_true rfl) ⟨show (u2.1 - n_a0_tape_bytes) + (u3.1 - u2.1) ≤ out.2.1 - n_a0_tape_bytes by omega, show (2 * (u2.1 - n_a0_tape_bytes)) + 2 * (u3.1 - u2.1) ≤ 2 * (out.2.1 - n_a0_tape_bytes) by omega⟩ (fun (xu3 : Nat) => [(q_a0, .inr (0, [.ref q_a0_tape, .ref r_a0_made, .ref r_a0_packer, .ref r_a0_unpacker, .int x_a0_faultPlace, .int x_a0_piecesStand])), (q_a0_tape, .inr (4, [.ref xu3, .int u3.2.2])), (xu3, .inl (g_K C 0, u3.1, .inl u3.2.1))]) (fun _ => rfl) d_Press_feed_36 (u3.1 - n_a0_tape_bytes) (2 * (u3.1 - n_a0_tape_bytes)) (show (u2.1 - n_a0_tape_bytes) + (u3.1 - u2.1) = (u3.1 - n_a0_tape_bytes) by omega) (show (2 * (u2.1 - n_a0_tape_bytes)) + 2 * (u3.1 - u2.1) = (2 * (u3.1 - n_a0_tape_bytes)) by omega) (fun xu3 => ?_)
    have hle : n_a0_tape_bytes ≤ u3.1 := by omega
    refine g_aload_n 39 hC (j := 0) (hj := rfl) (hd := d_Press_feed_39) ?_
    refine g_get 40 hC i_Press rfl 0 rfl 0 (by decide) k417 rfl d_Press_feed_40 ?_
    refine g_iload_n 43 hC (j := 3) (hj := rfl) (hd := d_Press_feed_43) ?_
    obtain ⟨u4, hu4, hf⟩ := bd_some hf
    have lu4 : u3.1 ≤ u4.1 := ByteRow_addNumber_f_mo hu4
    have hfi : u4.1 ≤ out.2.1 := by
      have h := hf
      obtain ⟨u5, hu5, h⟩ := bd_some h
      have lu5 : u4.1 ≤ u5.1 := ByteRow_addNumber_f_mo hu5
      obtain ⟨u6, hu6, h⟩ := bd_some h
      have lu6 : u5.1 ≤ u6.1 := ByteRow_addNumber_f_mo hu6
      exact mo_leaf (L := (fun (o : (Int32 × Nat × (Nat → Int32) × Int32)) => o.2.1)) h (show u4.1 ≤ u6.1 by omega)
    refine g_callVv 44 hC (c_ByteRow_addNumber (g_l C) (g_D C) (g_K C) q_a0_tape xu3 u3.2.2 u3.1 u3.2.1 p3 u4 hu4) k528 k2 k525 k526 k527 1 rfl (by decide +kernel) ⟨Nat.le_of_ble_eq_true rfl, Nat.le_of_ble_eq_true rfl⟩ [1, 2] [0] [(q_a0, .inr (0, [.ref q_a0_tape, .ref r_a0_made, .ref r_a0_packer, .ref r_a0_unpacker, .int x_a0_faultPlace, .int x_a0_piecesStand]))] rfl rfl rfl rfl rfl 0 4 rfl rfl rfl rfl (Nat.le_of_ble_eq_true rfl) ⟨show (u3.1 - n_a0_tape_bytes) + (u4.1 - u3.1) ≤ out.2.1 - n_a0_tape_bytes by omega, show (2 * (u3.1 - n_a0_tape_bytes)) + 2 * (u4.1 - u3.1) ≤ 2 * (out.2.1 - n_a0_tape_bytes) by omega⟩ (fun (xu4 : Nat) => [(q_a0, .inr (0, [.ref q_a0_tape, .ref r_a0_made, .ref r_a0_packer, .ref r_a0_unpacker, .int x_a0_faultPlace, .int x_a0_piecesStand])), (q_a0_tape, .inr (4, [.ref xu4, .int u4.2.2])), (xu4, .inl (g_K C 0, u4.1, .inl u4.2.1))]) (fun _ => rfl) d_Press_feed_44 (u4.1 - n_a0_tape_bytes) (2 * (u4.1 - n_a0_tape_bytes)) (show (u3.1 - n_a0_tape_bytes) + (u4.1 - u3.1) = (u4.1 - n_a0_tape_bytes) by omega) (show (2 * (u3.1 - n_a0_tape_bytes)) + 2 * (u4.1 - u3.1) = (2 * (u4.1 - n_a0_tape_bytes)) by omega) (fun xu4 => ?_)
    have hle : n_a0_tape_bytes ≤ u4.1 := by omega
    refine g_aload_n 47 hC (j := 0) (hj := rfl) (hd := d_Press_feed_47) ?_
    refine g_get 48 hC i_Press rfl 0 rfl 0 (by decide) k417 rfl d_Press_feed_48 ?_
    refine g_iload 51 hC (j := 4) (hj := rfl) (hd := d_Press_feed_51) ?_
    obtain ⟨u5, hu5, hf⟩ := bd_some hf
    have lu5 : u4.1 ≤ u5.1 := ByteRow_addNumber_f_mo hu5
    have hfi : u5.1 ≤ out.2.1 := by
      have h := hf
      obtain ⟨u6, hu6, h⟩ := bd_some h
      have lu6 : u5.1 ≤ u6.1 := ByteRow_addNumber_f_mo hu6
      exact mo_leaf (L := (fun (o : (Int32 × Nat × (Nat → Int32) × Int32)) => o.2.1)) h (show u5.1 ≤ u6.1 by omega)
    refine g_callVv 53 hC (c_ByteRow_addNumber (g_l C) (g_D C) (g_K C) q_a0_tape xu4 u4.2.2 u4.1 u4.2.1 p4 u5 hu5) k528 k2 k525 k526 k527 1 rfl (by decide +kernel) ⟨Nat.le_of_ble_eq_true rfl, Nat.le_of_ble_eq_true rfl⟩ [1, 2] [0] [(q_a0, .inr (0, [.ref q_a0_tape, .ref r_a0_made, .ref r_a0_packer, .ref r_a0_unpacker, .int x_a0_faultPlace, .int x_a0_piecesStand]))] rfl rfl rfl rfl rfl 0 4 rfl rfl rfl rfl (Nat.le_of_ble_eq_true rfl) ⟨show (u4.1 - n_a0_tape_bytes) + (u5.1 - u4.1) ≤ out.2.1 - n_a0_tape_bytes by omega, show (2 * (u4.1 - n_a0_tape_bytes)) + 2 * (u5.1 - u4.1) ≤ 2 * (out.2.1 - n_a0_tape_bytes) by omega⟩ (fun (xu5 : Nat) => [(q_a0, .inr (0, [.ref q_a0_tape, .ref r_a0_made, .ref r_a0_packer, .ref r_a0_unpacker, .int x_a0_faultPlace, .int x_a0_piecesStand])), (q_a0_tape, .inr (4, [.ref xu5, .int u5.2.2])), (xu5, .inl (g_K C 0, u5.1, .inl u5.2.1))]) (fun _ => rfl) d_Press_feed_53 (u5.1 - n_a0_tape_bytes) (2 * (u5.1 - n_a0_tape_bytes)) (show (u4.1 - n_a0_tape_bytes) + (u5.1 - u4.1) = (u5.1 - n_a0_tape_bytes) by omega) (show (2 * (u4.1 - n_a0_tape_bytes)) + 2 * (u5.1 - u4.1) = (2 * (u5.1 - n_a0_tape_bytes)) by omega) (fun xu5 => ?_)
    have hle : n_a0_tape_bytes ≤ u5.1 := by omega
    refine g_aload_n 56 hC (j := 0) (hj := rfl) (hd := d_Press_feed_56) ?_
    refine g_get 57 hC i_Press rfl 0 rfl 0 (by decide) k417 rfl d_Press_feed_57 ?_
    refine g_iload 60 hC (j := 5) (hj := rfl) (hd := d_Press_feed_60) ?_
    obtain ⟨u6, hu6, hf⟩ := bd_some hf
    have lu6 : u5.1 ≤ u6.1 := ByteRow_addNumber_f_mo hu6
    have hfi : u6.1 ≤ out.2.1 := by
      have h := hf
      exact mo_leaf (L := (fun (o : (Int32 × Nat × (Nat → Int32) × Int32)) => o.2.1)) h (show u6.1 ≤ u6.1 by omega)
    refine g_callVv 62 hC (c_ByteRow_addNumber (g_l C) (g_D C) (g_K C) q_a0_tape xu5 u5.2.2 u5.1 u5.2.1 p5 u6 hu6) k528 k2 k525 k526 k527 1 rfl (by decide +kernel) ⟨Nat.le_of_ble_eq_true rfl, Nat.le_of_ble_eq_true rfl⟩ [1, 2] [0] [(q_a0, .inr (0, [.ref q_a0_tape, .ref r_a0_made, .ref r_a0_packer, .ref r_a0_unpacker, .int x_a0_faultPlace, .int x_a0_piecesStand]))] rfl rfl rfl rfl rfl 0 4 rfl rfl rfl rfl (Nat.le_of_ble_eq_true rfl) ⟨show (u5.1 - n_a0_tape_bytes) + (u6.1 - u5.1) ≤ out.2.1 - n_a0_tape_bytes by omega, show (2 * (u5.1 - n_a0_tape_bytes)) + 2 * (u6.1 - u5.1) ≤ 2 * (out.2.1 - n_a0_tape_bytes) by omega⟩ (fun (xu6 : Nat) => [(q_a0, .inr (0, [.ref q_a0_tape, .ref r_a0_made, .ref r_a0_packer, .ref r_a0_unpacker, .int x_a0_faultPlace, .int x_a0_piecesStand])), (q_a0_tape, .inr (4, [.ref xu6, .int u6.2.2])), (xu6, .inl (g_K C 0, u6.1, .inl u6.2.1))]) (fun _ => rfl) d_Press_feed_62 (u6.1 - n_a0_tape_bytes) (2 * (u6.1 - n_a0_tape_bytes)) (show (u5.1 - n_a0_tape_bytes) + (u6.1 - u5.1) = (u6.1 - n_a0_tape_bytes) by omega) (show (2 * (u5.1 - n_a0_tape_bytes)) + 2 * (u6.1 - u5.1) = (2 * (u6.1 - n_a0_tape_bytes)) by omega) (fun xu6 => ?_)
    have hle : n_a0_tape_bytes ≤ u6.1 := by omega
    refine g_aload_n 65 hC (j := 0) (hj := rfl) (hd := d_Press_feed_65) ?_
    refine g_get 66 hC i_Press rfl 0 rfl 0 (by decide) k417 rfl d_Press_feed_66 ?_
    refine g_get 69 hC i_ByteRow rfl 1 rfl 1 (by decide) k51 rfl d_Press_feed_69 ?_
    exact g_re [0, 1, 2] [] rfl rfl rfl (kr xu6 (u6.2.2, u6.1, u6.2.1, u6.2.2) 72 [] (Option.some.inj hf) d_Press_feed_72 rfl)
  · have hf := it_f c1 hf
    cases hf
theorem c_Press_feed (l : Launch) (D : va_G) (K : Nat → ClassId) (q_a0 : Nat) (q_a0_tape : Nat) (r_a0_made : Nat) (r_a0_packer : Nat) (r_a0_unpacker : Nat) (x_a0_faultPlace : Int32) (x_a0_piecesStand : Int32) (q_a0_tape_bytes : Nat) (x_a0_tape_count : Int32) (n_a0_tape_bytes : Nat) (f_a0_tape_bytes : (Nat → Int32)) (p1 : Int32) (p2 : Int32) (p3 : Int32) (p4 : Int32) (p5 : Int32) (out : (Int32 × Nat × (Nat → Int32) × Int32)) (hf : Press_feed_f x_a0_tape_count n_a0_tape_bytes p1 f_a0_tape_bytes p2 p3 p4 p5 = some out) : Ci l D K y_Press_feed (g_wd y_Press_feed b_Press_feed 6 (some .int)) { frames := 4, cells := out.2.1 - n_a0_tape_bytes, slots := 2 * (out.2.1 - n_a0_tape_bytes), locals := 109 } [.ref q_a0, .int p1, .int p2, .int p3, .int p4, .int p5] [(q_a0, .inr (0, [.ref q_a0_tape, .ref r_a0_made, .ref r_a0_packer, .ref r_a0_unpacker, .int x_a0_faultPlace, .int x_a0_piecesStand])), (q_a0_tape, .inr (4, [.ref q_a0_tape_bytes, .int x_a0_tape_count])), (q_a0_tape_bytes, .inl (K 0, n_a0_tape_bytes, .inl f_a0_tape_bytes))] (fun (x : Nat) => [(q_a0, .inr (0, [.ref q_a0_tape, .ref r_a0_made, .ref r_a0_packer, .ref r_a0_unpacker, .int x_a0_faultPlace, .int x_a0_piecesStand])), (q_a0_tape, .inr (4, [.ref x, .int out.2.2.2])), (x, .inl (K 0, out.2.1, .inl out.2.2.1))]) out.1 := mk_i (by decide) (Nat.le_of_ble_eq_true rfl) (fun p e s m below meth c A Q hC kr => m_Press_feed q_a0 q_a0_tape r_a0_made r_a0_packer r_a0_unpacker x_a0_faultPlace x_a0_piecesStand q_a0_tape_bytes x_a0_tape_count n_a0_tape_bytes f_a0_tape_bytes p1 p2 p3 p4 p5 out hC hf (fun x o9 pc lv ho => by subst ho; exact kr x pc lv))
abbrev b_Press_end : ByteArray := prog_1_method_3_code
def y_Press_end : MethodName := ⟨R_Press, "end", "(I)V"⟩
theorem d_Press_end_0 : decode b_Press_end 0 = .ok (.iload_n 1, 1) := by decide +kernel
theorem d_Press_end_1 : decode b_Press_end 1 = .ok (.ifCond .lt 14, 3) := by decide +kernel
theorem d_Press_end_4 : decode b_Press_end 4 = .ok (.iload_n 1, 1) := by decide +kernel
theorem d_Press_end_5 : decode b_Press_end 5 = .ok (.aload_n 0, 1) := by decide +kernel
theorem d_Press_end_6 : decode b_Press_end 6 = .ok (.getfield 14, 3) := by decide +kernel
theorem d_Press_end_9 : decode b_Press_end 9 = .ok (.getfield 45, 3) := by decide +kernel
theorem d_Press_end_12 : decode b_Press_end 12 = .ok (.if_icmp .le 13, 3) := by decide +kernel
theorem d_Press_end_15 : decode b_Press_end 15 = .ok (.new 58, 3) := by decide +kernel
theorem d_Press_end_25 : decode b_Press_end 25 = .ok (.aload_n 0, 1) := by decide +kernel
theorem d_Press_end_26 : decode b_Press_end 26 = .ok (.getfield 14, 3) := by decide +kernel
theorem d_Press_end_29 : decode b_Press_end 29 = .ok (.iload_n 1, 1) := by decide +kernel
theorem d_Press_end_30 : decode b_Press_end 30 = .ok (.putfield 45, 3) := by decide +kernel
theorem d_Press_end_33 : decode b_Press_end 33 = .ok (.return_, 1) := by decide +kernel
set_option maxRecDepth 100000 in
set_option maxHeartbeats 4000000 in
theorem m_Press_end {C : gT} (hC : gOk C b_Press_end R_Press { frames := 0, cells := 0, slots := 0, locals := 0 } 2) (q_a0 : Nat) (q_a0_tape : Nat) (r_a0_made : Nat) (r_a0_packer : Nat) (r_a0_unpacker : Nat) (x_a0_faultPlace : Int32) (x_a0_piecesStand : Int32) (r_a0_tape_bytes : Nat) (x_a0_tape_count : Int32) (p1 : Int32) (out : Int32) (hf : Press_end_f p1 x_a0_tape_count = some out) (kr : ∀ (x : Unit) (o9 : Int32) (pc : Nat) (lv : List (Nat × Value)), o9 = out → decode b_Press_end pc = .ok (.return_, 1) → gAt C 0 0 [(q_a0, .inr (0, [.ref q_a0_tape, .ref r_a0_made, .ref r_a0_packer, .ref r_a0_unpacker, .int x_a0_faultPlace, .int x_a0_piecesStand])), (q_a0_tape, .inr (4, [.ref r_a0_tape_bytes, .int o9]))] lv pc []) : gAt C 0 0 [(q_a0, .inr (0, [.ref q_a0_tape, .ref r_a0_made, .ref r_a0_packer, .ref r_a0_unpacker, .int x_a0_faultPlace, .int x_a0_piecesStand])), (q_a0_tape, .inr (4, [.ref r_a0_tape_bytes, .int x_a0_tape_count]))] [(0, .ref q_a0), (1, .int p1)] 0 [] := by
  unfold Press_end_f at hf
  have J15 : Press_end_J15 = some out → gAt C 0 0 [(q_a0, .inr (0, [.ref q_a0_tape, .ref r_a0_made, .ref r_a0_packer, .ref r_a0_unpacker, .int x_a0_faultPlace, .int x_a0_piecesStand])), (q_a0_tape, .inr (4, [.ref r_a0_tape_bytes, .int x_a0_tape_count]))] [] 15 [] := by
    intro hf
    unfold Press_end_J15 at hf
    cases hf
  refine g_iload_n 0 hC (j := 1) (hj := rfl) (hd := d_Press_end_0) ?_
  refine g_if_lt 1 hC 15 (by decide) d_Press_end_1 (fun c1 => ?_) (fun c1 => ?_)
  · have hf := it_t c1 hf
    exact g_re [0, 1] [] rfl rfl rfl (J15 hf)
  · have hf := it_f c1 hf
    refine g_iload_n 4 hC (j := 1) (hj := rfl) (hd := d_Press_end_4) ?_
    refine g_aload_n 5 hC (j := 0) (hj := rfl) (hd := d_Press_end_5) ?_
    refine g_get 6 hC i_Press rfl 0 rfl 0 (by decide) k417 rfl d_Press_end_6 ?_
    refine g_get 9 hC i_ByteRow rfl 1 rfl 1 (by decide) k51 rfl d_Press_end_9 ?_
    refine g_icmp_le 12 hC 25 (by decide) d_Press_end_12 (fun c2 => ?_) (fun c2 => ?_)
    · have hf := it_t c2 hf
      refine g_aload_n 25 hC (j := 0) (hj := rfl) (hd := d_Press_end_25) ?_
      refine g_get 26 hC i_Press rfl 0 rfl 0 (by decide) k417 rfl d_Press_end_26 ?_
      refine g_iload_n 29 hC (j := 1) (hj := rfl) (hd := d_Press_end_29) ?_
      refine g_put 30 hC i_ByteRow rfl 1 rfl 1 (by decide) t_ByteRow tk_ByteRow n_ByteRow k51 rfl rfl rfl (Nat.le_of_ble_eq_true rfl) [(q_a0, .inr (0, [.ref q_a0_tape, .ref r_a0_made, .ref r_a0_packer, .ref r_a0_unpacker, .int x_a0_faultPlace, .int x_a0_piecesStand])), (q_a0_tape, .inr (4, [.ref r_a0_tape_bytes, .int p1]))] rfl d_Press_end_30 ?_
      exact g_re [0, 1] [] rfl rfl rfl (kr () p1 33 [] (Option.some.inj hf) d_Press_end_33)
    · have hf := it_f c2 hf
      exact g_re [0, 1] [] rfl rfl rfl (J15 hf)
theorem c_Press_end (l : Launch) (D : va_G) (K : Nat → ClassId) (q_a0 : Nat) (q_a0_tape : Nat) (r_a0_made : Nat) (r_a0_packer : Nat) (r_a0_unpacker : Nat) (x_a0_faultPlace : Int32) (x_a0_piecesStand : Int32) (r_a0_tape_bytes : Nat) (x_a0_tape_count : Int32) (p1 : Int32) (out : Int32) (hf : Press_end_f p1 x_a0_tape_count = some out) : Cv l D K y_Press_end (g_wd y_Press_end b_Press_end 2 none) { frames := 0, cells := 0, slots := 0, locals := 0 } [.ref q_a0, .int p1] [(q_a0, .inr (0, [.ref q_a0_tape, .ref r_a0_made, .ref r_a0_packer, .ref r_a0_unpacker, .int x_a0_faultPlace, .int x_a0_piecesStand])), (q_a0_tape, .inr (4, [.ref r_a0_tape_bytes, .int x_a0_tape_count]))] (fun (x : Unit) => [(q_a0, .inr (0, [.ref q_a0_tape, .ref r_a0_made, .ref r_a0_packer, .ref r_a0_unpacker, .int x_a0_faultPlace, .int x_a0_piecesStand])), (q_a0_tape, .inr (4, [.ref r_a0_tape_bytes, .int out]))]) := mk_v (by decide) (Nat.le_of_ble_eq_true rfl) (fun p e s m below meth c A Q hC kr => m_Press_end hC q_a0 q_a0_tape r_a0_made r_a0_packer r_a0_unpacker x_a0_faultPlace x_a0_piecesStand r_a0_tape_bytes x_a0_tape_count p1 out hf (fun x o9 pc lv ho => by subst ho; exact kr x pc lv))
abbrev b_Press_alter : ByteArray := prog_1_method_4_code
def y_Press_alter : MethodName := ⟨R_Press, "alter", "(II)I"⟩
theorem d_Press_alter_0 : decode b_Press_alter 0 = .ok (.aload_n 0, 1) := by decide +kernel
theorem d_Press_alter_1 : decode b_Press_alter 1 = .ok (.getfield 14, 3) := by decide +kernel
theorem d_Press_alter_4 : decode b_Press_alter 4 = .ok (.iload_n 1, 1) := by decide +kernel
theorem d_Press_alter_5 : decode b_Press_alter 5 = .ok (.invokevirtual 63, 3) := by decide +kernel
theorem d_Press_alter_8 : decode b_Press_alter 8 = .ok (.ifCond .ne 13, 3) := by decide +kernel
theorem d_Press_alter_11 : decode b_Press_alter 11 = .ok (.new 67, 3) := by decide +kernel
theorem d_Press_alter_21 : decode b_Press_alter 21 = .ok (.iload_n 2, 1) := by decide +kernel
theorem d_Press_alter_22 : decode b_Press_alter 22 = .ok (.ifCond .lt 10, 3) := by decide +kernel
theorem d_Press_alter_25 : decode b_Press_alter 25 = .ok (.iload_n 2, 1) := by decide +kernel
theorem d_Press_alter_26 : decode b_Press_alter 26 = .ok (.sipush 256, 3) := by decide +kernel
theorem d_Press_alter_29 : decode b_Press_alter 29 = .ok (.if_icmp .lt 13, 3) := by decide +kernel
theorem d_Press_alter_32 : decode b_Press_alter 32 = .ok (.new 58, 3) := by decide +kernel
theorem d_Press_alter_42 : decode b_Press_alter 42 = .ok (.aload_n 0, 1) := by decide +kernel
theorem d_Press_alter_43 : decode b_Press_alter 43 = .ok (.getfield 14, 3) := by decide +kernel
theorem d_Press_alter_46 : decode b_Press_alter 46 = .ok (.iload_n 1, 1) := by decide +kernel
theorem d_Press_alter_47 : decode b_Press_alter 47 = .ok (.iload_n 2, 1) := by decide +kernel
theorem d_Press_alter_48 : decode b_Press_alter 48 = .ok (.invokevirtual 74, 3) := by decide +kernel
theorem d_Press_alter_51 : decode b_Press_alter 51 = .ok (.ireturn, 1) := by decide +kernel
theorem k581 : (Jvm.Cond.methodLink "RotationPress" (63 : Nat) ({ cls := "RotationPress$ByteRow", name := "has", desc := "(I)Z" } : Jvm.MethodName)) ∈ g_tbl := List.mem_filter.mpr ⟨List.mem_append_right (k2_sels lw_privs) (List.mem_append_right _ (List.mem_append_right _ (List.mem_append_left _ (List.mem_of_getElem? (l := tables_1_3) (i := 101) rfl)))), rfl⟩
theorem k605 : (Jvm.Cond.code ({ cls := "RotationPress$ByteRow", name := "exchange", desc := "(II)I" } : Jvm.MethodName) prog_5_method_6_code (4 : Nat) (Option.some Jvm.ClassFile.FieldType.int)) ∈ g_tbl := List.mem_filter.mpr ⟨List.mem_append_right (k2_sels lw_privs) (List.mem_append_right _ (List.mem_append_right _ (List.mem_append_left _ (List.mem_of_getElem? (l := tables_1_3) (i := 125) rfl)))), rfl⟩
theorem k602 : (Jvm.Cond.methodLink "RotationPress" (74 : Nat) ({ cls := "RotationPress$ByteRow", name := "exchange", desc := "(II)I" } : Jvm.MethodName)) ∈ g_tbl := List.mem_filter.mpr ⟨List.mem_append_right (k2_sels lw_privs) (List.mem_append_right _ (List.mem_append_right _ (List.mem_append_left _ (List.mem_of_getElem? (l := tables_1_3) (i := 122) rfl)))), rfl⟩
theorem k603 : (Jvm.Cond.instanceMethod ({ cls := "RotationPress$ByteRow", name := "exchange", desc := "(II)I" } : Jvm.MethodName)) ∈ g_tbl := List.mem_filter.mpr ⟨List.mem_append_right (k2_sels lw_privs) (List.mem_append_right _ (List.mem_append_right _ (List.mem_append_left _ (List.mem_of_getElem? (l := tables_1_3) (i := 123) rfl)))), rfl⟩
theorem k604 : (Jvm.Cond.selects "RotationPress$ByteRow" ({ cls := "RotationPress$ByteRow", name := "exchange", desc := "(II)I" } : Jvm.MethodName) ({ cls := "RotationPress$ByteRow", name := "exchange", desc := "(II)I" } : Jvm.MethodName)) ∈ g_tbl := List.mem_filter.mpr ⟨List.mem_append_right (k2_sels lw_privs) (List.mem_append_right _ (List.mem_append_right _ (List.mem_append_left _ (List.mem_of_getElem? (l := tables_1_3) (i := 124) rfl)))), rfl⟩
set_option maxRecDepth 100000 in
set_option maxHeartbeats 4000000 in
theorem m_Press_alter {C : gT} (hC : gOk C b_Press_alter R_Press { frames := 2, cells := 0, slots := 0, locals := 44 } 3) (q_a0 : Nat) (q_a0_tape : Nat) (r_a0_made : Nat) (r_a0_packer : Nat) (r_a0_unpacker : Nat) (x_a0_faultPlace : Int32) (x_a0_piecesStand : Int32) (q_a0_tape_bytes : Nat) (x_a0_tape_count : Int32) (n_a0_tape_bytes : Nat) (f_a0_tape_bytes : (Nat → Int32)) (p1 : Int32) (p2 : Int32) (out : (Int32 × (Nat → Int32))) (hf : Press_alter_f p1 x_a0_tape_count p2 f_a0_tape_bytes n_a0_tape_bytes = some out) (kr : ∀ (x : Unit) (o9 : (Int32 × (Nat → Int32))) (pc : Nat) (lv : List (Nat × Value)), o9 = out → decode b_Press_alter pc = .ok (.ireturn, 1) → narrow .int (.int o9.1) = .int o9.1 → gAt C 0 0 [(q_a0, .inr (0, [.ref q_a0_tape, .ref r_a0_made, .ref r_a0_packer, .ref r_a0_unpacker, .int x_a0_faultPlace, .int x_a0_piecesStand])), (q_a0_tape, .inr (4, [.ref q_a0_tape_bytes, .int x_a0_tape_count])), (q_a0_tape_bytes, .inl (g_K C 0, n_a0_tape_bytes, .inl o9.2))] lv pc [.int o9.1]) : gAt C 0 0 [(q_a0, .inr (0, [.ref q_a0_tape, .ref r_a0_made, .ref r_a0_packer, .ref r_a0_unpacker, .int x_a0_faultPlace, .int x_a0_piecesStand])), (q_a0_tape, .inr (4, [.ref q_a0_tape_bytes, .int x_a0_tape_count])), (q_a0_tape_bytes, .inl (g_K C 0, n_a0_tape_bytes, .inl f_a0_tape_bytes))] [(0, .ref q_a0), (1, .int p1), (2, .int p2)] 0 [] := by
  unfold Press_alter_f at hf
  have J32 : Press_alter_J32 = some out → gAt C 0 0 [(q_a0, .inr (0, [.ref q_a0_tape, .ref r_a0_made, .ref r_a0_packer, .ref r_a0_unpacker, .int x_a0_faultPlace, .int x_a0_piecesStand])), (q_a0_tape, .inr (4, [.ref q_a0_tape_bytes, .int x_a0_tape_count])), (q_a0_tape_bytes, .inl (g_K C 0, n_a0_tape_bytes, .inl f_a0_tape_bytes))] [] 32 [] := by
    intro hf
    unfold Press_alter_J32 at hf
    cases hf
  refine g_aload_n 0 hC (j := 0) (hj := rfl) (hd := d_Press_alter_0) ?_
  refine g_get 1 hC i_Press rfl 0 rfl 0 (by decide) k417 rfl d_Press_alter_1 ?_
  refine g_iload_n 4 hC (j := 1) (hj := rfl) (hd := d_Press_alter_4) ?_
  obtain ⟨u1, hu1, hf⟩ := bd_some hf
  refine g_callVi 5 hC (c_ByteRow_has (g_l C) (g_D C) (g_K C) q_a0_tape q_a0_tape_bytes x_a0_tape_count p1 u1 hu1) k584 k2 k581 k582 k583 1 rfl (by decide +kernel) (by decide) [1] [0, 2] [(q_a0, .inr (0, [.ref q_a0_tape, .ref r_a0_made, .ref r_a0_packer, .ref r_a0_unpacker, .int x_a0_faultPlace, .int x_a0_piecesStand])), (q_a0_tape_bytes, .inl (g_K C 0, n_a0_tape_bytes, .inl f_a0_tape_bytes))] rfl rfl rfl rfl rfl 0 4 rfl rfl rfl rfl (Nat.le_of_ble_eq_true rfl) ⟨Nat.le_of_ble_eq_true rfl, Nat.le_of_ble_eq_true rfl⟩ (fun (_ : Unit) => [(q_a0, .inr (0, [.ref q_a0_tape, .ref r_a0_made, .ref r_a0_packer, .ref r_a0_unpacker, .int x_a0_faultPlace, .int x_a0_piecesStand])), (q_a0_tape_bytes, .inl (g_K C 0, n_a0_tape_bytes, .inl f_a0_tape_bytes)), (q_a0_tape, .inr (4, [.ref q_a0_tape_bytes, .int x_a0_tape_count]))]) (fun _ => rfl) d_Press_alter_5 0 0 rfl rfl (fun _ => ?_)
  refine g_if_ne 8 hC 21 (by decide) d_Press_alter_8 (fun c2 => ?_) (fun c2 => ?_)
  · have hf := it_f c2 hf
    refine g_iload_n 21 hC (j := 2) (hj := rfl) (hd := d_Press_alter_21) ?_
    refine g_if_lt 22 hC 32 (by decide) d_Press_alter_22 (fun c3 => ?_) (fun c3 => ?_)
    · have hf := it_t c3 hf
      exact g_re [0, 2, 1] [] rfl rfl rfl (J32 hf)
    · have hf := it_f c3 hf
      refine g_iload_n 25 hC (j := 2) (hj := rfl) (hd := d_Press_alter_25) ?_
      refine g_sipush 26 hC (256 : Int32) (by decide) d_Press_alter_26 ?_
      refine g_icmp_lt 29 hC 42 (by decide) d_Press_alter_29 (fun c4 => ?_) (fun c4 => ?_)
      · have hf := it_t c4 hf
        refine g_aload_n 42 hC (j := 0) (hj := rfl) (hd := d_Press_alter_42) ?_
        refine g_get 43 hC i_Press rfl 0 rfl 0 (by decide) k417 rfl d_Press_alter_43 ?_
        refine g_iload_n 46 hC (j := 1) (hj := rfl) (hd := d_Press_alter_46) ?_
        refine g_iload_n 47 hC (j := 2) (hj := rfl) (hd := d_Press_alter_47) ?_
        obtain ⟨u5, hu5, hf⟩ := bd_some hf
        refine g_callVi 48 hC (c_ByteRow_exchange (g_l C) (g_D C) (g_K C) q_a0_tape q_a0_tape_bytes x_a0_tape_count n_a0_tape_bytes f_a0_tape_bytes p1 p2 u5 hu5) k605 k2 k602 k603 k604 2 rfl (by decide +kernel) (by decide) [2, 1] [0] [(q_a0, .inr (0, [.ref q_a0_tape, .ref r_a0_made, .ref r_a0_packer, .ref r_a0_unpacker, .int x_a0_faultPlace, .int x_a0_piecesStand]))] rfl rfl rfl rfl rfl 0 4 rfl rfl rfl rfl (Nat.le_of_ble_eq_true rfl) ⟨Nat.le_of_ble_eq_true rfl, Nat.le_of_ble_eq_true rfl⟩ (fun (_ : Unit) => [(q_a0, .inr (0, [.ref q_a0_tape, .ref r_a0_made, .ref r_a0_packer, .ref r_a0_unpacker, .int x_a0_faultPlace, .int x_a0_piecesStand])), (q_a0_tape, .inr (4, [.ref q_a0_tape_bytes, .int x_a0_tape_count])), (q_a0_tape_bytes, .inl (g_K C 0, n_a0_tape_bytes, .inl u5.2))]) (fun _ => rfl) d_Press_alter_48 0 0 rfl rfl (fun _ => ?_)
        exact g_re [0, 1, 2] [] rfl rfl rfl (kr () (u5.1, u5.2) 51 [] (Option.some.inj hf) d_Press_alter_51 rfl)
      · have hf := it_f c4 hf
        exact g_re [0, 2, 1] [] rfl rfl rfl (J32 hf)
  · have hf := it_t c2 hf
    cases hf
theorem c_Press_alter (l : Launch) (D : va_G) (K : Nat → ClassId) (q_a0 : Nat) (q_a0_tape : Nat) (r_a0_made : Nat) (r_a0_packer : Nat) (r_a0_unpacker : Nat) (x_a0_faultPlace : Int32) (x_a0_piecesStand : Int32) (q_a0_tape_bytes : Nat) (x_a0_tape_count : Int32) (n_a0_tape_bytes : Nat) (f_a0_tape_bytes : (Nat → Int32)) (p1 : Int32) (p2 : Int32) (out : (Int32 × (Nat → Int32))) (hf : Press_alter_f p1 x_a0_tape_count p2 f_a0_tape_bytes n_a0_tape_bytes = some out) : Ci l D K y_Press_alter (g_wd y_Press_alter b_Press_alter 3 (some .int)) { frames := 2, cells := 0, slots := 0, locals := 44 } [.ref q_a0, .int p1, .int p2] [(q_a0, .inr (0, [.ref q_a0_tape, .ref r_a0_made, .ref r_a0_packer, .ref r_a0_unpacker, .int x_a0_faultPlace, .int x_a0_piecesStand])), (q_a0_tape, .inr (4, [.ref q_a0_tape_bytes, .int x_a0_tape_count])), (q_a0_tape_bytes, .inl (K 0, n_a0_tape_bytes, .inl f_a0_tape_bytes))] (fun (x : Unit) => [(q_a0, .inr (0, [.ref q_a0_tape, .ref r_a0_made, .ref r_a0_packer, .ref r_a0_unpacker, .int x_a0_faultPlace, .int x_a0_piecesStand])), (q_a0_tape, .inr (4, [.ref q_a0_tape_bytes, .int x_a0_tape_count])), (q_a0_tape_bytes, .inl (K 0, n_a0_tape_bytes, .inl out.2))]) out.1 := mk_i (by decide) (Nat.le_of_ble_eq_true rfl) (fun p e s m below meth c A Q hC kr => m_Press_alter hC q_a0 q_a0_tape r_a0_made r_a0_packer r_a0_unpacker x_a0_faultPlace x_a0_piecesStand q_a0_tape_bytes x_a0_tape_count n_a0_tape_bytes f_a0_tape_bytes p1 p2 out hf (fun x o9 pc lv ho => by subst ho; exact kr x pc lv))
