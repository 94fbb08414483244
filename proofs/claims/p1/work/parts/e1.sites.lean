/-! the read-only contract of ByteRow.has; the ten throws of the class -/
def Cp (l : Launch) (D : va_G) (K : Nat → ClassId) (y : MethodName) (wy : List Cond) (rm : Room) (av : List Value) (wr : va_W) (r : Int32) : Prop :=
  ∀ sz : Nat, Met l y wy rm (va_Pc av (fun U => U.heap.size = sz ∧ va_P D vwCl wr U.heap ∧ va_K D vwCl (tyA K) U ∧ va_AO "RotationPress$CodeTable" U)) (va_Qi (fun (r2 : Int32) (_ : Unit) => r2 = r) (fun (_ : Unit) (_ : State) => True) (fun q => sz ≤ q)) rm.cells rm.slots (fun q => sz ≤ q)
theorem mk_p {l : Launch} {D : va_G} {K : Nat → ClassId} {y : MethodName} {rm : Room} {av : List Value} {wr : va_W} {r : Int32} {code : ByteArray} {maxL : Nat} {ty : FieldType} (hy : plainName y.cls = true) (hav : (lg_sl av).length ≤ maxL)
    (body : ∀ (p : Program) (e : Env) (s : State) (m : MethodId) (below : List Frame) (meth : Method) (c : Code) (Q : State → Prop), gOk (p, l, e, rm, s, m, av.toArray, below, meth, c, (fun q => s.heap.size ≤ q), D, K, maxL, Q) code y.cls rm maxL → va_P D vwCl wr s.heap →
      (∀ (pc : Nat) (lv : List (Nat × Value)), decode code pc = .ok (.ireturn, 1) → narrow ty (.int r) = .int r → gAt (p, l, e, rm, s, m, av.toArray, below, meth, c, (fun q => s.heap.size ≤ q), D, K, maxL, Q) rm.cells rm.slots [] lv pc [.int r]) →
      gAt (p, l, e, rm, s, m, av.toArray, below, meth, c, (fun q => s.heap.size ≤ q), D, K, maxL, Q) 0 0 [] (lv_args 0 av) 0 []) : Cp l D K y (g_wd y code maxL (some ty)) rm av wr r := by
  intro sz
  refine Met.ofW (cc := code) (maxL := maxL) (ret := some ty) hy rfl ?_
  intro p e s m args below meth c s₁ B hml hv
  obtain ⟨rfl, hsz, hP, hK, hO⟩ := hv
  subst hsz
  rw [lg_entry_eq]
  refine body p e s m below meth c _ ⟨B.exec, B.bytes, hml, findClass_of_methodNamed B.named, fun w h => atoms_spec (ws := g_wd y code maxL (some ty)) B.pre w (List.mem_cons_of_mem _ h), hK, fun q h => h, rfl, rfl, hO⟩ hP ?_ s.heap [] _ va_P_nil va_D_nil va_S.rf (lv_entry av hav)
  intro pc lv hd hn H locs ls hP2 hD2 hS hl
  exact W.zret (v := r) B.exec B.bytes B.returns hn (fun t ht hW => ⟨⟨r, (), rfl, rfl, trivial⟩, hS.F ht⟩) hS.2.2 hd
theorem g_callVp (pc : Nat) {C : gT} {cc : ByteArray} {own : String} {R0 : Room} {nL k n : Nat} {lv : List (Nat × Value)} {st : List Value} (hC : gOk C cc own R0 nL) (hA : ∀ q, g_A C q → (g_s C).heap.size ≤ q) {wr wc : va_W} (hr : va_P (g_D C) vwCl wr (g_s C).heap) {y : MethodName} {bytes : ByteArray} {maxL index : Nat} {ret : Option FieldType} {rm : Room} {b : Nat} {As : List Value} {r : Int32} {stk : List Value} (hM : Cp (g_l C) (g_D C) (g_K C) y (g_wd y bytes maxL ret) rm (.ref b :: As) wc r) (hm1 : Cond.code y bytes maxL ret ∈ g_tbl) (hm2 : Cond.initialized y.cls ∈ g_tbl) (hm3 : Cond.methodLink own index y ∈ g_tbl) (hm4 : Cond.instanceMethod y ∈ g_tbl) (hm5 : Cond.selects y.cls y y ∈ g_tbl) (na : Nat) (hna : As.length = na) (hdd : y.cls ≠ "java/lang/invoke/MethodHandle" ∧ y.cls ≠ "java/lang/invoke/VarHandle" ∧ (parseMethodDescriptor y.desc).map (fun d => d.parameters.length) = some na) (hR : rm.frames + 1 ≤ R0.frames ∧ 8 + (maxL + 11) + rm.locals ≤ R0.locals) (isC : List Nat) (h1 : isC.map (fun i => wr[i]?) = wc.map some) (q0 ci : Nat) {fs : List Value} {vc : vw_C} (hrc : vwCl[ci]? = some vc) (hcn : vc.1 = y.cls) (hre : wc[q0]? = some (b, .inr (ci, fs))) (hst : stk = As.reverse ++ .ref b :: st) (hro : (st.map fun v => v.category).sum ≤ 8) (hf : k + rm.cells ≤ R0.cells ∧ n + rm.slots ≤ R0.slots) (hd : decode cc pc = .ok (.invokevirtual index, 3)) (k2 n2 : Nat) (hk2 : k + rm.cells = k2) (hs2 : n + rm.slots = n2) (h : gAt C k2 n2 [] lv (pc + 3) (.int r :: st)) : gAt C k n [] lv pc stk := by
  obtain ⟨hx, hb, hml, hown, hts, hK, hA2, hR0, hnL, hO⟩ := hC
  subst hna
  subst hst
  subst hk2
  subst hs2
  intro H locs ls hP hD hS hl
  have hPr : va_P (g_D C) vwCl wr H := P_old hr (fun q hq => hS.2.1 q hq (fun h9 => Nat.lt_irrefl _ (Nat.lt_of_lt_of_le hq (hA q h9))))
  have hPc := va_Psub hPr isC h1
  have hG : GoodIn g_tbl (g_wd y bytes maxL ret) := g_good hm1
  rw [← hR0] at hR hf
  have hF : ∀ q, H.size ≤ q → g_A C q := fun q h9 => hA2 q (Nat.le_trans hS.1 h9)
  refine va_calli (va_runV (C := y.cls) (As := As) (rest := st) (Ts := g_tbl) (own := own) (nL := g_n C) ⟨hx, hb, hml, hown, hts⟩ (hM H.size) ⟨callB_of As.length hts hG rfl rfl rfl (hts _ hm2) (hts _ hm3) hdd hR, hts _ hm4, hts _ hm5⟩ ⟨fun a U g mk q => by obtain ⟨q0, q1, qP, qK, qO⟩ := q; exact ⟨q0, q1, qP, va_K.moved (u := U) (U := U.calling g mk a) (Vm.Alike.refl U.vm) qK, va_AO.moved (u := U) (U := U.calling g mk a) (Vm.Alike.refl U.vm) qO⟩, by obtain ⟨cell, r1, r2, r3⟩ := va_recv hK hPc hrc hre; exact ⟨cell, r1, r2, hcn ▸ r3⟩, fun U hU hW => ⟨rfl, by rw [hU], by rw [hU]; exact hPc, va_K.moved hW.alike hK, va_AO.moved hW.alike hO⟩⟩ rfl rfl hl.1 rfl (lv_room hro) hd hf) hS (fun q _ h => hF q h) hF (fun r2 x t H1 locs1 ht hvm hw hB hz1 hk1 hS1 => ?_)
  subst hw
  exact h H1 locs1 ls va_P_nil va_D_nil hS1 hl

theorem r_has (l : Launch) (D : va_G) (K : Nat → ClassId) (q rb : Nat) (cnt i : Int32) (h : i < 0 ∨ ¬ i < 0 ∧ cnt ≤ i) : Cp l D K y_ByteRow_has (g_wd y_ByteRow_has b_ByteRow_has 2 (some .boolean)) { frames := 0, cells := 0, slots := 0, locals := 0 } [.ref q, .int i] [(q, .inr (4, [.ref rb, .int cnt]))] 0 :=
  mk_p (by decide) (Nat.le_of_ble_eq_true rfl) (fun p e s m below meth c Q hC hr kr => by
    have J17 : gAt (p, l, e, { frames := 0, cells := 0, slots := 0, locals := 0 }, s, m, [Value.ref q, .int i].toArray, below, meth, c, (fun q => s.heap.size ≤ q), D, K, 2, Q) 0 0 [] (lv_args 0 [Value.ref q, .int i]) 16 [] := by
      refine g_iconst 16 hC (0 : Int32) (by decide) d_ByteRow_has_16 ?_
      exact kr 17 _ d_ByteRow_has_17 rfl
    refine g_iload_n 0 hC (j := 1) (hj := rfl) (hd := d_ByteRow_has_0) ?_
    refine g_if_lt 1 hC 16 (by decide) d_ByteRow_has_1 (fun _ => J17) (fun c2 => ?_)
    refine g_iload_n 4 hC (j := 1) (hj := rfl) (hd := d_ByteRow_has_4) ?_
    refine g_aload_n 5 hC (j := 0) (hj := rfl) (hd := d_ByteRow_has_5) ?_
    refine g_rd 6 hC (fun _ h => h) hr i_ByteRow rfl 0 rfl 1 (by decide) k50 rfl d_ByteRow_has_6 ?_
    exact g_icmp_ge 9 hC 16 (by decide) d_ByteRow_has_9 (fun _ => J17) (fun c3 => absurd (h.elim (fun h9 => absurd h9 c2) (fun h9 => h9.2)) c3))
theorem r_has1 (l : Launch) (D : va_G) (K : Nat → ClassId) (q rb : Nat) (cnt i : Int32) (h0 : ¬ i < 0) (h1 : ¬ cnt ≤ i) : Cp l D K y_ByteRow_has (g_wd y_ByteRow_has b_ByteRow_has 2 (some .boolean)) { frames := 0, cells := 0, slots := 0, locals := 0 } [.ref q, .int i] [(q, .inr (4, [.ref rb, .int cnt]))] 1 :=
  mk_p (by decide) (Nat.le_of_ble_eq_true rfl) (fun p e s m below meth c Q hC hr kr => by
    refine g_iload_n 0 hC (j := 1) (hj := rfl) (hd := d_ByteRow_has_0) ?_
    refine g_if_lt 1 hC 16 (by decide) d_ByteRow_has_1 (fun c2 => absurd c2 h0) (fun c2 => ?_)
    refine g_iload_n 4 hC (j := 1) (hj := rfl) (hd := d_ByteRow_has_4) ?_
    refine g_aload_n 5 hC (j := 0) (hj := rfl) (hd := d_ByteRow_has_5) ?_
    refine g_rd 6 hC (fun _ h => h) hr i_ByteRow rfl 0 rfl 1 (by decide) k50 rfl d_ByteRow_has_6 ?_
    refine g_icmp_ge 9 hC 16 (by decide) d_ByteRow_has_9 (fun c3 => absurd c3 h1) (fun c3 => ?_)
    refine g_iconst 12 hC (1 : Int32) (by decide) d_ByteRow_has_12 ?_
    refine g_goto 13 hC 17 (by decide) d_ByteRow_has_13 ?_
    exact kr 17 _ d_ByteRow_has_17 rfl)

theorem kl_ISE : Cond.classLink "RotationPress" 48 "java/lang/IllegalStateException" ∈ g_tbl := by decide +kernel
theorem ki_ISE : Cond.initialized "java/lang/IllegalStateException" ∈ g_tbl := by decide +kernel
theorem kl_IAE : Cond.classLink "RotationPress" 58 "java/lang/IllegalArgumentException" ∈ g_tbl := by decide +kernel
theorem ki_IAE : Cond.initialized "java/lang/IllegalArgumentException" ∈ g_tbl := by decide +kernel
theorem kl_IOB : Cond.classLink "RotationPress" 67 "java/lang/IndexOutOfBoundsException" ∈ g_tbl := by decide +kernel
theorem ki_IOB : Cond.initialized "java/lang/IndexOutOfBoundsException" ∈ g_tbl := by decide +kernel
abbrev rmT : Room := { frames := 6, cells := 1, slots := 6, locals := 90 }
theorem t_feed (l : Launch) (hl : l.stackTraces = false) (D : va_G) (K : Nat → ClassId) (q qt qm qp qu : Nat) (fp ps : Int32) (rb : Nat) (cnt : Int32) (p1 p2 p3 p4 p5 : Int32) (h : ¬ cnt ≤ 10220) : Ct l D K y_Press_feed (g_wd y_Press_feed b_Press_feed 6 (some .int)) rmT [.ref q, .int p1, .int p2, .int p3, .int p4, .int p5] [(q, .inr (0, [.ref qt, .ref qm, .ref qp, .ref qu, .int fp, .int ps])), (qt, .inr (4, [.ref rb, .int cnt]))] "java/lang/IllegalStateException" :=
  mk_t (by decide) (Nat.le_of_ble_eq_true rfl) (fun p e s m below meth c hC hlk hno hT hr => by
    refine g_aload_n 0 hC (j := 0) (hj := rfl) (hd := d_Press_feed_0) ?_
    refine g_rd 1 hC (fun _ h => h) hr i_Press rfl 0 rfl 0 (by decide) k417 rfl d_Press_feed_1 ?_
    refine g_rd 4 hC (fun _ h => h) hr i_ByteRow rfl 1 rfl 1 (by decide) k51 rfl d_Press_feed_4 ?_
    refine g_sipush 7 hC (10220 : Int32) (by decide) d_Press_feed_7 ?_
    refine g_icmp_le 10 hC 23 (by decide) d_Press_feed_10 (fun c1 => absurd c1 h) (fun _ => ?_)
    exact g_throw 13 hC (fun _ h => h) hlk hno hl hT (E := "java/lang/IllegalStateException") (text := "the tape has no room for twenty bytes") (ik := 48) (is := 50) (ic := 52) (by decide +kernel) th_ISE kl_ISE ki_ISE (by decide) d_Press_feed_13 (by decide +kernel) (by decide +kernel) (by decide +kernel) (by decide +kernel) (by decide) (by decide) (Nat.le_refl _) (Nat.le_refl _) (fun t h => h))
theorem t_copy (l : Launch) (hl : l.stackTraces = false) (D : va_G) (K : Nat → ClassId) (q qt qm qp qu : Nat) (fp ps : Int32) (rb : Nat) (cnt : Int32) (h : ¬ cnt ≤ 10240) : Ct l D K y_Press_copy (g_wd y_Press_copy b_Press_copy 1 (some .int)) rmT [.ref q] [(q, .inr (0, [.ref qt, .ref qm, .ref qp, .ref qu, .int fp, .int ps])), (qm, .inr (4, [.ref rb, .int cnt]))] "java/lang/IllegalStateException" :=
  mk_t (by decide) (Nat.le_of_ble_eq_true rfl) (fun p e s m below meth c hC hlk hno hT hr => by
    refine g_aload_n 0 hC (j := 0) (hj := rfl) (hd := d_Press_copy_0) ?_
    refine g_rd 1 hC (fun _ h => h) hr i_Press rfl 0 rfl 1 (by decide) k418 rfl d_Press_copy_1 ?_
    refine g_rd 4 hC (fun _ h => h) hr i_ByteRow rfl 1 rfl 1 (by decide) k51 rfl d_Press_copy_4 ?_
    refine g_sipush 7 hC (10240 : Int32) (by decide) d_Press_copy_7 ?_
    refine g_icmp_le 10 hC 23 (by decide) d_Press_copy_10 (fun c1 => absurd c1 h) (fun _ => ?_)
    exact g_throw 13 hC (fun _ h => h) hlk hno hl hT (E := "java/lang/IllegalStateException") (text := "the out has more bytes than a tape takes") (ik := 48) (is := 78) (ic := 52) (by decide +kernel) th_ISE kl_ISE ki_ISE (by decide) d_Press_copy_13 (by decide +kernel) (by decide +kernel) (by decide +kernel) (by decide +kernel) (by decide) (by decide) (Nat.le_refl _) (Nat.le_refl _) (fun t h => h))
theorem t_end (l : Launch) (hl : l.stackTraces = false) (D : va_G) (K : Nat → ClassId) (q qt qm qp qu : Nat) (fp ps : Int32) (rb : Nat) (cnt : Int32) (p1 : Int32) (h : p1 < 0 ∨ ¬ p1 ≤ cnt) : Ct l D K y_Press_end (g_wd y_Press_end b_Press_end 2 none) rmT [.ref q, .int p1] [(q, .inr (0, [.ref qt, .ref qm, .ref qp, .ref qu, .int fp, .int ps])), (qt, .inr (4, [.ref rb, .int cnt]))] "java/lang/IllegalArgumentException" :=
  mk_t (by decide) (Nat.le_of_ble_eq_true rfl) (fun p e s m below meth c hC hlk hno hT hr => by
    have J : gAt (p, l, e, rmT, s, m, [Value.ref q, .int p1].toArray, below, meth, c, (fun q => s.heap.size ≤ q), D, K, 2, MT below "java/lang/IllegalArgumentException" s rmT.cells rmT.slots) 0 0 [] (lv_args 0 [Value.ref q, .int p1]) 15 [] := by
      exact g_throw 15 hC (fun _ h => h) hlk hno hl hT (E := "java/lang/IllegalArgumentException") (text := "the tape has not so many bytes") (ik := 58) (is := 60) (ic := 62) (by decide +kernel) th_IAE kl_IAE ki_IAE (by decide) d_Press_end_15 (by decide +kernel) (by decide +kernel) (by decide +kernel) (by decide +kernel) (by decide) (by decide) (Nat.le_refl _) (Nat.le_refl _) (fun t h => h)
    refine g_iload_n 0 hC (j := 1) (hj := rfl) (hd := d_Press_end_0) ?_
    refine g_if_lt 1 hC 15 (by decide) d_Press_end_1 (fun _ => J) (fun c1 => ?_)
    refine g_iload_n 4 hC (j := 1) (hj := rfl) (hd := d_Press_end_4) ?_
    refine g_aload_n 5 hC (j := 0) (hj := rfl) (hd := d_Press_end_5) ?_
    refine g_rd 6 hC (fun _ h => h) hr i_Press rfl 0 rfl 0 (by decide) k417 rfl d_Press_end_6 ?_
    refine g_rd 9 hC (fun _ h => h) hr i_ByteRow rfl 1 rfl 1 (by decide) k51 rfl d_Press_end_9 ?_
    exact g_icmp_le 12 hC 25 (by decide) d_Press_end_12 (fun c2 => (h.elim (fun h9 => absurd h9 c1) (fun h9 => absurd c2 h9))) (fun _ => J))
theorem t_pack (l : Launch) (hl : l.stackTraces = false) (D : va_G) (K : Nat → ClassId) (q qt qm qp qu : Nat) (fp ps : Int32) (p1 : Int32) (h : p1 < 1 ∨ ¬ p1 ≤ 9) : Ct l D K y_Press_pack (g_wd y_Press_pack b_Press_pack 2 (some .int)) rmT [.ref q, .int p1] [(q, .inr (0, [.ref qt, .ref qm, .ref qp, .ref qu, .int fp, .int ps]))] "java/lang/IllegalArgumentException" :=
  mk_t (by decide) (Nat.le_of_ble_eq_true rfl) (fun p e s m below meth c hC hlk hno hT hr => by
    have J : gAt (p, l, e, rmT, s, m, [Value.ref q, .int p1].toArray, below, meth, c, (fun q => s.heap.size ≤ q), D, K, 2, MT below "java/lang/IllegalArgumentException" s rmT.cells rmT.slots) 0 0 [] (lv_args 0 [Value.ref q, .int p1]) 11 [] := by
      exact g_throw 11 hC (fun _ h => h) hlk hno hl hT (E := "java/lang/IllegalArgumentException") (text := "a level is 1 .. 9") (ik := 58) (is := 84) (ic := 62) (by decide +kernel) th_IAE kl_IAE ki_IAE (by decide) d_Press_pack_11 (by decide +kernel) (by decide +kernel) (by decide +kernel) (by decide +kernel) (by decide) (by decide) (Nat.le_refl _) (Nat.le_refl _) (fun t h => h)
    refine g_iload_n 0 hC (j := 1) (hj := rfl) (hd := d_Press_pack_0) ?_
    refine g_iconst 1 hC (1 : Int32) (by decide) d_Press_pack_1 ?_
    refine g_icmp_lt 2 hC 11 (by decide) d_Press_pack_2 (fun _ => J) (fun c1 => ?_)
    refine g_iload_n 5 hC (j := 1) (hj := rfl) (hd := d_Press_pack_5) ?_
    refine g_bipush 6 hC (9 : Int32) (by decide) d_Press_pack_6 ?_
    exact g_icmp_le 8 hC 21 (by decide) d_Press_pack_8 (fun c2 => (h.elim (fun h9 => absurd h9 c1) (fun h9 => absurd c2 h9))) (fun _ => J))
theorem t_unpack (l : Launch) (hl : l.stackTraces = false) (D : va_G) (K : Nat → ClassId) (q qt qm qp qu : Nat) (fp ps : Int32) (p1 : Int32) (h : p1 < 0 ∨ ¬ p1 ≤ 60000) : Ct l D K y_Press_unpack (g_wd y_Press_unpack b_Press_unpack 3 (some .int)) rmT [.ref q, .int p1] [(q, .inr (0, [.ref qt, .ref qm, .ref qp, .ref qu, .int fp, .int ps]))] "java/lang/IllegalArgumentException" :=
  mk_t (by decide) (Nat.le_of_ble_eq_true rfl) (fun p e s m below meth c hC hlk hno hT hr => by
    have J : gAt (p, l, e, rmT, s, m, [Value.ref q, .int p1].toArray, below, meth, c, (fun q => s.heap.size ≤ q), D, K, 3, MT below "java/lang/IllegalArgumentException" s rmT.cells rmT.slots) 0 0 [] (lv_args 0 [Value.ref q, .int p1]) 10 [] := by
      exact g_throw 10 hC (fun _ h => h) hlk hno hl hT (E := "java/lang/IllegalArgumentException") (text := "a limit is 0 .. 60000") (ik := 58) (is := 93) (ic := 62) (by decide +kernel) th_IAE kl_IAE ki_IAE (by decide) d_Press_unpack_10 (by decide +kernel) (by decide +kernel) (by decide +kernel) (by decide +kernel) (by decide) (by decide) (Nat.le_refl _) (Nat.le_refl _) (fun t h => h)
    refine g_iload_n 0 hC (j := 1) (hj := rfl) (hd := d_Press_unpack_0) ?_
    refine g_if_lt 1 hC 10 (by decide) d_Press_unpack_1 (fun _ => J) (fun c1 => ?_)
    refine g_iload_n 4 hC (j := 1) (hj := rfl) (hd := d_Press_unpack_4) ?_
    refine g_ldc 5 hC (60000 : Int32) k1073 d_Press_unpack_5 ?_
    exact g_icmp_le 7 hC 20 (by decide) d_Press_unpack_7 (fun c2 => (h.elim (fun h9 => absurd h9 c1) (fun h9 => absurd c2 h9))) (fun _ => J))
theorem t_piece (l : Launch) (hl : l.stackTraces = false) (D : va_G) (K : Nat → ClassId) (q qt qm qp qu : Nat) (fp ps : Int32) (p1 p2 : Int32) (h : p1 < 0 ∨ ¬ p1 < 11) : Ct l D K y_Press_piece (g_wd y_Press_piece b_Press_piece 3 (some .int)) rmT [.ref q, .int p1, .int p2] [(q, .inr (0, [.ref qt, .ref qm, .ref qp, .ref qu, .int fp, .int ps]))] "java/lang/IllegalArgumentException" :=
  mk_t (by decide) (Nat.le_of_ble_eq_true rfl) (fun p e s m below meth c hC hlk hno hT hr => by
    have J : gAt (p, l, e, rmT, s, m, [Value.ref q, .int p1, .int p2].toArray, below, meth, c, (fun q => s.heap.size ≤ q), D, K, 3, MT below "java/lang/IllegalArgumentException" s rmT.cells rmT.slots) 0 0 [] (lv_args 0 [Value.ref q, .int p1, .int p2]) 10 [] := by
      exact g_throw 10 hC (fun _ h => h) hlk hno hl hT (E := "java/lang/IllegalArgumentException") (text := "a piece is 0 .. 10") (ik := 58) (is := 116) (ic := 62) (by decide +kernel) th_IAE kl_IAE ki_IAE (by decide) d_Press_piece_10 (by decide +kernel) (by decide +kernel) (by decide +kernel) (by decide +kernel) (by decide) (by decide) (Nat.le_refl _) (Nat.le_refl _) (fun t h => h)
    refine g_iload_n 0 hC (j := 1) (hj := rfl) (hd := d_Press_piece_0) ?_
    refine g_if_lt 1 hC 10 (by decide) d_Press_piece_1 (fun _ => J) (fun c1 => ?_)
    refine g_iload_n 4 hC (j := 1) (hj := rfl) (hd := d_Press_piece_4) ?_
    refine g_bipush 5 hC (11 : Int32) (by decide) d_Press_piece_5 ?_
    exact g_icmp_lt 7 hC 20 (by decide) d_Press_piece_7 (fun c2 => (h.elim (fun h9 => absurd h9 c1) (fun h9 => absurd c2 h9))) (fun _ => J))
theorem t_about (l : Launch) (hl : l.stackTraces = false) (D : va_G) (K : Nat → ClassId) (q qt qm qp qu : Nat) (fp ps : Int32) (p1 : Int32) (h : p1 < 0 ∨ ¬ p1 < 8) : Ct l D K y_Press_about (g_wd y_Press_about b_Press_about 2 (some .int)) rmT [.ref q, .int p1] [(q, .inr (0, [.ref qt, .ref qm, .ref qp, .ref qu, .int fp, .int ps]))] "java/lang/IllegalArgumentException" :=
  mk_t (by decide) (Nat.le_of_ble_eq_true rfl) (fun p e s m below meth c hC hlk hno hT hr => by
    have J : gAt (p, l, e, rmT, s, m, [Value.ref q, .int p1].toArray, below, meth, c, (fun q => s.heap.size ≤ q), D, K, 2, MT below "java/lang/IllegalArgumentException" s rmT.cells rmT.slots) 0 0 [] (lv_args 0 [Value.ref q, .int p1]) 10 [] := by
      exact g_throw 10 hC (fun _ h => h) hlk hno hl hT (E := "java/lang/IllegalArgumentException") (text := "what is told is 0 .. 7") (ik := 58) (is := 127) (ic := 62) (by decide +kernel) th_IAE kl_IAE ki_IAE (by decide) d_Press_about_10 (by decide +kernel) (by decide +kernel) (by decide +kernel) (by decide +kernel) (by decide) (by decide) (Nat.le_refl _) (Nat.le_refl _) (fun t h => h)
    refine g_iload_n 0 hC (j := 1) (hj := rfl) (hd := d_Press_about_0) ?_
    refine g_if_lt 1 hC 10 (by decide) d_Press_about_1 (fun _ => J) (fun c1 => ?_)
    refine g_iload_n 4 hC (j := 1) (hj := rfl) (hd := d_Press_about_4) ?_
    refine g_bipush 5 hC (8 : Int32) (by decide) d_Press_about_5 ?_
    exact g_icmp_lt 7 hC 20 (by decide) d_Press_about_7 (fun c2 => (h.elim (fun h9 => absurd h9 c1) (fun h9 => absurd c2 h9))) (fun _ => J))
theorem t_out (l : Launch) (hl : l.stackTraces = false) (D : va_G) (K : Nat → ClassId) (q qt qm qp qu : Nat) (fp ps : Int32) (rb : Nat) (cnt : Int32) (p1 : Int32) (h : p1 < 0 ∨ ¬ p1 < 0 ∧ cnt ≤ p1) : Ct l D K y_Press_out (g_wd y_Press_out b_Press_out 2 (some .int)) rmT [.ref q, .int p1] [(q, .inr (0, [.ref qt, .ref qm, .ref qp, .ref qu, .int fp, .int ps])), (qm, .inr (4, [.ref rb, .int cnt]))] "java/lang/IndexOutOfBoundsException" :=
  mk_t (by decide) (Nat.le_of_ble_eq_true rfl) (fun p e s m below meth c hC hlk hno hT hr => by
    refine g_aload_n 0 hC (j := 0) (hj := rfl) (hd := d_Press_out_0) ?_
    refine g_rd 1 hC (fun _ h => h) hr i_Press rfl 0 rfl 1 (by decide) k418 rfl d_Press_out_1 ?_
    refine g_iload_n 4 hC (j := 1) (hj := rfl) (hd := d_Press_out_4) ?_
    refine g_callVp 5 hC (fun _ h => h) hr (r_has l D K qm rb cnt p1 h) k584 k2 k581 k582 k583 1 rfl (by decide +kernel) (by decide) [1] rfl 0 4 rfl rfl rfl rfl (Nat.le_of_ble_eq_true rfl) (by decide) d_Press_out_5 0 0 rfl rfl ?_
    refine g_if_ne 8 hC 21 (by decide) d_Press_out_8 (fun c1 => absurd rfl c1) (fun _ => ?_)
    exact g_throw 11 hC (fun _ h => h) hlk hno hl hT (E := "java/lang/IndexOutOfBoundsException") (text := "the out has no such byte") (ik := 67) (is := 110) (ic := 71) (by decide +kernel) th_IOB kl_IOB ki_IOB (by decide) d_Press_out_11 (by decide +kernel) (by decide +kernel) (by decide +kernel) (by decide +kernel) (by decide) (by decide) (Nat.le_refl _) (Nat.le_refl _) (fun t h => h))
theorem t_alter (l : Launch) (hl : l.stackTraces = false) (D : va_G) (K : Nat → ClassId) (q qt qm qp qu : Nat) (fp ps : Int32) (rb : Nat) (cnt : Int32) (p1 p2 : Int32) (h : p1 < 0 ∨ ¬ p1 < 0 ∧ cnt ≤ p1) : Ct l D K y_Press_alter (g_wd y_Press_alter b_Press_alter 3 (some .int)) rmT [.ref q, .int p1, .int p2] [(q, .inr (0, [.ref qt, .ref qm, .ref qp, .ref qu, .int fp, .int ps])), (qt, .inr (4, [.ref rb, .int cnt]))] "java/lang/IndexOutOfBoundsException" :=
  mk_t (by decide) (Nat.le_of_ble_eq_true rfl) (fun p e s m below meth c hC hlk hno hT hr => by
    refine g_aload_n 0 hC (j := 0) (hj := rfl) (hd := d_Press_alter_0) ?_
    refine g_rd 1 hC (fun _ h => h) hr i_Press rfl 0 rfl 0 (by decide) k417 rfl d_Press_alter_1 ?_
    refine g_iload_n 4 hC (j := 1) (hj := rfl) (hd := d_Press_alter_4) ?_
    refine g_callVp 5 hC (fun _ h => h) hr (r_has l D K qt rb cnt p1 h) k584 k2 k581 k582 k583 1 rfl (by decide +kernel) (by decide) [1] rfl 0 4 rfl rfl rfl rfl (Nat.le_of_ble_eq_true rfl) (by decide) d_Press_alter_5 0 0 rfl rfl ?_
    refine g_if_ne 8 hC 21 (by decide) d_Press_alter_8 (fun c1 => absurd rfl c1) (fun _ => ?_)
    exact g_throw 11 hC (fun _ h => h) hlk hno hl hT (E := "java/lang/IndexOutOfBoundsException") (text := "the tape has no such byte") (ik := 67) (is := 69) (ic := 71) (by decide +kernel) th_IOB kl_IOB ki_IOB (by decide) d_Press_alter_11 (by decide +kernel) (by decide +kernel) (by decide +kernel) (by decide +kernel) (by decide) (by decide) (Nat.le_refl _) (Nat.le_refl _) (fun t h => h))
theorem t_alter2 (l : Launch) (hl : l.stackTraces = false) (D : va_G) (K : Nat → ClassId) (q qt qm qp qu : Nat) (fp ps : Int32) (rb : Nat) (cnt : Int32) (p1 p2 : Int32) (h0 : ¬ p1 < 0) (h1 : ¬ cnt ≤ p1) (h : p2 < 0 ∨ ¬ p2 < 256) : Ct l D K y_Press_alter (g_wd y_Press_alter b_Press_alter 3 (some .int)) rmT [.ref q, .int p1, .int p2] [(q, .inr (0, [.ref qt, .ref qm, .ref qp, .ref qu, .int fp, .int ps])), (qt, .inr (4, [.ref rb, .int cnt]))] "java/lang/IllegalArgumentException" :=
  mk_t (by decide) (Nat.le_of_ble_eq_true rfl) (fun p e s m below meth c hC hlk hno hT hr => by
    have J : gAt (p, l, e, rmT, s, m, [Value.ref q, .int p1, .int p2].toArray, below, meth, c, (fun q => s.heap.size ≤ q), D, K, 3, MT below "java/lang/IllegalArgumentException" s rmT.cells rmT.slots) 0 0 [] (lv_args 0 [Value.ref q, .int p1, .int p2]) 32 [] := by
      exact g_throw 32 hC (fun _ h => h) hlk hno hl hT (E := "java/lang/IllegalArgumentException") (text := "a byte is 0 .. 255") (ik := 58) (is := 72) (ic := 62) (by decide +kernel) th_IAE kl_IAE ki_IAE (by decide) d_Press_alter_32 (by decide +kernel) (by decide +kernel) (by decide +kernel) (by decide +kernel) (by decide) (by decide) (Nat.le_refl _) (Nat.le_refl _) (fun t h => h)
    refine g_aload_n 0 hC (j := 0) (hj := rfl) (hd := d_Press_alter_0) ?_
    refine g_rd 1 hC (fun _ h => h) hr i_Press rfl 0 rfl 0 (by decide) k417 rfl d_Press_alter_1 ?_
    refine g_iload_n 4 hC (j := 1) (hj := rfl) (hd := d_Press_alter_4) ?_
    refine g_callVp 5 hC (fun _ h => h) hr (r_has1 l D K qt rb cnt p1 h0 h1) k584 k2 k581 k582 k583 1 rfl (by decide +kernel) (by decide) [1] rfl 0 4 rfl rfl rfl rfl (Nat.le_of_ble_eq_true rfl) (by decide) d_Press_alter_5 0 0 rfl rfl ?_
    refine g_if_ne 8 hC 21 (by decide) d_Press_alter_8 (fun _ => ?_) (fun c1 => absurd c1 (by decide))
    refine g_iload_n 21 hC (j := 2) (hj := rfl) (hd := d_Press_alter_21) ?_
    refine g_if_lt 22 hC 32 (by decide) d_Press_alter_22 (fun _ => J) (fun c1 => ?_)
    refine g_iload_n 25 hC (j := 2) (hj := rfl) (hd := d_Press_alter_25) ?_
    refine g_sipush 26 hC (256 : Int32) (by decide) d_Press_alter_26 ?_
    exact g_icmp_lt 29 hC 42 (by decide) d_Press_alter_29 (fun c2 => (h.elim (fun h9 => absurd h9 c1) (fun h9 => absurd c2 h9))) (fun _ => J))
