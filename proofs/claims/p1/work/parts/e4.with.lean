/-! CONTRACTS OF METHODS WITH HANDLERS, whose calls may throw; their call -/
def CiT (l : Launch) (D : va_G) (K : Nat → ClassId) (y : MethodName) (wy : List Cond) (rm : Room) (av : List Value) (wi : va_W) {X : Type} (wo : X → va_W) (po : Int32 → Prop) : Prop :=
  ∀ sz : Nat, Met l y wy rm (va_Pc av (fun U => U.heap.size = sz ∧ va_P D vwCl wi U.heap ∧ va_K D vwCl (tyA K) U ∧ va_D (fun _ => True) wi ∧ va_AO "RotationPress$CodeTable" U ∧ TS U)) (va_Qi (fun (r2 : Int32) (_ : X) => po r2) (fun (x : X) (t : State) => va_P D vwCl (wo x) t.heap ∧ va_D (va_A wi sz) (wo x)) (va_A wi sz)) rm.cells rm.slots (va_A wi sz)
abbrev g_wdW (y : MethodName) (code : ByteArray) (maxL : Nat) (ret : Option FieldType) (hh : List (Nat × Nat × Nat × Nat)) : List Cond := Cond.codeWith y code maxL ret hh :: g_tbl
theorem mk_iT {l : Launch} {D : va_G} {K : Nat → ClassId} {y : MethodName} {rm : Room} {av : List Value} {wi : va_W} {X : Type} {wo : X → va_W} {po : Int32 → Prop} {code : ByteArray} {maxL : Nat} {hh : List (Nat × Nat × Nat × Nat)} (hy : plainName y.cls = true) (hav : (lg_sl av).length ≤ maxL)
    (body : ∀ (p : Program) (e : Env) (s : State) (m : MethodId) (below : List Frame) (meth : Method) (c : Code) (A : Nat → Prop) (Q : State → Prop), gOk (p, l, e, rm, s, m, av.toArray, below, meth, c, A, D, K, maxL, Q) code y.cls rm maxL → gTs (p, l, e, rm, s, m, av.toArray, below, meth, c, A, D, K, maxL, Q) → c.exceptionTable.toList = tableOf hh →
      (∀ (x : X) (r : Int32) (pc : Nat) (lv : List (Nat × Value)), po r → decode code pc = .ok (.ireturn, 1) → gAt (p, l, e, rm, s, m, av.toArray, below, meth, c, A, D, K, maxL, Q) rm.cells rm.slots (wo x) lv pc [.int r]) →
      gAt (p, l, e, rm, s, m, av.toArray, below, meth, c, A, D, K, maxL, Q) 0 0 wi (lv_args 0 av) 0 []) : CiT l D K y (g_wdW y code maxL (some .int) hh) rm av wi wo po := by
  intro sz
  refine va_MetW (cc := code) (maxL := maxL) (ret := some .int) (hh := hh) hy rfl ?_
  intro p e s m args below meth c s₁ B hml hv
  obtain ⟨rfl, hsz, hP, hK, hD0, hO, hT⟩ := hv
  subst hsz
  have hD := hD0.self (sz := s.heap.size)
  have htab : c.exceptionTable.toList = tableOf hh := by
    obtain ⟨m9, meth9, c9, hn9, h1, h2, h3, h4, h5, -⟩ := Cond.codeWith_spec (atoms_spec (ws := g_wdW y code maxL (some .int) hh) B.pre _ List.mem_cons_self)
    cases B.named.symm.trans hn9
    cases B.method.symm.trans h1
    cases (Stand.of_body B).code.symm.trans h2
    rw [← table_eq c.exceptionTable.toList, h5]
  rw [lg_entry_eq]
  refine body p e s m below meth c (va_A wi s.heap.size) _ ⟨B.exec, B.bytes, hml, findClass_of_methodNamed B.named, fun w h => atoms_spec (ws := g_wdW y code maxL (some .int) hh) B.pre w (List.mem_cons_of_mem _ h), hK, fun q h => Or.inr h, rfl, rfl, hO⟩ (fun U locs hW hS => hT.walk hW hP hS) htab ?_ s.heap [] _ hP hD va_S.rf (lv_entry av hav)
  intro x r pc lv hp hd H locs ls hP hD hS hl
  exact W.zret (v := r) B.exec B.bytes B.returns rfl (fun t ht hW => ⟨⟨r, x, rfl, hp, by rw [ht]; exact hP, hD⟩, hS.F ht⟩) hS.2.2 hd
theorem callSW {p : Program} {l : Launch} {e : Env} {R : Room} {s : State} {m : MethodId} {args : Array Value} {below : List Frame} {meth : Method} {c : Code} {T : State} {locs : List Loc} {cells slots : Nat} (X : Stand p l e R s m args below meth c T locs cells slots) (hexec : p.tables.exec = Jvm.exec) {own : String} {index : Nat} {y : MethodName} {bytes : ByteArray} {maxL : Nat} {ret : Option FieldType} {hh : List (Nat × Nat × Nat × Nat)}
    (hown : s.vm.findClass own = some m.cls) (hlink : (Cond.methodLink own index y).before args s = true) (hstat : (Cond.static y).before args s = true) (hinit : (Cond.initialized y.cls).before args s = true)
    (hcode : (Cond.codeWith y bytes maxL ret hh).before args s = true) (hy : y.cls ≠ "java/lang/invoke/MethodHandle" ∧ y.cls ≠ "java/lang/invoke/VarHandle")
    {W : Nat} {Pre : Jvm.Free.Pt → Array Value → Prop} {Post : Jvm.Free.Pt → Array Value → Option Value → Jvm.Free.Pt → Prop} (hK : Jvm.Free.Back l R p e below s args y 3 W Pre Post)
    {g : JFrame} (hg : g.method = m) (hsize : g.locals.size = c.maxLocals) {argsL rest : List Value} (hlen : ∀ sig, parseMethodDescriptor y.desc = some sig → argsL.length = sig.parameters.length)
    (hstack : g.stack = argsL.reverse ++ rest) (hW : 2 * g.monitorRoom + (rest.map fun v => v.category).sum ≤ W) (hdg : decode c.code g.pc = .ok (.invokestatic index, 3))
    (hpre : ∀ vm₁, s.WarmedH vm₁ → Pre ⟨T.setVm vm₁, locs, cells, slots⟩ argsL.toArray) :
    ∃ (v : Option Value) (vm₁ : Vm) (B : Jvm.Free.Pt), s.WarmedH vm₁ ∧ Stand p l e R s m args below meth c B.U B.locs B.cells B.slots ∧ Post ⟨T.setVm vm₁, locs, cells, slots⟩ argsL.toArray v B ∧
      ∀ target, Steps p.tables e below (B.U.setTop { g with pc := g.pc + 3, stack := v.toList ++ rest }) target → Steps p.tables e below (T.setTop g) target := by
  obtain ⟨mk, methM, cM, hnamed, hmethM, -, -, -, -, -, -, hsigM⟩ := Cond.codeWith_spec hcode
  have hstatic : methM.isStatic = true := Cond.static_spec hnamed hmethM hstat
  obtain ⟨kP, hkP, -⟩ := className_of_methodNamed hnamed
  have hinitP : kP.init = .initialized := Cond.initialized_spec (findClass_of_methodNamed hnamed) hkP hinit
  obtain ⟨vm₁, X₁, hstep₁⟩ := X.invokestatic hexec hown hlink hnamed hmethM hstatic hkP hinitP hy (g := g) hg (argsL := argsL) (rest := rest) (hlen _ hsigM) hstack hdg
  obtain ⟨v, B, X', hpost, hsteps⟩ := hK m meth c ⟨T.setVm vm₁, locs, cells, slots⟩ { g with stack := rest } (.invokestatic index) mk argsL.toArray X₁ hg hsize hdg hW (X₁.named hnamed) (hpre vm₁ X₁.warmed)
  exact ⟨v, vm₁, B, X₁.warmed, X', hpost, fun target h => hstep₁ _ fun acts => by rw [doInvoke_state]; exact hsteps.trans h⟩
theorem g_goodW {y : MethodName} {bytes : ByteArray} {maxL : Nat} {ret : Option FieldType} {hh : List (Nat × Nat × Nat × Nat)} (h : Cond.codeWith y bytes maxL ret hh ∈ g_tbl) : GoodIn g_tbl (g_wdW y bytes maxL ret hh) := by
  intro w hw
  have hin : w ∈ g_tbl := by
    rcases List.mem_cons.mp hw with h2 | h2
    · rw [h2]; exact h
    · exact h2
  exact ⟨hin, good_of_word (g_ok w hin)⟩
theorem g_callST (pc : Nat) {C : gT} {cc : ByteArray} {own : String} {R0 : Room} {nL k n : Nat} {ws : va_W} {lv : List (Nat × Value)} {st : List Value} (hC : gOk C cc own R0 nL) (hTs : gTs C) {y : MethodName} {bytes : ByteArray} {maxL index : Nat} {hh : List (Nat × Nat × Nat × Nat)} {rm : Room} {As : List Value} {wi : va_W} {X : Type} {wo : X → va_W} {po : Int32 → Prop} {stk : List Value} (hM : CiT (g_l C) (g_D C) (g_K C) y (g_wdW y bytes maxL (some .int) hh) rm As wi wo po) (hm1 : Cond.codeWith y bytes maxL (some .int) hh ∈ g_tbl) (hm2 : Cond.initialized y.cls ∈ g_tbl) (hm3 : Cond.methodLink own index y ∈ g_tbl) (hm4 : Cond.static y ∈ g_tbl) (na : Nat) (hna : As.length = na) (hdd : y.cls ≠ "java/lang/invoke/MethodHandle" ∧ y.cls ≠ "java/lang/invoke/VarHandle" ∧ (parseMethodDescriptor y.desc).map (fun d => d.parameters.length) = some na) (hR : rm.frames + 1 ≤ R0.frames ∧ 8 + (maxL + 11) + rm.locals ≤ R0.locals) (isC isR : List Nat) (wr : va_W) (hn1 : va_nd isC = true) (h1 : isC.map (fun i => ws[i]?) = wi.map some) (hn2 : va_nd isR = true) (h2 : isR.map (fun i => ws[i]?) = wr.map some) (hdis : isR.all (fun i => !isC.contains i) = true) (hst : stk = As.reverse ++ st) (hro : (st.map fun v => v.category).sum ≤ 8) (hf : k + rm.cells ≤ R0.cells ∧ n + rm.slots ≤ R0.slots) (w2 : X → va_W) (hw2 : ∀ x, wr ++ wo x = w2 x) (hd : decode cc pc = .ok (.invokestatic index, 3)) (k2 n2 : Nat) (hk2 : k + rm.cells = k2) (hs2 : n + rm.slots = n2) (h : ∀ (x : X) (r : Int32), po r → gAt C k2 n2 (w2 x) lv (pc + 3) (.int r :: st)) : gAt C k n ws lv pc stk := by
  obtain ⟨hx, hb, hml, hown, hts, hK, hA, hR0, hnL, hO⟩ := hC
  subst hna
  subst hst
  subst hk2
  subst hs2
  intro H locs ls hP hD hS hl
  have hPc := va_Psub hP isC h1
  have hDc := hD.sub isC hn1 h1
  have hFc := va_free (wc := wi) hD hS hA isC h1
  have hdis2 : ∀ i ∈ isR, i ∉ isC := fun i hi hc => by have h9 := List.all_eq_true.mp hdis i hi; simp [hc] at h9
  have hG : GoodIn g_tbl (g_wdW y bytes maxL (some .int) hh) := g_goodW hm1
  rw [← hR0] at hR hf
  have hbl : FrameBlind (va_Pc As (fun U => U.heap.size = H.size ∧ va_P (g_D C) vwCl wi U.heap ∧ va_K (g_D C) vwCl (tyA (g_K C)) U ∧ va_D (fun _ => True) wi ∧ va_AO "RotationPress$CodeTable" U ∧ TS U)) := fun a U g mk q => by
    obtain ⟨q0, q1, qP, qK, qD, qO, qT⟩ := q
    exact ⟨q0, q1, qP, va_K.moved (u := U) (U := U.calling g mk a) (Vm.Alike.refl U.vm) qK, qD, va_AO.moved (u := U) (U := U.calling g mk a) (Vm.Alike.refl U.vm) qO, qT.same rfl rfl⟩
  have hlen : ∀ sig, parseMethodDescriptor y.desc = some sig → As.length = sig.parameters.length := fun sig h9 => by
    have h8 := hdd.2.2
    rw [h9] at h8
    exact (Option.some.inj h8).symm
  have hBK : Jvm.Free.Back (g_l C) (g_R C) (g_p C) (g_e C) (g_b C) (g_s C) (g_a C) y 3 8 _ _ := va_backW (hh := hh) (bytes := bytes) (maxL := maxL) (ret := some .int) (hM H.size) hbl rfl rfl hR.1 hR.2 (pay_in hts hG) List.mem_cons_self (fun a' U hW => word_at hW (Or.inl (by first | rfl | simp [Cond.onTables, Cond.keeps, Cond.steady])) (hts _ hm2))
  have hrun : va_Run (g_p C) (g_l C) (g_e C) (g_R C) (g_s C) (g_m C) (g_a C) (g_b C) (g_me C) (g_c C) H locs k n rm.cells rm.slots (F0 (g_m C) pc ls (As.reverse ++ st)) st (va_Qi (fun (r2 : Int32) (_ : X) => po r2) (fun (x : X) (t : State) => va_P (g_D C) vwCl (wo x) t.heap ∧ va_D (va_A wi H.size) (wo x)) (va_A wi H.size) As.toArray) (va_A wi H.size) := by
    intro T hT X
    obtain ⟨v, vm₁, ⟨U', l2, c2, s2⟩, hW₁, X', ⟨g', mk, t, L, e1, e2, hq, g1, hL, g2, g3⟩, st9⟩ := callSW X hx (bytes := bytes) (maxL := maxL) (ret := some .int) (hh := hh) hown (hts _ hm3) (hts _ hm4) (hts _ hm2) (hts _ hm1) ⟨hdd.1, hdd.2.1⟩ hBK (g := F0 (g_m C) pc ls (As.reverse ++ st)) rfl (hl.1.trans hml.symm) (argsL := As) (rest := st) hlen rfl (lv_room hro) (by rw [hb]; exact hd)
      (fun vm₁ hW₁ => ⟨hf.1, hf.2, rfl, by show T.heap.size = _; rw [hT], by show va_P _ _ _ T.heap; rw [hT]; exact hPc, va_K.moved hW₁.alike hK, hDc.weaken (fun _ _ _ _ => trivial), va_AO.moved hW₁.alike hO, hTs (T.setVm vm₁) locs hW₁ (by show va_S _ _ T.heap _; rw [hT]; exact hS)⟩)
    dsimp only [Jvm.Free.Pt.U, Jvm.Free.Pt.locs, Jvm.Free.Pt.cells, Jvm.Free.Pt.slots] at X' e1 e2 g1 g2 g3 st9
    subst g1; subst g2; subst g3
    exact ⟨v, (T.setVm vm₁).calling g' mk As.toArray, t, U', L, hT, X', hL, e1, e2, hq, st9⟩
  refine va_calli hrun hS (fun q _ h => hFc q h) hFc (fun r2 x t H1 locs1 ht hvm hw hB hz1 hk1 hS1 => ?_)
  obtain ⟨hP1, hD1⟩ := hB
  rw [ht] at hP1
  obtain ⟨hP2, hD2⟩ := va_join hP hD isC isR h1 h2 hn2 hdis2 hk1 hFc hP1 hD1
  rw [hw2] at hP2 hD2
  exact h x r2 hw H1 locs1 ls hP2 hD2 hS1 hl
theorem g_last (pc : Nat) {C : gT} {cc : ByteArray} {own : String} {R0 : Room} {nL k n : Nat} {ws : va_W} {lv : List (Nat × Value)} {st : List Value} (hC : gOk C cc own R0 nL) (q0 : Nat) {a N : Nat} {f : Nat → Int64} (ha : ws[q0]? = some (a, .inl (g_K C 2, N, .inr (.inl f)))) {i : Int32} {x : Int64} (hi : ix i N = true) (hd : decode cc pc = .ok (.lastore, 1)) (ws2 : va_W) (hs2 : ws.set q0 (a, .inl (g_K C 2, N, .inr (.inl (vp_updL f i.toNatClampNeg x)))) = ws2) (h : gAt C k n ws2 lv (pc + 1) st) : gAt C k n ws lv pc (.long x :: .int i :: .ref a :: st) :=
  fun H locs ls hP hD hS hl => va_last hC.1 hC.2.1 hC.2.2.2.2.2.1 hP hD hS q0 2 ha rfl (ix_in hi) hd (fun H1 locs1 hP1 hD1 hS1 => h H1 locs1 ls (hs2 ▸ hP1) (hs2 ▸ hD1) hS1 hl)
theorem g_lald (pc : Nat) {C : gT} {cc : ByteArray} {own : String} {R0 : Room} {nL k n : Nat} {ws : va_W} {lv : List (Nat × Value)} {st : List Value} (hC : gOk C cc own R0 nL) (q0 : Nat) {a N : Nat} {f : Nat → Int64} (ha : ws[q0]? = some (a, .inl (g_K C 2, N, .inr (.inl f)))) {i : Int32} (hi : ix i N = true) (hd : decode cc pc = .ok (.laload, 1)) (h : gAt C k n ws lv (pc + 1) (.long (f i.toNatClampNeg) :: st)) : gAt C k n ws lv pc (.int i :: .ref a :: st) :=
  fun H locs ls hP hD hS hl => va_lald hC.1 hC.2.1 hC.2.2.2.2.2.1 hP q0 2 ha rfl (ix_in hi) hd (h H locs ls hP hD hS hl)
