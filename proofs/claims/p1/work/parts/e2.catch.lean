/-! A CALL THAT THROWS, AND THE CALLER's HANDLER -/
def PostT (Qc : Array Value → State → Outcome → State → Prop) (mc ms : Nat) (free : Addr → Prop) : Jvm.Free.Pt → Array Value → Addr → Jvm.Free.Pt → Prop := fun A a v B =>
  ∃ (g : JFrame) (mk : MethodId) (t : State) (L : List Loc), B.U.heap = t.heap ∧ B.U.vm = t.vm ∧ Qc a (A.U.calling g mk a) (.threw v) t ∧ B.locs = A.locs ++ L ∧ (∀ q ∈ L, free q.base) ∧ B.cells = A.cells + mc ∧ B.slots = A.slots + ms
theorem backT_of {l : Launch} {R : Room} {p : Program} {e : Env} {below : List Frame} {s : State} {sargs : Array Value} {y : MethodName} {len W : Nat} {ws : List Cond} {rm : Room} {Pc : Array Value → State → Prop} {Qc : Array Value → State → Outcome → State → Prop} {mc ms : Nat} {free : Addr → Prop} {bytes : ByteArray} {maxL : Nat} {ret : Option FieldType}
    (hM : Jvm.Free.MetFree l y (headSpec ws rm) Pc (fun _ _ _ _ _ => True) (fun a st o t => Qc a st o t ∧ ∃ L, Jvm.Free.FrameEndT st o t L mc ms ∧ ∀ q ∈ L, free q.base)) (hblind : FrameBlind Pc) (hrc : rm.cells = mc) (hrs : rm.slots = ms)
    (hframes : rm.frames + 1 ≤ R.frames) (hlocals : W + (maxL + 11) + rm.locals ≤ R.locals)
    (hws : ∀ w ∈ ws, ∀ a' U, s.WarmedH U.vm → w.before a' U = true) (hcode : Cond.code y bytes maxL ret ∈ ws) (hinit : ∀ a' U, s.WarmedH U.vm → (Cond.initialized y.cls).before a' U = true) :
    Jvm.Free.BackT l R p e below s sargs y len W (PreOf R mc ms Pc) (PostT Qc mc ms free) := by
  refine Jvm.Free.BackT.of_free (S := headSpec ws rm) (P := Pc) (K := fun _ _ _ _ _ => True) (Q := fun a st o t => Qc a st o t ∧ ∃ L, Jvm.Free.FrameEndT st o t L mc ms ∧ ∀ q ∈ L, free q.base) (bytes := bytes) (maxL := maxL) (ret := ret)
    (E := fun a st o t L k n => k = mc ∧ n = ms ∧ ∀ q ∈ L, free q.base) hM hframes hlocals ?_ ?_ (fun _ _ _ _ _ _ _ _ _ => trivial) ?_ ?_
  · intro m meth c A a X hp
    exact ⟨atoms_intro fun w hw => hws w hw _ _ X.warmed, hws _ hcode _ _ X.warmed, hinit _ _ X.warmed, by rw [show (headSpec ws rm).room.cells = mc from hrc]; exact hp.1, by rw [show (headSpec ws rm).room.slots = ms from hrs]; exact hp.2.1⟩
  · intro m meth c A a g mk X hp
    exact hblind _ _ _ _ hp.2.2
  · intro a st o t ⟨hq, L, hF, hL⟩
    exact ⟨L, mc, ms, hF, rfl, rfl, hL⟩
  · intro m meth c A a g mk v t L k n X hp hq hF ⟨e1, e2, hL⟩
    subst e1; subst e2
    exact ⟨g, mk, t, L, rfl, rfl, hq.1, rfl, hL, rfl, rfl⟩
theorem callVt {p : Program} {l : Launch} {e : Env} {R : Room} {s : State} {m : MethodId} {args : Array Value} {below : List Frame} {meth : Method} {c : Code} {T : State} {locs : List Loc} {cells slots : Nat} (X : Stand p l e R s m args below meth c T locs cells slots) (hexec : p.tables.exec = Jvm.exec) {own C : String} {index : Nat} {y : MethodName} {bytes : ByteArray} {maxL : Nat} {ret : Option FieldType}
    (hown : s.vm.findClass own = some m.cls) (hlink : (Cond.methodLink own index y).before args s = true) (hinst : (Cond.instanceMethod y).before args s = true) (hsel : (Cond.selects C y y).before args s = true)
    (hcode : (Cond.code y bytes maxL ret).before args s = true) (hy : y.cls ≠ "java/lang/invoke/MethodHandle" ∧ y.cls ≠ "java/lang/invoke/VarHandle")
    {W : Nat} {Pre : Jvm.Free.Pt → Array Value → Prop} {Post : Jvm.Free.Pt → Array Value → Addr → Jvm.Free.Pt → Prop} (hK : Jvm.Free.BackT l R p e below s args y 3 W Pre Post)
    {b : Addr} {cellB : Cell} (hcell : T.heap[b]? = some cellB) (hobj : cellB.vm.isStatics = false) (hcls : s.vm.findClass C = some cellB.cls)
    {g : JFrame} (hg : g.method = m) (hsize : g.locals.size = c.maxLocals) {argsL rest : List Value} (hlen : ∀ sig, parseMethodDescriptor y.desc = some sig → argsL.length = sig.parameters.length)
    (hstack : g.stack = argsL.reverse ++ .ref b :: rest) (hW : 2 * g.monitorRoom + (rest.map fun v => v.category).sum ≤ W) (hdg : decode c.code g.pc = .ok (.invokevirtual index, 3))
    (hpre : ∀ vm₁, s.WarmedH vm₁ → Pre ⟨T.setVm vm₁, locs, cells, slots⟩ (Value.ref b :: argsL).toArray) :
    ∃ (v : Addr) (vm₁ : Vm) (B : Jvm.Free.Pt), s.WarmedH vm₁ ∧ Stand p l e R s m args below meth c B.U B.locs B.cells B.slots ∧ Post ⟨T.setVm vm₁, locs, cells, slots⟩ (Value.ref b :: argsL).toArray v B ∧
      Steps p.tables e below (T.setTop g) ((B.U.setTop { g with stack := rest }).pushFrame (.throwing v)) := by
  obtain ⟨mk, methM, hnamed, hmethM, hstM, habM⟩ := Cond.instanceMethod_spec hinst
  obtain ⟨methM', cM, hmethM', -, -, -, -, -, -, hsigM⟩ := Cond.code_spec hnamed hcode
  cases hmethM.symm.trans hmethM'
  obtain ⟨c2, r2, m2, q1, q2, q3, q4, kP, hkP, hkPi⟩ := Cond.selects_spec hsel
  cases hcls.symm.trans q1
  cases (State.methodFound?_of_named hnamed hy).symm.trans q2
  cases hnamed.symm.trans q3
  have hselP : selectMethod e.platform s.vm cellB.cls mk = .method mk := by rw [Launch.admits_selectMethod X.admits]; exact q4
  obtain ⟨vm₁, X₁, hstep₁⟩ := X.invokevirtual hexec hown hlink hnamed hmethM hstM hkP hkPi hy (a := b) (cell := cellB) hcell
    (fun z h => by rw [h] at hobj; cases hobj) hselP hmethM habM hkP hkPi (g := g) hg (argsL := argsL) (rest := rest) (hlen _ hsigM) hstack hdg
  obtain ⟨v, B, X', hpost, hsteps⟩ := hK m meth c ⟨T.setVm vm₁, locs, cells, slots⟩ { g with stack := rest } (.invokevirtual index) mk (Value.ref b :: argsL).toArray X₁ hg hsize hdg hW (X₁.named hnamed) (hpre vm₁ X₁.warmed)
  exact ⟨v, vm₁, B, X₁.warmed, X', hpost, hstep₁ _ fun acts => by rw [doInvoke_state]; exact hsteps⟩
/-- what is known of a walk in which calls may throw: the throw's words hold at its every point; its handlers -/
def gTs (C : gT) : Prop := ∀ (U : State) (locs : List Loc), (g_s C).WarmedH U.vm → va_S (g_A C) (g_s C).heap U.heap locs → TS U
theorem g_callVt (pc : Nat) {C : gT} {cc : ByteArray} {own : String} {R0 : Room} {nL k n : Nat} {ws : va_W} {lv : List (Nat × Value)} {st : List Value} (hC : gOk C cc own R0 nL) (hTs : gTs C) {y : MethodName} {bytes : ByteArray} {maxL index : Nat} {ret : Option FieldType} {rm : Room} {b : Nat} {As : List Value} {wr : va_W} {E : String} {stk : List Value} (hM : Ct (g_l C) (g_D C) (g_K C) y (g_wd y bytes maxL ret) rm (.ref b :: As) wr E) (hm1 : Cond.code y bytes maxL ret ∈ g_tbl) (hm2 : Cond.initialized y.cls ∈ g_tbl) (hm3 : Cond.methodLink own index y ∈ g_tbl) (hm4 : Cond.instanceMethod y ∈ g_tbl) (hm5 : Cond.selects y.cls y y ∈ g_tbl) (na : Nat) (hna : As.length = na) (hdd : y.cls ≠ "java/lang/invoke/MethodHandle" ∧ y.cls ≠ "java/lang/invoke/VarHandle" ∧ (parseMethodDescriptor y.desc).map (fun d => d.parameters.length) = some na) (hR : rm.frames + 1 ≤ R0.frames ∧ 8 + (maxL + 11) + rm.locals ≤ R0.locals) (isC : List Nat) (h1 : isC.map (fun i => ws[i]?) = wr.map some) (q0 ci : Nat) {fs : List Value} {vc : vw_C} (hrc : vwCl[ci]? = some vc) (hcn : vc.1 = y.cls) (hre : wr[q0]? = some (b, .inr (ci, fs))) (hst : stk = As.reverse ++ .ref b :: st) (hro : (st.map fun v => v.category).sum ≤ 8) (hf : k + rm.cells ≤ R0.cells ∧ n + rm.slots ≤ R0.slots) (hd : decode cc pc = .ok (.invokevirtual index, 3))
    (k2 n2 : Nat) (hk2 : k + rm.cells = k2) (hs2 : n + rm.slots = n2)
    (hcat : (g_e C).platform.magicAccessors = ({} : Platform).magicAccessors → ∀ cE : ClassId, (g_s C).vm.findClass E = some cE → ∃ (pre : List ExceptionTableEntry) (x : ExceptionTableEntry) (rest : List ExceptionTableEntry), (g_c C).exceptionTable.toList = pre ++ x :: rest ∧ (∀ z ∈ pre, RowPassed (g_e C).platform (g_s C) (g_m C).cls pc cE z) ∧ covers x pc = true ∧ RowCatches (g_e C).platform (g_s C) (g_m C).cls cE x ∧ ∀ a : Nat, gAt C k2 n2 ws lv x.handlerPc [.ref a]) : gAt C k n ws lv pc stk := by
  obtain ⟨hxe, hb, hml, hown, hts, hK, hA, hR0, hnL, hO⟩ := hC
  subst hna
  subst hst
  subst hk2
  subst hs2
  intro H locs ls hP hD hS hl T hTH X
  have hPc := va_Psub hP isC h1
  have hG : GoodIn g_tbl (g_wd y bytes maxL ret) := g_good hm1
  rw [← hR0] at hR hf
  obtain ⟨cellB, hcB, hoB, hclB⟩ := va_recv hK hPc hrc hre
  have hbl : FrameBlind (va_Pc (.ref b :: As) (fun U => U.heap.size = H.size ∧ va_P (g_D C) vwCl wr U.heap ∧ va_K (g_D C) vwCl (tyA (g_K C)) U ∧ va_AO "RotationPress$CodeTable" U ∧ TS U)) := fun a U g mk q => by
    obtain ⟨q0, q1, qP, qK, qO, qT⟩ := q
    exact ⟨q0, q1, qP, va_K.moved (u := U) (U := U.calling g mk a) (Vm.Alike.refl U.vm) qK, va_AO.moved (u := U) (U := U.calling g mk a) (Vm.Alike.refl U.vm) qO, qT.same rfl rfl⟩
  have cb : CallB (g_R C) (g_s C) (g_a C) own index y bytes maxL ret (g_wd y bytes maxL ret) rm rm.cells rm.slots As.length := callB_of As.length hts hG rfl rfl rfl (hts _ hm2) (hts _ hm3) hdd hR
  have hBK : Jvm.Free.BackT (g_l C) (g_R C) (g_p C) (g_e C) (g_b C) (g_s C) (g_a C) y 3 8 _ _ := backT_of (bytes := bytes) (maxL := maxL) (ret := ret) (hM H.size) hbl rfl rfl hR.1 hR.2 cb.2.2.2.2.1 cb.2.2.2.2.2.1 (fun a' U hW => word_at hW (Or.inl (by first | rfl | simp [Cond.onTables, Cond.keeps, Cond.steady])) (hts _ hm2))
  obtain ⟨v, vm₁, ⟨U', l2, c2, s2⟩, hW₁, X', ⟨g', mk, t, L, e1, e2, ⟨⟨hz, hk⟩, a, ce, ho, hce, hcls, hobj⟩, g1, hL, g2, g3⟩, come⟩ := callVt X hxe (C := y.cls) (bytes := bytes) (maxL := maxL) (ret := ret) hown (hts _ hm3) (hts _ hm4) (hts _ hm5) (hts _ hm1) ⟨hdd.1, hdd.2.1⟩ hBK (by rw [hTH]; exact hcB) hoB (hcn ▸ hclB) (g := F0 (g_m C) pc ls (As.reverse ++ .ref b :: st)) rfl (hl.1.trans hml.symm) (argsL := As) (rest := st) cb.2.2.2.2.2.2.2.2.2.1 rfl (lv_room hro) (by rw [hb]; exact hd)
    (fun vm₁ hW₁ => ⟨hf.1, hf.2, rfl, by show T.heap.size = _; rw [hTH], by show va_P _ _ _ T.heap; rw [hTH]; exact hPc, va_K.moved hW₁.alike hK, va_AO.moved hW₁.alike hO, hTs (T.setVm vm₁) locs hW₁ (by show va_S _ _ T.heap _; rw [hTH]; exact hS)⟩)
  dsimp only [Jvm.Free.Pt.U, Jvm.Free.Pt.locs, Jvm.Free.Pt.cells, Jvm.Free.Pt.slots] at X' e1 e2 g1 g2 g3 come
  subst g1; subst g2; subst g3
  have hva : v = a := by cases ho; rfl
  subst hva
  have hz2 : H.size ≤ U'.heap.size := by rw [e1, ← hTH]; exact hz
  have hk2 : ∀ q, q < H.size → U'.heap[q]? = H[q]? := fun q hq => by
    have h9 : t.heap[q]? = T.heap[q]? := hk q (by show q < T.heap.size; rw [hTH]; exact hq) (fun h8 => by have h8 : H.size ≤ q := h8; omega)
    rw [e1, h9, hTH]
  have hcls2 : (g_s C).vm.findClass E = some ce.cls := by
    have h9 : (T.setVm vm₁).vm.findClass E = some ce.cls := hcls
    have h8 : vm₁.findClass E = some ce.cls := h9
    rw [← hW₁.alike.findClass]; exact h8
  have hpl : (g_e C).platform.magicAccessors = ({} : Platform).magicAccessors := by rw [X.admits.platform]
  obtain ⟨kE, hkE, -⟩ := Vm.findClass_spec hcls2
  obtain ⟨pre, x, rest, hsplit, hpass, hx, hend, h⟩ := hcat hpl _ hcls2
  obtain ⟨vm2, XV, come2⟩ := X'.thenCaughtThrough v (g := { F0 (g_m C) pc ls (As.reverse ++ .ref b :: st) with stack := st }) rfl come (by rw [e1]; exact hce) hobj ⟨kE, hkE⟩ pre x rest hsplit hpass hx hend
  have hS1 : va_S (g_A C) (g_s C).heap U'.heap (locs ++ L) := ⟨Nat.le_trans hS.1 hz2, fun q hq hn => by rw [hk2 q (Nat.lt_of_lt_of_le hq hS.1)]; exact hS.2.1 q hq hn, fun q hq => by
    rcases List.mem_append.mp hq with h9 | h9
    · exact hS.2.2 q h9
    · exact hA _ (Nat.le_trans hS.1 (hL q h9))⟩
  have hP1 : va_P (g_D C) vwCl ws U'.heap := P_old hP hk2
  obtain ⟨t2, a1, b1⟩ := h v U'.heap (locs ++ L) ls hP1 hD hS1 hl (U'.setVm vm2) rfl XV
  exact ⟨t2, come2.trans a1, b1⟩
/-- the row that catches, out of the words -/
theorem row_catches {s : State} {args : Array Value} {pl : Platform} (hpl : pl.magicAccessors = ({} : Platform).magicAccessors) {own E : String} {d cE : ClassId} (hown : s.vm.findClass own = some d) (hE : s.vm.findClass E = some cE) {x : ExceptionTableEntry} (h0 : x.catchType ≠ 0) (hl : (Cond.classLink own x.catchType E).before args s = true) (hcs : (Cond.castable E E).before args s = true) : RowCatches pl s d cE x := by
  obtain ⟨c', hc', hcl⟩ := Cond.classLink_spec hown hl pl hpl
  obtain ⟨c3, cT, hc3, hcT, hasg⟩ := Cond.castable_spec hcs
  cases hE.symm.trans hc'
  cases hE.symm.trans hc3
  cases hE.symm.trans hcT
  exact Or.inr ⟨h0, cE, hcl, hasg⟩
