/-! THROWING: a method of the class that throws new E(text) out of a walk that has changed no old cell; its contract Ct. -/
theorem str_ride {s U : State} {a a' : Array Value} (hW : s.WarmedH U.vm) {cls text : String} {i : Nat} (h : (Cond.stringRef cls i text).before a s = true) : (Cond.stringRef cls i text).before a' U = true := by
  have h1 := Cond.stringRef_warmed hW h
  exact h1
def thN : List String := ["java/lang/RuntimeException", "java/lang/Exception"]
def tsW : List Cond := [.laysStatic "java/lang/Throwable" "UNASSIGNED_STACK" "[Ljava/lang/StackTraceElement;", .laysStatic "java/lang/Throwable" "SUPPRESSED_SENTINEL" "Ljava/util/List;", .isRef (.static "java/lang/Throwable" "UNASSIGNED_STACK" "[Ljava/lang/StackTraceElement;"), .isRef (.static "java/lang/Throwable" "SUPPRESSED_SENTINEL" "Ljava/util/List;"), .declares ⟨"java/lang/RuntimeException", "<init>", "(Ljava/lang/String;)V"⟩, .declares ⟨"java/lang/Exception", "<init>", "(Ljava/lang/String;)V"⟩, .declares ⟨"java/lang/Throwable", "<init>", "(Ljava/lang/String;)V"⟩, .castable "java/lang/IllegalStateException" "java/lang/IllegalStateException", .castable "java/lang/IllegalArgumentException" "java/lang/IllegalArgumentException", .castable "java/lang/IndexOutOfBoundsException" "java/lang/IndexOutOfBoundsException"]
def tsS : List (Nat × String) := [(50, "the tape has no room for twenty bytes"), (60, "the tape has not so many bytes"), (69, "the tape has no such byte"), (72, "a byte is 0 .. 255"), (78, "the out has more bytes than a tape takes"), (84, "a level is 1 .. 9"), (93, "a limit is 0 .. 60000"), (110, "the out has no such byte"), (116, "a piece is 0 .. 10"), (127, "what is told is 0 .. 7")]
/-- an IllegalArgumentException is no IndexOutOfBoundsException: alter's second refusal passes the first row -/
def nCast : Cond := .not (.castable "java/lang/IllegalArgumentException" "java/lang/IndexOutOfBoundsException")
theorem nc_ride {s U : State} {a a' : Array Value} (hW : s.WarmedH U.vm) (h : nCast.before a s = true) : nCast.before a' U = true := by
  have h1 : nCast.before a' (U.setVm U.vm) = true := Cond.notCastable_moved (T := U) (args' := a') hW.alike h
  rwa [show U.setVm U.vm = U from by cases U; rfl] at h1
/-- what a throw wants of the state beyond the tables' good words -/
def TS (U : State) : Prop := (∀ w ∈ tsW, w.before #[] U = true) ∧ (∀ q ∈ tsS, (Cond.stringRef "RotationPress" q.1 q.2).before #[] U = true) ∧ nCast.before #[] U = true
theorem tsW_rides : tsW.all Cond.ridesK = true := rfl
theorem TS.ride {s U : State} (h : TS s) (hW : s.WarmedH U.vm) (hk : Jvm.Free.StaticsKept s U) : TS U := ⟨Jvm.Free.rideK_all hW hk tsW_rides h.1, fun q hq => str_ride hW (h.2.1 q hq), nc_ride hW h.2.2⟩
theorem TS.any {s : State} (h : TS s) (a : Array Value) : ∀ w ∈ tsW, w.before a s = true := Jvm.Free.rideK_all (State.WarmedH.refl s) (fun _ _ hy _ => hy) tsW_rides h.1
theorem at_plain {D : va_G} {cl : List vw_C} {q : Nat × va_E} {H : Heap} {cy : Cell} (h : va_at D cl q H) (hy : H[q.1]? = some cy) : cy.vm.isStatics = false := by
  obtain ⟨a, e⟩ := q
  cases e with
  | inl x =>
    have h1 : H[a]? = some (vp_cell x.1 x.2) := h
    have h2 : cy = vp_cell x.1 x.2 := Option.some.inj (hy.symm.trans h1)
    rw [h2]
    obtain ⟨c, n, f⟩ := x
    rcases f with f | f | f | f | f <;> rfl
  | inr o =>
    obtain ⟨r, h1, cell, g1, g2, g3, -⟩ := h
    have h2 : cy = cell := Option.some.inj (hy.symm.trans g1)
    rw [h2, g3]
    rfl
theorem P_old {D : va_G} {cl : List vw_C} {wr : va_W} {H0 H : Heap} (hP : va_P D cl wr H0) (hk : ∀ q, q < H0.size → H[q]? = H0[q]?) : va_P D cl wr H :=
  fun k q hq => (hP k q hq).kept (hk q.1 (hP k q hq).lt)
/-- statics' cells are none of a world's -/
theorem st_kept {D : va_G} {cl : List vw_C} {wi : va_W} {s U : State} {locs : List Loc} (hP : va_P D cl wi s.heap) (hS : va_S (va_A wi s.heap.size) s.heap U.heap locs) : Jvm.Free.StaticsKept s U := by
  intro y cy hy hst
  have hlt : y < s.heap.size := (Array.getElem?_eq_some_iff.mp hy).1
  rw [hS.2.1 y hlt (fun hA => ?_)]
  · exact hy
  · rcases hA with ⟨k, e, hk⟩ | h
    · have h1 := at_plain (hP k (y, e) hk) hy
      rw [h1] at hst
      cases hst
    · exact absurd hlt (Nat.not_lt.mpr h)
theorem TS.walk {D : va_G} {cl : List vw_C} {wi : va_W} {s U : State} {locs : List Loc} (h : TS s) (hW : s.WarmedH U.vm) (hP : va_P D cl wi s.heap) (hS : va_S (va_A wi s.heap.size) s.heap U.heap locs) : TS U := h.ride hW (st_kept hP hS)
theorem TS.same {s U : State} (h : TS s) (hv : U.vm = s.vm) (hh : U.heap = s.heap) : TS U := h.ride (by rw [hv]; exact State.WarmedH.refl s) (fun y cy hy _ => by rw [hh]; exact hy)
def thE (E : String) (sz : Nat) (st : State) (o : Outcome) (t : State) : Prop := va_F (fun q => sz ≤ q) st t ∧ ∃ (a : Nat) (ce : Cell), o = .threw a ∧ t.heap[a]? = some ce ∧ st.vm.findClass E = some ce.cls ∧ ce.vm.isStatics = false
def MT (below : List Frame) (E : String) (s : State) (mc ms : Nat) : State → Prop := fun t => ∃ o, t.status = .running ∧ Ended t below o ∧ thE E s.heap.size s o t ∧ ∃ L, Jvm.Free.FrameEndT s o t L mc ms ∧ ∀ q ∈ L, s.heap.size ≤ q.base
/-- the contract of a call that throws an E: no old cell is changed; wr: the cells that it reads -/
def Ct (l : Launch) (D : va_G) (K : Nat → ClassId) (y : MethodName) (wy : List Cond) (rm : Room) (av : List Value) (wr : va_W) (E : String) : Prop :=
  ∀ sz : Nat, Jvm.Free.MetFree l y (headSpec wy rm) (va_Pc av (fun U => U.heap.size = sz ∧ va_P D vwCl wr U.heap ∧ va_K D vwCl (tyA K) U ∧ va_AO "RotationPress$CodeTable" U ∧ TS U)) (fun _ _ _ _ _ => True) (fun _ st o t => thE E sz st o t ∧ ∃ L, Jvm.Free.FrameEndT st o t L rm.cells rm.slots ∧ ∀ q ∈ L, sz ≤ q.base)
theorem va_P_nil {D : va_G} {cl : List vw_C} {H : Heap} : va_P D cl [] H := fun k q hq => by simp at hq
theorem va_D_nil {A : Nat → Prop} : va_D A [] := ⟨fun i j p q hi => by simp at hi, fun k q hq => by simp at hq⟩
theorem mk_t {l : Launch} {D : va_G} {K : Nat → ClassId} {y : MethodName} {rm : Room} {av : List Value} {wr : va_W} {E : String} {code : ByteArray} {maxL : Nat} {ret : Option FieldType} (hy : plainName y.cls = true) (hav : (lg_sl av).length ≤ maxL)
    (body : ∀ (p : Program) (e : Env) (s : State) (m : MethodId) (below : List Frame) (meth : Method) (c : Code), gOk (p, l, e, rm, s, m, av.toArray, below, meth, c, (fun q => s.heap.size ≤ q), D, K, maxL, MT below E s rm.cells rm.slots) code y.cls rm maxL → meth.locks = false → c.exceptionTable.isEmpty = true → TS s → va_P D vwCl wr s.heap →
      gAt (p, l, e, rm, s, m, av.toArray, below, meth, c, (fun q => s.heap.size ≤ q), D, K, maxL, MT below E s rm.cells rm.slots) 0 0 [] (lv_args 0 av) 0 []) : Ct l D K y (g_wd y code maxL ret) rm av wr E := by
  intro sz
  refine Jvm.Free.MetFree.of_bodyS (code := code) (maxLocals := maxL) (ret := ret) hy ?_ ?_
  · intro args s m h hn
    obtain ⟨meth, c, h1, h2, h3, h4, h5, h6, -, -⟩ := Cond.code_spec hn (atoms_spec (ws := g_wd y code maxL ret) h _ List.mem_cons_self)
    exact ⟨meth, c, h1, h2, h3, h4, h5, h6⟩
  · intro p e s m args below meth c s₁ B hml hv _
    obtain ⟨rfl, hsz, hP, hK, hO, hT⟩ := hv
    subst hsz
    have hh0 : s₁.heap = s.heap := by rw [B.state]; rfl
    have hcw : (Cond.code y code maxL ret).before av.toArray s = true := atoms_spec (ws := g_wd y code maxL ret) B.pre _ List.mem_cons_self
    have hno : c.exceptionTable.isEmpty = true := B.noHandlers hcw
    have hlk : meth.locks = false := B.notSynchronized
    have key : W p l e rm s m av.toArray below meth c s.heap [] 0 0 (MT below E s rm.cells rm.slots) (entryFrame m av.toArray maxL) := by
      rw [lg_entry_eq]
      exact body p e s m below meth c ⟨B.exec, B.bytes, hml, findClass_of_methodNamed B.named, fun w h => atoms_spec (ws := g_wd y code maxL ret) B.pre w (List.mem_cons_of_mem _ h), hK, fun q h => h, rfl, rfl, hO⟩ hlk hno hT hP s.heap [] _ va_P_nil va_D_nil va_S.rf (lv_entry av hav)
    obtain ⟨t, a1, o, b1, b2, b3, b4⟩ := key s₁ hh0 (Stand.of_body B)
    exact ⟨t, o, a1, b1, b2, b3, b4⟩
theorem g_rd (pc : Nat) {C : gT} {cc : ByteArray} {own : String} {R0 : Room} {nL k n : Nat} {ws : va_W} {lv : List (Nat × Value)} {st : List Value} (hC : gOk C cc own R0 nL) (hA : ∀ q, g_A C q → (g_s C).heap.size ≤ q) {wr : va_W} (hr : va_P (g_D C) vwCl wr (g_s C).heap) {Cn : String} {T : u_T} {N ci index a : Nat} (hin : ∀ w ∈ u_ws Cn T N, w ∈ g_tbl) (hc : vwCl[ci]? = some (Cn, T, N)) (q0 : Nat) {fs : List Value} (he : wr[q0]? = some (a, .inr (ci, fs))) (j : Nat) (hj : j < N) (hw : Cond.fieldLink own index (T j).1 (T j).2.1 (T j).2.2.1 ∈ g_tbl) {v : Value} (hv : fs[j]? = some v) (hd : decode cc pc = .ok (.getfield index, 3)) (h : gAt C k n ws lv (pc + 3) (v :: st)) : gAt C k n ws lv pc (.ref a :: st) :=
  fun H locs ls hP hD hS hl => va_get hC.1 hC.2.1 hC.2.2.2.2.1 hin hC.2.2.2.1 hC.2.2.2.2.2.1 (P_old hr (fun q hq => hS.2.1 q hq (fun h9 => Nat.lt_irrefl _ (Nat.lt_of_lt_of_le hq (hA q h9))))) q0 he hc j hj (hC.2.2.2.2.1 _ hw) (fun _ h9 => h9) hv hd (h H locs ls hP hD hS hl)
theorem th_ISE : ∀ w ∈ Jvm.Bundle.ownAtoms "RotationPress" 52 "java/lang/IllegalStateException" thN, w ∈ g_tbl ∨ w ∈ tsW := by decide +kernel
theorem th_IAE : ∀ w ∈ Jvm.Bundle.ownAtoms "RotationPress" 62 "java/lang/IllegalArgumentException" thN, w ∈ g_tbl ∨ w ∈ tsW := by decide +kernel
theorem th_IOB : ∀ w ∈ Jvm.Bundle.ownAtoms "RotationPress" 71 "java/lang/IndexOutOfBoundsException" thN, w ∈ g_tbl ∨ w ∈ tsW := by decide +kernel
set_option maxHeartbeats 1000000 in
theorem g_throw (pc : Nat) {C : gT} {cc : ByteArray} {R0 : Room} {nL k n : Nat} {ws : va_W} {lv : List (Nat × Value)} {st : List Value} (hC : gOk C cc "RotationPress" R0 nL) (hA : ∀ q, g_A C q → (g_s C).heap.size ≤ q) (hlk : (g_me C).locks = false) (hno : (g_c C).exceptionTable.isEmpty = true) (htr : (g_l C).stackTraces = false) (hT : TS (g_s C)) {E text : String} {ik is ic : Nat} (hE : Jvm.Bundle.fit E = true) (hat : ∀ w ∈ Jvm.Bundle.ownAtoms "RotationPress" ic E thN, w ∈ g_tbl ∨ w ∈ tsW) (hk1 : Cond.classLink "RotationPress" ik E ∈ g_tbl) (hk2 : Cond.initialized E ∈ g_tbl) (hs : (is, text) ∈ tsS)
    (d0 : decode cc pc = .ok (.new ik, 3)) (d3 : decode cc (pc + 3) = .ok (.dup, 1)) (d4 : decode cc (pc + 4) = .ok (.ldc is, 2)) (d6 : decode cc (pc + 6) = .ok (.invokespecial ic, 3)) (d9 : decode cc (pc + 9) = .ok (.athrow, 1)) (hfr : 5 < R0.frames) (hlo : (st.map fun v => v.category).sum + 82 ≤ R0.locals) (hce : k + 1 ≤ R0.cells) (hsl : n + 6 ≤ R0.slots) (hQ : ∀ t, MT (g_b C) E (g_s C) (k + 1) (n + 6) t → g_Q C t) : gAt C k n ws lv pc st := by
  obtain ⟨hx, hb, hml, hown, hts, hK, -, hR0, hnL, hO⟩ := hC
  intro H locs ls hP hD hS hl T hTH X
  rw [← hR0] at hfr hlo hce hsl
  have htr2 : (g_e C).platform.stackTraces = false := by
    have h9 : (g_e C).platform.stackTraces = (g_l C).stackTraces := by rw [X.admits.platform]
    rw [h9]
    exact htr
  have hw : ∀ w ∈ Jvm.Bundle.ownAtoms "RotationPress" ic E thN, w.before (g_a C) (g_s C) = true := fun w h => (hat w h).elim (fun h1 => hts w h1) (fun h1 => hT.any _ w h1)
  have hstr : (Cond.stringRef "RotationPress" is text).before (g_a C) (g_s C) = true := str_ride (State.WarmedH.refl _) (hT.2.1 _ hs)
  have hlocs : ∀ x ∈ locs, ∀ cell, (g_s C).heap[x.base]? = some cell → cell.vm.isStatics = false := fun x hx2 cell hc2 => by
    have h1 := hA _ (hS.2.2 x hx2)
    have h2 := (Array.getElem?_eq_some_iff.mp hc2).1
    omega
  obtain ⟨vm₁, cX, kX, hfX, hkX, -, -, X₁, st1⟩ := X.newCold hx (own := "RotationPress") (C := E) (index := ik) (n := 6) hown (hts _ hk1) (hw _ (by simp [Jvm.Bundle.ownAtoms])) (hts _ hk2)
    (g := F0 (g_m C) pc ls st) rfl (by rw [hb]; exact d0) hce hsl
  generalize hTT : (T.setVm vm₁).pushCell { cls := cX, slots := kX.instanceTypes.map defaultValue, vm := .none } = T1 at X₁ st1
  have hcat : (Value.ref T.heap.size).category = 1 := rfl
  have hcellA : T1.heap[T.heap.size]? = some (freshCell cX kX) := by rw [← hTT]; exact State.heap_pushCell_size _ _
  obtain ⟨-, -, -, sa, -, -, -, -, -, hev⟩ := Cond.stringRef_spec hown hstr
  have hgrow : (g_s C).heap.size ≤ T.heap.size := by rw [hTH]; exact hS.1
  obtain ⟨U, hsteps, hrun, hend, hW, hsame, ce, hce2, OC⟩ := X₁.ctorThrowS hx htr2 (own := "RotationPress") (cls := E) (names := thN) (ic := ic) hown hE (by decide +kernel) hw hlocs hfX hkX hcellA hgrow (msg := .ref sa) rfl
    (g := { method := g_m C, pc := pc + 6, locals := ls, stack := .ref sa :: .ref T.heap.size :: .ref T.heap.size :: st, locked := none }) rfl (hl.1.trans hml.symm) rfl rfl (rest := st) rfl
    (by rw [hb]; exact d6) (by rw [hb]; exact d9) (covers_of_empty hno _) (show 2 + 3 < (g_R C).frames from hfr) (by
      simp only [List.map_cons, List.sum_cons, hcat]
      show 2 * 0 + (1 + (st.map fun v => v.category).sum) + (13 * (2 + 1) + 42) ≤ (g_R C).locals
      omega) hlk
  refine ⟨U, ?_, hQ U ⟨.threw T.heap.size, hrun, hend, ⟨⟨hsame.2.1, fun q hq _ => ?_⟩, T.heap.size, ce, rfl, hce2, OC.cls, by rw [OC.vm]; rfl⟩, locs, ⟨⟨_, rfl⟩, hW, hsame⟩, fun q hq => hA _ (hS.2.2 q hq)⟩⟩
  · refine st1 _ ?_
    show Steps (g_p C).tables (g_e C) (g_b C) (T1.setTop { method := g_m C, pc := pc + 3, locals := ls, stack := .ref T.heap.size :: st, locked := none }) _
    jvm_step X₁.here [X₁.here.top, hx, hb, d3, Value.category]
    exact X₁.ldcString hx (own := "RotationPress") (text := text) (index := is) (a := sa) hown hstr hev
      (g := { method := g_m C, pc := pc + 4, locals := ls, stack := .ref T.heap.size :: .ref T.heap.size :: st, locked := none }) rfl (by rw [hb]; exact d4) _ hsteps
  · have hc : (g_s C).heap[q]? = some ((g_s C).heap[q]) := Array.getElem?_eq_getElem hq
    have h1 := hsame.kept_off (a := q) (fun i hi => by
      have h2 := hA _ (hS.2.2 _ hi)
      have h3 : (g_s C).heap.size ≤ q := h2
      omega) hc
    rw [hc]
    exact h1
