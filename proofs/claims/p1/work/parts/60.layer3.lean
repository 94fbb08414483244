def nok (L : Int32) : Bool := decide (¬ L < 0) && decide (L.toNatClampNeg ≤ 134217728)
theorem nok_ok {L : Int32} (h : nok L = true) : ¬ L < 0 ∧ L.toNatClampNeg ≤ 134217728 := by
  simpa [nok] using h
theorem g_oinit (pc : Nat) {C : gT} {cc : ByteArray} {own : String} {R0 : Room} {nL k n : Nat} {ws : va_W} {lv : List (Nat × Value)} {st : List Value} (hC : gOk C cc own R0 nL) {index a : Nat} (hm1 : Cond.methodLink own index objectInit ∈ g_tbl) (hm2 : Cond.instanceMethod objectInit ∈ g_tbl) (hm3 : Cond.code objectInit ⟨#[0xb1]⟩ 1 none ∈ g_tbl) (hfr : 1 ≤ R0.frames) (hlo : (st.map fun v => v.category).sum + 12 ≤ R0.locals) (hd : decode cc pc = .ok (.invokespecial index, 3)) (h : gAt C k n ws lv (pc + 3) st) : gAt C k n ws lv pc (.ref a :: st) := by
  intro H locs ls hP hD hS hl
  obtain ⟨hx, hb, hml, hown, hts, hK, hA, hR0, hnL, hO⟩ := hC
  rw [← hR0] at hfr hlo
  refine W.objInit hx hb hown (hts _ hm1) (hts _ hm2) (hts _ hm3) rfl (hl.1.trans hml.symm) rfl hd hfr ?_ (h H locs ls hP hD hS hl)
  show 2 * 0 + (st.map fun v => v.category).sum + 12 ≤ (g_R C).locals
  omega
theorem g_new (pc : Nat) {C : gT} {cc : ByteArray} {own : String} {R0 : Room} {nL k n : Nat} {ws : va_W} {lv : List (Nat × Value)} {st : List Value} (hC : gOk C cc own R0 nL) {Cn : String} {T : u_T} {N ci index : Nat} (hin : ∀ w ∈ u_ws Cn T N, w ∈ g_tbl) (hc : vwCl[ci]? = some (Cn, T, N)) (ty0 : Nat → FieldType) (hty : ∀ k, k < N → parseFieldDescriptor (T k).2.2.1 = some (ty0 k)) (hw1 : Cond.classLink own index Cn ∈ g_tbl) (hw2 : Cond.instantiable Cn N ∈ g_tbl) (hw3 : Cond.initialized Cn ∈ g_tbl) (fs : List Value) (hfs : ∀ j, j < N → defaultValue (ty0 j) = vp_V fs j) (hce : k + 1 ≤ R0.cells) (hsl : n + N ≤ R0.slots) (hd : decode cc pc = .ok (.new index, 3)) (k2 n2 : Nat) (hk2 : k + 1 = k2) (hn2 : n + N = n2) (h : ∀ q : Nat, gAt C k2 n2 (ws ++ [(q, .inr (ci, fs))]) lv (pc + 3) (.ref q :: st)) : gAt C k n ws lv pc st := by
  intro H locs ls hP hD hS hl
  obtain ⟨hx, hb, hml, hown, hts, hK, hA, hR0, hnL, hO⟩ := hC
  subst hk2
  subst hn2
  rw [← hR0] at hce hsl
  exact va_new hx hb hts hin ty0 hty hown (hts _ hw1) (hts _ hw2) (hts _ hw3) hK hP hD hS hA hc hfs hce hsl hd (fun q H1 hP1 hD1 hS1 => h q H1 locs ls hP1 hD1 hS1 hl)
theorem g_newb (pc : Nat) {C : gT} {cc : ByteArray} {own : String} {R0 : Room} {nL k n : Nat} {ws : va_W} {lv : List (Nat × Value)} {st : List Value} (hC : gOk C cc own R0 nL) {x : Int32} (N : Nat) (hw : Cond.arrayClass .byte ∈ g_tbl) (hn : ¬ x < 0) (hN : x.toNatClampNeg = N) (hby : N * 1 ≤ 536870912) (hce : k + 1 ≤ R0.cells) (hsl : n + N ≤ R0.slots) (hd : decode cc pc = .ok (.newarray .byte, 2)) (h : ∀ q : Nat, gAt C (k + 1) (n + N) (ws ++ [(q, .inl (g_K C 1, N, .inl (fun _ => 0)))]) lv (pc + 2) (.ref q :: st)) : gAt C k n ws lv pc (.int x :: st) := by
  intro H locs ls hP hD hS hl
  obtain ⟨hx, hb, hml, hown, hts, hK, hA, hR0, hnL, hO⟩ := hC
  rw [← hR0] at hce hsl
  refine va_newa (atype := .byte) (ty := .byte) (a0 := (N, .inl (fun _ => 0))) hx hb (hts _ hw) rfl hK hP hD hS hA (fun cA => rfl) hn hN hby hce hsl hd (fun q cA H1 hK1 hP1 hD1 hS1 => ?_)
  have e1 : (g_s C).vm.findClass "[B" = some cA := (hK1.2 4 (cA, .byte) rfl).2
  have e2 : (g_s C).vm.findClass "[B" = some (g_K C 1) := (hK.2 1 (g_K C 1, .byte) rfl).2
  have e3 : cA = g_K C 1 := Option.some.inj (e1.symm.trans e2)
  subst e3
  exact h q H1 locs ls hP1 hD1 hS1 hl
theorem g_newr (pc : Nat) {C : gT} {cc : ByteArray} {own : String} {R0 : Room} {nL k n : Nat} {ws : va_W} {lv : List (Nat × Value)} {st : List Value} (hC : gOk C cc own R0 nL) {x : Int32} {index : Nat} (N : Nat) (hw : Cond.classLink own index "RotationPress$CodeTable" ∈ g_tbl) (hn : ¬ x < 0) (hN : x.toNatClampNeg = N) (hby : N * 4 ≤ 536870912) (hce : k + 1 ≤ R0.cells) (hsl : n + N ≤ R0.slots) (hd : decode cc pc = .ok (.anewarray index, 3)) (k2 n2 : Nat) (hk2 : k + 1 = k2) (hn2 : n + N = n2) (h : ∀ q : Nat, gAt C k2 n2 (ws ++ [(q, .inl (g_K C 3, N, .inr (.inr (.inr (.inr (fun _ => none))))))]) lv (pc + 3) (.ref q :: st)) : gAt C k n ws lv pc (.int x :: st) := by
  intro H locs ls hP hD hS hl
  obtain ⟨hx, hb, hml, hown, hts, hK, hA, hR0, hnL, hO⟩ := hC
  subst hk2
  subst hn2
  rw [← hR0] at hce hsl
  refine va_newq hx hb hown (hts _ hw) hO hK hP hD hS hA hn hN hby hce hsl hd (fun q cA H1 hK1 hP1 hD1 hS1 => ?_)
  obtain ⟨kA, comp, -, -, -, e1⟩ := (hK1.2 4 (cA, .object "RotationPress$CodeTable") rfl).2
  obtain ⟨kB, comp2, -, -, -, e2⟩ := (hK.2 3 (g_K C 3, .object "RotationPress$CodeTable") rfl).2
  have e3 : cA = g_K C 3 := Option.some.inj (e1.symm.trans e2)
  subst e3
  exact h q H1 locs ls hP1 hD1 hS1 hl
theorem g_aast (pc : Nat) {C : gT} {cc : ByteArray} {own : String} {R0 : Room} {nL k n : Nat} {ws : va_W} {lv : List (Nat × Value)} {st : List Value} (hC : gOk C cc own R0 nL) (q0 qk ci : Nat) {a : Nat} {r : vw_C} {N v : Nat} {vs : List Value} {f : Nat → Option Nat} (ha : ws[q0]? = some (a, .inl (g_K C 3, N, .inr (.inr (.inr (.inr f)))))) (hr : "RotationPress$CodeTable" = r.1) (hv : ws[qk]? = some (v, .inr (ci, vs))) (hc : vwCl[ci]? = some r) {i : Int32} (hi : ix i N = true) (hd : decode cc pc = .ok (.aastore, 1)) (ws2 : va_W) (hs2 : ws.set q0 (a, .inl (g_K C 3, N, .inr (.inr (.inr (.inr (va_up f i.toNatClampNeg (some v))))))) = ws2) (h : gAt C k n ws2 lv (pc + 1) st) : gAt C k n ws lv pc (.ref v :: .int i :: .ref a :: st) :=
  fun H locs ls hP hD hS hl => va_astq hC.1 hC.2.1 hC.2.2.2.2.2.1 hP hD hS q0 3 qk ci ha (hr ▸ rfl) hv hc (ix_in hi) hd (fun H1 locs1 hP1 hD1 hS1 => h H1 locs1 ls (hs2 ▸ hP1) (hs2 ▸ hD1) hS1 hl)
theorem vp_cong {c : ClassId} {N : Nat} {f g2 : Nat → Option Nat} (h : ∀ j, j < N → f j = g2 j) : vp_cell c (N, .inr (.inr (.inr (.inr f)))) = vp_cell c (N, .inr (.inr (.inr (.inr g2)))) := by
  rw [vp_cell_q, vp_cell_q]
  unfold arrV
  congr 2
  funext j
  show va_rf (f j.val) = va_rf (g2 j.val)
  rw [h j.val j.isLt]
theorem g_cong {C : gT} {k n : Nat} {ws : va_W} {lv : List (Nat × Value)} {pc : Nat} {st : List Value} (q0 : Nat) {a N : Nat} {c : ClassId} {f g2 : Nat → Option Nat} (ha : ws[q0]? = some (a, .inl (c, N, .inr (.inr (.inr (.inr f)))))) (hfg : ∀ j, j < N → f j = g2 j) (ws2 : va_W) (hs2 : ws.set q0 (a, .inl (c, N, .inr (.inr (.inr (.inr g2))))) = ws2) (h : gAt C k n ws2 lv pc st) : gAt C k n ws lv pc st := by
  intro H locs ls hP hD hS hl
  subst hs2
  refine h H locs ls (hP.set hD ha ?_ (fun _ _ => rfl)) (hD.set ha) hS hl
  show H[a]? = some (vp_cell c _)
  rw [← vp_cong hfg]
  exact hP q0 _ ha
theorem mk_ini {l : Launch} {D : va_G} {K : Nat → ClassId} {y : MethodName} {rm : Room} {av : List Value} {wi : va_W} {X : Type} {wo : X → va_W} {code : ByteArray} {maxL : Nat} (hy : plainName y.cls = true) (hyn : y.name = "<init>") (hav : (lg_sl av).length ≤ maxL)
    (body : ∀ (p : Program) (e : Env) (s : State) (m : MethodId) (below : List Frame) (meth : Method) (c : Code) (A : Nat → Prop) (Q : State → Prop), meth.name = "<init>" → gOk (p, l, e, rm, s, m, av.toArray, below, meth, c, A, D, K, maxL, Q) code y.cls rm maxL →
      (∀ (x : X) (pc : Nat) (lv : List (Nat × Value)), decode code pc = .ok (.return_, 1) → gAt (p, l, e, rm, s, m, av.toArray, below, meth, c, A, D, K, maxL, Q) rm.cells rm.slots (wo x) lv pc []) →
      gAt (p, l, e, rm, s, m, av.toArray, below, meth, c, A, D, K, maxL, Q) 0 0 wi (lv_args 0 av) 0 []) : Cv l D K y (g_wd y code maxL none) rm av wi wo := by
  intro sz
  refine Met.ofW (cc := code) (maxL := maxL) (ret := none) hy rfl ?_
  intro p e s m args below meth c s₁ B hml hv
  obtain ⟨rfl, hsz, hP, hK, hD0, hO⟩ := hv
  subst hsz
  have hD := hD0.self (sz := s.heap.size)
  rw [lg_entry_eq]
  refine body p e s m below meth c (va_A wi s.heap.size) _ ((name_of_methodNamed B.named B.method).1.trans hyn) ⟨B.exec, B.bytes, hml, findClass_of_methodNamed B.named, fun w h => atoms_spec (ws := g_wd y code maxL none) B.pre w (List.mem_cons_of_mem _ h), hK, fun q h => Or.inr h, rfl, rfl, hO⟩ ?_ s.heap [] _ hP hD va_S.rf (lv_entry av hav)
  intro x pc lv hd H locs ls hP hD hS hl
  exact W.vret B.exec B.bytes B.returns (fun t ht hW => ⟨⟨x, rfl, trivial, by rw [ht]; exact hP, hD⟩, hS.F ht⟩) hS.2.2 hd
