theorem g_wide {C : gT} {k n : Nat} {ws : va_W} {lv : List (Nat × Value)} {pc : Nat} {st : List Value} (k2 n2 : Nat) (h1 : k ≤ k2) (h2 : n ≤ n2) (h : gAt C k2 n2 ws lv pc st) : gAt C k n ws lv pc st :=
  fun H locs ls hP hD hS hl => W.widen h1 h2 (h H locs ls hP hD hS hl)
theorem mo_leaf {α : Type} {x o : α} {L : α → Nat} {a : Nat} (h : some x = some o) (hl : a ≤ L x) : a ≤ L o := by cases h; exact hl
theorem lp_mo {S E : Type} {b : S → Option (S ⊕ E)} {m : S → Nat} {me : E → Nat} (hm : ∀ s u, b s = some u → m s ≤ Sum.elim m me u) : ∀ {n : Nat} (s : S) {e : E}, lpF b n s = some e → m s ≤ me e := by
  intro n
  induction n with
  | zero => intro s e h; cases h
  | succ n ih =>
    intro s e h
    obtain ⟨u, hu, h⟩ := bd_some h
    have h1 := hm s u hu
    cases u with
    | inl s2 => exact Nat.le_trans h1 (ih s2 (el_l h))
    | inr e2 => cases h; exact h1
theorem lp_indM {S E : Type} {b : S → Option (S ⊕ E)} {G : S → Prop} {o : E} {m : S → Nat} {me : E → Nat} {B : Nat} (hm : ∀ s u, b s = some u → m s ≤ Sum.elim m me u) (hB : me o ≤ B) (step : ∀ s u, b s = some u → (∀ s2, some (Sum.inl s2) = some u → G s2) → (∀ e, some (Sum.inr e) = some u → e = o) → Sum.elim m me u ≤ B → G s) : ∀ (n : Nat) (s : S), lpF b n s = some o → G s := by
  intro n
  induction n with
  | zero => intro s h; cases h
  | succ n ih =>
    intro s h
    obtain ⟨u, hu, h⟩ := bd_some h
    cases u with
    | inl s2 => exact step s _ hu (fun s3 h3 => by cases h3; exact ih s2 h) (fun e h3 => by cases h3) (Nat.le_trans (lp_mo hm s2 (el_l h)) hB)
    | inr e => exact step s _ hu (fun s3 h3 => by cases h3) (fun e2 h3 => by cases h3; exact Option.some.inj (el_r h)) (by cases h; exact hB)
theorem g_newi (pc : Nat) {C : gT} {cc : ByteArray} {own : String} {R0 : Room} {nL k n : Nat} {ws : va_W} {lv : List (Nat × Value)} {st : List Value} (hC : gOk C cc own R0 nL) {x : Int32} (N : Nat) (hw : Cond.arrayClass .int ∈ g_tbl) (hn : ¬ x < 0) (hN : x.toNatClampNeg = N) (hby : N * 4 ≤ 536870912) (hce : k + 1 ≤ R0.cells) (hsl : n + N ≤ R0.slots) (hd : decode cc pc = .ok (.newarray .int, 2)) (h : ∀ q : Nat, gAt C (k + 1) (n + N) (ws ++ [(q, .inl (g_K C 0, N, .inl (fun _ => 0)))]) lv (pc + 2) (.ref q :: st)) : gAt C k n ws lv pc (.int x :: st) := by
  intro H locs ls hP hD hS hl
  obtain ⟨hx, hb, hml, hown, hts, hK, hA, hR0, hnL, hO⟩ := hC
  rw [← hR0] at hce hsl
  refine va_newa (atype := .int) (ty := .int) (a0 := (N, .inl (fun _ => 0))) hx hb (hts _ hw) rfl hK hP hD hS hA (fun cA => rfl) hn hN hby hce hsl hd (fun q cA H1 hK1 hP1 hD1 hS1 => ?_)
  have e1 : (g_s C).vm.findClass "[I" = some cA := (hK1.2 4 (cA, .int) rfl).2
  have e2 : (g_s C).vm.findClass "[I" = some (g_K C 0) := (hK.2 0 (g_K C 0, .int) rfl).2
  have e3 : cA = g_K C 0 := Option.some.inj (e1.symm.trans e2)
  subst e3
  exact h q H1 locs ls hP1 hD1 hS1 hl
def Cr (l : Launch) (D : va_G) (K : Nat → ClassId) (y : MethodName) (wy : List Cond) (rm : Room) (av : List Value) (wi : va_W) (wo : Nat → va_W) : Prop :=
  ∀ sz : Nat, Met l y wy rm (va_Pc av (fun U => U.heap.size = sz ∧ va_P D vwCl wi U.heap ∧ va_K D vwCl (tyA K) U ∧ va_D (fun _ => True) wi ∧ va_AO "RotationPress$CodeTable" U)) (va_Qr (fun (_ : Unit) => True) (fun (_ : Unit) (x : Nat) (t : State) => va_P D vwCl (wo x) t.heap ∧ va_D (va_A wi sz) (wo x)) (va_A wi sz)) rm.cells rm.slots (va_A wi sz)
theorem mk_r {l : Launch} {D : va_G} {K : Nat → ClassId} {y : MethodName} {rm : Room} {av : List Value} {wi : va_W} {wo : Nat → va_W} {code : ByteArray} {maxL : Nat} {ty : FieldType} (hy : plainName y.cls = true) (hav : (lg_sl av).length ≤ maxL)
    (body : ∀ (p : Program) (e : Env) (s : State) (m : MethodId) (below : List Frame) (meth : Method) (c : Code) (A : Nat → Prop) (Q : State → Prop), gOk (p, l, e, rm, s, m, av.toArray, below, meth, c, A, D, K, maxL, Q) code y.cls rm maxL →
      (∀ (x : Nat) (pc : Nat) (lv : List (Nat × Value)), decode code pc = .ok (.areturn, 1) → gAt (p, l, e, rm, s, m, av.toArray, below, meth, c, A, D, K, maxL, Q) rm.cells rm.slots (wo x) lv pc [.ref x]) →
      gAt (p, l, e, rm, s, m, av.toArray, below, meth, c, A, D, K, maxL, Q) 0 0 wi (lv_args 0 av) 0 []) : Cr l D K y (g_wd y code maxL (some (.array ty))) rm av wi wo := by
  intro sz
  refine Met.ofW (cc := code) (maxL := maxL) (ret := some (.array ty)) hy rfl ?_
  intro p e s m args below meth c s₁ B hml hv
  obtain ⟨rfl, hsz, hP, hK, hD0, hO⟩ := hv
  subst hsz
  have hD := hD0.self (sz := s.heap.size)
  rw [lg_entry_eq]
  refine body p e s m below meth c (va_A wi s.heap.size) _ ⟨B.exec, B.bytes, hml, findClass_of_methodNamed B.named, fun w h => atoms_spec (ws := g_wd y code maxL (some (.array ty))) B.pre w (List.mem_cons_of_mem _ h), hK, fun q h => Or.inr h, rfl, rfl, hO⟩ ?_ s.heap [] _ hP hD va_S.rf (lv_entry av hav)
  intro x pc lv hd H locs ls hP hD hS hl
  exact W.aret B.exec B.bytes B.returns (Or.inr ⟨_, rfl⟩) (Or.inr ⟨x, rfl⟩) (fun t ht hW => ⟨⟨(), x, rfl, trivial, by rw [ht]; exact hP, hD⟩, hS.F ht⟩) hS.2.2 hd
theorem g_callSr (pc : Nat) {C : gT} {cc : ByteArray} {own : String} {R0 : Room} {nL k n : Nat} {ws : va_W} {lv : List (Nat × Value)} {st : List Value} (hC : gOk C cc own R0 nL) {y : MethodName} {bytes : ByteArray} {maxL index : Nat} {ret : Option FieldType} {rm : Room} {As : List Value} {wi : va_W} {wo : Nat → va_W} {stk : List Value} (hM : Cr (g_l C) (g_D C) (g_K C) y (g_wd y bytes maxL ret) rm As wi wo) (hm1 : Cond.code y bytes maxL ret ∈ g_tbl) (hm2 : Cond.initialized y.cls ∈ g_tbl) (hm3 : Cond.methodLink own index y ∈ g_tbl) (hm4 : Cond.static y ∈ g_tbl) (na : Nat) (hna : As.length = na) (hdd : y.cls ≠ "java/lang/invoke/MethodHandle" ∧ y.cls ≠ "java/lang/invoke/VarHandle" ∧ (parseMethodDescriptor y.desc).map (fun d => d.parameters.length) = some na) (hR : rm.frames + 1 ≤ R0.frames ∧ 8 + (maxL + 11) + rm.locals ≤ R0.locals) (isC isR : List Nat) (wr : va_W) (hn1 : va_nd isC = true) (h1 : isC.map (fun i => ws[i]?) = wi.map some) (hn2 : va_nd isR = true) (h2 : isR.map (fun i => ws[i]?) = wr.map some) (hdis : isR.all (fun i => !isC.contains i) = true) (hst : stk = As.reverse ++ st) (hro : (st.map fun v => v.category).sum ≤ 8) (hf : k + rm.cells ≤ R0.cells ∧ n + rm.slots ≤ R0.slots) (w2 : Nat → va_W) (hw2 : ∀ x, wr ++ wo x = w2 x) (hd : decode cc pc = .ok (.invokestatic index, 3)) (k2 n2 : Nat) (hk2 : k + rm.cells = k2) (hs2 : n + rm.slots = n2) (h : ∀ x : Nat, gAt C k2 n2 (w2 x) lv (pc + 3) (.ref x :: st)) : gAt C k n ws lv pc stk := by
  obtain ⟨hx, hb, hml, hown, hts, hK, hA, hR0, hnL, hO⟩ := hC
  subst hna
  subst hst
  subst hk2
  subst hs2
  intro H locs ls hP hD hS hl
  have hPc := va_Psub hP isC h1
  have hDc := hD.sub isC hn1 h1
  have hFc := va_free (wc := wi) hD hS hA isC h1
  have hdis2 : ∀ i ∈ isR, i ∉ isC := fun i hi hc => by have h9 := List.all_eq_true.mp hdis i hi; simp [hc] at h9
  have hG : GoodIn g_tbl (g_wd y bytes maxL ret) := g_good hm1
  rw [← hR0] at hR hf
  refine va_callr (va_runS (As := As) (rest := st) (Ts := g_tbl) (own := own) (nL := g_n C) ⟨hx, hb, hml, hown, hts⟩ (hM H.size) ⟨callB_of As.length hts hG rfl rfl rfl (hts _ hm2) (hts _ hm3) hdd hR, hts _ hm4⟩ ⟨fun a U g mk q => by obtain ⟨q0, q1, qP, qK, qD, qO⟩ := q; exact ⟨q0, q1, qP, va_K.moved (u := U) (U := U.calling g mk a) (Vm.Alike.refl U.vm) qK, qD, va_AO.moved (u := U) (U := U.calling g mk a) (Vm.Alike.refl U.vm) qO⟩, fun U hU hW => ⟨rfl, by rw [hU], by rw [hU]; exact hPc, va_K.moved hW.alike hK, hDc.weaken (fun _ _ _ _ => trivial), va_AO.moved hW.alike hO⟩⟩ rfl rfl hl.1 rfl (lv_room hro) hd hf) hS (fun q _ h => hFc q h) hFc (fun _ x t H1 locs1 ht hvm hw hB hz1 hk1 hS1 => ?_)
  obtain ⟨hP1, hD1⟩ := hB
  rw [ht] at hP1
  obtain ⟨hP2, hD2⟩ := va_join hP hD isC isR h1 h2 hn2 hdis2 hk1 hFc hP1 hD1
  rw [hw2] at hP2 hD2
  exact h x H1 locs1 ls hP2 hD2 hS1 hl
