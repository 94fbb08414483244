/-! THE LAW's WALK: worlds in blocks, in any order; the script; the start -/
theorem va_D_iff {A : Nat → Prop} {ws : va_W} : va_D A ws ↔ (ws.map (·.1)).Nodup ∧ ∀ q ∈ ws, A q.1 := by
  constructor
  · intro h
    refine ⟨?_, fun q hq => ?_⟩
    · show List.Pairwise (fun x y => x ≠ y) (ws.map (·.1))
      rw [List.pairwise_iff_getElem]
      intro i j hi hj hij he
      rw [List.length_map] at hi hj
      rw [List.getElem_map, List.getElem_map] at he
      have e := h.1 i j _ _ (List.getElem?_eq_getElem hi) (List.getElem?_eq_getElem hj) he
      omega
    · obtain ⟨i, hi⟩ := List.getElem?_of_mem hq
      exact h.2 i q hi
  · intro h
    refine ⟨fun i j p q hi hj he => ?_, fun k q hk => h.2 q (List.mem_of_getElem? hk)⟩
    have hn : List.Pairwise (fun x y => x ≠ y) (ws.map (·.1)) := h.1
    rw [List.pairwise_iff_getElem] at hn
    obtain ⟨hi2, ei⟩ := List.getElem?_eq_some_iff.mp hi
    obtain ⟨hj2, ej⟩ := List.getElem?_eq_some_iff.mp hj
    have hi3 : i < (ws.map (·.1)).length := by rw [List.length_map]; exact hi2
    have hj3 : j < (ws.map (·.1)).length := by rw [List.length_map]; exact hj2
    have e1 : (ws.map (·.1))[i] = p.1 := by rw [List.getElem_map, ei]
    have e2 : (ws.map (·.1))[j] = q.1 := by rw [List.getElem_map, ej]
    rcases Nat.lt_trichotomy i j with h1 | h1 | h1
    · exact absurd (by rw [e1, e2]; exact he) (hn i j hi3 hj3 h1)
    · exact h1
    · exact absurd (by rw [e1, e2]; exact he.symm) (hn j i hj3 hi3 h1)
theorem va_P_iff {D : va_G} {cl : List vw_C} {ws : va_W} {H : Heap} : va_P D cl ws H ↔ ∀ q ∈ ws, va_at D cl q H := by
  constructor
  · intro h q hq
    obtain ⟨i, hi⟩ := List.getElem?_of_mem hq
    exact h i q hi
  · intro h k q hk
    exact h q (List.mem_of_getElem? hk)
theorem g_perm {C : gT} {k n : Nat} {ws ws2 : va_W} {lv : List (Nat × Value)} {pc : Nat} {st : List Value} (hp : ws.Perm ws2) (h : gAt C k n ws2 lv pc st) : gAt C k n ws lv pc st := by
  intro H locs ls hP hD hS hl
  refine h H locs ls (va_P_iff.mpr (fun q hq => va_P_iff.mp hP q (hp.mem_iff.mpr hq))) (va_D_iff.mpr ?_) hS hl
  have h1 := va_D_iff.mp hD
  exact ⟨((hp.map _).nodup_iff).mp h1.1, fun q hq => h1.2 q (hp.mem_iff.mpr hq)⟩
theorem g_lvp {C : gT} {k n : Nat} {ws : va_W} {lv lv2 : List (Nat × Value)} {pc : Nat} {st : List Value} (js : List Nat) (h2 : lv_pick lv js = lv2) (h : gAt C k n ws lv2 pc st) : gAt C k n ws lv pc st :=
  fun H locs ls hP hD hS hl => h H locs ls hP hD hS (lv_sub hl js h2)
theorem at_fst {u v : va_W} : (List.range' 0 u.length).map (fun i => (u ++ v)[i]?) = u.map some := at_range (u := []) (v := u) (w := v)
theorem at_snd {u v : va_W} : (List.range' u.length v.length).map (fun i => (u ++ v)[i]?) = v.map some := by
  have h := at_range (u := u) (v := v) (w := [])
  rw [List.append_nil] at h
  exact h
theorem dis_fs (n m : Nat) : (List.range' n m).all (fun i => !(List.range' 0 n).contains i) = true := dis_range n m 0 n (Or.inr (by omega))
theorem a_callVi (pc : Nat) {C : gT} {cc : ByteArray} {own : String} {R0 : Room} {nL k n : Nat} {wr : va_W} {lv : List (Nat × Value)} {st : List Value} (hC : gOk C cc own R0 nL) {y : MethodName} {bytes : ByteArray} {maxL index : Nat} {ret : Option FieldType} {rm : Room} {b : Nat} {As : List Value} {wi : va_W} {X : Type} {wo : X → va_W} {r : Int32} {stk : List Value} (hM : Ci (g_l C) (g_D C) (g_K C) y (g_wd y bytes maxL ret) rm (.ref b :: As) wi wo r) (hm1 : Cond.code y bytes maxL ret ∈ g_tbl) (hm2 : Cond.initialized y.cls ∈ g_tbl) (hm3 : Cond.methodLink own index y ∈ g_tbl) (hm4 : Cond.instanceMethod y ∈ g_tbl) (hm5 : Cond.selects y.cls y y ∈ g_tbl) (na : Nat) (hna : As.length = na) (hdd : y.cls ≠ "java/lang/invoke/MethodHandle" ∧ y.cls ≠ "java/lang/invoke/VarHandle" ∧ (parseMethodDescriptor y.desc).map (fun d => d.parameters.length) = some na) (hR : rm.frames + 1 ≤ R0.frames ∧ 8 + (maxL + 11) + rm.locals ≤ R0.locals) (ci : Nat) {fs : List Value} {vc : vw_C} (hrc : vwCl[ci]? = some vc) (hcn : vc.1 = y.cls) (hre : wi[0]? = some (b, .inr (ci, fs))) (hst : stk = As.reverse ++ .ref b :: st) (hro : (st.map fun v => v.category).sum ≤ 8) (k2 n2 : Nat) (hk2 : k + rm.cells ≤ k2) (hs2 : n + rm.slots ≤ n2) (hkr : k2 ≤ R0.cells) (hsr : n2 ≤ R0.slots) (hd : decode cc pc = .ok (.invokevirtual index, 3)) (h : ∀ x : X, gAt C k2 n2 (wo x ++ wr) lv (pc + 3) (.int r :: st)) : gAt C k n (wi ++ wr) lv pc stk :=
  g_callVi pc hC hM hm1 hm2 hm3 hm4 hm5 na hna hdd hR (List.range' 0 wi.length) (List.range' wi.length wr.length) wr (nd_range _ _) at_fst (nd_range _ _) at_snd (dis_fs _ _) 0 ci hrc hcn hre hst hro ⟨Nat.le_trans hk2 hkr, Nat.le_trans hs2 hsr⟩ _ (fun _ => rfl) hd _ _ rfl rfl (fun x => g_wide k2 n2 hk2 hs2 (g_perm List.perm_append_comm (h x)))
theorem a_callVv (pc : Nat) {C : gT} {cc : ByteArray} {own : String} {R0 : Room} {nL k n : Nat} {wr : va_W} {lv : List (Nat × Value)} {st : List Value} (hC : gOk C cc own R0 nL) {y : MethodName} {bytes : ByteArray} {maxL index : Nat} {ret : Option FieldType} {rm : Room} {b : Nat} {As : List Value} {wi : va_W} {X : Type} {wo : X → va_W} {stk : List Value} (hM : Cv (g_l C) (g_D C) (g_K C) y (g_wd y bytes maxL ret) rm (.ref b :: As) wi wo) (hm1 : Cond.code y bytes maxL ret ∈ g_tbl) (hm2 : Cond.initialized y.cls ∈ g_tbl) (hm3 : Cond.methodLink own index y ∈ g_tbl) (hm4 : Cond.instanceMethod y ∈ g_tbl) (hm5 : Cond.selects y.cls y y ∈ g_tbl) (na : Nat) (hna : As.length = na) (hdd : y.cls ≠ "java/lang/invoke/MethodHandle" ∧ y.cls ≠ "java/lang/invoke/VarHandle" ∧ (parseMethodDescriptor y.desc).map (fun d => d.parameters.length) = some na) (hR : rm.frames + 1 ≤ R0.frames ∧ 8 + (maxL + 11) + rm.locals ≤ R0.locals) (ci : Nat) {fs : List Value} {vc : vw_C} (hrc : vwCl[ci]? = some vc) (hcn : vc.1 = y.cls) (hre : wi[0]? = some (b, .inr (ci, fs))) (hst : stk = As.reverse ++ .ref b :: st) (hro : (st.map fun v => v.category).sum ≤ 8) (k2 n2 : Nat) (hk2 : k + rm.cells ≤ k2) (hs2 : n + rm.slots ≤ n2) (hkr : k2 ≤ R0.cells) (hsr : n2 ≤ R0.slots) (hd : decode cc pc = .ok (.invokevirtual index, 3)) (h : ∀ x : X, gAt C k2 n2 (wo x ++ wr) lv (pc + 3) st) : gAt C k n (wi ++ wr) lv pc stk :=
  g_callVv pc hC hM hm1 hm2 hm3 hm4 hm5 na hna hdd hR (List.range' 0 wi.length) (List.range' wi.length wr.length) wr (nd_range _ _) at_fst (nd_range _ _) at_snd (dis_fs _ _) 0 ci hrc hcn hre hst hro ⟨Nat.le_trans hk2 hkr, Nat.le_trans hs2 hsr⟩ _ (fun _ => rfl) hd _ _ rfl rfl (fun x => g_wide k2 n2 hk2 hs2 (g_perm List.perm_append_comm (h x)))
theorem a_callST (pc : Nat) {C : gT} {cc : ByteArray} {own : String} {R0 : Room} {nL k n : Nat} {wr : va_W} {lv : List (Nat × Value)} {st : List Value} (hC : gOk C cc own R0 nL) (hTs : gTs C) {y : MethodName} {bytes : ByteArray} {maxL index : Nat} {hh : List (Nat × Nat × Nat × Nat)} {rm : Room} {As : List Value} {wi : va_W} {X : Type} {wo : X → va_W} {po : Int32 → Prop} {stk : List Value} (hM : CiT (g_l C) (g_D C) (g_K C) y (g_wdW y bytes maxL (some .int) hh) rm As wi wo po) (hm1 : Cond.codeWith y bytes maxL (some .int) hh ∈ g_tbl) (hm2 : Cond.initialized y.cls ∈ g_tbl) (hm3 : Cond.methodLink own index y ∈ g_tbl) (hm4 : Cond.static y ∈ g_tbl) (na : Nat) (hna : As.length = na) (hdd : y.cls ≠ "java/lang/invoke/MethodHandle" ∧ y.cls ≠ "java/lang/invoke/VarHandle" ∧ (parseMethodDescriptor y.desc).map (fun d => d.parameters.length) = some na) (hR : rm.frames + 1 ≤ R0.frames ∧ 8 + (maxL + 11) + rm.locals ≤ R0.locals) (hst : stk = As.reverse ++ st) (hro : (st.map fun v => v.category).sum ≤ 8) (k2 n2 : Nat) (hk2 : k + rm.cells ≤ k2) (hs2 : n + rm.slots ≤ n2) (hkr : k2 ≤ R0.cells) (hsr : n2 ≤ R0.slots) (hd : decode cc pc = .ok (.invokestatic index, 3)) (h : ∀ (x : X) (r : Int32), po r → gAt C k2 n2 (wo x ++ wr) lv (pc + 3) (.int r :: st)) : gAt C k n (wi ++ wr) lv pc stk :=
  g_callST pc hC hTs hM hm1 hm2 hm3 hm4 na hna hdd hR (List.range' 0 wi.length) (List.range' wi.length wr.length) wr (nd_range _ _) at_fst (nd_range _ _) at_snd (dis_fs _ _) hst hro ⟨Nat.le_trans hk2 hkr, Nat.le_trans hs2 hsr⟩ _ (fun _ => rfl) hd _ _ rfl rfl (fun x r hr => g_wide k2 n2 hk2 hs2 (g_perm List.perm_append_comm (h x r hr)))
/-- the script: an old cell, so nothing of the walk changes it -/
theorem scr_at {C : gT} {b L : Nat} {xs : Nat → Int32} {H : Heap} {locs : List Loc} (hA : ∀ q, g_A C q → (g_s C).heap.size ≤ q) (hX : va_X b L xs (g_s C) (g_s C).heap) (hS : va_S (g_A C) (g_s C).heap H locs) : va_X b L xs (g_s C) H := by
  have hb : b < (g_s C).heap.size := by
    obtain ⟨scr, h1, -⟩ := hX
    exact (Array.getElem?_eq_some_iff.mp h1).1
  exact hX.kept (hS.2.1 b hb (fun h => Nat.lt_irrefl _ (Nat.lt_of_lt_of_le hb (hA b h))))
theorem g_xlen (pc : Nat) {C : gT} {cc : ByteArray} {own : String} {R0 : Room} {nL k n : Nat} {ws : va_W} {lv : List (Nat × Value)} {st : List Value} (hC : gOk C cc own R0 nL) (hA : ∀ q, g_A C q → (g_s C).heap.size ≤ q) {b L : Nat} {xs : Nat → Int32} (hX : va_X b L xs (g_s C) (g_s C).heap) (hd : decode cc pc = .ok (.arraylength, 1)) (h : gAt C k n ws lv (pc + 1) (.int (nI L) :: st)) : gAt C k n ws lv pc (.ref b :: st) := by
  intro H locs ls hP hD hS hl
  obtain ⟨scr, h1, h2, h3, h4, h5⟩ := scr_at hA hX hS
  exact W.alen hC.1 hC.2.1 h1 h2 (show scr.slots.size.toInt32 = nI L from by rw [h4]; rfl) rfl rfl hd (h H locs ls hP hD hS hl)
theorem g_xald (pc : Nat) {C : gT} {cc : ByteArray} {own : String} {R0 : Room} {nL k n : Nat} {ws : va_W} {lv : List (Nat × Value)} {st : List Value} (hC : gOk C cc own R0 nL) (hA : ∀ q, g_A C q → (g_s C).heap.size ≤ q) {b L : Nat} {xs : Nat → Int32} (hX : va_X b L xs (g_s C) (g_s C).heap) (j : Nat) {i : Int32} (hi : i = nI j) (hj : j < L) (hL : L < 2 ^ 31) (hd : decode cc pc = .ok (.iaload, 1)) (h : gAt C k n ws lv (pc + 1) (.int (xs j) :: st)) : gAt C k n ws lv pc (.int i :: .ref b :: st) := by
  intro H locs ls hP hD hS hl
  subst hi
  obtain ⟨scr, h1, h2, h3, h4, h5⟩ := scr_at hA hX hS
  have hcl : (nI j).toNatClampNeg = j := nI_clamp (by omega)
  refine W.iald hC.1 hC.2.1 h1 h2 h3 ?_ (v := .int (xs j)) ?_ rfl rfl hd (h H locs ls hP hD hS hl)
  · rw [hcl, h4]
    rintro (h9 | h9)
    · exact nI_pos (by omega) h9
    · omega
  · rw [hcl]
    exact h5 j hj
theorem g_lcmp (pc : Nat) {C : gT} {cc : ByteArray} {own : String} {R0 : Room} {nL k n : Nat} {ws : va_W} {lv : List (Nat × Value)} {st : List Value} (hC : gOk C cc own R0 nL) {x y : Int64} (hxy : x = y) (hd : decode cc pc = .ok (.lcmp, 1)) (h : gAt C k n ws lv (pc + 1) (.int 0 :: st)) : gAt C k n ws lv pc (.long y :: .long x :: st) := by
  intro H locs ls hP hD hS hl
  subst hxy
  refine W.lcmp hC.1 hC.2.1 hd ?_
  rw [show lg_cmp x x = 0 from by simp [lg_cmp]]
  exact h H locs ls hP hD hS hl
