/-! THE G LAYER: 'gAt C k n ws lv pc st': from every heap that holds the cells ws, with locals lv, at pc, with operand stack st, the machine comes to a state with C's goal. Rows of the kit, said of 'gAt'. -/
abbrev gT : Type := Program × Launch × Env × Room × State × MethodId × Array Value × List Frame × Method × Code × (Nat → Prop) × va_G × (Nat → ClassId) × Nat × (State → Prop)
abbrev g_p (C : gT) : Program := C.1
abbrev g_l (C : gT) : Launch := C.2.1
abbrev g_e (C : gT) : Env := C.2.2.1
abbrev g_R (C : gT) : Room := C.2.2.2.1
abbrev g_s (C : gT) : State := C.2.2.2.2.1
abbrev g_m (C : gT) : MethodId := C.2.2.2.2.2.1
abbrev g_a (C : gT) : Array Value := C.2.2.2.2.2.2.1
abbrev g_b (C : gT) : List Frame := C.2.2.2.2.2.2.2.1
abbrev g_me (C : gT) : Method := C.2.2.2.2.2.2.2.2.1
abbrev g_c (C : gT) : Code := C.2.2.2.2.2.2.2.2.2.1
abbrev g_A (C : gT) : Nat → Prop := C.2.2.2.2.2.2.2.2.2.2.1
abbrev g_D (C : gT) : va_G := C.2.2.2.2.2.2.2.2.2.2.2.1
abbrev g_K (C : gT) : Nat → ClassId := C.2.2.2.2.2.2.2.2.2.2.2.2.1
abbrev g_n (C : gT) : Nat := C.2.2.2.2.2.2.2.2.2.2.2.2.2.1
abbrev g_Q (C : gT) : State → Prop := C.2.2.2.2.2.2.2.2.2.2.2.2.2.2
def gAt (C : gT) (k n : Nat) (ws : va_W) (lv : List (Nat × Value)) (pc : Nat) (st : List Value) : Prop :=
  ∀ (H : Heap) (locs : List Loc) (ls : Array Slot), va_P (g_D C) vwCl ws H → va_D (g_A C) ws → va_S (g_A C) (g_s C).heap H locs → lv_has ls (g_n C) lv →
    W (g_p C) (g_l C) (g_e C) (g_R C) (g_s C) (g_m C) (g_a C) (g_b C) (g_me C) (g_c C) H locs k n (g_Q C) (F0 (g_m C) pc ls st)
def gOk (C : gT) (cc : ByteArray) (own : String) (R0 : Room) (nL : Nat) : Prop :=
  (g_p C).tables.exec = Jvm.exec ∧ (g_c C).code = cc ∧ (g_c C).maxLocals = g_n C ∧ (g_s C).vm.findClass own = some (g_m C).cls ∧ (∀ w ∈ g_tbl, w.before (g_a C) (g_s C) = true) ∧ va_K (g_D C) vwCl (tyA (g_K C)) (g_s C) ∧ (∀ q, (g_s C).heap.size ≤ q → g_A C q) ∧ g_R C = R0 ∧ g_n C = nL ∧ va_AO "RotationPress$CodeTable" (g_s C)
theorem g_iconst (pc : Nat) {C : gT} {cc : ByteArray} {own : String} {R0 : Room} {nL k n : Nat} {ws : va_W} {lv : List (Nat × Value)} {st : List Value} (hC : gOk C cc own R0 nL) {z : Int} (v : Int32) (hv : Int32.ofInt z = v) (hd : decode cc pc = .ok (.iconst z, 1)) (h : gAt C k n ws lv (pc + 1) (.int v :: st)) : gAt C k n ws lv pc st :=
  fun H locs ls hP hD hS hl => lv_iconst hC.1 hC.2.1 hd hv (h H locs ls hP hD hS hl)
theorem g_bipush (pc : Nat) {C : gT} {cc : ByteArray} {own : String} {R0 : Room} {nL k n : Nat} {ws : va_W} {lv : List (Nat × Value)} {st : List Value} (hC : gOk C cc own R0 nL) {z : Int} (v : Int32) (hv : (Int8.ofInt z).toInt32 = v) (hd : decode cc pc = .ok (.bipush z, 2)) (h : gAt C k n ws lv (pc + 2) (.int v :: st)) : gAt C k n ws lv pc st :=
  fun H locs ls hP hD hS hl => lv_bipush hC.1 hC.2.1 hd hv (h H locs ls hP hD hS hl)
theorem g_sipush (pc : Nat) {C : gT} {cc : ByteArray} {own : String} {R0 : Room} {nL k n : Nat} {ws : va_W} {lv : List (Nat × Value)} {st : List Value} (hC : gOk C cc own R0 nL) {z : Int} (v : Int32) (hv : (Int16.ofInt z).toInt32 = v) (hd : decode cc pc = .ok (.sipush z, 3)) (h : gAt C k n ws lv (pc + 3) (.int v :: st)) : gAt C k n ws lv pc st :=
  fun H locs ls hP hD hS hl => lv_sipush hC.1 hC.2.1 hd hv (h H locs ls hP hD hS hl)
theorem g_ldc (pc : Nat) {C : gT} {cc : ByteArray} {own : String} {R0 : Room} {nL k n : Nat} {ws : va_W} {lv : List (Nat × Value)} {st : List Value} (hC : gOk C cc own R0 nL) {index : Nat} (v : Int32) (hw : Cond.constant own index v ∈ g_tbl) (hd : decode cc pc = .ok (.ldc index, 2)) (h : gAt C k n ws lv (pc + 2) (.int v :: st)) : gAt C k n ws lv pc st :=
  fun H locs ls hP hD hS hl => lv_ldc hC.1 hC.2.1 hC.2.2.2.1 (hC.2.2.2.2.1 _ hw) hd (h H locs ls hP hD hS hl)
theorem g_ldcw (pc : Nat) {C : gT} {cc : ByteArray} {own : String} {R0 : Room} {nL k n : Nat} {ws : va_W} {lv : List (Nat × Value)} {st : List Value} (hC : gOk C cc own R0 nL) {index : Nat} (v : Int32) (hw : Cond.constant own index v ∈ g_tbl) (hd : decode cc pc = .ok (.ldc_w index, 3)) (h : gAt C k n ws lv (pc + 3) (.int v :: st)) : gAt C k n ws lv pc st :=
  fun H locs ls hP hD hS hl => lv_ldcw hC.1 hC.2.1 hC.2.2.2.1 (hC.2.2.2.2.1 _ hw) hd (h H locs ls hP hD hS hl)
theorem g_iload_n (pc : Nat) {C : gT} {cc : ByteArray} {own : String} {R0 : Room} {nL k n : Nat} {ws : va_W} {lv : List (Nat × Value)} {st : List Value} (hC : gOk C cc own R0 nL) {i : Fin 4} {x : Int32} (j : Nat) (hj : lv[j]? = some ((i : Nat), .int x)) (hd : decode cc pc = .ok (.iload_n i, 1)) (h : gAt C k n ws lv (pc + 1) (.int x :: st)) : gAt C k n ws lv pc st :=
  fun H locs ls hP hD hS hl => lv_iload_n hC.1 hC.2.1 hd rfl (lv_at hl j hj) (h H locs ls hP hD hS hl)
theorem g_iload (pc : Nat) {C : gT} {cc : ByteArray} {own : String} {R0 : Room} {nL k n : Nat} {ws : va_W} {lv : List (Nat × Value)} {st : List Value} (hC : gOk C cc own R0 nL) {i : Nat} {x : Int32} (j : Nat) (hj : lv[j]? = some (i, .int x)) (hd : decode cc pc = .ok (.iload i, 2)) (h : gAt C k n ws lv (pc + 2) (.int x :: st)) : gAt C k n ws lv pc st :=
  fun H locs ls hP hD hS hl => lv_iload hC.1 hC.2.1 hd (lv_at hl j hj) (h H locs ls hP hD hS hl)
theorem g_istore_n (pc : Nat) {C : gT} {cc : ByteArray} {own : String} {R0 : Room} {nL k n : Nat} {ws : va_W} {lv : List (Nat × Value)} {st : List Value} (hC : gOk C cc own R0 nL) {i : Fin 4} {x : Int32} (lv2 : List (Nat × Value)) (hn : (i : Nat) < nL) (hl2 : ((i : Nat), Value.int x) :: lv.filter (fun q => !(q.1 == (i : Nat)) && !(q.1 + 1 == (i : Nat) && q.2.category == 2)) = lv2) (hd : decode cc pc = .ok (.istore_n i, 1)) (h : gAt C k n ws lv2 (pc + 1) st) : gAt C k n ws lv pc (.int x :: st) :=
  fun H locs ls hP hD hS hl => lv_istore_n hC.1 hC.2.1 hd rfl hl (Nat.lt_of_lt_of_eq hn hC.2.2.2.2.2.2.2.2.1.symm) hl2 (fun ls2 hl3 => h H locs ls2 hP hD hS hl3)
theorem g_istore (pc : Nat) {C : gT} {cc : ByteArray} {own : String} {R0 : Room} {nL k n : Nat} {ws : va_W} {lv : List (Nat × Value)} {st : List Value} (hC : gOk C cc own R0 nL) {i : Nat} {x : Int32} (lv2 : List (Nat × Value)) (hn : i < nL) (hl2 : (i, Value.int x) :: lv.filter (fun q => !(q.1 == i) && !(q.1 + 1 == i && q.2.category == 2)) = lv2) (hd : decode cc pc = .ok (.istore i, 2)) (h : gAt C k n ws lv2 (pc + 2) st) : gAt C k n ws lv pc (.int x :: st) :=
  fun H locs ls hP hD hS hl => lv_istore hC.1 hC.2.1 hd hl (Nat.lt_of_lt_of_eq hn hC.2.2.2.2.2.2.2.2.1.symm) hl2 (fun ls2 hl3 => h H locs ls2 hP hD hS hl3)
theorem g_aload_n (pc : Nat) {C : gT} {cc : ByteArray} {own : String} {R0 : Room} {nL k n : Nat} {ws : va_W} {lv : List (Nat × Value)} {st : List Value} (hC : gOk C cc own R0 nL) {i : Fin 4} {x : Nat} (j : Nat) (hj : lv[j]? = some ((i : Nat), .ref x)) (hd : decode cc pc = .ok (.aload_n i, 1)) (h : gAt C k n ws lv (pc + 1) (.ref x :: st)) : gAt C k n ws lv pc st :=
  fun H locs ls hP hD hS hl => lv_aload_n hC.1 hC.2.1 hd rfl (lv_at hl j hj) (h H locs ls hP hD hS hl)
theorem g_aload (pc : Nat) {C : gT} {cc : ByteArray} {own : String} {R0 : Room} {nL k n : Nat} {ws : va_W} {lv : List (Nat × Value)} {st : List Value} (hC : gOk C cc own R0 nL) {i : Nat} {x : Nat} (j : Nat) (hj : lv[j]? = some (i, .ref x)) (hd : decode cc pc = .ok (.aload i, 2)) (h : gAt C k n ws lv (pc + 2) (.ref x :: st)) : gAt C k n ws lv pc st :=
  fun H locs ls hP hD hS hl => lv_aload hC.1 hC.2.1 hd (lv_at hl j hj) (h H locs ls hP hD hS hl)
theorem g_astore_n (pc : Nat) {C : gT} {cc : ByteArray} {own : String} {R0 : Room} {nL k n : Nat} {ws : va_W} {lv : List (Nat × Value)} {st : List Value} (hC : gOk C cc own R0 nL) {i : Fin 4} {x : Nat} (lv2 : List (Nat × Value)) (hn : (i : Nat) < nL) (hl2 : ((i : Nat), Value.ref x) :: lv.filter (fun q => !(q.1 == (i : Nat)) && !(q.1 + 1 == (i : Nat) && q.2.category == 2)) = lv2) (hd : decode cc pc = .ok (.astore_n i, 1)) (h : gAt C k n ws lv2 (pc + 1) st) : gAt C k n ws lv pc (.ref x :: st) :=
  fun H locs ls hP hD hS hl => lv_astore_n hC.1 hC.2.1 hd rfl hl (Nat.lt_of_lt_of_eq hn hC.2.2.2.2.2.2.2.2.1.symm) hl2 (fun ls2 hl3 => h H locs ls2 hP hD hS hl3)
theorem g_astore (pc : Nat) {C : gT} {cc : ByteArray} {own : String} {R0 : Room} {nL k n : Nat} {ws : va_W} {lv : List (Nat × Value)} {st : List Value} (hC : gOk C cc own R0 nL) {i : Nat} {x : Nat} (lv2 : List (Nat × Value)) (hn : i < nL) (hl2 : (i, Value.ref x) :: lv.filter (fun q => !(q.1 == i) && !(q.1 + 1 == i && q.2.category == 2)) = lv2) (hd : decode cc pc = .ok (.astore i, 2)) (h : gAt C k n ws lv2 (pc + 2) st) : gAt C k n ws lv pc (.ref x :: st) :=
  fun H locs ls hP hD hS hl => lv_astore hC.1 hC.2.1 hd hl (Nat.lt_of_lt_of_eq hn hC.2.2.2.2.2.2.2.2.1.symm) hl2 (fun ls2 hl3 => h H locs ls2 hP hD hS hl3)
theorem g_iinc (pc : Nat) {C : gT} {cc : ByteArray} {own : String} {R0 : Room} {nL k n : Nat} {ws : va_W} {lv : List (Nat × Value)} {st : List Value} (hC : gOk C cc own R0 nL) {i : Nat} {z : Int} {x : Int32} (j : Nat) (v : Int32) (lv2 : List (Nat × Value)) (hj : lv[j]? = some (i, .int x)) (hv : Int32.ofInt z = v) (hn : i < nL) (hl2 : (i, Value.int (x + v)) :: lv.filter (fun q => !(q.1 == i) && !(q.1 + 1 == i && q.2.category == 2)) = lv2) (hd : decode cc pc = .ok (.iinc i z, 3)) (h : gAt C k n ws lv2 (pc + 3) st) : gAt C k n ws lv pc st :=
  fun H locs ls hP hD hS hl => lv_iinc hC.1 hC.2.1 hd hl hj (hv ▸ rfl) (Nat.lt_of_lt_of_eq hn hC.2.2.2.2.2.2.2.2.1.symm) hl2 (fun ls2 hl3 => h H locs ls2 hP hD hS hl3)
theorem g_iadd (pc : Nat) {C : gT} {cc : ByteArray} {own : String} {R0 : Room} {nL k n : Nat} {ws : va_W} {lv : List (Nat × Value)} {st : List Value} (hC : gOk C cc own R0 nL) {x y : Int32} (hd : decode cc pc = .ok (.iadd, 1)) (h : gAt C k n ws lv (pc + 1) (.int (x + y) :: st)) : gAt C k n ws lv pc (.int y :: .int x :: st) :=
  fun H locs ls hP hD hS hl => lv_iadd hC.1 hC.2.1 hd (h H locs ls hP hD hS hl)
theorem g_isub (pc : Nat) {C : gT} {cc : ByteArray} {own : String} {R0 : Room} {nL k n : Nat} {ws : va_W} {lv : List (Nat × Value)} {st : List Value} (hC : gOk C cc own R0 nL) {x y : Int32} (hd : decode cc pc = .ok (.isub, 1)) (h : gAt C k n ws lv (pc + 1) (.int (x - y) :: st)) : gAt C k n ws lv pc (.int y :: .int x :: st) :=
  fun H locs ls hP hD hS hl => lv_isub hC.1 hC.2.1 hd (h H locs ls hP hD hS hl)
theorem g_imul (pc : Nat) {C : gT} {cc : ByteArray} {own : String} {R0 : Room} {nL k n : Nat} {ws : va_W} {lv : List (Nat × Value)} {st : List Value} (hC : gOk C cc own R0 nL) {x y : Int32} (hd : decode cc pc = .ok (.imul, 1)) (h : gAt C k n ws lv (pc + 1) (.int (x * y) :: st)) : gAt C k n ws lv pc (.int y :: .int x :: st) :=
  fun H locs ls hP hD hS hl => lv_imul hC.1 hC.2.1 hd (h H locs ls hP hD hS hl)
theorem g_iand (pc : Nat) {C : gT} {cc : ByteArray} {own : String} {R0 : Room} {nL k n : Nat} {ws : va_W} {lv : List (Nat × Value)} {st : List Value} (hC : gOk C cc own R0 nL) {x y : Int32} (hd : decode cc pc = .ok (.iand, 1)) (h : gAt C k n ws lv (pc + 1) (.int (x &&& y) :: st)) : gAt C k n ws lv pc (.int y :: .int x :: st) :=
  fun H locs ls hP hD hS hl => lv_iand hC.1 hC.2.1 hd (h H locs ls hP hD hS hl)
theorem g_ior (pc : Nat) {C : gT} {cc : ByteArray} {own : String} {R0 : Room} {nL k n : Nat} {ws : va_W} {lv : List (Nat × Value)} {st : List Value} (hC : gOk C cc own R0 nL) {x y : Int32} (hd : decode cc pc = .ok (.ior, 1)) (h : gAt C k n ws lv (pc + 1) (.int (x ||| y) :: st)) : gAt C k n ws lv pc (.int y :: .int x :: st) :=
  fun H locs ls hP hD hS hl => lv_ior hC.1 hC.2.1 hd (h H locs ls hP hD hS hl)
theorem g_ixor (pc : Nat) {C : gT} {cc : ByteArray} {own : String} {R0 : Room} {nL k n : Nat} {ws : va_W} {lv : List (Nat × Value)} {st : List Value} (hC : gOk C cc own R0 nL) {x y : Int32} (hd : decode cc pc = .ok (.ixor, 1)) (h : gAt C k n ws lv (pc + 1) (.int (x ^^^ y) :: st)) : gAt C k n ws lv pc (.int y :: .int x :: st) :=
  fun H locs ls hP hD hS hl => lv_ixor hC.1 hC.2.1 hd (h H locs ls hP hD hS hl)
theorem g_ishl (pc : Nat) {C : gT} {cc : ByteArray} {own : String} {R0 : Room} {nL k n : Nat} {ws : va_W} {lv : List (Nat × Value)} {st : List Value} (hC : gOk C cc own R0 nL) {x y : Int32} (hd : decode cc pc = .ok (.ishl, 1)) (h : gAt C k n ws lv (pc + 1) (.int (x <<< (y &&& 31)) :: st)) : gAt C k n ws lv pc (.int y :: .int x :: st) :=
  fun H locs ls hP hD hS hl => lv_ishl hC.1 hC.2.1 hd (h H locs ls hP hD hS hl)
theorem g_ishr (pc : Nat) {C : gT} {cc : ByteArray} {own : String} {R0 : Room} {nL k n : Nat} {ws : va_W} {lv : List (Nat × Value)} {st : List Value} (hC : gOk C cc own R0 nL) {x y : Int32} (hd : decode cc pc = .ok (.ishr, 1)) (h : gAt C k n ws lv (pc + 1) (.int (x >>> (y &&& 31)) :: st)) : gAt C k n ws lv pc (.int y :: .int x :: st) :=
  fun H locs ls hP hD hS hl => lv_ishr hC.1 hC.2.1 hd (h H locs ls hP hD hS hl)
theorem g_ineg (pc : Nat) {C : gT} {cc : ByteArray} {own : String} {R0 : Room} {nL k n : Nat} {ws : va_W} {lv : List (Nat × Value)} {st : List Value} (hC : gOk C cc own R0 nL) {x : Int32} (hd : decode cc pc = .ok (.ineg, 1)) (h : gAt C k n ws lv (pc + 1) (.int (-x) :: st)) : gAt C k n ws lv pc (.int x :: st) :=
  fun H locs ls hP hD hS hl => lv_ineg hC.1 hC.2.1 hd (h H locs ls hP hD hS hl)
theorem g_iushr (pc : Nat) {C : gT} {cc : ByteArray} {own : String} {R0 : Room} {nL k n : Nat} {ws : va_W} {lv : List (Nat × Value)} {st : List Value} (hC : gOk C cc own R0 nL) {x y : Int32} (hd : decode cc pc = .ok (.iushr, 1)) (h : gAt C k n ws lv (pc + 1) (.int (ush x y) :: st)) : gAt C k n ws lv pc (.int y :: .int x :: st) :=
  fun H locs ls hP hD hS hl => lv_iushr hC.1 hC.2.1 hd rfl (h H locs ls hP hD hS hl)
theorem g_idiv (pc : Nat) {C : gT} {cc : ByteArray} {own : String} {R0 : Room} {nL k n : Nat} {ws : va_W} {lv : List (Nat × Value)} {st : List Value} (hC : gOk C cc own R0 nL) {x y : Int32} (hne : nz y = true) (hd : decode cc pc = .ok (.idiv, 1)) (h : gAt C k n ws lv (pc + 1) (.int (x / y) :: st)) : gAt C k n ws lv pc (.int y :: .int x :: st) :=
  fun H locs ls hP hD hS hl => lv_idiv hC.1 hC.2.1 hd (nz_ne hne) (h H locs ls hP hD hS hl)
theorem g_irem (pc : Nat) {C : gT} {cc : ByteArray} {own : String} {R0 : Room} {nL k n : Nat} {ws : va_W} {lv : List (Nat × Value)} {st : List Value} (hC : gOk C cc own R0 nL) {x y : Int32} (hne : nz y = true) (hd : decode cc pc = .ok (.irem, 1)) (h : gAt C k n ws lv (pc + 1) (.int (x - x / y * y) :: st)) : gAt C k n ws lv pc (.int y :: .int x :: st) :=
  fun H locs ls hP hD hS hl => lv_irem hC.1 hC.2.1 hd (nz_ne hne) (h H locs ls hP hD hS hl)
theorem g_i2l (pc : Nat) {C : gT} {cc : ByteArray} {own : String} {R0 : Room} {nL k n : Nat} {ws : va_W} {lv : List (Nat × Value)} {st : List Value} (hC : gOk C cc own R0 nL) {x : Int32} (hd : decode cc pc = .ok (.i2l, 1)) (h : gAt C k n ws lv (pc + 1) (.long x.toInt64 :: st)) : gAt C k n ws lv pc (.int x :: st) :=
  fun H locs ls hP hD hS hl => lv_i2l hC.1 hC.2.1 hd rfl (h H locs ls hP hD hS hl)
theorem g_dup (pc : Nat) {C : gT} {cc : ByteArray} {own : String} {R0 : Room} {nL k n : Nat} {ws : va_W} {lv : List (Nat × Value)} {st : List Value} (hC : gOk C cc own R0 nL) {v : Value} (hv : v.category = 1) (hd : decode cc pc = .ok (.dup, 1)) (h : gAt C k n ws lv (pc + 1) (v :: v :: st)) : gAt C k n ws lv pc (v :: st) :=
  fun H locs ls hP hD hS hl => lv_dup hC.1 hC.2.1 hd hv (h H locs ls hP hD hS hl)
theorem g_pop (pc : Nat) {C : gT} {cc : ByteArray} {own : String} {R0 : Room} {nL k n : Nat} {ws : va_W} {lv : List (Nat × Value)} {st : List Value} (hC : gOk C cc own R0 nL) {v : Value} (hv : v.category = 1) (hd : decode cc pc = .ok (.pop, 1)) (h : gAt C k n ws lv (pc + 1) st) : gAt C k n ws lv pc (v :: st) :=
  fun H locs ls hP hD hS hl => lv_pop hC.1 hC.2.1 hd hv (h H locs ls hP hD hS hl)
theorem g_dup_x1 (pc : Nat) {C : gT} {cc : ByteArray} {own : String} {R0 : Room} {nL k n : Nat} {ws : va_W} {lv : List (Nat × Value)} {st : List Value} (hC : gOk C cc own R0 nL) {v w : Value} (hv : v.category = 1) (hw : w.category = 1) (hd : decode cc pc = .ok (.dup_x1, 1)) (h : gAt C k n ws lv (pc + 1) (v :: w :: v :: st)) : gAt C k n ws lv pc (v :: w :: st) :=
  fun H locs ls hP hD hS hl => lv_dup_x1 hC.1 hC.2.1 hd hv hw (h H locs ls hP hD hS hl)
theorem g_dup2 (pc : Nat) {C : gT} {cc : ByteArray} {own : String} {R0 : Room} {nL k n : Nat} {ws : va_W} {lv : List (Nat × Value)} {st : List Value} (hC : gOk C cc own R0 nL) {v w : Value} (hv : v.category = 1) (hw : w.category = 1) (hd : decode cc pc = .ok (.dup2, 1)) (h : gAt C k n ws lv (pc + 1) (v :: w :: v :: w :: st)) : gAt C k n ws lv pc (v :: w :: st) :=
  fun H locs ls hP hD hS hl => lv_dup2_11 hC.1 hC.2.1 hd hv hw (h H locs ls hP hD hS hl)
theorem g_if_eq (pc : Nat) {C : gT} {cc : ByteArray} {own : String} {R0 : Room} {nL k n : Nat} {ws : va_W} {lv : List (Nat × Value)} {st : List Value} (hC : gOk C cc own R0 nL) {x : Int32} {off : Int} (tgt : Nat) (ht : (pc : Int) + off = (tgt : Int)) (hd : decode cc pc = .ok (.ifCond .eq off, 3)) (kt : x = 0 → gAt C k n ws lv tgt st) (kf : ¬ x = 0 → gAt C k n ws lv (pc + 3) st) : gAt C k n ws lv pc (.int x :: st) :=
  fun H locs ls hP hD hS hl => lv_if_eq hC.1 hC.2.1 hd ht (fun q => kt q H locs ls hP hD hS hl) (fun q => kf q H locs ls hP hD hS hl)
theorem g_if_ne (pc : Nat) {C : gT} {cc : ByteArray} {own : String} {R0 : Room} {nL k n : Nat} {ws : va_W} {lv : List (Nat × Value)} {st : List Value} (hC : gOk C cc own R0 nL) {x : Int32} {off : Int} (tgt : Nat) (ht : (pc : Int) + off = (tgt : Int)) (hd : decode cc pc = .ok (.ifCond .ne off, 3)) (kt : ¬ x = 0 → gAt C k n ws lv tgt st) (kf : x = 0 → gAt C k n ws lv (pc + 3) st) : gAt C k n ws lv pc (.int x :: st) :=
  fun H locs ls hP hD hS hl => lv_if_ne hC.1 hC.2.1 hd ht (fun q => kt q H locs ls hP hD hS hl) (fun q => kf q H locs ls hP hD hS hl)
theorem g_if_lt (pc : Nat) {C : gT} {cc : ByteArray} {own : String} {R0 : Room} {nL k n : Nat} {ws : va_W} {lv : List (Nat × Value)} {st : List Value} (hC : gOk C cc own R0 nL) {x : Int32} {off : Int} (tgt : Nat) (ht : (pc : Int) + off = (tgt : Int)) (hd : decode cc pc = .ok (.ifCond .lt off, 3)) (kt : x < 0 → gAt C k n ws lv tgt st) (kf : ¬ x < 0 → gAt C k n ws lv (pc + 3) st) : gAt C k n ws lv pc (.int x :: st) :=
  fun H locs ls hP hD hS hl => lv_if_lt hC.1 hC.2.1 hd ht (fun q => kt q H locs ls hP hD hS hl) (fun q => kf q H locs ls hP hD hS hl)
theorem g_if_ge (pc : Nat) {C : gT} {cc : ByteArray} {own : String} {R0 : Room} {nL k n : Nat} {ws : va_W} {lv : List (Nat × Value)} {st : List Value} (hC : gOk C cc own R0 nL) {x : Int32} {off : Int} (tgt : Nat) (ht : (pc : Int) + off = (tgt : Int)) (hd : decode cc pc = .ok (.ifCond .ge off, 3)) (kt : 0 ≤ x → gAt C k n ws lv tgt st) (kf : ¬ 0 ≤ x → gAt C k n ws lv (pc + 3) st) : gAt C k n ws lv pc (.int x :: st) :=
  fun H locs ls hP hD hS hl => lv_if_ge hC.1 hC.2.1 hd ht (fun q => kt q H locs ls hP hD hS hl) (fun q => kf q H locs ls hP hD hS hl)
theorem g_if_gt (pc : Nat) {C : gT} {cc : ByteArray} {own : String} {R0 : Room} {nL k n : Nat} {ws : va_W} {lv : List (Nat × Value)} {st : List Value} (hC : gOk C cc own R0 nL) {x : Int32} {off : Int} (tgt : Nat) (ht : (pc : Int) + off = (tgt : Int)) (hd : decode cc pc = .ok (.ifCond .gt off, 3)) (kt : 0 < x → gAt C k n ws lv tgt st) (kf : ¬ 0 < x → gAt C k n ws lv (pc + 3) st) : gAt C k n ws lv pc (.int x :: st) :=
  fun H locs ls hP hD hS hl => lv_if_gt hC.1 hC.2.1 hd ht (fun q => kt q H locs ls hP hD hS hl) (fun q => kf q H locs ls hP hD hS hl)
theorem g_if_le (pc : Nat) {C : gT} {cc : ByteArray} {own : String} {R0 : Room} {nL k n : Nat} {ws : va_W} {lv : List (Nat × Value)} {st : List Value} (hC : gOk C cc own R0 nL) {x : Int32} {off : Int} (tgt : Nat) (ht : (pc : Int) + off = (tgt : Int)) (hd : decode cc pc = .ok (.ifCond .le off, 3)) (kt : x ≤ 0 → gAt C k n ws lv tgt st) (kf : ¬ x ≤ 0 → gAt C k n ws lv (pc + 3) st) : gAt C k n ws lv pc (.int x :: st) :=
  fun H locs ls hP hD hS hl => lv_if_le hC.1 hC.2.1 hd ht (fun q => kt q H locs ls hP hD hS hl) (fun q => kf q H locs ls hP hD hS hl)
theorem g_icmp_eq (pc : Nat) {C : gT} {cc : ByteArray} {own : String} {R0 : Room} {nL k n : Nat} {ws : va_W} {lv : List (Nat × Value)} {st : List Value} (hC : gOk C cc own R0 nL) {x y : Int32} {off : Int} (tgt : Nat) (ht : (pc : Int) + off = (tgt : Int)) (hd : decode cc pc = .ok (.if_icmp .eq off, 3)) (kt : x = y → gAt C k n ws lv tgt st) (kf : ¬ x = y → gAt C k n ws lv (pc + 3) st) : gAt C k n ws lv pc (.int y :: .int x :: st) :=
  fun H locs ls hP hD hS hl => lv_icmp_eq hC.1 hC.2.1 hd ht (fun q => kt q H locs ls hP hD hS hl) (fun q => kf q H locs ls hP hD hS hl)
theorem g_icmp_ne (pc : Nat) {C : gT} {cc : ByteArray} {own : String} {R0 : Room} {nL k n : Nat} {ws : va_W} {lv : List (Nat × Value)} {st : List Value} (hC : gOk C cc own R0 nL) {x y : Int32} {off : Int} (tgt : Nat) (ht : (pc : Int) + off = (tgt : Int)) (hd : decode cc pc = .ok (.if_icmp .ne off, 3)) (kt : ¬ x = y → gAt C k n ws lv tgt st) (kf : x = y → gAt C k n ws lv (pc + 3) st) : gAt C k n ws lv pc (.int y :: .int x :: st) :=
  fun H locs ls hP hD hS hl => lv_icmp_ne hC.1 hC.2.1 hd ht (fun q => kt q H locs ls hP hD hS hl) (fun q => kf q H locs ls hP hD hS hl)
theorem g_icmp_lt (pc : Nat) {C : gT} {cc : ByteArray} {own : String} {R0 : Room} {nL k n : Nat} {ws : va_W} {lv : List (Nat × Value)} {st : List Value} (hC : gOk C cc own R0 nL) {x y : Int32} {off : Int} (tgt : Nat) (ht : (pc : Int) + off = (tgt : Int)) (hd : decode cc pc = .ok (.if_icmp .lt off, 3)) (kt : x < y → gAt C k n ws lv tgt st) (kf : ¬ x < y → gAt C k n ws lv (pc + 3) st) : gAt C k n ws lv pc (.int y :: .int x :: st) :=
  fun H locs ls hP hD hS hl => lv_icmp_lt hC.1 hC.2.1 hd ht (fun q => kt q H locs ls hP hD hS hl) (fun q => kf q H locs ls hP hD hS hl)
theorem g_icmp_ge (pc : Nat) {C : gT} {cc : ByteArray} {own : String} {R0 : Room} {nL k n : Nat} {ws : va_W} {lv : List (Nat × Value)} {st : List Value} (hC : gOk C cc own R0 nL) {x y : Int32} {off : Int} (tgt : Nat) (ht : (pc : Int) + off = (tgt : Int)) (hd : decode cc pc = .ok (.if_icmp .ge off, 3)) (kt : y ≤ x → gAt C k n ws lv tgt st) (kf : ¬ y ≤ x → gAt C k n ws lv (pc + 3) st) : gAt C k n ws lv pc (.int y :: .int x :: st) :=
  fun H locs ls hP hD hS hl => lv_icmp_ge hC.1 hC.2.1 hd ht (fun q => kt q H locs ls hP hD hS hl) (fun q => kf q H locs ls hP hD hS hl)
theorem g_icmp_gt (pc : Nat) {C : gT} {cc : ByteArray} {own : String} {R0 : Room} {nL k n : Nat} {ws : va_W} {lv : List (Nat × Value)} {st : List Value} (hC : gOk C cc own R0 nL) {x y : Int32} {off : Int} (tgt : Nat) (ht : (pc : Int) + off = (tgt : Int)) (hd : decode cc pc = .ok (.if_icmp .gt off, 3)) (kt : y < x → gAt C k n ws lv tgt st) (kf : ¬ y < x → gAt C k n ws lv (pc + 3) st) : gAt C k n ws lv pc (.int y :: .int x :: st) :=
  fun H locs ls hP hD hS hl => lv_icmp_gt hC.1 hC.2.1 hd ht (fun q => kt q H locs ls hP hD hS hl) (fun q => kf q H locs ls hP hD hS hl)
theorem g_icmp_le (pc : Nat) {C : gT} {cc : ByteArray} {own : String} {R0 : Room} {nL k n : Nat} {ws : va_W} {lv : List (Nat × Value)} {st : List Value} (hC : gOk C cc own R0 nL) {x y : Int32} {off : Int} (tgt : Nat) (ht : (pc : Int) + off = (tgt : Int)) (hd : decode cc pc = .ok (.if_icmp .le off, 3)) (kt : x ≤ y → gAt C k n ws lv tgt st) (kf : ¬ x ≤ y → gAt C k n ws lv (pc + 3) st) : gAt C k n ws lv pc (.int y :: .int x :: st) :=
  fun H locs ls hP hD hS hl => lv_icmp_le hC.1 hC.2.1 hd ht (fun q => kt q H locs ls hP hD hS hl) (fun q => kf q H locs ls hP hD hS hl)
theorem g_goto (pc : Nat) {C : gT} {cc : ByteArray} {own : String} {R0 : Room} {nL k n : Nat} {ws : va_W} {lv : List (Nat × Value)} {st : List Value} (hC : gOk C cc own R0 nL) {off : Int} (tgt : Nat) (ht : (pc : Int) + off = (tgt : Int)) (hd : decode cc pc = .ok (.goto off, 3)) (h : gAt C k n ws lv tgt st) : gAt C k n ws lv pc st :=
  fun H locs ls hP hD hS hl => lv_goto hC.1 hC.2.1 hd ht (h H locs ls hP hD hS hl)
theorem g_get (pc : Nat) {C : gT} {cc : ByteArray} {own : String} {R0 : Room} {nL k n : Nat} {ws : va_W} {lv : List (Nat × Value)} {st : List Value} (hC : gOk C cc own R0 nL) {Cn : String} {T : u_T} {N ci index a : Nat} (hin : ∀ w ∈ u_ws Cn T N, w ∈ g_tbl) (hc : vwCl[ci]? = some (Cn, T, N)) (q0 : Nat) {fs : List Value} (he : ws[q0]? = some (a, .inr (ci, fs))) (j : Nat) (hj : j < N) (hw : Cond.fieldLink own index (T j).1 (T j).2.1 (T j).2.2.1 ∈ g_tbl) {v : Value} (hv : fs[j]? = some v) (hd : decode cc pc = .ok (.getfield index, 3)) (h : gAt C k n ws lv (pc + 3) (v :: st)) : gAt C k n ws lv pc (.ref a :: st) :=
  fun H locs ls hP hD hS hl => va_get hC.1 hC.2.1 hC.2.2.2.2.1 hin hC.2.2.2.1 hC.2.2.2.2.2.1 hP q0 he hc j hj (hC.2.2.2.2.1 _ hw) (fun _ h9 => h9) hv hd (h H locs ls hP hD hS hl)
theorem g_getN (pc : Nat) {C : gT} {cc : ByteArray} {own : String} {R0 : Room} {nL k n : Nat} {ws : va_W} {lv : List (Nat × Value)} {st : List Value} (hC : gOk C cc own R0 nL) {Cn : String} {T : u_T} {N ci index a : Nat} (hin : ∀ w ∈ u_ws Cn T N, w ∈ g_tbl) (hc : vwCl[ci]? = some (Cn, T, N)) (q0 : Nat) {fs : List Value} (he : ws[q0]? = some (a, .inr (ci, fs))) (j : Nat) (hj : j < N) {host : String} (hw : Cond.fieldLinkNest own index (T j).1 (T j).2.1 (T j).2.2.1 host ∈ g_tbl) {v : Value} (hv : fs[j]? = some v) (hd : decode cc pc = .ok (.getfield index, 3)) (h : gAt C k n ws lv (pc + 3) (v :: st)) : gAt C k n ws lv pc (.ref a :: st) :=
  fun H locs ls hP hD hS hl => va_getN hC.1 hC.2.1 hC.2.2.2.2.1 hin hC.2.2.2.1 hC.2.2.2.2.2.1 hP q0 he hc j hj (hC.2.2.2.2.1 _ hw) (fun _ h9 => h9) hv hd (h H locs ls hP hD hS hl)
theorem g_put (pc : Nat) {C : gT} {cc : ByteArray} {own : String} {R0 : Room} {nL k n : Nat} {ws : va_W} {lv : List (Nat × Value)} {st : List Value} (hC : gOk C cc own R0 nL) {Cn : String} {T : u_T} {N ci index a : Nat} (hin : ∀ w ∈ u_ws Cn T N, w ∈ g_tbl) (hc : vwCl[ci]? = some (Cn, T, N)) (q0 : Nat) {fs : List Value} (he : ws[q0]? = some (a, .inr (ci, fs))) (j : Nat) (hj : j < N) (ty0 : Nat → FieldType) (hty : ∀ k, k < N → parseFieldDescriptor (T k).2.2.1 = some (ty0 k)) (hnm : ∀ a, a < N → ∀ b, b < N → a ≠ b → (T a).2.1 ≠ (T b).2.1) (hw : Cond.fieldLink own index (T j).1 (T j).2.1 (T j).2.2.1 ∈ g_tbl) (hfin : (T j).2.2.2 = false) {v : Value} (hna : narrow (ty0 j) v = v) (hfi : fits (ty0 j) v = true) (hle : j < fs.length) (ws2 : va_W) (hs2 : ws.set q0 (a, .inr (ci, fs.set j v)) = ws2) (hd : decode cc pc = .ok (.putfield index, 3)) (h : gAt C k n ws2 lv (pc + 3) st) : gAt C k n ws lv pc (v :: .ref a :: st) :=
  fun H locs ls hP hD hS hl => va_put hC.1 hC.2.1 hC.2.2.2.2.1 hin ty0 hty hnm hC.2.2.2.1 hC.2.2.2.2.2.1 hP hD hS q0 he hc j hj (hC.2.2.2.2.1 _ hw) (fun _ h9 => h9) hfin (hty j hj) hna hfi hle hd (fun H1 locs1 hP1 hD1 hS1 => h H1 locs1 ls (hs2 ▸ hP1) (hs2 ▸ hD1) hS1 hl)
theorem g_putN (pc : Nat) {C : gT} {cc : ByteArray} {own : String} {R0 : Room} {nL k n : Nat} {ws : va_W} {lv : List (Nat × Value)} {st : List Value} (hC : gOk C cc own R0 nL) {Cn : String} {T : u_T} {N ci index a : Nat} (hin : ∀ w ∈ u_ws Cn T N, w ∈ g_tbl) (hc : vwCl[ci]? = some (Cn, T, N)) (q0 : Nat) {fs : List Value} (he : ws[q0]? = some (a, .inr (ci, fs))) (j : Nat) (hj : j < N) (ty0 : Nat → FieldType) (hty : ∀ k, k < N → parseFieldDescriptor (T k).2.2.1 = some (ty0 k)) (hnm : ∀ a, a < N → ∀ b, b < N → a ≠ b → (T a).2.1 ≠ (T b).2.1) {host : String} (hw : Cond.fieldLinkNest own index (T j).1 (T j).2.1 (T j).2.2.1 host ∈ g_tbl) (hfin : (T j).2.2.2 = false) {v : Value} (hna : narrow (ty0 j) v = v) (hfi : fits (ty0 j) v = true) (hle : j < fs.length) (ws2 : va_W) (hs2 : ws.set q0 (a, .inr (ci, fs.set j v)) = ws2) (hd : decode cc pc = .ok (.putfield index, 3)) (h : gAt C k n ws2 lv (pc + 3) st) : gAt C k n ws lv pc (v :: .ref a :: st) :=
  fun H locs ls hP hD hS hl => va_putN hC.1 hC.2.1 hC.2.2.2.2.1 hin ty0 hty hnm hC.2.2.2.1 hC.2.2.2.2.2.1 hP hD hS q0 he hc j hj (hC.2.2.2.2.1 _ hw) (fun _ h9 => h9) hfin (hty j hj) hna hfi hle hd (fun H1 locs1 hP1 hD1 hS1 => h H1 locs1 ls (hs2 ▸ hP1) (hs2 ▸ hD1) hS1 hl)
theorem g_putF (pc : Nat) {C : gT} {cc : ByteArray} {own : String} {R0 : Room} {nL k n : Nat} {ws : va_W} {lv : List (Nat × Value)} {st : List Value} (hC : gOk C cc own R0 nL) {Cn : String} {T : u_T} {N ci index a : Nat} (hin : ∀ w ∈ u_ws Cn T N, w ∈ g_tbl) (hc : vwCl[ci]? = some (Cn, T, N)) (q0 : Nat) {fs : List Value} (he : ws[q0]? = some (a, .inr (ci, fs))) (j : Nat) (hj : j < N) (ty0 : Nat → FieldType) (hty : ∀ k, k < N → parseFieldDescriptor (T k).2.2.1 = some (ty0 k)) (hnm : ∀ a, a < N → ∀ b, b < N → a ≠ b → (T a).2.1 ≠ (T b).2.1) (hw : Cond.fieldLink own index (T j).1 (T j).2.1 (T j).2.2.1 ∈ g_tbl) (hfin : (T j).2.2.2 = true) (hini : (g_me C).name = "<init>") (hdl : (T j).1 = own) {v : Value} (hna : narrow (ty0 j) v = v) (hfi : fits (ty0 j) v = true) (hle : j < fs.length) (ws2 : va_W) (hs2 : ws.set q0 (a, .inr (ci, fs.set j v)) = ws2) (hd : decode cc pc = .ok (.putfield index, 3)) (h : gAt C k n ws2 lv (pc + 3) st) : gAt C k n ws lv pc (v :: .ref a :: st) :=
  fun H locs ls hP hD hS hl => va_putF hC.1 hC.2.1 hC.2.2.2.2.1 hin ty0 hty hnm hC.2.2.2.1 hC.2.2.2.2.2.1 hP hD hS q0 he hc j hj (hC.2.2.2.2.1 _ hw) (fun _ h9 => h9) hfin hini hdl (hty j hj) hna hfi hle hd (fun H1 locs1 hP1 hD1 hS1 => h H1 locs1 ls (hs2 ▸ hP1) (hs2 ▸ hD1) hS1 hl)
theorem g_iald (pc : Nat) {C : gT} {cc : ByteArray} {own : String} {R0 : Room} {nL k n : Nat} {ws : va_W} {lv : List (Nat × Value)} {st : List Value} (hC : gOk C cc own R0 nL) (q0 : Nat) {a : Nat} {N : Nat} {f : Nat → Int32} (ha : ws[q0]? = some (a, .inl (g_K C 0, N, .inl f))) {i : Int32} (hi : ix i N = true) (hd : decode cc pc = .ok (.iaload, 1)) (h : gAt C k n ws lv (pc + 1) (.int (f i.toNatClampNeg) :: st)) : gAt C k n ws lv pc (.int i :: .ref a :: st) :=
  fun H locs ls hP hD hS hl => va_iald hC.1 hC.2.1 hC.2.2.2.2.2.1 hP q0 0 ha rfl (ix_in hi) hd (h H locs ls hP hD hS hl)
theorem g_iast (pc : Nat) {C : gT} {cc : ByteArray} {own : String} {R0 : Room} {nL k n : Nat} {ws : va_W} {lv : List (Nat × Value)} {st : List Value} (hC : gOk C cc own R0 nL) (q0 : Nat) {a : Nat} {N : Nat} {f : Nat → Int32} (ha : ws[q0]? = some (a, .inl (g_K C 0, N, .inl f))) {i x : Int32} (hi : ix i N = true) (ws2 : va_W) (hs2 : ws.set q0 (a, .inl (g_K C 0, N, .inl (upd f i.toNatClampNeg x))) = ws2) (hd : decode cc pc = .ok (.iastore, 1)) (h : gAt C k n ws2 lv (pc + 1) st) : gAt C k n ws lv pc (.int x :: .int i :: .ref a :: st) :=
  fun H locs ls hP hD hS hl => va_iast hC.1 hC.2.1 hC.2.2.2.2.2.1 hP hD hS q0 0 ha rfl (ix_in hi) hd (fun H1 locs1 hP1 hD1 hS1 => h H1 locs1 ls (hs2 ▸ hP1) (hs2 ▸ hD1) hS1 hl)
theorem g_alen (pc : Nat) {C : gT} {cc : ByteArray} {own : String} {R0 : Room} {nL k n : Nat} {ws : va_W} {lv : List (Nat × Value)} {st : List Value} (hC : gOk C cc own R0 nL) (q0 : Nat) {a : Nat} {N : Nat} {f : Nat → Int32} (ha : ws[q0]? = some (a, .inl (g_K C 0, N, .inl f))) (hd : decode cc pc = .ok (.arraylength, 1)) (h : gAt C k n ws lv (pc + 1) (.int (Int32.ofNat N) :: st)) : gAt C k n ws lv pc (.ref a :: st) :=
  fun H locs ls hP hD hS hl => va_alen hC.1 hC.2.1 hC.2.2.2.2.2.1 hP q0 0 ha rfl rfl hd (h H locs ls hP hD hS hl)
theorem g_mmax (pc : Nat) {C : gT} {cc : ByteArray} {own : String} {R0 : Room} {nL k n : Nat} {ws : va_W} {lv : List (Nat × Value)} {st : List Value} (hC : gOk C cc own R0 nL) {index : Nat} {x y : Int32} (hm1 : Cond.methodLink own index Lib.Math.max.name ∈ g_tbl) (hm2 : Cond.static Lib.Math.max.name ∈ g_tbl) (hm3 : Cond.initialized "java/lang/Math" ∈ g_tbl) (hm4 : Cond.code Lib.Math.max.name Lib.Math.max.code 2 (some .int) ∈ g_tbl) (hfr : 1 ≤ R0.frames) (hlo : (st.map fun v => v.category).sum + 13 ≤ R0.locals) (hce : k ≤ R0.cells) (hsl : n ≤ R0.slots) (hd : decode cc pc = .ok (.invokestatic index, 3)) (h : gAt C k n ws lv (pc + 3) (.int (jmax x y) :: st)) : gAt C k n ws lv pc (.int y :: .int x :: st) :=
  fun H locs ls hP hD hS hl => va_mmax hC.1 hC.2.1 (hC.2.2.1.trans hl.1.symm) hC.2.2.2.1 (hC.2.2.2.2.1 _ hm1) (hC.2.2.2.2.1 _ hm2) (hC.2.2.2.2.1 _ hm3) (hC.2.2.2.2.1 _ hm4) (by rw [hC.2.2.2.2.2.2.2.1]; exact hfr) (by rw [hC.2.2.2.2.2.2.2.1]; exact hlo) (by rw [hC.2.2.2.2.2.2.2.1]; exact hce) (by rw [hC.2.2.2.2.2.2.2.1]; exact hsl) hd (h H locs ls hP hD hS hl)
theorem g_mmin (pc : Nat) {C : gT} {cc : ByteArray} {own : String} {R0 : Room} {nL k n : Nat} {ws : va_W} {lv : List (Nat × Value)} {st : List Value} (hC : gOk C cc own R0 nL) {index : Nat} {x y : Int32} (hm1 : Cond.methodLink own index Lib.Math.min.name ∈ g_tbl) (hm2 : Cond.static Lib.Math.min.name ∈ g_tbl) (hm3 : Cond.initialized "java/lang/Math" ∈ g_tbl) (hm4 : Cond.code Lib.Math.min.name Lib.Math.min.code 2 (some .int) ∈ g_tbl) (hfr : 1 ≤ R0.frames) (hlo : (st.map fun v => v.category).sum + 13 ≤ R0.locals) (hce : k ≤ R0.cells) (hsl : n ≤ R0.slots) (hd : decode cc pc = .ok (.invokestatic index, 3)) (h : gAt C k n ws lv (pc + 3) (.int (jmin x y) :: st)) : gAt C k n ws lv pc (.int y :: .int x :: st) :=
  fun H locs ls hP hD hS hl => va_mmin hC.1 hC.2.1 (hC.2.2.1.trans hl.1.symm) hC.2.2.2.1 (hC.2.2.2.2.1 _ hm1) (hC.2.2.2.2.1 _ hm2) (hC.2.2.2.2.1 _ hm3) (hC.2.2.2.2.1 _ hm4) (by rw [hC.2.2.2.2.2.2.2.1]; exact hfr) (by rw [hC.2.2.2.2.2.2.2.1]; exact hlo) (by rw [hC.2.2.2.2.2.2.2.1]; exact hce) (by rw [hC.2.2.2.2.2.2.2.1]; exact hsl) hd (h H locs ls hP hD hS hl)
theorem g_acopy (pc : Nat) {C : gT} {cc : ByteArray} {own : String} {R0 : Room} {nL k n : Nat} {ws : va_W} {lv : List (Nat × Value)} {st : List Value} (hC : gOk C cc own R0 nL) {index : Nat} (hm1 : Cond.methodLink own index arraycopyName ∈ g_tbl) (hm2 : Cond.native arraycopyName ∈ g_tbl) (hm3 : Cond.static arraycopyName ∈ g_tbl) (hm4 : Cond.initialized "java/lang/System" ∈ g_tbl) (q0 q1 : Nat) {a0 a : Nat} {n0 n1 : Nat} {f g : Nat → Int32} (ha0 : ws[q0]? = some (a0, .inl (g_K C 0, n0, .inl f))) (ha1 : ws[q1]? = some (a, .inl (g_K C 0, n1, .inl g))) {sp dp z : Int32} (hok : cpk sp dp z n0 n1 = true) (hfr : 1 ≤ R0.frames) (hlo : (st.map fun v => v.category).sum + (nativeFrameWords "java/lang/System" "arraycopy" 5 + 11) ≤ R0.locals) (ws2 : va_W) (hs2 : ws.set q1 (a, .inl (g_K C 0, n1, .inl (va_cpy f g sp.toNatClampNeg dp.toNatClampNeg z.toNatClampNeg))) = ws2) (hd : decode cc pc = .ok (.invokestatic index, 3)) (h : gAt C k n ws2 lv (pc + 3) st) : gAt C k n ws lv pc (.int z :: .int dp :: .ref a :: .int sp :: .ref a0 :: st) :=
  fun H locs ls hP hD hS hl => va_copyi hC.1 hC.2.1 (hC.2.2.1.trans hl.1.symm) hC.2.2.2.1 (hC.2.2.2.2.1 _ hm1) (hC.2.2.2.2.1 _ hm2) (hC.2.2.2.2.1 _ hm3) (hC.2.2.2.2.1 _ hm4) hC.2.2.2.2.2.1 hP hD hS q0 q1 0 0 ha0 ha1 rfl rfl rfl (cpk_ok hok).1 (cpk_ok hok).2.1 (cpk_ok hok).2.2.1 (cpk_ok hok).2.2.2.1 (cpk_ok hok).2.2.2.2 (fun _ _ => rfl) (by rw [hC.2.2.2.2.2.2.2.1]; exact hfr) (by rw [hC.2.2.2.2.2.2.2.1]; exact hlo) hd (fun H1 locs1 hP1 hD1 hS1 => h H1 locs1 ls (hs2 ▸ hP1) (hs2 ▸ hD1) hS1 hl)
theorem g_bald (pc : Nat) {C : gT} {cc : ByteArray} {own : String} {R0 : Room} {nL k n : Nat} {ws : va_W} {lv : List (Nat × Value)} {st : List Value} (hC : gOk C cc own R0 nL) (q0 : Nat) {a : Nat} {N : Nat} {f : Nat → Int32} (ha : ws[q0]? = some (a, .inl (g_K C 1, N, .inl f))) {i : Int32} (hi : ix i N = true) (hd : decode cc pc = .ok (.baload, 1)) (h : gAt C k n ws lv (pc + 1) (.int (f i.toNatClampNeg) :: st)) : gAt C k n ws lv pc (.int i :: .ref a :: st) :=
  fun H locs ls hP hD hS hl => va_bald hC.1 hC.2.1 hC.2.2.2.2.2.1 hP q0 1 ha rfl (ix_in hi) hd (h H locs ls hP hD hS hl)
theorem g_bast (pc : Nat) {C : gT} {cc : ByteArray} {own : String} {R0 : Room} {nL k n : Nat} {ws : va_W} {lv : List (Nat × Value)} {st : List Value} (hC : gOk C cc own R0 nL) (q0 : Nat) {a : Nat} {N : Nat} {f : Nat → Int32} (ha : ws[q0]? = some (a, .inl (g_K C 1, N, .inl f))) {i x : Int32} (hi : ix i N = true) (ws2 : va_W) (hs2 : ws.set q0 (a, .inl (g_K C 1, N, .inl (upd f i.toNatClampNeg (vp_nar .byte x)))) = ws2) (hd : decode cc pc = .ok (.bastore, 1)) (h : gAt C k n ws2 lv (pc + 1) st) : gAt C k n ws lv pc (.int x :: .int i :: .ref a :: st) :=
  fun H locs ls hP hD hS hl => va_bast hC.1 hC.2.1 hC.2.2.2.2.2.1 hP hD hS q0 1 ha rfl (ix_in hi) hd (fun H1 locs1 hP1 hD1 hS1 => h H1 locs1 ls (hs2 ▸ hP1) (hs2 ▸ hD1) hS1 hl)
theorem g_aald (pc : Nat) {C : gT} {cc : ByteArray} {own : String} {R0 : Room} {nL k n : Nat} {ws : va_W} {lv : List (Nat × Value)} {st : List Value} (hC : gOk C cc own R0 nL) (q0 : Nat) {a N : Nat} {q : Nat → Nat} (ha : ws[q0]? = some (a, .inl (g_K C 3, N, .inr (.inr (.inr (.inr (fun i => some (q i)))))))) {i : Int32} (hi : ix i N = true) (hd : decode cc pc = .ok (.aaload, 1)) (h : gAt C k n ws lv (pc + 1) (.ref (q i.toNatClampNeg) :: st)) : gAt C k n ws lv pc (.int i :: .ref a :: st) :=
  fun H locs ls hP hD hS hl => va_aldq hC.1 hC.2.1 hC.2.2.2.2.2.1 hP q0 3 ha rfl (ix_in hi) hd (h H locs ls hP hD hS hl)
theorem g_i2b (pc : Nat) {C : gT} {cc : ByteArray} {own : String} {R0 : Room} {nL k n : Nat} {ws : va_W} {lv : List (Nat × Value)} {st : List Value} (hC : gOk C cc own R0 nL) {x : Int32} (hd : decode cc pc = .ok (.i2b, 1)) (h : gAt C k n ws lv (pc + 1) (.int (vp_nar .byte x) :: st)) : gAt C k n ws lv pc (.int x :: st) :=
  fun H locs ls hP hD hS hl => lv_i2b hC.1 hC.2.1 hd rfl (h H locs ls hP hD hS hl)
theorem g_tabIn (pc : Nat) {C : gT} {cc : ByteArray} {own : String} {R0 : Room} {nL k n : Nat} {ws : va_W} {lv : List (Nat × Value)} {st : List Value} (hC : gOk C cc own R0 nL) {dflt lo hi : Int} {offs : Array Int} {len : Nat} {x : Int32} (off : Int) (v : Int32) (tgt : Nat) (hx : x = v) (hd : decode cc pc = .ok (.tableswitch dflt lo hi offs, len)) (h1 : ¬ v.toInt < lo) (h2 : ¬ hi < v.toInt) (ho : offs[(v.toInt - lo).toNat]? = some off) (ht : (pc : Int) + off = (tgt : Int)) (h : gAt C k n ws lv tgt st) : gAt C k n ws lv pc (.int x :: st) :=
  fun H locs ls hP hD hS hl => lv_tableIn hC.1 hC.2.1 hd (hx ▸ h1) (hx ▸ h2) (hx ▸ ho) ht (h H locs ls hP hD hS hl)
theorem g_tabOut (pc : Nat) {C : gT} {cc : ByteArray} {own : String} {R0 : Room} {nL k n : Nat} {ws : va_W} {lv : List (Nat × Value)} {st : List Value} (hC : gOk C cc own R0 nL) {dflt lo hi : Int} {offs : Array Int} {len : Nat} {x : Int32} (tgt : Nat) (hd : decode cc pc = .ok (.tableswitch dflt lo hi offs, len)) (h1 : x.toInt < lo ∨ hi < x.toInt) (ht : (pc : Int) + dflt = (tgt : Int)) (h : gAt C k n ws lv tgt st) : gAt C k n ws lv pc (.int x :: st) :=
  fun H locs ls hP hD hS hl => lv_tableOut hC.1 hC.2.1 hd h1 ht (h H locs ls hP hD hS hl)
/-- other order of cells, less locals -/
theorem g_re {C : gT} {k n : Nat} {ws ws2 : va_W} {lv lv2 : List (Nat × Value)} {pc : Nat} {st : List Value} (is js : List Nat) (hn : va_nd is = true) (h1 : is.map (fun i => ws[i]?) = ws2.map some) (h2 : lv_pick lv js = lv2) (h : gAt C k n ws2 lv2 pc st) : gAt C k n ws lv pc st :=
  fun H locs ls hP hD hS hl => h H locs ls (va_Psub hP is h1) (hD.sub is hn h1) hS (lv_sub hl js h2)
/-- contracts: an int (boolean) answer; none -/
def Ci (l : Launch) (D : va_G) (K : Nat → ClassId) (y : MethodName) (wy : List Cond) (rm : Room) (av : List Value) (wi : va_W) {X : Type} (wo : X → va_W) (r : Int32) : Prop :=
  ∀ sz : Nat, Met l y wy rm (va_Pc av (fun U => U.heap.size = sz ∧ va_P D vwCl wi U.heap ∧ va_K D vwCl (tyA K) U ∧ va_D (fun _ => True) wi ∧ va_AO "RotationPress$CodeTable" U)) (va_Qi (fun (r2 : Int32) (_ : X) => r2 = r) (fun (x : X) (t : State) => va_P D vwCl (wo x) t.heap ∧ va_D (va_A wi sz) (wo x)) (va_A wi sz)) rm.cells rm.slots (va_A wi sz)
def Cv (l : Launch) (D : va_G) (K : Nat → ClassId) (y : MethodName) (wy : List Cond) (rm : Room) (av : List Value) (wi : va_W) {X : Type} (wo : X → va_W) : Prop :=
  ∀ sz : Nat, Met l y wy rm (va_Pc av (fun U => U.heap.size = sz ∧ va_P D vwCl wi U.heap ∧ va_K D vwCl (tyA K) U ∧ va_D (fun _ => True) wi ∧ va_AO "RotationPress$CodeTable" U)) (va_Qv (fun (_ : X) => True) (fun (x : X) (t : State) => va_P D vwCl (wo x) t.heap ∧ va_D (va_A wi sz) (wo x)) (va_A wi sz)) rm.cells rm.slots (va_A wi sz)
abbrev g_wd (y : MethodName) (code : ByteArray) (maxL : Nat) (ret : Option FieldType) : List Cond := Cond.code y code maxL ret :: g_tbl
theorem mk_i {l : Launch} {D : va_G} {K : Nat → ClassId} {y : MethodName} {rm : Room} {av : List Value} {wi : va_W} {X : Type} {wo : X → va_W} {r : Int32} {code : ByteArray} {maxL : Nat} {ty : FieldType} (hy : plainName y.cls = true) (hav : (lg_sl av).length ≤ maxL)
    (body : ∀ (p : Program) (e : Env) (s : State) (m : MethodId) (below : List Frame) (meth : Method) (c : Code) (A : Nat → Prop) (Q : State → Prop), gOk (p, l, e, rm, s, m, av.toArray, below, meth, c, A, D, K, maxL, Q) code y.cls rm maxL →
      (∀ (x : X) (pc : Nat) (lv : List (Nat × Value)), decode code pc = .ok (.ireturn, 1) → narrow ty (.int r) = .int r → gAt (p, l, e, rm, s, m, av.toArray, below, meth, c, A, D, K, maxL, Q) rm.cells rm.slots (wo x) lv pc [.int r]) →
      gAt (p, l, e, rm, s, m, av.toArray, below, meth, c, A, D, K, maxL, Q) 0 0 wi (lv_args 0 av) 0 []) : Ci l D K y (g_wd y code maxL (some ty)) rm av wi wo r := by
  intro sz
  refine Met.ofW (cc := code) (maxL := maxL) (ret := some ty) hy rfl ?_
  intro p e s m args below meth c s₁ B hml hv
  obtain ⟨rfl, hsz, hP, hK, hD0, hO⟩ := hv
  subst hsz
  have hD := hD0.self (sz := s.heap.size)
  rw [lg_entry_eq]
  refine body p e s m below meth c (va_A wi s.heap.size) _ ⟨B.exec, B.bytes, hml, findClass_of_methodNamed B.named, fun w h => atoms_spec (ws := g_wd y code maxL (some ty)) B.pre w (List.mem_cons_of_mem _ h), hK, fun q h => Or.inr h, rfl, rfl, hO⟩ ?_ s.heap [] _ hP hD va_S.rf (lv_entry av hav)
  intro x pc lv hd hn H locs ls hP hD hS hl
  exact W.zret (v := r) B.exec B.bytes B.returns hn (fun t ht hW => ⟨⟨r, x, rfl, rfl, by rw [ht]; exact hP, hD⟩, hS.F ht⟩) hS.2.2 hd
theorem mk_v {l : Launch} {D : va_G} {K : Nat → ClassId} {y : MethodName} {rm : Room} {av : List Value} {wi : va_W} {X : Type} {wo : X → va_W} {code : ByteArray} {maxL : Nat} (hy : plainName y.cls = true) (hav : (lg_sl av).length ≤ maxL)
    (body : ∀ (p : Program) (e : Env) (s : State) (m : MethodId) (below : List Frame) (meth : Method) (c : Code) (A : Nat → Prop) (Q : State → Prop), gOk (p, l, e, rm, s, m, av.toArray, below, meth, c, A, D, K, maxL, Q) code y.cls rm maxL →
      (∀ (x : X) (pc : Nat) (lv : List (Nat × Value)), decode code pc = .ok (.return_, 1) → gAt (p, l, e, rm, s, m, av.toArray, below, meth, c, A, D, K, maxL, Q) rm.cells rm.slots (wo x) lv pc []) →
      gAt (p, l, e, rm, s, m, av.toArray, below, meth, c, A, D, K, maxL, Q) 0 0 wi (lv_args 0 av) 0 []) : Cv l D K y (g_wd y code maxL none) rm av wi wo := by
  intro sz
  refine Met.ofW (cc := code) (maxL := maxL) (ret := none) hy rfl ?_
  intro p e s m args below meth c s₁ B hml hv
  obtain ⟨rfl, hsz, hP, hK, hD0, hO⟩ := hv
  subst hsz
  have hD := hD0.self (sz := s.heap.size)
  rw [lg_entry_eq]
  refine body p e s m below meth c (va_A wi s.heap.size) _ ⟨B.exec, B.bytes, hml, findClass_of_methodNamed B.named, fun w h => atoms_spec (ws := g_wd y code maxL none) B.pre w (List.mem_cons_of_mem _ h), hK, fun q h => Or.inr h, rfl, rfl, hO⟩ ?_ s.heap [] _ hP hD va_S.rf (lv_entry av hav)
  intro x pc lv hd H locs ls hP hD hS hl
  exact W.vret B.exec B.bytes B.returns (fun t ht hW => ⟨⟨x, rfl, trivial, by rw [ht]; exact hP, hD⟩, hS.F ht⟩) hS.2.2 hd
theorem g_ok : ∀ w ∈ g_tbl, goodWord w = true := fun w h => (List.mem_filter.mp h).2
theorem g_good {y : MethodName} {bytes : ByteArray} {maxL : Nat} {ret : Option FieldType} (h : Cond.code y bytes maxL ret ∈ g_tbl) : GoodIn g_tbl (g_wd y bytes maxL ret) := by
  intro w hw
  have hin : w ∈ g_tbl := by
    rcases List.mem_cons.mp hw with h2 | h2
    · rw [h2]; exact h
    · exact h2
  exact ⟨hin, good_of_word (g_ok w hin)⟩
theorem g_callVi (pc : Nat) {C : gT} {cc : ByteArray} {own : String} {R0 : Room} {nL k n : Nat} {ws : va_W} {lv : List (Nat × Value)} {st : List Value} (hC : gOk C cc own R0 nL) {y : MethodName} {bytes : ByteArray} {maxL index : Nat} {ret : Option FieldType} {rm : Room} {b : Nat} {As : List Value} {wi : va_W} {X : Type} {wo : X → va_W} {r : Int32} {stk : List Value} (hM : Ci (g_l C) (g_D C) (g_K C) y (g_wd y bytes maxL ret) rm (.ref b :: As) wi wo r) (hm1 : Cond.code y bytes maxL ret ∈ g_tbl) (hm2 : Cond.initialized y.cls ∈ g_tbl) (hm3 : Cond.methodLink own index y ∈ g_tbl) (hm4 : Cond.instanceMethod y ∈ g_tbl) (hm5 : Cond.selects y.cls y y ∈ g_tbl) (na : Nat) (hna : As.length = na) (hdd : y.cls ≠ "java/lang/invoke/MethodHandle" ∧ y.cls ≠ "java/lang/invoke/VarHandle" ∧ (parseMethodDescriptor y.desc).map (fun d => d.parameters.length) = some na) (hR : rm.frames + 1 ≤ R0.frames ∧ 8 + (maxL + 11) + rm.locals ≤ R0.locals) (isC isR : List Nat) (wr : va_W) (hn1 : va_nd isC = true) (h1 : isC.map (fun i => ws[i]?) = wi.map some) (hn2 : va_nd isR = true) (h2 : isR.map (fun i => ws[i]?) = wr.map some) (hdis : isR.all (fun i => !isC.contains i) = true) (q0 ci : Nat) {fs : List Value} {vc : vw_C} (hrc : vwCl[ci]? = some vc) (hcn : vc.1 = y.cls) (hre : wi[q0]? = some (b, .inr (ci, fs))) (hst : stk = As.reverse ++ .ref b :: st) (hro : (st.map fun v => v.category).sum ≤ 8) (hf : k + rm.cells ≤ R0.cells ∧ n + rm.slots ≤ R0.slots) (w2 : X → va_W) (hw2 : ∀ x, wr ++ wo x = w2 x) (hd : decode cc pc = .ok (.invokevirtual index, 3)) (k2 n2 : Nat) (hk2 : k + rm.cells = k2) (hs2 : n + rm.slots = n2) (h : ∀ x : X, gAt C k2 n2 (w2 x) lv (pc + 3) (.int r :: st)) : gAt C k n ws lv pc stk := by
  obtain ⟨hx, hb, hml, hown, hts, hK, hA, hR0, hnL, hO⟩ := hC
  subst hna
  subst hst
  subst hk2
  subst hs2
  intro H locs ls hP hD hS hl
  have hPc := va_Psub hP isC h1
  have hDc := hD.sub isC hn1 h1
  have hFc := va_free (wc := wi) hD hS hA isC h1
  have hdis2 : ∀ i ∈ isR, i ∉ isC := fun i hi hc => by have h9 := List.all_eq_true.mp hdis i hi; simp [hc] at h9
  have hG : GoodIn g_tbl (g_wd y bytes maxL ret) := g_good hm1
  rw [← hR0] at hR hf
  refine va_calli (va_runV (C := y.cls) (As := As) (rest := st) (Ts := g_tbl) (own := own) (nL := g_n C) ⟨hx, hb, hml, hown, hts⟩ (hM H.size) ⟨callB_of As.length hts hG rfl rfl rfl (hts _ hm2) (hts _ hm3) hdd hR, hts _ hm4, hts _ hm5⟩ ⟨fun a U g mk q => by obtain ⟨q0, q1, qP, qK, qD, qO⟩ := q; exact ⟨q0, q1, qP, va_K.moved (u := U) (U := U.calling g mk a) (Vm.Alike.refl U.vm) qK, qD, va_AO.moved (u := U) (U := U.calling g mk a) (Vm.Alike.refl U.vm) qO⟩, by obtain ⟨cell, r1, r2, r3⟩ := va_recv hK hPc hrc hre; exact ⟨cell, r1, r2, hcn ▸ r3⟩, fun U hU hW => ⟨rfl, by rw [hU], by rw [hU]; exact hPc, va_K.moved hW.alike hK, hDc.weaken (fun _ _ _ _ => trivial), va_AO.moved hW.alike hO⟩⟩ rfl rfl hl.1 rfl (lv_room hro) hd hf) hS (fun q _ h => hFc q h) hFc (fun r2 x t H1 locs1 ht hvm hw hB hz1 hk1 hS1 => ?_)
  obtain ⟨hP1, hD1⟩ := hB
  rw [ht] at hP1
  obtain ⟨hP2, hD2⟩ := va_join hP hD isC isR h1 h2 hn2 hdis2 hk1 hFc hP1 hD1
  rw [hw2] at hP2 hD2
  subst hw
  exact h x H1 locs1 ls hP2 hD2 hS1 hl
theorem g_callSi (pc : Nat) {C : gT} {cc : ByteArray} {own : String} {R0 : Room} {nL k n : Nat} {ws : va_W} {lv : List (Nat × Value)} {st : List Value} (hC : gOk C cc own R0 nL) {y : MethodName} {bytes : ByteArray} {maxL index : Nat} {ret : Option FieldType} {rm : Room} {As : List Value} {wi : va_W} {X : Type} {wo : X → va_W} {r : Int32} {stk : List Value} (hM : Ci (g_l C) (g_D C) (g_K C) y (g_wd y bytes maxL ret) rm As wi wo r) (hm1 : Cond.code y bytes maxL ret ∈ g_tbl) (hm2 : Cond.initialized y.cls ∈ g_tbl) (hm3 : Cond.methodLink own index y ∈ g_tbl) (hm4 : Cond.static y ∈ g_tbl) (na : Nat) (hna : As.length = na) (hdd : y.cls ≠ "java/lang/invoke/MethodHandle" ∧ y.cls ≠ "java/lang/invoke/VarHandle" ∧ (parseMethodDescriptor y.desc).map (fun d => d.parameters.length) = some na) (hR : rm.frames + 1 ≤ R0.frames ∧ 8 + (maxL + 11) + rm.locals ≤ R0.locals) (isC isR : List Nat) (wr : va_W) (hn1 : va_nd isC = true) (h1 : isC.map (fun i => ws[i]?) = wi.map some) (hn2 : va_nd isR = true) (h2 : isR.map (fun i => ws[i]?) = wr.map some) (hdis : isR.all (fun i => !isC.contains i) = true) (hst : stk = As.reverse ++ st) (hro : (st.map fun v => v.category).sum ≤ 8) (hf : k + rm.cells ≤ R0.cells ∧ n + rm.slots ≤ R0.slots) (w2 : X → va_W) (hw2 : ∀ x, wr ++ wo x = w2 x) (hd : decode cc pc = .ok (.invokestatic index, 3)) (k2 n2 : Nat) (hk2 : k + rm.cells = k2) (hs2 : n + rm.slots = n2) (h : ∀ x : X, gAt C k2 n2 (w2 x) lv (pc + 3) (.int r :: st)) : gAt C k n ws lv pc stk := by
  obtain ⟨hx, hb, hml, hown, hts, hK, hA, hR0, hnL, hO⟩ := hC
  subst hna
  subst hst
  subst hk2
  subst hs2
  intro H locs ls hP hD hS hl
  have hPc := va_Psub hP isC h1
  have hDc := hD.sub isC hn1 h1
  have hFc := va_free (wc := wi) hD hS hA isC h1
  have hdis2 : ∀ i ∈ isR, i ∉ isC := fun i hi hc => by have h9 := List.all_eq_true.mp hdis i hi; simp [hc] at h9
  have hG : GoodIn g_tbl (g_wd y bytes maxL ret) := g_good hm1
  rw [← hR0] at hR hf
  refine va_calli (va_runS (As := As) (rest := st) (Ts := g_tbl) (own := own) (nL := g_n C) ⟨hx, hb, hml, hown, hts⟩ (hM H.size) ⟨callB_of As.length hts hG rfl rfl rfl (hts _ hm2) (hts _ hm3) hdd hR, hts _ hm4⟩ ⟨fun a U g mk q => by obtain ⟨q0, q1, qP, qK, qD, qO⟩ := q; exact ⟨q0, q1, qP, va_K.moved (u := U) (U := U.calling g mk a) (Vm.Alike.refl U.vm) qK, qD, va_AO.moved (u := U) (U := U.calling g mk a) (Vm.Alike.refl U.vm) qO⟩, fun U hU hW => ⟨rfl, by rw [hU], by rw [hU]; exact hPc, va_K.moved hW.alike hK, hDc.weaken (fun _ _ _ _ => trivial), va_AO.moved hW.alike hO⟩⟩ rfl rfl hl.1 rfl (lv_room hro) hd hf) hS (fun q _ h => hFc q h) hFc (fun r2 x t H1 locs1 ht hvm hw hB hz1 hk1 hS1 => ?_)
  obtain ⟨hP1, hD1⟩ := hB
  rw [ht] at hP1
  obtain ⟨hP2, hD2⟩ := va_join hP hD isC isR h1 h2 hn2 hdis2 hk1 hFc hP1 hD1
  rw [hw2] at hP2 hD2
  subst hw
  exact h x H1 locs1 ls hP2 hD2 hS1 hl
theorem g_callViN (pc : Nat) {C : gT} {cc : ByteArray} {own : String} {R0 : Room} {nL k n : Nat} {ws : va_W} {lv : List (Nat × Value)} {st : List Value} (hC : gOk C cc own R0 nL) {host : String} {y : MethodName} {bytes : ByteArray} {maxL index : Nat} {ret : Option FieldType} {rm : Room} {b : Nat} {As : List Value} {wi : va_W} {X : Type} {wo : X → va_W} {r : Int32} {stk : List Value} (hM : Ci (g_l C) (g_D C) (g_K C) y (g_wd y bytes maxL ret) rm (.ref b :: As) wi wo r) (hm1 : Cond.code y bytes maxL ret ∈ g_tbl) (hm2 : Cond.initialized y.cls ∈ g_tbl) (hm3 : Cond.methodLinkNest own index y host ∈ g_tbl) (hm4 : Cond.instanceMethod y ∈ g_tbl) (hm5 : Cond.selects y.cls y y ∈ g_tbl) (na : Nat) (hna : As.length = na) (hdd : y.cls ≠ "java/lang/invoke/MethodHandle" ∧ y.cls ≠ "java/lang/invoke/VarHandle" ∧ (parseMethodDescriptor y.desc).map (fun d => d.parameters.length) = some na) (hR : rm.frames + 1 ≤ R0.frames ∧ 8 + (maxL + 11) + rm.locals ≤ R0.locals) (isC isR : List Nat) (wr : va_W) (hn1 : va_nd isC = true) (h1 : isC.map (fun i => ws[i]?) = wi.map some) (hn2 : va_nd isR = true) (h2 : isR.map (fun i => ws[i]?) = wr.map some) (hdis : isR.all (fun i => !isC.contains i) = true) (q0 ci : Nat) {fs : List Value} {vc : vw_C} (hrc : vwCl[ci]? = some vc) (hcn : vc.1 = y.cls) (hre : wi[q0]? = some (b, .inr (ci, fs))) (hst : stk = As.reverse ++ .ref b :: st) (hro : (st.map fun v => v.category).sum ≤ 8) (hf : k + rm.cells ≤ R0.cells ∧ n + rm.slots ≤ R0.slots) (w2 : X → va_W) (hw2 : ∀ x, wr ++ wo x = w2 x) (hd : decode cc pc = .ok (.invokevirtual index, 3)) (k2 n2 : Nat) (hk2 : k + rm.cells = k2) (hs2 : n + rm.slots = n2) (h : ∀ x : X, gAt C k2 n2 (w2 x) lv (pc + 3) (.int r :: st)) : gAt C k n ws lv pc stk := by
  obtain ⟨hx, hb, hml, hown, hts, hK, hA, hR0, hnL, hO⟩ := hC
  subst hna
  subst hst
  subst hk2
  subst hs2
  intro H locs ls hP hD hS hl
  have hPc := va_Psub hP isC h1
  have hDc := hD.sub isC hn1 h1
  have hFc := va_free (wc := wi) hD hS hA isC h1
  have hdis2 : ∀ i ∈ isR, i ∉ isC := fun i hi hc => by have h9 := List.all_eq_true.mp hdis i hi; simp [hc] at h9
  have hG : GoodIn g_tbl (g_wd y bytes maxL ret) := g_good hm1
  rw [← hR0] at hR hf
  refine va_calli (va_runVN (C := y.cls) (As := As) (rest := st) (Ts := g_tbl) (own := own) (nL := g_n C) ⟨hx, hb, hml, hown, hts⟩ (hM H.size) ⟨va_cnB As.length hts hG rfl rfl rfl (hts _ hm3) (hts _ hm2) hdd hR, hts _ hm4, hts _ hm5⟩ ⟨fun a U g mk q => by obtain ⟨q0, q1, qP, qK, qD, qO⟩ := q; exact ⟨q0, q1, qP, va_K.moved (u := U) (U := U.calling g mk a) (Vm.Alike.refl U.vm) qK, qD, va_AO.moved (u := U) (U := U.calling g mk a) (Vm.Alike.refl U.vm) qO⟩, by obtain ⟨cell, r1, r2, r3⟩ := va_recv hK hPc hrc hre; exact ⟨cell, r1, r2, hcn ▸ r3⟩, fun U hU hW => ⟨rfl, by rw [hU], by rw [hU]; exact hPc, va_K.moved hW.alike hK, hDc.weaken (fun _ _ _ _ => trivial), va_AO.moved hW.alike hO⟩⟩ rfl rfl hl.1 rfl (lv_room hro) hd hf) hS (fun q _ h => hFc q h) hFc (fun r2 x t H1 locs1 ht hvm hw hB hz1 hk1 hS1 => ?_)
  obtain ⟨hP1, hD1⟩ := hB
  rw [ht] at hP1
  obtain ⟨hP2, hD2⟩ := va_join hP hD isC isR h1 h2 hn2 hdis2 hk1 hFc hP1 hD1
  rw [hw2] at hP2 hD2
  subst hw
  exact h x H1 locs1 ls hP2 hD2 hS1 hl
theorem g_callSiN (pc : Nat) {C : gT} {cc : ByteArray} {own : String} {R0 : Room} {nL k n : Nat} {ws : va_W} {lv : List (Nat × Value)} {st : List Value} (hC : gOk C cc own R0 nL) {host : String} {y : MethodName} {bytes : ByteArray} {maxL index : Nat} {ret : Option FieldType} {rm : Room} {As : List Value} {wi : va_W} {X : Type} {wo : X → va_W} {r : Int32} {stk : List Value} (hM : Ci (g_l C) (g_D C) (g_K C) y (g_wd y bytes maxL ret) rm As wi wo r) (hm1 : Cond.code y bytes maxL ret ∈ g_tbl) (hm2 : Cond.initialized y.cls ∈ g_tbl) (hm3 : Cond.methodLinkNest own index y host ∈ g_tbl) (hm4 : Cond.static y ∈ g_tbl) (na : Nat) (hna : As.length = na) (hdd : y.cls ≠ "java/lang/invoke/MethodHandle" ∧ y.cls ≠ "java/lang/invoke/VarHandle" ∧ (parseMethodDescriptor y.desc).map (fun d => d.parameters.length) = some na) (hR : rm.frames + 1 ≤ R0.frames ∧ 8 + (maxL + 11) + rm.locals ≤ R0.locals) (isC isR : List Nat) (wr : va_W) (hn1 : va_nd isC = true) (h1 : isC.map (fun i => ws[i]?) = wi.map some) (hn2 : va_nd isR = true) (h2 : isR.map (fun i => ws[i]?) = wr.map some) (hdis : isR.all (fun i => !isC.contains i) = true) (hst : stk = As.reverse ++ st) (hro : (st.map fun v => v.category).sum ≤ 8) (hf : k + rm.cells ≤ R0.cells ∧ n + rm.slots ≤ R0.slots) (w2 : X → va_W) (hw2 : ∀ x, wr ++ wo x = w2 x) (hd : decode cc pc = .ok (.invokestatic index, 3)) (k2 n2 : Nat) (hk2 : k + rm.cells = k2) (hs2 : n + rm.slots = n2) (h : ∀ x : X, gAt C k2 n2 (w2 x) lv (pc + 3) (.int r :: st)) : gAt C k n ws lv pc stk := by
  obtain ⟨hx, hb, hml, hown, hts, hK, hA, hR0, hnL, hO⟩ := hC
  subst hna
  subst hst
  subst hk2
  subst hs2
  intro H locs ls hP hD hS hl
  have hPc := va_Psub hP isC h1
  have hDc := hD.sub isC hn1 h1
  have hFc := va_free (wc := wi) hD hS hA isC h1
  have hdis2 : ∀ i ∈ isR, i ∉ isC := fun i hi hc => by have h9 := List.all_eq_true.mp hdis i hi; simp [hc] at h9
  have hG : GoodIn g_tbl (g_wd y bytes maxL ret) := g_good hm1
  rw [← hR0] at hR hf
  refine va_calli (va_runSN (As := As) (rest := st) (Ts := g_tbl) (own := own) (nL := g_n C) ⟨hx, hb, hml, hown, hts⟩ (hM H.size) ⟨va_cnB As.length hts hG rfl rfl rfl (hts _ hm3) (hts _ hm2) hdd hR, hts _ hm4, trivial⟩ ⟨fun a U g mk q => by obtain ⟨q0, q1, qP, qK, qD, qO⟩ := q; exact ⟨q0, q1, qP, va_K.moved (u := U) (U := U.calling g mk a) (Vm.Alike.refl U.vm) qK, qD, va_AO.moved (u := U) (U := U.calling g mk a) (Vm.Alike.refl U.vm) qO⟩, fun U hU hW => ⟨rfl, by rw [hU], by rw [hU]; exact hPc, va_K.moved hW.alike hK, hDc.weaken (fun _ _ _ _ => trivial), va_AO.moved hW.alike hO⟩⟩ rfl rfl hl.1 rfl (lv_room hro) hd hf) hS (fun q _ h => hFc q h) hFc (fun r2 x t H1 locs1 ht hvm hw hB hz1 hk1 hS1 => ?_)
  obtain ⟨hP1, hD1⟩ := hB
  rw [ht] at hP1
  obtain ⟨hP2, hD2⟩ := va_join hP hD isC isR h1 h2 hn2 hdis2 hk1 hFc hP1 hD1
  rw [hw2] at hP2 hD2
  subst hw
  exact h x H1 locs1 ls hP2 hD2 hS1 hl
theorem g_callVv (pc : Nat) {C : gT} {cc : ByteArray} {own : String} {R0 : Room} {nL k n : Nat} {ws : va_W} {lv : List (Nat × Value)} {st : List Value} (hC : gOk C cc own R0 nL) {y : MethodName} {bytes : ByteArray} {maxL index : Nat} {ret : Option FieldType} {rm : Room} {b : Nat} {As : List Value} {wi : va_W} {X : Type} {wo : X → va_W} {stk : List Value} (hM : Cv (g_l C) (g_D C) (g_K C) y (g_wd y bytes maxL ret) rm (.ref b :: As) wi wo) (hm1 : Cond.code y bytes maxL ret ∈ g_tbl) (hm2 : Cond.initialized y.cls ∈ g_tbl) (hm3 : Cond.methodLink own index y ∈ g_tbl) (hm4 : Cond.instanceMethod y ∈ g_tbl) (hm5 : Cond.selects y.cls y y ∈ g_tbl) (na : Nat) (hna : As.length = na) (hdd : y.cls ≠ "java/lang/invoke/MethodHandle" ∧ y.cls ≠ "java/lang/invoke/VarHandle" ∧ (parseMethodDescriptor y.desc).map (fun d => d.parameters.length) = some na) (hR : rm.frames + 1 ≤ R0.frames ∧ 8 + (maxL + 11) + rm.locals ≤ R0.locals) (isC isR : List Nat) (wr : va_W) (hn1 : va_nd isC = true) (h1 : isC.map (fun i => ws[i]?) = wi.map some) (hn2 : va_nd isR = true) (h2 : isR.map (fun i => ws[i]?) = wr.map some) (hdis : isR.all (fun i => !isC.contains i) = true) (q0 ci : Nat) {fs : List Value} {vc : vw_C} (hrc : vwCl[ci]? = some vc) (hcn : vc.1 = y.cls) (hre : wi[q0]? = some (b, .inr (ci, fs))) (hst : stk = As.reverse ++ .ref b :: st) (hro : (st.map fun v => v.category).sum ≤ 8) (hf : k + rm.cells ≤ R0.cells ∧ n + rm.slots ≤ R0.slots) (w2 : X → va_W) (hw2 : ∀ x, wr ++ wo x = w2 x) (hd : decode cc pc = .ok (.invokevirtual index, 3)) (k2 n2 : Nat) (hk2 : k + rm.cells = k2) (hs2 : n + rm.slots = n2) (h : ∀ x : X, gAt C k2 n2 (w2 x) lv (pc + 3) st) : gAt C k n ws lv pc stk := by
  obtain ⟨hx, hb, hml, hown, hts, hK, hA, hR0, hnL, hO⟩ := hC
  subst hna
  subst hst
  subst hk2
  subst hs2
  intro H locs ls hP hD hS hl
  have hPc := va_Psub hP isC h1
  have hDc := hD.sub isC hn1 h1
  have hFc := va_free (wc := wi) hD hS hA isC h1
  have hdis2 : ∀ i ∈ isR, i ∉ isC := fun i hi hc => by have h9 := List.all_eq_true.mp hdis i hi; simp [hc] at h9
  have hG : GoodIn g_tbl (g_wd y bytes maxL ret) := g_good hm1
  rw [← hR0] at hR hf
  refine va_callv (va_runV (C := y.cls) (As := As) (rest := st) (Ts := g_tbl) (own := own) (nL := g_n C) ⟨hx, hb, hml, hown, hts⟩ (hM H.size) ⟨callB_of As.length hts hG rfl rfl rfl (hts _ hm2) (hts _ hm3) hdd hR, hts _ hm4, hts _ hm5⟩ ⟨fun a U g mk q => by obtain ⟨q0, q1, qP, qK, qD, qO⟩ := q; exact ⟨q0, q1, qP, va_K.moved (u := U) (U := U.calling g mk a) (Vm.Alike.refl U.vm) qK, qD, va_AO.moved (u := U) (U := U.calling g mk a) (Vm.Alike.refl U.vm) qO⟩, by obtain ⟨cell, r1, r2, r3⟩ := va_recv hK hPc hrc hre; exact ⟨cell, r1, r2, hcn ▸ r3⟩, fun U hU hW => ⟨rfl, by rw [hU], by rw [hU]; exact hPc, va_K.moved hW.alike hK, hDc.weaken (fun _ _ _ _ => trivial), va_AO.moved hW.alike hO⟩⟩ rfl rfl hl.1 rfl (lv_room hro) hd hf) hS (fun q _ h => hFc q h) hFc (fun x t H1 locs1 ht hvm hw hB hz1 hk1 hS1 => ?_)
  obtain ⟨hP1, hD1⟩ := hB
  rw [ht] at hP1
  obtain ⟨hP2, hD2⟩ := va_join hP hD isC isR h1 h2 hn2 hdis2 hk1 hFc hP1 hD1
  rw [hw2] at hP2 hD2
  exact h x H1 locs1 ls hP2 hD2 hS1 hl
theorem g_callSv (pc : Nat) {C : gT} {cc : ByteArray} {own : String} {R0 : Room} {nL k n : Nat} {ws : va_W} {lv : List (Nat × Value)} {st : List Value} (hC : gOk C cc own R0 nL) {y : MethodName} {bytes : ByteArray} {maxL index : Nat} {ret : Option FieldType} {rm : Room} {As : List Value} {wi : va_W} {X : Type} {wo : X → va_W} {stk : List Value} (hM : Cv (g_l C) (g_D C) (g_K C) y (g_wd y bytes maxL ret) rm As wi wo) (hm1 : Cond.code y bytes maxL ret ∈ g_tbl) (hm2 : Cond.initialized y.cls ∈ g_tbl) (hm3 : Cond.methodLink own index y ∈ g_tbl) (hm4 : Cond.static y ∈ g_tbl) (na : Nat) (hna : As.length = na) (hdd : y.cls ≠ "java/lang/invoke/MethodHandle" ∧ y.cls ≠ "java/lang/invoke/VarHandle" ∧ (parseMethodDescriptor y.desc).map (fun d => d.parameters.length) = some na) (hR : rm.frames + 1 ≤ R0.frames ∧ 8 + (maxL + 11) + rm.locals ≤ R0.locals) (isC isR : List Nat) (wr : va_W) (hn1 : va_nd isC = true) (h1 : isC.map (fun i => ws[i]?) = wi.map some) (hn2 : va_nd isR = true) (h2 : isR.map (fun i => ws[i]?) = wr.map some) (hdis : isR.all (fun i => !isC.contains i) = true) (hst : stk = As.reverse ++ st) (hro : (st.map fun v => v.category).sum ≤ 8) (hf : k + rm.cells ≤ R0.cells ∧ n + rm.slots ≤ R0.slots) (w2 : X → va_W) (hw2 : ∀ x, wr ++ wo x = w2 x) (hd : decode cc pc = .ok (.invokestatic index, 3)) (k2 n2 : Nat) (hk2 : k + rm.cells = k2) (hs2 : n + rm.slots = n2) (h : ∀ x : X, gAt C k2 n2 (w2 x) lv (pc + 3) st) : gAt C k n ws lv pc stk := by
  obtain ⟨hx, hb, hml, hown, hts, hK, hA, hR0, hnL, hO⟩ := hC
  subst hna
  subst hst
  subst hk2
  subst hs2
  intro H locs ls hP hD hS hl
  have hPc := va_Psub hP isC h1
  have hDc := hD.sub isC hn1 h1
  have hFc := va_free (wc := wi) hD hS hA isC h1
  have hdis2 : ∀ i ∈ isR, i ∉ isC := fun i hi hc => by have h9 := List.all_eq_true.mp hdis i hi; simp [hc] at h9
  have hG : GoodIn g_tbl (g_wd y bytes maxL ret) := g_good hm1
  rw [← hR0] at hR hf
  refine va_callv (va_runS (As := As) (rest := st) (Ts := g_tbl) (own := own) (nL := g_n C) ⟨hx, hb, hml, hown, hts⟩ (hM H.size) ⟨callB_of As.length hts hG rfl rfl rfl (hts _ hm2) (hts _ hm3) hdd hR, hts _ hm4⟩ ⟨fun a U g mk q => by obtain ⟨q0, q1, qP, qK, qD, qO⟩ := q; exact ⟨q0, q1, qP, va_K.moved (u := U) (U := U.calling g mk a) (Vm.Alike.refl U.vm) qK, qD, va_AO.moved (u := U) (U := U.calling g mk a) (Vm.Alike.refl U.vm) qO⟩, fun U hU hW => ⟨rfl, by rw [hU], by rw [hU]; exact hPc, va_K.moved hW.alike hK, hDc.weaken (fun _ _ _ _ => trivial), va_AO.moved hW.alike hO⟩⟩ rfl rfl hl.1 rfl (lv_room hro) hd hf) hS (fun q _ h => hFc q h) hFc (fun x t H1 locs1 ht hvm hw hB hz1 hk1 hS1 => ?_)
  obtain ⟨hP1, hD1⟩ := hB
  rw [ht] at hP1
  obtain ⟨hP2, hD2⟩ := va_join hP hD isC isR h1 h2 hn2 hdis2 hk1 hFc hP1 hD1
  rw [hw2] at hP2 hD2
  exact h x H1 locs1 ls hP2 hD2 hS1 hl
theorem g_callVvN (pc : Nat) {C : gT} {cc : ByteArray} {own : String} {R0 : Room} {nL k n : Nat} {ws : va_W} {lv : List (Nat × Value)} {st : List Value} (hC : gOk C cc own R0 nL) {host : String} {y : MethodName} {bytes : ByteArray} {maxL index : Nat} {ret : Option FieldType} {rm : Room} {b : Nat} {As : List Value} {wi : va_W} {X : Type} {wo : X → va_W} {stk : List Value} (hM : Cv (g_l C) (g_D C) (g_K C) y (g_wd y bytes maxL ret) rm (.ref b :: As) wi wo) (hm1 : Cond.code y bytes maxL ret ∈ g_tbl) (hm2 : Cond.initialized y.cls ∈ g_tbl) (hm3 : Cond.methodLinkNest own index y host ∈ g_tbl) (hm4 : Cond.instanceMethod y ∈ g_tbl) (hm5 : Cond.selects y.cls y y ∈ g_tbl) (na : Nat) (hna : As.length = na) (hdd : y.cls ≠ "java/lang/invoke/MethodHandle" ∧ y.cls ≠ "java/lang/invoke/VarHandle" ∧ (parseMethodDescriptor y.desc).map (fun d => d.parameters.length) = some na) (hR : rm.frames + 1 ≤ R0.frames ∧ 8 + (maxL + 11) + rm.locals ≤ R0.locals) (isC isR : List Nat) (wr : va_W) (hn1 : va_nd isC = true) (h1 : isC.map (fun i => ws[i]?) = wi.map some) (hn2 : va_nd isR = true) (h2 : isR.map (fun i => ws[i]?) = wr.map some) (hdis : isR.all (fun i => !isC.contains i) = true) (q0 ci : Nat) {fs : List Value} {vc : vw_C} (hrc : vwCl[ci]? = some vc) (hcn : vc.1 = y.cls) (hre : wi[q0]? = some (b, .inr (ci, fs))) (hst : stk = As.reverse ++ .ref b :: st) (hro : (st.map fun v => v.category).sum ≤ 8) (hf : k + rm.cells ≤ R0.cells ∧ n + rm.slots ≤ R0.slots) (w2 : X → va_W) (hw2 : ∀ x, wr ++ wo x = w2 x) (hd : decode cc pc = .ok (.invokevirtual index, 3)) (k2 n2 : Nat) (hk2 : k + rm.cells = k2) (hs2 : n + rm.slots = n2) (h : ∀ x : X, gAt C k2 n2 (w2 x) lv (pc + 3) st) : gAt C k n ws lv pc stk := by
  obtain ⟨hx, hb, hml, hown, hts, hK, hA, hR0, hnL, hO⟩ := hC
  subst hna
  subst hst
  subst hk2
  subst hs2
  intro H locs ls hP hD hS hl
  have hPc := va_Psub hP isC h1
  have hDc := hD.sub isC hn1 h1
  have hFc := va_free (wc := wi) hD hS hA isC h1
  have hdis2 : ∀ i ∈ isR, i ∉ isC := fun i hi hc => by have h9 := List.all_eq_true.mp hdis i hi; simp [hc] at h9
  have hG : GoodIn g_tbl (g_wd y bytes maxL ret) := g_good hm1
  rw [← hR0] at hR hf
  refine va_callv (va_runVN (C := y.cls) (As := As) (rest := st) (Ts := g_tbl) (own := own) (nL := g_n C) ⟨hx, hb, hml, hown, hts⟩ (hM H.size) ⟨va_cnB As.length hts hG rfl rfl rfl (hts _ hm3) (hts _ hm2) hdd hR, hts _ hm4, hts _ hm5⟩ ⟨fun a U g mk q => by obtain ⟨q0, q1, qP, qK, qD, qO⟩ := q; exact ⟨q0, q1, qP, va_K.moved (u := U) (U := U.calling g mk a) (Vm.Alike.refl U.vm) qK, qD, va_AO.moved (u := U) (U := U.calling g mk a) (Vm.Alike.refl U.vm) qO⟩, by obtain ⟨cell, r1, r2, r3⟩ := va_recv hK hPc hrc hre; exact ⟨cell, r1, r2, hcn ▸ r3⟩, fun U hU hW => ⟨rfl, by rw [hU], by rw [hU]; exact hPc, va_K.moved hW.alike hK, hDc.weaken (fun _ _ _ _ => trivial), va_AO.moved hW.alike hO⟩⟩ rfl rfl hl.1 rfl (lv_room hro) hd hf) hS (fun q _ h => hFc q h) hFc (fun x t H1 locs1 ht hvm hw hB hz1 hk1 hS1 => ?_)
  obtain ⟨hP1, hD1⟩ := hB
  rw [ht] at hP1
  obtain ⟨hP2, hD2⟩ := va_join hP hD isC isR h1 h2 hn2 hdis2 hk1 hFc hP1 hD1
  rw [hw2] at hP2 hD2
  exact h x H1 locs1 ls hP2 hD2 hS1 hl
theorem g_callSvN (pc : Nat) {C : gT} {cc : ByteArray} {own : String} {R0 : Room} {nL k n : Nat} {ws : va_W} {lv : List (Nat × Value)} {st : List Value} (hC : gOk C cc own R0 nL) {host : String} {y : MethodName} {bytes : ByteArray} {maxL index : Nat} {ret : Option FieldType} {rm : Room} {As : List Value} {wi : va_W} {X : Type} {wo : X → va_W} {stk : List Value} (hM : Cv (g_l C) (g_D C) (g_K C) y (g_wd y bytes maxL ret) rm As wi wo) (hm1 : Cond.code y bytes maxL ret ∈ g_tbl) (hm2 : Cond.initialized y.cls ∈ g_tbl) (hm3 : Cond.methodLinkNest own index y host ∈ g_tbl) (hm4 : Cond.static y ∈ g_tbl) (na : Nat) (hna : As.length = na) (hdd : y.cls ≠ "java/lang/invoke/MethodHandle" ∧ y.cls ≠ "java/lang/invoke/VarHandle" ∧ (parseMethodDescriptor y.desc).map (fun d => d.parameters.length) = some na) (hR : rm.frames + 1 ≤ R0.frames ∧ 8 + (maxL + 11) + rm.locals ≤ R0.locals) (isC isR : List Nat) (wr : va_W) (hn1 : va_nd isC = true) (h1 : isC.map (fun i => ws[i]?) = wi.map some) (hn2 : va_nd isR = true) (h2 : isR.map (fun i => ws[i]?) = wr.map some) (hdis : isR.all (fun i => !isC.contains i) = true) (hst : stk = As.reverse ++ st) (hro : (st.map fun v => v.category).sum ≤ 8) (hf : k + rm.cells ≤ R0.cells ∧ n + rm.slots ≤ R0.slots) (w2 : X → va_W) (hw2 : ∀ x, wr ++ wo x = w2 x) (hd : decode cc pc = .ok (.invokestatic index, 3)) (k2 n2 : Nat) (hk2 : k + rm.cells = k2) (hs2 : n + rm.slots = n2) (h : ∀ x : X, gAt C k2 n2 (w2 x) lv (pc + 3) st) : gAt C k n ws lv pc stk := by
  obtain ⟨hx, hb, hml, hown, hts, hK, hA, hR0, hnL, hO⟩ := hC
  subst hna
  subst hst
  subst hk2
  subst hs2
  intro H locs ls hP hD hS hl
  have hPc := va_Psub hP isC h1
  have hDc := hD.sub isC hn1 h1
  have hFc := va_free (wc := wi) hD hS hA isC h1
  have hdis2 : ∀ i ∈ isR, i ∉ isC := fun i hi hc => by have h9 := List.all_eq_true.mp hdis i hi; simp [hc] at h9
  have hG : GoodIn g_tbl (g_wd y bytes maxL ret) := g_good hm1
  rw [← hR0] at hR hf
  refine va_callv (va_runSN (As := As) (rest := st) (Ts := g_tbl) (own := own) (nL := g_n C) ⟨hx, hb, hml, hown, hts⟩ (hM H.size) ⟨va_cnB As.length hts hG rfl rfl rfl (hts _ hm3) (hts _ hm2) hdd hR, hts _ hm4, trivial⟩ ⟨fun a U g mk q => by obtain ⟨q0, q1, qP, qK, qD, qO⟩ := q; exact ⟨q0, q1, qP, va_K.moved (u := U) (U := U.calling g mk a) (Vm.Alike.refl U.vm) qK, qD, va_AO.moved (u := U) (U := U.calling g mk a) (Vm.Alike.refl U.vm) qO⟩, fun U hU hW => ⟨rfl, by rw [hU], by rw [hU]; exact hPc, va_K.moved hW.alike hK, hDc.weaken (fun _ _ _ _ => trivial), va_AO.moved hW.alike hO⟩⟩ rfl rfl hl.1 rfl (lv_room hro) hd hf) hS (fun q _ h => hFc q h) hFc (fun x t H1 locs1 ht hvm hw hB hz1 hk1 hS1 => ?_)
  obtain ⟨hP1, hD1⟩ := hB
  rw [ht] at hP1
  obtain ⟨hP2, hD2⟩ := va_join hP hD isC isR h1 h2 hn2 hdis2 hk1 hFc hP1 hD1
  rw [hw2] at hP2 hD2
  exact h x H1 locs1 ls hP2 hD2 hS1 hl
theorem g_callI (pc : Nat) {C : gT} {cc : ByteArray} {own : String} {R0 : Room} {nL k n : Nat} {ws : va_W} {lv : List (Nat × Value)} {st : List Value} (hC : gOk C cc own R0 nL) {y : MethodName} {bytes : ByteArray} {maxL index : Nat} {rm : Room} {b : Nat} {As : List Value} {wi : va_W} {X : Type} {wo : X → va_W} {stk : List Value} (hM : Cv (g_l C) (g_D C) (g_K C) y (g_wd y bytes maxL none) rm (.ref b :: As) wi wo) (hm1 : Cond.code y bytes maxL none ∈ g_tbl) (hm2 : Cond.initialized y.cls ∈ g_tbl) (hm3 : Cond.methodLink own index y ∈ g_tbl) (hm4 : Cond.instanceMethod y ∈ g_tbl) (hy1 : y.name = "<init>") (na : Nat) (hna : As.length = na) (hdd : y.cls ≠ "java/lang/invoke/MethodHandle" ∧ y.cls ≠ "java/lang/invoke/VarHandle" ∧ (parseMethodDescriptor y.desc).map (fun d => d.parameters.length) = some na) (hR : rm.frames + 1 ≤ R0.frames ∧ 8 + (maxL + 11) + rm.locals ≤ R0.locals) (isC isR : List Nat) (wr : va_W) (hn1 : va_nd isC = true) (h1 : isC.map (fun i => ws[i]?) = wi.map some) (hn2 : va_nd isR = true) (h2 : isR.map (fun i => ws[i]?) = wr.map some) (hdis : isR.all (fun i => !isC.contains i) = true) (hst : stk = As.reverse ++ .ref b :: st) (hro : (st.map fun v => v.category).sum ≤ 8) (hf : k + rm.cells ≤ R0.cells ∧ n + rm.slots ≤ R0.slots) (w2 : X → va_W) (hw2 : ∀ x, wr ++ wo x = w2 x) (hd : decode cc pc = .ok (.invokespecial index, 3)) (k2 n2 : Nat) (hk2 : k + rm.cells = k2) (hs2 : n + rm.slots = n2) (h : ∀ x : X, gAt C k2 n2 (w2 x) lv (pc + 3) st) : gAt C k n ws lv pc stk := by
  obtain ⟨hx, hb, hml, hown, hts, hK, hA, hR0, hnL, hO⟩ := hC
  subst hna
  subst hst
  subst hk2
  subst hs2
  intro H locs ls hP hD hS hl
  have hPc := va_Psub hP isC h1
  have hDc := hD.sub isC hn1 h1
  have hFc := va_free (wc := wi) hD hS hA isC h1
  have hdis2 : ∀ i ∈ isR, i ∉ isC := fun i hi hc => by have h9 := List.all_eq_true.mp hdis i hi; simp [hc] at h9
  have hG : GoodIn g_tbl (g_wd y bytes maxL none) := g_good hm1
  rw [← hR0] at hR hf
  refine va_callv (va_runI (As := As) (rest := st) (Ts := g_tbl) (own := own) (nL := g_n C) ⟨hx, hb, hml, hown, hts⟩ (hM H.size) ⟨callB_of As.length hts hG rfl rfl rfl (hts _ hm2) (hts _ hm3) hdd hR, hy1, hts _ hm4⟩ ⟨fun a U g mk q => by obtain ⟨q0, q1, qP, qK, qD, qO⟩ := q; exact ⟨q0, q1, qP, va_K.moved (u := U) (U := U.calling g mk a) (Vm.Alike.refl U.vm) qK, qD, va_AO.moved (u := U) (U := U.calling g mk a) (Vm.Alike.refl U.vm) qO⟩, fun U hU hW => ⟨rfl, by rw [hU], by rw [hU]; exact hPc, va_K.moved hW.alike hK, hDc.weaken (fun _ _ _ _ => trivial), va_AO.moved hW.alike hO⟩⟩ rfl rfl hl.1 rfl (lv_room hro) hd hf) hS (fun q _ h => hFc q h) hFc (fun x t H1 locs1 ht hvm hw hB hz1 hk1 hS1 => ?_)
  obtain ⟨hP1, hD1⟩ := hB
  rw [ht] at hP1
  obtain ⟨hP2, hD2⟩ := va_join hP hD isC isR h1 h2 hn2 hdis2 hk1 hFc hP1 hD1
  rw [hw2] at hP2 hD2
  exact h x H1 locs1 ls hP2 hD2 hS1 hl
theorem g_callIN (pc : Nat) {C : gT} {cc : ByteArray} {own : String} {R0 : Room} {nL k n : Nat} {ws : va_W} {lv : List (Nat × Value)} {st : List Value} (hC : gOk C cc own R0 nL) {host : String} {y : MethodName} {bytes : ByteArray} {maxL index : Nat} {rm : Room} {b : Nat} {As : List Value} {wi : va_W} {X : Type} {wo : X → va_W} {stk : List Value} (hM : Cv (g_l C) (g_D C) (g_K C) y (g_wd y bytes maxL none) rm (.ref b :: As) wi wo) (hm1 : Cond.code y bytes maxL none ∈ g_tbl) (hm2 : Cond.initialized y.cls ∈ g_tbl) (hm3 : Cond.methodLinkNest own index y host ∈ g_tbl) (hm4 : Cond.instanceMethod y ∈ g_tbl) (hy1 : y.name = "<init>") (na : Nat) (hna : As.length = na) (hdd : y.cls ≠ "java/lang/invoke/MethodHandle" ∧ y.cls ≠ "java/lang/invoke/VarHandle" ∧ (parseMethodDescriptor y.desc).map (fun d => d.parameters.length) = some na) (hR : rm.frames + 1 ≤ R0.frames ∧ 8 + (maxL + 11) + rm.locals ≤ R0.locals) (isC isR : List Nat) (wr : va_W) (hn1 : va_nd isC = true) (h1 : isC.map (fun i => ws[i]?) = wi.map some) (hn2 : va_nd isR = true) (h2 : isR.map (fun i => ws[i]?) = wr.map some) (hdis : isR.all (fun i => !isC.contains i) = true) (hst : stk = As.reverse ++ .ref b :: st) (hro : (st.map fun v => v.category).sum ≤ 8) (hf : k + rm.cells ≤ R0.cells ∧ n + rm.slots ≤ R0.slots) (w2 : X → va_W) (hw2 : ∀ x, wr ++ wo x = w2 x) (hd : decode cc pc = .ok (.invokespecial index, 3)) (k2 n2 : Nat) (hk2 : k + rm.cells = k2) (hs2 : n + rm.slots = n2) (h : ∀ x : X, gAt C k2 n2 (w2 x) lv (pc + 3) st) : gAt C k n ws lv pc stk := by
  obtain ⟨hx, hb, hml, hown, hts, hK, hA, hR0, hnL, hO⟩ := hC
  subst hna
  subst hst
  subst hk2
  subst hs2
  intro H locs ls hP hD hS hl
  have hPc := va_Psub hP isC h1
  have hDc := hD.sub isC hn1 h1
  have hFc := va_free (wc := wi) hD hS hA isC h1
  have hdis2 : ∀ i ∈ isR, i ∉ isC := fun i hi hc => by have h9 := List.all_eq_true.mp hdis i hi; simp [hc] at h9
  have hG : GoodIn g_tbl (g_wd y bytes maxL none) := g_good hm1
  rw [← hR0] at hR hf
  refine va_callv (va_runIN (As := As) (rest := st) (Ts := g_tbl) (own := own) (nL := g_n C) ⟨hx, hb, hml, hown, hts⟩ (hM H.size) ⟨va_cnB As.length hts hG rfl rfl rfl (hts _ hm3) (hts _ hm2) hdd hR, hy1, hts _ hm4⟩ ⟨fun a U g mk q => by obtain ⟨q0, q1, qP, qK, qD, qO⟩ := q; exact ⟨q0, q1, qP, va_K.moved (u := U) (U := U.calling g mk a) (Vm.Alike.refl U.vm) qK, qD, va_AO.moved (u := U) (U := U.calling g mk a) (Vm.Alike.refl U.vm) qO⟩, fun U hU hW => ⟨rfl, by rw [hU], by rw [hU]; exact hPc, va_K.moved hW.alike hK, hDc.weaken (fun _ _ _ _ => trivial), va_AO.moved hW.alike hO⟩⟩ rfl rfl hl.1 rfl (lv_room hro) hd hf) hS (fun q _ h => hFc q h) hFc (fun x t H1 locs1 ht hvm hw hB hz1 hk1 hS1 => ?_)
  obtain ⟨hP1, hD1⟩ := hB
  rw [ht] at hP1
  obtain ⟨hP2, hD2⟩ := va_join hP hD isC isR h1 h2 hn2 hdis2 hk1 hFc hP1 hD1
  rw [hw2] at hP2 hD2
  exact h x H1 locs1 ls hP2 hD2 hS1 hl
