/-! THE LAW's START: the tables' classes, the throw's words, the first state; the state stays sound -/
theorem law_K {args : Array Value} {s : State} (hts : ∀ w ∈ g_tbl, w.before args s = true) (hO : va_AO "RotationPress$CodeTable" s) : ∃ (D : va_G) (K : Nat → ClassId), va_K D vwCl (tyA K) s := by
  obtain ⟨c0, i0, h0⟩ := u_known (n := 6) hts i_Press (hts (.instantiable "RotationPress" 6) (by decide +kernel))
  obtain ⟨c1, i1, h1⟩ := u_known (n := 6) hts i_BitReader (hts (.instantiable "RotationPress$BitReader" 6) (by decide +kernel))
  obtain ⟨c2, i2, h2⟩ := u_known (n := 4) hts i_BitWriter (hts (.instantiable "RotationPress$BitWriter" 4) (by decide +kernel))
  obtain ⟨c3, i3, h3⟩ := u_known (n := 14) hts i_Block (hts (.instantiable "RotationPress$Block" 14) (by decide +kernel))
  obtain ⟨c4, i4, h4⟩ := u_known (n := 2) hts i_ByteRow (hts (.instantiable "RotationPress$ByteRow" 2) (by decide +kernel))
  obtain ⟨c5, i5, h5⟩ := u_known (n := 2) hts i_Check (hts (.instantiable "RotationPress$Check" 2) (by decide +kernel))
  obtain ⟨c6, i6, h6⟩ := u_known (n := 8) hts i_CodeTable (hts (.instantiable "RotationPress$CodeTable" 8) (by decide +kernel))
  obtain ⟨c7, i7, h7⟩ := u_known (n := 5) hts i_Coder (hts (.instantiable "RotationPress$Coder" 5) (by decide +kernel))
  obtain ⟨c8, i8, h8⟩ := u_known (n := 2) hts i_FrontList (hts (.instantiable "RotationPress$FrontList" 2) (by decide +kernel))
  obtain ⟨c9, i9, h9⟩ := u_known (n := 10) hts i_Packer (hts (.instantiable "RotationPress$Packer" 10) (by decide +kernel))
  obtain ⟨c10, i10, h10⟩ := u_known (n := 6) hts i_Rotations (hts (.instantiable "RotationPress$Rotations" 6) (by decide +kernel))
  obtain ⟨c11, i11, h11⟩ := u_known (n := 19) hts i_Unpacker (hts (.instantiable "RotationPress$Unpacker" 19) (by decide +kernel))
  obtain ⟨c12, i12, h12⟩ := u_known (n := 46) hts i_Model (hts (.instantiable "RotationPressModel" 46) (by decide +kernel))
  obtain ⟨aI, kI, mI, a1, a2, a3⟩ := Cond.arrayClass_spec (hts (.arrayClass .int) (by decide +kernel))
  obtain ⟨aB, kB, mB, b1, b2, b3⟩ := Cond.arrayClass_spec (hts (.arrayClass .byte) (by decide +kernel))
  obtain ⟨aL, kL, mL, l1, l2, l3⟩ := Cond.arrayClass_spec (hts (.arrayClass .long) (by decide +kernel))
  obtain ⟨mR, aR, kR, r1, -, r2, r3, r4⟩ := Cond.arrayOver_spec hO
  refine ⟨(pick 0 [c0, c1, c2, c3, c4, c5, c6, c7, c8, c9, c10, c11, c12], pick (fun _ => 0) [i0, i1, i2, i3, i4, i5, i6, i7, i8, i9, i10, i11, i12]), pick 0 [aI, aB, aL, aR], fun c q hq => ?_, fun k q hk => ?_⟩
  · have hc : c < 13 := (List.getElem?_eq_some_iff.mp hq).1
    rcases (by omega : c = 0 ∨ c = 1 ∨ c = 2 ∨ c = 3 ∨ c = 4 ∨ c = 5 ∨ c = 6 ∨ c = 7 ∨ c = 8 ∨ c = 9 ∨ c = 10 ∨ c = 11 ∨ c = 12) with rfl | rfl | rfl | rfl | rfl | rfl | rfl | rfl | rfl | rfl | rfl | rfl | rfl
    · cases hq
      exact h0
    · cases hq
      exact h1
    · cases hq
      exact h2
    · cases hq
      exact h3
    · cases hq
      exact h4
    · cases hq
      exact h5
    · cases hq
      exact h6
    · cases hq
      exact h7
    · cases hq
      exact h8
    · cases hq
      exact h9
    · cases hq
      exact h10
    · cases hq
      exact h11
    · cases hq
      exact h12
  · have hc : k < 4 := (List.getElem?_eq_some_iff.mp hk).1
    rcases (by omega : k = 0 ∨ k = 1 ∨ k = 2 ∨ k = 3) with rfl | rfl | rfl | rfl
    · cases hk
      exact ⟨fun N z => ⟨(fun k h => by cases h), kI, a2, mI, a3⟩, a1⟩
    · cases hk
      exact ⟨fun N z => ⟨(fun k h => by cases h), kB, b2, mB, b3⟩, b1⟩
    · cases hk
      exact ⟨fun N z => ⟨(fun k h => by cases h), kL, l2, mL, l3⟩, l1⟩
    · cases hk
      exact ⟨fun N z => ⟨(fun k h => by cases h), kR, r2, mR, r3⟩, kR, mR, r2, r3, r1, r4⟩
theorem law_TS {b : Nat} {s : State} (hts : ∀ w ∈ lw_tbl, w.before #[Value.ref b] s = true) (hg : (Jvm.Cond.and given_1 narrow_1).before #[Value.ref b] s = true) : TS s := by
  have hs := flat_of_before _ hg
  have h : ∀ w ∈ tsW, w.before #[Value.ref b] s = true := by
    have h1 : ∀ w ∈ tsW, w ∈ lw_tbl ∨ w = .isRef (.static "java/lang/Throwable" "UNASSIGNED_STACK" "[Ljava/lang/StackTraceElement;") ∨ w = .isRef (.static "java/lang/Throwable" "SUPPRESSED_SENTINEL" "Ljava/util/List;") := by decide +kernel
    intro w hw
    rcases h1 w hw with h2 | rfl | rfl
    · exact hts w h2
    · exact hs _ (by decide +kernel)
    · exact hs _ (by decide +kernel)
  have h2 : ∀ q ∈ tsS, Cond.stringRef "RotationPress" q.1 q.2 ∈ lw_tbl := by decide +kernel
  exact ⟨Jvm.Free.rideK_all (State.WarmedH.refl s) (fun _ _ hy _ => hy) tsW_rides h, fun q hq => str_ride (State.WarmedH.refl s) (hts _ (h2 q hq)), nc_ride (State.WarmedH.refl s) (hs nCast (by decide +kernel))⟩
/-- the first state: nothing on the tape, nothing in the out, no fault, no packing -/
noncomputable def s0 : ST := (0, (fun _ => 0), 0, (fun _ => 0), (-1 : Int32), (sbeg 1, (0 : Int32), 0, 0, 0, 0, (fun _ => 0), 0, (0 : Int32)), false)
theorem s0_ok : stOk s0 := ⟨Nat.zero_le _, (fun j hj => absurd hj (Nat.not_lt_zero _)), Nat.zero_le _, (fun j hj => absurd hj (Nat.not_lt_zero _)), ⟨fun _ => ⟨rfl, rfl, rfl⟩, Nat.zero_le _, fun h => absurd h (Nat.lt_irrefl _)⟩, fun h => by cases h⟩
theorem press_init : Press_init_f = some (tbr chkT (fun _ => 0) 256, tbr chkT (fun _ => 0) 256) := by
  unfold Press_init_f Packer_init_f Unpacker_init_f
  rw [chk_init]
  rfl
theorem tbr_at {j : Nat} (hj : j < 256) : tbr chkT (fun _ => 0) 256 j = chkT j := by
  unfold tbr
  rw [if_pos hj]
theorem CX_init {K : Nat → ClassId} {a : Nat → Nat} {ae : Nat → Nat → Nat} {n : Nat → Nat} {F : Nat → Nat → Int32} {Fe : Nat → Nat → Nat → Int32} {z : Nat → Int32} {ze : Nat → Nat → Int32} (h : FX s0 16384 n F Fe z ze) : CX K (a 0) s0 16384 (WX K a ae n F Fe z ze) := ⟨a, ae, n, F, Fe, z, ze, rfl, rfl, h⟩
theorem Ox_init (l : Launch) (D : va_G) (K : Nat → ClassId) (q : Nat) : Cv l D K y_Press_init (g_wd y_Press_init b_Press_init 3 none) { frames := 4, cells := 129, slots := 67808, locals := 93 } [.ref q] [(q, .inr (0, [.null, .null, .null, .null, .int (0 : Int32), .int (0 : Int32)]))] (fun x : {v : va_W // CX K q s0 16384 v} => x.1) := by
  refine Cv_re (X_init l D K q _ press_init) (fun x => ⟨⟨_, _, _, _, _, _, _, _, rfl, (by rfl), ?_⟩, rfl⟩)
  refine ⟨⟨rfl, rfl, Nat.zero_le _, Nat.le_refl _, by omega⟩, ⟨rfl, fun j hj => absurd hj (Nat.not_lt_zero _)⟩, ⟨rfl, fun j hj => absurd hj (Nat.not_lt_zero _)⟩, ⟨rfl, rfl⟩, ⟨fun j hj => tbr_at hj, fun j hj => tbr_at hj⟩, ⟨rfl, rfl⟩, ⟨rfl, rfl, rfl, rfl, fun h => absurd h (Nat.lt_irrefl _), fun _ => rfl, fun _ => rfl⟩, fun t _ => ⟨rfl, rfl⟩⟩
theorem Om_init (l : Launch) (D : va_G) (K : Nat → ClassId) (q : Nat) : ∃ fs : List Value, Cv l D K y_Model_init (g_wd y_Model_init b_Model_init 1 none) { frames := 1, cells := 20, slots := 330954, locals := 30 } [.ref q] [(q, .inr (12, fs))] (fun x : {v : va_W // CM K q s0 0 v} => x.1) ∧ fs = [.null, .int (0 : Int32), .null, .int (0 : Int32), .int (0 : Int32), .int (0 : Int32), .null, .int (0 : Int32), .null, .null, .null, .null, .null, .int (0 : Int32), .null, .int (0 : Int32), .null, .int (0 : Int32), .int (0 : Int32), .null, .null, .null, .null, .null, .int (0 : Int32), .int (0 : Int32), .int (0 : Int32), .int (0 : Int32), .int (0 : Int32), .int (0 : Int32), .int (0 : Int32), .int (0 : Int32), .int (0 : Int32), .int (0 : Int32), .int (0 : Int32), .null, .null, .int (0 : Int32), .null, .int (0 : Int32), .null, .null, .int (0 : Int32), .int (0 : Int32), .int (0 : Int32), .int (0 : Int32)] := by
  refine ⟨_, Cv_re (M_init l D K q () rfl) (fun x => ⟨⟨_, _, _, _, rfl, (by rfl), ?_⟩, rfl⟩), rfl⟩
  exact ⟨⟨rfl, fun j hj => absurd hj (Nat.not_lt_zero _)⟩, ⟨rfl, fun j hj => absurd hj (Nat.not_lt_zero _)⟩, rfl, rfl, ⟨(fun h => (by cases h)), fun _ => Or.inl rfl⟩, ⟨rfl, rfl, rfl, rfl⟩, fun h => absurd h (Nat.lt_irrefl _)⟩
theorem feed_ok {s : ST} {p1 p2 p3 p4 p5 : Int32} (hs : stOk s) (hc : s.F ≤ 10220) : stOk (sFeed s p1 p2 p3 p4 p5) := by
  refine ⟨show s.F + 20 ≤ 10240 by omega, fun j hj => ?_, hs.2.2⟩
  show (if j < s.F then s.T j else fdB p1 p2 p3 p4 p5 (j - s.F)) < 256
  by_cases h : j < s.F
  · rw [if_pos h]
    exact hs.2.1 j h
  · rw [if_neg h]
    exact fdB_lt _ _ _ _ _ _
theorem end_ok {s : ST} {i : Nat} (hs : stOk s) (hi : i ≤ s.F) : stOk (sEnd s i) := ⟨Nat.le_trans hi hs.1, (fun j hj => hs.2.1 j (Nat.lt_of_lt_of_le hj hi)), hs.2.2⟩
theorem alter_ok {s : ST} {i b : Nat} (hs : stOk s) (hb : b < 256) : stOk (sAlter s i b) := by
  refine ⟨hs.1, fun j hj => ?_, hs.2.2⟩
  show (if j = i then b else s.T j) < 256
  by_cases h : j = i
  · rw [if_pos h]
    exact hb
  · rw [if_neg h]
    exact hs.2.1 j hj
theorem copy_ok {s : ST} (hs : stOk s) (hm : s.M ≤ 10240) : stOk (sCopy s) := ⟨hm, hs.2.2.2.1, hs.2.2⟩
theorem pin_F {tp : Nat → Nat} {F lv : Nat} (hF : F ≤ 10240) (h1 : 1 ≤ lv) (h9 : lv ≤ 9) (ht : ∀ j, j < F → tp j < 256) : pin F F (PA tp F lv) := by
  obtain ⟨x1, x2, x3, x4, x5, x6, x7, x8, x9, y1, y2, y3, y4, y5, y6, y7, y8, y9, z1, z2, z3, z4, z5, z6, z7, z8, z9, u1, u2, u3, u4, u5, u6, u7, u8, u9, v1, v2, v3, v4, v5, v6, v7, v8, v9, -, -, -, hp⟩ := packFile_c (tp := tp) (F := F) (nb := 10240) (lv := lv) (nr := 1) (fb := fun j => nI (tp j)) (lvs := chkT) (fr := fun _ => 0) (tcn := 0) (ckb := 0) (bck := 0) (told := fun _ => 0) (sl := fun _ => 0) (od := fun _ => 0) (ra := 0) (rk := fun _ => 0) (odn := fun _ => 0) (rkn := fun _ => 0) (last := fun _ => 0) (og := 0) (used := fun _ => 0) (lc := 0) (mem := fun _ => 0) (ups := fun _ => 0) (sc := 0) (sy := fun _ => 0) (gc := 0) (tn := 0) (gt := fun _ => 0) (wt := fun _ => 0) (slc := fun _ => 0) (sd := fun _ => 0) (sm0 := fun _ => 0) (dp := fun _ => 0) (Lf := fun _ _ => 0) (ki := fun _ => 0) (co := fun _ _ => 0) (fi := fun _ => 0) (fs := fun _ _ => 0) (pl := fun _ _ => 0) (cd := fun _ _ => 0) (so := fun _ _ => 0) (tlc := 0) (tlm := fun _ => 0) hF (by omega) hF h1 h9 (fun _ _ => rfl) (fun j hj => ⟨rfl, ht j hj⟩) (Nat.le_refl _) (by omega) (fun _ => rfl) (fun _ => rfl)
  exact hp
theorem pack_ok {s : ST} {lv : Nat} (hs : stOk s) (h1 : 1 ≤ lv) (h9 : lv ≤ 9) : stOk (sPack s lv) := by
  have hp := pin_F hs.1 h1 h9 hs.2.1
  obtain ⟨b1, b2, b3, b4⟩ := PS_b hs.1 hp
  have hA := PA_ok hs.2.1 hs.1 h1 h9 hp
  unfold sPack
  generalize PS s.T s.F lv = ps at *
  generalize PA s.T s.F lv = pa at *
  exact ⟨Nat.zero_le _, (fun j hj => absurd hj (Nat.not_lt_zero _)), b4, b1.2.2, hA, fun h => of_decide_eq_true h⟩
theorem unpack_ok {s : ST} {lim : Nat} (hs : stOk s) (hl : lim ≤ 60000) : stOk (sUnpack s lim) := by
  unfold sUnpack
  cases hU : UP1 s.T s.F lim with
  | inl e => exact ⟨Nat.zero_le _, (fun j hj => absurd hj (Nat.not_lt_zero _)), Nat.zero_le _, (fun j hj => absurd hj (Nat.not_lt_zero _)), hs.2.2.2.2.1, (fun h => (by cases h))⟩
  | inr v =>
    obtain ⟨m, w⟩ := v
    obtain ⟨h1, h2⟩ := UP1_b hU
    exact ⟨Nat.zero_le _, (fun j hj => absurd hj (Nat.not_lt_zero _)), (show m ≤ 218013 by omega), h2, hs.2.2.2.2.1, (fun h => (by cases h))⟩
